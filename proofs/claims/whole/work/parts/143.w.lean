theorem dX8_monogram_0 : decode cX8_monogram 0 = .ok (.aload_n 0, 1) := by decide +kernel
theorem dX8_monogram_1 : decode cX8_monogram 1 = .ok (.iconst 0, 1) := by decide +kernel
theorem dX8_monogram_2 : decode cX8_monogram 2 = .ok (.putfield 1, 3) := by decide +kernel
theorem dX8_monogram_5 : decode cX8_monogram 5 = .ok (.iload_n 2, 1) := by decide +kernel
theorem dX8_monogram_6 : decode cX8_monogram 6 = .ok (.ifCond .eq 24, 3) := by decide +kernel
theorem dX8_monogram_9 : decode cX8_monogram 9 = .ok (.iload_n 2, 1) := by decide +kernel
theorem dX8_monogram_10 : decode cX8_monogram 10 = .ok (.bipush 10, 2) := by decide +kernel
theorem dX8_monogram_12 : decode cX8_monogram 12 = .ok (.if_icmp .lt 15, 3) := by decide +kernel
theorem dX8_monogram_15 : decode cX8_monogram 15 = .ok (.aload_n 0, 1) := by decide +kernel
theorem dX8_monogram_16 : decode cX8_monogram 16 = .ok (.iload_n 2, 1) := by decide +kernel
theorem dX8_monogram_17 : decode cX8_monogram 17 = .ok (.bipush 10, 2) := by decide +kernel
theorem dX8_monogram_19 : decode cX8_monogram 19 = .ok (.isub, 1) := by decide +kernel
theorem dX8_monogram_20 : decode cX8_monogram 20 = .ok (.i2l, 1) := by decide +kernel
theorem dX8_monogram_21 : decode cX8_monogram 21 = .ok (.invokevirtual 219, 3) := by decide +kernel
theorem dX8_monogram_24 : decode cX8_monogram 24 = .ok (.ifCond .ne 6, 3) := by decide +kernel
theorem dX8_monogram_27 : decode cX8_monogram 27 = .ok (.bipush (-2), 2) := by decide +kernel
theorem dX8_monogram_29 : decode cX8_monogram 29 = .ok (.ireturn, 1) := by decide +kernel
theorem dX8_monogram_30 : decode cX8_monogram 30 = .ok (.aload_n 0, 1) := by decide +kernel
theorem dX8_monogram_31 : decode cX8_monogram 31 = .ok (.iload_n 1, 1) := by decide +kernel
theorem dX8_monogram_32 : decode cX8_monogram 32 = .ok (.invokevirtual 409, 3) := by decide +kernel
theorem dX8_monogram_35 : decode cX8_monogram 35 = .ok (.ifCond .eq 18, 3) := by decide +kernel
theorem dX8_monogram_38 : decode cX8_monogram 38 = .ok (.iload_n 1, 1) := by decide +kernel
theorem dX8_monogram_39 : decode cX8_monogram 39 = .ok (.invokestatic 233, 3) := by decide +kernel
theorem dX8_monogram_42 : decode cX8_monogram 42 = .ok (.i2l, 1) := by decide +kernel
theorem dX8_monogram_43 : decode cX8_monogram 43 = .ok (.lconst 1, 1) := by decide +kernel
theorem dX8_monogram_44 : decode cX8_monogram 44 = .ok (.ldc2_w 412, 3) := by decide +kernel
theorem dX8_monogram_47 : decode cX8_monogram 47 = .ok (.invokestatic 154, 3) := by decide +kernel
theorem dX8_monogram_50 : decode cX8_monogram 50 = .ok (.ifCond .ne 6, 3) := by decide +kernel
theorem dX8_monogram_53 : decode cX8_monogram 53 = .ok (.bipush (-3), 2) := by decide +kernel
theorem dX8_monogram_55 : decode cX8_monogram 55 = .ok (.ireturn, 1) := by decide +kernel
theorem dX8_monogram_56 : decode cX8_monogram 56 = .ok (.aload_n 0, 1) := by decide +kernel
theorem dX8_monogram_57 : decode cX8_monogram 57 = .ok (.iload_n 1, 1) := by decide +kernel
theorem dX8_monogram_58 : decode cX8_monogram 58 = .ok (.invokevirtual 247, 3) := by decide +kernel
theorem dX8_monogram_61 : decode cX8_monogram 61 = .ok (.istore_n 3, 1) := by decide +kernel
theorem dX8_monogram_62 : decode cX8_monogram 62 = .ok (.iload_n 2, 1) := by decide +kernel
theorem dX8_monogram_63 : decode cX8_monogram 63 = .ok (.ifCond .ne 5, 3) := by decide +kernel
theorem dX8_monogram_66 : decode cX8_monogram 66 = .ok (.iload_n 3, 1) := by decide +kernel
theorem dX8_monogram_67 : decode cX8_monogram 67 = .ok (.ireturn, 1) := by decide +kernel
theorem dX8_monogram_68 : decode cX8_monogram 68 = .ok (.iload_n 1, 1) := by decide +kernel
theorem dX8_monogram_69 : decode cX8_monogram 69 = .ok (.i2l, 1) := by decide +kernel
theorem dX8_monogram_70 : decode cX8_monogram 70 = .ok (.iload_n 2, 1) := by decide +kernel
theorem dX8_monogram_71 : decode cX8_monogram 71 = .ok (.bipush 10, 2) := by decide +kernel
theorem dX8_monogram_73 : decode cX8_monogram 73 = .ok (.isub, 1) := by decide +kernel
theorem dX8_monogram_74 : decode cX8_monogram 74 = .ok (.invokestatic 223, 3) := by decide +kernel
theorem dX8_monogram_77 : decode cX8_monogram 77 = .ok (.ifCond .ne 5, 3) := by decide +kernel
theorem dX8_monogram_80 : decode cX8_monogram 80 = .ok (.iconst (-1), 1) := by decide +kernel
theorem dX8_monogram_81 : decode cX8_monogram 81 = .ok (.ireturn, 1) := by decide +kernel
theorem dX8_monogram_82 : decode cX8_monogram 82 = .ok (.aload_n 0, 1) := by decide +kernel
theorem dX8_monogram_83 : decode cX8_monogram 83 = .ok (.getfield 39, 3) := by decide +kernel
theorem dX8_monogram_86 : decode cX8_monogram 86 = .ok (.iload_n 1, 1) := by decide +kernel
theorem dX8_monogram_87 : decode cX8_monogram 87 = .ok (.iconst 1, 1) := by decide +kernel
theorem dX8_monogram_88 : decode cX8_monogram 88 = .ok (.iload_n 2, 1) := by decide +kernel
theorem dX8_monogram_89 : decode cX8_monogram 89 = .ok (.bipush 10, 2) := by decide +kernel
theorem dX8_monogram_91 : decode cX8_monogram 91 = .ok (.isub, 1) := by decide +kernel
theorem dX8_monogram_92 : decode cX8_monogram 92 = .ok (.ishl, 1) := by decide +kernel
theorem dX8_monogram_93 : decode cX8_monogram 93 = .ok (.iconst 1, 1) := by decide +kernel
theorem dX8_monogram_94 : decode cX8_monogram 94 = .ok (.isub, 1) := by decide +kernel
theorem dX8_monogram_95 : decode cX8_monogram 95 = .ok (.iand, 1) := by decide +kernel
theorem dX8_monogram_96 : decode cX8_monogram 96 = .ok (.invokestatic 233, 3) := by decide +kernel
theorem dX8_monogram_99 : decode cX8_monogram 99 = .ok (.iaload, 1) := by decide +kernel
theorem dX8_monogram_100 : decode cX8_monogram 100 = .ok (.ireturn, 1) := by decide +kernel
def f_X8_monogram_53  (s : zS) : Option (Int32 × zS) :=
  some ((-3 : Int32), s)
set_option maxRecDepth 20000 in
theorem b_X8_monogram_53 {X : zX} (hX : zx_ok X cX8_monogram RX8 4) (hT : zx_rt X (some .int) (zR 68 1691)) : ∀  (s : zS), zV X (zq X zrI) 4 53 [] [] s (f_X8_monogram_53  s) := by
  intro  s
  unfold f_X8_monogram_53
  refine zv_bipush (v := (-3 : Int32)) hX dX8_monogram_53 zi_b_m3 ?_
  exact zv_ireti hX hT dX8_monogram_55
def f_X8_monogram_30 (v1 : Int32) (v2 : Int32) (s : zS) : Option (Int32 × zS) :=
  zbd (f_X8_isSet v1 s) fun r1 s2 =>
  if r1 = 0 then
  (f_X8_monogram_53 s2)
  else
  zbd (f_X8_bitsOf v1 s2) fun r3 s4 =>
  zbd (f_X8_within (r3.toInt64) (1 : Int64) (4 : Int64) s4) fun r5 s6 =>
  if ¬ r5 = 0 then
  (zbd (f_X8_laysSet v1 s6) fun r7 s8 =>
  if ¬ v2 = 0 then
  (zbd (f_X8_isIn (v1.toInt64) (v2 - (nI 10)) s8) fun r9 s10 =>
  if ¬ r9 = 0 then
  (zbd (f_X8_bitsOf (v1 &&& ((zo_shl (1 : Int32) (v2 - (nI 10))) - (1 : Int32))) s10) fun r11 s12 =>
  (zr_i s12 84 r11).bind fun x13 =>
  some (x13, s12))
  else
  some ((-1 : Int32), s10))
  else
  some (r7, s8))
  else
  f_X8_monogram_53 s6
set_option maxRecDepth 20000 in
theorem b_X8_monogram_30 {X : zX} (hX : zx_ok X cX8_monogram RX8 4) (hT : zx_rt X (some .int) (zR 68 1691)) : ∀ (v1 : Int32) (v2 : Int32) (s : zS), zV X (zq X zrI) 4 30 [(0, .ref (zx_ad X 76)), (1, .int v1), (2, .int v2)] [] s (f_X8_monogram_30 v1 v2 s) := by
  intro v1 v2 s
  unfold f_X8_monogram_30
  refine zv_aload_n hX dX8_monogram_30 0 rfl ?_
  refine zv_iload_n hX dX8_monogram_31 1 rfl ?_
  refine zv_cVI [.int v1] (rest := []) hX hT.2.2.2.2 (c_X8_isSet (zx_Y X) v1 s) wv_X8_isSet c9_8 zd_76 wm_X8_409 rfl (Nat.le_of_ble_eq_true rfl) (Nat.le_of_ble_eq_true rfl) rfl (Nat.le_of_ble_eq_true rfl) dX8_monogram_32 (fun r1 s2 => ?_)
  refine zv_if_eq (tgt := 53) hX dX8_monogram_35 rfl ?_ ?_
  · exact zv_sub [] rfl (b_X8_monogram_53 hX hT  s2)
  · refine zv_iload_n hX dX8_monogram_38 1 rfl ?_
    refine zv_cSI [.int v1] (rest := []) hX hT.2.2.2.2 (c_X8_bitsOf (zx_Y X) v1 s2) wv_X8_bitsOf wm_X8_233 rfl (Nat.le_of_ble_eq_true rfl) (Nat.le_of_ble_eq_true rfl) rfl (Nat.le_of_ble_eq_true rfl) dX8_monogram_39 (fun r3 s4 => ?_)
    refine zv_i2l hX dX8_monogram_42 ?_
    refine zv_lconst (v := (1 : Int64)) hX dX8_monogram_43 zi_l_1 ?_
    refine zv_ldc2 hX wn_X8_412 dX8_monogram_44 ?_
    refine zv_cSI [.long (r3.toInt64), .long (1 : Int64), .long (4 : Int64)] (rest := []) hX hT.2.2.2.2 (c_X8_within (zx_Y X) (r3.toInt64) (1 : Int64) (4 : Int64) s4) wv_X8_within wm_X8_154 rfl (Nat.le_of_ble_eq_true rfl) (Nat.le_of_ble_eq_true rfl) rfl (Nat.le_of_ble_eq_true rfl) dX8_monogram_47 (fun r5 s6 => ?_)
    refine zv_if_ne (tgt := 56) hX dX8_monogram_50 rfl ?_ ?_
    · refine zv_aload_n hX dX8_monogram_56 0 rfl ?_
      refine zv_iload_n hX dX8_monogram_57 1 rfl ?_
      refine zv_cVI [.int v1] (rest := []) hX hT.2.2.2.2 (c_X8_laysSet (zx_Y X) v1 s6) wv_X8_laysSet c9_8 zd_76 wm_X8_247 rfl (Nat.le_of_ble_eq_true rfl) (Nat.le_of_ble_eq_true rfl) rfl (Nat.le_of_ble_eq_true rfl) dX8_monogram_58 (fun r7 s8 => ?_)
      refine zv_istore_n (lv' := [(3, .int r7), (0, .ref (zx_ad X 76)), (1, .int v1), (2, .int v2)]) hX dX8_monogram_61 (by decide) rfl ?_
      refine zv_iload_n hX dX8_monogram_62 3 rfl ?_
      refine zv_if_ne (tgt := 68) hX dX8_monogram_63 rfl ?_ ?_
      · refine zv_iload_n hX dX8_monogram_68 2 rfl ?_
        refine zv_i2l hX dX8_monogram_69 ?_
        refine zv_iload_n hX dX8_monogram_70 3 rfl ?_
        refine zv_bipush (v := (nI 10)) hX dX8_monogram_71 zi_b_10 ?_
        refine zv_isub hX dX8_monogram_73 ?_
        refine zv_cSI [.long (v1.toInt64), .int (v2 - (nI 10))] (rest := []) hX hT.2.2.2.2 (c_X8_isIn (zx_Y X) (v1.toInt64) (v2 - (nI 10)) s8) wv_X8_isIn wm_X8_223 rfl (Nat.le_of_ble_eq_true rfl) (Nat.le_of_ble_eq_true rfl) rfl (Nat.le_of_ble_eq_true rfl) dX8_monogram_74 (fun r9 s10 => ?_)
        refine zv_if_ne (tgt := 82) hX dX8_monogram_77 rfl ?_ ?_
        · refine zv_aload_n hX dX8_monogram_82 1 rfl ?_
          refine zv_geta hX wf_X8_39 wc_8 zd_76 zj_76_19 c9_8 zr_76_19 (by decide) dX8_monogram_83 ?_
          refine zv_iload_n hX dX8_monogram_86 2 rfl ?_
          refine zv_iconst (v := (1 : Int32)) hX dX8_monogram_87 zi_i_1 ?_
          refine zv_iload_n hX dX8_monogram_88 3 rfl ?_
          refine zv_bipush (v := (nI 10)) hX dX8_monogram_89 zi_b_10 ?_
          refine zv_isub hX dX8_monogram_91 ?_
          refine zv_ishl hX dX8_monogram_92 ?_
          refine zv_iconst (v := (1 : Int32)) hX dX8_monogram_93 zi_i_1 ?_
          refine zv_isub hX dX8_monogram_94 ?_
          refine zv_iand hX dX8_monogram_95 ?_
          refine zv_cSI [.int (v1 &&& ((zo_shl (1 : Int32) (v2 - (nI 10))) - (1 : Int32)))] (rest := [.ref (zx_ad X 84)]) hX hT.2.2.2.2 (c_X8_bitsOf (zx_Y X) (v1 &&& ((zo_shl (1 : Int32) (v2 - (nI 10))) - (1 : Int32))) s10) wv_X8_bitsOf wm_X8_233 rfl (Nat.le_of_ble_eq_true rfl) (Nat.le_of_ble_eq_true rfl) rfl (Nat.le_of_ble_eq_true rfl) dX8_monogram_96 (fun r11 s12 => ?_)
          refine zv_iald hX dX8_monogram_99 (fun x13 => ?_)
          exact zv_ireti hX hT dX8_monogram_100
        · refine zv_iconst (v := (-1 : Int32)) hX dX8_monogram_80 zi_i_m1 ?_
          exact zv_ireti hX hT dX8_monogram_81
      · refine zv_iload_n hX dX8_monogram_66 0 rfl ?_
        exact zv_ireti hX hT dX8_monogram_67
    · exact zv_sub [] rfl (b_X8_monogram_53 hX hT  s6)
def f_X8_monogram_27  (s : zS) : Option (Int32 × zS) :=
  some ((-2 : Int32), s)
set_option maxRecDepth 20000 in
theorem b_X8_monogram_27 {X : zX} (hX : zx_ok X cX8_monogram RX8 4) (hT : zx_rt X (some .int) (zR 68 1691)) : ∀  (s : zS), zV X (zq X zrI) 4 27 [] [] s (f_X8_monogram_27  s) := by
  intro  s
  unfold f_X8_monogram_27
  refine zv_bipush (v := (-2 : Int32)) hX dX8_monogram_27 zi_b_m2 ?_
  exact zv_ireti hX hT dX8_monogram_29
def f_X8_monogram (v1 : Int32) (v2 : Int32) (s : zS) : Option (Int32 × zS) :=
  zb (zs_i s 76 0 (0 : Int32)) fun s14 =>
  if v2 = 0 then
  (f_X8_monogram_30 v1 v2 s14)
  else
  if v2 < (nI 10) then
  (f_X8_monogram_27 s14)
  else
  zbd (f_X8_isPerson ((v2 - (nI 10)).toInt64) s14) fun r15 s16 =>
  if ¬ r15 = 0 then
  (f_X8_monogram_30 v1 v2 s16)
  else
  f_X8_monogram_27 s16
set_option maxRecDepth 20000 in
theorem c_X8_monogram (Y : zG) (v1 : Int32) (v2 : Int32) (s : zS) : zM Y yX8_monogram cX8_monogram 4 (some .int) (zR 68 1691) [.ref (zy_a Y 76), .int v1, .int v2] s zrI (f_X8_monogram v1 v2 s) := by
  refine zm_start (by decide +kernel) (Nat.le_of_ble_eq_true rfl) ?_
  intro X hY hT hX
  subst hY
  have hX : zx_ok X cX8_monogram RX8 4 := hX
  show zV X (zq X zrI) 4 0 [(0, .ref (zx_ad X 76)), (1, .int v1), (2, .int v2)] [] s _
  unfold f_X8_monogram
  refine zv_aload_n hX dX8_monogram_0 0 rfl ?_
  refine zv_iconst (v := (0 : Int32)) hX dX8_monogram_1 zi_i_0 ?_
  refine zv_puti hX wf_X8_1 wc_8 wk_8_0 zd_76 zj_76_0 c9_8 zr_76_0 dX8_monogram_2 (fun s14 => ?_)
  refine zv_iload_n hX dX8_monogram_5 2 rfl ?_
  refine zv_if_eq (tgt := 30) hX dX8_monogram_6 rfl ?_ ?_
  · exact b_X8_monogram_30 hX hT v1 v2 s14
  · refine zv_iload_n hX dX8_monogram_9 2 rfl ?_
    refine zv_bipush (v := (nI 10)) hX dX8_monogram_10 zi_b_10 ?_
    refine zv_icmp_lt (tgt := 27) hX dX8_monogram_12 rfl ?_ ?_
    · exact zv_sub [] rfl (b_X8_monogram_27 hX hT  s14)
    · refine zv_aload_n hX dX8_monogram_15 0 rfl ?_
      refine zv_iload_n hX dX8_monogram_16 2 rfl ?_
      refine zv_bipush (v := (nI 10)) hX dX8_monogram_17 zi_b_10 ?_
      refine zv_isub hX dX8_monogram_19 ?_
      refine zv_i2l hX dX8_monogram_20 ?_
      refine zv_cVI [.long ((v2 - (nI 10)).toInt64)] (rest := []) hX hT.2.2.2.2 (c_X8_isPerson (zx_Y X) ((v2 - (nI 10)).toInt64) s14) wv_X8_isPerson c9_8 zd_76 wm_X8_219 rfl (Nat.le_of_ble_eq_true rfl) (Nat.le_of_ble_eq_true rfl) rfl (Nat.le_of_ble_eq_true rfl) dX8_monogram_21 (fun r15 s16 => ?_)
      refine zv_if_ne (tgt := 30) hX dX8_monogram_24 rfl ?_ ?_
      · exact b_X8_monogram_30 hX hT v1 v2 s16
      · exact zv_sub [] rfl (b_X8_monogram_27 hX hT  s16)
theorem dX8_most_0 : decode cX8_most 0 = .ok (.aload_n 0, 1) := by decide +kernel
theorem dX8_most_1 : decode cX8_most 1 = .ok (.iconst 0, 1) := by decide +kernel
theorem dX8_most_2 : decode cX8_most 2 = .ok (.putfield 1, 3) := by decide +kernel
theorem dX8_most_5 : decode cX8_most 5 = .ok (.aload_n 0, 1) := by decide +kernel
theorem dX8_most_6 : decode cX8_most 6 = .ok (.invokevirtual 284, 3) := by decide +kernel
theorem dX8_most_9 : decode cX8_most 9 = .ok (.iconst 1, 1) := by decide +kernel
theorem dX8_most_10 : decode cX8_most 10 = .ok (.istore_n 1, 1) := by decide +kernel
theorem dX8_most_11 : decode cX8_most 11 = .ok (.iload_n 1, 1) := by decide +kernel
theorem dX8_most_12 : decode cX8_most 12 = .ok (.iconst 1, 1) := by decide +kernel
theorem dX8_most_13 : decode cX8_most 13 = .ok (.aload_n 0, 1) := by decide +kernel
theorem dX8_most_14 : decode cX8_most 14 = .ok (.getfield 13, 3) := by decide +kernel
theorem dX8_most_17 : decode cX8_most 17 = .ok (.iconst 1, 1) := by decide +kernel
theorem dX8_most_18 : decode cX8_most 18 = .ok (.iaload, 1) := by decide +kernel
theorem dX8_most_19 : decode cX8_most 19 = .ok (.ishl, 1) := by decide +kernel
theorem dX8_most_20 : decode cX8_most 20 = .ok (.if_icmp .ge 133, 3) := by decide +kernel
theorem dX8_most_23 : decode cX8_most 23 = .ok (.iconst 0, 1) := by decide +kernel
theorem dX8_most_24 : decode cX8_most 24 = .ok (.istore_n 2, 1) := by decide +kernel
theorem dX8_most_25 : decode cX8_most 25 = .ok (.iload_n 1, 1) := by decide +kernel
theorem dX8_most_26 : decode cX8_most 26 = .ok (.i2l, 1) := by decide +kernel
theorem dX8_most_27 : decode cX8_most 27 = .ok (.iload_n 2, 1) := by decide +kernel
theorem dX8_most_28 : decode cX8_most 28 = .ok (.invokestatic 223, 3) := by decide +kernel
theorem dX8_most_31 : decode cX8_most 31 = .ok (.ifCond .ne 9, 3) := by decide +kernel
theorem dX8_most_34 : decode cX8_most 34 = .ok (.iinc 2 1, 3) := by decide +kernel
theorem dX8_most_37 : decode cX8_most 37 = .ok (.goto (-12), 3) := by decide +kernel
theorem dX8_most_40 : decode cX8_most 40 = .ok (.iload_n 1, 1) := by decide +kernel
theorem dX8_most_41 : decode cX8_most 41 = .ok (.iconst 1, 1) := by decide +kernel
theorem dX8_most_42 : decode cX8_most 42 = .ok (.iload_n 2, 1) := by decide +kernel
theorem dX8_most_43 : decode cX8_most 43 = .ok (.ishl, 1) := by decide +kernel
theorem dX8_most_44 : decode cX8_most 44 = .ok (.iconst (-1), 1) := by decide +kernel
theorem dX8_most_45 : decode cX8_most 45 = .ok (.ixor, 1) := by decide +kernel
theorem dX8_most_46 : decode cX8_most 46 = .ok (.iand, 1) := by decide +kernel
theorem dX8_most_47 : decode cX8_most 47 = .ok (.istore_n 3, 1) := by decide +kernel
theorem dX8_most_48 : decode cX8_most 48 = .ok (.aload_n 0, 1) := by decide +kernel
theorem dX8_most_49 : decode cX8_most 49 = .ok (.getfield 66, 3) := by decide +kernel
theorem dX8_most_52 : decode cX8_most 52 = .ok (.iload_n 1, 1) := by decide +kernel
theorem dX8_most_53 : decode cX8_most 53 = .ok (.aload_n 0, 1) := by decide +kernel
theorem dX8_most_54 : decode cX8_most 54 = .ok (.getfield 66, 3) := by decide +kernel
theorem dX8_most_57 : decode cX8_most 57 = .ok (.iload_n 3, 1) := by decide +kernel
theorem dX8_most_58 : decode cX8_most 58 = .ok (.iaload, 1) := by decide +kernel
theorem dX8_most_59 : decode cX8_most 59 = .ok (.iastore, 1) := by decide +kernel
theorem dX8_most_60 : decode cX8_most 60 = .ok (.iload_n 2, 1) := by decide +kernel
theorem dX8_most_61 : decode cX8_most 61 = .ok (.iconst 1, 1) := by decide +kernel
theorem dX8_most_62 : decode cX8_most 62 = .ok (.iadd, 1) := by decide +kernel
theorem dX8_most_63 : decode cX8_most 63 = .ok (.istore 4, 2) := by decide +kernel
theorem dX8_most_65 : decode cX8_most 65 = .ok (.iload 4, 2) := by decide +kernel
theorem dX8_most_67 : decode cX8_most 67 = .ok (.aload_n 0, 1) := by decide +kernel
theorem dX8_most_68 : decode cX8_most 68 = .ok (.getfield 13, 3) := by decide +kernel
theorem dX8_most_71 : decode cX8_most 71 = .ok (.iconst 1, 1) := by decide +kernel
theorem dX8_most_72 : decode cX8_most 72 = .ok (.iaload, 1) := by decide +kernel
theorem dX8_most_73 : decode cX8_most 73 = .ok (.if_icmp .ge 74, 3) := by decide +kernel
theorem dX8_most_76 : decode cX8_most 76 = .ok (.iload_n 3, 1) := by decide +kernel
theorem dX8_most_77 : decode cX8_most 77 = .ok (.i2l, 1) := by decide +kernel
theorem dX8_most_78 : decode cX8_most 78 = .ok (.iload 4, 2) := by decide +kernel
theorem dX8_most_80 : decode cX8_most 80 = .ok (.invokestatic 223, 3) := by decide +kernel
theorem dX8_most_83 : decode cX8_most 83 = .ok (.ifCond .eq 58, 3) := by decide +kernel
theorem dX8_most_86 : decode cX8_most 86 = .ok (.aload_n 0, 1) := by decide +kernel
theorem dX8_most_87 : decode cX8_most 87 = .ok (.iload_n 2, 1) := by decide +kernel
theorem dX8_most_88 : decode cX8_most 88 = .ok (.iload 4, 2) := by decide +kernel
theorem dX8_most_90 : decode cX8_most 90 = .ok (.invokevirtual 280, 3) := by decide +kernel
theorem dX8_most_93 : decode cX8_most 93 = .ok (.ifCond .eq 48, 3) := by decide +kernel
theorem dX8_most_96 : decode cX8_most 96 = .ok (.iconst 1, 1) := by decide +kernel
theorem dX8_most_97 : decode cX8_most 97 = .ok (.aload_n 0, 1) := by decide +kernel
theorem dX8_most_98 : decode cX8_most 98 = .ok (.getfield 66, 3) := by decide +kernel
theorem dX8_most_101 : decode cX8_most 101 = .ok (.iload_n 3, 1) := by decide +kernel
theorem dX8_most_102 : decode cX8_most 102 = .ok (.iconst 1, 1) := by decide +kernel
theorem dX8_most_103 : decode cX8_most 103 = .ok (.iload 4, 2) := by decide +kernel
theorem dX8_most_105 : decode cX8_most 105 = .ok (.ishl, 1) := by decide +kernel
theorem dX8_most_106 : decode cX8_most 106 = .ok (.iconst (-1), 1) := by decide +kernel
theorem dX8_most_107 : decode cX8_most 107 = .ok (.ixor, 1) := by decide +kernel
theorem dX8_most_108 : decode cX8_most 108 = .ok (.iand, 1) := by decide +kernel
theorem dX8_most_109 : decode cX8_most 109 = .ok (.iaload, 1) := by decide +kernel
theorem dX8_most_110 : decode cX8_most 110 = .ok (.iadd, 1) := by decide +kernel
theorem dX8_most_111 : decode cX8_most 111 = .ok (.aload_n 0, 1) := by decide +kernel
theorem dX8_most_112 : decode cX8_most 112 = .ok (.getfield 66, 3) := by decide +kernel
theorem dX8_most_115 : decode cX8_most 115 = .ok (.iload_n 1, 1) := by decide +kernel
theorem dX8_most_116 : decode cX8_most 116 = .ok (.iaload, 1) := by decide +kernel
theorem dX8_most_117 : decode cX8_most 117 = .ok (.if_icmp .le 24, 3) := by decide +kernel
theorem dX8_most_120 : decode cX8_most 120 = .ok (.aload_n 0, 1) := by decide +kernel
theorem dX8_most_121 : decode cX8_most 121 = .ok (.getfield 66, 3) := by decide +kernel
theorem dX8_most_124 : decode cX8_most 124 = .ok (.iload_n 1, 1) := by decide +kernel
theorem dX8_most_125 : decode cX8_most 125 = .ok (.iconst 1, 1) := by decide +kernel
theorem dX8_most_126 : decode cX8_most 126 = .ok (.aload_n 0, 1) := by decide +kernel
theorem dX8_most_127 : decode cX8_most 127 = .ok (.getfield 66, 3) := by decide +kernel
theorem dX8_most_130 : decode cX8_most 130 = .ok (.iload_n 3, 1) := by decide +kernel
theorem dX8_most_131 : decode cX8_most 131 = .ok (.iconst 1, 1) := by decide +kernel
theorem dX8_most_132 : decode cX8_most 132 = .ok (.iload 4, 2) := by decide +kernel
theorem dX8_most_134 : decode cX8_most 134 = .ok (.ishl, 1) := by decide +kernel
theorem dX8_most_135 : decode cX8_most 135 = .ok (.iconst (-1), 1) := by decide +kernel
theorem dX8_most_136 : decode cX8_most 136 = .ok (.ixor, 1) := by decide +kernel
theorem dX8_most_137 : decode cX8_most 137 = .ok (.iand, 1) := by decide +kernel
theorem dX8_most_138 : decode cX8_most 138 = .ok (.iaload, 1) := by decide +kernel
theorem dX8_most_139 : decode cX8_most 139 = .ok (.iadd, 1) := by decide +kernel
theorem dX8_most_140 : decode cX8_most 140 = .ok (.iastore, 1) := by decide +kernel
theorem dX8_most_141 : decode cX8_most 141 = .ok (.iinc 4 1, 3) := by decide +kernel
theorem dX8_most_144 : decode cX8_most 144 = .ok (.goto (-79), 3) := by decide +kernel
theorem dX8_most_147 : decode cX8_most 147 = .ok (.iinc 1 1, 3) := by decide +kernel
theorem dX8_most_150 : decode cX8_most 150 = .ok (.goto (-139), 3) := by decide +kernel
theorem dX8_most_153 : decode cX8_most 153 = .ok (.aload_n 0, 1) := by decide +kernel
theorem dX8_most_154 : decode cX8_most 154 = .ok (.getfield 66, 3) := by decide +kernel
theorem dX8_most_157 : decode cX8_most 157 = .ok (.aload_n 0, 1) := by decide +kernel
theorem dX8_most_158 : decode cX8_most 158 = .ok (.invokevirtual 382, 3) := by decide +kernel
theorem dX8_most_161 : decode cX8_most 161 = .ok (.iaload, 1) := by decide +kernel
theorem dX8_most_162 : decode cX8_most 162 = .ok (.ireturn, 1) := by decide +kernel
def f_X8_most_141 (kb_11 : Int32 → zS → Option (Int32 × zS)) (kb_65 : Int32 → Int32 → Int32 → Int32 → zS → Option (Int32 × zS)) (v1 : Int32) (v2 : Int32) (v3 : Int32) (v4 : Int32) (s : zS) : Option (Int32 × zS) :=
  zb (v4 + (1 : Int32)) fun x1 =>
  kb_65 v1 v2 v3 x1 s
set_option maxRecDepth 20000 in
theorem b_X8_most_141 {X : zX} {kb_11 : Int32 → zS → Option (Int32 × zS)} {kb_65 : Int32 → Int32 → Int32 → Int32 → zS → Option (Int32 × zS)} (hX : zx_ok X cX8_most RX8 5) (hT : zx_rt X (some .int) (zR 71 1755)) (hk_11 : ∀ (v1 : Int32) (s : zS), zV X (zq X zrI) 5 11 [(0, .ref (zx_ad X 76)), (1, .int v1)] [] s (kb_11 v1 s)) (hk_65 : ∀ (v1 : Int32) (v2 : Int32) (v3 : Int32) (v4 : Int32) (s : zS), zV X (zq X zrI) 5 65 [(0, .ref (zx_ad X 76)), (1, .int v1), (2, .int v2), (3, .int v3), (4, .int v4)] [] s (kb_65 v1 v2 v3 v4 s)) : ∀ (v1 : Int32) (v2 : Int32) (v3 : Int32) (v4 : Int32) (s : zS), zV X (zq X zrI) 5 141 [(0, .ref (zx_ad X 76)), (1, .int v1), (2, .int v2), (3, .int v3), (4, .int v4)] [] s (f_X8_most_141 kb_11 kb_65 v1 v2 v3 v4 s) := by
  intro v1 v2 v3 v4 s
  unfold f_X8_most_141
  refine zv_iincB (lw := fun x1 => [(4, .int x1), (0, .ref (zx_ad X 76)), (1, .int v1), (2, .int v2), (3, .int v3)]) hX dX8_most_141 4 rfl zi_i_1 (by decide) (fun _ => rfl) (fun x1 => ?_)
  refine zv_goto (tgt := 65) hX dX8_most_144 rfl ?_
  exact zv_sub [1, 2, 3, 4, 0] rfl (hk_65 v1 v2 v3 x1 s)
def f_X8_most_65 (kb_11 : Int32 → zS → Option (Int32 × zS)) : Nat → Int32 → Int32 → Int32 → Int32 → zS → Option (Int32 × zS)
  | 0, _, _, _, _, _ => none
  | n + 1, v1, v2, v3, v4, s =>
    (zr_i s 77 (1 : Int32)).bind fun x2 =>
    if x2 ≤ v4 then
    (zb (v1 + (1 : Int32)) fun x3 =>
    kb_11 x3 s)
    else
    zbd (f_X8_isIn (v3.toInt64) v4 s) fun r4 s5 =>
    if r4 = 0 then
    (f_X8_most_141 kb_11 (f_X8_most_65 kb_11 n) v1 v2 v3 v4 s5)
    else
    zbd (f_X8_areMatch v2 v4 s5) fun r6 s7 =>
    if r6 = 0 then
    (f_X8_most_141 kb_11 (f_X8_most_65 kb_11 n) v1 v2 v3 v4 s7)
    else
    (zr_i s7 93 (v3 &&& ((zo_shl (1 : Int32) v4) ^^^ (-1 : Int32)))).bind fun x8 =>
    (zr_i s7 93 v1).bind fun x9 =>
    if ((1 : Int32) + x8) ≤ x9 then
    (f_X8_most_141 kb_11 (f_X8_most_65 kb_11 n) v1 v2 v3 v4 s7)
    else
    (zr_i s7 93 (v3 &&& ((zo_shl (1 : Int32) v4) ^^^ (-1 : Int32)))).bind fun x10 =>
    (zw_i s7 93 v1 ((1 : Int32) + x10)).bind fun s11 =>
    f_X8_most_141 kb_11 (f_X8_most_65 kb_11 n) v1 v2 v3 v4 s11
set_option maxRecDepth 20000 in
theorem b_X8_most_65 {X : zX} {kb_11 : Int32 → zS → Option (Int32 × zS)} (hX : zx_ok X cX8_most RX8 5) (hT : zx_rt X (some .int) (zR 71 1755)) (hk_11 : ∀ (v1 : Int32) (s : zS), zV X (zq X zrI) 5 11 [(0, .ref (zx_ad X 76)), (1, .int v1)] [] s (kb_11 v1 s)) : ∀ (n : Nat) (v1 : Int32) (v2 : Int32) (v3 : Int32) (v4 : Int32) (s : zS), zV X (zq X zrI) 5 65 [(0, .ref (zx_ad X 76)), (1, .int v1), (2, .int v2), (3, .int v3), (4, .int v4)] [] s (f_X8_most_65 kb_11 n v1 v2 v3 v4 s) := by
  intro n
  induction n with
  | zero => intro v1 v2 v3 v4 s; exact zv_none
  | succ n ih =>
    intro v1 v2 v3 v4 s
    rw [f_X8_most_65]
    refine zv_iload hX dX8_most_65 4 rfl ?_
    refine zv_aload_n hX dX8_most_67 0 rfl ?_
    refine zv_geta hX wf_X8_13 wc_8 zd_76 zj_76_1 c9_8 zr_76_1 (by decide) dX8_most_68 ?_
    refine zv_iconst (v := (1 : Int32)) hX dX8_most_71 zi_i_1 ?_
    refine zv_iald hX dX8_most_72 (fun x2 => ?_)
    refine zv_icmp_ge (tgt := 147) hX dX8_most_73 rfl ?_ ?_
    · refine zv_iincB (lw := fun x3 => [(1, .int x3), (0, .ref (zx_ad X 76)), (2, .int v2), (3, .int v3), (4, .int v4)]) hX dX8_most_147 1 rfl zi_i_1 (by decide) (fun _ => rfl) (fun x3 => ?_)
      refine zv_goto (tgt := 11) hX dX8_most_150 rfl ?_
      exact zv_sub [1, 0] rfl (hk_11 x3 s)
    · refine zv_iload_n hX dX8_most_76 3 rfl ?_
      refine zv_i2l hX dX8_most_77 ?_
      refine zv_iload hX dX8_most_78 4 rfl ?_
      refine zv_cSI [.long (v3.toInt64), .int v4] (rest := []) hX hT.2.2.2.2 (c_X8_isIn (zx_Y X) (v3.toInt64) v4 s) wv_X8_isIn wm_X8_223 rfl (Nat.le_of_ble_eq_true rfl) (Nat.le_of_ble_eq_true rfl) rfl (Nat.le_of_ble_eq_true rfl) dX8_most_80 (fun r4 s5 => ?_)
      refine zv_if_eq (tgt := 141) hX dX8_most_83 rfl ?_ ?_
      · exact b_X8_most_141 hX hT hk_11 ih v1 v2 v3 v4 s5
      · refine zv_aload_n hX dX8_most_86 0 rfl ?_
        refine zv_iload_n hX dX8_most_87 2 rfl ?_
        refine zv_iload hX dX8_most_88 4 rfl ?_
        refine zv_cVI [.int v2, .int v4] (rest := []) hX hT.2.2.2.2 (c_X8_areMatch (zx_Y X) v2 v4 s5) wv_X8_areMatch c9_8 zd_76 wm_X8_280 rfl (Nat.le_of_ble_eq_true rfl) (Nat.le_of_ble_eq_true rfl) rfl (Nat.le_of_ble_eq_true rfl) dX8_most_90 (fun r6 s7 => ?_)
        refine zv_if_eq (tgt := 141) hX dX8_most_93 rfl ?_ ?_
        · exact b_X8_most_141 hX hT hk_11 ih v1 v2 v3 v4 s7
        · refine zv_iconst (v := (1 : Int32)) hX dX8_most_96 zi_i_1 ?_
          refine zv_aload_n hX dX8_most_97 0 rfl ?_
          refine zv_geta hX wf_X8_66 wc_8 zd_76 zj_76_34 c9_8 zr_76_34 (by decide) dX8_most_98 ?_
          refine zv_iload_n hX dX8_most_101 3 rfl ?_
          refine zv_iconst (v := (1 : Int32)) hX dX8_most_102 zi_i_1 ?_
          refine zv_iload hX dX8_most_103 4 rfl ?_
          refine zv_ishl hX dX8_most_105 ?_
          refine zv_iconst (v := (-1 : Int32)) hX dX8_most_106 zi_i_m1 ?_
          refine zv_ixor hX dX8_most_107 ?_
          refine zv_iand hX dX8_most_108 ?_
          refine zv_iald hX dX8_most_109 (fun x8 => ?_)
          refine zv_iadd hX dX8_most_110 ?_
          refine zv_aload_n hX dX8_most_111 0 rfl ?_
          refine zv_geta hX wf_X8_66 wc_8 zd_76 zj_76_34 c9_8 zr_76_34 (by decide) dX8_most_112 ?_
          refine zv_iload_n hX dX8_most_115 1 rfl ?_
          refine zv_iald hX dX8_most_116 (fun x9 => ?_)
          refine zv_icmp_le (tgt := 141) hX dX8_most_117 rfl ?_ ?_
          · exact b_X8_most_141 hX hT hk_11 ih v1 v2 v3 v4 s7
          · refine zv_aload_n hX dX8_most_120 0 rfl ?_
            refine zv_geta hX wf_X8_66 wc_8 zd_76 zj_76_34 c9_8 zr_76_34 (by decide) dX8_most_121 ?_
            refine zv_iload_n hX dX8_most_124 1 rfl ?_
            refine zv_iconst (v := (1 : Int32)) hX dX8_most_125 zi_i_1 ?_
            refine zv_aload_n hX dX8_most_126 0 rfl ?_
            refine zv_geta hX wf_X8_66 wc_8 zd_76 zj_76_34 c9_8 zr_76_34 (by decide) dX8_most_127 ?_
            refine zv_iload_n hX dX8_most_130 3 rfl ?_
            refine zv_iconst (v := (1 : Int32)) hX dX8_most_131 zi_i_1 ?_
            refine zv_iload hX dX8_most_132 4 rfl ?_
            refine zv_ishl hX dX8_most_134 ?_
            refine zv_iconst (v := (-1 : Int32)) hX dX8_most_135 zi_i_m1 ?_
            refine zv_ixor hX dX8_most_136 ?_
            refine zv_iand hX dX8_most_137 ?_
            refine zv_iald hX dX8_most_138 (fun x10 => ?_)
            refine zv_iadd hX dX8_most_139 ?_
            refine zv_iast hX dX8_most_140 (fun s11 => ?_)
            exact b_X8_most_141 hX hT hk_11 ih v1 v2 v3 v4 s11
def f_X8_most_25 (kb_11 : Int32 → zS → Option (Int32 × zS)) : Nat → Int32 → Int32 → zS → Option (Int32 × zS)
  | 0, _, _, _ => none
  | n + 1, v1, v2, s =>
    zbd (f_X8_isIn (v1.toInt64) v2 s) fun r12 s13 =>
    if ¬ r12 = 0 then
    (zb (v1 &&& ((zo_shl (1 : Int32) v2) ^^^ (-1 : Int32))) fun x14 =>
    (zr_i s13 93 x14).bind fun x15 =>
    (zw_i s13 93 v1 x15).bind fun s16 =>
    zb (v2 + (1 : Int32)) fun x17 =>
    f_X8_most_65 kb_11 zFU v1 v2 x14 x17 s16)
    else
    zb (v2 + (1 : Int32)) fun x18 =>
    f_X8_most_25 kb_11 n v1 x18 s13
set_option maxRecDepth 20000 in
theorem b_X8_most_25 {X : zX} {kb_11 : Int32 → zS → Option (Int32 × zS)} (hX : zx_ok X cX8_most RX8 5) (hT : zx_rt X (some .int) (zR 71 1755)) (hk_11 : ∀ (v1 : Int32) (s : zS), zV X (zq X zrI) 5 11 [(0, .ref (zx_ad X 76)), (1, .int v1)] [] s (kb_11 v1 s)) : ∀ (n : Nat) (v1 : Int32) (v2 : Int32) (s : zS), zV X (zq X zrI) 5 25 [(0, .ref (zx_ad X 76)), (1, .int v1), (2, .int v2)] [] s (f_X8_most_25 kb_11 n v1 v2 s) := by
  intro n
  induction n with
  | zero => intro v1 v2 s; exact zv_none
  | succ n ih =>
    intro v1 v2 s
    rw [f_X8_most_25]
    refine zv_iload_n hX dX8_most_25 1 rfl ?_
    refine zv_i2l hX dX8_most_26 ?_
    refine zv_iload_n hX dX8_most_27 2 rfl ?_
    refine zv_cSI [.long (v1.toInt64), .int v2] (rest := []) hX hT.2.2.2.2 (c_X8_isIn (zx_Y X) (v1.toInt64) v2 s) wv_X8_isIn wm_X8_223 rfl (Nat.le_of_ble_eq_true rfl) (Nat.le_of_ble_eq_true rfl) rfl (Nat.le_of_ble_eq_true rfl) dX8_most_28 (fun r12 s13 => ?_)
    refine zv_if_ne (tgt := 40) hX dX8_most_31 rfl ?_ ?_
    · refine zv_iload_n hX dX8_most_40 1 rfl ?_
      refine zv_iconst (v := (1 : Int32)) hX dX8_most_41 zi_i_1 ?_
      refine zv_iload_n hX dX8_most_42 2 rfl ?_
      refine zv_ishl hX dX8_most_43 ?_
      refine zv_iconst (v := (-1 : Int32)) hX dX8_most_44 zi_i_m1 ?_
      refine zv_ixor hX dX8_most_45 ?_
      refine zv_iand hX dX8_most_46 ?_
      refine zv_istB_n (lw := fun x14 => [(3, .int x14), (0, .ref (zx_ad X 76)), (1, .int v1), (2, .int v2)]) hX dX8_most_47 (by decide) (fun _ => rfl) (fun x14 => ?_)
      refine zv_aload_n hX dX8_most_48 1 rfl ?_
      refine zv_geta hX wf_X8_66 wc_8 zd_76 zj_76_34 c9_8 zr_76_34 (by decide) dX8_most_49 ?_
      refine zv_iload_n hX dX8_most_52 2 rfl ?_
      refine zv_aload_n hX dX8_most_53 1 rfl ?_
      refine zv_geta hX wf_X8_66 wc_8 zd_76 zj_76_34 c9_8 zr_76_34 (by decide) dX8_most_54 ?_
      refine zv_iload_n hX dX8_most_57 0 rfl ?_
      refine zv_iald hX dX8_most_58 (fun x15 => ?_)
      refine zv_iast hX dX8_most_59 (fun s16 => ?_)
      refine zv_iload_n hX dX8_most_60 3 rfl ?_
      refine zv_iconst (v := (1 : Int32)) hX dX8_most_61 zi_i_1 ?_
      refine zv_iadd hX dX8_most_62 ?_
      refine zv_istB (lw := fun x17 => [(4, .int x17), (3, .int x14), (0, .ref (zx_ad X 76)), (1, .int v1), (2, .int v2)]) hX dX8_most_63 (by decide) (fun _ => rfl) (fun x17 => ?_)
      exact zv_sub [2, 3, 4, 1, 0] rfl (b_X8_most_65 hX hT hk_11 zFU v1 v2 x14 x17 s16)
    · refine zv_iincB (lw := fun x18 => [(2, .int x18), (0, .ref (zx_ad X 76)), (1, .int v1)]) hX dX8_most_34 2 rfl zi_i_1 (by decide) (fun _ => rfl) (fun x18 => ?_)
      refine zv_goto (tgt := 25) hX dX8_most_37 rfl ?_
      exact zv_sub [1, 2, 0] rfl (ih v1 x18 s13)
def f_X8_most_11 : Nat → Int32 → zS → Option (Int32 × zS)
  | 0, _, _ => none
  | n + 1, v1, s =>
    (zr_i s 77 (1 : Int32)).bind fun x19 =>
    if (zo_shl (1 : Int32) x19) ≤ v1 then
    (zbd (f_X8_everybody s) fun r20 s21 =>
    (zr_i s21 93 r20).bind fun x22 =>
    some (x22, s21))
    else
    f_X8_most_25 (f_X8_most_11 n) zFU v1 (0 : Int32) s
set_option maxRecDepth 20000 in
theorem b_X8_most_11 {X : zX} (hX : zx_ok X cX8_most RX8 5) (hT : zx_rt X (some .int) (zR 71 1755)) : ∀ (n : Nat) (v1 : Int32) (s : zS), zV X (zq X zrI) 5 11 [(0, .ref (zx_ad X 76)), (1, .int v1)] [] s (f_X8_most_11 n v1 s) := by
  intro n
  induction n with
  | zero => intro v1 s; exact zv_none
  | succ n ih =>
    intro v1 s
    rw [f_X8_most_11]
    refine zv_iload_n hX dX8_most_11 1 rfl ?_
    refine zv_iconst (v := (1 : Int32)) hX dX8_most_12 zi_i_1 ?_
    refine zv_aload_n hX dX8_most_13 0 rfl ?_
    refine zv_geta hX wf_X8_13 wc_8 zd_76 zj_76_1 c9_8 zr_76_1 (by decide) dX8_most_14 ?_
    refine zv_iconst (v := (1 : Int32)) hX dX8_most_17 zi_i_1 ?_
    refine zv_iald hX dX8_most_18 (fun x19 => ?_)
    refine zv_ishl hX dX8_most_19 ?_
    refine zv_icmp_ge (tgt := 153) hX dX8_most_20 rfl ?_ ?_
    · refine zv_aload_n hX dX8_most_153 0 rfl ?_
      refine zv_geta hX wf_X8_66 wc_8 zd_76 zj_76_34 c9_8 zr_76_34 (by decide) dX8_most_154 ?_
      refine zv_aload_n hX dX8_most_157 0 rfl ?_
      refine zv_cVI [] (rest := [.ref (zx_ad X 93)]) hX hT.2.2.2.2 (c_X8_everybody (zx_Y X) s) wv_X8_everybody c9_8 zd_76 wm_X8_382 rfl (Nat.le_of_ble_eq_true rfl) (Nat.le_of_ble_eq_true rfl) rfl (Nat.le_of_ble_eq_true rfl) dX8_most_158 (fun r20 s21 => ?_)
      refine zv_iald hX dX8_most_161 (fun x22 => ?_)
      exact zv_ireti hX hT dX8_most_162
    · refine zv_iconst (v := (0 : Int32)) hX dX8_most_23 zi_i_0 ?_
      refine zv_istore_n (lv' := [(2, .int (0 : Int32)), (0, .ref (zx_ad X 76)), (1, .int v1)]) hX dX8_most_24 (by decide) rfl ?_
      exact zv_sub [1, 2, 0] rfl (b_X8_most_25 hX hT ih zFU v1 (0 : Int32) s)
def f_X8_most  (s : zS) : Option (Int32 × zS) :=
  zb (zs_i s 76 0 (0 : Int32)) fun s23 =>
  zbd (f_X8_lays s23) fun _ s24 =>
  f_X8_most_11 zFU (1 : Int32) s24
set_option maxRecDepth 20000 in
theorem c_X8_most (Y : zG)  (s : zS) : zM Y yX8_most cX8_most 5 (some .int) (zR 71 1755) [.ref (zy_a Y 76)] s zrI (f_X8_most  s) := by
  refine zm_start (by decide +kernel) (Nat.le_of_ble_eq_true rfl) ?_
  intro X hY hT hX
  subst hY
  have hX : zx_ok X cX8_most RX8 5 := hX
  show zV X (zq X zrI) 5 0 [(0, .ref (zx_ad X 76))] [] s _
  unfold f_X8_most
  refine zv_aload_n hX dX8_most_0 0 rfl ?_
  refine zv_iconst (v := (0 : Int32)) hX dX8_most_1 zi_i_0 ?_
  refine zv_puti hX wf_X8_1 wc_8 wk_8_0 zd_76 zj_76_0 c9_8 zr_76_0 dX8_most_2 (fun s23 => ?_)
  refine zv_aload_n hX dX8_most_5 0 rfl ?_
  refine zv_cVV [] (rest := []) hX hT.2.2.2.2 (c_X8_lays (zx_Y X) s23) wv_X8_lays c9_8 zd_76 wm_X8_284 rfl (Nat.le_of_ble_eq_true rfl) (Nat.le_of_ble_eq_true rfl) rfl (Nat.le_of_ble_eq_true rfl) dX8_most_6 (fun _ s24 => ?_)
  refine zv_iconst (v := (1 : Int32)) hX dX8_most_9 zi_i_1 ?_
  refine zv_istore_n (lv' := [(1, .int (1 : Int32)), (0, .ref (zx_ad X 76))]) hX dX8_most_10 (by decide) rfl ?_
  exact zv_sub [1, 0] rfl (b_X8_most_11 hX hT zFU (1 : Int32) s24)
theorem dX8_numbers_0 : decode cX8_numbers 0 = .ok (.aload_n 0, 1) := by decide +kernel
theorem dX8_numbers_1 : decode cX8_numbers 1 = .ok (.iconst 0, 1) := by decide +kernel
theorem dX8_numbers_2 : decode cX8_numbers 2 = .ok (.putfield 1, 3) := by decide +kernel
theorem dX8_numbers_5 : decode cX8_numbers 5 = .ok (.iload_n 1, 1) := by decide +kernel
theorem dX8_numbers_6 : decode cX8_numbers 6 = .ok (.i2l, 1) := by decide +kernel
theorem dX8_numbers_7 : decode cX8_numbers 7 = .ok (.lconst 0, 1) := by decide +kernel
theorem dX8_numbers_8 : decode cX8_numbers 8 = .ok (.ldc2_w 350, 3) := by decide +kernel
theorem dX8_numbers_11 : decode cX8_numbers 11 = .ok (.invokestatic 154, 3) := by decide +kernel
theorem dX8_numbers_14 : decode cX8_numbers 14 = .ok (.ifCond .eq 15, 3) := by decide +kernel
theorem dX8_numbers_17 : decode cX8_numbers 17 = .ok (.iload_n 2, 1) := by decide +kernel
theorem dX8_numbers_18 : decode cX8_numbers 18 = .ok (.i2l, 1) := by decide +kernel
theorem dX8_numbers_19 : decode cX8_numbers 19 = .ok (.lconst 0, 1) := by decide +kernel
theorem dX8_numbers_20 : decode cX8_numbers 20 = .ok (.ldc2_w 350, 3) := by decide +kernel
theorem dX8_numbers_23 : decode cX8_numbers 23 = .ok (.invokestatic 154, 3) := by decide +kernel
theorem dX8_numbers_26 : decode cX8_numbers 26 = .ok (.ifCond .ne 6, 3) := by decide +kernel
theorem dX8_numbers_29 : decode cX8_numbers 29 = .ok (.bipush (-2), 2) := by decide +kernel
theorem dX8_numbers_31 : decode cX8_numbers 31 = .ok (.ireturn, 1) := by decide +kernel
theorem dX8_numbers_32 : decode cX8_numbers 32 = .ok (.iload_n 3, 1) := by decide +kernel
theorem dX8_numbers_33 : decode cX8_numbers 33 = .ok (.i2l, 1) := by decide +kernel
theorem dX8_numbers_34 : decode cX8_numbers 34 = .ok (.lconst 0, 1) := by decide +kernel
theorem dX8_numbers_35 : decode cX8_numbers 35 = .ok (.ldc2_w 371, 3) := by decide +kernel
theorem dX8_numbers_38 : decode cX8_numbers 38 = .ok (.invokestatic 154, 3) := by decide +kernel
theorem dX8_numbers_41 : decode cX8_numbers 41 = .ok (.ifCond .ne 6, 3) := by decide +kernel
theorem dX8_numbers_44 : decode cX8_numbers 44 = .ok (.bipush (-3), 2) := by decide +kernel
theorem dX8_numbers_46 : decode cX8_numbers 46 = .ok (.ireturn, 1) := by decide +kernel
theorem dX8_numbers_47 : decode cX8_numbers 47 = .ok (.aload_n 0, 1) := by decide +kernel
theorem dX8_numbers_48 : decode cX8_numbers 48 = .ok (.getfield 78, 3) := by decide +kernel
theorem dX8_numbers_51 : decode cX8_numbers 51 = .ok (.iload_n 1, 1) := by decide +kernel
theorem dX8_numbers_52 : decode cX8_numbers 52 = .ok (.iload_n 2, 1) := by decide +kernel
theorem dX8_numbers_53 : decode cX8_numbers 53 = .ok (.iastore, 1) := by decide +kernel
theorem dX8_numbers_54 : decode cX8_numbers 54 = .ok (.aload_n 0, 1) := by decide +kernel
theorem dX8_numbers_55 : decode cX8_numbers 55 = .ok (.getfield 81, 3) := by decide +kernel
theorem dX8_numbers_58 : decode cX8_numbers 58 = .ok (.iload_n 1, 1) := by decide +kernel
theorem dX8_numbers_59 : decode cX8_numbers 59 = .ok (.iload_n 3, 1) := by decide +kernel
theorem dX8_numbers_60 : decode cX8_numbers 60 = .ok (.iastore, 1) := by decide +kernel
theorem dX8_numbers_61 : decode cX8_numbers 61 = .ok (.iconst 0, 1) := by decide +kernel
theorem dX8_numbers_62 : decode cX8_numbers 62 = .ok (.istore 4, 2) := by decide +kernel
theorem dX8_numbers_64 : decode cX8_numbers 64 = .ok (.iload 4, 2) := by decide +kernel
theorem dX8_numbers_66 : decode cX8_numbers 66 = .ok (.iload_n 3, 1) := by decide +kernel
theorem dX8_numbers_67 : decode cX8_numbers 67 = .ok (.if_icmp .ge 22, 3) := by decide +kernel
theorem dX8_numbers_70 : decode cX8_numbers 70 = .ok (.aload_n 0, 1) := by decide +kernel
theorem dX8_numbers_71 : decode cX8_numbers 71 = .ok (.getfield 84, 3) := by decide +kernel
theorem dX8_numbers_74 : decode cX8_numbers 74 = .ok (.bipush 40, 2) := by decide +kernel
theorem dX8_numbers_76 : decode cX8_numbers 76 = .ok (.iload_n 1, 1) := by decide +kernel
theorem dX8_numbers_77 : decode cX8_numbers 77 = .ok (.imul, 1) := by decide +kernel
theorem dX8_numbers_78 : decode cX8_numbers 78 = .ok (.iload 4, 2) := by decide +kernel
theorem dX8_numbers_80 : decode cX8_numbers 80 = .ok (.iadd, 1) := by decide +kernel
theorem dX8_numbers_81 : decode cX8_numbers 81 = .ok (.lconst 0, 1) := by decide +kernel
theorem dX8_numbers_82 : decode cX8_numbers 82 = .ok (.lastore, 1) := by decide +kernel
theorem dX8_numbers_83 : decode cX8_numbers 83 = .ok (.iinc 4 1, 3) := by decide +kernel
theorem dX8_numbers_86 : decode cX8_numbers 86 = .ok (.goto (-22), 3) := by decide +kernel
theorem dX8_numbers_89 : decode cX8_numbers 89 = .ok (.iconst 0, 1) := by decide +kernel
theorem dX8_numbers_90 : decode cX8_numbers 90 = .ok (.ireturn, 1) := by decide +kernel
def f_X8_numbers_29  (s : zS) : Option (Int32 × zS) :=
  some ((-2 : Int32), s)
set_option maxRecDepth 20000 in
theorem b_X8_numbers_29 {X : zX} (hX : zx_ok X cX8_numbers RX8 5) (hT : zx_rt X (some .int) (zR 1 25)) : ∀  (s : zS), zV X (zq X zrI) 5 29 [] [] s (f_X8_numbers_29  s) := by
  intro  s
  unfold f_X8_numbers_29
  refine zv_bipush (v := (-2 : Int32)) hX dX8_numbers_29 zi_b_m2 ?_
  exact zv_ireti hX hT dX8_numbers_31
def f_X8_numbers_64 : Nat → Int32 → Int32 → Int32 → zS → Option (Int32 × zS)
  | 0, _, _, _, _ => none
  | n + 1, v1, v3, v4, s =>
    if v3 ≤ v4 then
    (some ((0 : Int32), s))
    else
    (zw_l s 99 (((nI 40) * v1) + v4) (0 : Int64)).bind fun s1 =>
    zb (v4 + (1 : Int32)) fun x2 =>
    f_X8_numbers_64 n v1 v3 x2 s1
set_option maxRecDepth 20000 in
theorem b_X8_numbers_64 {X : zX} (hX : zx_ok X cX8_numbers RX8 5) (hT : zx_rt X (some .int) (zR 1 25)) : ∀ (n : Nat) (v1 : Int32) (v3 : Int32) (v4 : Int32) (s : zS), zV X (zq X zrI) 5 64 [(0, .ref (zx_ad X 76)), (1, .int v1), (3, .int v3), (4, .int v4)] [] s (f_X8_numbers_64 n v1 v3 v4 s) := by
  intro n
  induction n with
  | zero => intro v1 v3 v4 s; exact zv_none
  | succ n ih =>
    intro v1 v3 v4 s
    rw [f_X8_numbers_64]
    refine zv_iload hX dX8_numbers_64 3 rfl ?_
    refine zv_iload_n hX dX8_numbers_66 2 rfl ?_
    refine zv_icmp_ge (tgt := 89) hX dX8_numbers_67 rfl ?_ ?_
    · refine zv_iconst (v := (0 : Int32)) hX dX8_numbers_89 zi_i_0 ?_
      exact zv_ireti hX hT dX8_numbers_90
    · refine zv_aload_n hX dX8_numbers_70 0 rfl ?_
      refine zv_geta hX wf_X8_84 wc_8 zd_76 zj_76_40 c9_8 zr_76_40 (by decide) dX8_numbers_71 ?_
      refine zv_bipush (v := (nI 40)) hX dX8_numbers_74 zi_b_40 ?_
      refine zv_iload_n hX dX8_numbers_76 1 rfl ?_
      refine zv_imul hX dX8_numbers_77 ?_
      refine zv_iload hX dX8_numbers_78 3 rfl ?_
      refine zv_iadd hX dX8_numbers_80 ?_
      refine zv_lconst (v := (0 : Int64)) hX dX8_numbers_81 zi_l_0 ?_
      refine zv_last hX dX8_numbers_82 (fun s1 => ?_)
      refine zv_iincB (lw := fun x2 => [(4, .int x2), (0, .ref (zx_ad X 76)), (1, .int v1), (3, .int v3)]) hX dX8_numbers_83 3 rfl zi_i_1 (by decide) (fun _ => rfl) (fun x2 => ?_)
      refine zv_goto (tgt := 64) hX dX8_numbers_86 rfl ?_
      exact zv_sub [1, 2, 3, 0] rfl (ih v1 v3 x2 s1)
def f_X8_numbers (v1 : Int32) (v2 : Int32) (v3 : Int32) (s : zS) : Option (Int32 × zS) :=
  zb (zs_i s 76 0 (0 : Int32)) fun s3 =>
  zbd (f_X8_within (v1.toInt64) (0 : Int64) (3 : Int64) s3) fun r4 s5 =>
  if r4 = 0 then
  (f_X8_numbers_29 s5)
  else
  zbd (f_X8_within (v2.toInt64) (0 : Int64) (3 : Int64) s5) fun r6 s7 =>
  if ¬ r6 = 0 then
  (zbd (f_X8_within (v3.toInt64) (0 : Int64) (40 : Int64) s7) fun r8 s9 =>
  if ¬ r8 = 0 then
  ((zw_i s9 97 v1 v2).bind fun s10 =>
  (zw_i s10 98 v1 v3).bind fun s11 =>
  f_X8_numbers_64 zFU v1 v3 (0 : Int32) s11)
  else
  some ((-3 : Int32), s9))
  else
  f_X8_numbers_29 s7
set_option maxRecDepth 20000 in
theorem c_X8_numbers (Y : zG) (v1 : Int32) (v2 : Int32) (v3 : Int32) (s : zS) : zM Y yX8_numbers cX8_numbers 5 (some .int) (zR 1 25) [.ref (zy_a Y 76), .int v1, .int v2, .int v3] s zrI (f_X8_numbers v1 v2 v3 s) := by
  refine zm_start (by decide +kernel) (Nat.le_of_ble_eq_true rfl) ?_
  intro X hY hT hX
  subst hY
  have hX : zx_ok X cX8_numbers RX8 5 := hX
  show zV X (zq X zrI) 5 0 [(0, .ref (zx_ad X 76)), (1, .int v1), (2, .int v2), (3, .int v3)] [] s _
  unfold f_X8_numbers
  refine zv_aload_n hX dX8_numbers_0 0 rfl ?_
  refine zv_iconst (v := (0 : Int32)) hX dX8_numbers_1 zi_i_0 ?_
  refine zv_puti hX wf_X8_1 wc_8 wk_8_0 zd_76 zj_76_0 c9_8 zr_76_0 dX8_numbers_2 (fun s3 => ?_)
  refine zv_iload_n hX dX8_numbers_5 1 rfl ?_
  refine zv_i2l hX dX8_numbers_6 ?_
  refine zv_lconst (v := (0 : Int64)) hX dX8_numbers_7 zi_l_0 ?_
  refine zv_ldc2 hX wn_X8_350 dX8_numbers_8 ?_
  refine zv_cSI [.long (v1.toInt64), .long (0 : Int64), .long (3 : Int64)] (rest := []) hX hT.2.2.2.2 (c_X8_within (zx_Y X) (v1.toInt64) (0 : Int64) (3 : Int64) s3) wv_X8_within wm_X8_154 rfl (Nat.le_of_ble_eq_true rfl) (Nat.le_of_ble_eq_true rfl) rfl (Nat.le_of_ble_eq_true rfl) dX8_numbers_11 (fun r4 s5 => ?_)
  refine zv_if_eq (tgt := 29) hX dX8_numbers_14 rfl ?_ ?_
  · exact zv_sub [] rfl (b_X8_numbers_29 hX hT  s5)
  · refine zv_iload_n hX dX8_numbers_17 2 rfl ?_
    refine zv_i2l hX dX8_numbers_18 ?_
    refine zv_lconst (v := (0 : Int64)) hX dX8_numbers_19 zi_l_0 ?_
    refine zv_ldc2 hX wn_X8_350 dX8_numbers_20 ?_
    refine zv_cSI [.long (v2.toInt64), .long (0 : Int64), .long (3 : Int64)] (rest := []) hX hT.2.2.2.2 (c_X8_within (zx_Y X) (v2.toInt64) (0 : Int64) (3 : Int64) s5) wv_X8_within wm_X8_154 rfl (Nat.le_of_ble_eq_true rfl) (Nat.le_of_ble_eq_true rfl) rfl (Nat.le_of_ble_eq_true rfl) dX8_numbers_23 (fun r6 s7 => ?_)
    refine zv_if_ne (tgt := 32) hX dX8_numbers_26 rfl ?_ ?_
    · refine zv_iload_n hX dX8_numbers_32 3 rfl ?_
      refine zv_i2l hX dX8_numbers_33 ?_
      refine zv_lconst (v := (0 : Int64)) hX dX8_numbers_34 zi_l_0 ?_
      refine zv_ldc2 hX wn_X8_371 dX8_numbers_35 ?_
      refine zv_cSI [.long (v3.toInt64), .long (0 : Int64), .long (40 : Int64)] (rest := []) hX hT.2.2.2.2 (c_X8_within (zx_Y X) (v3.toInt64) (0 : Int64) (40 : Int64) s7) wv_X8_within wm_X8_154 rfl (Nat.le_of_ble_eq_true rfl) (Nat.le_of_ble_eq_true rfl) rfl (Nat.le_of_ble_eq_true rfl) dX8_numbers_38 (fun r8 s9 => ?_)
      refine zv_if_ne (tgt := 47) hX dX8_numbers_41 rfl ?_ ?_
      · refine zv_aload_n hX dX8_numbers_47 0 rfl ?_
        refine zv_geta hX wf_X8_78 wc_8 zd_76 zj_76_38 c9_8 zr_76_38 (by decide) dX8_numbers_48 ?_
        refine zv_iload_n hX dX8_numbers_51 1 rfl ?_
        refine zv_iload_n hX dX8_numbers_52 2 rfl ?_
        refine zv_iast hX dX8_numbers_53 (fun s10 => ?_)
        refine zv_aload_n hX dX8_numbers_54 0 rfl ?_
        refine zv_geta hX wf_X8_81 wc_8 zd_76 zj_76_39 c9_8 zr_76_39 (by decide) dX8_numbers_55 ?_
        refine zv_iload_n hX dX8_numbers_58 1 rfl ?_
        refine zv_iload_n hX dX8_numbers_59 3 rfl ?_
        refine zv_iast hX dX8_numbers_60 (fun s11 => ?_)
        refine zv_iconst (v := (0 : Int32)) hX dX8_numbers_61 zi_i_0 ?_
        refine zv_istore (lv' := [(4, .int (0 : Int32)), (0, .ref (zx_ad X 76)), (1, .int v1), (2, .int v2), (3, .int v3)]) hX dX8_numbers_62 (by decide) rfl ?_
        exact zv_sub [1, 2, 4, 0] rfl (b_X8_numbers_64 hX hT zFU v1 v3 (0 : Int32) s11)
      · refine zv_bipush (v := (-3 : Int32)) hX dX8_numbers_44 zi_b_m3 ?_
        exact zv_ireti hX hT dX8_numbers_46
    · exact zv_sub [] rfl (b_X8_numbers_29 hX hT  s7)
theorem dX8_pairings_0 : decode cX8_pairings 0 = .ok (.aload_n 0, 1) := by decide +kernel
theorem dX8_pairings_1 : decode cX8_pairings 1 = .ok (.iconst 0, 1) := by decide +kernel
theorem dX8_pairings_2 : decode cX8_pairings 2 = .ok (.putfield 1, 3) := by decide +kernel
theorem dX8_pairings_5 : decode cX8_pairings 5 = .ok (.aload_n 0, 1) := by decide +kernel
theorem dX8_pairings_6 : decode cX8_pairings 6 = .ok (.invokevirtual 403, 3) := by decide +kernel
theorem dX8_pairings_9 : decode cX8_pairings 9 = .ok (.aload_n 0, 1) := by decide +kernel
theorem dX8_pairings_10 : decode cX8_pairings 10 = .ok (.getfield 391, 3) := by decide +kernel
theorem dX8_pairings_13 : decode cX8_pairings 13 = .ok (.ireturn, 1) := by decide +kernel
def f_X8_pairings  (s : zS) : Option (Int32 × zS) :=
  zb (zs_i s 76 0 (0 : Int32)) fun s1 =>
  zbd (f_X8_laysHeld s1) fun _ s2 =>
  some (s2.1 76 32, s2)
set_option maxRecDepth 20000 in
theorem c_X8_pairings (Y : zG)  (s : zS) : zM Y yX8_pairings cX8_pairings 1 (some .int) (zR 72 1775) [.ref (zy_a Y 76)] s zrI (f_X8_pairings  s) := by
  refine zm_start (by decide +kernel) (Nat.le_of_ble_eq_true rfl) ?_
  intro X hY hT hX
  subst hY
  have hX : zx_ok X cX8_pairings RX8 1 := hX
  show zV X (zq X zrI) 1 0 [(0, .ref (zx_ad X 76))] [] s _
  unfold f_X8_pairings
  refine zv_aload_n hX dX8_pairings_0 0 rfl ?_
  refine zv_iconst (v := (0 : Int32)) hX dX8_pairings_1 zi_i_0 ?_
  refine zv_puti hX wf_X8_1 wc_8 wk_8_0 zd_76 zj_76_0 c9_8 zr_76_0 dX8_pairings_2 (fun s1 => ?_)
  refine zv_aload_n hX dX8_pairings_5 0 rfl ?_
  refine zv_cVV [] (rest := []) hX hT.2.2.2.2 (c_X8_laysHeld (zx_Y X) s1) wv_X8_laysHeld c9_8 zd_76 wm_X8_403 rfl (Nat.le_of_ble_eq_true rfl) (Nat.le_of_ble_eq_true rfl) rfl (Nat.le_of_ble_eq_true rfl) dX8_pairings_6 (fun _ s2 => ?_)
  refine zv_aload_n hX dX8_pairings_9 0 rfl ?_
  refine zv_geti hX wf_X8_391 wc_8 zd_76 zj_76_32 c9_8 zr_76_32 dX8_pairings_10 ?_
  exact zv_ireti hX hT dX8_pairings_13
theorem dX8_part_0 : decode cX8_part 0 = .ok (.aload_n 0, 1) := by decide +kernel
theorem dX8_part_1 : decode cX8_part 1 = .ok (.iconst 0, 1) := by decide +kernel
theorem dX8_part_2 : decode cX8_part 2 = .ok (.putfield 1, 3) := by decide +kernel
theorem dX8_part_5 : decode cX8_part 5 = .ok (.aload_n 0, 1) := by decide +kernel
theorem dX8_part_6 : decode cX8_part 6 = .ok (.iload_n 1, 1) := by decide +kernel
theorem dX8_part_7 : decode cX8_part 7 = .ok (.i2l, 1) := by decide +kernel
theorem dX8_part_8 : decode cX8_part 8 = .ok (.invokevirtual 316, 3) := by decide +kernel
theorem dX8_part_11 : decode cX8_part 11 = .ok (.istore_n 2, 1) := by decide +kernel
theorem dX8_part_12 : decode cX8_part 12 = .ok (.iload_n 2, 1) := by decide +kernel
theorem dX8_part_13 : decode cX8_part 13 = .ok (.ifCond .eq 8, 3) := by decide +kernel
theorem dX8_part_16 : decode cX8_part 16 = .ok (.bipush (-10), 2) := by decide +kernel
theorem dX8_part_18 : decode cX8_part 18 = .ok (.iload_n 2, 1) := by decide +kernel
theorem dX8_part_19 : decode cX8_part 19 = .ok (.isub, 1) := by decide +kernel
theorem dX8_part_20 : decode cX8_part 20 = .ok (.ireturn, 1) := by decide +kernel
theorem dX8_part_21 : decode cX8_part 21 = .ok (.aload_n 0, 1) := by decide +kernel
theorem dX8_part_22 : decode cX8_part 22 = .ok (.invokevirtual 307, 3) := by decide +kernel
theorem dX8_part_25 : decode cX8_part 25 = .ok (.aload_n 0, 1) := by decide +kernel
theorem dX8_part_26 : decode cX8_part 26 = .ok (.iload_n 1, 1) := by decide +kernel
theorem dX8_part_27 : decode cX8_part 27 = .ok (.invokevirtual 298, 3) := by decide +kernel
theorem dX8_part_30 : decode cX8_part 30 = .ok (.pop, 1) := by decide +kernel
theorem dX8_part_31 : decode cX8_part 31 = .ok (.aload_n 0, 1) := by decide +kernel
theorem dX8_part_32 : decode cX8_part 32 = .ok (.invokevirtual 313, 3) := by decide +kernel
theorem dX8_part_35 : decode cX8_part 35 = .ok (.aload_n 0, 1) := by decide +kernel
theorem dX8_part_36 : decode cX8_part 36 = .ok (.getfield 57, 3) := by decide +kernel
theorem dX8_part_39 : decode cX8_part 39 = .ok (.iload_n 1, 1) := by decide +kernel
theorem dX8_part_40 : decode cX8_part 40 = .ok (.iaload, 1) := by decide +kernel
theorem dX8_part_41 : decode cX8_part 41 = .ok (.ireturn, 1) := by decide +kernel
def f_X8_part (v1 : Int32) (s : zS) : Option (Int32 × zS) :=
  zb (zs_i s 76 0 (0 : Int32)) fun s1 =>
  zbd (f_X8_whyPart (v1.toInt64) s1) fun r2 s3 =>
  if r2 = 0 then
  (zbd (f_X8_keeps s3) fun _ s4 =>
  zbd (f_X8_leaves v1 s4) fun r5 s6 =>
  zbd (f_X8_notes s6) fun _ s7 =>
  (zr_i s7 90 v1).bind fun x8 =>
  some (x8, s7))
  else
  some ((-10 : Int32) - r2, s3)
set_option maxRecDepth 20000 in
theorem c_X8_part (Y : zG) (v1 : Int32) (s : zS) : zM Y yX8_part cX8_part 3 (some .int) (zR 3 69) [.ref (zy_a Y 76), .int v1] s zrI (f_X8_part v1 s) := by
  refine zm_start (by decide +kernel) (Nat.le_of_ble_eq_true rfl) ?_
  intro X hY hT hX
  subst hY
  have hX : zx_ok X cX8_part RX8 3 := hX
  show zV X (zq X zrI) 3 0 [(0, .ref (zx_ad X 76)), (1, .int v1)] [] s _
  unfold f_X8_part
  refine zv_aload_n hX dX8_part_0 0 rfl ?_
  refine zv_iconst (v := (0 : Int32)) hX dX8_part_1 zi_i_0 ?_
  refine zv_puti hX wf_X8_1 wc_8 wk_8_0 zd_76 zj_76_0 c9_8 zr_76_0 dX8_part_2 (fun s1 => ?_)
  refine zv_aload_n hX dX8_part_5 0 rfl ?_
  refine zv_iload_n hX dX8_part_6 1 rfl ?_
  refine zv_i2l hX dX8_part_7 ?_
  refine zv_cVI [.long (v1.toInt64)] (rest := []) hX hT.2.2.2.2 (c_X8_whyPart (zx_Y X) (v1.toInt64) s1) wv_X8_whyPart c9_8 zd_76 wm_X8_316 rfl (Nat.le_of_ble_eq_true rfl) (Nat.le_of_ble_eq_true rfl) rfl (Nat.le_of_ble_eq_true rfl) dX8_part_8 (fun r2 s3 => ?_)
  refine zv_istore_n (lv' := [(2, .int r2), (0, .ref (zx_ad X 76)), (1, .int v1)]) hX dX8_part_11 (by decide) rfl ?_
  refine zv_iload_n hX dX8_part_12 0 rfl ?_
  refine zv_if_eq (tgt := 21) hX dX8_part_13 rfl ?_ ?_
  · refine zv_aload_n hX dX8_part_21 1 rfl ?_
    refine zv_cVV [] (rest := []) hX hT.2.2.2.2 (c_X8_keeps (zx_Y X) s3) wv_X8_keeps c9_8 zd_76 wm_X8_307 rfl (Nat.le_of_ble_eq_true rfl) (Nat.le_of_ble_eq_true rfl) rfl (Nat.le_of_ble_eq_true rfl) dX8_part_22 (fun _ s4 => ?_)
    refine zv_aload_n hX dX8_part_25 1 rfl ?_
    refine zv_iload_n hX dX8_part_26 2 rfl ?_
    refine zv_cVI [.int v1] (rest := []) hX hT.2.2.2.2 (c_X8_leaves (zx_Y X) v1 s4) wv_X8_leaves c9_8 zd_76 wm_X8_298 rfl (Nat.le_of_ble_eq_true rfl) (Nat.le_of_ble_eq_true rfl) rfl (Nat.le_of_ble_eq_true rfl) dX8_part_27 (fun r5 s6 => ?_)
    refine zv_pop hX dX8_part_30 rfl ?_
    refine zv_aload_n hX dX8_part_31 1 rfl ?_
    refine zv_cVV [] (rest := []) hX hT.2.2.2.2 (c_X8_notes (zx_Y X) s6) wv_X8_notes c9_8 zd_76 wm_X8_313 rfl (Nat.le_of_ble_eq_true rfl) (Nat.le_of_ble_eq_true rfl) rfl (Nat.le_of_ble_eq_true rfl) dX8_part_32 (fun _ s7 => ?_)
    refine zv_aload_n hX dX8_part_35 1 rfl ?_
    refine zv_geta hX wf_X8_57 wc_8 zd_76 zj_76_27 c9_8 zr_76_27 (by decide) dX8_part_36 ?_
    refine zv_iload_n hX dX8_part_39 2 rfl ?_
    refine zv_iald hX dX8_part_40 (fun x8 => ?_)
    exact zv_ireti hX hT dX8_part_41
  · refine zv_bipush (v := (-10 : Int32)) hX dX8_part_16 zi_b_m10 ?_
    refine zv_iload_n hX dX8_part_18 0 rfl ?_
    refine zv_isub hX dX8_part_19 ?_
    exact zv_ireti hX hT dX8_part_20
