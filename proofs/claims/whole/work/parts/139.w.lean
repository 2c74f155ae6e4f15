theorem dX8_whyEngage_0 : decode cX8_whyEngage 0 = .ok (.aload_n 0, 1) := by decide +kernel
theorem dX8_whyEngage_1 : decode cX8_whyEngage 1 = .ok (.lload_n 1, 1) := by decide +kernel
theorem dX8_whyEngage_2 : decode cX8_whyEngage 2 = .ok (.lload_n 3, 1) := by decide +kernel
theorem dX8_whyEngage_3 : decode cX8_whyEngage 3 = .ok (.invokevirtual 290, 3) := by decide +kernel
theorem dX8_whyEngage_6 : decode cX8_whyEngage 6 = .ok (.ifCond .ne 5, 3) := by decide +kernel
theorem dX8_whyEngage_9 : decode cX8_whyEngage 9 = .ok (.iconst 1, 1) := by decide +kernel
theorem dX8_whyEngage_10 : decode cX8_whyEngage 10 = .ok (.ireturn, 1) := by decide +kernel
theorem dX8_whyEngage_11 : decode cX8_whyEngage 11 = .ok (.lload_n 1, 1) := by decide +kernel
theorem dX8_whyEngage_12 : decode cX8_whyEngage 12 = .ok (.l2i, 1) := by decide +kernel
theorem dX8_whyEngage_13 : decode cX8_whyEngage 13 = .ok (.istore 5, 2) := by decide +kernel
theorem dX8_whyEngage_15 : decode cX8_whyEngage 15 = .ok (.lload_n 3, 1) := by decide +kernel
theorem dX8_whyEngage_16 : decode cX8_whyEngage 16 = .ok (.l2i, 1) := by decide +kernel
theorem dX8_whyEngage_17 : decode cX8_whyEngage 17 = .ok (.istore 6, 2) := by decide +kernel
theorem dX8_whyEngage_19 : decode cX8_whyEngage 19 = .ok (.aload_n 0, 1) := by decide +kernel
theorem dX8_whyEngage_20 : decode cX8_whyEngage 20 = .ok (.getfield 13, 3) := by decide +kernel
theorem dX8_whyEngage_23 : decode cX8_whyEngage 23 = .ok (.bipush 22, 2) := by decide +kernel
theorem dX8_whyEngage_25 : decode cX8_whyEngage 25 = .ok (.iload 5, 2) := by decide +kernel
theorem dX8_whyEngage_27 : decode cX8_whyEngage 27 = .ok (.iadd, 1) := by decide +kernel
theorem dX8_whyEngage_28 : decode cX8_whyEngage 28 = .ok (.iaload, 1) := by decide +kernel
theorem dX8_whyEngage_29 : decode cX8_whyEngage 29 = .ok (.iload 6, 2) := by decide +kernel
theorem dX8_whyEngage_31 : decode cX8_whyEngage 31 = .ok (.if_icmp .ne 5, 3) := by decide +kernel
theorem dX8_whyEngage_34 : decode cX8_whyEngage 34 = .ok (.iconst 2, 1) := by decide +kernel
theorem dX8_whyEngage_35 : decode cX8_whyEngage 35 = .ok (.ireturn, 1) := by decide +kernel
theorem dX8_whyEngage_36 : decode cX8_whyEngage 36 = .ok (.aload_n 0, 1) := by decide +kernel
theorem dX8_whyEngage_37 : decode cX8_whyEngage 37 = .ok (.invokevirtual 284, 3) := by decide +kernel
theorem dX8_whyEngage_40 : decode cX8_whyEngage 40 = .ok (.aload_n 0, 1) := by decide +kernel
theorem dX8_whyEngage_41 : decode cX8_whyEngage 41 = .ok (.iload 5, 2) := by decide +kernel
theorem dX8_whyEngage_43 : decode cX8_whyEngage 43 = .ok (.iload 6, 2) := by decide +kernel
theorem dX8_whyEngage_45 : decode cX8_whyEngage 45 = .ok (.invokevirtual 280, 3) := by decide +kernel
theorem dX8_whyEngage_48 : decode cX8_whyEngage 48 = .ok (.ifCond .ne 5, 3) := by decide +kernel
theorem dX8_whyEngage_51 : decode cX8_whyEngage 51 = .ok (.iconst 3, 1) := by decide +kernel
theorem dX8_whyEngage_52 : decode cX8_whyEngage 52 = .ok (.ireturn, 1) := by decide +kernel
theorem dX8_whyEngage_53 : decode cX8_whyEngage 53 = .ok (.aload_n 0, 1) := by decide +kernel
theorem dX8_whyEngage_54 : decode cX8_whyEngage 54 = .ok (.iload 5, 2) := by decide +kernel
theorem dX8_whyEngage_56 : decode cX8_whyEngage 56 = .ok (.iload 6, 2) := by decide +kernel
theorem dX8_whyEngage_58 : decode cX8_whyEngage 58 = .ok (.aload_n 0, 1) := by decide +kernel
theorem dX8_whyEngage_59 : decode cX8_whyEngage 59 = .ok (.getfield 13, 3) := by decide +kernel
theorem dX8_whyEngage_62 : decode cX8_whyEngage 62 = .ok (.bipush 22, 2) := by decide +kernel
theorem dX8_whyEngage_64 : decode cX8_whyEngage 64 = .ok (.iload 5, 2) := by decide +kernel
theorem dX8_whyEngage_66 : decode cX8_whyEngage 66 = .ok (.iadd, 1) := by decide +kernel
theorem dX8_whyEngage_67 : decode cX8_whyEngage 67 = .ok (.iaload, 1) := by decide +kernel
theorem dX8_whyEngage_68 : decode cX8_whyEngage 68 = .ok (.invokevirtual 295, 3) := by decide +kernel
theorem dX8_whyEngage_71 : decode cX8_whyEngage 71 = .ok (.ifCond .eq 28, 3) := by decide +kernel
theorem dX8_whyEngage_74 : decode cX8_whyEngage 74 = .ok (.aload_n 0, 1) := by decide +kernel
theorem dX8_whyEngage_75 : decode cX8_whyEngage 75 = .ok (.iload 6, 2) := by decide +kernel
theorem dX8_whyEngage_77 : decode cX8_whyEngage 77 = .ok (.iload 5, 2) := by decide +kernel
theorem dX8_whyEngage_79 : decode cX8_whyEngage 79 = .ok (.aload_n 0, 1) := by decide +kernel
theorem dX8_whyEngage_80 : decode cX8_whyEngage 80 = .ok (.getfield 13, 3) := by decide +kernel
theorem dX8_whyEngage_83 : decode cX8_whyEngage 83 = .ok (.bipush 22, 2) := by decide +kernel
theorem dX8_whyEngage_85 : decode cX8_whyEngage 85 = .ok (.iload 6, 2) := by decide +kernel
theorem dX8_whyEngage_87 : decode cX8_whyEngage 87 = .ok (.iadd, 1) := by decide +kernel
theorem dX8_whyEngage_88 : decode cX8_whyEngage 88 = .ok (.iaload, 1) := by decide +kernel
theorem dX8_whyEngage_89 : decode cX8_whyEngage 89 = .ok (.invokevirtual 295, 3) := by decide +kernel
theorem dX8_whyEngage_92 : decode cX8_whyEngage 92 = .ok (.ifCond .eq 7, 3) := by decide +kernel
theorem dX8_whyEngage_95 : decode cX8_whyEngage 95 = .ok (.iconst 0, 1) := by decide +kernel
theorem dX8_whyEngage_96 : decode cX8_whyEngage 96 = .ok (.goto 4, 3) := by decide +kernel
theorem dX8_whyEngage_99 : decode cX8_whyEngage 99 = .ok (.iconst 4, 1) := by decide +kernel
theorem dX8_whyEngage_100 : decode cX8_whyEngage 100 = .ok (.ireturn, 1) := by decide +kernel
def f_X8_whyEngage_100 (w0 : Int32) (s : zS) : Option (Int32 × zS) :=
  some (w0, s)
set_option maxRecDepth 20000 in
theorem b_X8_whyEngage_100 {X : zX} (hX : zx_ok X cX8_whyEngage RX8 7) (hT : zx_rt X (some .int) (zR 71 1755)) : ∀ (w0 : Int32) (s : zS), zV X (zq X zrI) 7 100 [] [.int w0] s (f_X8_whyEngage_100 w0 s) := by
  intro w0 s
  unfold f_X8_whyEngage_100
  exact zv_ireti hX hT dX8_whyEngage_100
def f_X8_whyEngage_99  (s : zS) : Option (Int32 × zS) :=
  f_X8_whyEngage_100 (nI 4) s
set_option maxRecDepth 20000 in
theorem b_X8_whyEngage_99 {X : zX} (hX : zx_ok X cX8_whyEngage RX8 7) (hT : zx_rt X (some .int) (zR 71 1755)) : ∀  (s : zS), zV X (zq X zrI) 7 99 [] [] s (f_X8_whyEngage_99  s) := by
  intro  s
  unfold f_X8_whyEngage_99
  refine zv_iconst (v := (nI 4)) hX dX8_whyEngage_99 zi_i_4 ?_
  exact b_X8_whyEngage_100 hX hT (nI 4) s
def f_X8_whyEngage (v1 : Int64) (v3 : Int64) (s : zS) : Option (Int32 × zS) :=
  zbd (f_X8_areTwo v1 v3 s) fun r1 s2 =>
  if ¬ r1 = 0 then
  (zb (v1.toInt32) fun x3 =>
  zb (v3.toInt32) fun x4 =>
  (zr_i s2 77 ((nI 22) + x3)).bind fun x5 =>
  if ¬ x5 = x4 then
  (zbd (f_X8_lays s2) fun _ s6 =>
  zbd (f_X8_areMatch x3 x4 s6) fun r7 s8 =>
  if ¬ r7 = 0 then
  ((zr_i s8 77 ((nI 22) + x3)).bind fun x9 =>
  zbd (f_X8_likesMore x3 x4 x9 s8) fun r10 s11 =>
  if r10 = 0 then
  (f_X8_whyEngage_99 s11)
  else
  (zr_i s11 77 ((nI 22) + x4)).bind fun x12 =>
  zbd (f_X8_likesMore x4 x3 x12 s11) fun r13 s14 =>
  if r13 = 0 then
  (f_X8_whyEngage_99 s14)
  else
  f_X8_whyEngage_100 (0 : Int32) s14)
  else
  some ((nI 3), s8))
  else
  some ((nI 2), s2))
  else
  some ((1 : Int32), s2)
set_option maxRecDepth 20000 in
theorem c_X8_whyEngage (Y : zG) (v1 : Int64) (v3 : Int64) (s : zS) : zM Y yX8_whyEngage cX8_whyEngage 7 (some .int) (zR 71 1755) [.ref (zy_a Y 76), .long v1, .long v3] s zrI (f_X8_whyEngage v1 v3 s) := by
  refine zm_start (by decide +kernel) (Nat.le_of_ble_eq_true rfl) ?_
  intro X hY hT hX
  subst hY
  have hX : zx_ok X cX8_whyEngage RX8 7 := hX
  show zV X (zq X zrI) 7 0 [(0, .ref (zx_ad X 76)), (1, .long v1), (3, .long v3)] [] s _
  unfold f_X8_whyEngage
  refine zv_aload_n hX dX8_whyEngage_0 0 rfl ?_
  refine zv_lload_n hX dX8_whyEngage_1 1 rfl ?_
  refine zv_lload_n hX dX8_whyEngage_2 2 rfl ?_
  refine zv_cVI [.long v1, .long v3] (rest := []) hX hT.2.2.2.2 (c_X8_areTwo (zx_Y X) v1 v3 s) wv_X8_areTwo c9_8 zd_76 wm_X8_290 rfl (Nat.le_of_ble_eq_true rfl) (Nat.le_of_ble_eq_true rfl) rfl (Nat.le_of_ble_eq_true rfl) dX8_whyEngage_3 (fun r1 s2 => ?_)
  refine zv_if_ne (tgt := 11) hX dX8_whyEngage_6 rfl ?_ ?_
  · refine zv_lload_n hX dX8_whyEngage_11 1 rfl ?_
    refine zv_l2i hX dX8_whyEngage_12 ?_
    refine zv_istB (lw := fun x3 => [(5, .int x3), (0, .ref (zx_ad X 76)), (1, .long v1), (3, .long v3)]) hX dX8_whyEngage_13 (by decide) (fun _ => rfl) (fun x3 => ?_)
    refine zv_lload_n hX dX8_whyEngage_15 3 rfl ?_
    refine zv_l2i hX dX8_whyEngage_16 ?_
    refine zv_istB (lw := fun x4 => [(6, .int x4), (5, .int x3), (0, .ref (zx_ad X 76)), (1, .long v1), (3, .long v3)]) hX dX8_whyEngage_17 (by decide) (fun _ => rfl) (fun x4 => ?_)
    refine zv_aload_n hX dX8_whyEngage_19 2 rfl ?_
    refine zv_geta hX wf_X8_13 wc_8 zd_76 zj_76_1 c9_8 zr_76_1 (by decide) dX8_whyEngage_20 ?_
    refine zv_bipush (v := (nI 22)) hX dX8_whyEngage_23 zi_b_22 ?_
    refine zv_iload hX dX8_whyEngage_25 1 rfl ?_
    refine zv_iadd hX dX8_whyEngage_27 ?_
    refine zv_iald hX dX8_whyEngage_28 (fun x5 => ?_)
    refine zv_iload hX dX8_whyEngage_29 0 rfl ?_
    refine zv_icmp_ne (tgt := 36) hX dX8_whyEngage_31 rfl ?_ ?_
    · refine zv_aload_n hX dX8_whyEngage_36 2 rfl ?_
      refine zv_cVV [] (rest := []) hX hT.2.2.2.2 (c_X8_lays (zx_Y X) s2) wv_X8_lays c9_8 zd_76 wm_X8_284 rfl (Nat.le_of_ble_eq_true rfl) (Nat.le_of_ble_eq_true rfl) rfl (Nat.le_of_ble_eq_true rfl) dX8_whyEngage_37 (fun _ s6 => ?_)
      refine zv_aload_n hX dX8_whyEngage_40 2 rfl ?_
      refine zv_iload hX dX8_whyEngage_41 1 rfl ?_
      refine zv_iload hX dX8_whyEngage_43 0 rfl ?_
      refine zv_cVI [.int x3, .int x4] (rest := []) hX hT.2.2.2.2 (c_X8_areMatch (zx_Y X) x3 x4 s6) wv_X8_areMatch c9_8 zd_76 wm_X8_280 rfl (Nat.le_of_ble_eq_true rfl) (Nat.le_of_ble_eq_true rfl) rfl (Nat.le_of_ble_eq_true rfl) dX8_whyEngage_45 (fun r7 s8 => ?_)
      refine zv_if_ne (tgt := 53) hX dX8_whyEngage_48 rfl ?_ ?_
      · refine zv_aload_n hX dX8_whyEngage_53 2 rfl ?_
        refine zv_iload hX dX8_whyEngage_54 1 rfl ?_
        refine zv_iload hX dX8_whyEngage_56 0 rfl ?_
        refine zv_aload_n hX dX8_whyEngage_58 2 rfl ?_
        refine zv_geta hX wf_X8_13 wc_8 zd_76 zj_76_1 c9_8 zr_76_1 (by decide) dX8_whyEngage_59 ?_
        refine zv_bipush (v := (nI 22)) hX dX8_whyEngage_62 zi_b_22 ?_
        refine zv_iload hX dX8_whyEngage_64 1 rfl ?_
        refine zv_iadd hX dX8_whyEngage_66 ?_
        refine zv_iald hX dX8_whyEngage_67 (fun x9 => ?_)
        refine zv_cVI [.int x3, .int x4, .int x9] (rest := []) hX hT.2.2.2.2 (c_X8_likesMore (zx_Y X) x3 x4 x9 s8) wv_X8_likesMore c9_8 zd_76 wm_X8_295 rfl (Nat.le_of_ble_eq_true rfl) (Nat.le_of_ble_eq_true rfl) rfl (Nat.le_of_ble_eq_true rfl) dX8_whyEngage_68 (fun r10 s11 => ?_)
        refine zv_if_eq (tgt := 99) hX dX8_whyEngage_71 rfl ?_ ?_
        · exact zv_sub [] rfl (b_X8_whyEngage_99 hX hT  s11)
        · refine zv_aload_n hX dX8_whyEngage_74 2 rfl ?_
          refine zv_iload hX dX8_whyEngage_75 0 rfl ?_
          refine zv_iload hX dX8_whyEngage_77 1 rfl ?_
          refine zv_aload_n hX dX8_whyEngage_79 2 rfl ?_
          refine zv_geta hX wf_X8_13 wc_8 zd_76 zj_76_1 c9_8 zr_76_1 (by decide) dX8_whyEngage_80 ?_
          refine zv_bipush (v := (nI 22)) hX dX8_whyEngage_83 zi_b_22 ?_
          refine zv_iload hX dX8_whyEngage_85 0 rfl ?_
          refine zv_iadd hX dX8_whyEngage_87 ?_
          refine zv_iald hX dX8_whyEngage_88 (fun x12 => ?_)
          refine zv_cVI [.int x4, .int x3, .int x12] (rest := []) hX hT.2.2.2.2 (c_X8_likesMore (zx_Y X) x4 x3 x12 s11) wv_X8_likesMore c9_8 zd_76 wm_X8_295 rfl (Nat.le_of_ble_eq_true rfl) (Nat.le_of_ble_eq_true rfl) rfl (Nat.le_of_ble_eq_true rfl) dX8_whyEngage_89 (fun r13 s14 => ?_)
          refine zv_if_eq (tgt := 99) hX dX8_whyEngage_92 rfl ?_ ?_
          · exact zv_sub [] rfl (b_X8_whyEngage_99 hX hT  s14)
          · refine zv_iconst (v := (0 : Int32)) hX dX8_whyEngage_95 zi_i_0 ?_
            refine zv_goto (tgt := 100) hX dX8_whyEngage_96 rfl ?_
            exact zv_sub [] rfl (b_X8_whyEngage_100 hX hT (0 : Int32) s14)
      · refine zv_iconst (v := (nI 3)) hX dX8_whyEngage_51 zi_i_3 ?_
        exact zv_ireti hX hT dX8_whyEngage_52
    · refine zv_iconst (v := (nI 2)) hX dX8_whyEngage_34 zi_i_2 ?_
      exact zv_ireti hX hT dX8_whyEngage_35
  · refine zv_iconst (v := (1 : Int32)) hX dX8_whyEngage_9 zi_i_1 ?_
    exact zv_ireti hX hT dX8_whyEngage_10
theorem dX8_engage_0 : decode cX8_engage 0 = .ok (.aload_n 0, 1) := by decide +kernel
theorem dX8_engage_1 : decode cX8_engage 1 = .ok (.iconst 0, 1) := by decide +kernel
theorem dX8_engage_2 : decode cX8_engage 2 = .ok (.putfield 1, 3) := by decide +kernel
theorem dX8_engage_5 : decode cX8_engage 5 = .ok (.aload_n 0, 1) := by decide +kernel
theorem dX8_engage_6 : decode cX8_engage 6 = .ok (.iload_n 1, 1) := by decide +kernel
theorem dX8_engage_7 : decode cX8_engage 7 = .ok (.i2l, 1) := by decide +kernel
theorem dX8_engage_8 : decode cX8_engage 8 = .ok (.iload_n 2, 1) := by decide +kernel
theorem dX8_engage_9 : decode cX8_engage 9 = .ok (.i2l, 1) := by decide +kernel
theorem dX8_engage_10 : decode cX8_engage 10 = .ok (.invokevirtual 303, 3) := by decide +kernel
theorem dX8_engage_13 : decode cX8_engage 13 = .ok (.istore_n 3, 1) := by decide +kernel
theorem dX8_engage_14 : decode cX8_engage 14 = .ok (.iload_n 3, 1) := by decide +kernel
theorem dX8_engage_15 : decode cX8_engage 15 = .ok (.ifCond .eq 8, 3) := by decide +kernel
theorem dX8_engage_18 : decode cX8_engage 18 = .ok (.bipush (-10), 2) := by decide +kernel
theorem dX8_engage_20 : decode cX8_engage 20 = .ok (.iload_n 3, 1) := by decide +kernel
theorem dX8_engage_21 : decode cX8_engage 21 = .ok (.isub, 1) := by decide +kernel
theorem dX8_engage_22 : decode cX8_engage 22 = .ok (.ireturn, 1) := by decide +kernel
theorem dX8_engage_23 : decode cX8_engage 23 = .ok (.aload_n 0, 1) := by decide +kernel
theorem dX8_engage_24 : decode cX8_engage 24 = .ok (.invokevirtual 307, 3) := by decide +kernel
theorem dX8_engage_27 : decode cX8_engage 27 = .ok (.aload_n 0, 1) := by decide +kernel
theorem dX8_engage_28 : decode cX8_engage 28 = .ok (.iload_n 1, 1) := by decide +kernel
theorem dX8_engage_29 : decode cX8_engage 29 = .ok (.iload_n 2, 1) := by decide +kernel
theorem dX8_engage_30 : decode cX8_engage 30 = .ok (.invokevirtual 310, 3) := by decide +kernel
theorem dX8_engage_33 : decode cX8_engage 33 = .ok (.istore 4, 2) := by decide +kernel
theorem dX8_engage_35 : decode cX8_engage 35 = .ok (.aload_n 0, 1) := by decide +kernel
theorem dX8_engage_36 : decode cX8_engage 36 = .ok (.invokevirtual 313, 3) := by decide +kernel
theorem dX8_engage_39 : decode cX8_engage 39 = .ok (.iload 4, 2) := by decide +kernel
theorem dX8_engage_41 : decode cX8_engage 41 = .ok (.ireturn, 1) := by decide +kernel
def f_X8_engage (v1 : Int32) (v2 : Int32) (s : zS) : Option (Int32 × zS) :=
  zb (zs_i s 76 0 (0 : Int32)) fun s1 =>
  zbd (f_X8_whyEngage (v1.toInt64) (v2.toInt64) s1) fun r2 s3 =>
  if r2 = 0 then
  (zbd (f_X8_keeps s3) fun _ s4 =>
  zbd (f_X8_engages v1 v2 s4) fun r5 s6 =>
  zbd (f_X8_notes s6) fun _ s7 =>
  some (r5, s7))
  else
  some ((-10 : Int32) - r2, s3)
set_option maxRecDepth 20000 in
theorem c_X8_engage (Y : zG) (v1 : Int32) (v2 : Int32) (s : zS) : zM Y yX8_engage cX8_engage 5 (some .int) (zR 72 1781) [.ref (zy_a Y 76), .int v1, .int v2] s zrI (f_X8_engage v1 v2 s) := by
  refine zm_start (by decide +kernel) (Nat.le_of_ble_eq_true rfl) ?_
  intro X hY hT hX
  subst hY
  have hX : zx_ok X cX8_engage RX8 5 := hX
  show zV X (zq X zrI) 5 0 [(0, .ref (zx_ad X 76)), (1, .int v1), (2, .int v2)] [] s _
  unfold f_X8_engage
  refine zv_aload_n hX dX8_engage_0 0 rfl ?_
  refine zv_iconst (v := (0 : Int32)) hX dX8_engage_1 zi_i_0 ?_
  refine zv_puti hX wf_X8_1 wc_8 wk_8_0 zd_76 zj_76_0 c9_8 zr_76_0 dX8_engage_2 (fun s1 => ?_)
  refine zv_aload_n hX dX8_engage_5 0 rfl ?_
  refine zv_iload_n hX dX8_engage_6 1 rfl ?_
  refine zv_i2l hX dX8_engage_7 ?_
  refine zv_iload_n hX dX8_engage_8 2 rfl ?_
  refine zv_i2l hX dX8_engage_9 ?_
  refine zv_cVI [.long (v1.toInt64), .long (v2.toInt64)] (rest := []) hX hT.2.2.2.2 (c_X8_whyEngage (zx_Y X) (v1.toInt64) (v2.toInt64) s1) wv_X8_whyEngage c9_8 zd_76 wm_X8_303 rfl (Nat.le_of_ble_eq_true rfl) (Nat.le_of_ble_eq_true rfl) rfl (Nat.le_of_ble_eq_true rfl) dX8_engage_10 (fun r2 s3 => ?_)
  refine zv_istore_n (lv' := [(3, .int r2), (0, .ref (zx_ad X 76)), (1, .int v1), (2, .int v2)]) hX dX8_engage_13 (by decide) rfl ?_
  refine zv_iload_n hX dX8_engage_14 0 rfl ?_
  refine zv_if_eq (tgt := 23) hX dX8_engage_15 rfl ?_ ?_
  · refine zv_aload_n hX dX8_engage_23 1 rfl ?_
    refine zv_cVV [] (rest := []) hX hT.2.2.2.2 (c_X8_keeps (zx_Y X) s3) wv_X8_keeps c9_8 zd_76 wm_X8_307 rfl (Nat.le_of_ble_eq_true rfl) (Nat.le_of_ble_eq_true rfl) rfl (Nat.le_of_ble_eq_true rfl) dX8_engage_24 (fun _ s4 => ?_)
    refine zv_aload_n hX dX8_engage_27 1 rfl ?_
    refine zv_iload_n hX dX8_engage_28 2 rfl ?_
    refine zv_iload_n hX dX8_engage_29 3 rfl ?_
    refine zv_cVI [.int v1, .int v2] (rest := []) hX hT.2.2.2.2 (c_X8_engages (zx_Y X) v1 v2 s4) wv_X8_engages c9_8 zd_76 wm_X8_310 rfl (Nat.le_of_ble_eq_true rfl) (Nat.le_of_ble_eq_true rfl) rfl (Nat.le_of_ble_eq_true rfl) dX8_engage_30 (fun r5 s6 => ?_)
    refine zv_istore (lv' := [(4, .int r5), (3, .int r2), (0, .ref (zx_ad X 76)), (1, .int v1), (2, .int v2)]) hX dX8_engage_33 (by decide) rfl ?_
    refine zv_aload_n hX dX8_engage_35 2 rfl ?_
    refine zv_cVV [] (rest := []) hX hT.2.2.2.2 (c_X8_notes (zx_Y X) s6) wv_X8_notes c9_8 zd_76 wm_X8_313 rfl (Nat.le_of_ble_eq_true rfl) (Nat.le_of_ble_eq_true rfl) rfl (Nat.le_of_ble_eq_true rfl) dX8_engage_36 (fun _ s7 => ?_)
    refine zv_iload hX dX8_engage_39 0 rfl ?_
    exact zv_ireti hX hT dX8_engage_41
  · refine zv_bipush (v := (-10 : Int32)) hX dX8_engage_18 zi_b_m10 ?_
    refine zv_iload_n hX dX8_engage_20 0 rfl ?_
    refine zv_isub hX dX8_engage_21 ?_
    exact zv_ireti hX hT dX8_engage_22
theorem dX8_fault_0 : decode cX8_fault 0 = .ok (.aload_n 0, 1) := by decide +kernel
theorem dX8_fault_1 : decode cX8_fault 1 = .ok (.iconst 0, 1) := by decide +kernel
theorem dX8_fault_2 : decode cX8_fault 2 = .ok (.putfield 1, 3) := by decide +kernel
theorem dX8_fault_5 : decode cX8_fault 5 = .ok (.iload_n 1, 1) := by decide +kernel
theorem dX8_fault_6 : decode cX8_fault 6 = .ok (.ifCond .ne 10, 3) := by decide +kernel
theorem dX8_fault_9 : decode cX8_fault 9 = .ok (.aload_n 0, 1) := by decide +kernel
theorem dX8_fault_10 : decode cX8_fault 10 = .ok (.getfield 216, 3) := by decide +kernel
theorem dX8_fault_13 : decode cX8_fault 13 = .ok (.goto 16, 3) := by decide +kernel
theorem dX8_fault_16 : decode cX8_fault 16 = .ok (.iload_n 1, 1) := by decide +kernel
theorem dX8_fault_17 : decode cX8_fault 17 = .ok (.iconst 1, 1) := by decide +kernel
theorem dX8_fault_18 : decode cX8_fault 18 = .ok (.if_icmp .ne 10, 3) := by decide +kernel
theorem dX8_fault_21 : decode cX8_fault 21 = .ok (.aload_n 0, 1) := by decide +kernel
theorem dX8_fault_22 : decode cX8_fault 22 = .ok (.getfield 27, 3) := by decide +kernel
theorem dX8_fault_25 : decode cX8_fault 25 = .ok (.goto 4, 3) := by decide +kernel
theorem dX8_fault_28 : decode cX8_fault 28 = .ok (.iconst (-1), 1) := by decide +kernel
theorem dX8_fault_29 : decode cX8_fault 29 = .ok (.ireturn, 1) := by decide +kernel
def f_X8_fault_29 (w0 : Int32) (s : zS) : Option (Int32 × zS) :=
  some (w0, s)
set_option maxRecDepth 20000 in
theorem b_X8_fault_29 {X : zX} (hX : zx_ok X cX8_fault RX8 2) (hT : zx_rt X (some .int) (zR 0 0)) : ∀ (w0 : Int32) (s : zS), zV X (zq X zrI) 2 29 [] [.int w0] s (f_X8_fault_29 w0 s) := by
  intro w0 s
  unfold f_X8_fault_29
  exact zv_ireti hX hT dX8_fault_29
def f_X8_fault (v1 : Int32) (s : zS) : Option (Int32 × zS) :=
  zb (zs_i s 76 0 (0 : Int32)) fun s1 =>
  if ¬ v1 = 0 then
  (if ¬ v1 = (1 : Int32) then
  (f_X8_fault_29 (-1 : Int32) s1)
  else
  f_X8_fault_29 (s1.1 76 14) s1)
  else
  f_X8_fault_29 (s1.1 76 13) s1
set_option maxRecDepth 20000 in
theorem c_X8_fault (Y : zG) (v1 : Int32) (s : zS) : zM Y yX8_fault cX8_fault 2 (some .int) (zR 0 0) [.ref (zy_a Y 76), .int v1] s zrI (f_X8_fault v1 s) := by
  refine zm_start (by decide +kernel) (Nat.le_of_ble_eq_true rfl) ?_
  intro X hY hT hX
  subst hY
  have hX : zx_ok X cX8_fault RX8 2 := hX
  show zV X (zq X zrI) 2 0 [(0, .ref (zx_ad X 76)), (1, .int v1)] [] s _
  unfold f_X8_fault
  refine zv_aload_n hX dX8_fault_0 0 rfl ?_
  refine zv_iconst (v := (0 : Int32)) hX dX8_fault_1 zi_i_0 ?_
  refine zv_puti hX wf_X8_1 wc_8 wk_8_0 zd_76 zj_76_0 c9_8 zr_76_0 dX8_fault_2 (fun s1 => ?_)
  refine zv_iload_n hX dX8_fault_5 1 rfl ?_
  refine zv_if_ne (tgt := 16) hX dX8_fault_6 rfl ?_ ?_
  · refine zv_iload_n hX dX8_fault_16 1 rfl ?_
    refine zv_iconst (v := (1 : Int32)) hX dX8_fault_17 zi_i_1 ?_
    refine zv_icmp_ne (tgt := 28) hX dX8_fault_18 rfl ?_ ?_
    · refine zv_iconst (v := (-1 : Int32)) hX dX8_fault_28 zi_i_m1 ?_
      exact zv_sub [] rfl (b_X8_fault_29 hX hT (-1 : Int32) s1)
    · refine zv_aload_n hX dX8_fault_21 0 rfl ?_
      refine zv_geti hX wf_X8_27 wc_8 zd_76 zj_76_14 c9_8 zr_76_14 dX8_fault_22 ?_
      refine zv_goto (tgt := 29) hX dX8_fault_25 rfl ?_
      exact zv_sub [] rfl (b_X8_fault_29 hX hT (s1.1 76 14) s1)
  · refine zv_aload_n hX dX8_fault_9 0 rfl ?_
    refine zv_geti hX wf_X8_216 wc_8 zd_76 zj_76_13 c9_8 zr_76_13 dX8_fault_10 ?_
    refine zv_goto (tgt := 29) hX dX8_fault_13 rfl ?_
    exact zv_sub [] rfl (b_X8_fault_29 hX hT (s1.1 76 13) s1)
theorem dX8_feed_0 : decode cX8_feed 0 = .ok (.aload_n 0, 1) := by decide +kernel
theorem dX8_feed_1 : decode cX8_feed 1 = .ok (.iconst 0, 1) := by decide +kernel
theorem dX8_feed_2 : decode cX8_feed 2 = .ok (.putfield 1, 3) := by decide +kernel
theorem dX8_feed_5 : decode cX8_feed 5 = .ok (.aload_n 0, 1) := by decide +kernel
theorem dX8_feed_6 : decode cX8_feed 6 = .ok (.getfield 92, 3) := by decide +kernel
theorem dX8_feed_9 : decode cX8_feed 9 = .ok (.bipush 20, 2) := by decide +kernel
theorem dX8_feed_11 : decode cX8_feed 11 = .ok (.iadd, 1) := by decide +kernel
theorem dX8_feed_12 : decode cX8_feed 12 = .ok (.sipush 900, 3) := by decide +kernel
theorem dX8_feed_15 : decode cX8_feed 15 = .ok (.if_icmp .le 6, 3) := by decide +kernel
theorem dX8_feed_18 : decode cX8_feed 18 = .ok (.bipush (-5), 2) := by decide +kernel
theorem dX8_feed_20 : decode cX8_feed 20 = .ok (.ireturn, 1) := by decide +kernel
theorem dX8_feed_21 : decode cX8_feed 21 = .ok (.iconst 0, 1) := by decide +kernel
theorem dX8_feed_22 : decode cX8_feed 22 = .ok (.istore 6, 2) := by decide +kernel
theorem dX8_feed_24 : decode cX8_feed 24 = .ok (.iload 6, 2) := by decide +kernel
theorem dX8_feed_26 : decode cX8_feed 26 = .ok (.bipush 20, 2) := by decide +kernel
theorem dX8_feed_28 : decode cX8_feed 28 = .ok (.if_icmp .ge 93, 3) := by decide +kernel
theorem dX8_feed_31 : decode cX8_feed 31 = .ok (.iload 6, 2) := by decide +kernel
theorem dX8_feed_33 : decode cX8_feed 33 = .ok (.iconst 4, 1) := by decide +kernel
theorem dX8_feed_34 : decode cX8_feed 34 = .ok (.if_icmp .ge 7, 3) := by decide +kernel
theorem dX8_feed_37 : decode cX8_feed 37 = .ok (.iload_n 1, 1) := by decide +kernel
theorem dX8_feed_38 : decode cX8_feed 38 = .ok (.goto 39, 3) := by decide +kernel
theorem dX8_feed_41 : decode cX8_feed 41 = .ok (.iload 6, 2) := by decide +kernel
theorem dX8_feed_43 : decode cX8_feed 43 = .ok (.bipush 8, 2) := by decide +kernel
theorem dX8_feed_45 : decode cX8_feed 45 = .ok (.if_icmp .ge 7, 3) := by decide +kernel
theorem dX8_feed_48 : decode cX8_feed 48 = .ok (.iload_n 2, 1) := by decide +kernel
theorem dX8_feed_49 : decode cX8_feed 49 = .ok (.goto 28, 3) := by decide +kernel
theorem dX8_feed_52 : decode cX8_feed 52 = .ok (.iload 6, 2) := by decide +kernel
theorem dX8_feed_54 : decode cX8_feed 54 = .ok (.bipush 12, 2) := by decide +kernel
theorem dX8_feed_56 : decode cX8_feed 56 = .ok (.if_icmp .ge 7, 3) := by decide +kernel
theorem dX8_feed_59 : decode cX8_feed 59 = .ok (.iload_n 3, 1) := by decide +kernel
theorem dX8_feed_60 : decode cX8_feed 60 = .ok (.goto 17, 3) := by decide +kernel
theorem dX8_feed_63 : decode cX8_feed 63 = .ok (.iload 6, 2) := by decide +kernel
theorem dX8_feed_65 : decode cX8_feed 65 = .ok (.bipush 16, 2) := by decide +kernel
theorem dX8_feed_67 : decode cX8_feed 67 = .ok (.if_icmp .ge 8, 3) := by decide +kernel
theorem dX8_feed_70 : decode cX8_feed 70 = .ok (.iload 4, 2) := by decide +kernel
theorem dX8_feed_72 : decode cX8_feed 72 = .ok (.goto 5, 3) := by decide +kernel
theorem dX8_feed_75 : decode cX8_feed 75 = .ok (.iload 5, 2) := by decide +kernel
theorem dX8_feed_77 : decode cX8_feed 77 = .ok (.istore 7, 2) := by decide +kernel
theorem dX8_feed_79 : decode cX8_feed 79 = .ok (.aload_n 0, 1) := by decide +kernel
theorem dX8_feed_80 : decode cX8_feed 80 = .ok (.getfield 21, 3) := by decide +kernel
theorem dX8_feed_83 : decode cX8_feed 83 = .ok (.aload_n 0, 1) := by decide +kernel
theorem dX8_feed_84 : decode cX8_feed 84 = .ok (.getfield 92, 3) := by decide +kernel
theorem dX8_feed_87 : decode cX8_feed 87 = .ok (.iload 7, 2) := by decide +kernel
theorem dX8_feed_89 : decode cX8_feed 89 = .ok (.bipush 24, 2) := by decide +kernel
theorem dX8_feed_91 : decode cX8_feed 91 = .ok (.bipush 8, 2) := by decide +kernel
theorem dX8_feed_93 : decode cX8_feed 93 = .ok (.iload 6, 2) := by decide +kernel
theorem dX8_feed_95 : decode cX8_feed 95 = .ok (.iconst 4, 1) := by decide +kernel
theorem dX8_feed_96 : decode cX8_feed 96 = .ok (.irem, 1) := by decide +kernel
theorem dX8_feed_97 : decode cX8_feed 97 = .ok (.imul, 1) := by decide +kernel
theorem dX8_feed_98 : decode cX8_feed 98 = .ok (.isub, 1) := by decide +kernel
theorem dX8_feed_99 : decode cX8_feed 99 = .ok (.ishr, 1) := by decide +kernel
theorem dX8_feed_100 : decode cX8_feed 100 = .ok (.sipush 255, 3) := by decide +kernel
theorem dX8_feed_103 : decode cX8_feed 103 = .ok (.iand, 1) := by decide +kernel
theorem dX8_feed_104 : decode cX8_feed 104 = .ok (.iastore, 1) := by decide +kernel
theorem dX8_feed_105 : decode cX8_feed 105 = .ok (.aload_n 0, 1) := by decide +kernel
theorem dX8_feed_106 : decode cX8_feed 106 = .ok (.dup, 1) := by decide +kernel
theorem dX8_feed_107 : decode cX8_feed 107 = .ok (.getfield 92, 3) := by decide +kernel
theorem dX8_feed_110 : decode cX8_feed 110 = .ok (.iconst 1, 1) := by decide +kernel
theorem dX8_feed_111 : decode cX8_feed 111 = .ok (.iadd, 1) := by decide +kernel
theorem dX8_feed_112 : decode cX8_feed 112 = .ok (.putfield 92, 3) := by decide +kernel
theorem dX8_feed_115 : decode cX8_feed 115 = .ok (.iinc 6 1, 3) := by decide +kernel
theorem dX8_feed_118 : decode cX8_feed 118 = .ok (.goto (-94), 3) := by decide +kernel
theorem dX8_feed_121 : decode cX8_feed 121 = .ok (.aload_n 0, 1) := by decide +kernel
theorem dX8_feed_122 : decode cX8_feed 122 = .ok (.getfield 92, 3) := by decide +kernel
theorem dX8_feed_125 : decode cX8_feed 125 = .ok (.ireturn, 1) := by decide +kernel
def f_X8_feed_77 (kb_24 : Int32 → Int32 → Int32 → Int32 → Int32 → Int32 → zS → Option (Int32 × zS)) (v1 : Int32) (v2 : Int32) (v3 : Int32) (v4 : Int32) (v5 : Int32) (v6 : Int32) (w0 : Int32) (s : zS) : Option (Int32 × zS) :=
  (zw_i s 79 (s.1 76 5) ((zo_shr w0 ((nI 24) - ((nI 8) * (zo_rem v6 (nI 4))))) &&& (nI 255))).bind fun s1 =>
  zb (zs_i s1 76 5 ((s1.1 76 5) + (1 : Int32))) fun s2 =>
  zb (v6 + (1 : Int32)) fun x3 =>
  kb_24 v1 v2 v3 v4 v5 x3 s2
set_option maxRecDepth 20000 in
theorem b_X8_feed_77 {X : zX} {kb_24 : Int32 → Int32 → Int32 → Int32 → Int32 → Int32 → zS → Option (Int32 × zS)} (hX : zx_ok X cX8_feed RX8 8) (hT : zx_rt X (some .int) (zR 0 0)) (hk_24 : ∀ (v1 : Int32) (v2 : Int32) (v3 : Int32) (v4 : Int32) (v5 : Int32) (v6 : Int32) (s : zS), zV X (zq X zrI) 8 24 [(0, .ref (zx_ad X 76)), (1, .int v1), (2, .int v2), (3, .int v3), (4, .int v4), (5, .int v5), (6, .int v6)] [] s (kb_24 v1 v2 v3 v4 v5 v6 s)) : ∀ (v1 : Int32) (v2 : Int32) (v3 : Int32) (v4 : Int32) (v5 : Int32) (v6 : Int32) (w0 : Int32) (s : zS), zV X (zq X zrI) 8 77 [(0, .ref (zx_ad X 76)), (1, .int v1), (2, .int v2), (3, .int v3), (4, .int v4), (5, .int v5), (6, .int v6)] [.int w0] s (f_X8_feed_77 kb_24 v1 v2 v3 v4 v5 v6 w0 s) := by
  intro v1 v2 v3 v4 v5 v6 w0 s
  unfold f_X8_feed_77
  refine zv_istore (lv' := [(7, .int w0), (0, .ref (zx_ad X 76)), (1, .int v1), (2, .int v2), (3, .int v3), (4, .int v4), (5, .int v5), (6, .int v6)]) hX dX8_feed_77 (by decide) rfl ?_
  refine zv_aload_n hX dX8_feed_79 1 rfl ?_
  refine zv_geta hX wf_X8_21 wc_8 zd_76 zj_76_3 c9_8 zr_76_3 (by decide) dX8_feed_80 ?_
  refine zv_aload_n hX dX8_feed_83 1 rfl ?_
  refine zv_geti hX wf_X8_92 wc_8 zd_76 zj_76_5 c9_8 zr_76_5 dX8_feed_84 ?_
  refine zv_iload hX dX8_feed_87 0 rfl ?_
  refine zv_bipush (v := (nI 24)) hX dX8_feed_89 zi_b_24 ?_
  refine zv_bipush (v := (nI 8)) hX dX8_feed_91 zi_b_8 ?_
  refine zv_iload hX dX8_feed_93 7 rfl ?_
  refine zv_iconst (v := (nI 4)) hX dX8_feed_95 zi_i_4 ?_
  refine zv_irem hX dX8_feed_96 (by decide) ?_
  refine zv_imul hX dX8_feed_97 ?_
  refine zv_isub hX dX8_feed_98 ?_
  refine zv_ishr hX dX8_feed_99 ?_
  refine zv_sipush (v := (nI 255)) hX dX8_feed_100 zi_s_255 ?_
  refine zv_iand hX dX8_feed_103 ?_
  refine zv_iast hX dX8_feed_104 (fun s1 => ?_)
  refine zv_aload_n hX dX8_feed_105 1 rfl ?_
  refine zv_dup hX dX8_feed_106 rfl ?_
  refine zv_geti hX wf_X8_92 wc_8 zd_76 zj_76_5 c9_8 zr_76_5 dX8_feed_107 ?_
  refine zv_iconst (v := (1 : Int32)) hX dX8_feed_110 zi_i_1 ?_
  refine zv_iadd hX dX8_feed_111 ?_
  refine zv_puti hX wf_X8_92 wc_8 wk_8_5 zd_76 zj_76_5 c9_8 zr_76_5 dX8_feed_112 (fun s2 => ?_)
  refine zv_iincB (lw := fun x3 => [(6, .int x3), (7, .int w0), (0, .ref (zx_ad X 76)), (1, .int v1), (2, .int v2), (3, .int v3), (4, .int v4), (5, .int v5)]) hX dX8_feed_115 7 rfl zi_i_1 (by decide) (fun _ => rfl) (fun x3 => ?_)
  refine zv_goto (tgt := 24) hX dX8_feed_118 rfl ?_
  exact zv_sub [2, 3, 4, 5, 6, 7, 0] rfl (hk_24 v1 v2 v3 v4 v5 x3 s2)
def f_X8_feed_24 : Nat → Int32 → Int32 → Int32 → Int32 → Int32 → Int32 → zS → Option (Int32 × zS)
  | 0, _, _, _, _, _, _, _ => none
  | n + 1, v1, v2, v3, v4, v5, v6, s =>
    if (nI 20) ≤ v6 then
    (some (s.1 76 5, s))
    else
    if (nI 4) ≤ v6 then
    (if (nI 8) ≤ v6 then
    (if (nI 12) ≤ v6 then
    (if (nI 16) ≤ v6 then
    (f_X8_feed_77 (f_X8_feed_24 n) v1 v2 v3 v4 v5 v6 v5 s)
    else
    f_X8_feed_77 (f_X8_feed_24 n) v1 v2 v3 v4 v5 v6 v4 s)
    else
    f_X8_feed_77 (f_X8_feed_24 n) v1 v2 v3 v4 v5 v6 v3 s)
    else
    f_X8_feed_77 (f_X8_feed_24 n) v1 v2 v3 v4 v5 v6 v2 s)
    else
    f_X8_feed_77 (f_X8_feed_24 n) v1 v2 v3 v4 v5 v6 v1 s
set_option maxRecDepth 20000 in
theorem b_X8_feed_24 {X : zX} (hX : zx_ok X cX8_feed RX8 8) (hT : zx_rt X (some .int) (zR 0 0)) : ∀ (n : Nat) (v1 : Int32) (v2 : Int32) (v3 : Int32) (v4 : Int32) (v5 : Int32) (v6 : Int32) (s : zS), zV X (zq X zrI) 8 24 [(0, .ref (zx_ad X 76)), (1, .int v1), (2, .int v2), (3, .int v3), (4, .int v4), (5, .int v5), (6, .int v6)] [] s (f_X8_feed_24 n v1 v2 v3 v4 v5 v6 s) := by
  intro n
  induction n with
  | zero => intro v1 v2 v3 v4 v5 v6 s; exact zv_none
  | succ n ih =>
    intro v1 v2 v3 v4 v5 v6 s
    rw [f_X8_feed_24]
    refine zv_iload hX dX8_feed_24 6 rfl ?_
    refine zv_bipush (v := (nI 20)) hX dX8_feed_26 zi_b_20 ?_
    refine zv_icmp_ge (tgt := 121) hX dX8_feed_28 rfl ?_ ?_
    · refine zv_aload_n hX dX8_feed_121 0 rfl ?_
      refine zv_geti hX wf_X8_92 wc_8 zd_76 zj_76_5 c9_8 zr_76_5 dX8_feed_122 ?_
      exact zv_ireti hX hT dX8_feed_125
    · refine zv_iload hX dX8_feed_31 6 rfl ?_
      refine zv_iconst (v := (nI 4)) hX dX8_feed_33 zi_i_4 ?_
      refine zv_icmp_ge (tgt := 41) hX dX8_feed_34 rfl ?_ ?_
      · refine zv_iload hX dX8_feed_41 6 rfl ?_
        refine zv_bipush (v := (nI 8)) hX dX8_feed_43 zi_b_8 ?_
        refine zv_icmp_ge (tgt := 52) hX dX8_feed_45 rfl ?_ ?_
        · refine zv_iload hX dX8_feed_52 6 rfl ?_
          refine zv_bipush (v := (nI 12)) hX dX8_feed_54 zi_b_12 ?_
          refine zv_icmp_ge (tgt := 63) hX dX8_feed_56 rfl ?_ ?_
          · refine zv_iload hX dX8_feed_63 6 rfl ?_
            refine zv_bipush (v := (nI 16)) hX dX8_feed_65 zi_b_16 ?_
            refine zv_icmp_ge (tgt := 75) hX dX8_feed_67 rfl ?_ ?_
            · refine zv_iload hX dX8_feed_75 5 rfl ?_
              exact b_X8_feed_77 hX hT ih v1 v2 v3 v4 v5 v6 v5 s
            · refine zv_iload hX dX8_feed_70 4 rfl ?_
              refine zv_goto (tgt := 77) hX dX8_feed_72 rfl ?_
              exact b_X8_feed_77 hX hT ih v1 v2 v3 v4 v5 v6 v4 s
          · refine zv_iload_n hX dX8_feed_59 3 rfl ?_
            refine zv_goto (tgt := 77) hX dX8_feed_60 rfl ?_
            exact b_X8_feed_77 hX hT ih v1 v2 v3 v4 v5 v6 v3 s
        · refine zv_iload_n hX dX8_feed_48 2 rfl ?_
          refine zv_goto (tgt := 77) hX dX8_feed_49 rfl ?_
          exact b_X8_feed_77 hX hT ih v1 v2 v3 v4 v5 v6 v2 s
      · refine zv_iload_n hX dX8_feed_37 1 rfl ?_
        refine zv_goto (tgt := 77) hX dX8_feed_38 rfl ?_
        exact b_X8_feed_77 hX hT ih v1 v2 v3 v4 v5 v6 v1 s
def f_X8_feed (v1 : Int32) (v2 : Int32) (v3 : Int32) (v4 : Int32) (v5 : Int32) (s : zS) : Option (Int32 × zS) :=
  zb (zs_i s 76 0 (0 : Int32)) fun s4 =>
  if ((s4.1 76 5) + (nI 20)) ≤ (nI 900) then
  (f_X8_feed_24 zFU v1 v2 v3 v4 v5 (0 : Int32) s4)
  else
  some ((-5 : Int32), s4)
set_option maxRecDepth 20000 in
theorem c_X8_feed (Y : zG) (v1 : Int32) (v2 : Int32) (v3 : Int32) (v4 : Int32) (v5 : Int32) (s : zS) : zM Y yX8_feed cX8_feed 8 (some .int) (zR 0 0) [.ref (zy_a Y 76), .int v1, .int v2, .int v3, .int v4, .int v5] s zrI (f_X8_feed v1 v2 v3 v4 v5 s) := by
  refine zm_start (by decide +kernel) (Nat.le_of_ble_eq_true rfl) ?_
  intro X hY hT hX
  subst hY
  have hX : zx_ok X cX8_feed RX8 8 := hX
  show zV X (zq X zrI) 8 0 [(0, .ref (zx_ad X 76)), (1, .int v1), (2, .int v2), (3, .int v3), (4, .int v4), (5, .int v5)] [] s _
  unfold f_X8_feed
  refine zv_aload_n hX dX8_feed_0 0 rfl ?_
  refine zv_iconst (v := (0 : Int32)) hX dX8_feed_1 zi_i_0 ?_
  refine zv_puti hX wf_X8_1 wc_8 wk_8_0 zd_76 zj_76_0 c9_8 zr_76_0 dX8_feed_2 (fun s4 => ?_)
  refine zv_aload_n hX dX8_feed_5 0 rfl ?_
  refine zv_geti hX wf_X8_92 wc_8 zd_76 zj_76_5 c9_8 zr_76_5 dX8_feed_6 ?_
  refine zv_bipush (v := (nI 20)) hX dX8_feed_9 zi_b_20 ?_
  refine zv_iadd hX dX8_feed_11 ?_
  refine zv_sipush (v := (nI 900)) hX dX8_feed_12 zi_s_900 ?_
  refine zv_icmp_le (tgt := 21) hX dX8_feed_15 rfl ?_ ?_
  · refine zv_iconst (v := (0 : Int32)) hX dX8_feed_21 zi_i_0 ?_
    refine zv_istore (lv' := [(6, .int (0 : Int32)), (0, .ref (zx_ad X 76)), (1, .int v1), (2, .int v2), (3, .int v3), (4, .int v4), (5, .int v5)]) hX dX8_feed_22 (by decide) rfl ?_
    exact zv_sub [1, 2, 3, 4, 5, 6, 0] rfl (b_X8_feed_24 hX hT zFU v1 v2 v3 v4 v5 (0 : Int32) s4)
  · refine zv_bipush (v := (-5 : Int32)) hX dX8_feed_18 zi_b_m5 ?_
    exact zv_ireti hX hT dX8_feed_20
theorem dX8_fits_0 : decode cX8_fits 0 = .ok (.aload_n 0, 1) := by decide +kernel
theorem dX8_fits_1 : decode cX8_fits 1 = .ok (.iconst 0, 1) := by decide +kernel
theorem dX8_fits_2 : decode cX8_fits 2 = .ok (.putfield 1, 3) := by decide +kernel
theorem dX8_fits_5 : decode cX8_fits 5 = .ok (.iload_n 1, 1) := by decide +kernel
theorem dX8_fits_6 : decode cX8_fits 6 = .ok (.iconst 1, 1) := by decide +kernel
theorem dX8_fits_7 : decode cX8_fits 7 = .ok (.if_icmp .lt 11, 3) := by decide +kernel
theorem dX8_fits_10 : decode cX8_fits 10 = .ok (.aload_n 0, 1) := by decide +kernel
theorem dX8_fits_11 : decode cX8_fits 11 = .ok (.iload_n 1, 1) := by decide +kernel
theorem dX8_fits_12 : decode cX8_fits 12 = .ok (.invokevirtual 409, 3) := by decide +kernel
theorem dX8_fits_15 : decode cX8_fits 15 = .ok (.ifCond .ne 8, 3) := by decide +kernel
theorem dX8_fits_18 : decode cX8_fits 18 = .ok (.bipush (-3), 2) := by decide +kernel
theorem dX8_fits_20 : decode cX8_fits 20 = .ok (.goto 16, 3) := by decide +kernel
theorem dX8_fits_23 : decode cX8_fits 23 = .ok (.aload_n 0, 1) := by decide +kernel
theorem dX8_fits_24 : decode cX8_fits 24 = .ok (.iload_n 1, 1) := by decide +kernel
theorem dX8_fits_25 : decode cX8_fits 25 = .ok (.invokevirtual 414, 3) := by decide +kernel
theorem dX8_fits_28 : decode cX8_fits 28 = .ok (.ifCond .eq 7, 3) := by decide +kernel
theorem dX8_fits_31 : decode cX8_fits 31 = .ok (.iconst 1, 1) := by decide +kernel
theorem dX8_fits_32 : decode cX8_fits 32 = .ok (.goto 4, 3) := by decide +kernel
theorem dX8_fits_35 : decode cX8_fits 35 = .ok (.iconst 0, 1) := by decide +kernel
theorem dX8_fits_36 : decode cX8_fits 36 = .ok (.ireturn, 1) := by decide +kernel
def f_X8_fits_36 (w0 : Int32) (s : zS) : Option (Int32 × zS) :=
  some (w0, s)
set_option maxRecDepth 20000 in
theorem b_X8_fits_36 {X : zX} (hX : zx_ok X cX8_fits RX8 2) (hT : zx_rt X (some .int) (zR 69 1713)) : ∀ (w0 : Int32) (s : zS), zV X (zq X zrI) 2 36 [] [.int w0] s (f_X8_fits_36 w0 s) := by
  intro w0 s
  unfold f_X8_fits_36
  exact zv_ireti hX hT dX8_fits_36
def f_X8_fits_18  (s : zS) : Option (Int32 × zS) :=
  f_X8_fits_36 (-3 : Int32) s
set_option maxRecDepth 20000 in
theorem b_X8_fits_18 {X : zX} (hX : zx_ok X cX8_fits RX8 2) (hT : zx_rt X (some .int) (zR 69 1713)) : ∀  (s : zS), zV X (zq X zrI) 2 18 [] [] s (f_X8_fits_18  s) := by
  intro  s
  unfold f_X8_fits_18
  refine zv_bipush (v := (-3 : Int32)) hX dX8_fits_18 zi_b_m3 ?_
  refine zv_goto (tgt := 36) hX dX8_fits_20 rfl ?_
  exact b_X8_fits_36 hX hT (-3 : Int32) s
def f_X8_fits (v1 : Int32) (s : zS) : Option (Int32 × zS) :=
  zb (zs_i s 76 0 (0 : Int32)) fun s1 =>
  if v1 < (1 : Int32) then
  (f_X8_fits_18 s1)
  else
  zbd (f_X8_isSet v1 s1) fun r2 s3 =>
  if ¬ r2 = 0 then
  (zbd (f_X8_fitsSet v1 s3) fun r4 s5 =>
  if r4 = 0 then
  (f_X8_fits_36 (0 : Int32) s5)
  else
  f_X8_fits_36 (1 : Int32) s5)
  else
  f_X8_fits_18 s3
set_option maxRecDepth 20000 in
theorem c_X8_fits (Y : zG) (v1 : Int32) (s : zS) : zM Y yX8_fits cX8_fits 2 (some .int) (zR 69 1713) [.ref (zy_a Y 76), .int v1] s zrI (f_X8_fits v1 s) := by
  refine zm_start (by decide +kernel) (Nat.le_of_ble_eq_true rfl) ?_
  intro X hY hT hX
  subst hY
  have hX : zx_ok X cX8_fits RX8 2 := hX
  show zV X (zq X zrI) 2 0 [(0, .ref (zx_ad X 76)), (1, .int v1)] [] s _
  unfold f_X8_fits
  refine zv_aload_n hX dX8_fits_0 0 rfl ?_
  refine zv_iconst (v := (0 : Int32)) hX dX8_fits_1 zi_i_0 ?_
  refine zv_puti hX wf_X8_1 wc_8 wk_8_0 zd_76 zj_76_0 c9_8 zr_76_0 dX8_fits_2 (fun s1 => ?_)
  refine zv_iload_n hX dX8_fits_5 1 rfl ?_
  refine zv_iconst (v := (1 : Int32)) hX dX8_fits_6 zi_i_1 ?_
  refine zv_icmp_lt (tgt := 18) hX dX8_fits_7 rfl ?_ ?_
  · exact zv_sub [] rfl (b_X8_fits_18 hX hT  s1)
  · refine zv_aload_n hX dX8_fits_10 0 rfl ?_
    refine zv_iload_n hX dX8_fits_11 1 rfl ?_
    refine zv_cVI [.int v1] (rest := []) hX hT.2.2.2.2 (c_X8_isSet (zx_Y X) v1 s1) wv_X8_isSet c9_8 zd_76 wm_X8_409 rfl (Nat.le_of_ble_eq_true rfl) (Nat.le_of_ble_eq_true rfl) rfl (Nat.le_of_ble_eq_true rfl) dX8_fits_12 (fun r2 s3 => ?_)
    refine zv_if_ne (tgt := 23) hX dX8_fits_15 rfl ?_ ?_
    · refine zv_aload_n hX dX8_fits_23 0 rfl ?_
      refine zv_iload_n hX dX8_fits_24 1 rfl ?_
      refine zv_cVI [.int v1] (rest := []) hX hT.2.2.2.2 (c_X8_fitsSet (zx_Y X) v1 s3) wv_X8_fitsSet c9_8 zd_76 wm_X8_414 rfl (Nat.le_of_ble_eq_true rfl) (Nat.le_of_ble_eq_true rfl) rfl (Nat.le_of_ble_eq_true rfl) dX8_fits_25 (fun r4 s5 => ?_)
      refine zv_if_eq (tgt := 35) hX dX8_fits_28 rfl ?_ ?_
      · refine zv_iconst (v := (0 : Int32)) hX dX8_fits_35 zi_i_0 ?_
        exact zv_sub [] rfl (b_X8_fits_36 hX hT (0 : Int32) s5)
      · refine zv_iconst (v := (1 : Int32)) hX dX8_fits_31 zi_i_1 ?_
        refine zv_goto (tgt := 36) hX dX8_fits_32 rfl ?_
        exact zv_sub [] rfl (b_X8_fits_36 hX hT (1 : Int32) s5)
    · exact zv_sub [] rfl (b_X8_fits_18 hX hT  s3)
theorem dX8_goesIn_0 : decode cX8_goesIn 0 = .ok (.iload_n 1, 1) := by decide +kernel
theorem dX8_goesIn_1 : decode cX8_goesIn 1 = .ok (.bipush 6, 2) := by decide +kernel
theorem dX8_goesIn_3 : decode cX8_goesIn 3 = .ok (.if_icmp .ne 8, 3) := by decide +kernel
theorem dX8_goesIn_6 : decode cX8_goesIn 6 = .ok (.aload_n 0, 1) := by decide +kernel
theorem dX8_goesIn_7 : decode cX8_goesIn 7 = .ok (.iconst 4, 1) := by decide +kernel
theorem dX8_goesIn_8 : decode cX8_goesIn 8 = .ok (.invokevirtual 150, 3) := by decide +kernel
theorem dX8_goesIn_11 : decode cX8_goesIn 11 = .ok (.aload_n 0, 1) := by decide +kernel
theorem dX8_goesIn_12 : decode cX8_goesIn 12 = .ok (.getfield 138, 3) := by decide +kernel
theorem dX8_goesIn_15 : decode cX8_goesIn 15 = .ok (.ifCond .ne 7, 3) := by decide +kernel
theorem dX8_goesIn_18 : decode cX8_goesIn 18 = .ok (.aload_n 0, 1) := by decide +kernel
theorem dX8_goesIn_19 : decode cX8_goesIn 19 = .ok (.invokevirtual 147, 3) := by decide +kernel
theorem dX8_goesIn_22 : decode cX8_goesIn 22 = .ok (.aload_n 0, 1) := by decide +kernel
theorem dX8_goesIn_23 : decode cX8_goesIn 23 = .ok (.getfield 138, 3) := by decide +kernel
theorem dX8_goesIn_26 : decode cX8_goesIn 26 = .ok (.ifCond .ne 7, 3) := by decide +kernel
theorem dX8_goesIn_29 : decode cX8_goesIn 29 = .ok (.iconst 1, 1) := by decide +kernel
theorem dX8_goesIn_30 : decode cX8_goesIn 30 = .ok (.goto 4, 3) := by decide +kernel
theorem dX8_goesIn_33 : decode cX8_goesIn 33 = .ok (.iconst 0, 1) := by decide +kernel
theorem dX8_goesIn_34 : decode cX8_goesIn 34 = .ok (.ireturn, 1) := by decide +kernel
def f_X8_goesIn_34 (w0 : Int32) (s : zS) : Option (Int32 × zS) :=
  if w0 = 0 ∨ w0 = 1 then some (w0, s) else none
set_option maxRecDepth 20000 in
theorem b_X8_goesIn_34 {X : zX} (hX : zx_ok X cX8_goesIn RX8 2) (hT : zx_rt X (some .boolean) (zR 6 129)) : ∀ (w0 : Int32) (s : zS), zV X (zq X zrI) 2 34 [] [.int w0] s (f_X8_goesIn_34 w0 s) := by
  intro w0 s
  unfold f_X8_goesIn_34
  exact zv_iretzB hX hT dX8_goesIn_34
def f_X8_goesIn_22  (s : zS) : Option (Int32 × zS) :=
  if ¬ (s.1 76 11) = 0 then
  (f_X8_goesIn_34 (0 : Int32) s)
  else
  f_X8_goesIn_34 (1 : Int32) s
set_option maxRecDepth 20000 in
theorem b_X8_goesIn_22 {X : zX} (hX : zx_ok X cX8_goesIn RX8 2) (hT : zx_rt X (some .boolean) (zR 6 129)) : ∀  (s : zS), zV X (zq X zrI) 2 22 [(0, .ref (zx_ad X 76))] [] s (f_X8_goesIn_22  s) := by
  intro  s
  unfold f_X8_goesIn_22
  refine zv_aload_n hX dX8_goesIn_22 0 rfl ?_
  refine zv_geti hX wf_X8_138 wc_8 zd_76 zj_76_11 c9_8 zr_76_11 dX8_goesIn_23 ?_
  refine zv_if_ne (tgt := 33) hX dX8_goesIn_26 rfl ?_ ?_
  · refine zv_iconst (v := (0 : Int32)) hX dX8_goesIn_33 zi_i_0 ?_
    exact zv_sub [] rfl (b_X8_goesIn_34 hX hT (0 : Int32) s)
  · refine zv_iconst (v := (1 : Int32)) hX dX8_goesIn_29 zi_i_1 ?_
    refine zv_goto (tgt := 34) hX dX8_goesIn_30 rfl ?_
    exact zv_sub [] rfl (b_X8_goesIn_34 hX hT (1 : Int32) s)
def f_X8_goesIn_11  (s : zS) : Option (Int32 × zS) :=
  if ¬ (s.1 76 11) = 0 then
  (f_X8_goesIn_22 s)
  else
  zbd (f_X8_next s) fun _ s1 =>
  f_X8_goesIn_22 s1
set_option maxRecDepth 20000 in
theorem b_X8_goesIn_11 {X : zX} (hX : zx_ok X cX8_goesIn RX8 2) (hT : zx_rt X (some .boolean) (zR 6 129)) : ∀  (s : zS), zV X (zq X zrI) 2 11 [(0, .ref (zx_ad X 76))] [] s (f_X8_goesIn_11  s) := by
  intro  s
  unfold f_X8_goesIn_11
  refine zv_aload_n hX dX8_goesIn_11 0 rfl ?_
  refine zv_geti hX wf_X8_138 wc_8 zd_76 zj_76_11 c9_8 zr_76_11 dX8_goesIn_12 ?_
  refine zv_if_ne (tgt := 22) hX dX8_goesIn_15 rfl ?_ ?_
  · exact b_X8_goesIn_22 hX hT  s
  · refine zv_aload_n hX dX8_goesIn_18 0 rfl ?_
    refine zv_cVV [] (rest := []) hX hT.2.2.2.2 (c_X8_next (zx_Y X) s) wv_X8_next c9_8 zd_76 wm_X8_147 rfl (Nat.le_of_ble_eq_true rfl) (Nat.le_of_ble_eq_true rfl) rfl (Nat.le_of_ble_eq_true rfl) dX8_goesIn_19 (fun _ s1 => ?_)
    exact b_X8_goesIn_22 hX hT  s1
def f_X8_goesIn (v1 : Int32) (s : zS) : Option (Int32 × zS) :=
  if ¬ v1 = (nI 6) then
  (f_X8_goesIn_11 s)
  else
  zbd (f_X8_fails (nI 4) s) fun _ s2 =>
  f_X8_goesIn_11 s2
set_option maxRecDepth 20000 in
theorem c_X8_goesIn (Y : zG) (v1 : Int32) (s : zS) : zM Y yX8_goesIn cX8_goesIn 2 (some .boolean) (zR 6 129) [.ref (zy_a Y 76), .int v1] s zrI (f_X8_goesIn v1 s) := by
  refine zm_start (by decide +kernel) (Nat.le_of_ble_eq_true rfl) ?_
  intro X hY hT hX
  subst hY
  have hX : zx_ok X cX8_goesIn RX8 2 := hX
  show zV X (zq X zrI) 2 0 [(0, .ref (zx_ad X 76)), (1, .int v1)] [] s _
  unfold f_X8_goesIn
  refine zv_iload_n hX dX8_goesIn_0 1 rfl ?_
  refine zv_bipush (v := (nI 6)) hX dX8_goesIn_1 zi_b_6 ?_
  refine zv_icmp_ne (tgt := 11) hX dX8_goesIn_3 rfl ?_ ?_
  · exact zv_sub [0] rfl (b_X8_goesIn_11 hX hT  s)
  · refine zv_aload_n hX dX8_goesIn_6 0 rfl ?_
    refine zv_iconst (v := (nI 4)) hX dX8_goesIn_7 zi_i_4 ?_
    refine zv_cVV [.int (nI 4)] (rest := []) hX hT.2.2.2.2 (c_X8_fails (zx_Y X) (nI 4) s) wv_X8_fails c9_8 zd_76 wm_X8_150 rfl (Nat.le_of_ble_eq_true rfl) (Nat.le_of_ble_eq_true rfl) rfl (Nat.le_of_ble_eq_true rfl) dX8_goesIn_8 (fun _ s2 => ?_)
    exact zv_sub [0] rfl (b_X8_goesIn_11 hX hT  s2)
theorem dX8_holds_0 : decode cX8_holds 0 = .ok (.aload_n 0, 1) := by decide +kernel
theorem dX8_holds_1 : decode cX8_holds 1 = .ok (.iconst 0, 1) := by decide +kernel
theorem dX8_holds_2 : decode cX8_holds 2 = .ok (.putfield 1, 3) := by decide +kernel
theorem dX8_holds_5 : decode cX8_holds 5 = .ok (.aload_n 0, 1) := by decide +kernel
theorem dX8_holds_6 : decode cX8_holds 6 = .ok (.invokevirtual 379, 3) := by decide +kernel
theorem dX8_holds_9 : decode cX8_holds 9 = .ok (.aload_n 0, 1) := by decide +kernel
theorem dX8_holds_10 : decode cX8_holds 10 = .ok (.aload_n 0, 1) := by decide +kernel
theorem dX8_holds_11 : decode cX8_holds 11 = .ok (.invokevirtual 382, 3) := by decide +kernel
theorem dX8_holds_14 : decode cX8_holds 14 = .ok (.invokevirtual 385, 3) := by decide +kernel
theorem dX8_holds_17 : decode cX8_holds 17 = .ok (.ifCond .eq 7, 3) := by decide +kernel
theorem dX8_holds_20 : decode cX8_holds 20 = .ok (.iconst 1, 1) := by decide +kernel
theorem dX8_holds_21 : decode cX8_holds 21 = .ok (.goto 4, 3) := by decide +kernel
theorem dX8_holds_24 : decode cX8_holds 24 = .ok (.iconst 0, 1) := by decide +kernel
theorem dX8_holds_25 : decode cX8_holds 25 = .ok (.ireturn, 1) := by decide +kernel
def f_X8_holds_25 (w0 : Int32) (s : zS) : Option (Int32 × zS) :=
  some (w0, s)
set_option maxRecDepth 20000 in
theorem b_X8_holds_25 {X : zX} (hX : zx_ok X cX8_holds RX8 1) (hT : zx_rt X (some .int) (zR 72 1776)) : ∀ (w0 : Int32) (s : zS), zV X (zq X zrI) 1 25 [] [.int w0] s (f_X8_holds_25 w0 s) := by
  intro w0 s
  unfold f_X8_holds_25
  exact zv_ireti hX hT dX8_holds_25
def f_X8_holds  (s : zS) : Option (Int32 × zS) :=
  zb (zs_i s 76 0 (0 : Int32)) fun s1 =>
  zbd (f_X8_laysNow s1) fun _ s2 =>
  zbd (f_X8_everybody s2) fun r3 s4 =>
  zbd (f_X8_isHeld r3 s4) fun r5 s6 =>
  if r5 = 0 then
  (f_X8_holds_25 (0 : Int32) s6)
  else
  f_X8_holds_25 (1 : Int32) s6
set_option maxRecDepth 20000 in
theorem c_X8_holds (Y : zG)  (s : zS) : zM Y yX8_holds cX8_holds 1 (some .int) (zR 72 1776) [.ref (zy_a Y 76)] s zrI (f_X8_holds  s) := by
  refine zm_start (by decide +kernel) (Nat.le_of_ble_eq_true rfl) ?_
  intro X hY hT hX
  subst hY
  have hX : zx_ok X cX8_holds RX8 1 := hX
  show zV X (zq X zrI) 1 0 [(0, .ref (zx_ad X 76))] [] s _
  unfold f_X8_holds
  refine zv_aload_n hX dX8_holds_0 0 rfl ?_
  refine zv_iconst (v := (0 : Int32)) hX dX8_holds_1 zi_i_0 ?_
  refine zv_puti hX wf_X8_1 wc_8 wk_8_0 zd_76 zj_76_0 c9_8 zr_76_0 dX8_holds_2 (fun s1 => ?_)
  refine zv_aload_n hX dX8_holds_5 0 rfl ?_
  refine zv_cVV [] (rest := []) hX hT.2.2.2.2 (c_X8_laysNow (zx_Y X) s1) wv_X8_laysNow c9_8 zd_76 wm_X8_379 rfl (Nat.le_of_ble_eq_true rfl) (Nat.le_of_ble_eq_true rfl) rfl (Nat.le_of_ble_eq_true rfl) dX8_holds_6 (fun _ s2 => ?_)
  refine zv_aload_n hX dX8_holds_9 0 rfl ?_
  refine zv_aload_n hX dX8_holds_10 0 rfl ?_
  refine zv_cVI [] (rest := [.ref (zx_ad X 76)]) hX hT.2.2.2.2 (c_X8_everybody (zx_Y X) s2) wv_X8_everybody c9_8 zd_76 wm_X8_382 rfl (Nat.le_of_ble_eq_true rfl) (Nat.le_of_ble_eq_true rfl) rfl (Nat.le_of_ble_eq_true rfl) dX8_holds_11 (fun r3 s4 => ?_)
  refine zv_cVI [.int r3] (rest := []) hX hT.2.2.2.2 (c_X8_isHeld (zx_Y X) r3 s4) wv_X8_isHeld c9_8 zd_76 wm_X8_385 rfl (Nat.le_of_ble_eq_true rfl) (Nat.le_of_ble_eq_true rfl) rfl (Nat.le_of_ble_eq_true rfl) dX8_holds_14 (fun r5 s6 => ?_)
  refine zv_if_eq (tgt := 24) hX dX8_holds_17 rfl ?_ ?_
  · refine zv_iconst (v := (0 : Int32)) hX dX8_holds_24 zi_i_0 ?_
    exact zv_sub [] rfl (b_X8_holds_25 hX hT (0 : Int32) s6)
  · refine zv_iconst (v := (1 : Int32)) hX dX8_holds_20 zi_i_1 ?_
    refine zv_goto (tgt := 25) hX dX8_holds_21 rfl ?_
    exact zv_sub [] rfl (b_X8_holds_25 hX hT (1 : Int32) s6)
theorem dX8_image_0 : decode cX8_image 0 = .ok (.aload_n 0, 1) := by decide +kernel
theorem dX8_image_1 : decode cX8_image 1 = .ok (.iconst 0, 1) := by decide +kernel
theorem dX8_image_2 : decode cX8_image 2 = .ok (.putfield 1, 3) := by decide +kernel
theorem dX8_image_5 : decode cX8_image 5 = .ok (.iload_n 1, 1) := by decide +kernel
theorem dX8_image_6 : decode cX8_image 6 = .ok (.i2l, 1) := by decide +kernel
theorem dX8_image_7 : decode cX8_image 7 = .ok (.lconst 0, 1) := by decide +kernel
theorem dX8_image_8 : decode cX8_image 8 = .ok (.lconst 1, 1) := by decide +kernel
theorem dX8_image_9 : decode cX8_image 9 = .ok (.invokestatic 154, 3) := by decide +kernel
theorem dX8_image_12 : decode cX8_image 12 = .ok (.ifCond .ne 6, 3) := by decide +kernel
theorem dX8_image_15 : decode cX8_image 15 = .ok (.bipush (-2), 2) := by decide +kernel
theorem dX8_image_17 : decode cX8_image 17 = .ok (.ireturn, 1) := by decide +kernel
theorem dX8_image_18 : decode cX8_image 18 = .ok (.iconst 0, 1) := by decide +kernel
theorem dX8_image_19 : decode cX8_image 19 = .ok (.istore_n 2, 1) := by decide +kernel
theorem dX8_image_20 : decode cX8_image 20 = .ok (.iload_n 2, 1) := by decide +kernel
theorem dX8_image_21 : decode cX8_image 21 = .ok (.sipush 1155, 3) := by decide +kernel
theorem dX8_image_24 : decode cX8_image 24 = .ok (.if_icmp .ge 29, 3) := by decide +kernel
theorem dX8_image_27 : decode cX8_image 27 = .ok (.aload_n 0, 1) := by decide +kernel
theorem dX8_image_28 : decode cX8_image 28 = .ok (.getfield 13, 3) := by decide +kernel
theorem dX8_image_31 : decode cX8_image 31 = .ok (.sipush 1155, 3) := by decide +kernel
theorem dX8_image_34 : decode cX8_image 34 = .ok (.iload_n 1, 1) := by decide +kernel
theorem dX8_image_35 : decode cX8_image 35 = .ok (.iconst 1, 1) := by decide +kernel
theorem dX8_image_36 : decode cX8_image 36 = .ok (.iadd, 1) := by decide +kernel
theorem dX8_image_37 : decode cX8_image 37 = .ok (.imul, 1) := by decide +kernel
theorem dX8_image_38 : decode cX8_image 38 = .ok (.iload_n 2, 1) := by decide +kernel
theorem dX8_image_39 : decode cX8_image 39 = .ok (.iadd, 1) := by decide +kernel
theorem dX8_image_40 : decode cX8_image 40 = .ok (.aload_n 0, 1) := by decide +kernel
theorem dX8_image_41 : decode cX8_image 41 = .ok (.getfield 13, 3) := by decide +kernel
theorem dX8_image_44 : decode cX8_image 44 = .ok (.iload_n 2, 1) := by decide +kernel
theorem dX8_image_45 : decode cX8_image 45 = .ok (.iaload, 1) := by decide +kernel
theorem dX8_image_46 : decode cX8_image 46 = .ok (.iastore, 1) := by decide +kernel
theorem dX8_image_47 : decode cX8_image 47 = .ok (.iinc 2 1, 3) := by decide +kernel
theorem dX8_image_50 : decode cX8_image 50 = .ok (.goto (-30), 3) := by decide +kernel
theorem dX8_image_53 : decode cX8_image 53 = .ok (.aload_n 0, 1) := by decide +kernel
theorem dX8_image_54 : decode cX8_image 54 = .ok (.getfield 17, 3) := by decide +kernel
theorem dX8_image_57 : decode cX8_image 57 = .ok (.iload_n 1, 1) := by decide +kernel
theorem dX8_image_58 : decode cX8_image 58 = .ok (.iconst 1, 1) := by decide +kernel
theorem dX8_image_59 : decode cX8_image 59 = .ok (.bastore, 1) := by decide +kernel
theorem dX8_image_60 : decode cX8_image 60 = .ok (.iconst 0, 1) := by decide +kernel
theorem dX8_image_61 : decode cX8_image 61 = .ok (.ireturn, 1) := by decide +kernel
def f_X8_image_20 : Nat → Int32 → Int32 → zS → Option (Int32 × zS)
  | 0, _, _, _ => none
  | n + 1, v1, v2, s =>
    if (nI 1155) ≤ v2 then
    ((zw_b s 78 v1 (1 : Int32)).bind fun s1 =>
    some ((0 : Int32), s1))
    else
    (zr_i s 77 v2).bind fun x2 =>
    (zw_i s 77 (((nI 1155) * (v1 + (1 : Int32))) + v2) x2).bind fun s3 =>
    zb (v2 + (1 : Int32)) fun x4 =>
    f_X8_image_20 n v1 x4 s3
set_option maxRecDepth 20000 in
theorem b_X8_image_20 {X : zX} (hX : zx_ok X cX8_image RX8 3) (hT : zx_rt X (some .int) (zR 1 25)) : ∀ (n : Nat) (v1 : Int32) (v2 : Int32) (s : zS), zV X (zq X zrI) 3 20 [(0, .ref (zx_ad X 76)), (1, .int v1), (2, .int v2)] [] s (f_X8_image_20 n v1 v2 s) := by
  intro n
  induction n with
  | zero => intro v1 v2 s; exact zv_none
  | succ n ih =>
    intro v1 v2 s
    rw [f_X8_image_20]
    refine zv_iload_n hX dX8_image_20 2 rfl ?_
    refine zv_sipush (v := (nI 1155)) hX dX8_image_21 zi_s_1155 ?_
    refine zv_icmp_ge (tgt := 53) hX dX8_image_24 rfl ?_ ?_
    · refine zv_aload_n hX dX8_image_53 0 rfl ?_
      refine zv_geta hX wf_X8_17 wc_8 zd_76 zj_76_2 c9_8 zr_76_2 (by decide) dX8_image_54 ?_
      refine zv_iload_n hX dX8_image_57 1 rfl ?_
      refine zv_iconst (v := (1 : Int32)) hX dX8_image_58 zi_i_1 ?_
      refine zv_bast hX dX8_image_59 (fun s1 => ?_)
      refine zv_iconst (v := (0 : Int32)) hX dX8_image_60 zi_i_0 ?_
      exact zv_ireti hX hT dX8_image_61
    · refine zv_aload_n hX dX8_image_27 0 rfl ?_
      refine zv_geta hX wf_X8_13 wc_8 zd_76 zj_76_1 c9_8 zr_76_1 (by decide) dX8_image_28 ?_
      refine zv_sipush (v := (nI 1155)) hX dX8_image_31 zi_s_1155 ?_
      refine zv_iload_n hX dX8_image_34 1 rfl ?_
      refine zv_iconst (v := (1 : Int32)) hX dX8_image_35 zi_i_1 ?_
      refine zv_iadd hX dX8_image_36 ?_
      refine zv_imul hX dX8_image_37 ?_
      refine zv_iload_n hX dX8_image_38 2 rfl ?_
      refine zv_iadd hX dX8_image_39 ?_
      refine zv_aload_n hX dX8_image_40 0 rfl ?_
      refine zv_geta hX wf_X8_13 wc_8 zd_76 zj_76_1 c9_8 zr_76_1 (by decide) dX8_image_41 ?_
      refine zv_iload_n hX dX8_image_44 2 rfl ?_
      refine zv_iald hX dX8_image_45 (fun x2 => ?_)
      refine zv_iast hX dX8_image_46 (fun s3 => ?_)
      refine zv_iincB (lw := fun x4 => [(2, .int x4), (0, .ref (zx_ad X 76)), (1, .int v1)]) hX dX8_image_47 2 rfl zi_i_1 (by decide) (fun _ => rfl) (fun x4 => ?_)
      refine zv_goto (tgt := 20) hX dX8_image_50 rfl ?_
      exact zv_sub [1, 2, 0] rfl (ih v1 x4 s3)
def f_X8_image (v1 : Int32) (s : zS) : Option (Int32 × zS) :=
  zb (zs_i s 76 0 (0 : Int32)) fun s5 =>
  zbd (f_X8_within (v1.toInt64) (0 : Int64) (1 : Int64) s5) fun r6 s7 =>
  if ¬ r6 = 0 then
  (f_X8_image_20 zFU v1 (0 : Int32) s7)
  else
  some ((-2 : Int32), s7)
set_option maxRecDepth 20000 in
theorem c_X8_image (Y : zG) (v1 : Int32) (s : zS) : zM Y yX8_image cX8_image 3 (some .int) (zR 1 25) [.ref (zy_a Y 76), .int v1] s zrI (f_X8_image v1 s) := by
  refine zm_start (by decide +kernel) (Nat.le_of_ble_eq_true rfl) ?_
  intro X hY hT hX
  subst hY
  have hX : zx_ok X cX8_image RX8 3 := hX
  show zV X (zq X zrI) 3 0 [(0, .ref (zx_ad X 76)), (1, .int v1)] [] s _
  unfold f_X8_image
  refine zv_aload_n hX dX8_image_0 0 rfl ?_
  refine zv_iconst (v := (0 : Int32)) hX dX8_image_1 zi_i_0 ?_
  refine zv_puti hX wf_X8_1 wc_8 wk_8_0 zd_76 zj_76_0 c9_8 zr_76_0 dX8_image_2 (fun s5 => ?_)
  refine zv_iload_n hX dX8_image_5 1 rfl ?_
  refine zv_i2l hX dX8_image_6 ?_
  refine zv_lconst (v := (0 : Int64)) hX dX8_image_7 zi_l_0 ?_
  refine zv_lconst (v := (1 : Int64)) hX dX8_image_8 zi_l_1 ?_
  refine zv_cSI [.long (v1.toInt64), .long (0 : Int64), .long (1 : Int64)] (rest := []) hX hT.2.2.2.2 (c_X8_within (zx_Y X) (v1.toInt64) (0 : Int64) (1 : Int64) s5) wv_X8_within wm_X8_154 rfl (Nat.le_of_ble_eq_true rfl) (Nat.le_of_ble_eq_true rfl) rfl (Nat.le_of_ble_eq_true rfl) dX8_image_9 (fun r6 s7 => ?_)
  refine zv_if_ne (tgt := 18) hX dX8_image_12 rfl ?_ ?_
  · refine zv_iconst (v := (0 : Int32)) hX dX8_image_18 zi_i_0 ?_
    refine zv_istore_n (lv' := [(2, .int (0 : Int32)), (0, .ref (zx_ad X 76)), (1, .int v1)]) hX dX8_image_19 (by decide) rfl ?_
    exact zv_sub [1, 2, 0] rfl (b_X8_image_20 hX hT zFU v1 (0 : Int32) s7)
  · refine zv_bipush (v := (-2 : Int32)) hX dX8_image_15 zi_b_m2 ?_
    exact zv_ireti hX hT dX8_image_17
theorem dX8_isAgain_0 : decode cX8_isAgain 0 = .ok (.iconst 0, 1) := by decide +kernel
theorem dX8_isAgain_1 : decode cX8_isAgain 1 = .ok (.istore_n 1, 1) := by decide +kernel
theorem dX8_isAgain_2 : decode cX8_isAgain 2 = .ok (.iload_n 1, 1) := by decide +kernel
theorem dX8_isAgain_3 : decode cX8_isAgain 3 = .ok (.bipush 21, 2) := by decide +kernel
theorem dX8_isAgain_5 : decode cX8_isAgain 5 = .ok (.if_icmp .ge 24, 3) := by decide +kernel
theorem dX8_isAgain_8 : decode cX8_isAgain 8 = .ok (.aload_n 0, 1) := by decide +kernel
theorem dX8_isAgain_9 : decode cX8_isAgain 9 = .ok (.getfield 13, 3) := by decide +kernel
theorem dX8_isAgain_12 : decode cX8_isAgain 12 = .ok (.bipush 22, 2) := by decide +kernel
theorem dX8_isAgain_14 : decode cX8_isAgain 14 = .ok (.iload_n 1, 1) := by decide +kernel
theorem dX8_isAgain_15 : decode cX8_isAgain 15 = .ok (.iadd, 1) := by decide +kernel
theorem dX8_isAgain_16 : decode cX8_isAgain 16 = .ok (.aload_n 0, 1) := by decide +kernel
theorem dX8_isAgain_17 : decode cX8_isAgain 17 = .ok (.getfield 57, 3) := by decide +kernel
theorem dX8_isAgain_20 : decode cX8_isAgain 20 = .ok (.iload_n 1, 1) := by decide +kernel
theorem dX8_isAgain_21 : decode cX8_isAgain 21 = .ok (.iaload, 1) := by decide +kernel
theorem dX8_isAgain_22 : decode cX8_isAgain 22 = .ok (.iastore, 1) := by decide +kernel
theorem dX8_isAgain_23 : decode cX8_isAgain 23 = .ok (.iinc 1 1, 3) := by decide +kernel
theorem dX8_isAgain_26 : decode cX8_isAgain 26 = .ok (.goto (-24), 3) := by decide +kernel
theorem dX8_isAgain_29 : decode cX8_isAgain 29 = .ok (.return_, 1) := by decide +kernel
def f_X8_isAgain_2 : Nat → Int32 → zS → Option (Unit × zS)
  | 0, _, _ => none
  | n + 1, v1, s =>
    if (nI 21) ≤ v1 then
    (some ((), s))
    else
    (zr_i s 90 v1).bind fun x1 =>
    (zw_i s 77 ((nI 22) + v1) x1).bind fun s2 =>
    zb (v1 + (1 : Int32)) fun x3 =>
    f_X8_isAgain_2 n x3 s2
set_option maxRecDepth 20000 in
theorem b_X8_isAgain_2 {X : zX} (hX : zx_ok X cX8_isAgain RX8 2) (hT : zx_rt X none (zR 0 0)) : ∀ (n : Nat) (v1 : Int32) (s : zS), zV X (zq X zrV) 2 2 [(0, .ref (zx_ad X 76)), (1, .int v1)] [] s (f_X8_isAgain_2 n v1 s) := by
  intro n
  induction n with
  | zero => intro v1 s; exact zv_none
  | succ n ih =>
    intro v1 s
    rw [f_X8_isAgain_2]
    refine zv_iload_n hX dX8_isAgain_2 1 rfl ?_
    refine zv_bipush (v := (nI 21)) hX dX8_isAgain_3 zi_b_21 ?_
    refine zv_icmp_ge (tgt := 29) hX dX8_isAgain_5 rfl ?_ ?_
    · exact zv_vret hX hT dX8_isAgain_29
    · refine zv_aload_n hX dX8_isAgain_8 0 rfl ?_
      refine zv_geta hX wf_X8_13 wc_8 zd_76 zj_76_1 c9_8 zr_76_1 (by decide) dX8_isAgain_9 ?_
      refine zv_bipush (v := (nI 22)) hX dX8_isAgain_12 zi_b_22 ?_
      refine zv_iload_n hX dX8_isAgain_14 1 rfl ?_
      refine zv_iadd hX dX8_isAgain_15 ?_
      refine zv_aload_n hX dX8_isAgain_16 0 rfl ?_
      refine zv_geta hX wf_X8_57 wc_8 zd_76 zj_76_27 c9_8 zr_76_27 (by decide) dX8_isAgain_17 ?_
      refine zv_iload_n hX dX8_isAgain_20 1 rfl ?_
      refine zv_iald hX dX8_isAgain_21 (fun x1 => ?_)
      refine zv_iast hX dX8_isAgain_22 (fun s2 => ?_)
      refine zv_iincB (lw := fun x3 => [(1, .int x3), (0, .ref (zx_ad X 76))]) hX dX8_isAgain_23 1 rfl zi_i_1 (by decide) (fun _ => rfl) (fun x3 => ?_)
      refine zv_goto (tgt := 2) hX dX8_isAgain_26 rfl ?_
      exact zv_sub [1, 0] rfl (ih x3 s2)
def f_X8_isAgain  (s : zS) : Option (Unit × zS) :=
  f_X8_isAgain_2 zFU (0 : Int32) s
set_option maxRecDepth 20000 in
theorem c_X8_isAgain (Y : zG)  (s : zS) : zM Y yX8_isAgain cX8_isAgain 2 none (zR 0 0) [.ref (zy_a Y 76)] s zrV (f_X8_isAgain  s) := by
  refine zm_start (by decide +kernel) (Nat.le_of_ble_eq_true rfl) ?_
  intro X hY hT hX
  subst hY
  have hX : zx_ok X cX8_isAgain RX8 2 := hX
  show zV X (zq X zrV) 2 0 [(0, .ref (zx_ad X 76))] [] s _
  unfold f_X8_isAgain
  refine zv_iconst (v := (0 : Int32)) hX dX8_isAgain_0 zi_i_0 ?_
  refine zv_istore_n (lv' := [(1, .int (0 : Int32)), (0, .ref (zx_ad X 76))]) hX dX8_isAgain_1 (by decide) rfl ?_
  exact zv_sub [1, 0] rfl (b_X8_isAgain_2 hX hT zFU (0 : Int32) s)
