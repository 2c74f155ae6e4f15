theorem dX8_likesBy_0 : decode cX8_likesBy 0 = .ok (.aload_n 0, 1) := by decide +kernel
theorem dX8_likesBy_1 : decode cX8_likesBy 1 = .ok (.getfield 13, 3) := by decide +kernel
theorem dX8_likesBy_4 : decode cX8_likesBy 4 = .ok (.iconst 3, 1) := by decide +kernel
theorem dX8_likesBy_5 : decode cX8_likesBy 5 = .ok (.iaload, 1) := by decide +kernel
theorem dX8_likesBy_6 : decode cX8_likesBy 6 = .ok (.ifCond .ne 5, 3) := by decide +kernel
theorem dX8_likesBy_9 : decode cX8_likesBy 9 = .ok (.iconst 1, 1) := by decide +kernel
theorem dX8_likesBy_10 : decode cX8_likesBy 10 = .ok (.ireturn, 1) := by decide +kernel
theorem dX8_likesBy_11 : decode cX8_likesBy 11 = .ok (.aload_n 0, 1) := by decide +kernel
theorem dX8_likesBy_12 : decode cX8_likesBy 12 = .ok (.getfield 45, 3) := by decide +kernel
theorem dX8_likesBy_15 : decode cX8_likesBy 15 = .ok (.iconst 0, 1) := by decide +kernel
theorem dX8_likesBy_16 : decode cX8_likesBy 16 = .ok (.aload_n 0, 1) := by decide +kernel
theorem dX8_likesBy_17 : decode cX8_likesBy 17 = .ok (.getfield 48, 3) := by decide +kernel
theorem dX8_likesBy_20 : decode cX8_likesBy 20 = .ok (.bipush 7, 2) := by decide +kernel
theorem dX8_likesBy_22 : decode cX8_likesBy 22 = .ok (.iload_n 1, 1) := by decide +kernel
theorem dX8_likesBy_23 : decode cX8_likesBy 23 = .ok (.imul, 1) := by decide +kernel
theorem dX8_likesBy_24 : decode cX8_likesBy 24 = .ok (.iload_n 2, 1) := by decide +kernel
theorem dX8_likesBy_25 : decode cX8_likesBy 25 = .ok (.iadd, 1) := by decide +kernel
theorem dX8_likesBy_26 : decode cX8_likesBy 26 = .ok (.iaload, 1) := by decide +kernel
theorem dX8_likesBy_27 : decode cX8_likesBy 27 = .ok (.iastore, 1) := by decide +kernel
theorem dX8_likesBy_28 : decode cX8_likesBy 28 = .ok (.aload_n 0, 1) := by decide +kernel
theorem dX8_likesBy_29 : decode cX8_likesBy 29 = .ok (.getfield 45, 3) := by decide +kernel
theorem dX8_likesBy_32 : decode cX8_likesBy 32 = .ok (.iconst 1, 1) := by decide +kernel
theorem dX8_likesBy_33 : decode cX8_likesBy 33 = .ok (.aload_n 0, 1) := by decide +kernel
theorem dX8_likesBy_34 : decode cX8_likesBy 34 = .ok (.getfield 13, 3) := by decide +kernel
theorem dX8_likesBy_37 : decode cX8_likesBy 37 = .ok (.bipush 29, 2) := by decide +kernel
theorem dX8_likesBy_39 : decode cX8_likesBy 39 = .ok (.iload_n 2, 1) := by decide +kernel
theorem dX8_likesBy_40 : decode cX8_likesBy 40 = .ok (.iadd, 1) := by decide +kernel
theorem dX8_likesBy_41 : decode cX8_likesBy 41 = .ok (.iaload, 1) := by decide +kernel
theorem dX8_likesBy_42 : decode cX8_likesBy 42 = .ok (.invokestatic 233, 3) := by decide +kernel
theorem dX8_likesBy_45 : decode cX8_likesBy 45 = .ok (.iastore, 1) := by decide +kernel
theorem dX8_likesBy_46 : decode cX8_likesBy 46 = .ok (.aload_n 0, 1) := by decide +kernel
theorem dX8_likesBy_47 : decode cX8_likesBy 47 = .ok (.getfield 45, 3) := by decide +kernel
theorem dX8_likesBy_50 : decode cX8_likesBy 50 = .ok (.iconst 3, 1) := by decide +kernel
theorem dX8_likesBy_51 : decode cX8_likesBy 51 = .ok (.iload_n 1, 1) := by decide +kernel
theorem dX8_likesBy_52 : decode cX8_likesBy 52 = .ok (.iastore, 1) := by decide +kernel
theorem dX8_likesBy_53 : decode cX8_likesBy 53 = .ok (.aload_n 0, 1) := by decide +kernel
theorem dX8_likesBy_54 : decode cX8_likesBy 54 = .ok (.getfield 45, 3) := by decide +kernel
theorem dX8_likesBy_57 : decode cX8_likesBy 57 = .ok (.iconst 4, 1) := by decide +kernel
theorem dX8_likesBy_58 : decode cX8_likesBy 58 = .ok (.aload_n 0, 1) := by decide +kernel
theorem dX8_likesBy_59 : decode cX8_likesBy 59 = .ok (.getfield 13, 3) := by decide +kernel
theorem dX8_likesBy_62 : decode cX8_likesBy 62 = .ok (.bipush 36, 2) := by decide +kernel
theorem dX8_likesBy_64 : decode cX8_likesBy 64 = .ok (.iload_n 1, 1) := by decide +kernel
theorem dX8_likesBy_65 : decode cX8_likesBy 65 = .ok (.iadd, 1) := by decide +kernel
theorem dX8_likesBy_66 : decode cX8_likesBy 66 = .ok (.iaload, 1) := by decide +kernel
theorem dX8_likesBy_67 : decode cX8_likesBy 67 = .ok (.iastore, 1) := by decide +kernel
theorem dX8_likesBy_68 : decode cX8_likesBy 68 = .ok (.aload_n 0, 1) := by decide +kernel
theorem dX8_likesBy_69 : decode cX8_likesBy 69 = .ok (.getfield 45, 3) := by decide +kernel
theorem dX8_likesBy_72 : decode cX8_likesBy 72 = .ok (.iconst 5, 1) := by decide +kernel
theorem dX8_likesBy_73 : decode cX8_likesBy 73 = .ok (.iload_n 2, 1) := by decide +kernel
theorem dX8_likesBy_74 : decode cX8_likesBy 74 = .ok (.iastore, 1) := by decide +kernel
theorem dX8_likesBy_75 : decode cX8_likesBy 75 = .ok (.aload_n 0, 1) := by decide +kernel
theorem dX8_likesBy_76 : decode cX8_likesBy 76 = .ok (.getfield 45, 3) := by decide +kernel
theorem dX8_likesBy_79 : decode cX8_likesBy 79 = .ok (.bipush 6, 2) := by decide +kernel
theorem dX8_likesBy_81 : decode cX8_likesBy 81 = .ok (.aload_n 0, 1) := by decide +kernel
theorem dX8_likesBy_82 : decode cX8_likesBy 82 = .ok (.getfield 13, 3) := by decide +kernel
theorem dX8_likesBy_85 : decode cX8_likesBy 85 = .ok (.bipush 36, 2) := by decide +kernel
theorem dX8_likesBy_87 : decode cX8_likesBy 87 = .ok (.iload_n 2, 1) := by decide +kernel
theorem dX8_likesBy_88 : decode cX8_likesBy 88 = .ok (.iadd, 1) := by decide +kernel
theorem dX8_likesBy_89 : decode cX8_likesBy 89 = .ok (.iaload, 1) := by decide +kernel
theorem dX8_likesBy_90 : decode cX8_likesBy 90 = .ok (.iastore, 1) := by decide +kernel
theorem dX8_likesBy_91 : decode cX8_likesBy 91 = .ok (.aload_n 0, 1) := by decide +kernel
theorem dX8_likesBy_92 : decode cX8_likesBy 92 = .ok (.iconst 1, 1) := by decide +kernel
theorem dX8_likesBy_93 : decode cX8_likesBy 93 = .ok (.invokevirtual 258, 3) := by decide +kernel
theorem dX8_likesBy_96 : decode cX8_likesBy 96 = .ok (.ireturn, 1) := by decide +kernel
def f_X8_likesBy (v1 : Int32) (v2 : Int32) (s : zS) : Option (Int32 × zS) :=
  (zr_i s 77 (nI 3)).bind fun x1 =>
  if ¬ x1 = 0 then
  ((zr_i s 87 (((nI 7) * v1) + v2)).bind fun x2 =>
  (zw_i s 86 (0 : Int32) x2).bind fun s3 =>
  (zr_i s3 77 ((nI 29) + v2)).bind fun x4 =>
  zbd (f_X8_bitsOf x4 s3) fun r5 s6 =>
  (zw_i s6 86 (1 : Int32) r5).bind fun s7 =>
  (zw_i s7 86 (nI 3) v1).bind fun s8 =>
  (zr_i s8 77 ((nI 36) + v1)).bind fun x9 =>
  (zw_i s8 86 (nI 4) x9).bind fun s10 =>
  (zw_i s10 86 (nI 5) v2).bind fun s11 =>
  (zr_i s11 77 ((nI 36) + v2)).bind fun x12 =>
  (zw_i s11 86 (nI 6) x12).bind fun s13 =>
  zbd (f_X8_reckons (1 : Int32) s13) fun r14 s15 =>
  some (r14, s15))
  else
  some ((1 : Int32), s)
set_option maxRecDepth 20000 in
theorem c_X8_likesBy (Y : zG) (v1 : Int32) (v2 : Int32) (s : zS) : zM Y yX8_likesBy cX8_likesBy 3 (some .int) (zR 2 48) [.ref (zy_a Y 76), .int v1, .int v2] s zrI (f_X8_likesBy v1 v2 s) := by
  refine zm_start (by decide +kernel) (Nat.le_of_ble_eq_true rfl) ?_
  intro X hY hT hX
  subst hY
  have hX : zx_ok X cX8_likesBy RX8 3 := hX
  show zV X (zq X zrI) 3 0 [(0, .ref (zx_ad X 76)), (1, .int v1), (2, .int v2)] [] s _
  unfold f_X8_likesBy
  refine zv_aload_n hX dX8_likesBy_0 0 rfl ?_
  refine zv_geta hX wf_X8_13 wc_8 zd_76 zj_76_1 c9_8 zr_76_1 (by decide) dX8_likesBy_1 ?_
  refine zv_iconst (v := (nI 3)) hX dX8_likesBy_4 zi_i_3 ?_
  refine zv_iald hX dX8_likesBy_5 (fun x1 => ?_)
  refine zv_if_ne (tgt := 11) hX dX8_likesBy_6 rfl ?_ ?_
  · refine zv_aload_n hX dX8_likesBy_11 0 rfl ?_
    refine zv_geta hX wf_X8_45 wc_8 zd_76 zj_76_23 c9_8 zr_76_23 (by decide) dX8_likesBy_12 ?_
    refine zv_iconst (v := (0 : Int32)) hX dX8_likesBy_15 zi_i_0 ?_
    refine zv_aload_n hX dX8_likesBy_16 0 rfl ?_
    refine zv_geta hX wf_X8_48 wc_8 zd_76 zj_76_24 c9_8 zr_76_24 (by decide) dX8_likesBy_17 ?_
    refine zv_bipush (v := (nI 7)) hX dX8_likesBy_20 zi_b_7 ?_
    refine zv_iload_n hX dX8_likesBy_22 1 rfl ?_
    refine zv_imul hX dX8_likesBy_23 ?_
    refine zv_iload_n hX dX8_likesBy_24 2 rfl ?_
    refine zv_iadd hX dX8_likesBy_25 ?_
    refine zv_iald hX dX8_likesBy_26 (fun x2 => ?_)
    refine zv_iast hX dX8_likesBy_27 (fun s3 => ?_)
    refine zv_aload_n hX dX8_likesBy_28 0 rfl ?_
    refine zv_geta hX wf_X8_45 wc_8 zd_76 zj_76_23 c9_8 zr_76_23 (by decide) dX8_likesBy_29 ?_
    refine zv_iconst (v := (1 : Int32)) hX dX8_likesBy_32 zi_i_1 ?_
    refine zv_aload_n hX dX8_likesBy_33 0 rfl ?_
    refine zv_geta hX wf_X8_13 wc_8 zd_76 zj_76_1 c9_8 zr_76_1 (by decide) dX8_likesBy_34 ?_
    refine zv_bipush (v := (nI 29)) hX dX8_likesBy_37 zi_b_29 ?_
    refine zv_iload_n hX dX8_likesBy_39 2 rfl ?_
    refine zv_iadd hX dX8_likesBy_40 ?_
    refine zv_iald hX dX8_likesBy_41 (fun x4 => ?_)
    refine zv_cSI [.int x4] (rest := [.int (1 : Int32), .ref (zx_ad X 86)]) hX hT.2.2.2.2 (c_X8_bitsOf (zx_Y X) x4 s3) wv_X8_bitsOf wm_X8_233 rfl (Nat.le_of_ble_eq_true rfl) (Nat.le_of_ble_eq_true rfl) rfl (Nat.le_of_ble_eq_true rfl) dX8_likesBy_42 (fun r5 s6 => ?_)
    refine zv_iast hX dX8_likesBy_45 (fun s7 => ?_)
    refine zv_aload_n hX dX8_likesBy_46 0 rfl ?_
    refine zv_geta hX wf_X8_45 wc_8 zd_76 zj_76_23 c9_8 zr_76_23 (by decide) dX8_likesBy_47 ?_
    refine zv_iconst (v := (nI 3)) hX dX8_likesBy_50 zi_i_3 ?_
    refine zv_iload_n hX dX8_likesBy_51 1 rfl ?_
    refine zv_iast hX dX8_likesBy_52 (fun s8 => ?_)
    refine zv_aload_n hX dX8_likesBy_53 0 rfl ?_
    refine zv_geta hX wf_X8_45 wc_8 zd_76 zj_76_23 c9_8 zr_76_23 (by decide) dX8_likesBy_54 ?_
    refine zv_iconst (v := (nI 4)) hX dX8_likesBy_57 zi_i_4 ?_
    refine zv_aload_n hX dX8_likesBy_58 0 rfl ?_
    refine zv_geta hX wf_X8_13 wc_8 zd_76 zj_76_1 c9_8 zr_76_1 (by decide) dX8_likesBy_59 ?_
    refine zv_bipush (v := (nI 36)) hX dX8_likesBy_62 zi_b_36 ?_
    refine zv_iload_n hX dX8_likesBy_64 1 rfl ?_
    refine zv_iadd hX dX8_likesBy_65 ?_
    refine zv_iald hX dX8_likesBy_66 (fun x9 => ?_)
    refine zv_iast hX dX8_likesBy_67 (fun s10 => ?_)
    refine zv_aload_n hX dX8_likesBy_68 0 rfl ?_
    refine zv_geta hX wf_X8_45 wc_8 zd_76 zj_76_23 c9_8 zr_76_23 (by decide) dX8_likesBy_69 ?_
    refine zv_iconst (v := (nI 5)) hX dX8_likesBy_72 zi_i_5 ?_
    refine zv_iload_n hX dX8_likesBy_73 2 rfl ?_
    refine zv_iast hX dX8_likesBy_74 (fun s11 => ?_)
    refine zv_aload_n hX dX8_likesBy_75 0 rfl ?_
    refine zv_geta hX wf_X8_45 wc_8 zd_76 zj_76_23 c9_8 zr_76_23 (by decide) dX8_likesBy_76 ?_
    refine zv_bipush (v := (nI 6)) hX dX8_likesBy_79 zi_b_6 ?_
    refine zv_aload_n hX dX8_likesBy_81 0 rfl ?_
    refine zv_geta hX wf_X8_13 wc_8 zd_76 zj_76_1 c9_8 zr_76_1 (by decide) dX8_likesBy_82 ?_
    refine zv_bipush (v := (nI 36)) hX dX8_likesBy_85 zi_b_36 ?_
    refine zv_iload_n hX dX8_likesBy_87 2 rfl ?_
    refine zv_iadd hX dX8_likesBy_88 ?_
    refine zv_iald hX dX8_likesBy_89 (fun x12 => ?_)
    refine zv_iast hX dX8_likesBy_90 (fun s13 => ?_)
    refine zv_aload_n hX dX8_likesBy_91 0 rfl ?_
    refine zv_iconst (v := (1 : Int32)) hX dX8_likesBy_92 zi_i_1 ?_
    refine zv_cVI [.int (1 : Int32)] (rest := []) hX hT.2.2.2.2 (c_X8_reckons (zx_Y X) (1 : Int32) s13) wv_X8_reckons c9_8 zd_76 wm_X8_258 rfl (Nat.le_of_ble_eq_true rfl) (Nat.le_of_ble_eq_true rfl) rfl (Nat.le_of_ble_eq_true rfl) dX8_likesBy_93 (fun r14 s15 => ?_)
    exact zv_ireti hX hT dX8_likesBy_96
  · refine zv_iconst (v := (1 : Int32)) hX dX8_likesBy_9 zi_i_1 ?_
    exact zv_ireti hX hT dX8_likesBy_10
theorem dX8_laysLiked_0 : decode cX8_laysLiked 0 = .ok (.iconst 0, 1) := by decide +kernel
theorem dX8_laysLiked_1 : decode cX8_laysLiked 1 = .ok (.istore_n 1, 1) := by decide +kernel
theorem dX8_laysLiked_2 : decode cX8_laysLiked 2 = .ok (.iload_n 1, 1) := by decide +kernel
theorem dX8_laysLiked_3 : decode cX8_laysLiked 3 = .ok (.aload_n 0, 1) := by decide +kernel
theorem dX8_laysLiked_4 : decode cX8_laysLiked 4 = .ok (.getfield 13, 3) := by decide +kernel
theorem dX8_laysLiked_7 : decode cX8_laysLiked 7 = .ok (.iconst 1, 1) := by decide +kernel
theorem dX8_laysLiked_8 : decode cX8_laysLiked 8 = .ok (.iaload, 1) := by decide +kernel
theorem dX8_laysLiked_9 : decode cX8_laysLiked 9 = .ok (.if_icmp .ge 49, 3) := by decide +kernel
theorem dX8_laysLiked_12 : decode cX8_laysLiked 12 = .ok (.iconst 0, 1) := by decide +kernel
theorem dX8_laysLiked_13 : decode cX8_laysLiked 13 = .ok (.istore_n 2, 1) := by decide +kernel
theorem dX8_laysLiked_14 : decode cX8_laysLiked 14 = .ok (.iload_n 2, 1) := by decide +kernel
theorem dX8_laysLiked_15 : decode cX8_laysLiked 15 = .ok (.aload_n 0, 1) := by decide +kernel
theorem dX8_laysLiked_16 : decode cX8_laysLiked 16 = .ok (.getfield 13, 3) := by decide +kernel
theorem dX8_laysLiked_19 : decode cX8_laysLiked 19 = .ok (.iconst 1, 1) := by decide +kernel
theorem dX8_laysLiked_20 : decode cX8_laysLiked 20 = .ok (.iaload, 1) := by decide +kernel
theorem dX8_laysLiked_21 : decode cX8_laysLiked 21 = .ok (.if_icmp .ge 31, 3) := by decide +kernel
theorem dX8_laysLiked_24 : decode cX8_laysLiked 24 = .ok (.iload_n 1, 1) := by decide +kernel
theorem dX8_laysLiked_25 : decode cX8_laysLiked 25 = .ok (.iload_n 2, 1) := by decide +kernel
theorem dX8_laysLiked_26 : decode cX8_laysLiked 26 = .ok (.if_icmp .eq 20, 3) := by decide +kernel
theorem dX8_laysLiked_29 : decode cX8_laysLiked 29 = .ok (.aload_n 0, 1) := by decide +kernel
theorem dX8_laysLiked_30 : decode cX8_laysLiked 30 = .ok (.getfield 51, 3) := by decide +kernel
theorem dX8_laysLiked_33 : decode cX8_laysLiked 33 = .ok (.bipush 7, 2) := by decide +kernel
theorem dX8_laysLiked_35 : decode cX8_laysLiked 35 = .ok (.iload_n 1, 1) := by decide +kernel
theorem dX8_laysLiked_36 : decode cX8_laysLiked 36 = .ok (.imul, 1) := by decide +kernel
theorem dX8_laysLiked_37 : decode cX8_laysLiked 37 = .ok (.iload_n 2, 1) := by decide +kernel
theorem dX8_laysLiked_38 : decode cX8_laysLiked 38 = .ok (.iadd, 1) := by decide +kernel
theorem dX8_laysLiked_39 : decode cX8_laysLiked 39 = .ok (.aload_n 0, 1) := by decide +kernel
theorem dX8_laysLiked_40 : decode cX8_laysLiked 40 = .ok (.iload_n 1, 1) := by decide +kernel
theorem dX8_laysLiked_41 : decode cX8_laysLiked 41 = .ok (.iload_n 2, 1) := by decide +kernel
theorem dX8_laysLiked_42 : decode cX8_laysLiked 42 = .ok (.invokevirtual 271, 3) := by decide +kernel
theorem dX8_laysLiked_45 : decode cX8_laysLiked 45 = .ok (.iastore, 1) := by decide +kernel
theorem dX8_laysLiked_46 : decode cX8_laysLiked 46 = .ok (.iinc 2 1, 3) := by decide +kernel
theorem dX8_laysLiked_49 : decode cX8_laysLiked 49 = .ok (.goto (-35), 3) := by decide +kernel
theorem dX8_laysLiked_52 : decode cX8_laysLiked 52 = .ok (.iinc 1 1, 3) := by decide +kernel
theorem dX8_laysLiked_55 : decode cX8_laysLiked 55 = .ok (.goto (-53), 3) := by decide +kernel
theorem dX8_laysLiked_58 : decode cX8_laysLiked 58 = .ok (.iconst 0, 1) := by decide +kernel
theorem dX8_laysLiked_59 : decode cX8_laysLiked 59 = .ok (.istore_n 1, 1) := by decide +kernel
theorem dX8_laysLiked_60 : decode cX8_laysLiked 60 = .ok (.iload_n 1, 1) := by decide +kernel
theorem dX8_laysLiked_61 : decode cX8_laysLiked 61 = .ok (.aload_n 0, 1) := by decide +kernel
theorem dX8_laysLiked_62 : decode cX8_laysLiked 62 = .ok (.getfield 13, 3) := by decide +kernel
theorem dX8_laysLiked_65 : decode cX8_laysLiked 65 = .ok (.iconst 1, 1) := by decide +kernel
theorem dX8_laysLiked_66 : decode cX8_laysLiked 66 = .ok (.iaload, 1) := by decide +kernel
theorem dX8_laysLiked_67 : decode cX8_laysLiked 67 = .ok (.if_icmp .ge 120, 3) := by decide +kernel
theorem dX8_laysLiked_70 : decode cX8_laysLiked 70 = .ok (.iconst 0, 1) := by decide +kernel
theorem dX8_laysLiked_71 : decode cX8_laysLiked 71 = .ok (.istore_n 2, 1) := by decide +kernel
theorem dX8_laysLiked_72 : decode cX8_laysLiked 72 = .ok (.iload_n 2, 1) := by decide +kernel
theorem dX8_laysLiked_73 : decode cX8_laysLiked 73 = .ok (.aload_n 0, 1) := by decide +kernel
theorem dX8_laysLiked_74 : decode cX8_laysLiked 74 = .ok (.getfield 13, 3) := by decide +kernel
theorem dX8_laysLiked_77 : decode cX8_laysLiked 77 = .ok (.iconst 1, 1) := by decide +kernel
theorem dX8_laysLiked_78 : decode cX8_laysLiked 78 = .ok (.iaload, 1) := by decide +kernel
theorem dX8_laysLiked_79 : decode cX8_laysLiked 79 = .ok (.if_icmp .ge 102, 3) := by decide +kernel
theorem dX8_laysLiked_82 : decode cX8_laysLiked 82 = .ok (.aload_n 0, 1) := by decide +kernel
theorem dX8_laysLiked_83 : decode cX8_laysLiked 83 = .ok (.getfield 54, 3) := by decide +kernel
theorem dX8_laysLiked_86 : decode cX8_laysLiked 86 = .ok (.bipush 7, 2) := by decide +kernel
theorem dX8_laysLiked_88 : decode cX8_laysLiked 88 = .ok (.iload_n 1, 1) := by decide +kernel
theorem dX8_laysLiked_89 : decode cX8_laysLiked 89 = .ok (.imul, 1) := by decide +kernel
theorem dX8_laysLiked_90 : decode cX8_laysLiked 90 = .ok (.iload_n 2, 1) := by decide +kernel
theorem dX8_laysLiked_91 : decode cX8_laysLiked 91 = .ok (.iadd, 1) := by decide +kernel
theorem dX8_laysLiked_92 : decode cX8_laysLiked 92 = .ok (.iload_n 1, 1) := by decide +kernel
theorem dX8_laysLiked_93 : decode cX8_laysLiked 93 = .ok (.iload_n 2, 1) := by decide +kernel
theorem dX8_laysLiked_94 : decode cX8_laysLiked 94 = .ok (.if_icmp .eq 79, 3) := by decide +kernel
theorem dX8_laysLiked_97 : decode cX8_laysLiked 97 = .ok (.aload_n 0, 1) := by decide +kernel
theorem dX8_laysLiked_98 : decode cX8_laysLiked 98 = .ok (.getfield 51, 3) := by decide +kernel
theorem dX8_laysLiked_101 : decode cX8_laysLiked 101 = .ok (.bipush 7, 2) := by decide +kernel
theorem dX8_laysLiked_103 : decode cX8_laysLiked 103 = .ok (.iload_n 1, 1) := by decide +kernel
theorem dX8_laysLiked_104 : decode cX8_laysLiked 104 = .ok (.imul, 1) := by decide +kernel
theorem dX8_laysLiked_105 : decode cX8_laysLiked 105 = .ok (.iload_n 2, 1) := by decide +kernel
theorem dX8_laysLiked_106 : decode cX8_laysLiked 106 = .ok (.iadd, 1) := by decide +kernel
theorem dX8_laysLiked_107 : decode cX8_laysLiked 107 = .ok (.iaload, 1) := by decide +kernel
theorem dX8_laysLiked_108 : decode cX8_laysLiked 108 = .ok (.ifCond .le 65, 3) := by decide +kernel
theorem dX8_laysLiked_111 : decode cX8_laysLiked 111 = .ok (.aload_n 0, 1) := by decide +kernel
theorem dX8_laysLiked_112 : decode cX8_laysLiked 112 = .ok (.getfield 51, 3) := by decide +kernel
theorem dX8_laysLiked_115 : decode cX8_laysLiked 115 = .ok (.bipush 7, 2) := by decide +kernel
theorem dX8_laysLiked_117 : decode cX8_laysLiked 117 = .ok (.iload_n 2, 1) := by decide +kernel
theorem dX8_laysLiked_118 : decode cX8_laysLiked 118 = .ok (.imul, 1) := by decide +kernel
theorem dX8_laysLiked_119 : decode cX8_laysLiked 119 = .ok (.iload_n 1, 1) := by decide +kernel
theorem dX8_laysLiked_120 : decode cX8_laysLiked 120 = .ok (.iadd, 1) := by decide +kernel
theorem dX8_laysLiked_121 : decode cX8_laysLiked 121 = .ok (.iaload, 1) := by decide +kernel
theorem dX8_laysLiked_122 : decode cX8_laysLiked 122 = .ok (.ifCond .le 51, 3) := by decide +kernel
theorem dX8_laysLiked_125 : decode cX8_laysLiked 125 = .ok (.aload_n 0, 1) := by decide +kernel
theorem dX8_laysLiked_126 : decode cX8_laysLiked 126 = .ok (.aload_n 0, 1) := by decide +kernel
theorem dX8_laysLiked_127 : decode cX8_laysLiked 127 = .ok (.getfield 48, 3) := by decide +kernel
theorem dX8_laysLiked_130 : decode cX8_laysLiked 130 = .ok (.bipush 7, 2) := by decide +kernel
theorem dX8_laysLiked_132 : decode cX8_laysLiked 132 = .ok (.iload_n 1, 1) := by decide +kernel
theorem dX8_laysLiked_133 : decode cX8_laysLiked 133 = .ok (.imul, 1) := by decide +kernel
theorem dX8_laysLiked_134 : decode cX8_laysLiked 134 = .ok (.iload_n 2, 1) := by decide +kernel
theorem dX8_laysLiked_135 : decode cX8_laysLiked 135 = .ok (.iadd, 1) := by decide +kernel
theorem dX8_laysLiked_136 : decode cX8_laysLiked 136 = .ok (.iaload, 1) := by decide +kernel
theorem dX8_laysLiked_137 : decode cX8_laysLiked 137 = .ok (.aload_n 0, 1) := by decide +kernel
theorem dX8_laysLiked_138 : decode cX8_laysLiked 138 = .ok (.getfield 13, 3) := by decide +kernel
theorem dX8_laysLiked_141 : decode cX8_laysLiked 141 = .ok (.bipush 29, 2) := by decide +kernel
theorem dX8_laysLiked_143 : decode cX8_laysLiked 143 = .ok (.iload_n 1, 1) := by decide +kernel
theorem dX8_laysLiked_144 : decode cX8_laysLiked 144 = .ok (.iadd, 1) := by decide +kernel
theorem dX8_laysLiked_145 : decode cX8_laysLiked 145 = .ok (.iaload, 1) := by decide +kernel
theorem dX8_laysLiked_146 : decode cX8_laysLiked 146 = .ok (.invokestatic 233, 3) := by decide +kernel
theorem dX8_laysLiked_149 : decode cX8_laysLiked 149 = .ok (.aload_n 0, 1) := by decide +kernel
theorem dX8_laysLiked_150 : decode cX8_laysLiked 150 = .ok (.getfield 13, 3) := by decide +kernel
theorem dX8_laysLiked_153 : decode cX8_laysLiked 153 = .ok (.bipush 29, 2) := by decide +kernel
theorem dX8_laysLiked_155 : decode cX8_laysLiked 155 = .ok (.iload_n 2, 1) := by decide +kernel
theorem dX8_laysLiked_156 : decode cX8_laysLiked 156 = .ok (.iadd, 1) := by decide +kernel
theorem dX8_laysLiked_157 : decode cX8_laysLiked 157 = .ok (.iaload, 1) := by decide +kernel
theorem dX8_laysLiked_158 : decode cX8_laysLiked 158 = .ok (.invokestatic 233, 3) := by decide +kernel
theorem dX8_laysLiked_161 : decode cX8_laysLiked 161 = .ok (.iadd, 1) := by decide +kernel
theorem dX8_laysLiked_162 : decode cX8_laysLiked 162 = .ok (.iconst 2, 1) := by decide +kernel
theorem dX8_laysLiked_163 : decode cX8_laysLiked 163 = .ok (.invokevirtual 264, 3) := by decide +kernel
theorem dX8_laysLiked_166 : decode cX8_laysLiked 166 = .ok (.ifCond .eq 7, 3) := by decide +kernel
theorem dX8_laysLiked_169 : decode cX8_laysLiked 169 = .ok (.iconst 1, 1) := by decide +kernel
theorem dX8_laysLiked_170 : decode cX8_laysLiked 170 = .ok (.goto 4, 3) := by decide +kernel
theorem dX8_laysLiked_173 : decode cX8_laysLiked 173 = .ok (.iconst 0, 1) := by decide +kernel
theorem dX8_laysLiked_174 : decode cX8_laysLiked 174 = .ok (.bastore, 1) := by decide +kernel
theorem dX8_laysLiked_175 : decode cX8_laysLiked 175 = .ok (.iinc 2 1, 3) := by decide +kernel
theorem dX8_laysLiked_178 : decode cX8_laysLiked 178 = .ok (.goto (-106), 3) := by decide +kernel
theorem dX8_laysLiked_181 : decode cX8_laysLiked 181 = .ok (.iinc 1 1, 3) := by decide +kernel
theorem dX8_laysLiked_184 : decode cX8_laysLiked 184 = .ok (.goto (-124), 3) := by decide +kernel
theorem dX8_laysLiked_187 : decode cX8_laysLiked 187 = .ok (.return_, 1) := by decide +kernel
def f_X8_laysLiked_174 (kb_60 : Int32 → zS → Option (Unit × zS)) (kb_72 : Int32 → Int32 → zS → Option (Unit × zS)) (v1 : Int32) (v2 : Int32) (w0 : Int32) (w1 : Int32) (s : zS) : Option (Unit × zS) :=
  (zw_b s 89 w1 w0).bind fun s1 =>
  zb (v2 + (1 : Int32)) fun x2 =>
  kb_72 v1 x2 s1
set_option maxRecDepth 20000 in
theorem b_X8_laysLiked_174 {X : zX} {kb_60 : Int32 → zS → Option (Unit × zS)} {kb_72 : Int32 → Int32 → zS → Option (Unit × zS)} (hX : zx_ok X cX8_laysLiked RX8 3) (hT : zx_rt X none (zR 3 71)) (hk_60 : ∀ (v1 : Int32) (s : zS), zV X (zq X zrV) 3 60 [(0, .ref (zx_ad X 76)), (1, .int v1)] [] s (kb_60 v1 s)) (hk_72 : ∀ (v1 : Int32) (v2 : Int32) (s : zS), zV X (zq X zrV) 3 72 [(0, .ref (zx_ad X 76)), (1, .int v1), (2, .int v2)] [] s (kb_72 v1 v2 s)) : ∀ (v1 : Int32) (v2 : Int32) (w0 : Int32) (w1 : Int32) (s : zS), zV X (zq X zrV) 3 174 [(0, .ref (zx_ad X 76)), (1, .int v1), (2, .int v2)] [.int w0, .int w1, .ref (zx_ad X 89)] s (f_X8_laysLiked_174 kb_60 kb_72 v1 v2 w0 w1 s) := by
  intro v1 v2 w0 w1 s
  unfold f_X8_laysLiked_174
  refine zv_bast hX dX8_laysLiked_174 (fun s1 => ?_)
  refine zv_iincB (lw := fun x2 => [(2, .int x2), (0, .ref (zx_ad X 76)), (1, .int v1)]) hX dX8_laysLiked_175 2 rfl zi_i_1 (by decide) (fun _ => rfl) (fun x2 => ?_)
  refine zv_goto (tgt := 72) hX dX8_laysLiked_178 rfl ?_
  exact zv_sub [1, 2, 0] rfl (hk_72 v1 x2 s1)
def f_X8_laysLiked_173 (kb_60 : Int32 → zS → Option (Unit × zS)) (kb_72 : Int32 → Int32 → zS → Option (Unit × zS)) (v1 : Int32) (v2 : Int32) (w0 : Int32) (s : zS) : Option (Unit × zS) :=
  f_X8_laysLiked_174 kb_60 kb_72 v1 v2 (0 : Int32) w0 s
set_option maxRecDepth 20000 in
theorem b_X8_laysLiked_173 {X : zX} {kb_60 : Int32 → zS → Option (Unit × zS)} {kb_72 : Int32 → Int32 → zS → Option (Unit × zS)} (hX : zx_ok X cX8_laysLiked RX8 3) (hT : zx_rt X none (zR 3 71)) (hk_60 : ∀ (v1 : Int32) (s : zS), zV X (zq X zrV) 3 60 [(0, .ref (zx_ad X 76)), (1, .int v1)] [] s (kb_60 v1 s)) (hk_72 : ∀ (v1 : Int32) (v2 : Int32) (s : zS), zV X (zq X zrV) 3 72 [(0, .ref (zx_ad X 76)), (1, .int v1), (2, .int v2)] [] s (kb_72 v1 v2 s)) : ∀ (v1 : Int32) (v2 : Int32) (w0 : Int32) (s : zS), zV X (zq X zrV) 3 173 [(0, .ref (zx_ad X 76)), (1, .int v1), (2, .int v2)] [.int w0, .ref (zx_ad X 89)] s (f_X8_laysLiked_173 kb_60 kb_72 v1 v2 w0 s) := by
  intro v1 v2 w0 s
  unfold f_X8_laysLiked_173
  refine zv_iconst (v := (0 : Int32)) hX dX8_laysLiked_173 zi_i_0 ?_
  exact b_X8_laysLiked_174 hX hT hk_60 hk_72 v1 v2 (0 : Int32) w0 s
def f_X8_laysLiked_72 (kb_60 : Int32 → zS → Option (Unit × zS)) : Nat → Int32 → Int32 → zS → Option (Unit × zS)
  | 0, _, _, _ => none
  | n + 1, v1, v2, s =>
    (zr_i s 77 (1 : Int32)).bind fun x3 =>
    if x3 ≤ v2 then
    (zb (v1 + (1 : Int32)) fun x4 =>
    kb_60 x4 s)
    else
    if v1 = v2 then
    (f_X8_laysLiked_173 kb_60 (f_X8_laysLiked_72 kb_60 n) v1 v2 (((nI 7) * v1) + v2) s)
    else
    (zr_i s 88 (((nI 7) * v1) + v2)).bind fun x5 =>
    if x5 ≤ 0 then
    (f_X8_laysLiked_173 kb_60 (f_X8_laysLiked_72 kb_60 n) v1 v2 (((nI 7) * v1) + v2) s)
    else
    (zr_i s 88 (((nI 7) * v2) + v1)).bind fun x6 =>
    if x6 ≤ 0 then
    (f_X8_laysLiked_173 kb_60 (f_X8_laysLiked_72 kb_60 n) v1 v2 (((nI 7) * v1) + v2) s)
    else
    (zr_i s 87 (((nI 7) * v1) + v2)).bind fun x7 =>
    (zr_i s 77 ((nI 29) + v1)).bind fun x8 =>
    zbd (f_X8_bitsOf x8 s) fun r9 s10 =>
    (zr_i s10 77 ((nI 29) + v2)).bind fun x11 =>
    zbd (f_X8_bitsOf x11 s10) fun r12 s13 =>
    zbd (f_X8_fitsBy x7 (r9 + r12) (nI 2) s13) fun r14 s15 =>
    if r14 = 0 then
    (f_X8_laysLiked_173 kb_60 (f_X8_laysLiked_72 kb_60 n) v1 v2 (((nI 7) * v1) + v2) s15)
    else
    f_X8_laysLiked_174 kb_60 (f_X8_laysLiked_72 kb_60 n) v1 v2 (1 : Int32) (((nI 7) * v1) + v2) s15
set_option maxRecDepth 20000 in
theorem b_X8_laysLiked_72 {X : zX} {kb_60 : Int32 → zS → Option (Unit × zS)} (hX : zx_ok X cX8_laysLiked RX8 3) (hT : zx_rt X none (zR 3 71)) (hk_60 : ∀ (v1 : Int32) (s : zS), zV X (zq X zrV) 3 60 [(0, .ref (zx_ad X 76)), (1, .int v1)] [] s (kb_60 v1 s)) : ∀ (n : Nat) (v1 : Int32) (v2 : Int32) (s : zS), zV X (zq X zrV) 3 72 [(0, .ref (zx_ad X 76)), (1, .int v1), (2, .int v2)] [] s (f_X8_laysLiked_72 kb_60 n v1 v2 s) := by
  intro n
  induction n with
  | zero => intro v1 v2 s; exact zv_none
  | succ n ih =>
    intro v1 v2 s
    rw [f_X8_laysLiked_72]
    refine zv_iload_n hX dX8_laysLiked_72 2 rfl ?_
    refine zv_aload_n hX dX8_laysLiked_73 0 rfl ?_
    refine zv_geta hX wf_X8_13 wc_8 zd_76 zj_76_1 c9_8 zr_76_1 (by decide) dX8_laysLiked_74 ?_
    refine zv_iconst (v := (1 : Int32)) hX dX8_laysLiked_77 zi_i_1 ?_
    refine zv_iald hX dX8_laysLiked_78 (fun x3 => ?_)
    refine zv_icmp_ge (tgt := 181) hX dX8_laysLiked_79 rfl ?_ ?_
    · refine zv_iincB (lw := fun x4 => [(1, .int x4), (0, .ref (zx_ad X 76)), (2, .int v2)]) hX dX8_laysLiked_181 1 rfl zi_i_1 (by decide) (fun _ => rfl) (fun x4 => ?_)
      refine zv_goto (tgt := 60) hX dX8_laysLiked_184 rfl ?_
      exact zv_sub [1, 0] rfl (hk_60 x4 s)
    · refine zv_aload_n hX dX8_laysLiked_82 0 rfl ?_
      refine zv_geta hX wf_X8_54 wc_8 zd_76 zj_76_26 c9_8 zr_76_26 (by decide) dX8_laysLiked_83 ?_
      refine zv_bipush (v := (nI 7)) hX dX8_laysLiked_86 zi_b_7 ?_
      refine zv_iload_n hX dX8_laysLiked_88 1 rfl ?_
      refine zv_imul hX dX8_laysLiked_89 ?_
      refine zv_iload_n hX dX8_laysLiked_90 2 rfl ?_
      refine zv_iadd hX dX8_laysLiked_91 ?_
      refine zv_iload_n hX dX8_laysLiked_92 1 rfl ?_
      refine zv_iload_n hX dX8_laysLiked_93 2 rfl ?_
      refine zv_icmp_eq (tgt := 173) hX dX8_laysLiked_94 rfl ?_ ?_
      · exact b_X8_laysLiked_173 hX hT hk_60 ih v1 v2 (((nI 7) * v1) + v2) s
      · refine zv_aload_n hX dX8_laysLiked_97 0 rfl ?_
        refine zv_geta hX wf_X8_51 wc_8 zd_76 zj_76_25 c9_8 zr_76_25 (by decide) dX8_laysLiked_98 ?_
        refine zv_bipush (v := (nI 7)) hX dX8_laysLiked_101 zi_b_7 ?_
        refine zv_iload_n hX dX8_laysLiked_103 1 rfl ?_
        refine zv_imul hX dX8_laysLiked_104 ?_
        refine zv_iload_n hX dX8_laysLiked_105 2 rfl ?_
        refine zv_iadd hX dX8_laysLiked_106 ?_
        refine zv_iald hX dX8_laysLiked_107 (fun x5 => ?_)
        refine zv_if_le (tgt := 173) hX dX8_laysLiked_108 rfl ?_ ?_
        · exact b_X8_laysLiked_173 hX hT hk_60 ih v1 v2 (((nI 7) * v1) + v2) s
        · refine zv_aload_n hX dX8_laysLiked_111 0 rfl ?_
          refine zv_geta hX wf_X8_51 wc_8 zd_76 zj_76_25 c9_8 zr_76_25 (by decide) dX8_laysLiked_112 ?_
          refine zv_bipush (v := (nI 7)) hX dX8_laysLiked_115 zi_b_7 ?_
          refine zv_iload_n hX dX8_laysLiked_117 2 rfl ?_
          refine zv_imul hX dX8_laysLiked_118 ?_
          refine zv_iload_n hX dX8_laysLiked_119 1 rfl ?_
          refine zv_iadd hX dX8_laysLiked_120 ?_
          refine zv_iald hX dX8_laysLiked_121 (fun x6 => ?_)
          refine zv_if_le (tgt := 173) hX dX8_laysLiked_122 rfl ?_ ?_
          · exact b_X8_laysLiked_173 hX hT hk_60 ih v1 v2 (((nI 7) * v1) + v2) s
          · refine zv_aload_n hX dX8_laysLiked_125 0 rfl ?_
            refine zv_aload_n hX dX8_laysLiked_126 0 rfl ?_
            refine zv_geta hX wf_X8_48 wc_8 zd_76 zj_76_24 c9_8 zr_76_24 (by decide) dX8_laysLiked_127 ?_
            refine zv_bipush (v := (nI 7)) hX dX8_laysLiked_130 zi_b_7 ?_
            refine zv_iload_n hX dX8_laysLiked_132 1 rfl ?_
            refine zv_imul hX dX8_laysLiked_133 ?_
            refine zv_iload_n hX dX8_laysLiked_134 2 rfl ?_
            refine zv_iadd hX dX8_laysLiked_135 ?_
            refine zv_iald hX dX8_laysLiked_136 (fun x7 => ?_)
            refine zv_aload_n hX dX8_laysLiked_137 0 rfl ?_
            refine zv_geta hX wf_X8_13 wc_8 zd_76 zj_76_1 c9_8 zr_76_1 (by decide) dX8_laysLiked_138 ?_
            refine zv_bipush (v := (nI 29)) hX dX8_laysLiked_141 zi_b_29 ?_
            refine zv_iload_n hX dX8_laysLiked_143 1 rfl ?_
            refine zv_iadd hX dX8_laysLiked_144 ?_
            refine zv_iald hX dX8_laysLiked_145 (fun x8 => ?_)
            refine zv_cSI [.int x8] (rest := [.int x7, .ref (zx_ad X 76), .int (((nI 7) * v1) + v2), .ref (zx_ad X 89)]) hX hT.2.2.2.2 (c_X8_bitsOf (zx_Y X) x8 s) wv_X8_bitsOf wm_X8_233 rfl (Nat.le_of_ble_eq_true rfl) (Nat.le_of_ble_eq_true rfl) rfl (Nat.le_of_ble_eq_true rfl) dX8_laysLiked_146 (fun r9 s10 => ?_)
            refine zv_aload_n hX dX8_laysLiked_149 0 rfl ?_
            refine zv_geta hX wf_X8_13 wc_8 zd_76 zj_76_1 c9_8 zr_76_1 (by decide) dX8_laysLiked_150 ?_
            refine zv_bipush (v := (nI 29)) hX dX8_laysLiked_153 zi_b_29 ?_
            refine zv_iload_n hX dX8_laysLiked_155 2 rfl ?_
            refine zv_iadd hX dX8_laysLiked_156 ?_
            refine zv_iald hX dX8_laysLiked_157 (fun x11 => ?_)
            refine zv_cSI [.int x11] (rest := [.int r9, .int x7, .ref (zx_ad X 76), .int (((nI 7) * v1) + v2), .ref (zx_ad X 89)]) hX hT.2.2.2.2 (c_X8_bitsOf (zx_Y X) x11 s10) wv_X8_bitsOf wm_X8_233 rfl (Nat.le_of_ble_eq_true rfl) (Nat.le_of_ble_eq_true rfl) rfl (Nat.le_of_ble_eq_true rfl) dX8_laysLiked_158 (fun r12 s13 => ?_)
            refine zv_iadd hX dX8_laysLiked_161 ?_
            refine zv_iconst (v := (nI 2)) hX dX8_laysLiked_162 zi_i_2 ?_
            refine zv_cVI [.int x7, .int (r9 + r12), .int (nI 2)] (rest := [.int (((nI 7) * v1) + v2), .ref (zx_ad X 89)]) hX hT.2.2.2.2 (c_X8_fitsBy (zx_Y X) x7 (r9 + r12) (nI 2) s13) wv_X8_fitsBy c9_8 zd_76 wm_X8_264 rfl (Nat.le_of_ble_eq_true rfl) (Nat.le_of_ble_eq_true rfl) rfl (Nat.le_of_ble_eq_true rfl) dX8_laysLiked_163 (fun r14 s15 => ?_)
            refine zv_if_eq (tgt := 173) hX dX8_laysLiked_166 rfl ?_ ?_
            · exact b_X8_laysLiked_173 hX hT hk_60 ih v1 v2 (((nI 7) * v1) + v2) s15
            · refine zv_iconst (v := (1 : Int32)) hX dX8_laysLiked_169 zi_i_1 ?_
              refine zv_goto (tgt := 174) hX dX8_laysLiked_170 rfl ?_
              exact b_X8_laysLiked_174 hX hT hk_60 ih v1 v2 (1 : Int32) (((nI 7) * v1) + v2) s15
def f_X8_laysLiked_60 : Nat → Int32 → zS → Option (Unit × zS)
  | 0, _, _ => none
  | n + 1, v1, s =>
    (zr_i s 77 (1 : Int32)).bind fun x16 =>
    if x16 ≤ v1 then
    (some ((), s))
    else
    f_X8_laysLiked_72 (f_X8_laysLiked_60 n) zFU v1 (0 : Int32) s
set_option maxRecDepth 20000 in
theorem b_X8_laysLiked_60 {X : zX} (hX : zx_ok X cX8_laysLiked RX8 3) (hT : zx_rt X none (zR 3 71)) : ∀ (n : Nat) (v1 : Int32) (s : zS), zV X (zq X zrV) 3 60 [(0, .ref (zx_ad X 76)), (1, .int v1)] [] s (f_X8_laysLiked_60 n v1 s) := by
  intro n
  induction n with
  | zero => intro v1 s; exact zv_none
  | succ n ih =>
    intro v1 s
    rw [f_X8_laysLiked_60]
    refine zv_iload_n hX dX8_laysLiked_60 1 rfl ?_
    refine zv_aload_n hX dX8_laysLiked_61 0 rfl ?_
    refine zv_geta hX wf_X8_13 wc_8 zd_76 zj_76_1 c9_8 zr_76_1 (by decide) dX8_laysLiked_62 ?_
    refine zv_iconst (v := (1 : Int32)) hX dX8_laysLiked_65 zi_i_1 ?_
    refine zv_iald hX dX8_laysLiked_66 (fun x16 => ?_)
    refine zv_icmp_ge (tgt := 187) hX dX8_laysLiked_67 rfl ?_ ?_
    · exact zv_vret hX hT dX8_laysLiked_187
    · refine zv_iconst (v := (0 : Int32)) hX dX8_laysLiked_70 zi_i_0 ?_
      refine zv_istore_n (lv' := [(2, .int (0 : Int32)), (0, .ref (zx_ad X 76)), (1, .int v1)]) hX dX8_laysLiked_71 (by decide) rfl ?_
      exact zv_sub [1, 2, 0] rfl (b_X8_laysLiked_72 hX hT ih zFU v1 (0 : Int32) s)
def f_X8_laysLiked_46 (kb_2 : Int32 → zS → Option (Unit × zS)) (kb_14 : Int32 → Int32 → zS → Option (Unit × zS)) (v1 : Int32) (v2 : Int32) (s : zS) : Option (Unit × zS) :=
  zb (v2 + (1 : Int32)) fun x17 =>
  kb_14 v1 x17 s
set_option maxRecDepth 20000 in
theorem b_X8_laysLiked_46 {X : zX} {kb_2 : Int32 → zS → Option (Unit × zS)} {kb_14 : Int32 → Int32 → zS → Option (Unit × zS)} (hX : zx_ok X cX8_laysLiked RX8 3) (hT : zx_rt X none (zR 3 71)) (hk_2 : ∀ (v1 : Int32) (s : zS), zV X (zq X zrV) 3 2 [(0, .ref (zx_ad X 76)), (1, .int v1)] [] s (kb_2 v1 s)) (hk_14 : ∀ (v1 : Int32) (v2 : Int32) (s : zS), zV X (zq X zrV) 3 14 [(0, .ref (zx_ad X 76)), (1, .int v1), (2, .int v2)] [] s (kb_14 v1 v2 s)) : ∀ (v1 : Int32) (v2 : Int32) (s : zS), zV X (zq X zrV) 3 46 [(0, .ref (zx_ad X 76)), (1, .int v1), (2, .int v2)] [] s (f_X8_laysLiked_46 kb_2 kb_14 v1 v2 s) := by
  intro v1 v2 s
  unfold f_X8_laysLiked_46
  refine zv_iincB (lw := fun x17 => [(2, .int x17), (0, .ref (zx_ad X 76)), (1, .int v1)]) hX dX8_laysLiked_46 2 rfl zi_i_1 (by decide) (fun _ => rfl) (fun x17 => ?_)
  refine zv_goto (tgt := 14) hX dX8_laysLiked_49 rfl ?_
  exact zv_sub [1, 2, 0] rfl (hk_14 v1 x17 s)
def f_X8_laysLiked_14 (kb_2 : Int32 → zS → Option (Unit × zS)) : Nat → Int32 → Int32 → zS → Option (Unit × zS)
  | 0, _, _, _ => none
  | n + 1, v1, v2, s =>
    (zr_i s 77 (1 : Int32)).bind fun x18 =>
    if x18 ≤ v2 then
    (zb (v1 + (1 : Int32)) fun x19 =>
    kb_2 x19 s)
    else
    if v1 = v2 then
    (f_X8_laysLiked_46 kb_2 (f_X8_laysLiked_14 kb_2 n) v1 v2 s)
    else
    zbd (f_X8_likesBy v1 v2 s) fun r20 s21 =>
    (zw_i s21 88 (((nI 7) * v1) + v2) r20).bind fun s22 =>
    f_X8_laysLiked_46 kb_2 (f_X8_laysLiked_14 kb_2 n) v1 v2 s22
set_option maxRecDepth 20000 in
theorem b_X8_laysLiked_14 {X : zX} {kb_2 : Int32 → zS → Option (Unit × zS)} (hX : zx_ok X cX8_laysLiked RX8 3) (hT : zx_rt X none (zR 3 71)) (hk_2 : ∀ (v1 : Int32) (s : zS), zV X (zq X zrV) 3 2 [(0, .ref (zx_ad X 76)), (1, .int v1)] [] s (kb_2 v1 s)) : ∀ (n : Nat) (v1 : Int32) (v2 : Int32) (s : zS), zV X (zq X zrV) 3 14 [(0, .ref (zx_ad X 76)), (1, .int v1), (2, .int v2)] [] s (f_X8_laysLiked_14 kb_2 n v1 v2 s) := by
  intro n
  induction n with
  | zero => intro v1 v2 s; exact zv_none
  | succ n ih =>
    intro v1 v2 s
    rw [f_X8_laysLiked_14]
    refine zv_iload_n hX dX8_laysLiked_14 2 rfl ?_
    refine zv_aload_n hX dX8_laysLiked_15 0 rfl ?_
    refine zv_geta hX wf_X8_13 wc_8 zd_76 zj_76_1 c9_8 zr_76_1 (by decide) dX8_laysLiked_16 ?_
    refine zv_iconst (v := (1 : Int32)) hX dX8_laysLiked_19 zi_i_1 ?_
    refine zv_iald hX dX8_laysLiked_20 (fun x18 => ?_)
    refine zv_icmp_ge (tgt := 52) hX dX8_laysLiked_21 rfl ?_ ?_
    · refine zv_iincB (lw := fun x19 => [(1, .int x19), (0, .ref (zx_ad X 76)), (2, .int v2)]) hX dX8_laysLiked_52 1 rfl zi_i_1 (by decide) (fun _ => rfl) (fun x19 => ?_)
      refine zv_goto (tgt := 2) hX dX8_laysLiked_55 rfl ?_
      exact zv_sub [1, 0] rfl (hk_2 x19 s)
    · refine zv_iload_n hX dX8_laysLiked_24 1 rfl ?_
      refine zv_iload_n hX dX8_laysLiked_25 2 rfl ?_
      refine zv_icmp_eq (tgt := 46) hX dX8_laysLiked_26 rfl ?_ ?_
      · exact b_X8_laysLiked_46 hX hT hk_2 ih v1 v2 s
      · refine zv_aload_n hX dX8_laysLiked_29 0 rfl ?_
        refine zv_geta hX wf_X8_51 wc_8 zd_76 zj_76_25 c9_8 zr_76_25 (by decide) dX8_laysLiked_30 ?_
        refine zv_bipush (v := (nI 7)) hX dX8_laysLiked_33 zi_b_7 ?_
        refine zv_iload_n hX dX8_laysLiked_35 1 rfl ?_
        refine zv_imul hX dX8_laysLiked_36 ?_
        refine zv_iload_n hX dX8_laysLiked_37 2 rfl ?_
        refine zv_iadd hX dX8_laysLiked_38 ?_
        refine zv_aload_n hX dX8_laysLiked_39 0 rfl ?_
        refine zv_iload_n hX dX8_laysLiked_40 1 rfl ?_
        refine zv_iload_n hX dX8_laysLiked_41 2 rfl ?_
        refine zv_cVI [.int v1, .int v2] (rest := [.int (((nI 7) * v1) + v2), .ref (zx_ad X 88)]) hX hT.2.2.2.2 (c_X8_likesBy (zx_Y X) v1 v2 s) wv_X8_likesBy c9_8 zd_76 wm_X8_271 rfl (Nat.le_of_ble_eq_true rfl) (Nat.le_of_ble_eq_true rfl) rfl (Nat.le_of_ble_eq_true rfl) dX8_laysLiked_42 (fun r20 s21 => ?_)
        refine zv_iast hX dX8_laysLiked_45 (fun s22 => ?_)
        exact b_X8_laysLiked_46 hX hT hk_2 ih v1 v2 s22
def f_X8_laysLiked_2 : Nat → Int32 → zS → Option (Unit × zS)
  | 0, _, _ => none
  | n + 1, v1, s =>
    (zr_i s 77 (1 : Int32)).bind fun x23 =>
    if x23 ≤ v1 then
    (f_X8_laysLiked_60 zFU (0 : Int32) s)
    else
    f_X8_laysLiked_14 (f_X8_laysLiked_2 n) zFU v1 (0 : Int32) s
set_option maxRecDepth 20000 in
theorem b_X8_laysLiked_2 {X : zX} (hX : zx_ok X cX8_laysLiked RX8 3) (hT : zx_rt X none (zR 3 71)) : ∀ (n : Nat) (v1 : Int32) (s : zS), zV X (zq X zrV) 3 2 [(0, .ref (zx_ad X 76)), (1, .int v1)] [] s (f_X8_laysLiked_2 n v1 s) := by
  intro n
  induction n with
  | zero => intro v1 s; exact zv_none
  | succ n ih =>
    intro v1 s
    rw [f_X8_laysLiked_2]
    refine zv_iload_n hX dX8_laysLiked_2 1 rfl ?_
    refine zv_aload_n hX dX8_laysLiked_3 0 rfl ?_
    refine zv_geta hX wf_X8_13 wc_8 zd_76 zj_76_1 c9_8 zr_76_1 (by decide) dX8_laysLiked_4 ?_
    refine zv_iconst (v := (1 : Int32)) hX dX8_laysLiked_7 zi_i_1 ?_
    refine zv_iald hX dX8_laysLiked_8 (fun x23 => ?_)
    refine zv_icmp_ge (tgt := 58) hX dX8_laysLiked_9 rfl ?_ ?_
    · refine zv_iconst (v := (0 : Int32)) hX dX8_laysLiked_58 zi_i_0 ?_
      refine zv_istore_n (lv' := [(1, .int (0 : Int32)), (0, .ref (zx_ad X 76))]) hX dX8_laysLiked_59 (by decide) rfl ?_
      exact zv_sub [1, 0] rfl (b_X8_laysLiked_60 hX hT zFU (0 : Int32) s)
    · refine zv_iconst (v := (0 : Int32)) hX dX8_laysLiked_12 zi_i_0 ?_
      refine zv_istore_n (lv' := [(2, .int (0 : Int32)), (0, .ref (zx_ad X 76)), (1, .int v1)]) hX dX8_laysLiked_13 (by decide) rfl ?_
      exact zv_sub [1, 2, 0] rfl (b_X8_laysLiked_14 hX hT ih zFU v1 (0 : Int32) s)
def f_X8_laysLiked  (s : zS) : Option (Unit × zS) :=
  f_X8_laysLiked_2 zFU (0 : Int32) s
set_option maxRecDepth 20000 in
theorem c_X8_laysLiked (Y : zG)  (s : zS) : zM Y yX8_laysLiked cX8_laysLiked 3 none (zR 3 71) [.ref (zy_a Y 76)] s zrV (f_X8_laysLiked  s) := by
  refine zm_start (by decide +kernel) (Nat.le_of_ble_eq_true rfl) ?_
  intro X hY hT hX
  subst hY
  have hX : zx_ok X cX8_laysLiked RX8 3 := hX
  show zV X (zq X zrV) 3 0 [(0, .ref (zx_ad X 76))] [] s _
  unfold f_X8_laysLiked
  refine zv_iconst (v := (0 : Int32)) hX dX8_laysLiked_0 zi_i_0 ?_
  refine zv_istore_n (lv' := [(1, .int (0 : Int32)), (0, .ref (zx_ad X 76))]) hX dX8_laysLiked_1 (by decide) rfl ?_
  exact zv_sub [1, 0] rfl (b_X8_laysLiked_2 hX hT zFU (0 : Int32) s)
theorem dX8_marksOf_0 : decode cX8_marksOf 0 = .ok (.aload_n 0, 1) := by decide +kernel
theorem dX8_marksOf_1 : decode cX8_marksOf 1 = .ok (.getfield 13, 3) := by decide +kernel
theorem dX8_marksOf_4 : decode cX8_marksOf 4 = .ok (.bipush 36, 2) := by decide +kernel
theorem dX8_marksOf_6 : decode cX8_marksOf 6 = .ok (.iload_n 2, 1) := by decide +kernel
theorem dX8_marksOf_7 : decode cX8_marksOf 7 = .ok (.iadd, 1) := by decide +kernel
theorem dX8_marksOf_8 : decode cX8_marksOf 8 = .ok (.iaload, 1) := by decide +kernel
theorem dX8_marksOf_9 : decode cX8_marksOf 9 = .ok (.istore_n 3, 1) := by decide +kernel
theorem dX8_marksOf_10 : decode cX8_marksOf 10 = .ok (.iconst 0, 1) := by decide +kernel
theorem dX8_marksOf_11 : decode cX8_marksOf 11 = .ok (.istore 4, 2) := by decide +kernel
theorem dX8_marksOf_13 : decode cX8_marksOf 13 = .ok (.aload_n 0, 1) := by decide +kernel
theorem dX8_marksOf_14 : decode cX8_marksOf 14 = .ok (.invokevirtual 274, 3) := by decide +kernel
theorem dX8_marksOf_17 : decode cX8_marksOf 17 = .ok (.iconst 0, 1) := by decide +kernel
theorem dX8_marksOf_18 : decode cX8_marksOf 18 = .ok (.istore 5, 2) := by decide +kernel
theorem dX8_marksOf_20 : decode cX8_marksOf 20 = .ok (.iload 5, 2) := by decide +kernel
theorem dX8_marksOf_22 : decode cX8_marksOf 22 = .ok (.aload_n 0, 1) := by decide +kernel
theorem dX8_marksOf_23 : decode cX8_marksOf 23 = .ok (.getfield 13, 3) := by decide +kernel
theorem dX8_marksOf_26 : decode cX8_marksOf 26 = .ok (.iconst 1, 1) := by decide +kernel
theorem dX8_marksOf_27 : decode cX8_marksOf 27 = .ok (.iaload, 1) := by decide +kernel
theorem dX8_marksOf_28 : decode cX8_marksOf 28 = .ok (.if_icmp .ge 29, 3) := by decide +kernel
theorem dX8_marksOf_31 : decode cX8_marksOf 31 = .ok (.aload_n 0, 1) := by decide +kernel
theorem dX8_marksOf_32 : decode cX8_marksOf 32 = .ok (.getfield 60, 3) := by decide +kernel
theorem dX8_marksOf_35 : decode cX8_marksOf 35 = .ok (.iload 5, 2) := by decide +kernel
theorem dX8_marksOf_37 : decode cX8_marksOf 37 = .ok (.aload_n 0, 1) := by decide +kernel
theorem dX8_marksOf_38 : decode cX8_marksOf 38 = .ok (.getfield 84, 3) := by decide +kernel
theorem dX8_marksOf_41 : decode cX8_marksOf 41 = .ok (.bipush 40, 2) := by decide +kernel
theorem dX8_marksOf_43 : decode cX8_marksOf 43 = .ok (.iload_n 1, 1) := by decide +kernel
theorem dX8_marksOf_44 : decode cX8_marksOf 44 = .ok (.imul, 1) := by decide +kernel
theorem dX8_marksOf_45 : decode cX8_marksOf 45 = .ok (.iload 5, 2) := by decide +kernel
theorem dX8_marksOf_47 : decode cX8_marksOf 47 = .ok (.iadd, 1) := by decide +kernel
theorem dX8_marksOf_48 : decode cX8_marksOf 48 = .ok (.laload, 1) := by decide +kernel
theorem dX8_marksOf_49 : decode cX8_marksOf 49 = .ok (.l2i, 1) := by decide +kernel
theorem dX8_marksOf_50 : decode cX8_marksOf 50 = .ok (.iastore, 1) := by decide +kernel
theorem dX8_marksOf_51 : decode cX8_marksOf 51 = .ok (.iinc 5 1, 3) := by decide +kernel
theorem dX8_marksOf_54 : decode cX8_marksOf 54 = .ok (.goto (-34), 3) := by decide +kernel
theorem dX8_marksOf_57 : decode cX8_marksOf 57 = .ok (.iconst 0, 1) := by decide +kernel
theorem dX8_marksOf_58 : decode cX8_marksOf 58 = .ok (.istore 5, 2) := by decide +kernel
theorem dX8_marksOf_60 : decode cX8_marksOf 60 = .ok (.iload 5, 2) := by decide +kernel
theorem dX8_marksOf_62 : decode cX8_marksOf 62 = .ok (.bipush 10, 2) := by decide +kernel
theorem dX8_marksOf_64 : decode cX8_marksOf 64 = .ok (.if_icmp .ge 48, 3) := by decide +kernel
theorem dX8_marksOf_67 : decode cX8_marksOf 67 = .ok (.aload_n 0, 1) := by decide +kernel
theorem dX8_marksOf_68 : decode cX8_marksOf 68 = .ok (.getfield 13, 3) := by decide +kernel
theorem dX8_marksOf_71 : decode cX8_marksOf 71 = .ok (.bipush 36, 2) := by decide +kernel
theorem dX8_marksOf_73 : decode cX8_marksOf 73 = .ok (.iload_n 2, 1) := by decide +kernel
theorem dX8_marksOf_74 : decode cX8_marksOf 74 = .ok (.iadd, 1) := by decide +kernel
theorem dX8_marksOf_75 : decode cX8_marksOf 75 = .ok (.iload 5, 2) := by decide +kernel
theorem dX8_marksOf_77 : decode cX8_marksOf 77 = .ok (.iastore, 1) := by decide +kernel
theorem dX8_marksOf_78 : decode cX8_marksOf 78 = .ok (.aload_n 0, 1) := by decide +kernel
theorem dX8_marksOf_79 : decode cX8_marksOf 79 = .ok (.invokevirtual 277, 3) := by decide +kernel
theorem dX8_marksOf_82 : decode cX8_marksOf 82 = .ok (.iload 4, 2) := by decide +kernel
theorem dX8_marksOf_84 : decode cX8_marksOf 84 = .ok (.aload_n 0, 1) := by decide +kernel
theorem dX8_marksOf_85 : decode cX8_marksOf 85 = .ok (.aload_n 0, 1) := by decide +kernel
theorem dX8_marksOf_86 : decode cX8_marksOf 86 = .ok (.invokevirtual 382, 3) := by decide +kernel
theorem dX8_marksOf_89 : decode cX8_marksOf 89 = .ok (.invokevirtual 385, 3) := by decide +kernel
theorem dX8_marksOf_92 : decode cX8_marksOf 92 = .ok (.ifCond .eq 10, 3) := by decide +kernel
theorem dX8_marksOf_95 : decode cX8_marksOf 95 = .ok (.iconst 1, 1) := by decide +kernel
theorem dX8_marksOf_96 : decode cX8_marksOf 96 = .ok (.iload 5, 2) := by decide +kernel
theorem dX8_marksOf_98 : decode cX8_marksOf 98 = .ok (.ishl, 1) := by decide +kernel
theorem dX8_marksOf_99 : decode cX8_marksOf 99 = .ok (.goto 4, 3) := by decide +kernel
theorem dX8_marksOf_102 : decode cX8_marksOf 102 = .ok (.iconst 0, 1) := by decide +kernel
theorem dX8_marksOf_103 : decode cX8_marksOf 103 = .ok (.ior, 1) := by decide +kernel
theorem dX8_marksOf_104 : decode cX8_marksOf 104 = .ok (.istore 4, 2) := by decide +kernel
theorem dX8_marksOf_106 : decode cX8_marksOf 106 = .ok (.iinc 5 1, 3) := by decide +kernel
theorem dX8_marksOf_109 : decode cX8_marksOf 109 = .ok (.goto (-49), 3) := by decide +kernel
theorem dX8_marksOf_112 : decode cX8_marksOf 112 = .ok (.aload_n 0, 1) := by decide +kernel
theorem dX8_marksOf_113 : decode cX8_marksOf 113 = .ok (.getfield 13, 3) := by decide +kernel
theorem dX8_marksOf_116 : decode cX8_marksOf 116 = .ok (.bipush 36, 2) := by decide +kernel
theorem dX8_marksOf_118 : decode cX8_marksOf 118 = .ok (.iload_n 2, 1) := by decide +kernel
theorem dX8_marksOf_119 : decode cX8_marksOf 119 = .ok (.iadd, 1) := by decide +kernel
theorem dX8_marksOf_120 : decode cX8_marksOf 120 = .ok (.iload_n 3, 1) := by decide +kernel
theorem dX8_marksOf_121 : decode cX8_marksOf 121 = .ok (.iastore, 1) := by decide +kernel
theorem dX8_marksOf_122 : decode cX8_marksOf 122 = .ok (.iload 4, 2) := by decide +kernel
theorem dX8_marksOf_124 : decode cX8_marksOf 124 = .ok (.ireturn, 1) := by decide +kernel
def f_X8_marksOf_103 (kb_60 : Int32 → Int32 → Int32 → Int32 → zS → Option (Int32 × zS)) (v2 : Int32) (v3 : Int32) (v5 : Int32) (w0 : Int32) (w1 : Int32) (s : zS) : Option (Int32 × zS) :=
  zb (w1 ||| w0) fun x1 =>
  zb (v5 + (1 : Int32)) fun x2 =>
  kb_60 v2 v3 x1 x2 s
set_option maxRecDepth 20000 in
theorem b_X8_marksOf_103 {X : zX} {kb_60 : Int32 → Int32 → Int32 → Int32 → zS → Option (Int32 × zS)} (hX : zx_ok X cX8_marksOf RX8 6) (hT : zx_rt X (some .int) (zR 70 1735)) (hk_60 : ∀ (v2 : Int32) (v3 : Int32) (v4 : Int32) (v5 : Int32) (s : zS), zV X (zq X zrI) 6 60 [(0, .ref (zx_ad X 76)), (2, .int v2), (3, .int v3), (4, .int v4), (5, .int v5)] [] s (kb_60 v2 v3 v4 v5 s)) : ∀ (v2 : Int32) (v3 : Int32) (v5 : Int32) (w0 : Int32) (w1 : Int32) (s : zS), zV X (zq X zrI) 6 103 [(0, .ref (zx_ad X 76)), (2, .int v2), (3, .int v3), (5, .int v5)] [.int w0, .int w1] s (f_X8_marksOf_103 kb_60 v2 v3 v5 w0 w1 s) := by
  intro v2 v3 v5 w0 w1 s
  unfold f_X8_marksOf_103
  refine zv_ior hX dX8_marksOf_103 ?_
  refine zv_istB (lw := fun x1 => [(4, .int x1), (0, .ref (zx_ad X 76)), (2, .int v2), (3, .int v3), (5, .int v5)]) hX dX8_marksOf_104 (by decide) (fun _ => rfl) (fun x1 => ?_)
  refine zv_iincB (lw := fun x2 => [(5, .int x2), (4, .int x1), (0, .ref (zx_ad X 76)), (2, .int v2), (3, .int v3)]) hX dX8_marksOf_106 4 rfl zi_i_1 (by decide) (fun _ => rfl) (fun x2 => ?_)
  refine zv_goto (tgt := 60) hX dX8_marksOf_109 rfl ?_
  exact zv_sub [2, 3, 4, 1, 0] rfl (hk_60 v2 v3 x1 x2 s)
def f_X8_marksOf_60 : Nat → Int32 → Int32 → Int32 → Int32 → zS → Option (Int32 × zS)
  | 0, _, _, _, _, _ => none
  | n + 1, v2, v3, v4, v5, s =>
    if (nI 10) ≤ v5 then
    ((zw_i s 77 ((nI 36) + v2) v3).bind fun s3 =>
    some (v4, s3))
    else
    (zw_i s 77 ((nI 36) + v2) v5).bind fun s4 =>
    zbd (f_X8_laysLiked s4) fun _ s5 =>
    zbd (f_X8_everybody s5) fun r6 s7 =>
    zbd (f_X8_isHeld r6 s7) fun r8 s9 =>
    if r8 = 0 then
    (f_X8_marksOf_103 (f_X8_marksOf_60 n) v2 v3 v5 (0 : Int32) v4 s9)
    else
    f_X8_marksOf_103 (f_X8_marksOf_60 n) v2 v3 v5 (zo_shl (1 : Int32) v5) v4 s9
set_option maxRecDepth 20000 in
theorem b_X8_marksOf_60 {X : zX} (hX : zx_ok X cX8_marksOf RX8 6) (hT : zx_rt X (some .int) (zR 70 1735)) : ∀ (n : Nat) (v2 : Int32) (v3 : Int32) (v4 : Int32) (v5 : Int32) (s : zS), zV X (zq X zrI) 6 60 [(0, .ref (zx_ad X 76)), (2, .int v2), (3, .int v3), (4, .int v4), (5, .int v5)] [] s (f_X8_marksOf_60 n v2 v3 v4 v5 s) := by
  intro n
  induction n with
  | zero => intro v2 v3 v4 v5 s; exact zv_none
  | succ n ih =>
    intro v2 v3 v4 v5 s
    rw [f_X8_marksOf_60]
    refine zv_iload hX dX8_marksOf_60 4 rfl ?_
    refine zv_bipush (v := (nI 10)) hX dX8_marksOf_62 zi_b_10 ?_
    refine zv_icmp_ge (tgt := 112) hX dX8_marksOf_64 rfl ?_ ?_
    · refine zv_aload_n hX dX8_marksOf_112 0 rfl ?_
      refine zv_geta hX wf_X8_13 wc_8 zd_76 zj_76_1 c9_8 zr_76_1 (by decide) dX8_marksOf_113 ?_
      refine zv_bipush (v := (nI 36)) hX dX8_marksOf_116 zi_b_36 ?_
      refine zv_iload_n hX dX8_marksOf_118 1 rfl ?_
      refine zv_iadd hX dX8_marksOf_119 ?_
      refine zv_iload_n hX dX8_marksOf_120 2 rfl ?_
      refine zv_iast hX dX8_marksOf_121 (fun s3 => ?_)
      refine zv_iload hX dX8_marksOf_122 3 rfl ?_
      exact zv_ireti hX hT dX8_marksOf_124
    · refine zv_aload_n hX dX8_marksOf_67 0 rfl ?_
      refine zv_geta hX wf_X8_13 wc_8 zd_76 zj_76_1 c9_8 zr_76_1 (by decide) dX8_marksOf_68 ?_
      refine zv_bipush (v := (nI 36)) hX dX8_marksOf_71 zi_b_36 ?_
      refine zv_iload_n hX dX8_marksOf_73 1 rfl ?_
      refine zv_iadd hX dX8_marksOf_74 ?_
      refine zv_iload hX dX8_marksOf_75 4 rfl ?_
      refine zv_iast hX dX8_marksOf_77 (fun s4 => ?_)
      refine zv_aload_n hX dX8_marksOf_78 0 rfl ?_
      refine zv_cVV [] (rest := []) hX hT.2.2.2.2 (c_X8_laysLiked (zx_Y X) s4) wv_X8_laysLiked c9_8 zd_76 wm_X8_277 rfl (Nat.le_of_ble_eq_true rfl) (Nat.le_of_ble_eq_true rfl) rfl (Nat.le_of_ble_eq_true rfl) dX8_marksOf_79 (fun _ s5 => ?_)
      refine zv_iload hX dX8_marksOf_82 3 rfl ?_
      refine zv_aload_n hX dX8_marksOf_84 0 rfl ?_
      refine zv_aload_n hX dX8_marksOf_85 0 rfl ?_
      refine zv_cVI [] (rest := [.ref (zx_ad X 76), .int v4]) hX hT.2.2.2.2 (c_X8_everybody (zx_Y X) s5) wv_X8_everybody c9_8 zd_76 wm_X8_382 rfl (Nat.le_of_ble_eq_true rfl) (Nat.le_of_ble_eq_true rfl) rfl (Nat.le_of_ble_eq_true rfl) dX8_marksOf_86 (fun r6 s7 => ?_)
      refine zv_cVI [.int r6] (rest := [.int v4]) hX hT.2.2.2.2 (c_X8_isHeld (zx_Y X) r6 s7) wv_X8_isHeld c9_8 zd_76 wm_X8_385 rfl (Nat.le_of_ble_eq_true rfl) (Nat.le_of_ble_eq_true rfl) rfl (Nat.le_of_ble_eq_true rfl) dX8_marksOf_89 (fun r8 s9 => ?_)
      refine zv_if_eq (tgt := 102) hX dX8_marksOf_92 rfl ?_ ?_
      · refine zv_iconst (v := (0 : Int32)) hX dX8_marksOf_102 zi_i_0 ?_
        exact zv_sub [0, 1, 2, 4] rfl (b_X8_marksOf_103 hX hT ih v2 v3 v5 (0 : Int32) v4 s9)
      · refine zv_iconst (v := (1 : Int32)) hX dX8_marksOf_95 zi_i_1 ?_
        refine zv_iload hX dX8_marksOf_96 4 rfl ?_
        refine zv_ishl hX dX8_marksOf_98 ?_
        refine zv_goto (tgt := 103) hX dX8_marksOf_99 rfl ?_
        exact zv_sub [0, 1, 2, 4] rfl (b_X8_marksOf_103 hX hT ih v2 v3 v5 (zo_shl (1 : Int32) v5) v4 s9)
def f_X8_marksOf_20 : Nat → Int32 → Int32 → Int32 → Int32 → Int32 → zS → Option (Int32 × zS)
  | 0, _, _, _, _, _, _ => none
  | n + 1, v1, v2, v3, v4, v5, s =>
    (zr_i s 77 (1 : Int32)).bind fun x10 =>
    if x10 ≤ v5 then
    (f_X8_marksOf_60 zFU v2 v3 v4 (0 : Int32) s)
    else
    (zr_l s 99 (((nI 40) * v1) + v5)).bind fun x11 =>
    (zw_i s 91 v5 (x11.toInt32)).bind fun s12 =>
    zb (v5 + (1 : Int32)) fun x13 =>
    f_X8_marksOf_20 n v1 v2 v3 v4 x13 s12
set_option maxRecDepth 20000 in
theorem b_X8_marksOf_20 {X : zX} (hX : zx_ok X cX8_marksOf RX8 6) (hT : zx_rt X (some .int) (zR 70 1735)) : ∀ (n : Nat) (v1 : Int32) (v2 : Int32) (v3 : Int32) (v4 : Int32) (v5 : Int32) (s : zS), zV X (zq X zrI) 6 20 [(0, .ref (zx_ad X 76)), (1, .int v1), (2, .int v2), (3, .int v3), (4, .int v4), (5, .int v5)] [] s (f_X8_marksOf_20 n v1 v2 v3 v4 v5 s) := by
  intro n
  induction n with
  | zero => intro v1 v2 v3 v4 v5 s; exact zv_none
  | succ n ih =>
    intro v1 v2 v3 v4 v5 s
    rw [f_X8_marksOf_20]
    refine zv_iload hX dX8_marksOf_20 5 rfl ?_
    refine zv_aload_n hX dX8_marksOf_22 0 rfl ?_
    refine zv_geta hX wf_X8_13 wc_8 zd_76 zj_76_1 c9_8 zr_76_1 (by decide) dX8_marksOf_23 ?_
    refine zv_iconst (v := (1 : Int32)) hX dX8_marksOf_26 zi_i_1 ?_
    refine zv_iald hX dX8_marksOf_27 (fun x10 => ?_)
    refine zv_icmp_ge (tgt := 57) hX dX8_marksOf_28 rfl ?_ ?_
    · refine zv_iconst (v := (0 : Int32)) hX dX8_marksOf_57 zi_i_0 ?_
      refine zv_istore (lv' := [(5, .int (0 : Int32)), (0, .ref (zx_ad X 76)), (1, .int v1), (2, .int v2), (3, .int v3), (4, .int v4)]) hX dX8_marksOf_58 (by decide) rfl ?_
      exact zv_sub [1, 3, 4, 5, 0] rfl (b_X8_marksOf_60 hX hT zFU v2 v3 v4 (0 : Int32) s)
    · refine zv_aload_n hX dX8_marksOf_31 0 rfl ?_
      refine zv_geta hX wf_X8_60 wc_8 zd_76 zj_76_30 c9_8 zr_76_30 (by decide) dX8_marksOf_32 ?_
      refine zv_iload hX dX8_marksOf_35 5 rfl ?_
      refine zv_aload_n hX dX8_marksOf_37 0 rfl ?_
      refine zv_geta hX wf_X8_84 wc_8 zd_76 zj_76_40 c9_8 zr_76_40 (by decide) dX8_marksOf_38 ?_
      refine zv_bipush (v := (nI 40)) hX dX8_marksOf_41 zi_b_40 ?_
      refine zv_iload_n hX dX8_marksOf_43 1 rfl ?_
      refine zv_imul hX dX8_marksOf_44 ?_
      refine zv_iload hX dX8_marksOf_45 5 rfl ?_
      refine zv_iadd hX dX8_marksOf_47 ?_
      refine zv_lald hX dX8_marksOf_48 (fun x11 => ?_)
      refine zv_l2i hX dX8_marksOf_49 ?_
      refine zv_iast hX dX8_marksOf_50 (fun s12 => ?_)
      refine zv_iincB (lw := fun x13 => [(5, .int x13), (0, .ref (zx_ad X 76)), (1, .int v1), (2, .int v2), (3, .int v3), (4, .int v4)]) hX dX8_marksOf_51 5 rfl zi_i_1 (by decide) (fun _ => rfl) (fun x13 => ?_)
      refine zv_goto (tgt := 20) hX dX8_marksOf_54 rfl ?_
      exact zv_sub [1, 2, 3, 4, 5, 0] rfl (ih v1 v2 v3 v4 x13 s12)
def f_X8_marksOf (v1 : Int32) (v2 : Int32) (s : zS) : Option (Int32 × zS) :=
  (zr_i s 77 ((nI 36) + v2)).bind fun x14 =>
  zbd (f_X8_laysCrossed s) fun _ s15 =>
  f_X8_marksOf_20 zFU v1 v2 x14 (0 : Int32) (0 : Int32) s15
set_option maxRecDepth 20000 in
theorem c_X8_marksOf (Y : zG) (v1 : Int32) (v2 : Int32) (s : zS) : zM Y yX8_marksOf cX8_marksOf 6 (some .int) (zR 70 1735) [.ref (zy_a Y 76), .int v1, .int v2] s zrI (f_X8_marksOf v1 v2 s) := by
  refine zm_start (by decide +kernel) (Nat.le_of_ble_eq_true rfl) ?_
  intro X hY hT hX
  subst hY
  have hX : zx_ok X cX8_marksOf RX8 6 := hX
  show zV X (zq X zrI) 6 0 [(0, .ref (zx_ad X 76)), (1, .int v1), (2, .int v2)] [] s _
  unfold f_X8_marksOf
  refine zv_aload_n hX dX8_marksOf_0 0 rfl ?_
  refine zv_geta hX wf_X8_13 wc_8 zd_76 zj_76_1 c9_8 zr_76_1 (by decide) dX8_marksOf_1 ?_
  refine zv_bipush (v := (nI 36)) hX dX8_marksOf_4 zi_b_36 ?_
  refine zv_iload_n hX dX8_marksOf_6 2 rfl ?_
  refine zv_iadd hX dX8_marksOf_7 ?_
  refine zv_iald hX dX8_marksOf_8 (fun x14 => ?_)
  refine zv_istore_n (lv' := [(3, .int x14), (0, .ref (zx_ad X 76)), (1, .int v1), (2, .int v2)]) hX dX8_marksOf_9 (by decide) rfl ?_
  refine zv_iconst (v := (0 : Int32)) hX dX8_marksOf_10 zi_i_0 ?_
  refine zv_istore (lv' := [(4, .int (0 : Int32)), (3, .int x14), (0, .ref (zx_ad X 76)), (1, .int v1), (2, .int v2)]) hX dX8_marksOf_11 (by decide) rfl ?_
  refine zv_aload_n hX dX8_marksOf_13 2 rfl ?_
  refine zv_cVV [] (rest := []) hX hT.2.2.2.2 (c_X8_laysCrossed (zx_Y X) s) wv_X8_laysCrossed c9_8 zd_76 wm_X8_274 rfl (Nat.le_of_ble_eq_true rfl) (Nat.le_of_ble_eq_true rfl) rfl (Nat.le_of_ble_eq_true rfl) dX8_marksOf_14 (fun _ s15 => ?_)
  refine zv_iconst (v := (0 : Int32)) hX dX8_marksOf_17 zi_i_0 ?_
  refine zv_istore (lv' := [(5, .int (0 : Int32)), (4, .int (0 : Int32)), (3, .int x14), (0, .ref (zx_ad X 76)), (1, .int v1), (2, .int v2)]) hX dX8_marksOf_18 (by decide) rfl ?_
  exact zv_sub [3, 4, 5, 2, 1, 0] rfl (b_X8_marksOf_20 hX hT zFU v1 v2 x14 (0 : Int32) (0 : Int32) s15)
