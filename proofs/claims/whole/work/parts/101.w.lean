theorem dX4_fewestOf_0 : decode cX4_fewestOf 0 = .ok (.iload_n 1, 1) := by decide +kernel
theorem dX4_fewestOf_1 : decode cX4_fewestOf 1 = .ok (.iload_n 2, 1) := by decide +kernel
theorem dX4_fewestOf_2 : decode cX4_fewestOf 2 = .ok (.invokestatic 68, 3) := by decide +kernel
theorem dX4_fewestOf_5 : decode cX4_fewestOf 5 = .ok (.istore_n 3, 1) := by decide +kernel
theorem dX4_fewestOf_6 : decode cX4_fewestOf 6 = .ok (.iload_n 1, 1) := by decide +kernel
theorem dX4_fewestOf_7 : decode cX4_fewestOf 7 = .ok (.iload_n 2, 1) := by decide +kernel
theorem dX4_fewestOf_8 : decode cX4_fewestOf 8 = .ok (.invokestatic 74, 3) := by decide +kernel
theorem dX4_fewestOf_11 : decode cX4_fewestOf 11 = .ok (.istore 4, 2) := by decide +kernel
theorem dX4_fewestOf_13 : decode cX4_fewestOf 13 = .ok (.iload_n 3, 1) := by decide +kernel
theorem dX4_fewestOf_14 : decode cX4_fewestOf 14 = .ok (.bipush 7, 2) := by decide +kernel
theorem dX4_fewestOf_16 : decode cX4_fewestOf 16 = .ok (.imul, 1) := by decide +kernel
theorem dX4_fewestOf_17 : decode cX4_fewestOf 17 = .ok (.iload 4, 2) := by decide +kernel
theorem dX4_fewestOf_19 : decode cX4_fewestOf 19 = .ok (.iadd, 1) := by decide +kernel
theorem dX4_fewestOf_20 : decode cX4_fewestOf 20 = .ok (.istore 5, 2) := by decide +kernel
theorem dX4_fewestOf_22 : decode cX4_fewestOf 22 = .ok (.aload_n 0, 1) := by decide +kernel
theorem dX4_fewestOf_23 : decode cX4_fewestOf 23 = .ok (.getfield 64, 3) := by decide +kernel
theorem dX4_fewestOf_26 : decode cX4_fewestOf 26 = .ok (.getfield 77, 3) := by decide +kernel
theorem dX4_fewestOf_29 : decode cX4_fewestOf 29 = .ok (.iload_n 3, 1) := by decide +kernel
theorem dX4_fewestOf_30 : decode cX4_fewestOf 30 = .ok (.iaload, 1) := by decide +kernel
theorem dX4_fewestOf_31 : decode cX4_fewestOf 31 = .ok (.aload_n 0, 1) := by decide +kernel
theorem dX4_fewestOf_32 : decode cX4_fewestOf 32 = .ok (.getfield 64, 3) := by decide +kernel
theorem dX4_fewestOf_35 : decode cX4_fewestOf 35 = .ok (.getfield 77, 3) := by decide +kernel
theorem dX4_fewestOf_38 : decode cX4_fewestOf 38 = .ok (.iload 4, 2) := by decide +kernel
theorem dX4_fewestOf_40 : decode cX4_fewestOf 40 = .ok (.iaload, 1) := by decide +kernel
theorem dX4_fewestOf_41 : decode cX4_fewestOf 41 = .ok (.iadd, 1) := by decide +kernel
theorem dX4_fewestOf_42 : decode cX4_fewestOf 42 = .ok (.istore 6, 2) := by decide +kernel
theorem dX4_fewestOf_44 : decode cX4_fewestOf 44 = .ok (.aload_n 0, 1) := by decide +kernel
theorem dX4_fewestOf_45 : decode cX4_fewestOf 45 = .ok (.getfield 18, 3) := by decide +kernel
theorem dX4_fewestOf_48 : decode cX4_fewestOf 48 = .ok (.iload 5, 2) := by decide +kernel
theorem dX4_fewestOf_50 : decode cX4_fewestOf 50 = .ok (.iaload, 1) := by decide +kernel
theorem dX4_fewestOf_51 : decode cX4_fewestOf 51 = .ok (.iload 6, 2) := by decide +kernel
theorem dX4_fewestOf_53 : decode cX4_fewestOf 53 = .ok (.if_icmp .eq 50, 3) := by decide +kernel
theorem dX4_fewestOf_56 : decode cX4_fewestOf 56 = .ok (.aload_n 0, 1) := by decide +kernel
theorem dX4_fewestOf_57 : decode cX4_fewestOf 57 = .ok (.getfield 18, 3) := by decide +kernel
theorem dX4_fewestOf_60 : decode cX4_fewestOf 60 = .ok (.iload 5, 2) := by decide +kernel
theorem dX4_fewestOf_62 : decode cX4_fewestOf 62 = .ok (.iload 6, 2) := by decide +kernel
theorem dX4_fewestOf_64 : decode cX4_fewestOf 64 = .ok (.iastore, 1) := by decide +kernel
theorem dX4_fewestOf_65 : decode cX4_fewestOf 65 = .ok (.aload_n 0, 1) := by decide +kernel
theorem dX4_fewestOf_66 : decode cX4_fewestOf 66 = .ok (.getfield 15, 3) := by decide +kernel
theorem dX4_fewestOf_69 : decode cX4_fewestOf 69 = .ok (.iload 5, 2) := by decide +kernel
theorem dX4_fewestOf_71 : decode cX4_fewestOf 71 = .ok (.aload_n 0, 1) := by decide +kernel
theorem dX4_fewestOf_72 : decode cX4_fewestOf 72 = .ok (.getfield 9, 3) := by decide +kernel
theorem dX4_fewestOf_75 : decode cX4_fewestOf 75 = .ok (.iload 5, 2) := by decide +kernel
theorem dX4_fewestOf_77 : decode cX4_fewestOf 77 = .ok (.bipush 25, 2) := by decide +kernel
theorem dX4_fewestOf_79 : decode cX4_fewestOf 79 = .ok (.imul, 1) := by decide +kernel
theorem dX4_fewestOf_80 : decode cX4_fewestOf 80 = .ok (.aload_n 0, 1) := by decide +kernel
theorem dX4_fewestOf_81 : decode cX4_fewestOf 81 = .ok (.getfield 64, 3) := by decide +kernel
theorem dX4_fewestOf_84 : decode cX4_fewestOf 84 = .ok (.getfield 82, 3) := by decide +kernel
theorem dX4_fewestOf_87 : decode cX4_fewestOf 87 = .ok (.iload_n 3, 1) := by decide +kernel
theorem dX4_fewestOf_88 : decode cX4_fewestOf 88 = .ok (.iaload, 1) := by decide +kernel
theorem dX4_fewestOf_89 : decode cX4_fewestOf 89 = .ok (.aload_n 0, 1) := by decide +kernel
theorem dX4_fewestOf_90 : decode cX4_fewestOf 90 = .ok (.getfield 64, 3) := by decide +kernel
theorem dX4_fewestOf_93 : decode cX4_fewestOf 93 = .ok (.getfield 82, 3) := by decide +kernel
theorem dX4_fewestOf_96 : decode cX4_fewestOf 96 = .ok (.iload 4, 2) := by decide +kernel
theorem dX4_fewestOf_98 : decode cX4_fewestOf 98 = .ok (.iaload, 1) := by decide +kernel
theorem dX4_fewestOf_99 : decode cX4_fewestOf 99 = .ok (.invokestatic 85, 3) := by decide +kernel
theorem dX4_fewestOf_102 : decode cX4_fewestOf 102 = .ok (.iastore, 1) := by decide +kernel
theorem dX4_fewestOf_103 : decode cX4_fewestOf 103 = .ok (.aload_n 0, 1) := by decide +kernel
theorem dX4_fewestOf_104 : decode cX4_fewestOf 104 = .ok (.getfield 15, 3) := by decide +kernel
theorem dX4_fewestOf_107 : decode cX4_fewestOf 107 = .ok (.iload 5, 2) := by decide +kernel
theorem dX4_fewestOf_109 : decode cX4_fewestOf 109 = .ok (.iaload, 1) := by decide +kernel
theorem dX4_fewestOf_110 : decode cX4_fewestOf 110 = .ok (.ireturn, 1) := by decide +kernel
def f_X4_fewestOf_103 (v5 : Int32) (s : zS) : Option (Int32 × zS) :=
  (zr_i s 44 v5).bind fun x1 =>
  some (x1, s)
set_option maxRecDepth 20000 in
theorem b_X4_fewestOf_103 {X : zX} (hX : zx_ok X cX4_fewestOf RX4 7) (hT : zx_rt X (some .int) (zR 1 25)) : ∀ (v5 : Int32) (s : zS), zV X (zq X zrI) 7 103 [(0, .ref (zx_ad X 42)), (5, .int v5)] [] s (f_X4_fewestOf_103 v5 s) := by
  intro v5 s
  unfold f_X4_fewestOf_103
  refine zv_aload_n hX dX4_fewestOf_103 0 rfl ?_
  refine zv_geta hX wf_X4_15 wc_4 zd_42 zj_42_2 c9_4 zr_42_2 (by decide) dX4_fewestOf_104 ?_
  refine zv_iload hX dX4_fewestOf_107 1 rfl ?_
  refine zv_iald hX dX4_fewestOf_109 (fun x1 => ?_)
  exact zv_ireti hX hT dX4_fewestOf_110
def f_X4_fewestOf (v1 : Int32) (v2 : Int32) (s : zS) : Option (Int32 × zS) :=
  zbd (f_J9_min_7cf53 v1 v2 s) fun r2 s3 =>
  zbd (f_J9_max_7cf53 v1 v2 s3) fun r4 s5 =>
  zb ((r2 * (nI 7)) + r4) fun x6 =>
  (zr_i s5 10 r2).bind fun x7 =>
  (zr_i s5 10 r4).bind fun x8 =>
  zb (x7 + x8) fun x9 =>
  (zr_i s5 45 x6).bind fun x10 =>
  if x10 = x9 then
  (f_X4_fewestOf_103 x6 s5)
  else
  (zw_i s5 45 x6 x9).bind fun s11 =>
  (zr_i s11 4 r2).bind fun x12 =>
  (zr_i s11 4 r4).bind fun x13 =>
  zbd (f_X4_learnApart 43 (x6 * (nI 25)) x12 x13 s11) fun r14 s15 =>
  (zw_i s15 44 x6 r14).bind fun s16 =>
  f_X4_fewestOf_103 x6 s16
set_option maxRecDepth 20000 in
theorem c_X4_fewestOf (Y : zG) (v1 : Int32) (v2 : Int32) (s : zS) : zM Y yX4_fewestOf cX4_fewestOf 7 (some .int) (zR 1 25) [.ref (zy_a Y 42), .int v1, .int v2] s zrI (f_X4_fewestOf v1 v2 s) := by
  refine zm_start (by decide +kernel) (Nat.le_of_ble_eq_true rfl) ?_
  intro X hY hT hX
  subst hY
  have hX : zx_ok X cX4_fewestOf RX4 7 := hX
  show zV X (zq X zrI) 7 0 [(0, .ref (zx_ad X 42)), (1, .int v1), (2, .int v2)] [] s _
  unfold f_X4_fewestOf
  refine zv_iload_n hX dX4_fewestOf_0 1 rfl ?_
  refine zv_iload_n hX dX4_fewestOf_1 2 rfl ?_
  refine zv_cSI [.int v1, .int v2] (rest := []) hX hT.2.2.2.2 (c_J9_min_7cf53 (zx_Y X) v1 v2 s) wv_J9_min_7cf53 wm_X4_68 rfl (Nat.le_of_ble_eq_true rfl) (Nat.le_of_ble_eq_true rfl) rfl (Nat.le_of_ble_eq_true rfl) dX4_fewestOf_2 (fun r2 s3 => ?_)
  refine zv_istore_n (lv' := [(3, .int r2), (0, .ref (zx_ad X 42)), (1, .int v1), (2, .int v2)]) hX dX4_fewestOf_5 (by decide) rfl ?_
  refine zv_iload_n hX dX4_fewestOf_6 2 rfl ?_
  refine zv_iload_n hX dX4_fewestOf_7 3 rfl ?_
  refine zv_cSI [.int v1, .int v2] (rest := []) hX hT.2.2.2.2 (c_J9_max_7cf53 (zx_Y X) v1 v2 s3) wv_J9_max_7cf53 wm_X4_74 rfl (Nat.le_of_ble_eq_true rfl) (Nat.le_of_ble_eq_true rfl) rfl (Nat.le_of_ble_eq_true rfl) dX4_fewestOf_8 (fun r4 s5 => ?_)
  refine zv_istore (lv' := [(4, .int r4), (3, .int r2), (0, .ref (zx_ad X 42)), (1, .int v1), (2, .int v2)]) hX dX4_fewestOf_11 (by decide) rfl ?_
  refine zv_iload_n hX dX4_fewestOf_13 1 rfl ?_
  refine zv_bipush (v := (nI 7)) hX dX4_fewestOf_14 zi_b_7 ?_
  refine zv_imul hX dX4_fewestOf_16 ?_
  refine zv_iload hX dX4_fewestOf_17 0 rfl ?_
  refine zv_iadd hX dX4_fewestOf_19 ?_
  refine zv_istB (lw := fun x6 => [(5, .int x6), (4, .int r4), (3, .int r2), (0, .ref (zx_ad X 42)), (1, .int v1), (2, .int v2)]) hX dX4_fewestOf_20 (by decide) (fun _ => rfl) (fun x6 => ?_)
  refine zv_aload_n hX dX4_fewestOf_22 3 rfl ?_
  refine zv_geta hX wf_X4_64 wc_4 zd_42 zj_42_0 c9_4 zr_42_0 (by decide) dX4_fewestOf_23 ?_
  refine zv_geta hX wf_X4_77 wc_5 zd_3 zj_3_13 c9_5 zr_3_13 (by decide) dX4_fewestOf_26 ?_
  refine zv_iload_n hX dX4_fewestOf_29 2 rfl ?_
  refine zv_iald hX dX4_fewestOf_30 (fun x7 => ?_)
  refine zv_aload_n hX dX4_fewestOf_31 3 rfl ?_
  refine zv_geta hX wf_X4_64 wc_4 zd_42 zj_42_0 c9_4 zr_42_0 (by decide) dX4_fewestOf_32 ?_
  refine zv_geta hX wf_X4_77 wc_5 zd_3 zj_3_13 c9_5 zr_3_13 (by decide) dX4_fewestOf_35 ?_
  refine zv_iload hX dX4_fewestOf_38 1 rfl ?_
  refine zv_iald hX dX4_fewestOf_40 (fun x8 => ?_)
  refine zv_iadd hX dX4_fewestOf_41 ?_
  refine zv_istB (lw := fun x9 => [(6, .int x9), (5, .int x6), (4, .int r4), (3, .int r2), (0, .ref (zx_ad X 42)), (1, .int v1), (2, .int v2)]) hX dX4_fewestOf_42 (by decide) (fun _ => rfl) (fun x9 => ?_)
  refine zv_aload_n hX dX4_fewestOf_44 4 rfl ?_
  refine zv_geta hX wf_X4_18 wc_4 zd_42 zj_42_3 c9_4 zr_42_3 (by decide) dX4_fewestOf_45 ?_
  refine zv_iload hX dX4_fewestOf_48 1 rfl ?_
  refine zv_iald hX dX4_fewestOf_50 (fun x10 => ?_)
  refine zv_iload hX dX4_fewestOf_51 0 rfl ?_
  refine zv_icmp_eq (tgt := 103) hX dX4_fewestOf_53 rfl ?_ ?_
  · exact zv_sub [4, 1] rfl (b_X4_fewestOf_103 hX hT x6 s5)
  · refine zv_aload_n hX dX4_fewestOf_56 4 rfl ?_
    refine zv_geta hX wf_X4_18 wc_4 zd_42 zj_42_3 c9_4 zr_42_3 (by decide) dX4_fewestOf_57 ?_
    refine zv_iload hX dX4_fewestOf_60 1 rfl ?_
    refine zv_iload hX dX4_fewestOf_62 0 rfl ?_
    refine zv_iast hX dX4_fewestOf_64 (fun s11 => ?_)
    refine zv_aload_n hX dX4_fewestOf_65 4 rfl ?_
    refine zv_geta hX wf_X4_15 wc_4 zd_42 zj_42_2 c9_4 zr_42_2 (by decide) dX4_fewestOf_66 ?_
    refine zv_iload hX dX4_fewestOf_69 1 rfl ?_
    refine zv_aload_n hX dX4_fewestOf_71 4 rfl ?_
    refine zv_geta hX wf_X4_9 wc_4 zd_42 zj_42_1 c9_4 zr_42_1 (by decide) dX4_fewestOf_72 ?_
    refine zv_iload hX dX4_fewestOf_75 1 rfl ?_
    refine zv_bipush (v := (nI 25)) hX dX4_fewestOf_77 zi_b_25 ?_
    refine zv_imul hX dX4_fewestOf_79 ?_
    refine zv_aload_n hX dX4_fewestOf_80 4 rfl ?_
    refine zv_geta hX wf_X4_64 wc_4 zd_42 zj_42_0 c9_4 zr_42_0 (by decide) dX4_fewestOf_81 ?_
    refine zv_geta hX wf_X4_82 wc_5 zd_3 zj_3_2 c9_5 zr_3_2 (by decide) dX4_fewestOf_84 ?_
    refine zv_iload_n hX dX4_fewestOf_87 3 rfl ?_
    refine zv_iald hX dX4_fewestOf_88 (fun x12 => ?_)
    refine zv_aload_n hX dX4_fewestOf_89 4 rfl ?_
    refine zv_geta hX wf_X4_64 wc_4 zd_42 zj_42_0 c9_4 zr_42_0 (by decide) dX4_fewestOf_90 ?_
    refine zv_geta hX wf_X4_82 wc_5 zd_3 zj_3_2 c9_5 zr_3_2 (by decide) dX4_fewestOf_93 ?_
    refine zv_iload hX dX4_fewestOf_96 2 rfl ?_
    refine zv_iald hX dX4_fewestOf_98 (fun x13 => ?_)
    refine zv_cSI [.ref (zx_ad X 43), .int (x6 * (nI 25)), .int x12, .int x13] (rest := [.int x6, .ref (zx_ad X 44)]) hX hT.2.2.2.2 (c_X4_learnApart (zx_Y X) 43 (x6 * (nI 25)) x12 x13 s11) wv_X4_learnApart wm_X4_85 rfl (Nat.le_of_ble_eq_true rfl) (Nat.le_of_ble_eq_true rfl) rfl (Nat.le_of_ble_eq_true rfl) dX4_fewestOf_99 (fun r14 s15 => ?_)
    refine zv_iast hX dX4_fewestOf_102 (fun s16 => ?_)
    exact zv_sub [4, 1] rfl (b_X4_fewestOf_103 hX hT x6 s16)
theorem dX4_reckon_0 : decode cX4_reckon 0 = .ok (.iconst 0, 1) := by decide +kernel
theorem dX4_reckon_1 : decode cX4_reckon 1 = .ok (.istore_n 3, 1) := by decide +kernel
theorem dX4_reckon_2 : decode cX4_reckon 2 = .ok (.iload_n 1, 1) := by decide +kernel
theorem dX4_reckon_3 : decode cX4_reckon 3 = .ok (.istore 4, 2) := by decide +kernel
theorem dX4_reckon_5 : decode cX4_reckon 5 = .ok (.iload 4, 2) := by decide +kernel
theorem dX4_reckon_7 : decode cX4_reckon 7 = .ok (.iload_n 2, 1) := by decide +kernel
theorem dX4_reckon_8 : decode cX4_reckon 8 = .ok (.if_icmp .ge 358, 3) := by decide +kernel
theorem dX4_reckon_11 : decode cX4_reckon 11 = .ok (.iload 4, 2) := by decide +kernel
theorem dX4_reckon_13 : decode cX4_reckon 13 = .ok (.sipush 900, 3) := by decide +kernel
theorem dX4_reckon_16 : decode cX4_reckon 16 = .ok (.if_icmp .ge 350, 3) := by decide +kernel
theorem dX4_reckon_19 : decode cX4_reckon 19 = .ok (.aload_n 0, 1) := by decide +kernel
theorem dX4_reckon_20 : decode cX4_reckon 20 = .ok (.getfield 64, 3) := by decide +kernel
theorem dX4_reckon_23 : decode cX4_reckon 23 = .ok (.getfield 165, 3) := by decide +kernel
theorem dX4_reckon_26 : decode cX4_reckon 26 = .ok (.iload 4, 2) := by decide +kernel
theorem dX4_reckon_28 : decode cX4_reckon 28 = .ok (.iaload, 1) := by decide +kernel
theorem dX4_reckon_29 : decode cX4_reckon 29 = .ok (.istore 5, 2) := by decide +kernel
theorem dX4_reckon_31 : decode cX4_reckon 31 = .ok (.iload 5, 2) := by decide +kernel
theorem dX4_reckon_33 : decode cX4_reckon 33 = .ok (.sipush 1000, 3) := by decide +kernel
theorem dX4_reckon_36 : decode cX4_reckon 36 = .ok (.if_icmp .lt 19, 3) := by decide +kernel
theorem dX4_reckon_39 : decode cX4_reckon 39 = .ok (.iload 5, 2) := by decide +kernel
theorem dX4_reckon_41 : decode cX4_reckon 41 = .ok (.sipush 1210, 3) := by decide +kernel
theorem dX4_reckon_44 : decode cX4_reckon 44 = .ok (.if_icmp .lt 53, 3) := by decide +kernel
theorem dX4_reckon_47 : decode cX4_reckon 47 = .ok (.iload 5, 2) := by decide +kernel
theorem dX4_reckon_49 : decode cX4_reckon 49 = .ok (.sipush 1216, 3) := by decide +kernel
theorem dX4_reckon_52 : decode cX4_reckon 52 = .ok (.if_icmp .gt 45, 3) := by decide +kernel
theorem dX4_reckon_55 : decode cX4_reckon 55 = .ok (.iload_n 3, 1) := by decide +kernel
theorem dX4_reckon_56 : decode cX4_reckon 56 = .ok (.bipush 32, 2) := by decide +kernel
theorem dX4_reckon_58 : decode cX4_reckon 58 = .ok (.if_icmp .ge 302, 3) := by decide +kernel
theorem dX4_reckon_61 : decode cX4_reckon 61 = .ok (.aload_n 0, 1) := by decide +kernel
theorem dX4_reckon_62 : decode cX4_reckon 62 = .ok (.getfield 58, 3) := by decide +kernel
theorem dX4_reckon_65 : decode cX4_reckon 65 = .ok (.iload_n 3, 1) := by decide +kernel
theorem dX4_reckon_66 : decode cX4_reckon 66 = .ok (.iload 5, 2) := by decide +kernel
theorem dX4_reckon_68 : decode cX4_reckon 68 = .ok (.sipush 1000, 3) := by decide +kernel
theorem dX4_reckon_71 : decode cX4_reckon 71 = .ok (.if_icmp .ge 8, 3) := by decide +kernel
theorem dX4_reckon_74 : decode cX4_reckon 74 = .ok (.iload 5, 2) := by decide +kernel
theorem dX4_reckon_76 : decode cX4_reckon 76 = .ok (.goto 14, 3) := by decide +kernel
theorem dX4_reckon_79 : decode cX4_reckon 79 = .ok (.aload_n 0, 1) := by decide +kernel
theorem dX4_reckon_80 : decode cX4_reckon 80 = .ok (.getfield 61, 3) := by decide +kernel
theorem dX4_reckon_83 : decode cX4_reckon 83 = .ok (.iload 5, 2) := by decide +kernel
theorem dX4_reckon_85 : decode cX4_reckon 85 = .ok (.sipush 1210, 3) := by decide +kernel
theorem dX4_reckon_88 : decode cX4_reckon 88 = .ok (.isub, 1) := by decide +kernel
theorem dX4_reckon_89 : decode cX4_reckon 89 = .ok (.iaload, 1) := by decide +kernel
theorem dX4_reckon_90 : decode cX4_reckon 90 = .ok (.iastore, 1) := by decide +kernel
theorem dX4_reckon_91 : decode cX4_reckon 91 = .ok (.iinc 3 1, 3) := by decide +kernel
theorem dX4_reckon_94 : decode cX4_reckon 94 = .ok (.goto 266, 3) := by decide +kernel
theorem dX4_reckon_97 : decode cX4_reckon 97 = .ok (.iload 5, 2) := by decide +kernel
theorem dX4_reckon_99 : decode cX4_reckon 99 = .ok (.sipush 1209, 3) := by decide +kernel
theorem dX4_reckon_102 : decode cX4_reckon 102 = .ok (.if_icmp .ne 29, 3) := by decide +kernel
theorem dX4_reckon_105 : decode cX4_reckon 105 = .ok (.iload_n 3, 1) := by decide +kernel
theorem dX4_reckon_106 : decode cX4_reckon 106 = .ok (.iconst 1, 1) := by decide +kernel
theorem dX4_reckon_107 : decode cX4_reckon 107 = .ok (.if_icmp .lt 24, 3) := by decide +kernel
theorem dX4_reckon_110 : decode cX4_reckon 110 = .ok (.aload_n 0, 1) := by decide +kernel
theorem dX4_reckon_111 : decode cX4_reckon 111 = .ok (.getfield 58, 3) := by decide +kernel
theorem dX4_reckon_114 : decode cX4_reckon 114 = .ok (.iload_n 3, 1) := by decide +kernel
theorem dX4_reckon_115 : decode cX4_reckon 115 = .ok (.iconst 1, 1) := by decide +kernel
theorem dX4_reckon_116 : decode cX4_reckon 116 = .ok (.isub, 1) := by decide +kernel
theorem dX4_reckon_117 : decode cX4_reckon 117 = .ok (.iconst 1, 1) := by decide +kernel
theorem dX4_reckon_118 : decode cX4_reckon 118 = .ok (.aload_n 0, 1) := by decide +kernel
theorem dX4_reckon_119 : decode cX4_reckon 119 = .ok (.getfield 58, 3) := by decide +kernel
theorem dX4_reckon_122 : decode cX4_reckon 122 = .ok (.iload_n 3, 1) := by decide +kernel
theorem dX4_reckon_123 : decode cX4_reckon 123 = .ok (.iconst 1, 1) := by decide +kernel
theorem dX4_reckon_124 : decode cX4_reckon 124 = .ok (.isub, 1) := by decide +kernel
theorem dX4_reckon_125 : decode cX4_reckon 125 = .ok (.iaload, 1) := by decide +kernel
theorem dX4_reckon_126 : decode cX4_reckon 126 = .ok (.isub, 1) := by decide +kernel
theorem dX4_reckon_127 : decode cX4_reckon 127 = .ok (.iastore, 1) := by decide +kernel
theorem dX4_reckon_128 : decode cX4_reckon 128 = .ok (.goto 232, 3) := by decide +kernel
theorem dX4_reckon_131 : decode cX4_reckon 131 = .ok (.iload_n 3, 1) := by decide +kernel
theorem dX4_reckon_132 : decode cX4_reckon 132 = .ok (.iconst 2, 1) := by decide +kernel
theorem dX4_reckon_133 : decode cX4_reckon 133 = .ok (.if_icmp .lt 227, 3) := by decide +kernel
theorem dX4_reckon_136 : decode cX4_reckon 136 = .ok (.iinc 3 (-1), 3) := by decide +kernel
theorem dX4_reckon_139 : decode cX4_reckon 139 = .ok (.aload_n 0, 1) := by decide +kernel
theorem dX4_reckon_140 : decode cX4_reckon 140 = .ok (.getfield 58, 3) := by decide +kernel
theorem dX4_reckon_143 : decode cX4_reckon 143 = .ok (.iload_n 3, 1) := by decide +kernel
theorem dX4_reckon_144 : decode cX4_reckon 144 = .ok (.iconst 1, 1) := by decide +kernel
theorem dX4_reckon_145 : decode cX4_reckon 145 = .ok (.isub, 1) := by decide +kernel
theorem dX4_reckon_146 : decode cX4_reckon 146 = .ok (.iaload, 1) := by decide +kernel
theorem dX4_reckon_147 : decode cX4_reckon 147 = .ok (.i2l, 1) := by decide +kernel
theorem dX4_reckon_148 : decode cX4_reckon 148 = .ok (.lstore 6, 2) := by decide +kernel
theorem dX4_reckon_150 : decode cX4_reckon 150 = .ok (.aload_n 0, 1) := by decide +kernel
theorem dX4_reckon_151 : decode cX4_reckon 151 = .ok (.getfield 58, 3) := by decide +kernel
theorem dX4_reckon_154 : decode cX4_reckon 154 = .ok (.iload_n 3, 1) := by decide +kernel
theorem dX4_reckon_155 : decode cX4_reckon 155 = .ok (.iaload, 1) := by decide +kernel
theorem dX4_reckon_156 : decode cX4_reckon 156 = .ok (.i2l, 1) := by decide +kernel
theorem dX4_reckon_157 : decode cX4_reckon 157 = .ok (.lstore 8, 2) := by decide +kernel
theorem dX4_reckon_159 : decode cX4_reckon 159 = .ok (.iload 5, 2) := by decide +kernel
theorem dX4_reckon_161 : decode cX4_reckon 161 = .ok (.lookupswitch 101 #[(1102, 51), (1103, 61), (1104, 71), (1207, 91), (1208, 81)], 51) := by decide +kernel
theorem dX4_reckon_212 : decode cX4_reckon 212 = .ok (.lload 6, 2) := by decide +kernel
theorem dX4_reckon_214 : decode cX4_reckon 214 = .ok (.lload 8, 2) := by decide +kernel
theorem dX4_reckon_216 : decode cX4_reckon 216 = .ok (.ladd, 1) := by decide +kernel
theorem dX4_reckon_217 : decode cX4_reckon 217 = .ok (.lstore 10, 2) := by decide +kernel
theorem dX4_reckon_219 : decode cX4_reckon 219 = .ok (.goto 96, 3) := by decide +kernel
theorem dX4_reckon_222 : decode cX4_reckon 222 = .ok (.lload 6, 2) := by decide +kernel
theorem dX4_reckon_224 : decode cX4_reckon 224 = .ok (.lload 8, 2) := by decide +kernel
theorem dX4_reckon_226 : decode cX4_reckon 226 = .ok (.lsub, 1) := by decide +kernel
theorem dX4_reckon_227 : decode cX4_reckon 227 = .ok (.lstore 10, 2) := by decide +kernel
theorem dX4_reckon_229 : decode cX4_reckon 229 = .ok (.goto 86, 3) := by decide +kernel
theorem dX4_reckon_232 : decode cX4_reckon 232 = .ok (.lload 6, 2) := by decide +kernel
theorem dX4_reckon_234 : decode cX4_reckon 234 = .ok (.lload 8, 2) := by decide +kernel
theorem dX4_reckon_236 : decode cX4_reckon 236 = .ok (.lmul, 1) := by decide +kernel
theorem dX4_reckon_237 : decode cX4_reckon 237 = .ok (.lstore 10, 2) := by decide +kernel
theorem dX4_reckon_239 : decode cX4_reckon 239 = .ok (.goto 76, 3) := by decide +kernel
theorem dX4_reckon_242 : decode cX4_reckon 242 = .ok (.lload 6, 2) := by decide +kernel
theorem dX4_reckon_244 : decode cX4_reckon 244 = .ok (.lload 8, 2) := by decide +kernel
theorem dX4_reckon_246 : decode cX4_reckon 246 = .ok (.land, 1) := by decide +kernel
theorem dX4_reckon_247 : decode cX4_reckon 247 = .ok (.lstore 10, 2) := by decide +kernel
theorem dX4_reckon_249 : decode cX4_reckon 249 = .ok (.goto 66, 3) := by decide +kernel
theorem dX4_reckon_252 : decode cX4_reckon 252 = .ok (.lload 6, 2) := by decide +kernel
theorem dX4_reckon_254 : decode cX4_reckon 254 = .ok (.lload 8, 2) := by decide +kernel
theorem dX4_reckon_256 : decode cX4_reckon 256 = .ok (.lor, 1) := by decide +kernel
theorem dX4_reckon_257 : decode cX4_reckon 257 = .ok (.lstore 10, 2) := by decide +kernel
theorem dX4_reckon_259 : decode cX4_reckon 259 = .ok (.goto 56, 3) := by decide +kernel
theorem dX4_reckon_262 : decode cX4_reckon 262 = .ok (.iload 5, 2) := by decide +kernel
theorem dX4_reckon_264 : decode cX4_reckon 264 = .ok (.sipush 1109, 3) := by decide +kernel
theorem dX4_reckon_267 : decode cX4_reckon 267 = .ok (.if_icmp .ne 14, 3) := by decide +kernel
theorem dX4_reckon_270 : decode cX4_reckon 270 = .ok (.lload 6, 2) := by decide +kernel
theorem dX4_reckon_272 : decode cX4_reckon 272 = .ok (.lload 8, 2) := by decide +kernel
theorem dX4_reckon_274 : decode cX4_reckon 274 = .ok (.lcmp, 1) := by decide +kernel
theorem dX4_reckon_275 : decode cX4_reckon 275 = .ok (.ifCond .ne 37, 3) := by decide +kernel
theorem dX4_reckon_278 : decode cX4_reckon 278 = .ok (.goto 30, 3) := by decide +kernel
theorem dX4_reckon_281 : decode cX4_reckon 281 = .ok (.iload 5, 2) := by decide +kernel
theorem dX4_reckon_283 : decode cX4_reckon 283 = .ok (.sipush 1110, 3) := by decide +kernel
theorem dX4_reckon_286 : decode cX4_reckon 286 = .ok (.if_icmp .ne 14, 3) := by decide +kernel
theorem dX4_reckon_289 : decode cX4_reckon 289 = .ok (.lload 6, 2) := by decide +kernel
theorem dX4_reckon_291 : decode cX4_reckon 291 = .ok (.lload 8, 2) := by decide +kernel
theorem dX4_reckon_293 : decode cX4_reckon 293 = .ok (.lcmp, 1) := by decide +kernel
theorem dX4_reckon_294 : decode cX4_reckon 294 = .ok (.ifCond .ge 18, 3) := by decide +kernel
theorem dX4_reckon_297 : decode cX4_reckon 297 = .ok (.goto 11, 3) := by decide +kernel
theorem dX4_reckon_300 : decode cX4_reckon 300 = .ok (.lload 6, 2) := by decide +kernel
theorem dX4_reckon_302 : decode cX4_reckon 302 = .ok (.lload 8, 2) := by decide +kernel
theorem dX4_reckon_304 : decode cX4_reckon 304 = .ok (.lcmp, 1) := by decide +kernel
theorem dX4_reckon_305 : decode cX4_reckon 305 = .ok (.ifCond .le 7, 3) := by decide +kernel
theorem dX4_reckon_308 : decode cX4_reckon 308 = .ok (.lconst 1, 1) := by decide +kernel
theorem dX4_reckon_309 : decode cX4_reckon 309 = .ok (.goto 4, 3) := by decide +kernel
theorem dX4_reckon_312 : decode cX4_reckon 312 = .ok (.lconst 0, 1) := by decide +kernel
theorem dX4_reckon_313 : decode cX4_reckon 313 = .ok (.lstore 10, 2) := by decide +kernel
theorem dX4_reckon_315 : decode cX4_reckon 315 = .ok (.lload 10, 2) := by decide +kernel
theorem dX4_reckon_317 : decode cX4_reckon 317 = .ok (.ldc2_w 168, 3) := by decide +kernel
theorem dX4_reckon_320 : decode cX4_reckon 320 = .ok (.lcmp, 1) := by decide +kernel
theorem dX4_reckon_321 : decode cX4_reckon 321 = .ok (.ifCond .le 9, 3) := by decide +kernel
theorem dX4_reckon_324 : decode cX4_reckon 324 = .ok (.ldc2_w 168, 3) := by decide +kernel
theorem dX4_reckon_327 : decode cX4_reckon 327 = .ok (.goto 20, 3) := by decide +kernel
theorem dX4_reckon_330 : decode cX4_reckon 330 = .ok (.lload 10, 2) := by decide +kernel
theorem dX4_reckon_332 : decode cX4_reckon 332 = .ok (.ldc2_w 170, 3) := by decide +kernel
theorem dX4_reckon_335 : decode cX4_reckon 335 = .ok (.lcmp, 1) := by decide +kernel
theorem dX4_reckon_336 : decode cX4_reckon 336 = .ok (.ifCond .ge 9, 3) := by decide +kernel
theorem dX4_reckon_339 : decode cX4_reckon 339 = .ok (.ldc2_w 170, 3) := by decide +kernel
theorem dX4_reckon_342 : decode cX4_reckon 342 = .ok (.goto 5, 3) := by decide +kernel
theorem dX4_reckon_345 : decode cX4_reckon 345 = .ok (.lload 10, 2) := by decide +kernel
theorem dX4_reckon_347 : decode cX4_reckon 347 = .ok (.lstore 10, 2) := by decide +kernel
theorem dX4_reckon_349 : decode cX4_reckon 349 = .ok (.aload_n 0, 1) := by decide +kernel
theorem dX4_reckon_350 : decode cX4_reckon 350 = .ok (.getfield 58, 3) := by decide +kernel
theorem dX4_reckon_353 : decode cX4_reckon 353 = .ok (.iload_n 3, 1) := by decide +kernel
theorem dX4_reckon_354 : decode cX4_reckon 354 = .ok (.iconst 1, 1) := by decide +kernel
theorem dX4_reckon_355 : decode cX4_reckon 355 = .ok (.isub, 1) := by decide +kernel
theorem dX4_reckon_356 : decode cX4_reckon 356 = .ok (.lload 10, 2) := by decide +kernel
theorem dX4_reckon_358 : decode cX4_reckon 358 = .ok (.l2i, 1) := by decide +kernel
theorem dX4_reckon_359 : decode cX4_reckon 359 = .ok (.iastore, 1) := by decide +kernel
theorem dX4_reckon_360 : decode cX4_reckon 360 = .ok (.iinc 4 1, 3) := by decide +kernel
theorem dX4_reckon_363 : decode cX4_reckon 363 = .ok (.goto (-358), 3) := by decide +kernel
theorem dX4_reckon_366 : decode cX4_reckon 366 = .ok (.aload_n 0, 1) := by decide +kernel
theorem dX4_reckon_367 : decode cX4_reckon 367 = .ok (.getfield 58, 3) := by decide +kernel
theorem dX4_reckon_370 : decode cX4_reckon 370 = .ok (.iconst 0, 1) := by decide +kernel
theorem dX4_reckon_371 : decode cX4_reckon 371 = .ok (.iaload, 1) := by decide +kernel
theorem dX4_reckon_372 : decode cX4_reckon 372 = .ok (.ireturn, 1) := by decide +kernel
def f_X4_reckon_366  (s : zS) : Option (Int32 × zS) :=
  (zr_i s 58 (0 : Int32)).bind fun x1 =>
  some (x1, s)
set_option maxRecDepth 20000 in
theorem b_X4_reckon_366 {X : zX} (hX : zx_ok X cX4_reckon RX4 12) (hT : zx_rt X (some .int) (zR 0 0)) : ∀  (s : zS), zV X (zq X zrI) 12 366 [(0, .ref (zx_ad X 42))] [] s (f_X4_reckon_366  s) := by
  intro  s
  unfold f_X4_reckon_366
  refine zv_aload_n hX dX4_reckon_366 0 rfl ?_
  refine zv_geta hX wf_X4_58 wc_4 zd_42 zj_42_17 c9_4 zr_42_17 (by decide) dX4_reckon_367 ?_
  refine zv_iconst (v := (0 : Int32)) hX dX4_reckon_370 zi_i_0 ?_
  refine zv_iald hX dX4_reckon_371 (fun x1 => ?_)
  exact zv_ireti hX hT dX4_reckon_372
def f_X4_reckon_360 (kb_5 : Int32 → Int32 → Int32 → zS → Option (Int32 × zS)) (v2 : Int32) (v3 : Int32) (v4 : Int32) (s : zS) : Option (Int32 × zS) :=
  zb (v4 + (1 : Int32)) fun x2 =>
  kb_5 v2 v3 x2 s
set_option maxRecDepth 20000 in
theorem b_X4_reckon_360 {X : zX} {kb_5 : Int32 → Int32 → Int32 → zS → Option (Int32 × zS)} (hX : zx_ok X cX4_reckon RX4 12) (hT : zx_rt X (some .int) (zR 0 0)) (hk_5 : ∀ (v2 : Int32) (v3 : Int32) (v4 : Int32) (s : zS), zV X (zq X zrI) 12 5 [(0, .ref (zx_ad X 42)), (2, .int v2), (3, .int v3), (4, .int v4)] [] s (kb_5 v2 v3 v4 s)) : ∀ (v2 : Int32) (v3 : Int32) (v4 : Int32) (s : zS), zV X (zq X zrI) 12 360 [(0, .ref (zx_ad X 42)), (2, .int v2), (3, .int v3), (4, .int v4)] [] s (f_X4_reckon_360 kb_5 v2 v3 v4 s) := by
  intro v2 v3 v4 s
  unfold f_X4_reckon_360
  refine zv_iincB (lw := fun x2 => [(4, .int x2), (0, .ref (zx_ad X 42)), (2, .int v2), (3, .int v3)]) hX dX4_reckon_360 3 rfl zi_i_1 (by decide) (fun _ => rfl) (fun x2 => ?_)
  refine zv_goto (tgt := 5) hX dX4_reckon_363 rfl ?_
  exact zv_sub [1, 2, 3, 0] rfl (hk_5 v2 v3 x2 s)
def f_X4_reckon_90 (kb_5 : Int32 → Int32 → Int32 → zS → Option (Int32 × zS)) (v2 : Int32) (v3 : Int32) (v4 : Int32) (w0 : Int32) (w1 : Int32) (s : zS) : Option (Int32 × zS) :=
  (zw_i s 58 w1 w0).bind fun s3 =>
  zb (v3 + (1 : Int32)) fun x4 =>
  f_X4_reckon_360 kb_5 v2 x4 v4 s3
set_option maxRecDepth 20000 in
theorem b_X4_reckon_90 {X : zX} {kb_5 : Int32 → Int32 → Int32 → zS → Option (Int32 × zS)} (hX : zx_ok X cX4_reckon RX4 12) (hT : zx_rt X (some .int) (zR 0 0)) (hk_5 : ∀ (v2 : Int32) (v3 : Int32) (v4 : Int32) (s : zS), zV X (zq X zrI) 12 5 [(0, .ref (zx_ad X 42)), (2, .int v2), (3, .int v3), (4, .int v4)] [] s (kb_5 v2 v3 v4 s)) : ∀ (v2 : Int32) (v3 : Int32) (v4 : Int32) (w0 : Int32) (w1 : Int32) (s : zS), zV X (zq X zrI) 12 90 [(0, .ref (zx_ad X 42)), (2, .int v2), (3, .int v3), (4, .int v4)] [.int w0, .int w1, .ref (zx_ad X 58)] s (f_X4_reckon_90 kb_5 v2 v3 v4 w0 w1 s) := by
  intro v2 v3 v4 w0 w1 s
  unfold f_X4_reckon_90
  refine zv_iast hX dX4_reckon_90 (fun s3 => ?_)
  refine zv_iincB (lw := fun x4 => [(3, .int x4), (0, .ref (zx_ad X 42)), (2, .int v2), (4, .int v4)]) hX dX4_reckon_91 2 rfl zi_i_1 (by decide) (fun _ => rfl) (fun x4 => ?_)
  refine zv_goto (tgt := 360) hX dX4_reckon_94 rfl ?_
  exact zv_sub [1, 2, 0, 3] rfl (b_X4_reckon_360 hX hT hk_5 v2 x4 v4 s3)
def f_X4_reckon_55 (kb_5 : Int32 → Int32 → Int32 → zS → Option (Int32 × zS)) (v2 : Int32) (v3 : Int32) (v4 : Int32) (v5 : Int32) (s : zS) : Option (Int32 × zS) :=
  if (nI 32) ≤ v3 then
  (f_X4_reckon_360 kb_5 v2 v3 v4 s)
  else
  if (nI 1000) ≤ v5 then
  ((zr_i s 59 (v5 - (nI 1210))).bind fun x5 =>
  f_X4_reckon_90 kb_5 v2 v3 v4 x5 v3 s)
  else
  f_X4_reckon_90 kb_5 v2 v3 v4 v5 v3 s
set_option maxRecDepth 20000 in
theorem b_X4_reckon_55 {X : zX} {kb_5 : Int32 → Int32 → Int32 → zS → Option (Int32 × zS)} (hX : zx_ok X cX4_reckon RX4 12) (hT : zx_rt X (some .int) (zR 0 0)) (hk_5 : ∀ (v2 : Int32) (v3 : Int32) (v4 : Int32) (s : zS), zV X (zq X zrI) 12 5 [(0, .ref (zx_ad X 42)), (2, .int v2), (3, .int v3), (4, .int v4)] [] s (kb_5 v2 v3 v4 s)) : ∀ (v2 : Int32) (v3 : Int32) (v4 : Int32) (v5 : Int32) (s : zS), zV X (zq X zrI) 12 55 [(0, .ref (zx_ad X 42)), (2, .int v2), (3, .int v3), (4, .int v4), (5, .int v5)] [] s (f_X4_reckon_55 kb_5 v2 v3 v4 v5 s) := by
  intro v2 v3 v4 v5 s
  unfold f_X4_reckon_55
  refine zv_iload_n hX dX4_reckon_55 2 rfl ?_
  refine zv_bipush (v := (nI 32)) hX dX4_reckon_56 zi_b_32 ?_
  refine zv_icmp_ge (tgt := 360) hX dX4_reckon_58 rfl ?_ ?_
  · exact zv_sub [0, 1, 2, 3] rfl (b_X4_reckon_360 hX hT hk_5 v2 v3 v4 s)
  · refine zv_aload_n hX dX4_reckon_61 0 rfl ?_
    refine zv_geta hX wf_X4_58 wc_4 zd_42 zj_42_17 c9_4 zr_42_17 (by decide) dX4_reckon_62 ?_
    refine zv_iload_n hX dX4_reckon_65 2 rfl ?_
    refine zv_iload hX dX4_reckon_66 4 rfl ?_
    refine zv_sipush (v := (nI 1000)) hX dX4_reckon_68 zi_s_1000 ?_
    refine zv_icmp_ge (tgt := 79) hX dX4_reckon_71 rfl ?_ ?_
    · refine zv_aload_n hX dX4_reckon_79 0 rfl ?_
      refine zv_geta hX wf_X4_61 wc_4 zd_42 zj_42_18 c9_4 zr_42_18 (by decide) dX4_reckon_80 ?_
      refine zv_iload hX dX4_reckon_83 4 rfl ?_
      refine zv_sipush (v := (nI 1210)) hX dX4_reckon_85 zi_s_1210 ?_
      refine zv_isub hX dX4_reckon_88 ?_
      refine zv_iald hX dX4_reckon_89 (fun x5 => ?_)
      exact zv_sub [0, 1, 2, 3] rfl (b_X4_reckon_90 hX hT hk_5 v2 v3 v4 x5 v3 s)
    · refine zv_iload hX dX4_reckon_74 4 rfl ?_
      refine zv_goto (tgt := 90) hX dX4_reckon_76 rfl ?_
      exact zv_sub [0, 1, 2, 3] rfl (b_X4_reckon_90 hX hT hk_5 v2 v3 v4 v5 v3 s)
def f_X4_reckon_347 (kb_5 : Int32 → Int32 → Int32 → zS → Option (Int32 × zS)) (v2 : Int32) (v3 : Int32) (v4 : Int32) (w0 : Int64) (s : zS) : Option (Int32 × zS) :=
  (zw_i s 58 (v3 - (1 : Int32)) (w0.toInt32)).bind fun s6 =>
  f_X4_reckon_360 kb_5 v2 v3 v4 s6
set_option maxRecDepth 20000 in
theorem b_X4_reckon_347 {X : zX} {kb_5 : Int32 → Int32 → Int32 → zS → Option (Int32 × zS)} (hX : zx_ok X cX4_reckon RX4 12) (hT : zx_rt X (some .int) (zR 0 0)) (hk_5 : ∀ (v2 : Int32) (v3 : Int32) (v4 : Int32) (s : zS), zV X (zq X zrI) 12 5 [(0, .ref (zx_ad X 42)), (2, .int v2), (3, .int v3), (4, .int v4)] [] s (kb_5 v2 v3 v4 s)) : ∀ (v2 : Int32) (v3 : Int32) (v4 : Int32) (w0 : Int64) (s : zS), zV X (zq X zrI) 12 347 [(0, .ref (zx_ad X 42)), (2, .int v2), (3, .int v3), (4, .int v4)] [.long w0] s (f_X4_reckon_347 kb_5 v2 v3 v4 w0 s) := by
  intro v2 v3 v4 w0 s
  unfold f_X4_reckon_347
  refine zv_lstore (lv' := [(10, .long w0), (0, .ref (zx_ad X 42)), (2, .int v2), (3, .int v3), (4, .int v4)]) hX dX4_reckon_347 (by decide) rfl ?_
  refine zv_aload_n hX dX4_reckon_349 1 rfl ?_
  refine zv_geta hX wf_X4_58 wc_4 zd_42 zj_42_17 c9_4 zr_42_17 (by decide) dX4_reckon_350 ?_
  refine zv_iload_n hX dX4_reckon_353 3 rfl ?_
  refine zv_iconst (v := (1 : Int32)) hX dX4_reckon_354 zi_i_1 ?_
  refine zv_isub hX dX4_reckon_355 ?_
  refine zv_lload hX dX4_reckon_356 0 rfl ?_
  refine zv_l2i hX dX4_reckon_358 ?_
  refine zv_iast hX dX4_reckon_359 (fun s6 => ?_)
  exact zv_sub [1, 2, 3, 4] rfl (b_X4_reckon_360 hX hT hk_5 v2 v3 v4 s6)
def f_X4_reckon_315 (kb_5 : Int32 → Int32 → Int32 → zS → Option (Int32 × zS)) (v2 : Int32) (v3 : Int32) (v4 : Int32) (v10 : Int64) (s : zS) : Option (Int32 × zS) :=
  if (lg_cmp v10 (1000000 : Int64)) ≤ 0 then
  (if 0 ≤ (lg_cmp v10 (-1000000 : Int64)) then
  (f_X4_reckon_347 kb_5 v2 v3 v4 v10 s)
  else
  f_X4_reckon_347 kb_5 v2 v3 v4 (-1000000 : Int64) s)
  else
  f_X4_reckon_347 kb_5 v2 v3 v4 (1000000 : Int64) s
set_option maxRecDepth 20000 in
theorem b_X4_reckon_315 {X : zX} {kb_5 : Int32 → Int32 → Int32 → zS → Option (Int32 × zS)} (hX : zx_ok X cX4_reckon RX4 12) (hT : zx_rt X (some .int) (zR 0 0)) (hk_5 : ∀ (v2 : Int32) (v3 : Int32) (v4 : Int32) (s : zS), zV X (zq X zrI) 12 5 [(0, .ref (zx_ad X 42)), (2, .int v2), (3, .int v3), (4, .int v4)] [] s (kb_5 v2 v3 v4 s)) : ∀ (v2 : Int32) (v3 : Int32) (v4 : Int32) (v10 : Int64) (s : zS), zV X (zq X zrI) 12 315 [(0, .ref (zx_ad X 42)), (2, .int v2), (3, .int v3), (4, .int v4), (10, .long v10)] [] s (f_X4_reckon_315 kb_5 v2 v3 v4 v10 s) := by
  intro v2 v3 v4 v10 s
  unfold f_X4_reckon_315
  refine zv_lload hX dX4_reckon_315 4 rfl ?_
  refine zv_ldc2 hX wn_X4_168 dX4_reckon_317 ?_
  refine zv_lcmp hX dX4_reckon_320 ?_
  refine zv_if_le (tgt := 330) hX dX4_reckon_321 rfl ?_ ?_
  · refine zv_lload hX dX4_reckon_330 4 rfl ?_
    refine zv_ldc2 hX wn_X4_170 dX4_reckon_332 ?_
    refine zv_lcmp hX dX4_reckon_335 ?_
    refine zv_if_ge (tgt := 345) hX dX4_reckon_336 rfl ?_ ?_
    · refine zv_lload hX dX4_reckon_345 4 rfl ?_
      exact zv_sub [0, 1, 2, 3] rfl (b_X4_reckon_347 hX hT hk_5 v2 v3 v4 v10 s)
    · refine zv_ldc2 hX wn_X4_170 dX4_reckon_339 ?_
      refine zv_goto (tgt := 347) hX dX4_reckon_342 rfl ?_
      exact zv_sub [0, 1, 2, 3] rfl (b_X4_reckon_347 hX hT hk_5 v2 v3 v4 (-1000000 : Int64) s)
  · refine zv_ldc2 hX wn_X4_168 dX4_reckon_324 ?_
    refine zv_goto (tgt := 347) hX dX4_reckon_327 rfl ?_
    exact zv_sub [0, 1, 2, 3] rfl (b_X4_reckon_347 hX hT hk_5 v2 v3 v4 (1000000 : Int64) s)
def f_X4_reckon_313 (kb_5 : Int32 → Int32 → Int32 → zS → Option (Int32 × zS)) (v2 : Int32) (v3 : Int32) (v4 : Int32) (w0 : Int64) (s : zS) : Option (Int32 × zS) :=
  f_X4_reckon_315 kb_5 v2 v3 v4 w0 s
set_option maxRecDepth 20000 in
theorem b_X4_reckon_313 {X : zX} {kb_5 : Int32 → Int32 → Int32 → zS → Option (Int32 × zS)} (hX : zx_ok X cX4_reckon RX4 12) (hT : zx_rt X (some .int) (zR 0 0)) (hk_5 : ∀ (v2 : Int32) (v3 : Int32) (v4 : Int32) (s : zS), zV X (zq X zrI) 12 5 [(0, .ref (zx_ad X 42)), (2, .int v2), (3, .int v3), (4, .int v4)] [] s (kb_5 v2 v3 v4 s)) : ∀ (v2 : Int32) (v3 : Int32) (v4 : Int32) (w0 : Int64) (s : zS), zV X (zq X zrI) 12 313 [(0, .ref (zx_ad X 42)), (2, .int v2), (3, .int v3), (4, .int v4)] [.long w0] s (f_X4_reckon_313 kb_5 v2 v3 v4 w0 s) := by
  intro v2 v3 v4 w0 s
  unfold f_X4_reckon_313
  refine zv_lstore (lv' := [(10, .long w0), (0, .ref (zx_ad X 42)), (2, .int v2), (3, .int v3), (4, .int v4)]) hX dX4_reckon_313 (by decide) rfl ?_
  exact zv_sub [1, 2, 3, 4, 0] rfl (b_X4_reckon_315 hX hT hk_5 v2 v3 v4 w0 s)
def f_X4_reckon_312 (kb_5 : Int32 → Int32 → Int32 → zS → Option (Int32 × zS)) (v2 : Int32) (v3 : Int32) (v4 : Int32) (s : zS) : Option (Int32 × zS) :=
  f_X4_reckon_313 kb_5 v2 v3 v4 (0 : Int64) s
set_option maxRecDepth 20000 in
theorem b_X4_reckon_312 {X : zX} {kb_5 : Int32 → Int32 → Int32 → zS → Option (Int32 × zS)} (hX : zx_ok X cX4_reckon RX4 12) (hT : zx_rt X (some .int) (zR 0 0)) (hk_5 : ∀ (v2 : Int32) (v3 : Int32) (v4 : Int32) (s : zS), zV X (zq X zrI) 12 5 [(0, .ref (zx_ad X 42)), (2, .int v2), (3, .int v3), (4, .int v4)] [] s (kb_5 v2 v3 v4 s)) : ∀ (v2 : Int32) (v3 : Int32) (v4 : Int32) (s : zS), zV X (zq X zrI) 12 312 [(0, .ref (zx_ad X 42)), (2, .int v2), (3, .int v3), (4, .int v4)] [] s (f_X4_reckon_312 kb_5 v2 v3 v4 s) := by
  intro v2 v3 v4 s
  unfold f_X4_reckon_312
  refine zv_lconst (v := (0 : Int64)) hX dX4_reckon_312 zi_l_0 ?_
  exact b_X4_reckon_313 hX hT hk_5 v2 v3 v4 (0 : Int64) s
def f_X4_reckon_308 (kb_5 : Int32 → Int32 → Int32 → zS → Option (Int32 × zS)) (v2 : Int32) (v3 : Int32) (v4 : Int32) (s : zS) : Option (Int32 × zS) :=
  f_X4_reckon_313 kb_5 v2 v3 v4 (1 : Int64) s
set_option maxRecDepth 20000 in
theorem b_X4_reckon_308 {X : zX} {kb_5 : Int32 → Int32 → Int32 → zS → Option (Int32 × zS)} (hX : zx_ok X cX4_reckon RX4 12) (hT : zx_rt X (some .int) (zR 0 0)) (hk_5 : ∀ (v2 : Int32) (v3 : Int32) (v4 : Int32) (s : zS), zV X (zq X zrI) 12 5 [(0, .ref (zx_ad X 42)), (2, .int v2), (3, .int v3), (4, .int v4)] [] s (kb_5 v2 v3 v4 s)) : ∀ (v2 : Int32) (v3 : Int32) (v4 : Int32) (s : zS), zV X (zq X zrI) 12 308 [(0, .ref (zx_ad X 42)), (2, .int v2), (3, .int v3), (4, .int v4)] [] s (f_X4_reckon_308 kb_5 v2 v3 v4 s) := by
  intro v2 v3 v4 s
  unfold f_X4_reckon_308
  refine zv_lconst (v := (1 : Int64)) hX dX4_reckon_308 zi_l_1 ?_
  refine zv_goto (tgt := 313) hX dX4_reckon_309 rfl ?_
  exact b_X4_reckon_313 hX hT hk_5 v2 v3 v4 (1 : Int64) s
def f_X4_reckon_131 (kb_5 : Int32 → Int32 → Int32 → zS → Option (Int32 × zS)) (v2 : Int32) (v3 : Int32) (v4 : Int32) (v5 : Int32) (s : zS) : Option (Int32 × zS) :=
  if v3 < (nI 2) then
  (f_X4_reckon_360 kb_5 v2 v3 v4 s)
  else
  zb (v3 + (-1 : Int32)) fun x7 =>
  (zr_i s 58 (x7 - (1 : Int32))).bind fun x8 =>
  zb (x8.toInt64) fun x9 =>
  (zr_i s 58 x7).bind fun x10 =>
  zb (x10.toInt64) fun x11 =>
  if v5 = (nI 1102) then
  (zb (x9 + x11) fun x12 =>
  f_X4_reckon_315 kb_5 v2 x7 v4 x12 s)
  else if v5 = (nI 1103) then
  (zb (x9 - x11) fun x13 =>
  f_X4_reckon_315 kb_5 v2 x7 v4 x13 s)
  else if v5 = (nI 1104) then
  (zb (x9 * x11) fun x14 =>
  f_X4_reckon_315 kb_5 v2 x7 v4 x14 s)
  else if v5 = (nI 1207) then
  (zb (x9 ||| x11) fun x15 =>
  f_X4_reckon_315 kb_5 v2 x7 v4 x15 s)
  else if v5 = (nI 1208) then
  (zb (x9 &&& x11) fun x16 =>
  f_X4_reckon_315 kb_5 v2 x7 v4 x16 s)
  else 
  if ¬ v5 = (nI 1109) then
  (if ¬ v5 = (nI 1110) then
  (if (lg_cmp x9 x11) ≤ 0 then
  (f_X4_reckon_312 kb_5 v2 x7 v4 s)
  else
  f_X4_reckon_308 kb_5 v2 x7 v4 s)
  else
  if 0 ≤ (lg_cmp x9 x11) then
  (f_X4_reckon_312 kb_5 v2 x7 v4 s)
  else
  f_X4_reckon_308 kb_5 v2 x7 v4 s)
  else
  if ¬ (lg_cmp x9 x11) = 0 then
  (f_X4_reckon_312 kb_5 v2 x7 v4 s)
  else
  f_X4_reckon_308 kb_5 v2 x7 v4 s
set_option maxRecDepth 20000 in
theorem b_X4_reckon_131 {X : zX} {kb_5 : Int32 → Int32 → Int32 → zS → Option (Int32 × zS)} (hX : zx_ok X cX4_reckon RX4 12) (hT : zx_rt X (some .int) (zR 0 0)) (hk_5 : ∀ (v2 : Int32) (v3 : Int32) (v4 : Int32) (s : zS), zV X (zq X zrI) 12 5 [(0, .ref (zx_ad X 42)), (2, .int v2), (3, .int v3), (4, .int v4)] [] s (kb_5 v2 v3 v4 s)) : ∀ (v2 : Int32) (v3 : Int32) (v4 : Int32) (v5 : Int32) (s : zS), zV X (zq X zrI) 12 131 [(0, .ref (zx_ad X 42)), (2, .int v2), (3, .int v3), (4, .int v4), (5, .int v5)] [] s (f_X4_reckon_131 kb_5 v2 v3 v4 v5 s) := by
  intro v2 v3 v4 v5 s
  unfold f_X4_reckon_131
  refine zv_iload_n hX dX4_reckon_131 2 rfl ?_
  refine zv_iconst (v := (nI 2)) hX dX4_reckon_132 zi_i_2 ?_
  refine zv_icmp_lt (tgt := 360) hX dX4_reckon_133 rfl ?_ ?_
  · exact zv_sub [0, 1, 2, 3] rfl (b_X4_reckon_360 hX hT hk_5 v2 v3 v4 s)
  · refine zv_iincB (lw := fun x7 => [(3, .int x7), (0, .ref (zx_ad X 42)), (2, .int v2), (4, .int v4), (5, .int v5)]) hX dX4_reckon_136 2 rfl zi_i_m1 (by decide) (fun _ => rfl) (fun x7 => ?_)
    refine zv_aload_n hX dX4_reckon_139 1 rfl ?_
    refine zv_geta hX wf_X4_58 wc_4 zd_42 zj_42_17 c9_4 zr_42_17 (by decide) dX4_reckon_140 ?_
    refine zv_iload_n hX dX4_reckon_143 0 rfl ?_
    refine zv_iconst (v := (1 : Int32)) hX dX4_reckon_144 zi_i_1 ?_
    refine zv_isub hX dX4_reckon_145 ?_
    refine zv_iald hX dX4_reckon_146 (fun x8 => ?_)
    refine zv_i2l hX dX4_reckon_147 ?_
    refine zv_lstB (lw := fun x9 => [(6, .long x9), (3, .int x7), (0, .ref (zx_ad X 42)), (2, .int v2), (4, .int v4), (5, .int v5)]) hX dX4_reckon_148 (by decide) (fun _ => rfl) (fun x9 => ?_)
    refine zv_aload_n hX dX4_reckon_150 2 rfl ?_
    refine zv_geta hX wf_X4_58 wc_4 zd_42 zj_42_17 c9_4 zr_42_17 (by decide) dX4_reckon_151 ?_
    refine zv_iload_n hX dX4_reckon_154 1 rfl ?_
    refine zv_iald hX dX4_reckon_155 (fun x10 => ?_)
    refine zv_i2l hX dX4_reckon_156 ?_
    refine zv_lstB (lw := fun x11 => [(8, .long x11), (6, .long x9), (3, .int x7), (0, .ref (zx_ad X 42)), (2, .int v2), (4, .int v4), (5, .int v5)]) hX dX4_reckon_157 (by decide) (fun _ => rfl) (fun x11 => ?_)
    refine zv_iload hX dX4_reckon_159 6 rfl ?_
    refine zv_ite (fun h161_1102 => ?_) (fun h161_1102 => ?_)
    · refine zv_look (z := 51) (tgt := 212) hX dX4_reckon_161 (by decide) (by rw [h161_1102]; decide) rfl ?_
      refine zv_lload hX dX4_reckon_212 1 rfl ?_
      refine zv_lload hX dX4_reckon_214 0 rfl ?_
      refine zv_ladd hX dX4_reckon_216 ?_
      refine zv_lstB (lw := fun x12 => [(10, .long x12), (8, .long x11), (6, .long x9), (3, .int x7), (0, .ref (zx_ad X 42)), (2, .int v2), (4, .int v4), (5, .int v5)]) hX dX4_reckon_217 (by decide) (fun _ => rfl) (fun x12 => ?_)
      refine zv_goto (tgt := 315) hX dX4_reckon_219 rfl ?_
      exact zv_sub [4, 5, 3, 6, 0] rfl (b_X4_reckon_315 hX hT hk_5 v2 x7 v4 x12 s)
    refine zv_ite (fun h161_1103 => ?_) (fun h161_1103 => ?_)
    · refine zv_look (z := 61) (tgt := 222) hX dX4_reckon_161 (by decide) (by rw [h161_1103]; decide) rfl ?_
      refine zv_lload hX dX4_reckon_222 1 rfl ?_
      refine zv_lload hX dX4_reckon_224 0 rfl ?_
      refine zv_lsub hX dX4_reckon_226 ?_
      refine zv_lstB (lw := fun x13 => [(10, .long x13), (8, .long x11), (6, .long x9), (3, .int x7), (0, .ref (zx_ad X 42)), (2, .int v2), (4, .int v4), (5, .int v5)]) hX dX4_reckon_227 (by decide) (fun _ => rfl) (fun x13 => ?_)
      refine zv_goto (tgt := 315) hX dX4_reckon_229 rfl ?_
      exact zv_sub [4, 5, 3, 6, 0] rfl (b_X4_reckon_315 hX hT hk_5 v2 x7 v4 x13 s)
    refine zv_ite (fun h161_1104 => ?_) (fun h161_1104 => ?_)
    · refine zv_look (z := 71) (tgt := 232) hX dX4_reckon_161 (by decide) (by rw [h161_1104]; decide) rfl ?_
      refine zv_lload hX dX4_reckon_232 1 rfl ?_
      refine zv_lload hX dX4_reckon_234 0 rfl ?_
      refine zv_lmul hX dX4_reckon_236 ?_
      refine zv_lstB (lw := fun x14 => [(10, .long x14), (8, .long x11), (6, .long x9), (3, .int x7), (0, .ref (zx_ad X 42)), (2, .int v2), (4, .int v4), (5, .int v5)]) hX dX4_reckon_237 (by decide) (fun _ => rfl) (fun x14 => ?_)
      refine zv_goto (tgt := 315) hX dX4_reckon_239 rfl ?_
      exact zv_sub [4, 5, 3, 6, 0] rfl (b_X4_reckon_315 hX hT hk_5 v2 x7 v4 x14 s)
    refine zv_ite (fun h161_1207 => ?_) (fun h161_1207 => ?_)
    · refine zv_look (z := 91) (tgt := 252) hX dX4_reckon_161 (by decide) (by rw [h161_1207]; decide) rfl ?_
      refine zv_lload hX dX4_reckon_252 1 rfl ?_
      refine zv_lload hX dX4_reckon_254 0 rfl ?_
      refine zv_lor hX dX4_reckon_256 ?_
      refine zv_lstB (lw := fun x15 => [(10, .long x15), (8, .long x11), (6, .long x9), (3, .int x7), (0, .ref (zx_ad X 42)), (2, .int v2), (4, .int v4), (5, .int v5)]) hX dX4_reckon_257 (by decide) (fun _ => rfl) (fun x15 => ?_)
      refine zv_goto (tgt := 315) hX dX4_reckon_259 rfl ?_
      exact zv_sub [4, 5, 3, 6, 0] rfl (b_X4_reckon_315 hX hT hk_5 v2 x7 v4 x15 s)
    refine zv_ite (fun h161_1208 => ?_) (fun h161_1208 => ?_)
    · refine zv_look (z := 81) (tgt := 242) hX dX4_reckon_161 (by decide) (by rw [h161_1208]; decide) rfl ?_
      refine zv_lload hX dX4_reckon_242 1 rfl ?_
      refine zv_lload hX dX4_reckon_244 0 rfl ?_
      refine zv_land hX dX4_reckon_246 ?_
      refine zv_lstB (lw := fun x16 => [(10, .long x16), (8, .long x11), (6, .long x9), (3, .int x7), (0, .ref (zx_ad X 42)), (2, .int v2), (4, .int v4), (5, .int v5)]) hX dX4_reckon_247 (by decide) (fun _ => rfl) (fun x16 => ?_)
      refine zv_goto (tgt := 315) hX dX4_reckon_249 rfl ?_
      exact zv_sub [4, 5, 3, 6, 0] rfl (b_X4_reckon_315 hX hT hk_5 v2 x7 v4 x16 s)
    refine zv_look (z := 101) (tgt := 262) hX dX4_reckon_161 (by decide) (by rw [lv_osw h161_1102 (by decide)]; rw [lv_osw h161_1103 (by decide)]; rw [lv_osw h161_1104 (by decide)]; rw [lv_osw h161_1207 (by decide)]; rw [lv_osw h161_1208 (by decide)]; rfl) rfl ?_
    refine zv_iload hX dX4_reckon_262 6 rfl ?_
    refine zv_sipush (v := (nI 1109)) hX dX4_reckon_264 zi_s_1109 ?_
    refine zv_icmp_ne (tgt := 281) hX dX4_reckon_267 rfl ?_ ?_
    · refine zv_iload hX dX4_reckon_281 6 rfl ?_
      refine zv_sipush (v := (nI 1110)) hX dX4_reckon_283 zi_s_1110 ?_
      refine zv_icmp_ne (tgt := 300) hX dX4_reckon_286 rfl ?_ ?_
      · refine zv_lload hX dX4_reckon_300 1 rfl ?_
        refine zv_lload hX dX4_reckon_302 0 rfl ?_
        refine zv_lcmp hX dX4_reckon_304 ?_
        refine zv_if_le (tgt := 312) hX dX4_reckon_305 rfl ?_ ?_
        · exact zv_sub [3, 4, 2, 5] rfl (b_X4_reckon_312 hX hT hk_5 v2 x7 v4 s)
        · exact zv_sub [3, 4, 2, 5] rfl (b_X4_reckon_308 hX hT hk_5 v2 x7 v4 s)
      · refine zv_lload hX dX4_reckon_289 1 rfl ?_
        refine zv_lload hX dX4_reckon_291 0 rfl ?_
        refine zv_lcmp hX dX4_reckon_293 ?_
        refine zv_if_ge (tgt := 312) hX dX4_reckon_294 rfl ?_ ?_
        · exact zv_sub [3, 4, 2, 5] rfl (b_X4_reckon_312 hX hT hk_5 v2 x7 v4 s)
        · refine zv_goto (tgt := 308) hX dX4_reckon_297 rfl ?_
          exact zv_sub [3, 4, 2, 5] rfl (b_X4_reckon_308 hX hT hk_5 v2 x7 v4 s)
    · refine zv_lload hX dX4_reckon_270 1 rfl ?_
      refine zv_lload hX dX4_reckon_272 0 rfl ?_
      refine zv_lcmp hX dX4_reckon_274 ?_
      refine zv_if_ne (tgt := 312) hX dX4_reckon_275 rfl ?_ ?_
      · exact zv_sub [3, 4, 2, 5] rfl (b_X4_reckon_312 hX hT hk_5 v2 x7 v4 s)
      · refine zv_goto (tgt := 308) hX dX4_reckon_278 rfl ?_
        exact zv_sub [3, 4, 2, 5] rfl (b_X4_reckon_308 hX hT hk_5 v2 x7 v4 s)
def f_X4_reckon_97 (kb_5 : Int32 → Int32 → Int32 → zS → Option (Int32 × zS)) (v2 : Int32) (v3 : Int32) (v4 : Int32) (v5 : Int32) (s : zS) : Option (Int32 × zS) :=
  if ¬ v5 = (nI 1209) then
  (f_X4_reckon_131 kb_5 v2 v3 v4 v5 s)
  else
  if v3 < (1 : Int32) then
  (f_X4_reckon_131 kb_5 v2 v3 v4 v5 s)
  else
  (zr_i s 58 (v3 - (1 : Int32))).bind fun x17 =>
  (zw_i s 58 (v3 - (1 : Int32)) ((1 : Int32) - x17)).bind fun s18 =>
  f_X4_reckon_360 kb_5 v2 v3 v4 s18
set_option maxRecDepth 20000 in
theorem b_X4_reckon_97 {X : zX} {kb_5 : Int32 → Int32 → Int32 → zS → Option (Int32 × zS)} (hX : zx_ok X cX4_reckon RX4 12) (hT : zx_rt X (some .int) (zR 0 0)) (hk_5 : ∀ (v2 : Int32) (v3 : Int32) (v4 : Int32) (s : zS), zV X (zq X zrI) 12 5 [(0, .ref (zx_ad X 42)), (2, .int v2), (3, .int v3), (4, .int v4)] [] s (kb_5 v2 v3 v4 s)) : ∀ (v2 : Int32) (v3 : Int32) (v4 : Int32) (v5 : Int32) (s : zS), zV X (zq X zrI) 12 97 [(0, .ref (zx_ad X 42)), (2, .int v2), (3, .int v3), (4, .int v4), (5, .int v5)] [] s (f_X4_reckon_97 kb_5 v2 v3 v4 v5 s) := by
  intro v2 v3 v4 v5 s
  unfold f_X4_reckon_97
  refine zv_iload hX dX4_reckon_97 4 rfl ?_
  refine zv_sipush (v := (nI 1209)) hX dX4_reckon_99 zi_s_1209 ?_
  refine zv_icmp_ne (tgt := 131) hX dX4_reckon_102 rfl ?_ ?_
  · exact b_X4_reckon_131 hX hT hk_5 v2 v3 v4 v5 s
  · refine zv_iload_n hX dX4_reckon_105 2 rfl ?_
    refine zv_iconst (v := (1 : Int32)) hX dX4_reckon_106 zi_i_1 ?_
    refine zv_icmp_lt (tgt := 131) hX dX4_reckon_107 rfl ?_ ?_
    · exact b_X4_reckon_131 hX hT hk_5 v2 v3 v4 v5 s
    · refine zv_aload_n hX dX4_reckon_110 0 rfl ?_
      refine zv_geta hX wf_X4_58 wc_4 zd_42 zj_42_17 c9_4 zr_42_17 (by decide) dX4_reckon_111 ?_
      refine zv_iload_n hX dX4_reckon_114 2 rfl ?_
      refine zv_iconst (v := (1 : Int32)) hX dX4_reckon_115 zi_i_1 ?_
      refine zv_isub hX dX4_reckon_116 ?_
      refine zv_iconst (v := (1 : Int32)) hX dX4_reckon_117 zi_i_1 ?_
      refine zv_aload_n hX dX4_reckon_118 0 rfl ?_
      refine zv_geta hX wf_X4_58 wc_4 zd_42 zj_42_17 c9_4 zr_42_17 (by decide) dX4_reckon_119 ?_
      refine zv_iload_n hX dX4_reckon_122 2 rfl ?_
      refine zv_iconst (v := (1 : Int32)) hX dX4_reckon_123 zi_i_1 ?_
      refine zv_isub hX dX4_reckon_124 ?_
      refine zv_iald hX dX4_reckon_125 (fun x17 => ?_)
      refine zv_isub hX dX4_reckon_126 ?_
      refine zv_iast hX dX4_reckon_127 (fun s18 => ?_)
      refine zv_goto (tgt := 360) hX dX4_reckon_128 rfl ?_
      exact zv_sub [0, 1, 2, 3] rfl (b_X4_reckon_360 hX hT hk_5 v2 v3 v4 s18)
def f_X4_reckon_5 : Nat → Int32 → Int32 → Int32 → zS → Option (Int32 × zS)
  | 0, _, _, _, _ => none
  | n + 1, v2, v3, v4, s =>
    if v2 ≤ v4 then
    (f_X4_reckon_366 s)
    else
    if (nI 900) ≤ v4 then
    (f_X4_reckon_366 s)
    else
    (zr_i s 9 v4).bind fun x19 =>
    if x19 < (nI 1000) then
    (f_X4_reckon_55 (f_X4_reckon_5 n) v2 v3 v4 x19 s)
    else
    if x19 < (nI 1210) then
    (f_X4_reckon_97 (f_X4_reckon_5 n) v2 v3 v4 x19 s)
    else
    if (nI 1216) < x19 then
    (f_X4_reckon_97 (f_X4_reckon_5 n) v2 v3 v4 x19 s)
    else
    f_X4_reckon_55 (f_X4_reckon_5 n) v2 v3 v4 x19 s
set_option maxRecDepth 20000 in
theorem b_X4_reckon_5 {X : zX} (hX : zx_ok X cX4_reckon RX4 12) (hT : zx_rt X (some .int) (zR 0 0)) : ∀ (n : Nat) (v2 : Int32) (v3 : Int32) (v4 : Int32) (s : zS), zV X (zq X zrI) 12 5 [(0, .ref (zx_ad X 42)), (2, .int v2), (3, .int v3), (4, .int v4)] [] s (f_X4_reckon_5 n v2 v3 v4 s) := by
  intro n
  induction n with
  | zero => intro v2 v3 v4 s; exact zv_none
  | succ n ih =>
    intro v2 v3 v4 s
    rw [f_X4_reckon_5]
    refine zv_iload hX dX4_reckon_5 3 rfl ?_
    refine zv_iload_n hX dX4_reckon_7 1 rfl ?_
    refine zv_icmp_ge (tgt := 366) hX dX4_reckon_8 rfl ?_ ?_
    · exact zv_sub [0] rfl (b_X4_reckon_366 hX hT  s)
    · refine zv_iload hX dX4_reckon_11 3 rfl ?_
      refine zv_sipush (v := (nI 900)) hX dX4_reckon_13 zi_s_900 ?_
      refine zv_icmp_ge (tgt := 366) hX dX4_reckon_16 rfl ?_ ?_
      · exact zv_sub [0] rfl (b_X4_reckon_366 hX hT  s)
      · refine zv_aload_n hX dX4_reckon_19 0 rfl ?_
        refine zv_geta hX wf_X4_64 wc_4 zd_42 zj_42_0 c9_4 zr_42_0 (by decide) dX4_reckon_20 ?_
        refine zv_geta hX wf_X4_165 wc_5 zd_3 zj_3_7 c9_5 zr_3_7 (by decide) dX4_reckon_23 ?_
        refine zv_iload hX dX4_reckon_26 3 rfl ?_
        refine zv_iald hX dX4_reckon_28 (fun x19 => ?_)
        refine zv_istore (lv' := [(5, .int x19), (0, .ref (zx_ad X 42)), (2, .int v2), (3, .int v3), (4, .int v4)]) hX dX4_reckon_29 (by decide) rfl ?_
        refine zv_iload hX dX4_reckon_31 0 rfl ?_
        refine zv_sipush (v := (nI 1000)) hX dX4_reckon_33 zi_s_1000 ?_
        refine zv_icmp_lt (tgt := 55) hX dX4_reckon_36 rfl ?_ ?_
        · exact zv_sub [1, 2, 3, 4, 0] rfl (b_X4_reckon_55 hX hT ih v2 v3 v4 x19 s)
        · refine zv_iload hX dX4_reckon_39 0 rfl ?_
          refine zv_sipush (v := (nI 1210)) hX dX4_reckon_41 zi_s_1210 ?_
          refine zv_icmp_lt (tgt := 97) hX dX4_reckon_44 rfl ?_ ?_
          · exact zv_sub [1, 2, 3, 4, 0] rfl (b_X4_reckon_97 hX hT ih v2 v3 v4 x19 s)
          · refine zv_iload hX dX4_reckon_47 0 rfl ?_
            refine zv_sipush (v := (nI 1216)) hX dX4_reckon_49 zi_s_1216 ?_
            refine zv_icmp_gt (tgt := 97) hX dX4_reckon_52 rfl ?_ ?_
            · exact zv_sub [1, 2, 3, 4, 0] rfl (b_X4_reckon_97 hX hT ih v2 v3 v4 x19 s)
            · exact zv_sub [1, 2, 3, 4, 0] rfl (b_X4_reckon_55 hX hT ih v2 v3 v4 x19 s)
def f_X4_reckon (v1 : Int32) (v2 : Int32) (s : zS) : Option (Int32 × zS) :=
  f_X4_reckon_5 zFU v2 (0 : Int32) v1 s
set_option maxRecDepth 20000 in
theorem c_X4_reckon (Y : zG) (v1 : Int32) (v2 : Int32) (s : zS) : zM Y yX4_reckon cX4_reckon 12 (some .int) (zR 0 0) [.ref (zy_a Y 42), .int v1, .int v2] s zrI (f_X4_reckon v1 v2 s) := by
  refine zm_start (by decide +kernel) (Nat.le_of_ble_eq_true rfl) ?_
  intro X hY hT hX
  subst hY
  have hX : zx_ok X cX4_reckon RX4 12 := hX
  show zV X (zq X zrI) 12 0 [(0, .ref (zx_ad X 42)), (1, .int v1), (2, .int v2)] [] s _
  unfold f_X4_reckon
  refine zv_iconst (v := (0 : Int32)) hX dX4_reckon_0 zi_i_0 ?_
  refine zv_istore_n (lv' := [(3, .int (0 : Int32)), (0, .ref (zx_ad X 42)), (1, .int v1), (2, .int v2)]) hX dX4_reckon_1 (by decide) rfl ?_
  refine zv_iload_n hX dX4_reckon_2 2 rfl ?_
  refine zv_istore (lv' := [(4, .int v1), (3, .int (0 : Int32)), (0, .ref (zx_ad X 42)), (1, .int v1), (2, .int v2)]) hX dX4_reckon_3 (by decide) rfl ?_
  exact zv_sub [2, 4, 1, 0] rfl (b_X4_reckon_5 hX hT zFU v2 (0 : Int32) v1 s)
