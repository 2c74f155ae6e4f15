theorem dX8_restore_0 : decode cX8_restore 0 = .ok (.aload_n 0, 1) := by decide +kernel
theorem dX8_restore_1 : decode cX8_restore 1 = .ok (.iconst 0, 1) := by decide +kernel
theorem dX8_restore_2 : decode cX8_restore 2 = .ok (.putfield 1, 3) := by decide +kernel
theorem dX8_restore_5 : decode cX8_restore 5 = .ok (.iload_n 1, 1) := by decide +kernel
theorem dX8_restore_6 : decode cX8_restore 6 = .ok (.i2l, 1) := by decide +kernel
theorem dX8_restore_7 : decode cX8_restore 7 = .ok (.lconst 0, 1) := by decide +kernel
theorem dX8_restore_8 : decode cX8_restore 8 = .ok (.lconst 1, 1) := by decide +kernel
theorem dX8_restore_9 : decode cX8_restore 9 = .ok (.invokestatic 154, 3) := by decide +kernel
theorem dX8_restore_12 : decode cX8_restore 12 = .ok (.ifCond .ne 6, 3) := by decide +kernel
theorem dX8_restore_15 : decode cX8_restore 15 = .ok (.bipush (-2), 2) := by decide +kernel
theorem dX8_restore_17 : decode cX8_restore 17 = .ok (.ireturn, 1) := by decide +kernel
theorem dX8_restore_18 : decode cX8_restore 18 = .ok (.aload_n 0, 1) := by decide +kernel
theorem dX8_restore_19 : decode cX8_restore 19 = .ok (.getfield 17, 3) := by decide +kernel
theorem dX8_restore_22 : decode cX8_restore 22 = .ok (.iload_n 1, 1) := by decide +kernel
theorem dX8_restore_23 : decode cX8_restore 23 = .ok (.baload, 1) := by decide +kernel
theorem dX8_restore_24 : decode cX8_restore 24 = .ok (.ifCond .ne 6, 3) := by decide +kernel
theorem dX8_restore_27 : decode cX8_restore 27 = .ok (.bipush (-5), 2) := by decide +kernel
theorem dX8_restore_29 : decode cX8_restore 29 = .ok (.ireturn, 1) := by decide +kernel
theorem dX8_restore_30 : decode cX8_restore 30 = .ok (.iconst 0, 1) := by decide +kernel
theorem dX8_restore_31 : decode cX8_restore 31 = .ok (.istore_n 2, 1) := by decide +kernel
theorem dX8_restore_32 : decode cX8_restore 32 = .ok (.iload_n 2, 1) := by decide +kernel
theorem dX8_restore_33 : decode cX8_restore 33 = .ok (.sipush 1155, 3) := by decide +kernel
theorem dX8_restore_36 : decode cX8_restore 36 = .ok (.if_icmp .ge 29, 3) := by decide +kernel
theorem dX8_restore_39 : decode cX8_restore 39 = .ok (.aload_n 0, 1) := by decide +kernel
theorem dX8_restore_40 : decode cX8_restore 40 = .ok (.getfield 13, 3) := by decide +kernel
theorem dX8_restore_43 : decode cX8_restore 43 = .ok (.iload_n 2, 1) := by decide +kernel
theorem dX8_restore_44 : decode cX8_restore 44 = .ok (.aload_n 0, 1) := by decide +kernel
theorem dX8_restore_45 : decode cX8_restore 45 = .ok (.getfield 13, 3) := by decide +kernel
theorem dX8_restore_48 : decode cX8_restore 48 = .ok (.sipush 1155, 3) := by decide +kernel
theorem dX8_restore_51 : decode cX8_restore 51 = .ok (.iload_n 1, 1) := by decide +kernel
theorem dX8_restore_52 : decode cX8_restore 52 = .ok (.iconst 1, 1) := by decide +kernel
theorem dX8_restore_53 : decode cX8_restore 53 = .ok (.iadd, 1) := by decide +kernel
theorem dX8_restore_54 : decode cX8_restore 54 = .ok (.imul, 1) := by decide +kernel
theorem dX8_restore_55 : decode cX8_restore 55 = .ok (.iload_n 2, 1) := by decide +kernel
theorem dX8_restore_56 : decode cX8_restore 56 = .ok (.iadd, 1) := by decide +kernel
theorem dX8_restore_57 : decode cX8_restore 57 = .ok (.iaload, 1) := by decide +kernel
theorem dX8_restore_58 : decode cX8_restore 58 = .ok (.iastore, 1) := by decide +kernel
theorem dX8_restore_59 : decode cX8_restore 59 = .ok (.iinc 2 1, 3) := by decide +kernel
theorem dX8_restore_62 : decode cX8_restore 62 = .ok (.goto (-30), 3) := by decide +kernel
theorem dX8_restore_65 : decode cX8_restore 65 = .ok (.aload_n 0, 1) := by decide +kernel
theorem dX8_restore_66 : decode cX8_restore 66 = .ok (.getfield 13, 3) := by decide +kernel
theorem dX8_restore_69 : decode cX8_restore 69 = .ok (.bipush 43, 2) := by decide +kernel
theorem dX8_restore_71 : decode cX8_restore 71 = .ok (.iconst 0, 1) := by decide +kernel
theorem dX8_restore_72 : decode cX8_restore 72 = .ok (.iastore, 1) := by decide +kernel
theorem dX8_restore_73 : decode cX8_restore 73 = .ok (.iconst 0, 1) := by decide +kernel
theorem dX8_restore_74 : decode cX8_restore 74 = .ok (.ireturn, 1) := by decide +kernel
def f_X8_restore_32 : Nat → Int32 → Int32 → zS → Option (Int32 × zS)
  | 0, _, _, _ => none
  | n + 1, v1, v2, s =>
    if (nI 1155) ≤ v2 then
    ((zw_i s 77 (nI 43) (0 : Int32)).bind fun s1 =>
    some ((0 : Int32), s1))
    else
    (zr_i s 77 (((nI 1155) * (v1 + (1 : Int32))) + v2)).bind fun x2 =>
    (zw_i s 77 v2 x2).bind fun s3 =>
    zb (v2 + (1 : Int32)) fun x4 =>
    f_X8_restore_32 n v1 x4 s3
set_option maxRecDepth 20000 in
theorem b_X8_restore_32 {X : zX} (hX : zx_ok X cX8_restore RX8 3) (hT : zx_rt X (some .int) (zR 1 25)) : ∀ (n : Nat) (v1 : Int32) (v2 : Int32) (s : zS), zV X (zq X zrI) 3 32 [(0, .ref (zx_ad X 76)), (1, .int v1), (2, .int v2)] [] s (f_X8_restore_32 n v1 v2 s) := by
  intro n
  induction n with
  | zero => intro v1 v2 s; exact zv_none
  | succ n ih =>
    intro v1 v2 s
    rw [f_X8_restore_32]
    refine zv_iload_n hX dX8_restore_32 2 rfl ?_
    refine zv_sipush (v := (nI 1155)) hX dX8_restore_33 zi_s_1155 ?_
    refine zv_icmp_ge (tgt := 65) hX dX8_restore_36 rfl ?_ ?_
    · refine zv_aload_n hX dX8_restore_65 0 rfl ?_
      refine zv_geta hX wf_X8_13 wc_8 zd_76 zj_76_1 c9_8 zr_76_1 (by decide) dX8_restore_66 ?_
      refine zv_bipush (v := (nI 43)) hX dX8_restore_69 zi_b_43 ?_
      refine zv_iconst (v := (0 : Int32)) hX dX8_restore_71 zi_i_0 ?_
      refine zv_iast hX dX8_restore_72 (fun s1 => ?_)
      refine zv_iconst (v := (0 : Int32)) hX dX8_restore_73 zi_i_0 ?_
      exact zv_ireti hX hT dX8_restore_74
    · refine zv_aload_n hX dX8_restore_39 0 rfl ?_
      refine zv_geta hX wf_X8_13 wc_8 zd_76 zj_76_1 c9_8 zr_76_1 (by decide) dX8_restore_40 ?_
      refine zv_iload_n hX dX8_restore_43 2 rfl ?_
      refine zv_aload_n hX dX8_restore_44 0 rfl ?_
      refine zv_geta hX wf_X8_13 wc_8 zd_76 zj_76_1 c9_8 zr_76_1 (by decide) dX8_restore_45 ?_
      refine zv_sipush (v := (nI 1155)) hX dX8_restore_48 zi_s_1155 ?_
      refine zv_iload_n hX dX8_restore_51 1 rfl ?_
      refine zv_iconst (v := (1 : Int32)) hX dX8_restore_52 zi_i_1 ?_
      refine zv_iadd hX dX8_restore_53 ?_
      refine zv_imul hX dX8_restore_54 ?_
      refine zv_iload_n hX dX8_restore_55 2 rfl ?_
      refine zv_iadd hX dX8_restore_56 ?_
      refine zv_iald hX dX8_restore_57 (fun x2 => ?_)
      refine zv_iast hX dX8_restore_58 (fun s3 => ?_)
      refine zv_iincB (lw := fun x4 => [(2, .int x4), (0, .ref (zx_ad X 76)), (1, .int v1)]) hX dX8_restore_59 2 rfl zi_i_1 (by decide) (fun _ => rfl) (fun x4 => ?_)
      refine zv_goto (tgt := 32) hX dX8_restore_62 rfl ?_
      exact zv_sub [1, 2, 0] rfl (ih v1 x4 s3)
def f_X8_restore (v1 : Int32) (s : zS) : Option (Int32 × zS) :=
  zb (zs_i s 76 0 (0 : Int32)) fun s5 =>
  zbd (f_X8_within (v1.toInt64) (0 : Int64) (1 : Int64) s5) fun r6 s7 =>
  if ¬ r6 = 0 then
  ((zr_b s7 78 v1).bind fun x8 =>
  if ¬ x8 = 0 then
  (f_X8_restore_32 zFU v1 (0 : Int32) s7)
  else
  some ((-5 : Int32), s7))
  else
  some ((-2 : Int32), s7)
set_option maxRecDepth 20000 in
theorem c_X8_restore (Y : zG) (v1 : Int32) (s : zS) : zM Y yX8_restore cX8_restore 3 (some .int) (zR 1 25) [.ref (zy_a Y 76), .int v1] s zrI (f_X8_restore v1 s) := by
  refine zm_start (by decide +kernel) (Nat.le_of_ble_eq_true rfl) ?_
  intro X hY hT hX
  subst hY
  have hX : zx_ok X cX8_restore RX8 3 := hX
  show zV X (zq X zrI) 3 0 [(0, .ref (zx_ad X 76)), (1, .int v1)] [] s _
  unfold f_X8_restore
  refine zv_aload_n hX dX8_restore_0 0 rfl ?_
  refine zv_iconst (v := (0 : Int32)) hX dX8_restore_1 zi_i_0 ?_
  refine zv_puti hX wf_X8_1 wc_8 wk_8_0 zd_76 zj_76_0 c9_8 zr_76_0 dX8_restore_2 (fun s5 => ?_)
  refine zv_iload_n hX dX8_restore_5 1 rfl ?_
  refine zv_i2l hX dX8_restore_6 ?_
  refine zv_lconst (v := (0 : Int64)) hX dX8_restore_7 zi_l_0 ?_
  refine zv_lconst (v := (1 : Int64)) hX dX8_restore_8 zi_l_1 ?_
  refine zv_cSI [.long (v1.toInt64), .long (0 : Int64), .long (1 : Int64)] (rest := []) hX hT.2.2.2.2 (c_X8_within (zx_Y X) (v1.toInt64) (0 : Int64) (1 : Int64) s5) wv_X8_within wm_X8_154 rfl (Nat.le_of_ble_eq_true rfl) (Nat.le_of_ble_eq_true rfl) rfl (Nat.le_of_ble_eq_true rfl) dX8_restore_9 (fun r6 s7 => ?_)
  refine zv_if_ne (tgt := 18) hX dX8_restore_12 rfl ?_ ?_
  · refine zv_aload_n hX dX8_restore_18 0 rfl ?_
    refine zv_geta hX wf_X8_17 wc_8 zd_76 zj_76_2 c9_8 zr_76_2 (by decide) dX8_restore_19 ?_
    refine zv_iload_n hX dX8_restore_22 1 rfl ?_
    refine zv_bald hX dX8_restore_23 (fun x8 => ?_)
    refine zv_if_ne (tgt := 30) hX dX8_restore_24 rfl ?_ ?_
    · refine zv_iconst (v := (0 : Int32)) hX dX8_restore_30 zi_i_0 ?_
      refine zv_istore_n (lv' := [(2, .int (0 : Int32)), (0, .ref (zx_ad X 76)), (1, .int v1)]) hX dX8_restore_31 (by decide) rfl ?_
      exact zv_sub [1, 2, 0] rfl (b_X8_restore_32 hX hT zFU v1 (0 : Int32) s7)
    · refine zv_bipush (v := (-5 : Int32)) hX dX8_restore_27 zi_b_m5 ?_
      exact zv_ireti hX hT dX8_restore_29
  · refine zv_bipush (v := (-2 : Int32)) hX dX8_restore_15 zi_b_m2 ?_
    exact zv_ireti hX hT dX8_restore_17
theorem dX8_society_0 : decode cX8_society 0 = .ok (.aload_n 0, 1) := by decide +kernel
theorem dX8_society_1 : decode cX8_society 1 = .ok (.iconst 0, 1) := by decide +kernel
theorem dX8_society_2 : decode cX8_society 2 = .ok (.putfield 1, 3) := by decide +kernel
theorem dX8_society_5 : decode cX8_society 5 = .ok (.iload_n 1, 1) := by decide +kernel
theorem dX8_society_6 : decode cX8_society 6 = .ok (.i2l, 1) := by decide +kernel
theorem dX8_society_7 : decode cX8_society 7 = .ok (.lconst 0, 1) := by decide +kernel
theorem dX8_society_8 : decode cX8_society 8 = .ok (.aload_n 0, 1) := by decide +kernel
theorem dX8_society_9 : decode cX8_society 9 = .ok (.getfield 92, 3) := by decide +kernel
theorem dX8_society_12 : decode cX8_society 12 = .ok (.i2l, 1) := by decide +kernel
theorem dX8_society_13 : decode cX8_society 13 = .ok (.invokestatic 154, 3) := by decide +kernel
theorem dX8_society_16 : decode cX8_society 16 = .ok (.ifCond .ne 6, 3) := by decide +kernel
theorem dX8_society_19 : decode cX8_society 19 = .ok (.bipush (-3), 2) := by decide +kernel
theorem dX8_society_21 : decode cX8_society 21 = .ok (.ireturn, 1) := by decide +kernel
theorem dX8_society_22 : decode cX8_society 22 = .ok (.aload_n 0, 1) := by decide +kernel
theorem dX8_society_23 : decode cX8_society 23 = .ok (.iload_n 1, 1) := by decide +kernel
theorem dX8_society_24 : decode cX8_society 24 = .ok (.putfield 95, 3) := by decide +kernel
theorem dX8_society_27 : decode cX8_society 27 = .ok (.aload_n 0, 1) := by decide +kernel
theorem dX8_society_28 : decode cX8_society 28 = .ok (.iconst 0, 1) := by decide +kernel
theorem dX8_society_29 : decode cX8_society 29 = .ok (.putfield 92, 3) := by decide +kernel
theorem dX8_society_32 : decode cX8_society 32 = .ok (.aload_n 0, 1) := by decide +kernel
theorem dX8_society_33 : decode cX8_society 33 = .ok (.iconst 0, 1) := by decide +kernel
theorem dX8_society_34 : decode cX8_society 34 = .ok (.putfield 113, 3) := by decide +kernel
theorem dX8_society_37 : decode cX8_society 37 = .ok (.aload_n 0, 1) := by decide +kernel
theorem dX8_society_38 : decode cX8_society 38 = .ok (.iconst 0, 1) := by decide +kernel
theorem dX8_society_39 : decode cX8_society 39 = .ok (.putfield 138, 3) := by decide +kernel
theorem dX8_society_42 : decode cX8_society 42 = .ok (.aload_n 0, 1) := by decide +kernel
theorem dX8_society_43 : decode cX8_society 43 = .ok (.getfield 24, 3) := by decide +kernel
theorem dX8_society_46 : decode cX8_society 46 = .ok (.invokestatic 88, 3) := by decide +kernel
theorem dX8_society_49 : decode cX8_society 49 = .ok (.aload_n 0, 1) := by decide +kernel
theorem dX8_society_50 : decode cX8_society 50 = .ok (.invokevirtual 147, 3) := by decide +kernel
theorem dX8_society_53 : decode cX8_society 53 = .ok (.aload_n 0, 1) := by decide +kernel
theorem dX8_society_54 : decode cX8_society 54 = .ok (.iconst 0, 1) := by decide +kernel
theorem dX8_society_55 : decode cX8_society 55 = .ok (.invokevirtual 173, 3) := by decide +kernel
theorem dX8_society_58 : decode cX8_society 58 = .ok (.ifCond .ne 8, 3) := by decide +kernel
theorem dX8_society_61 : decode cX8_society 61 = .ok (.aload_n 0, 1) := by decide +kernel
theorem dX8_society_62 : decode cX8_society 62 = .ok (.iconst 2, 1) := by decide +kernel
theorem dX8_society_63 : decode cX8_society 63 = .ok (.invokevirtual 150, 3) := by decide +kernel
theorem dX8_society_66 : decode cX8_society 66 = .ok (.aload_n 0, 1) := by decide +kernel
theorem dX8_society_67 : decode cX8_society 67 = .ok (.invokevirtual 210, 3) := by decide +kernel
theorem dX8_society_70 : decode cX8_society 70 = .ok (.aload_n 0, 1) := by decide +kernel
theorem dX8_society_71 : decode cX8_society 71 = .ok (.getfield 138, 3) := by decide +kernel
theorem dX8_society_74 : decode cX8_society 74 = .ok (.ifCond .ne 23, 3) := by decide +kernel
theorem dX8_society_77 : decode cX8_society 77 = .ok (.aload_n 0, 1) := by decide +kernel
theorem dX8_society_78 : decode cX8_society 78 = .ok (.getfield 120, 3) := by decide +kernel
theorem dX8_society_81 : decode cX8_society 81 = .ok (.bipush 24, 2) := by decide +kernel
theorem dX8_society_83 : decode cX8_society 83 = .ok (.if_icmp .eq 14, 3) := by decide +kernel
theorem dX8_society_86 : decode cX8_society 86 = .ok (.aload_n 0, 1) := by decide +kernel
theorem dX8_society_87 : decode cX8_society 87 = .ok (.invokevirtual 213, 3) := by decide +kernel
theorem dX8_society_90 : decode cX8_society 90 = .ok (.aload_n 0, 1) := by decide +kernel
theorem dX8_society_91 : decode cX8_society 91 = .ok (.invokevirtual 210, 3) := by decide +kernel
theorem dX8_society_94 : decode cX8_society 94 = .ok (.goto (-24), 3) := by decide +kernel
theorem dX8_society_97 : decode cX8_society 97 = .ok (.aload_n 0, 1) := by decide +kernel
theorem dX8_society_98 : decode cX8_society 98 = .ok (.aload_n 0, 1) := by decide +kernel
theorem dX8_society_99 : decode cX8_society 99 = .ok (.getfield 138, 3) := by decide +kernel
theorem dX8_society_102 : decode cX8_society 102 = .ok (.putfield 216, 3) := by decide +kernel
theorem dX8_society_105 : decode cX8_society 105 = .ok (.aload_n 0, 1) := by decide +kernel
theorem dX8_society_106 : decode cX8_society 106 = .ok (.aload_n 0, 1) := by decide +kernel
theorem dX8_society_107 : decode cX8_society 107 = .ok (.getfield 138, 3) := by decide +kernel
theorem dX8_society_110 : decode cX8_society 110 = .ok (.ifCond .ne 7, 3) := by decide +kernel
theorem dX8_society_113 : decode cX8_society 113 = .ok (.iconst (-1), 1) := by decide +kernel
theorem dX8_society_114 : decode cX8_society 114 = .ok (.goto 7, 3) := by decide +kernel
theorem dX8_society_117 : decode cX8_society 117 = .ok (.aload_n 0, 1) := by decide +kernel
theorem dX8_society_118 : decode cX8_society 118 = .ok (.getfield 141, 3) := by decide +kernel
theorem dX8_society_121 : decode cX8_society 121 = .ok (.putfield 27, 3) := by decide +kernel
theorem dX8_society_124 : decode cX8_society 124 = .ok (.aload_n 0, 1) := by decide +kernel
theorem dX8_society_125 : decode cX8_society 125 = .ok (.getfield 138, 3) := by decide +kernel
theorem dX8_society_128 : decode cX8_society 128 = .ok (.ifCond .eq 11, 3) := by decide +kernel
theorem dX8_society_131 : decode cX8_society 131 = .ok (.bipush (-30), 2) := by decide +kernel
theorem dX8_society_133 : decode cX8_society 133 = .ok (.aload_n 0, 1) := by decide +kernel
theorem dX8_society_134 : decode cX8_society 134 = .ok (.getfield 138, 3) := by decide +kernel
theorem dX8_society_137 : decode cX8_society 137 = .ok (.isub, 1) := by decide +kernel
theorem dX8_society_138 : decode cX8_society 138 = .ok (.ireturn, 1) := by decide +kernel
theorem dX8_society_139 : decode cX8_society 139 = .ok (.iconst 0, 1) := by decide +kernel
theorem dX8_society_140 : decode cX8_society 140 = .ok (.istore_n 2, 1) := by decide +kernel
theorem dX8_society_141 : decode cX8_society 141 = .ok (.iload_n 2, 1) := by decide +kernel
theorem dX8_society_142 : decode cX8_society 142 = .ok (.sipush 1155, 3) := by decide +kernel
theorem dX8_society_145 : decode cX8_society 145 = .ok (.if_icmp .ge 21, 3) := by decide +kernel
theorem dX8_society_148 : decode cX8_society 148 = .ok (.aload_n 0, 1) := by decide +kernel
theorem dX8_society_149 : decode cX8_society 149 = .ok (.getfield 13, 3) := by decide +kernel
theorem dX8_society_152 : decode cX8_society 152 = .ok (.iload_n 2, 1) := by decide +kernel
theorem dX8_society_153 : decode cX8_society 153 = .ok (.aload_n 0, 1) := by decide +kernel
theorem dX8_society_154 : decode cX8_society 154 = .ok (.getfield 24, 3) := by decide +kernel
theorem dX8_society_157 : decode cX8_society 157 = .ok (.iload_n 2, 1) := by decide +kernel
theorem dX8_society_158 : decode cX8_society 158 = .ok (.iaload, 1) := by decide +kernel
theorem dX8_society_159 : decode cX8_society 159 = .ok (.iastore, 1) := by decide +kernel
theorem dX8_society_160 : decode cX8_society 160 = .ok (.iinc 2 1, 3) := by decide +kernel
theorem dX8_society_163 : decode cX8_society 163 = .ok (.goto (-22), 3) := by decide +kernel
theorem dX8_society_166 : decode cX8_society 166 = .ok (.aload_n 0, 1) := by decide +kernel
theorem dX8_society_167 : decode cX8_society 167 = .ok (.getfield 13, 3) := by decide +kernel
theorem dX8_society_170 : decode cX8_society 170 = .ok (.iconst 0, 1) := by decide +kernel
theorem dX8_society_171 : decode cX8_society 171 = .ok (.iaload, 1) := by decide +kernel
theorem dX8_society_172 : decode cX8_society 172 = .ok (.ireturn, 1) := by decide +kernel
def f_X8_society_141 : Nat → Int32 → zS → Option (Int32 × zS)
  | 0, _, _ => none
  | n + 1, v2, s =>
    if (nI 1155) ≤ v2 then
    ((zr_i s 77 (0 : Int32)).bind fun x1 =>
    some (x1, s))
    else
    (zr_i s 80 v2).bind fun x2 =>
    (zw_i s 77 v2 x2).bind fun s3 =>
    zb (v2 + (1 : Int32)) fun x4 =>
    f_X8_society_141 n x4 s3
set_option maxRecDepth 20000 in
theorem b_X8_society_141 {X : zX} (hX : zx_ok X cX8_society RX8 3) (hT : zx_rt X (some .int) (zR 139 3051)) : ∀ (n : Nat) (v2 : Int32) (s : zS), zV X (zq X zrI) 3 141 [(0, .ref (zx_ad X 76)), (2, .int v2)] [] s (f_X8_society_141 n v2 s) := by
  intro n
  induction n with
  | zero => intro v2 s; exact zv_none
  | succ n ih =>
    intro v2 s
    rw [f_X8_society_141]
    refine zv_iload_n hX dX8_society_141 1 rfl ?_
    refine zv_sipush (v := (nI 1155)) hX dX8_society_142 zi_s_1155 ?_
    refine zv_icmp_ge (tgt := 166) hX dX8_society_145 rfl ?_ ?_
    · refine zv_aload_n hX dX8_society_166 0 rfl ?_
      refine zv_geta hX wf_X8_13 wc_8 zd_76 zj_76_1 c9_8 zr_76_1 (by decide) dX8_society_167 ?_
      refine zv_iconst (v := (0 : Int32)) hX dX8_society_170 zi_i_0 ?_
      refine zv_iald hX dX8_society_171 (fun x1 => ?_)
      exact zv_ireti hX hT dX8_society_172
    · refine zv_aload_n hX dX8_society_148 0 rfl ?_
      refine zv_geta hX wf_X8_13 wc_8 zd_76 zj_76_1 c9_8 zr_76_1 (by decide) dX8_society_149 ?_
      refine zv_iload_n hX dX8_society_152 1 rfl ?_
      refine zv_aload_n hX dX8_society_153 0 rfl ?_
      refine zv_geta hX wf_X8_24 wc_8 zd_76 zj_76_4 c9_8 zr_76_4 (by decide) dX8_society_154 ?_
      refine zv_iload_n hX dX8_society_157 1 rfl ?_
      refine zv_iald hX dX8_society_158 (fun x2 => ?_)
      refine zv_iast hX dX8_society_159 (fun s3 => ?_)
      refine zv_iincB (lw := fun x4 => [(2, .int x4), (0, .ref (zx_ad X 76))]) hX dX8_society_160 1 rfl zi_i_1 (by decide) (fun _ => rfl) (fun x4 => ?_)
      refine zv_goto (tgt := 141) hX dX8_society_163 rfl ?_
      exact zv_sub [1, 0] rfl (ih x4 s3)
def f_X8_society_121 (w0 : Int32) (s : zS) : Option (Int32 × zS) :=
  zb (zs_i s 76 14 w0) fun s5 =>
  if (s5.1 76 11) = 0 then
  (f_X8_society_141 zFU (0 : Int32) s5)
  else
  some ((-30 : Int32) - (s5.1 76 11), s5)
set_option maxRecDepth 20000 in
theorem b_X8_society_121 {X : zX} (hX : zx_ok X cX8_society RX8 3) (hT : zx_rt X (some .int) (zR 139 3051)) : ∀ (w0 : Int32) (s : zS), zV X (zq X zrI) 3 121 [(0, .ref (zx_ad X 76))] [.int w0, .ref (zx_ad X 76)] s (f_X8_society_121 w0 s) := by
  intro w0 s
  unfold f_X8_society_121
  refine zv_puti hX wf_X8_27 wc_8 wk_8_14 zd_76 zj_76_14 c9_8 zr_76_14 dX8_society_121 (fun s5 => ?_)
  refine zv_aload_n hX dX8_society_124 0 rfl ?_
  refine zv_geti hX wf_X8_138 wc_8 zd_76 zj_76_11 c9_8 zr_76_11 dX8_society_125 ?_
  refine zv_if_eq (tgt := 139) hX dX8_society_128 rfl ?_ ?_
  · refine zv_iconst (v := (0 : Int32)) hX dX8_society_139 zi_i_0 ?_
    refine zv_istore_n (lv' := [(2, .int (0 : Int32)), (0, .ref (zx_ad X 76))]) hX dX8_society_140 (by decide) rfl ?_
    exact zv_sub [1, 0] rfl (b_X8_society_141 hX hT zFU (0 : Int32) s5)
  · refine zv_bipush (v := (-30 : Int32)) hX dX8_society_131 zi_b_m30 ?_
    refine zv_aload_n hX dX8_society_133 0 rfl ?_
    refine zv_geti hX wf_X8_138 wc_8 zd_76 zj_76_11 c9_8 zr_76_11 dX8_society_134 ?_
    refine zv_isub hX dX8_society_137 ?_
    exact zv_ireti hX hT dX8_society_138
def f_X8_society_97  (s : zS) : Option (Int32 × zS) :=
  zb (zs_i s 76 13 (s.1 76 11)) fun s6 =>
  if ¬ (s6.1 76 11) = 0 then
  (f_X8_society_121 (s6.1 76 12) s6)
  else
  f_X8_society_121 (-1 : Int32) s6
set_option maxRecDepth 20000 in
theorem b_X8_society_97 {X : zX} (hX : zx_ok X cX8_society RX8 3) (hT : zx_rt X (some .int) (zR 139 3051)) : ∀  (s : zS), zV X (zq X zrI) 3 97 [(0, .ref (zx_ad X 76))] [] s (f_X8_society_97  s) := by
  intro  s
  unfold f_X8_society_97
  refine zv_aload_n hX dX8_society_97 0 rfl ?_
  refine zv_aload_n hX dX8_society_98 0 rfl ?_
  refine zv_geti hX wf_X8_138 wc_8 zd_76 zj_76_11 c9_8 zr_76_11 dX8_society_99 ?_
  refine zv_puti hX wf_X8_216 wc_8 wk_8_13 zd_76 zj_76_13 c9_8 zr_76_13 dX8_society_102 (fun s6 => ?_)
  refine zv_aload_n hX dX8_society_105 0 rfl ?_
  refine zv_aload_n hX dX8_society_106 0 rfl ?_
  refine zv_geti hX wf_X8_138 wc_8 zd_76 zj_76_11 c9_8 zr_76_11 dX8_society_107 ?_
  refine zv_if_ne (tgt := 117) hX dX8_society_110 rfl ?_ ?_
  · refine zv_aload_n hX dX8_society_117 0 rfl ?_
    refine zv_geti hX wf_X8_141 wc_8 zd_76 zj_76_12 c9_8 zr_76_12 dX8_society_118 ?_
    exact b_X8_society_121 hX hT (s6.1 76 12) s6
  · refine zv_iconst (v := (-1 : Int32)) hX dX8_society_113 zi_i_m1 ?_
    refine zv_goto (tgt := 121) hX dX8_society_114 rfl ?_
    exact b_X8_society_121 hX hT (-1 : Int32) s6
def f_X8_society_70 : Nat → zS → Option (Int32 × zS)
  | 0, _ => none
  | n + 1, s =>
    if ¬ (s.1 76 11) = 0 then
    (f_X8_society_97 s)
    else
    if (s.1 76 9) = (nI 24) then
    (f_X8_society_97 s)
    else
    zbd (f_X8_readLine s) fun _ s7 =>
    zbd (f_X8_ends s7) fun _ s8 =>
    f_X8_society_70 n s8
set_option maxRecDepth 20000 in
theorem b_X8_society_70 {X : zX} (hX : zx_ok X cX8_society RX8 3) (hT : zx_rt X (some .int) (zR 139 3051)) : ∀ (n : Nat)  (s : zS), zV X (zq X zrI) 3 70 [(0, .ref (zx_ad X 76))] [] s (f_X8_society_70 n  s) := by
  intro n
  induction n with
  | zero => intro  s; exact zv_none
  | succ n ih =>
    intro  s
    rw [f_X8_society_70]
    refine zv_aload_n hX dX8_society_70 0 rfl ?_
    refine zv_geti hX wf_X8_138 wc_8 zd_76 zj_76_11 c9_8 zr_76_11 dX8_society_71 ?_
    refine zv_if_ne (tgt := 97) hX dX8_society_74 rfl ?_ ?_
    · exact b_X8_society_97 hX hT  s
    · refine zv_aload_n hX dX8_society_77 0 rfl ?_
      refine zv_geti hX wf_X8_120 wc_8 zd_76 zj_76_9 c9_8 zr_76_9 dX8_society_78 ?_
      refine zv_bipush (v := (nI 24)) hX dX8_society_81 zi_b_24 ?_
      refine zv_icmp_eq (tgt := 97) hX dX8_society_83 rfl ?_ ?_
      · exact b_X8_society_97 hX hT  s
      · refine zv_aload_n hX dX8_society_86 0 rfl ?_
        refine zv_cVV [] (rest := []) hX hT.2.2.2.2 (c_X8_readLine (zx_Y X) s) wv_X8_readLine c9_8 zd_76 wm_X8_213 rfl (Nat.le_of_ble_eq_true rfl) (Nat.le_of_ble_eq_true rfl) rfl (Nat.le_of_ble_eq_true rfl) dX8_society_87 (fun _ s7 => ?_)
        refine zv_aload_n hX dX8_society_90 0 rfl ?_
        refine zv_cVV [] (rest := []) hX hT.2.2.2.2 (c_X8_ends (zx_Y X) s7) wv_X8_ends c9_8 zd_76 wm_X8_210 rfl (Nat.le_of_ble_eq_true rfl) (Nat.le_of_ble_eq_true rfl) rfl (Nat.le_of_ble_eq_true rfl) dX8_society_91 (fun _ s8 => ?_)
        refine zv_goto (tgt := 70) hX dX8_society_94 rfl ?_
        exact ih s8
def f_X8_society_66  (s : zS) : Option (Int32 × zS) :=
  zbd (f_X8_ends s) fun _ s9 =>
  f_X8_society_70 zFU s9
set_option maxRecDepth 20000 in
theorem b_X8_society_66 {X : zX} (hX : zx_ok X cX8_society RX8 3) (hT : zx_rt X (some .int) (zR 139 3051)) : ∀  (s : zS), zV X (zq X zrI) 3 66 [(0, .ref (zx_ad X 76))] [] s (f_X8_society_66  s) := by
  intro  s
  unfold f_X8_society_66
  refine zv_aload_n hX dX8_society_66 0 rfl ?_
  refine zv_cVV [] (rest := []) hX hT.2.2.2.2 (c_X8_ends (zx_Y X) s) wv_X8_ends c9_8 zd_76 wm_X8_210 rfl (Nat.le_of_ble_eq_true rfl) (Nat.le_of_ble_eq_true rfl) rfl (Nat.le_of_ble_eq_true rfl) dX8_society_67 (fun _ s9 => ?_)
  exact b_X8_society_70 hX hT zFU  s9
def f_X8_society (v1 : Int32) (s : zS) : Option (Int32 × zS) :=
  zb (zs_i s 76 0 (0 : Int32)) fun s10 =>
  zbd (f_X8_within (v1.toInt64) (0 : Int64) ((s10.1 76 5).toInt64) s10) fun r11 s12 =>
  if ¬ r11 = 0 then
  (zb (zs_i s12 76 8 v1) fun s13 =>
  zb (zs_i s13 76 5 (0 : Int32)) fun s14 =>
  zb (zs_i s14 76 7 (0 : Int32)) fun s15 =>
  zb (zs_i s15 76 11 (0 : Int32)) fun s16 =>
  zbd (f_X8_plain 80 s16) fun _ s17 =>
  zbd (f_X8_next s17) fun _ s18 =>
  zbd (f_X8_eats (0 : Int32) s18) fun r19 s20 =>
  if ¬ r19 = 0 then
  (f_X8_society_66 s20)
  else
  zbd (f_X8_fails (nI 2) s20) fun _ s21 =>
  f_X8_society_66 s21)
  else
  some ((-3 : Int32), s12)
set_option maxRecDepth 20000 in
theorem c_X8_society (Y : zG) (v1 : Int32) (s : zS) : zM Y yX8_society cX8_society 3 (some .int) (zR 139 3051) [.ref (zy_a Y 76), .int v1] s zrI (f_X8_society v1 s) := by
  refine zm_start (by decide +kernel) (Nat.le_of_ble_eq_true rfl) ?_
  intro X hY hT hX
  subst hY
  have hX : zx_ok X cX8_society RX8 3 := hX
  show zV X (zq X zrI) 3 0 [(0, .ref (zx_ad X 76)), (1, .int v1)] [] s _
  unfold f_X8_society
  refine zv_aload_n hX dX8_society_0 0 rfl ?_
  refine zv_iconst (v := (0 : Int32)) hX dX8_society_1 zi_i_0 ?_
  refine zv_puti hX wf_X8_1 wc_8 wk_8_0 zd_76 zj_76_0 c9_8 zr_76_0 dX8_society_2 (fun s10 => ?_)
  refine zv_iload_n hX dX8_society_5 1 rfl ?_
  refine zv_i2l hX dX8_society_6 ?_
  refine zv_lconst (v := (0 : Int64)) hX dX8_society_7 zi_l_0 ?_
  refine zv_aload_n hX dX8_society_8 0 rfl ?_
  refine zv_geti hX wf_X8_92 wc_8 zd_76 zj_76_5 c9_8 zr_76_5 dX8_society_9 ?_
  refine zv_i2l hX dX8_society_12 ?_
  refine zv_cSI [.long (v1.toInt64), .long (0 : Int64), .long ((s10.1 76 5).toInt64)] (rest := []) hX hT.2.2.2.2 (c_X8_within (zx_Y X) (v1.toInt64) (0 : Int64) ((s10.1 76 5).toInt64) s10) wv_X8_within wm_X8_154 rfl (Nat.le_of_ble_eq_true rfl) (Nat.le_of_ble_eq_true rfl) rfl (Nat.le_of_ble_eq_true rfl) dX8_society_13 (fun r11 s12 => ?_)
  refine zv_if_ne (tgt := 22) hX dX8_society_16 rfl ?_ ?_
  · refine zv_aload_n hX dX8_society_22 0 rfl ?_
    refine zv_iload_n hX dX8_society_23 1 rfl ?_
    refine zv_puti hX wf_X8_95 wc_8 wk_8_8 zd_76 zj_76_8 c9_8 zr_76_8 dX8_society_24 (fun s13 => ?_)
    refine zv_aload_n hX dX8_society_27 0 rfl ?_
    refine zv_iconst (v := (0 : Int32)) hX dX8_society_28 zi_i_0 ?_
    refine zv_puti hX wf_X8_92 wc_8 wk_8_5 zd_76 zj_76_5 c9_8 zr_76_5 dX8_society_29 (fun s14 => ?_)
    refine zv_aload_n hX dX8_society_32 0 rfl ?_
    refine zv_iconst (v := (0 : Int32)) hX dX8_society_33 zi_i_0 ?_
    refine zv_puti hX wf_X8_113 wc_8 wk_8_7 zd_76 zj_76_7 c9_8 zr_76_7 dX8_society_34 (fun s15 => ?_)
    refine zv_aload_n hX dX8_society_37 0 rfl ?_
    refine zv_iconst (v := (0 : Int32)) hX dX8_society_38 zi_i_0 ?_
    refine zv_puti hX wf_X8_138 wc_8 wk_8_11 zd_76 zj_76_11 c9_8 zr_76_11 dX8_society_39 (fun s16 => ?_)
    refine zv_aload_n hX dX8_society_42 0 rfl ?_
    refine zv_geta hX wf_X8_24 wc_8 zd_76 zj_76_4 c9_8 zr_76_4 (by decide) dX8_society_43 ?_
    refine zv_cSV [.ref (zx_ad X 80)] (rest := []) hX hT.2.2.2.2 (c_X8_plain (zx_Y X) 80 s16) wv_X8_plain wm_X8_88 rfl (Nat.le_of_ble_eq_true rfl) (Nat.le_of_ble_eq_true rfl) rfl (Nat.le_of_ble_eq_true rfl) dX8_society_46 (fun _ s17 => ?_)
    refine zv_aload_n hX dX8_society_49 0 rfl ?_
    refine zv_cVV [] (rest := []) hX hT.2.2.2.2 (c_X8_next (zx_Y X) s17) wv_X8_next c9_8 zd_76 wm_X8_147 rfl (Nat.le_of_ble_eq_true rfl) (Nat.le_of_ble_eq_true rfl) rfl (Nat.le_of_ble_eq_true rfl) dX8_society_50 (fun _ s18 => ?_)
    refine zv_aload_n hX dX8_society_53 0 rfl ?_
    refine zv_iconst (v := (0 : Int32)) hX dX8_society_54 zi_i_0 ?_
    refine zv_cVI [.int (0 : Int32)] (rest := []) hX hT.2.2.2.2 (c_X8_eats (zx_Y X) (0 : Int32) s18) wv_X8_eats c9_8 zd_76 wm_X8_173 rfl (Nat.le_of_ble_eq_true rfl) (Nat.le_of_ble_eq_true rfl) rfl (Nat.le_of_ble_eq_true rfl) dX8_society_55 (fun r19 s20 => ?_)
    refine zv_if_ne (tgt := 66) hX dX8_society_58 rfl ?_ ?_
    · exact zv_sub [0] rfl (b_X8_society_66 hX hT  s20)
    · refine zv_aload_n hX dX8_society_61 0 rfl ?_
      refine zv_iconst (v := (nI 2)) hX dX8_society_62 zi_i_2 ?_
      refine zv_cVV [.int (nI 2)] (rest := []) hX hT.2.2.2.2 (c_X8_fails (zx_Y X) (nI 2) s20) wv_X8_fails c9_8 zd_76 wm_X8_150 rfl (Nat.le_of_ble_eq_true rfl) (Nat.le_of_ble_eq_true rfl) rfl (Nat.le_of_ble_eq_true rfl) dX8_society_63 (fun _ s21 => ?_)
      exact zv_sub [0] rfl (b_X8_society_66 hX hT  s21)
  · refine zv_bipush (v := (-3 : Int32)) hX dX8_society_19 zi_b_m3 ?_
    exact zv_ireti hX hT dX8_society_21
theorem dX8_stroke_0 : decode cX8_stroke 0 = .ok (.aload_n 0, 1) := by decide +kernel
theorem dX8_stroke_1 : decode cX8_stroke 1 = .ok (.iconst 0, 1) := by decide +kernel
theorem dX8_stroke_2 : decode cX8_stroke 2 = .ok (.putfield 1, 3) := by decide +kernel
theorem dX8_stroke_5 : decode cX8_stroke 5 = .ok (.aload_n 0, 1) := by decide +kernel
theorem dX8_stroke_6 : decode cX8_stroke 6 = .ok (.iload_n 1, 1) := by decide +kernel
theorem dX8_stroke_7 : decode cX8_stroke 7 = .ok (.i2l, 1) := by decide +kernel
theorem dX8_stroke_8 : decode cX8_stroke 8 = .ok (.invokevirtual 219, 3) := by decide +kernel
theorem dX8_stroke_11 : decode cX8_stroke 11 = .ok (.ifCond .eq 11, 3) := by decide +kernel
theorem dX8_stroke_14 : decode cX8_stroke 14 = .ok (.iload_n 2, 1) := by decide +kernel
theorem dX8_stroke_15 : decode cX8_stroke 15 = .ok (.i2l, 1) := by decide +kernel
theorem dX8_stroke_16 : decode cX8_stroke 16 = .ok (.invokestatic 320, 3) := by decide +kernel
theorem dX8_stroke_19 : decode cX8_stroke 19 = .ok (.ifCond .ne 6, 3) := by decide +kernel
theorem dX8_stroke_22 : decode cX8_stroke 22 = .ok (.bipush (-11), 2) := by decide +kernel
theorem dX8_stroke_24 : decode cX8_stroke 24 = .ok (.ireturn, 1) := by decide +kernel
theorem dX8_stroke_25 : decode cX8_stroke 25 = .ok (.aload_n 0, 1) := by decide +kernel
theorem dX8_stroke_26 : decode cX8_stroke 26 = .ok (.invokevirtual 307, 3) := by decide +kernel
theorem dX8_stroke_29 : decode cX8_stroke 29 = .ok (.aload_n 0, 1) := by decide +kernel
theorem dX8_stroke_30 : decode cX8_stroke 30 = .ok (.getfield 13, 3) := by decide +kernel
theorem dX8_stroke_33 : decode cX8_stroke 33 = .ok (.bipush 29, 2) := by decide +kernel
theorem dX8_stroke_35 : decode cX8_stroke 35 = .ok (.iload_n 1, 1) := by decide +kernel
theorem dX8_stroke_36 : decode cX8_stroke 36 = .ok (.iadd, 1) := by decide +kernel
theorem dX8_stroke_37 : decode cX8_stroke 37 = .ok (.dup2, 1) := by decide +kernel
theorem dX8_stroke_38 : decode cX8_stroke 38 = .ok (.iaload, 1) := by decide +kernel
theorem dX8_stroke_39 : decode cX8_stroke 39 = .ok (.iconst 1, 1) := by decide +kernel
theorem dX8_stroke_40 : decode cX8_stroke 40 = .ok (.iload_n 2, 1) := by decide +kernel
theorem dX8_stroke_41 : decode cX8_stroke 41 = .ok (.ishl, 1) := by decide +kernel
theorem dX8_stroke_42 : decode cX8_stroke 42 = .ok (.ixor, 1) := by decide +kernel
theorem dX8_stroke_43 : decode cX8_stroke 43 = .ok (.iastore, 1) := by decide +kernel
theorem dX8_stroke_44 : decode cX8_stroke 44 = .ok (.aload_n 0, 1) := by decide +kernel
theorem dX8_stroke_45 : decode cX8_stroke 45 = .ok (.invokevirtual 313, 3) := by decide +kernel
theorem dX8_stroke_48 : decode cX8_stroke 48 = .ok (.aload_n 0, 1) := by decide +kernel
theorem dX8_stroke_49 : decode cX8_stroke 49 = .ok (.getfield 13, 3) := by decide +kernel
theorem dX8_stroke_52 : decode cX8_stroke 52 = .ok (.bipush 29, 2) := by decide +kernel
theorem dX8_stroke_54 : decode cX8_stroke 54 = .ok (.iload_n 1, 1) := by decide +kernel
theorem dX8_stroke_55 : decode cX8_stroke 55 = .ok (.iadd, 1) := by decide +kernel
theorem dX8_stroke_56 : decode cX8_stroke 56 = .ok (.iaload, 1) := by decide +kernel
theorem dX8_stroke_57 : decode cX8_stroke 57 = .ok (.iload_n 2, 1) := by decide +kernel
theorem dX8_stroke_58 : decode cX8_stroke 58 = .ok (.ishr, 1) := by decide +kernel
theorem dX8_stroke_59 : decode cX8_stroke 59 = .ok (.iconst 1, 1) := by decide +kernel
theorem dX8_stroke_60 : decode cX8_stroke 60 = .ok (.iand, 1) := by decide +kernel
theorem dX8_stroke_61 : decode cX8_stroke 61 = .ok (.ireturn, 1) := by decide +kernel
def f_X8_stroke_22  (s : zS) : Option (Int32 × zS) :=
  some ((-11 : Int32), s)
set_option maxRecDepth 20000 in
theorem b_X8_stroke_22 {X : zX} (hX : zx_ok X cX8_stroke RX8 3) (hT : zx_rt X (some .int) (zR 2 47)) : ∀  (s : zS), zV X (zq X zrI) 3 22 [] [] s (f_X8_stroke_22  s) := by
  intro  s
  unfold f_X8_stroke_22
  refine zv_bipush (v := (-11 : Int32)) hX dX8_stroke_22 zi_b_m11 ?_
  exact zv_ireti hX hT dX8_stroke_24
def f_X8_stroke (v1 : Int32) (v2 : Int32) (s : zS) : Option (Int32 × zS) :=
  zb (zs_i s 76 0 (0 : Int32)) fun s1 =>
  zbd (f_X8_isPerson (v1.toInt64) s1) fun r2 s3 =>
  if r2 = 0 then
  (f_X8_stroke_22 s3)
  else
  zbd (f_X8_isInkCell (v2.toInt64) s3) fun r4 s5 =>
  if ¬ r4 = 0 then
  (zbd (f_X8_keeps s5) fun _ s6 =>
  (zr_i s6 77 ((nI 29) + v1)).bind fun x7 =>
  (zw_i s6 77 ((nI 29) + v1) (x7 ^^^ (zo_shl (1 : Int32) v2))).bind fun s8 =>
  zbd (f_X8_notes s8) fun _ s9 =>
  (zr_i s9 77 ((nI 29) + v1)).bind fun x10 =>
  some ((zo_shr x10 v2) &&& (1 : Int32), s9))
  else
  f_X8_stroke_22 s5
set_option maxRecDepth 20000 in
theorem c_X8_stroke (Y : zG) (v1 : Int32) (v2 : Int32) (s : zS) : zM Y yX8_stroke cX8_stroke 3 (some .int) (zR 2 47) [.ref (zy_a Y 76), .int v1, .int v2] s zrI (f_X8_stroke v1 v2 s) := by
  refine zm_start (by decide +kernel) (Nat.le_of_ble_eq_true rfl) ?_
  intro X hY hT hX
  subst hY
  have hX : zx_ok X cX8_stroke RX8 3 := hX
  show zV X (zq X zrI) 3 0 [(0, .ref (zx_ad X 76)), (1, .int v1), (2, .int v2)] [] s _
  unfold f_X8_stroke
  refine zv_aload_n hX dX8_stroke_0 0 rfl ?_
  refine zv_iconst (v := (0 : Int32)) hX dX8_stroke_1 zi_i_0 ?_
  refine zv_puti hX wf_X8_1 wc_8 wk_8_0 zd_76 zj_76_0 c9_8 zr_76_0 dX8_stroke_2 (fun s1 => ?_)
  refine zv_aload_n hX dX8_stroke_5 0 rfl ?_
  refine zv_iload_n hX dX8_stroke_6 1 rfl ?_
  refine zv_i2l hX dX8_stroke_7 ?_
  refine zv_cVI [.long (v1.toInt64)] (rest := []) hX hT.2.2.2.2 (c_X8_isPerson (zx_Y X) (v1.toInt64) s1) wv_X8_isPerson c9_8 zd_76 wm_X8_219 rfl (Nat.le_of_ble_eq_true rfl) (Nat.le_of_ble_eq_true rfl) rfl (Nat.le_of_ble_eq_true rfl) dX8_stroke_8 (fun r2 s3 => ?_)
  refine zv_if_eq (tgt := 22) hX dX8_stroke_11 rfl ?_ ?_
  · exact zv_sub [] rfl (b_X8_stroke_22 hX hT  s3)
  · refine zv_iload_n hX dX8_stroke_14 2 rfl ?_
    refine zv_i2l hX dX8_stroke_15 ?_
    refine zv_cSI [.long (v2.toInt64)] (rest := []) hX hT.2.2.2.2 (c_X8_isInkCell (zx_Y X) (v2.toInt64) s3) wv_X8_isInkCell wm_X8_320 rfl (Nat.le_of_ble_eq_true rfl) (Nat.le_of_ble_eq_true rfl) rfl (Nat.le_of_ble_eq_true rfl) dX8_stroke_16 (fun r4 s5 => ?_)
    refine zv_if_ne (tgt := 25) hX dX8_stroke_19 rfl ?_ ?_
    · refine zv_aload_n hX dX8_stroke_25 0 rfl ?_
      refine zv_cVV [] (rest := []) hX hT.2.2.2.2 (c_X8_keeps (zx_Y X) s5) wv_X8_keeps c9_8 zd_76 wm_X8_307 rfl (Nat.le_of_ble_eq_true rfl) (Nat.le_of_ble_eq_true rfl) rfl (Nat.le_of_ble_eq_true rfl) dX8_stroke_26 (fun _ s6 => ?_)
      refine zv_aload_n hX dX8_stroke_29 0 rfl ?_
      refine zv_geta hX wf_X8_13 wc_8 zd_76 zj_76_1 c9_8 zr_76_1 (by decide) dX8_stroke_30 ?_
      refine zv_bipush (v := (nI 29)) hX dX8_stroke_33 zi_b_29 ?_
      refine zv_iload_n hX dX8_stroke_35 1 rfl ?_
      refine zv_iadd hX dX8_stroke_36 ?_
      refine zv_dup2 hX dX8_stroke_37 rfl rfl ?_
      refine zv_iald hX dX8_stroke_38 (fun x7 => ?_)
      refine zv_iconst (v := (1 : Int32)) hX dX8_stroke_39 zi_i_1 ?_
      refine zv_iload_n hX dX8_stroke_40 2 rfl ?_
      refine zv_ishl hX dX8_stroke_41 ?_
      refine zv_ixor hX dX8_stroke_42 ?_
      refine zv_iast hX dX8_stroke_43 (fun s8 => ?_)
      refine zv_aload_n hX dX8_stroke_44 0 rfl ?_
      refine zv_cVV [] (rest := []) hX hT.2.2.2.2 (c_X8_notes (zx_Y X) s8) wv_X8_notes c9_8 zd_76 wm_X8_313 rfl (Nat.le_of_ble_eq_true rfl) (Nat.le_of_ble_eq_true rfl) rfl (Nat.le_of_ble_eq_true rfl) dX8_stroke_45 (fun _ s9 => ?_)
      refine zv_aload_n hX dX8_stroke_48 0 rfl ?_
      refine zv_geta hX wf_X8_13 wc_8 zd_76 zj_76_1 c9_8 zr_76_1 (by decide) dX8_stroke_49 ?_
      refine zv_bipush (v := (nI 29)) hX dX8_stroke_52 zi_b_29 ?_
      refine zv_iload_n hX dX8_stroke_54 1 rfl ?_
      refine zv_iadd hX dX8_stroke_55 ?_
      refine zv_iald hX dX8_stroke_56 (fun x10 => ?_)
      refine zv_iload_n hX dX8_stroke_57 2 rfl ?_
      refine zv_ishr hX dX8_stroke_58 ?_
      refine zv_iconst (v := (1 : Int32)) hX dX8_stroke_59 zi_i_1 ?_
      refine zv_iand hX dX8_stroke_60 ?_
      exact zv_ireti hX hT dX8_stroke_61
    · exact zv_sub [] rfl (b_X8_stroke_22 hX hT  s5)
theorem dX8_sure_0 : decode cX8_sure 0 = .ok (.aload_n 0, 1) := by decide +kernel
theorem dX8_sure_1 : decode cX8_sure 1 = .ok (.iconst 0, 1) := by decide +kernel
theorem dX8_sure_2 : decode cX8_sure 2 = .ok (.putfield 1, 3) := by decide +kernel
theorem dX8_sure_5 : decode cX8_sure 5 = .ok (.aload_n 0, 1) := by decide +kernel
theorem dX8_sure_6 : decode cX8_sure 6 = .ok (.invokevirtual 403, 3) := by decide +kernel
theorem dX8_sure_9 : decode cX8_sure 9 = .ok (.iconst 0, 1) := by decide +kernel
theorem dX8_sure_10 : decode cX8_sure 10 = .ok (.istore_n 1, 1) := by decide +kernel
theorem dX8_sure_11 : decode cX8_sure 11 = .ok (.iconst 0, 1) := by decide +kernel
theorem dX8_sure_12 : decode cX8_sure 12 = .ok (.istore_n 2, 1) := by decide +kernel
theorem dX8_sure_13 : decode cX8_sure 13 = .ok (.iload_n 2, 1) := by decide +kernel
theorem dX8_sure_14 : decode cX8_sure 14 = .ok (.aload_n 0, 1) := by decide +kernel
theorem dX8_sure_15 : decode cX8_sure 15 = .ok (.getfield 13, 3) := by decide +kernel
theorem dX8_sure_18 : decode cX8_sure 18 = .ok (.iconst 1, 1) := by decide +kernel
theorem dX8_sure_19 : decode cX8_sure 19 = .ok (.iaload, 1) := by decide +kernel
theorem dX8_sure_20 : decode cX8_sure 20 = .ok (.if_icmp .ge 72, 3) := by decide +kernel
theorem dX8_sure_23 : decode cX8_sure 23 = .ok (.iconst 1, 1) := by decide +kernel
theorem dX8_sure_24 : decode cX8_sure 24 = .ok (.istore_n 3, 1) := by decide +kernel
theorem dX8_sure_25 : decode cX8_sure 25 = .ok (.iconst 1, 1) := by decide +kernel
theorem dX8_sure_26 : decode cX8_sure 26 = .ok (.istore 4, 2) := by decide +kernel
theorem dX8_sure_28 : decode cX8_sure 28 = .ok (.iload 4, 2) := by decide +kernel
theorem dX8_sure_30 : decode cX8_sure 30 = .ok (.aload_n 0, 1) := by decide +kernel
theorem dX8_sure_31 : decode cX8_sure 31 = .ok (.getfield 391, 3) := by decide +kernel
theorem dX8_sure_34 : decode cX8_sure 34 = .ok (.if_icmp .ge 38, 3) := by decide +kernel
theorem dX8_sure_37 : decode cX8_sure 37 = .ok (.iload_n 3, 1) := by decide +kernel
theorem dX8_sure_38 : decode cX8_sure 38 = .ok (.aload_n 0, 1) := by decide +kernel
theorem dX8_sure_39 : decode cX8_sure 39 = .ok (.getfield 63, 3) := by decide +kernel
theorem dX8_sure_42 : decode cX8_sure 42 = .ok (.bipush 7, 2) := by decide +kernel
theorem dX8_sure_44 : decode cX8_sure 44 = .ok (.iload 4, 2) := by decide +kernel
theorem dX8_sure_46 : decode cX8_sure 46 = .ok (.imul, 1) := by decide +kernel
theorem dX8_sure_47 : decode cX8_sure 47 = .ok (.iload_n 2, 1) := by decide +kernel
theorem dX8_sure_48 : decode cX8_sure 48 = .ok (.iadd, 1) := by decide +kernel
theorem dX8_sure_49 : decode cX8_sure 49 = .ok (.iaload, 1) := by decide +kernel
theorem dX8_sure_50 : decode cX8_sure 50 = .ok (.aload_n 0, 1) := by decide +kernel
theorem dX8_sure_51 : decode cX8_sure 51 = .ok (.getfield 63, 3) := by decide +kernel
theorem dX8_sure_54 : decode cX8_sure 54 = .ok (.iload_n 2, 1) := by decide +kernel
theorem dX8_sure_55 : decode cX8_sure 55 = .ok (.iaload, 1) := by decide +kernel
theorem dX8_sure_56 : decode cX8_sure 56 = .ok (.if_icmp .ne 7, 3) := by decide +kernel
theorem dX8_sure_59 : decode cX8_sure 59 = .ok (.iconst 1, 1) := by decide +kernel
theorem dX8_sure_60 : decode cX8_sure 60 = .ok (.goto 4, 3) := by decide +kernel
theorem dX8_sure_63 : decode cX8_sure 63 = .ok (.iconst 0, 1) := by decide +kernel
theorem dX8_sure_64 : decode cX8_sure 64 = .ok (.iand, 1) := by decide +kernel
theorem dX8_sure_65 : decode cX8_sure 65 = .ok (.istore_n 3, 1) := by decide +kernel
theorem dX8_sure_66 : decode cX8_sure 66 = .ok (.iinc 4 1, 3) := by decide +kernel
theorem dX8_sure_69 : decode cX8_sure 69 = .ok (.goto (-41), 3) := by decide +kernel
theorem dX8_sure_72 : decode cX8_sure 72 = .ok (.iload_n 1, 1) := by decide +kernel
theorem dX8_sure_73 : decode cX8_sure 73 = .ok (.iload_n 3, 1) := by decide +kernel
theorem dX8_sure_74 : decode cX8_sure 74 = .ok (.ifCond .eq 9, 3) := by decide +kernel
theorem dX8_sure_77 : decode cX8_sure 77 = .ok (.iconst 1, 1) := by decide +kernel
theorem dX8_sure_78 : decode cX8_sure 78 = .ok (.iload_n 2, 1) := by decide +kernel
theorem dX8_sure_79 : decode cX8_sure 79 = .ok (.ishl, 1) := by decide +kernel
theorem dX8_sure_80 : decode cX8_sure 80 = .ok (.goto 4, 3) := by decide +kernel
theorem dX8_sure_83 : decode cX8_sure 83 = .ok (.iconst 0, 1) := by decide +kernel
theorem dX8_sure_84 : decode cX8_sure 84 = .ok (.ior, 1) := by decide +kernel
theorem dX8_sure_85 : decode cX8_sure 85 = .ok (.istore_n 1, 1) := by decide +kernel
theorem dX8_sure_86 : decode cX8_sure 86 = .ok (.iinc 2 1, 3) := by decide +kernel
theorem dX8_sure_89 : decode cX8_sure 89 = .ok (.goto (-76), 3) := by decide +kernel
theorem dX8_sure_92 : decode cX8_sure 92 = .ok (.iload_n 1, 1) := by decide +kernel
theorem dX8_sure_93 : decode cX8_sure 93 = .ok (.ireturn, 1) := by decide +kernel
def f_X8_sure_84 (kb_13 : Int32 → Int32 → zS → Option (Int32 × zS)) (v2 : Int32) (w0 : Int32) (w1 : Int32) (s : zS) : Option (Int32 × zS) :=
  zb (w1 ||| w0) fun x1 =>
  zb (v2 + (1 : Int32)) fun x2 =>
  kb_13 x1 x2 s
set_option maxRecDepth 20000 in
theorem b_X8_sure_84 {X : zX} {kb_13 : Int32 → Int32 → zS → Option (Int32 × zS)} (hX : zx_ok X cX8_sure RX8 5) (hT : zx_rt X (some .int) (zR 72 1775)) (hk_13 : ∀ (v1 : Int32) (v2 : Int32) (s : zS), zV X (zq X zrI) 5 13 [(0, .ref (zx_ad X 76)), (1, .int v1), (2, .int v2)] [] s (kb_13 v1 v2 s)) : ∀ (v2 : Int32) (w0 : Int32) (w1 : Int32) (s : zS), zV X (zq X zrI) 5 84 [(0, .ref (zx_ad X 76)), (2, .int v2)] [.int w0, .int w1] s (f_X8_sure_84 kb_13 v2 w0 w1 s) := by
  intro v2 w0 w1 s
  unfold f_X8_sure_84
  refine zv_ior hX dX8_sure_84 ?_
  refine zv_istB_n (lw := fun x1 => [(1, .int x1), (0, .ref (zx_ad X 76)), (2, .int v2)]) hX dX8_sure_85 (by decide) (fun _ => rfl) (fun x1 => ?_)
  refine zv_iincB (lw := fun x2 => [(2, .int x2), (1, .int x1), (0, .ref (zx_ad X 76))]) hX dX8_sure_86 2 rfl zi_i_1 (by decide) (fun _ => rfl) (fun x2 => ?_)
  refine zv_goto (tgt := 13) hX dX8_sure_89 rfl ?_
  exact zv_sub [2, 1, 0] rfl (hk_13 x1 x2 s)
def f_X8_sure_64 (kb_13 : Int32 → Int32 → zS → Option (Int32 × zS)) (kb_28 : Int32 → Int32 → Int32 → Int32 → zS → Option (Int32 × zS)) (v1 : Int32) (v2 : Int32) (v4 : Int32) (w0 : Int32) (w1 : Int32) (s : zS) : Option (Int32 × zS) :=
  zb (w1 &&& w0) fun x3 =>
  zb (v4 + (1 : Int32)) fun x4 =>
  kb_28 v1 v2 x3 x4 s
set_option maxRecDepth 20000 in
theorem b_X8_sure_64 {X : zX} {kb_13 : Int32 → Int32 → zS → Option (Int32 × zS)} {kb_28 : Int32 → Int32 → Int32 → Int32 → zS → Option (Int32 × zS)} (hX : zx_ok X cX8_sure RX8 5) (hT : zx_rt X (some .int) (zR 72 1775)) (hk_13 : ∀ (v1 : Int32) (v2 : Int32) (s : zS), zV X (zq X zrI) 5 13 [(0, .ref (zx_ad X 76)), (1, .int v1), (2, .int v2)] [] s (kb_13 v1 v2 s)) (hk_28 : ∀ (v1 : Int32) (v2 : Int32) (v3 : Int32) (v4 : Int32) (s : zS), zV X (zq X zrI) 5 28 [(0, .ref (zx_ad X 76)), (1, .int v1), (2, .int v2), (3, .int v3), (4, .int v4)] [] s (kb_28 v1 v2 v3 v4 s)) : ∀ (v1 : Int32) (v2 : Int32) (v4 : Int32) (w0 : Int32) (w1 : Int32) (s : zS), zV X (zq X zrI) 5 64 [(0, .ref (zx_ad X 76)), (1, .int v1), (2, .int v2), (4, .int v4)] [.int w0, .int w1] s (f_X8_sure_64 kb_13 kb_28 v1 v2 v4 w0 w1 s) := by
  intro v1 v2 v4 w0 w1 s
  unfold f_X8_sure_64
  refine zv_iand hX dX8_sure_64 ?_
  refine zv_istB_n (lw := fun x3 => [(3, .int x3), (0, .ref (zx_ad X 76)), (1, .int v1), (2, .int v2), (4, .int v4)]) hX dX8_sure_65 (by decide) (fun _ => rfl) (fun x3 => ?_)
  refine zv_iincB (lw := fun x4 => [(4, .int x4), (3, .int x3), (0, .ref (zx_ad X 76)), (1, .int v1), (2, .int v2)]) hX dX8_sure_66 4 rfl zi_i_1 (by decide) (fun _ => rfl) (fun x4 => ?_)
  refine zv_goto (tgt := 28) hX dX8_sure_69 rfl ?_
  exact zv_sub [2, 3, 4, 1, 0] rfl (hk_28 v1 v2 x3 x4 s)
def f_X8_sure_28 (kb_13 : Int32 → Int32 → zS → Option (Int32 × zS)) : Nat → Int32 → Int32 → Int32 → Int32 → zS → Option (Int32 × zS)
  | 0, _, _, _, _, _ => none
  | n + 1, v1, v2, v3, v4, s =>
    if (s.1 76 32) ≤ v4 then
    (if v3 = 0 then
    (f_X8_sure_84 kb_13 v2 (0 : Int32) v1 s)
    else
    f_X8_sure_84 kb_13 v2 (zo_shl (1 : Int32) v2) v1 s)
    else
    (zr_i s 92 (((nI 7) * v4) + v2)).bind fun x5 =>
    (zr_i s 92 v2).bind fun x6 =>
    if ¬ x5 = x6 then
    (f_X8_sure_64 kb_13 (f_X8_sure_28 kb_13 n) v1 v2 v4 (0 : Int32) v3 s)
    else
    f_X8_sure_64 kb_13 (f_X8_sure_28 kb_13 n) v1 v2 v4 (1 : Int32) v3 s
set_option maxRecDepth 20000 in
theorem b_X8_sure_28 {X : zX} {kb_13 : Int32 → Int32 → zS → Option (Int32 × zS)} (hX : zx_ok X cX8_sure RX8 5) (hT : zx_rt X (some .int) (zR 72 1775)) (hk_13 : ∀ (v1 : Int32) (v2 : Int32) (s : zS), zV X (zq X zrI) 5 13 [(0, .ref (zx_ad X 76)), (1, .int v1), (2, .int v2)] [] s (kb_13 v1 v2 s)) : ∀ (n : Nat) (v1 : Int32) (v2 : Int32) (v3 : Int32) (v4 : Int32) (s : zS), zV X (zq X zrI) 5 28 [(0, .ref (zx_ad X 76)), (1, .int v1), (2, .int v2), (3, .int v3), (4, .int v4)] [] s (f_X8_sure_28 kb_13 n v1 v2 v3 v4 s) := by
  intro n
  induction n with
  | zero => intro v1 v2 v3 v4 s; exact zv_none
  | succ n ih =>
    intro v1 v2 v3 v4 s
    rw [f_X8_sure_28]
    refine zv_iload hX dX8_sure_28 4 rfl ?_
    refine zv_aload_n hX dX8_sure_30 0 rfl ?_
    refine zv_geti hX wf_X8_391 wc_8 zd_76 zj_76_32 c9_8 zr_76_32 dX8_sure_31 ?_
    refine zv_icmp_ge (tgt := 72) hX dX8_sure_34 rfl ?_ ?_
    · refine zv_iload_n hX dX8_sure_72 1 rfl ?_
      refine zv_iload_n hX dX8_sure_73 3 rfl ?_
      refine zv_if_eq (tgt := 83) hX dX8_sure_74 rfl ?_ ?_
      · refine zv_iconst (v := (0 : Int32)) hX dX8_sure_83 zi_i_0 ?_
        exact zv_sub [0, 2] rfl (b_X8_sure_84 hX hT hk_13 v2 (0 : Int32) v1 s)
      · refine zv_iconst (v := (1 : Int32)) hX dX8_sure_77 zi_i_1 ?_
        refine zv_iload_n hX dX8_sure_78 2 rfl ?_
        refine zv_ishl hX dX8_sure_79 ?_
        refine zv_goto (tgt := 84) hX dX8_sure_80 rfl ?_
        exact zv_sub [0, 2] rfl (b_X8_sure_84 hX hT hk_13 v2 (zo_shl (1 : Int32) v2) v1 s)
    · refine zv_iload_n hX dX8_sure_37 3 rfl ?_
      refine zv_aload_n hX dX8_sure_38 0 rfl ?_
      refine zv_geta hX wf_X8_63 wc_8 zd_76 zj_76_31 c9_8 zr_76_31 (by decide) dX8_sure_39 ?_
      refine zv_bipush (v := (nI 7)) hX dX8_sure_42 zi_b_7 ?_
      refine zv_iload hX dX8_sure_44 4 rfl ?_
      refine zv_imul hX dX8_sure_46 ?_
      refine zv_iload_n hX dX8_sure_47 2 rfl ?_
      refine zv_iadd hX dX8_sure_48 ?_
      refine zv_iald hX dX8_sure_49 (fun x5 => ?_)
      refine zv_aload_n hX dX8_sure_50 0 rfl ?_
      refine zv_geta hX wf_X8_63 wc_8 zd_76 zj_76_31 c9_8 zr_76_31 (by decide) dX8_sure_51 ?_
      refine zv_iload_n hX dX8_sure_54 2 rfl ?_
      refine zv_iald hX dX8_sure_55 (fun x6 => ?_)
      refine zv_icmp_ne (tgt := 63) hX dX8_sure_56 rfl ?_ ?_
      · refine zv_iconst (v := (0 : Int32)) hX dX8_sure_63 zi_i_0 ?_
        exact zv_sub [0, 1, 2, 4] rfl (b_X8_sure_64 hX hT hk_13 ih v1 v2 v4 (0 : Int32) v3 s)
      · refine zv_iconst (v := (1 : Int32)) hX dX8_sure_59 zi_i_1 ?_
        refine zv_goto (tgt := 64) hX dX8_sure_60 rfl ?_
        exact zv_sub [0, 1, 2, 4] rfl (b_X8_sure_64 hX hT hk_13 ih v1 v2 v4 (1 : Int32) v3 s)
def f_X8_sure_13 : Nat → Int32 → Int32 → zS → Option (Int32 × zS)
  | 0, _, _, _ => none
  | n + 1, v1, v2, s =>
    (zr_i s 77 (1 : Int32)).bind fun x7 =>
    if x7 ≤ v2 then
    (some (v1, s))
    else
    f_X8_sure_28 (f_X8_sure_13 n) zFU v1 v2 (1 : Int32) (1 : Int32) s
set_option maxRecDepth 20000 in
theorem b_X8_sure_13 {X : zX} (hX : zx_ok X cX8_sure RX8 5) (hT : zx_rt X (some .int) (zR 72 1775)) : ∀ (n : Nat) (v1 : Int32) (v2 : Int32) (s : zS), zV X (zq X zrI) 5 13 [(0, .ref (zx_ad X 76)), (1, .int v1), (2, .int v2)] [] s (f_X8_sure_13 n v1 v2 s) := by
  intro n
  induction n with
  | zero => intro v1 v2 s; exact zv_none
  | succ n ih =>
    intro v1 v2 s
    rw [f_X8_sure_13]
    refine zv_iload_n hX dX8_sure_13 2 rfl ?_
    refine zv_aload_n hX dX8_sure_14 0 rfl ?_
    refine zv_geta hX wf_X8_13 wc_8 zd_76 zj_76_1 c9_8 zr_76_1 (by decide) dX8_sure_15 ?_
    refine zv_iconst (v := (1 : Int32)) hX dX8_sure_18 zi_i_1 ?_
    refine zv_iald hX dX8_sure_19 (fun x7 => ?_)
    refine zv_icmp_ge (tgt := 92) hX dX8_sure_20 rfl ?_ ?_
    · refine zv_iload_n hX dX8_sure_92 1 rfl ?_
      exact zv_ireti hX hT dX8_sure_93
    · refine zv_iconst (v := (1 : Int32)) hX dX8_sure_23 zi_i_1 ?_
      refine zv_istore_n (lv' := [(3, .int (1 : Int32)), (0, .ref (zx_ad X 76)), (1, .int v1), (2, .int v2)]) hX dX8_sure_24 (by decide) rfl ?_
      refine zv_iconst (v := (1 : Int32)) hX dX8_sure_25 zi_i_1 ?_
      refine zv_istore (lv' := [(4, .int (1 : Int32)), (3, .int (1 : Int32)), (0, .ref (zx_ad X 76)), (1, .int v1), (2, .int v2)]) hX dX8_sure_26 (by decide) rfl ?_
      exact zv_sub [2, 3, 4, 1, 0] rfl (b_X8_sure_28 hX hT ih zFU v1 v2 (1 : Int32) (1 : Int32) s)
def f_X8_sure  (s : zS) : Option (Int32 × zS) :=
  zb (zs_i s 76 0 (0 : Int32)) fun s8 =>
  zbd (f_X8_laysHeld s8) fun _ s9 =>
  f_X8_sure_13 zFU (0 : Int32) (0 : Int32) s9
set_option maxRecDepth 20000 in
theorem c_X8_sure (Y : zG)  (s : zS) : zM Y yX8_sure cX8_sure 5 (some .int) (zR 72 1775) [.ref (zy_a Y 76)] s zrI (f_X8_sure  s) := by
  refine zm_start (by decide +kernel) (Nat.le_of_ble_eq_true rfl) ?_
  intro X hY hT hX
  subst hY
  have hX : zx_ok X cX8_sure RX8 5 := hX
  show zV X (zq X zrI) 5 0 [(0, .ref (zx_ad X 76))] [] s _
  unfold f_X8_sure
  refine zv_aload_n hX dX8_sure_0 0 rfl ?_
  refine zv_iconst (v := (0 : Int32)) hX dX8_sure_1 zi_i_0 ?_
  refine zv_puti hX wf_X8_1 wc_8 wk_8_0 zd_76 zj_76_0 c9_8 zr_76_0 dX8_sure_2 (fun s8 => ?_)
  refine zv_aload_n hX dX8_sure_5 0 rfl ?_
  refine zv_cVV [] (rest := []) hX hT.2.2.2.2 (c_X8_laysHeld (zx_Y X) s8) wv_X8_laysHeld c9_8 zd_76 wm_X8_403 rfl (Nat.le_of_ble_eq_true rfl) (Nat.le_of_ble_eq_true rfl) rfl (Nat.le_of_ble_eq_true rfl) dX8_sure_6 (fun _ s9 => ?_)
  refine zv_iconst (v := (0 : Int32)) hX dX8_sure_9 zi_i_0 ?_
  refine zv_istore_n (lv' := [(1, .int (0 : Int32)), (0, .ref (zx_ad X 76))]) hX dX8_sure_10 (by decide) rfl ?_
  refine zv_iconst (v := (0 : Int32)) hX dX8_sure_11 zi_i_0 ?_
  refine zv_istore_n (lv' := [(2, .int (0 : Int32)), (1, .int (0 : Int32)), (0, .ref (zx_ad X 76))]) hX dX8_sure_12 (by decide) rfl ?_
  exact zv_sub [2, 1, 0] rfl (b_X8_sure_13 hX hT zFU (0 : Int32) (0 : Int32) s9)
