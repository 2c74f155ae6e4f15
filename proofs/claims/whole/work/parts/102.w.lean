theorem dJ6_bitCount_0f7a4_0 : decode cJ6_bitCount_0f7a4 0 = .ok (.iload_n 0, 1) := by decide +kernel
theorem dJ6_bitCount_0f7a4_1 : decode cJ6_bitCount_0f7a4 1 = .ok (.iload_n 0, 1) := by decide +kernel
theorem dJ6_bitCount_0f7a4_2 : decode cJ6_bitCount_0f7a4 2 = .ok (.iconst 1, 1) := by decide +kernel
theorem dJ6_bitCount_0f7a4_3 : decode cJ6_bitCount_0f7a4 3 = .ok (.iushr, 1) := by decide +kernel
theorem dJ6_bitCount_0f7a4_4 : decode cJ6_bitCount_0f7a4 4 = .ok (.ldc_w 265, 3) := by decide +kernel
theorem dJ6_bitCount_0f7a4_7 : decode cJ6_bitCount_0f7a4 7 = .ok (.iand, 1) := by decide +kernel
theorem dJ6_bitCount_0f7a4_8 : decode cJ6_bitCount_0f7a4 8 = .ok (.isub, 1) := by decide +kernel
theorem dJ6_bitCount_0f7a4_9 : decode cJ6_bitCount_0f7a4 9 = .ok (.istore_n 0, 1) := by decide +kernel
theorem dJ6_bitCount_0f7a4_10 : decode cJ6_bitCount_0f7a4 10 = .ok (.iload_n 0, 1) := by decide +kernel
theorem dJ6_bitCount_0f7a4_11 : decode cJ6_bitCount_0f7a4 11 = .ok (.ldc_w 266, 3) := by decide +kernel
theorem dJ6_bitCount_0f7a4_14 : decode cJ6_bitCount_0f7a4 14 = .ok (.iand, 1) := by decide +kernel
theorem dJ6_bitCount_0f7a4_15 : decode cJ6_bitCount_0f7a4 15 = .ok (.iload_n 0, 1) := by decide +kernel
theorem dJ6_bitCount_0f7a4_16 : decode cJ6_bitCount_0f7a4 16 = .ok (.iconst 2, 1) := by decide +kernel
theorem dJ6_bitCount_0f7a4_17 : decode cJ6_bitCount_0f7a4 17 = .ok (.iushr, 1) := by decide +kernel
theorem dJ6_bitCount_0f7a4_18 : decode cJ6_bitCount_0f7a4 18 = .ok (.ldc_w 266, 3) := by decide +kernel
theorem dJ6_bitCount_0f7a4_21 : decode cJ6_bitCount_0f7a4 21 = .ok (.iand, 1) := by decide +kernel
theorem dJ6_bitCount_0f7a4_22 : decode cJ6_bitCount_0f7a4 22 = .ok (.iadd, 1) := by decide +kernel
theorem dJ6_bitCount_0f7a4_23 : decode cJ6_bitCount_0f7a4 23 = .ok (.istore_n 0, 1) := by decide +kernel
theorem dJ6_bitCount_0f7a4_24 : decode cJ6_bitCount_0f7a4 24 = .ok (.iload_n 0, 1) := by decide +kernel
theorem dJ6_bitCount_0f7a4_25 : decode cJ6_bitCount_0f7a4 25 = .ok (.iload_n 0, 1) := by decide +kernel
theorem dJ6_bitCount_0f7a4_26 : decode cJ6_bitCount_0f7a4 26 = .ok (.iconst 4, 1) := by decide +kernel
theorem dJ6_bitCount_0f7a4_27 : decode cJ6_bitCount_0f7a4 27 = .ok (.iushr, 1) := by decide +kernel
theorem dJ6_bitCount_0f7a4_28 : decode cJ6_bitCount_0f7a4 28 = .ok (.iadd, 1) := by decide +kernel
theorem dJ6_bitCount_0f7a4_29 : decode cJ6_bitCount_0f7a4 29 = .ok (.ldc_w 267, 3) := by decide +kernel
theorem dJ6_bitCount_0f7a4_32 : decode cJ6_bitCount_0f7a4 32 = .ok (.iand, 1) := by decide +kernel
theorem dJ6_bitCount_0f7a4_33 : decode cJ6_bitCount_0f7a4 33 = .ok (.istore_n 0, 1) := by decide +kernel
theorem dJ6_bitCount_0f7a4_34 : decode cJ6_bitCount_0f7a4 34 = .ok (.iload_n 0, 1) := by decide +kernel
theorem dJ6_bitCount_0f7a4_35 : decode cJ6_bitCount_0f7a4 35 = .ok (.iload_n 0, 1) := by decide +kernel
theorem dJ6_bitCount_0f7a4_36 : decode cJ6_bitCount_0f7a4 36 = .ok (.bipush 8, 2) := by decide +kernel
theorem dJ6_bitCount_0f7a4_38 : decode cJ6_bitCount_0f7a4 38 = .ok (.iushr, 1) := by decide +kernel
theorem dJ6_bitCount_0f7a4_39 : decode cJ6_bitCount_0f7a4 39 = .ok (.iadd, 1) := by decide +kernel
theorem dJ6_bitCount_0f7a4_40 : decode cJ6_bitCount_0f7a4 40 = .ok (.istore_n 0, 1) := by decide +kernel
theorem dJ6_bitCount_0f7a4_41 : decode cJ6_bitCount_0f7a4 41 = .ok (.iload_n 0, 1) := by decide +kernel
theorem dJ6_bitCount_0f7a4_42 : decode cJ6_bitCount_0f7a4 42 = .ok (.iload_n 0, 1) := by decide +kernel
theorem dJ6_bitCount_0f7a4_43 : decode cJ6_bitCount_0f7a4 43 = .ok (.bipush 16, 2) := by decide +kernel
theorem dJ6_bitCount_0f7a4_45 : decode cJ6_bitCount_0f7a4 45 = .ok (.iushr, 1) := by decide +kernel
theorem dJ6_bitCount_0f7a4_46 : decode cJ6_bitCount_0f7a4 46 = .ok (.iadd, 1) := by decide +kernel
theorem dJ6_bitCount_0f7a4_47 : decode cJ6_bitCount_0f7a4 47 = .ok (.istore_n 0, 1) := by decide +kernel
theorem dJ6_bitCount_0f7a4_48 : decode cJ6_bitCount_0f7a4 48 = .ok (.iload_n 0, 1) := by decide +kernel
theorem dJ6_bitCount_0f7a4_49 : decode cJ6_bitCount_0f7a4 49 = .ok (.bipush 63, 2) := by decide +kernel
theorem dJ6_bitCount_0f7a4_51 : decode cJ6_bitCount_0f7a4 51 = .ok (.iand, 1) := by decide +kernel
theorem dJ6_bitCount_0f7a4_52 : decode cJ6_bitCount_0f7a4 52 = .ok (.ireturn, 1) := by decide +kernel
def f_J6_bitCount_0f7a4 (v0 : Int32) (s : zS) : Option (Int32 × zS) :=
  zb (v0 - ((zo_ush v0 (1 : Int32)) &&& (1431655765 : Int32))) fun x1 =>
  zb ((x1 &&& (858993459 : Int32)) + ((zo_ush x1 (nI 2)) &&& (858993459 : Int32))) fun x2 =>
  zb ((x2 + (zo_ush x2 (nI 4))) &&& (252645135 : Int32)) fun x3 =>
  zb (x3 + (zo_ush x3 (nI 8))) fun x4 =>
  zb (x4 + (zo_ush x4 (nI 16))) fun x5 =>
  some (x5 &&& (nI 63), s)
set_option maxRecDepth 20000 in
theorem c_J6_bitCount_0f7a4 (Y : zG) (v0 : Int32) (s : zS) : zM Y yJ6_bitCount_0f7a4 cJ6_bitCount_0f7a4 1 (some .int) (zR 0 0) [.int v0] s zrI (f_J6_bitCount_0f7a4 v0 s) := by
  refine zm_startJ (by decide +kernel) (Nat.le_of_ble_eq_true rfl) ?_
  intro X hY hT hX
  subst hY
  have hX : zx_ok X cJ6_bitCount_0f7a4 RJ6 1 := hX
  show zV X (zq X zrI) 1 0 [(0, .int v0)] [] s _
  unfold f_J6_bitCount_0f7a4
  refine zv_iload_n hX dJ6_bitCount_0f7a4_0 0 rfl ?_
  refine zv_iload_n hX dJ6_bitCount_0f7a4_1 0 rfl ?_
  refine zv_iconst (v := (1 : Int32)) hX dJ6_bitCount_0f7a4_2 zi_i_1 ?_
  refine zv_iushr hX dJ6_bitCount_0f7a4_3 ?_
  refine zv_ldcw hX wn_J6_265 dJ6_bitCount_0f7a4_4 ?_
  refine zv_iand hX dJ6_bitCount_0f7a4_7 ?_
  refine zv_isub hX dJ6_bitCount_0f7a4_8 ?_
  refine zv_istB_n (lw := fun x1 => [(0, .int x1)]) hX dJ6_bitCount_0f7a4_9 (by decide) (fun _ => rfl) (fun x1 => ?_)
  refine zv_iload_n hX dJ6_bitCount_0f7a4_10 0 rfl ?_
  refine zv_ldcw hX wn_J6_266 dJ6_bitCount_0f7a4_11 ?_
  refine zv_iand hX dJ6_bitCount_0f7a4_14 ?_
  refine zv_iload_n hX dJ6_bitCount_0f7a4_15 0 rfl ?_
  refine zv_iconst (v := (nI 2)) hX dJ6_bitCount_0f7a4_16 zi_i_2 ?_
  refine zv_iushr hX dJ6_bitCount_0f7a4_17 ?_
  refine zv_ldcw hX wn_J6_266 dJ6_bitCount_0f7a4_18 ?_
  refine zv_iand hX dJ6_bitCount_0f7a4_21 ?_
  refine zv_iadd hX dJ6_bitCount_0f7a4_22 ?_
  refine zv_istB_n (lw := fun x2 => [(0, .int x2)]) hX dJ6_bitCount_0f7a4_23 (by decide) (fun _ => rfl) (fun x2 => ?_)
  refine zv_iload_n hX dJ6_bitCount_0f7a4_24 0 rfl ?_
  refine zv_iload_n hX dJ6_bitCount_0f7a4_25 0 rfl ?_
  refine zv_iconst (v := (nI 4)) hX dJ6_bitCount_0f7a4_26 zi_i_4 ?_
  refine zv_iushr hX dJ6_bitCount_0f7a4_27 ?_
  refine zv_iadd hX dJ6_bitCount_0f7a4_28 ?_
  refine zv_ldcw hX wn_J6_267 dJ6_bitCount_0f7a4_29 ?_
  refine zv_iand hX dJ6_bitCount_0f7a4_32 ?_
  refine zv_istB_n (lw := fun x3 => [(0, .int x3)]) hX dJ6_bitCount_0f7a4_33 (by decide) (fun _ => rfl) (fun x3 => ?_)
  refine zv_iload_n hX dJ6_bitCount_0f7a4_34 0 rfl ?_
  refine zv_iload_n hX dJ6_bitCount_0f7a4_35 0 rfl ?_
  refine zv_bipush (v := (nI 8)) hX dJ6_bitCount_0f7a4_36 zi_b_8 ?_
  refine zv_iushr hX dJ6_bitCount_0f7a4_38 ?_
  refine zv_iadd hX dJ6_bitCount_0f7a4_39 ?_
  refine zv_istB_n (lw := fun x4 => [(0, .int x4)]) hX dJ6_bitCount_0f7a4_40 (by decide) (fun _ => rfl) (fun x4 => ?_)
  refine zv_iload_n hX dJ6_bitCount_0f7a4_41 0 rfl ?_
  refine zv_iload_n hX dJ6_bitCount_0f7a4_42 0 rfl ?_
  refine zv_bipush (v := (nI 16)) hX dJ6_bitCount_0f7a4_43 zi_b_16 ?_
  refine zv_iushr hX dJ6_bitCount_0f7a4_45 ?_
  refine zv_iadd hX dJ6_bitCount_0f7a4_46 ?_
  refine zv_istB_n (lw := fun x5 => [(0, .int x5)]) hX dJ6_bitCount_0f7a4_47 (by decide) (fun _ => rfl) (fun x5 => ?_)
  refine zv_iload_n hX dJ6_bitCount_0f7a4_48 0 rfl ?_
  refine zv_bipush (v := (nI 63)) hX dJ6_bitCount_0f7a4_49 zi_b_63 ?_
  refine zv_iand hX dJ6_bitCount_0f7a4_51 ?_
  exact zv_ireti hX hT dJ6_bitCount_0f7a4_52
theorem dX4_liking_0 : decode cX4_liking 0 = .ok (.iload_n 1, 1) := by decide +kernel
theorem dX4_liking_1 : decode cX4_liking 1 = .ok (.bipush 7, 2) := by decide +kernel
theorem dX4_liking_3 : decode cX4_liking 3 = .ok (.imul, 1) := by decide +kernel
theorem dX4_liking_4 : decode cX4_liking 4 = .ok (.iload_n 2, 1) := by decide +kernel
theorem dX4_liking_5 : decode cX4_liking 5 = .ok (.iadd, 1) := by decide +kernel
theorem dX4_liking_6 : decode cX4_liking 6 = .ok (.istore_n 3, 1) := by decide +kernel
theorem dX4_liking_7 : decode cX4_liking 7 = .ok (.aload_n 0, 1) := by decide +kernel
theorem dX4_liking_8 : decode cX4_liking 8 = .ok (.getfield 64, 3) := by decide +kernel
theorem dX4_liking_11 : decode cX4_liking 11 = .ok (.iload_n 1, 1) := by decide +kernel
theorem dX4_liking_12 : decode cX4_liking 12 = .ok (.invokevirtual 153, 3) := by decide +kernel
theorem dX4_liking_15 : decode cX4_liking 15 = .ok (.aload_n 0, 1) := by decide +kernel
theorem dX4_liking_16 : decode cX4_liking 16 = .ok (.getfield 64, 3) := by decide +kernel
theorem dX4_liking_19 : decode cX4_liking 19 = .ok (.iload_n 2, 1) := by decide +kernel
theorem dX4_liking_20 : decode cX4_liking 20 = .ok (.invokevirtual 153, 3) := by decide +kernel
theorem dX4_liking_23 : decode cX4_liking 23 = .ok (.iadd, 1) := by decide +kernel
theorem dX4_liking_24 : decode cX4_liking 24 = .ok (.istore 4, 2) := by decide +kernel
theorem dX4_liking_26 : decode cX4_liking 26 = .ok (.aload_n 0, 1) := by decide +kernel
theorem dX4_liking_27 : decode cX4_liking 27 = .ok (.getfield 46, 3) := by decide +kernel
theorem dX4_liking_30 : decode cX4_liking 30 = .ok (.iload_n 3, 1) := by decide +kernel
theorem dX4_liking_31 : decode cX4_liking 31 = .ok (.iaload, 1) := by decide +kernel
theorem dX4_liking_32 : decode cX4_liking 32 = .ok (.iload 4, 2) := by decide +kernel
theorem dX4_liking_34 : decode cX4_liking 34 = .ok (.if_icmp .eq 131, 3) := by decide +kernel
theorem dX4_liking_37 : decode cX4_liking 37 = .ok (.aload_n 0, 1) := by decide +kernel
theorem dX4_liking_38 : decode cX4_liking 38 = .ok (.getfield 46, 3) := by decide +kernel
theorem dX4_liking_41 : decode cX4_liking 41 = .ok (.iload_n 3, 1) := by decide +kernel
theorem dX4_liking_42 : decode cX4_liking 42 = .ok (.iload 4, 2) := by decide +kernel
theorem dX4_liking_44 : decode cX4_liking 44 = .ok (.iastore, 1) := by decide +kernel
theorem dX4_liking_45 : decode cX4_liking 45 = .ok (.aload_n 0, 1) := by decide +kernel
theorem dX4_liking_46 : decode cX4_liking 46 = .ok (.getfield 61, 3) := by decide +kernel
theorem dX4_liking_49 : decode cX4_liking 49 = .ok (.iconst 0, 1) := by decide +kernel
theorem dX4_liking_50 : decode cX4_liking 50 = .ok (.aload_n 0, 1) := by decide +kernel
theorem dX4_liking_51 : decode cX4_liking 51 = .ok (.iload_n 1, 1) := by decide +kernel
theorem dX4_liking_52 : decode cX4_liking 52 = .ok (.iload_n 2, 1) := by decide +kernel
theorem dX4_liking_53 : decode cX4_liking 53 = .ok (.invokevirtual 109, 3) := by decide +kernel
theorem dX4_liking_56 : decode cX4_liking 56 = .ok (.iastore, 1) := by decide +kernel
theorem dX4_liking_57 : decode cX4_liking 57 = .ok (.aload_n 0, 1) := by decide +kernel
theorem dX4_liking_58 : decode cX4_liking 58 = .ok (.getfield 61, 3) := by decide +kernel
theorem dX4_liking_61 : decode cX4_liking 61 = .ok (.iconst 1, 1) := by decide +kernel
theorem dX4_liking_62 : decode cX4_liking 62 = .ok (.aload_n 0, 1) := by decide +kernel
theorem dX4_liking_63 : decode cX4_liking 63 = .ok (.getfield 64, 3) := by decide +kernel
theorem dX4_liking_66 : decode cX4_liking 66 = .ok (.getfield 82, 3) := by decide +kernel
theorem dX4_liking_69 : decode cX4_liking 69 = .ok (.iload_n 2, 1) := by decide +kernel
theorem dX4_liking_70 : decode cX4_liking 70 = .ok (.iaload, 1) := by decide +kernel
theorem dX4_liking_71 : decode cX4_liking 71 = .ok (.invokestatic 125, 3) := by decide +kernel
theorem dX4_liking_74 : decode cX4_liking 74 = .ok (.iastore, 1) := by decide +kernel
theorem dX4_liking_75 : decode cX4_liking 75 = .ok (.aload_n 0, 1) := by decide +kernel
theorem dX4_liking_76 : decode cX4_liking 76 = .ok (.getfield 61, 3) := by decide +kernel
theorem dX4_liking_79 : decode cX4_liking 79 = .ok (.iconst 3, 1) := by decide +kernel
theorem dX4_liking_80 : decode cX4_liking 80 = .ok (.iload_n 1, 1) := by decide +kernel
theorem dX4_liking_81 : decode cX4_liking 81 = .ok (.iastore, 1) := by decide +kernel
theorem dX4_liking_82 : decode cX4_liking 82 = .ok (.aload_n 0, 1) := by decide +kernel
theorem dX4_liking_83 : decode cX4_liking 83 = .ok (.getfield 61, 3) := by decide +kernel
theorem dX4_liking_86 : decode cX4_liking 86 = .ok (.iconst 4, 1) := by decide +kernel
theorem dX4_liking_87 : decode cX4_liking 87 = .ok (.iload_n 2, 1) := by decide +kernel
theorem dX4_liking_88 : decode cX4_liking 88 = .ok (.iastore, 1) := by decide +kernel
theorem dX4_liking_89 : decode cX4_liking 89 = .ok (.aload_n 0, 1) := by decide +kernel
theorem dX4_liking_90 : decode cX4_liking 90 = .ok (.getfield 61, 3) := by decide +kernel
theorem dX4_liking_93 : decode cX4_liking 93 = .ok (.iconst 5, 1) := by decide +kernel
theorem dX4_liking_94 : decode cX4_liking 94 = .ok (.aload_n 0, 1) := by decide +kernel
theorem dX4_liking_95 : decode cX4_liking 95 = .ok (.getfield 64, 3) := by decide +kernel
theorem dX4_liking_98 : decode cX4_liking 98 = .ok (.getfield 156, 3) := by decide +kernel
theorem dX4_liking_101 : decode cX4_liking 101 = .ok (.iload_n 1, 1) := by decide +kernel
theorem dX4_liking_102 : decode cX4_liking 102 = .ok (.iaload, 1) := by decide +kernel
theorem dX4_liking_103 : decode cX4_liking 103 = .ok (.iastore, 1) := by decide +kernel
theorem dX4_liking_104 : decode cX4_liking 104 = .ok (.aload_n 0, 1) := by decide +kernel
theorem dX4_liking_105 : decode cX4_liking 105 = .ok (.getfield 61, 3) := by decide +kernel
theorem dX4_liking_108 : decode cX4_liking 108 = .ok (.bipush 6, 2) := by decide +kernel
theorem dX4_liking_110 : decode cX4_liking 110 = .ok (.aload_n 0, 1) := by decide +kernel
theorem dX4_liking_111 : decode cX4_liking 111 = .ok (.getfield 64, 3) := by decide +kernel
theorem dX4_liking_114 : decode cX4_liking 114 = .ok (.getfield 156, 3) := by decide +kernel
theorem dX4_liking_117 : decode cX4_liking 117 = .ok (.iload_n 2, 1) := by decide +kernel
theorem dX4_liking_118 : decode cX4_liking 118 = .ok (.iaload, 1) := by decide +kernel
theorem dX4_liking_119 : decode cX4_liking 119 = .ok (.iastore, 1) := by decide +kernel
theorem dX4_liking_120 : decode cX4_liking 120 = .ok (.aload_n 0, 1) := by decide +kernel
theorem dX4_liking_121 : decode cX4_liking 121 = .ok (.getfield 43, 3) := by decide +kernel
theorem dX4_liking_124 : decode cX4_liking 124 = .ok (.iload_n 3, 1) := by decide +kernel
theorem dX4_liking_125 : decode cX4_liking 125 = .ok (.aload_n 0, 1) := by decide +kernel
theorem dX4_liking_126 : decode cX4_liking 126 = .ok (.getfield 64, 3) := by decide +kernel
theorem dX4_liking_129 : decode cX4_liking 129 = .ok (.getfield 159, 3) := by decide +kernel
theorem dX4_liking_132 : decode cX4_liking 132 = .ok (.aload_n 0, 1) := by decide +kernel
theorem dX4_liking_133 : decode cX4_liking 133 = .ok (.getfield 64, 3) := by decide +kernel
theorem dX4_liking_136 : decode cX4_liking 136 = .ok (.getfield 162, 3) := by decide +kernel
theorem dX4_liking_139 : decode cX4_liking 139 = .ok (.if_icmp .ne 7, 3) := by decide +kernel
theorem dX4_liking_142 : decode cX4_liking 142 = .ok (.iconst 1, 1) := by decide +kernel
theorem dX4_liking_143 : decode cX4_liking 143 = .ok (.goto 21, 3) := by decide +kernel
theorem dX4_liking_146 : decode cX4_liking 146 = .ok (.aload_n 0, 1) := by decide +kernel
theorem dX4_liking_147 : decode cX4_liking 147 = .ok (.aload_n 0, 1) := by decide +kernel
theorem dX4_liking_148 : decode cX4_liking 148 = .ok (.getfield 64, 3) := by decide +kernel
theorem dX4_liking_151 : decode cX4_liking 151 = .ok (.getfield 159, 3) := by decide +kernel
theorem dX4_liking_154 : decode cX4_liking 154 = .ok (.aload_n 0, 1) := by decide +kernel
theorem dX4_liking_155 : decode cX4_liking 155 = .ok (.getfield 64, 3) := by decide +kernel
theorem dX4_liking_158 : decode cX4_liking 158 = .ok (.getfield 162, 3) := by decide +kernel
theorem dX4_liking_161 : decode cX4_liking 161 = .ok (.invokevirtual 150, 3) := by decide +kernel
theorem dX4_liking_164 : decode cX4_liking 164 = .ok (.iastore, 1) := by decide +kernel
theorem dX4_liking_165 : decode cX4_liking 165 = .ok (.aload_n 0, 1) := by decide +kernel
theorem dX4_liking_166 : decode cX4_liking 166 = .ok (.getfield 43, 3) := by decide +kernel
theorem dX4_liking_169 : decode cX4_liking 169 = .ok (.iload_n 3, 1) := by decide +kernel
theorem dX4_liking_170 : decode cX4_liking 170 = .ok (.iaload, 1) := by decide +kernel
theorem dX4_liking_171 : decode cX4_liking 171 = .ok (.ireturn, 1) := by decide +kernel
def f_X4_liking_165 (v3 : Int32) (s : zS) : Option (Int32 × zS) :=
  (zr_i s 53 v3).bind fun x1 =>
  some (x1, s)
set_option maxRecDepth 20000 in
theorem b_X4_liking_165 {X : zX} (hX : zx_ok X cX4_liking RX4 5) (hT : zx_rt X (some .int) (zR 2 51)) : ∀ (v3 : Int32) (s : zS), zV X (zq X zrI) 5 165 [(0, .ref (zx_ad X 42)), (3, .int v3)] [] s (f_X4_liking_165 v3 s) := by
  intro v3 s
  unfold f_X4_liking_165
  refine zv_aload_n hX dX4_liking_165 0 rfl ?_
  refine zv_geta hX wf_X4_43 wc_4 zd_42 zj_42_11 c9_4 zr_42_11 (by decide) dX4_liking_166 ?_
  refine zv_iload_n hX dX4_liking_169 1 rfl ?_
  refine zv_iald hX dX4_liking_170 (fun x1 => ?_)
  exact zv_ireti hX hT dX4_liking_171
def f_X4_liking_164 (v3 : Int32) (w0 : Int32) (w1 : Int32) (s : zS) : Option (Int32 × zS) :=
  (zw_i s 53 w1 w0).bind fun s2 =>
  f_X4_liking_165 v3 s2
set_option maxRecDepth 20000 in
theorem b_X4_liking_164 {X : zX} (hX : zx_ok X cX4_liking RX4 5) (hT : zx_rt X (some .int) (zR 2 51)) : ∀ (v3 : Int32) (w0 : Int32) (w1 : Int32) (s : zS), zV X (zq X zrI) 5 164 [(0, .ref (zx_ad X 42)), (3, .int v3)] [.int w0, .int w1, .ref (zx_ad X 53)] s (f_X4_liking_164 v3 w0 w1 s) := by
  intro v3 w0 w1 s
  unfold f_X4_liking_164
  refine zv_iast hX dX4_liking_164 (fun s2 => ?_)
  exact b_X4_liking_165 hX hT v3 s2
def f_X4_liking (v1 : Int32) (v2 : Int32) (s : zS) : Option (Int32 × zS) :=
  zb ((v1 * (nI 7)) + v2) fun x3 =>
  zbd (f_X5_ageOf_3 v1 s) fun r4 s5 =>
  zbd (f_X5_ageOf_3 v2 s5) fun r6 s7 =>
  zb (r4 + r6) fun x8 =>
  (zr_i s7 54 x3).bind fun x9 =>
  if x9 = x8 then
  (f_X4_liking_165 x3 s7)
  else
  (zw_i s7 54 x3 x8).bind fun s10 =>
  zbd (f_X4_fewestOf v1 v2 s10) fun r11 s12 =>
  (zw_i s12 59 (0 : Int32) r11).bind fun s13 =>
  (zr_i s13 4 v2).bind fun x14 =>
  zbd (f_J6_bitCount_0f7a4 x14 s13) fun r15 s16 =>
  (zw_i s16 59 (1 : Int32) r15).bind fun s17 =>
  (zw_i s17 59 (nI 3) v1).bind fun s18 =>
  (zw_i s18 59 (nI 4) v2).bind fun s19 =>
  (zr_i s19 5 v1).bind fun x20 =>
  (zw_i s19 59 (nI 5) x20).bind fun s21 =>
  (zr_i s21 5 v2).bind fun x22 =>
  (zw_i s21 59 (nI 6) x22).bind fun s23 =>
  if ¬ (s23.1 3 11) = (s23.1 3 12) then
  (zbd (f_X4_reckon (s23.1 3 11) (s23.1 3 12) s23) fun r24 s25 =>
  f_X4_liking_164 x3 r24 x3 s25)
  else
  f_X4_liking_164 x3 (1 : Int32) x3 s23
set_option maxRecDepth 20000 in
theorem c_X4_liking (Y : zG) (v1 : Int32) (v2 : Int32) (s : zS) : zM Y yX4_liking cX4_liking 5 (some .int) (zR 2 51) [.ref (zy_a Y 42), .int v1, .int v2] s zrI (f_X4_liking v1 v2 s) := by
  refine zm_start (by decide +kernel) (Nat.le_of_ble_eq_true rfl) ?_
  intro X hY hT hX
  subst hY
  have hX : zx_ok X cX4_liking RX4 5 := hX
  show zV X (zq X zrI) 5 0 [(0, .ref (zx_ad X 42)), (1, .int v1), (2, .int v2)] [] s _
  unfold f_X4_liking
  refine zv_iload_n hX dX4_liking_0 1 rfl ?_
  refine zv_bipush (v := (nI 7)) hX dX4_liking_1 zi_b_7 ?_
  refine zv_imul hX dX4_liking_3 ?_
  refine zv_iload_n hX dX4_liking_4 2 rfl ?_
  refine zv_iadd hX dX4_liking_5 ?_
  refine zv_istB_n (lw := fun x3 => [(3, .int x3), (0, .ref (zx_ad X 42)), (1, .int v1), (2, .int v2)]) hX dX4_liking_6 (by decide) (fun _ => rfl) (fun x3 => ?_)
  refine zv_aload_n hX dX4_liking_7 1 rfl ?_
  refine zv_geta hX wf_X4_64 wc_4 zd_42 zj_42_0 c9_4 zr_42_0 (by decide) dX4_liking_8 ?_
  refine zv_iload_n hX dX4_liking_11 2 rfl ?_
  refine zv_cVI [.int v1] (rest := []) hX hT.2.2.2.2 (c_X5_ageOf_3 (zx_Y X) v1 s) wv_X5_ageOf c9_5 zd_3 wm_X4_153 rfl (Nat.le_of_ble_eq_true rfl) (Nat.le_of_ble_eq_true rfl) rfl (Nat.le_of_ble_eq_true rfl) dX4_liking_12 (fun r4 s5 => ?_)
  refine zv_aload_n hX dX4_liking_15 1 rfl ?_
  refine zv_geta hX wf_X4_64 wc_4 zd_42 zj_42_0 c9_4 zr_42_0 (by decide) dX4_liking_16 ?_
  refine zv_iload_n hX dX4_liking_19 3 rfl ?_
  refine zv_cVI [.int v2] (rest := [.int r4]) hX hT.2.2.2.2 (c_X5_ageOf_3 (zx_Y X) v2 s5) wv_X5_ageOf c9_5 zd_3 wm_X4_153 rfl (Nat.le_of_ble_eq_true rfl) (Nat.le_of_ble_eq_true rfl) rfl (Nat.le_of_ble_eq_true rfl) dX4_liking_20 (fun r6 s7 => ?_)
  refine zv_iadd hX dX4_liking_23 ?_
  refine zv_istB (lw := fun x8 => [(4, .int x8), (3, .int x3), (0, .ref (zx_ad X 42)), (1, .int v1), (2, .int v2)]) hX dX4_liking_24 (by decide) (fun _ => rfl) (fun x8 => ?_)
  refine zv_aload_n hX dX4_liking_26 2 rfl ?_
  refine zv_geta hX wf_X4_46 wc_4 zd_42 zj_42_12 c9_4 zr_42_12 (by decide) dX4_liking_27 ?_
  refine zv_iload_n hX dX4_liking_30 1 rfl ?_
  refine zv_iald hX dX4_liking_31 (fun x9 => ?_)
  refine zv_iload hX dX4_liking_32 0 rfl ?_
  refine zv_icmp_eq (tgt := 165) hX dX4_liking_34 rfl ?_ ?_
  · exact zv_sub [2, 1] rfl (b_X4_liking_165 hX hT x3 s7)
  · refine zv_aload_n hX dX4_liking_37 2 rfl ?_
    refine zv_geta hX wf_X4_46 wc_4 zd_42 zj_42_12 c9_4 zr_42_12 (by decide) dX4_liking_38 ?_
    refine zv_iload_n hX dX4_liking_41 1 rfl ?_
    refine zv_iload hX dX4_liking_42 0 rfl ?_
    refine zv_iast hX dX4_liking_44 (fun s10 => ?_)
    refine zv_aload_n hX dX4_liking_45 2 rfl ?_
    refine zv_geta hX wf_X4_61 wc_4 zd_42 zj_42_18 c9_4 zr_42_18 (by decide) dX4_liking_46 ?_
    refine zv_iconst (v := (0 : Int32)) hX dX4_liking_49 zi_i_0 ?_
    refine zv_aload_n hX dX4_liking_50 2 rfl ?_
    refine zv_iload_n hX dX4_liking_51 3 rfl ?_
    refine zv_iload_n hX dX4_liking_52 4 rfl ?_
    refine zv_cVI [.int v1, .int v2] (rest := [.int (0 : Int32), .ref (zx_ad X 59)]) hX hT.2.2.2.2 (c_X4_fewestOf (zx_Y X) v1 v2 s10) wv_X4_fewestOf c9_4 zd_42 wm_X4_109 rfl (Nat.le_of_ble_eq_true rfl) (Nat.le_of_ble_eq_true rfl) rfl (Nat.le_of_ble_eq_true rfl) dX4_liking_53 (fun r11 s12 => ?_)
    refine zv_iast hX dX4_liking_56 (fun s13 => ?_)
    refine zv_aload_n hX dX4_liking_57 2 rfl ?_
    refine zv_geta hX wf_X4_61 wc_4 zd_42 zj_42_18 c9_4 zr_42_18 (by decide) dX4_liking_58 ?_
    refine zv_iconst (v := (1 : Int32)) hX dX4_liking_61 zi_i_1 ?_
    refine zv_aload_n hX dX4_liking_62 2 rfl ?_
    refine zv_geta hX wf_X4_64 wc_4 zd_42 zj_42_0 c9_4 zr_42_0 (by decide) dX4_liking_63 ?_
    refine zv_geta hX wf_X4_82 wc_5 zd_3 zj_3_2 c9_5 zr_3_2 (by decide) dX4_liking_66 ?_
    refine zv_iload_n hX dX4_liking_69 4 rfl ?_
    refine zv_iald hX dX4_liking_70 (fun x14 => ?_)
    refine zv_cSI [.int x14] (rest := [.int (1 : Int32), .ref (zx_ad X 59)]) hX hT.2.2.2.2 (c_J6_bitCount_0f7a4 (zx_Y X) x14 s13) wv_J6_bitCount_0f7a4 wm_X4_125 rfl (Nat.le_of_ble_eq_true rfl) (Nat.le_of_ble_eq_true rfl) rfl (Nat.le_of_ble_eq_true rfl) dX4_liking_71 (fun r15 s16 => ?_)
    refine zv_iast hX dX4_liking_74 (fun s17 => ?_)
    refine zv_aload_n hX dX4_liking_75 2 rfl ?_
    refine zv_geta hX wf_X4_61 wc_4 zd_42 zj_42_18 c9_4 zr_42_18 (by decide) dX4_liking_76 ?_
    refine zv_iconst (v := (nI 3)) hX dX4_liking_79 zi_i_3 ?_
    refine zv_iload_n hX dX4_liking_80 3 rfl ?_
    refine zv_iast hX dX4_liking_81 (fun s18 => ?_)
    refine zv_aload_n hX dX4_liking_82 2 rfl ?_
    refine zv_geta hX wf_X4_61 wc_4 zd_42 zj_42_18 c9_4 zr_42_18 (by decide) dX4_liking_83 ?_
    refine zv_iconst (v := (nI 4)) hX dX4_liking_86 zi_i_4 ?_
    refine zv_iload_n hX dX4_liking_87 4 rfl ?_
    refine zv_iast hX dX4_liking_88 (fun s19 => ?_)
    refine zv_aload_n hX dX4_liking_89 2 rfl ?_
    refine zv_geta hX wf_X4_61 wc_4 zd_42 zj_42_18 c9_4 zr_42_18 (by decide) dX4_liking_90 ?_
    refine zv_iconst (v := (nI 5)) hX dX4_liking_93 zi_i_5 ?_
    refine zv_aload_n hX dX4_liking_94 2 rfl ?_
    refine zv_geta hX wf_X4_64 wc_4 zd_42 zj_42_0 c9_4 zr_42_0 (by decide) dX4_liking_95 ?_
    refine zv_geta hX wf_X4_156 wc_5 zd_3 zj_3_3 c9_5 zr_3_3 (by decide) dX4_liking_98 ?_
    refine zv_iload_n hX dX4_liking_101 3 rfl ?_
    refine zv_iald hX dX4_liking_102 (fun x20 => ?_)
    refine zv_iast hX dX4_liking_103 (fun s21 => ?_)
    refine zv_aload_n hX dX4_liking_104 2 rfl ?_
    refine zv_geta hX wf_X4_61 wc_4 zd_42 zj_42_18 c9_4 zr_42_18 (by decide) dX4_liking_105 ?_
    refine zv_bipush (v := (nI 6)) hX dX4_liking_108 zi_b_6 ?_
    refine zv_aload_n hX dX4_liking_110 2 rfl ?_
    refine zv_geta hX wf_X4_64 wc_4 zd_42 zj_42_0 c9_4 zr_42_0 (by decide) dX4_liking_111 ?_
    refine zv_geta hX wf_X4_156 wc_5 zd_3 zj_3_3 c9_5 zr_3_3 (by decide) dX4_liking_114 ?_
    refine zv_iload_n hX dX4_liking_117 4 rfl ?_
    refine zv_iald hX dX4_liking_118 (fun x22 => ?_)
    refine zv_iast hX dX4_liking_119 (fun s23 => ?_)
    refine zv_aload_n hX dX4_liking_120 2 rfl ?_
    refine zv_geta hX wf_X4_43 wc_4 zd_42 zj_42_11 c9_4 zr_42_11 (by decide) dX4_liking_121 ?_
    refine zv_iload_n hX dX4_liking_124 1 rfl ?_
    refine zv_aload_n hX dX4_liking_125 2 rfl ?_
    refine zv_geta hX wf_X4_64 wc_4 zd_42 zj_42_0 c9_4 zr_42_0 (by decide) dX4_liking_126 ?_
    refine zv_geti hX wf_X4_159 wc_5 zd_3 zj_3_11 c9_5 zr_3_11 dX4_liking_129 ?_
    refine zv_aload_n hX dX4_liking_132 2 rfl ?_
    refine zv_geta hX wf_X4_64 wc_4 zd_42 zj_42_0 c9_4 zr_42_0 (by decide) dX4_liking_133 ?_
    refine zv_geti hX wf_X4_162 wc_5 zd_3 zj_3_12 c9_5 zr_3_12 dX4_liking_136 ?_
    refine zv_icmp_ne (tgt := 146) hX dX4_liking_139 rfl ?_ ?_
    · refine zv_aload_n hX dX4_liking_146 2 rfl ?_
      refine zv_aload_n hX dX4_liking_147 2 rfl ?_
      refine zv_geta hX wf_X4_64 wc_4 zd_42 zj_42_0 c9_4 zr_42_0 (by decide) dX4_liking_148 ?_
      refine zv_geti hX wf_X4_159 wc_5 zd_3 zj_3_11 c9_5 zr_3_11 dX4_liking_151 ?_
      refine zv_aload_n hX dX4_liking_154 2 rfl ?_
      refine zv_geta hX wf_X4_64 wc_4 zd_42 zj_42_0 c9_4 zr_42_0 (by decide) dX4_liking_155 ?_
      refine zv_geti hX wf_X4_162 wc_5 zd_3 zj_3_12 c9_5 zr_3_12 dX4_liking_158 ?_
      refine zv_cVI [.int (s23.1 3 11), .int (s23.1 3 12)] (rest := [.int x3, .ref (zx_ad X 53)]) hX hT.2.2.2.2 (c_X4_reckon (zx_Y X) (s23.1 3 11) (s23.1 3 12) s23) wv_X4_reckon c9_4 zd_42 wm_X4_150 rfl (Nat.le_of_ble_eq_true rfl) (Nat.le_of_ble_eq_true rfl) rfl (Nat.le_of_ble_eq_true rfl) dX4_liking_161 (fun r24 s25 => ?_)
      exact zv_sub [2, 1] rfl (b_X4_liking_164 hX hT x3 r24 x3 s25)
    · refine zv_iconst (v := (1 : Int32)) hX dX4_liking_142 zi_i_1 ?_
      refine zv_goto (tgt := 164) hX dX4_liking_143 rfl ?_
      exact zv_sub [2, 1] rfl (b_X4_liking_164 hX hT x3 (1 : Int32) x3 s23)
theorem dX4_lawFits_0 : decode cX4_lawFits 0 = .ok (.aload_n 0, 1) := by decide +kernel
theorem dX4_lawFits_1 : decode cX4_lawFits 1 = .ok (.getfield 64, 3) := by decide +kernel
theorem dX4_lawFits_4 : decode cX4_lawFits 4 = .ok (.getfield 144, 3) := by decide +kernel
theorem dX4_lawFits_7 : decode cX4_lawFits 7 = .ok (.aload_n 0, 1) := by decide +kernel
theorem dX4_lawFits_8 : decode cX4_lawFits 8 = .ok (.getfield 64, 3) := by decide +kernel
theorem dX4_lawFits_11 : decode cX4_lawFits 11 = .ok (.getfield 147, 3) := by decide +kernel
theorem dX4_lawFits_14 : decode cX4_lawFits 14 = .ok (.if_icmp .ne 14, 3) := by decide +kernel
theorem dX4_lawFits_17 : decode cX4_lawFits 17 = .ok (.iload_n 1, 1) := by decide +kernel
theorem dX4_lawFits_18 : decode cX4_lawFits 18 = .ok (.iconst 2, 1) := by decide +kernel
theorem dX4_lawFits_19 : decode cX4_lawFits 19 = .ok (.if_icmp .ge 7, 3) := by decide +kernel
theorem dX4_lawFits_22 : decode cX4_lawFits 22 = .ok (.iconst 1, 1) := by decide +kernel
theorem dX4_lawFits_23 : decode cX4_lawFits 23 = .ok (.goto 4, 3) := by decide +kernel
theorem dX4_lawFits_26 : decode cX4_lawFits 26 = .ok (.iconst 0, 1) := by decide +kernel
theorem dX4_lawFits_27 : decode cX4_lawFits 27 = .ok (.ireturn, 1) := by decide +kernel
theorem dX4_lawFits_28 : decode cX4_lawFits 28 = .ok (.aload_n 0, 1) := by decide +kernel
theorem dX4_lawFits_29 : decode cX4_lawFits 29 = .ok (.getfield 61, 3) := by decide +kernel
theorem dX4_lawFits_32 : decode cX4_lawFits 32 = .ok (.iconst 0, 1) := by decide +kernel
theorem dX4_lawFits_33 : decode cX4_lawFits 33 = .ok (.iload_n 1, 1) := by decide +kernel
theorem dX4_lawFits_34 : decode cX4_lawFits 34 = .ok (.iastore, 1) := by decide +kernel
theorem dX4_lawFits_35 : decode cX4_lawFits 35 = .ok (.aload_n 0, 1) := by decide +kernel
theorem dX4_lawFits_36 : decode cX4_lawFits 36 = .ok (.getfield 61, 3) := by decide +kernel
theorem dX4_lawFits_39 : decode cX4_lawFits 39 = .ok (.iconst 1, 1) := by decide +kernel
theorem dX4_lawFits_40 : decode cX4_lawFits 40 = .ok (.iload_n 2, 1) := by decide +kernel
theorem dX4_lawFits_41 : decode cX4_lawFits 41 = .ok (.iastore, 1) := by decide +kernel
theorem dX4_lawFits_42 : decode cX4_lawFits 42 = .ok (.aload_n 0, 1) := by decide +kernel
theorem dX4_lawFits_43 : decode cX4_lawFits 43 = .ok (.getfield 61, 3) := by decide +kernel
theorem dX4_lawFits_46 : decode cX4_lawFits 46 = .ok (.iconst 2, 1) := by decide +kernel
theorem dX4_lawFits_47 : decode cX4_lawFits 47 = .ok (.iload_n 3, 1) := by decide +kernel
theorem dX4_lawFits_48 : decode cX4_lawFits 48 = .ok (.iastore, 1) := by decide +kernel
theorem dX4_lawFits_49 : decode cX4_lawFits 49 = .ok (.aload_n 0, 1) := by decide +kernel
theorem dX4_lawFits_50 : decode cX4_lawFits 50 = .ok (.aload_n 0, 1) := by decide +kernel
theorem dX4_lawFits_51 : decode cX4_lawFits 51 = .ok (.getfield 64, 3) := by decide +kernel
theorem dX4_lawFits_54 : decode cX4_lawFits 54 = .ok (.getfield 144, 3) := by decide +kernel
theorem dX4_lawFits_57 : decode cX4_lawFits 57 = .ok (.aload_n 0, 1) := by decide +kernel
theorem dX4_lawFits_58 : decode cX4_lawFits 58 = .ok (.getfield 64, 3) := by decide +kernel
theorem dX4_lawFits_61 : decode cX4_lawFits 61 = .ok (.getfield 147, 3) := by decide +kernel
theorem dX4_lawFits_64 : decode cX4_lawFits 64 = .ok (.invokevirtual 150, 3) := by decide +kernel
theorem dX4_lawFits_67 : decode cX4_lawFits 67 = .ok (.ifCond .eq 7, 3) := by decide +kernel
theorem dX4_lawFits_70 : decode cX4_lawFits 70 = .ok (.iconst 1, 1) := by decide +kernel
theorem dX4_lawFits_71 : decode cX4_lawFits 71 = .ok (.goto 4, 3) := by decide +kernel
theorem dX4_lawFits_74 : decode cX4_lawFits 74 = .ok (.iconst 0, 1) := by decide +kernel
theorem dX4_lawFits_75 : decode cX4_lawFits 75 = .ok (.ireturn, 1) := by decide +kernel
def f_X4_lawFits_75 (w0 : Int32) (s : zS) : Option (Int32 × zS) :=
  if w0 = 0 ∨ w0 = 1 then some (w0, s) else none
set_option maxRecDepth 20000 in
theorem b_X4_lawFits_75 {X : zX} (hX : zx_ok X cX4_lawFits RX4 4) (hT : zx_rt X (some .boolean) (zR 1 31)) : ∀ (w0 : Int32) (s : zS), zV X (zq X zrI) 4 75 [] [.int w0] s (f_X4_lawFits_75 w0 s) := by
  intro w0 s
  unfold f_X4_lawFits_75
  exact zv_iretzB hX hT dX4_lawFits_75
def f_X4_lawFits_27 (w0 : Int32) (s : zS) : Option (Int32 × zS) :=
  if w0 = 0 ∨ w0 = 1 then some (w0, s) else none
set_option maxRecDepth 20000 in
theorem b_X4_lawFits_27 {X : zX} (hX : zx_ok X cX4_lawFits RX4 4) (hT : zx_rt X (some .boolean) (zR 1 31)) : ∀ (w0 : Int32) (s : zS), zV X (zq X zrI) 4 27 [] [.int w0] s (f_X4_lawFits_27 w0 s) := by
  intro w0 s
  unfold f_X4_lawFits_27
  exact zv_iretzB hX hT dX4_lawFits_27
def f_X4_lawFits (v1 : Int32) (v2 : Int32) (v3 : Int32) (s : zS) : Option (Int32 × zS) :=
  if ¬ (s.1 3 9) = (s.1 3 10) then
  ((zw_i s 59 (0 : Int32) v1).bind fun s1 =>
  (zw_i s1 59 (1 : Int32) v2).bind fun s2 =>
  (zw_i s2 59 (nI 2) v3).bind fun s3 =>
  zbd (f_X4_reckon (s3.1 3 9) (s3.1 3 10) s3) fun r4 s5 =>
  if r4 = 0 then
  (f_X4_lawFits_75 (0 : Int32) s5)
  else
  f_X4_lawFits_75 (1 : Int32) s5)
  else
  if (nI 2) ≤ v1 then
  (f_X4_lawFits_27 (0 : Int32) s)
  else
  f_X4_lawFits_27 (1 : Int32) s
set_option maxRecDepth 20000 in
theorem c_X4_lawFits (Y : zG) (v1 : Int32) (v2 : Int32) (v3 : Int32) (s : zS) : zM Y yX4_lawFits cX4_lawFits 4 (some .boolean) (zR 1 31) [.ref (zy_a Y 42), .int v1, .int v2, .int v3] s zrI (f_X4_lawFits v1 v2 v3 s) := by
  refine zm_start (by decide +kernel) (Nat.le_of_ble_eq_true rfl) ?_
  intro X hY hT hX
  subst hY
  have hX : zx_ok X cX4_lawFits RX4 4 := hX
  show zV X (zq X zrI) 4 0 [(0, .ref (zx_ad X 42)), (1, .int v1), (2, .int v2), (3, .int v3)] [] s _
  unfold f_X4_lawFits
  refine zv_aload_n hX dX4_lawFits_0 0 rfl ?_
  refine zv_geta hX wf_X4_64 wc_4 zd_42 zj_42_0 c9_4 zr_42_0 (by decide) dX4_lawFits_1 ?_
  refine zv_geti hX wf_X4_144 wc_5 zd_3 zj_3_9 c9_5 zr_3_9 dX4_lawFits_4 ?_
  refine zv_aload_n hX dX4_lawFits_7 0 rfl ?_
  refine zv_geta hX wf_X4_64 wc_4 zd_42 zj_42_0 c9_4 zr_42_0 (by decide) dX4_lawFits_8 ?_
  refine zv_geti hX wf_X4_147 wc_5 zd_3 zj_3_10 c9_5 zr_3_10 dX4_lawFits_11 ?_
  refine zv_icmp_ne (tgt := 28) hX dX4_lawFits_14 rfl ?_ ?_
  · refine zv_aload_n hX dX4_lawFits_28 0 rfl ?_
    refine zv_geta hX wf_X4_61 wc_4 zd_42 zj_42_18 c9_4 zr_42_18 (by decide) dX4_lawFits_29 ?_
    refine zv_iconst (v := (0 : Int32)) hX dX4_lawFits_32 zi_i_0 ?_
    refine zv_iload_n hX dX4_lawFits_33 1 rfl ?_
    refine zv_iast hX dX4_lawFits_34 (fun s1 => ?_)
    refine zv_aload_n hX dX4_lawFits_35 0 rfl ?_
    refine zv_geta hX wf_X4_61 wc_4 zd_42 zj_42_18 c9_4 zr_42_18 (by decide) dX4_lawFits_36 ?_
    refine zv_iconst (v := (1 : Int32)) hX dX4_lawFits_39 zi_i_1 ?_
    refine zv_iload_n hX dX4_lawFits_40 2 rfl ?_
    refine zv_iast hX dX4_lawFits_41 (fun s2 => ?_)
    refine zv_aload_n hX dX4_lawFits_42 0 rfl ?_
    refine zv_geta hX wf_X4_61 wc_4 zd_42 zj_42_18 c9_4 zr_42_18 (by decide) dX4_lawFits_43 ?_
    refine zv_iconst (v := (nI 2)) hX dX4_lawFits_46 zi_i_2 ?_
    refine zv_iload_n hX dX4_lawFits_47 3 rfl ?_
    refine zv_iast hX dX4_lawFits_48 (fun s3 => ?_)
    refine zv_aload_n hX dX4_lawFits_49 0 rfl ?_
    refine zv_aload_n hX dX4_lawFits_50 0 rfl ?_
    refine zv_geta hX wf_X4_64 wc_4 zd_42 zj_42_0 c9_4 zr_42_0 (by decide) dX4_lawFits_51 ?_
    refine zv_geti hX wf_X4_144 wc_5 zd_3 zj_3_9 c9_5 zr_3_9 dX4_lawFits_54 ?_
    refine zv_aload_n hX dX4_lawFits_57 0 rfl ?_
    refine zv_geta hX wf_X4_64 wc_4 zd_42 zj_42_0 c9_4 zr_42_0 (by decide) dX4_lawFits_58 ?_
    refine zv_geti hX wf_X4_147 wc_5 zd_3 zj_3_10 c9_5 zr_3_10 dX4_lawFits_61 ?_
    refine zv_cVI [.int (s3.1 3 9), .int (s3.1 3 10)] (rest := []) hX hT.2.2.2.2 (c_X4_reckon (zx_Y X) (s3.1 3 9) (s3.1 3 10) s3) wv_X4_reckon c9_4 zd_42 wm_X4_150 rfl (Nat.le_of_ble_eq_true rfl) (Nat.le_of_ble_eq_true rfl) rfl (Nat.le_of_ble_eq_true rfl) dX4_lawFits_64 (fun r4 s5 => ?_)
    refine zv_if_eq (tgt := 74) hX dX4_lawFits_67 rfl ?_ ?_
    · refine zv_iconst (v := (0 : Int32)) hX dX4_lawFits_74 zi_i_0 ?_
      exact zv_sub [] rfl (b_X4_lawFits_75 hX hT (0 : Int32) s5)
    · refine zv_iconst (v := (1 : Int32)) hX dX4_lawFits_70 zi_i_1 ?_
      refine zv_goto (tgt := 75) hX dX4_lawFits_71 rfl ?_
      exact zv_sub [] rfl (b_X4_lawFits_75 hX hT (1 : Int32) s5)
  · refine zv_iload_n hX dX4_lawFits_17 1 rfl ?_
    refine zv_iconst (v := (nI 2)) hX dX4_lawFits_18 zi_i_2 ?_
    refine zv_icmp_ge (tgt := 26) hX dX4_lawFits_19 rfl ?_ ?_
    · refine zv_iconst (v := (0 : Int32)) hX dX4_lawFits_26 zi_i_0 ?_
      exact zv_sub [] rfl (b_X4_lawFits_27 hX hT (0 : Int32) s)
    · refine zv_iconst (v := (1 : Int32)) hX dX4_lawFits_22 zi_i_1 ?_
      refine zv_goto (tgt := 27) hX dX4_lawFits_23 rfl ?_
      exact zv_sub [] rfl (b_X4_lawFits_27 hX hT (1 : Int32) s)
theorem dX5_inkOf_0 : decode cX5_inkOf 0 = .ok (.iconst 0, 1) := by decide +kernel
theorem dX5_inkOf_1 : decode cX5_inkOf 1 = .ok (.istore_n 2, 1) := by decide +kernel
theorem dX5_inkOf_2 : decode cX5_inkOf 2 = .ok (.iconst 0, 1) := by decide +kernel
theorem dX5_inkOf_3 : decode cX5_inkOf 3 = .ok (.istore_n 3, 1) := by decide +kernel
theorem dX5_inkOf_4 : decode cX5_inkOf 4 = .ok (.iload_n 3, 1) := by decide +kernel
theorem dX5_inkOf_5 : decode cX5_inkOf 5 = .ok (.aload_n 0, 1) := by decide +kernel
theorem dX5_inkOf_6 : decode cX5_inkOf 6 = .ok (.getfield 42, 3) := by decide +kernel
theorem dX5_inkOf_9 : decode cX5_inkOf 9 = .ok (.if_icmp .ge 30, 3) := by decide +kernel
theorem dX5_inkOf_12 : decode cX5_inkOf 12 = .ok (.iload_n 1, 1) := by decide +kernel
theorem dX5_inkOf_13 : decode cX5_inkOf 13 = .ok (.iload_n 3, 1) := by decide +kernel
theorem dX5_inkOf_14 : decode cX5_inkOf 14 = .ok (.iushr, 1) := by decide +kernel
theorem dX5_inkOf_15 : decode cX5_inkOf 15 = .ok (.iconst 1, 1) := by decide +kernel
theorem dX5_inkOf_16 : decode cX5_inkOf 16 = .ok (.iand, 1) := by decide +kernel
theorem dX5_inkOf_17 : decode cX5_inkOf 17 = .ok (.iconst 1, 1) := by decide +kernel
theorem dX5_inkOf_18 : decode cX5_inkOf 18 = .ok (.if_icmp .ne 15, 3) := by decide +kernel
theorem dX5_inkOf_21 : decode cX5_inkOf 21 = .ok (.iload_n 2, 1) := by decide +kernel
theorem dX5_inkOf_22 : decode cX5_inkOf 22 = .ok (.aload_n 0, 1) := by decide +kernel
theorem dX5_inkOf_23 : decode cX5_inkOf 23 = .ok (.getfield 9, 3) := by decide +kernel
theorem dX5_inkOf_26 : decode cX5_inkOf 26 = .ok (.iload_n 3, 1) := by decide +kernel
theorem dX5_inkOf_27 : decode cX5_inkOf 27 = .ok (.iaload, 1) := by decide +kernel
theorem dX5_inkOf_28 : decode cX5_inkOf 28 = .ok (.invokestatic 86, 3) := by decide +kernel
theorem dX5_inkOf_31 : decode cX5_inkOf 31 = .ok (.iadd, 1) := by decide +kernel
theorem dX5_inkOf_32 : decode cX5_inkOf 32 = .ok (.istore_n 2, 1) := by decide +kernel
theorem dX5_inkOf_33 : decode cX5_inkOf 33 = .ok (.iinc 3 1, 3) := by decide +kernel
theorem dX5_inkOf_36 : decode cX5_inkOf 36 = .ok (.goto (-32), 3) := by decide +kernel
theorem dX5_inkOf_39 : decode cX5_inkOf 39 = .ok (.iload_n 2, 1) := by decide +kernel
theorem dX5_inkOf_40 : decode cX5_inkOf 40 = .ok (.ireturn, 1) := by decide +kernel
def f_X5_inkOf_3_33 (kb_4 : Int32 → Int32 → Int32 → zS → Option (Int32 × zS)) (v1 : Int32) (v2 : Int32) (v3 : Int32) (s : zS) : Option (Int32 × zS) :=
  zb (v3 + (1 : Int32)) fun x1 =>
  kb_4 v1 v2 x1 s
set_option maxRecDepth 20000 in
theorem b_X5_inkOf_3_33 {X : zX} {kb_4 : Int32 → Int32 → Int32 → zS → Option (Int32 × zS)} (hX : zx_ok X cX5_inkOf RX5 4) (hT : zx_rt X (some .int) (zR 1 20)) (hk_4 : ∀ (v1 : Int32) (v2 : Int32) (v3 : Int32) (s : zS), zV X (zq X zrI) 4 4 [(0, .ref (zx_ad X 3)), (1, .int v1), (2, .int v2), (3, .int v3)] [] s (kb_4 v1 v2 v3 s)) : ∀ (v1 : Int32) (v2 : Int32) (v3 : Int32) (s : zS), zV X (zq X zrI) 4 33 [(0, .ref (zx_ad X 3)), (1, .int v1), (2, .int v2), (3, .int v3)] [] s (f_X5_inkOf_3_33 kb_4 v1 v2 v3 s) := by
  intro v1 v2 v3 s
  unfold f_X5_inkOf_3_33
  refine zv_iincB (lw := fun x1 => [(3, .int x1), (0, .ref (zx_ad X 3)), (1, .int v1), (2, .int v2)]) hX dX5_inkOf_33 3 rfl zi_i_1 (by decide) (fun _ => rfl) (fun x1 => ?_)
  refine zv_goto (tgt := 4) hX dX5_inkOf_36 rfl ?_
  exact zv_sub [1, 2, 3, 0] rfl (hk_4 v1 v2 x1 s)
def f_X5_inkOf_3_4 : Nat → Int32 → Int32 → Int32 → zS → Option (Int32 × zS)
  | 0, _, _, _, _ => none
  | n + 1, v1, v2, v3, s =>
    if (s.1 3 0) ≤ v3 then
    (some (v2, s))
    else
    if ¬ ((zo_ush v1 v3) &&& (1 : Int32)) = (1 : Int32) then
    (f_X5_inkOf_3_33 (f_X5_inkOf_3_4 n) v1 v2 v3 s)
    else
    (zr_i s 4 v3).bind fun x2 =>
    zbd (f_J6_bitCount_0f7a4 x2 s) fun r3 s4 =>
    zb (v2 + r3) fun x5 =>
    f_X5_inkOf_3_33 (f_X5_inkOf_3_4 n) v1 x5 v3 s4
set_option maxRecDepth 20000 in
theorem b_X5_inkOf_3_4 {X : zX} (hX : zx_ok X cX5_inkOf RX5 4) (hT : zx_rt X (some .int) (zR 1 20)) : ∀ (n : Nat) (v1 : Int32) (v2 : Int32) (v3 : Int32) (s : zS), zV X (zq X zrI) 4 4 [(0, .ref (zx_ad X 3)), (1, .int v1), (2, .int v2), (3, .int v3)] [] s (f_X5_inkOf_3_4 n v1 v2 v3 s) := by
  intro n
  induction n with
  | zero => intro v1 v2 v3 s; exact zv_none
  | succ n ih =>
    intro v1 v2 v3 s
    rw [f_X5_inkOf_3_4]
    refine zv_iload_n hX dX5_inkOf_4 3 rfl ?_
    refine zv_aload_n hX dX5_inkOf_5 0 rfl ?_
    refine zv_geti hX wf_X5_42 wc_5 zd_3 zj_3_0 c9_5 zr_3_0 dX5_inkOf_6 ?_
    refine zv_icmp_ge (tgt := 39) hX dX5_inkOf_9 rfl ?_ ?_
    · refine zv_iload_n hX dX5_inkOf_39 2 rfl ?_
      exact zv_ireti hX hT dX5_inkOf_40
    · refine zv_iload_n hX dX5_inkOf_12 1 rfl ?_
      refine zv_iload_n hX dX5_inkOf_13 3 rfl ?_
      refine zv_iushr hX dX5_inkOf_14 ?_
      refine zv_iconst (v := (1 : Int32)) hX dX5_inkOf_15 zi_i_1 ?_
      refine zv_iand hX dX5_inkOf_16 ?_
      refine zv_iconst (v := (1 : Int32)) hX dX5_inkOf_17 zi_i_1 ?_
      refine zv_icmp_ne (tgt := 33) hX dX5_inkOf_18 rfl ?_ ?_
      · exact b_X5_inkOf_3_33 hX hT ih v1 v2 v3 s
      · refine zv_iload_n hX dX5_inkOf_21 2 rfl ?_
        refine zv_aload_n hX dX5_inkOf_22 0 rfl ?_
        refine zv_geta hX wf_X5_9 wc_5 zd_3 zj_3_2 c9_5 zr_3_2 (by decide) dX5_inkOf_23 ?_
        refine zv_iload_n hX dX5_inkOf_26 3 rfl ?_
        refine zv_iald hX dX5_inkOf_27 (fun x2 => ?_)
        refine zv_cSI [.int x2] (rest := [.int v2]) hX hT.2.2.2.2 (c_J6_bitCount_0f7a4 (zx_Y X) x2 s) wv_J6_bitCount_0f7a4 wm_X5_86 rfl (Nat.le_of_ble_eq_true rfl) (Nat.le_of_ble_eq_true rfl) rfl (Nat.le_of_ble_eq_true rfl) dX5_inkOf_28 (fun r3 s4 => ?_)
        refine zv_iadd hX dX5_inkOf_31 ?_
        refine zv_istB_n (lw := fun x5 => [(2, .int x5), (0, .ref (zx_ad X 3)), (1, .int v1), (3, .int v3)]) hX dX5_inkOf_32 (by decide) (fun _ => rfl) (fun x5 => ?_)
        exact zv_sub [1, 2, 0, 3] rfl (b_X5_inkOf_3_33 hX hT ih v1 x5 v3 s4)
def f_X5_inkOf_3 (v1 : Int32) (s : zS) : Option (Int32 × zS) :=
  f_X5_inkOf_3_4 zFU v1 (0 : Int32) (0 : Int32) s
set_option maxRecDepth 20000 in
theorem c_X5_inkOf_3 (Y : zG) (v1 : Int32) (s : zS) : zM Y yX5_inkOf cX5_inkOf 4 (some .int) (zR 1 20) [.ref (zy_a Y 3), .int v1] s zrI (f_X5_inkOf_3 v1 s) := by
  refine zm_start (by decide +kernel) (Nat.le_of_ble_eq_true rfl) ?_
  intro X hY hT hX
  subst hY
  have hX : zx_ok X cX5_inkOf RX5 4 := hX
  show zV X (zq X zrI) 4 0 [(0, .ref (zx_ad X 3)), (1, .int v1)] [] s _
  unfold f_X5_inkOf_3
  refine zv_iconst (v := (0 : Int32)) hX dX5_inkOf_0 zi_i_0 ?_
  refine zv_istore_n (lv' := [(2, .int (0 : Int32)), (0, .ref (zx_ad X 3)), (1, .int v1)]) hX dX5_inkOf_1 (by decide) rfl ?_
  refine zv_iconst (v := (0 : Int32)) hX dX5_inkOf_2 zi_i_0 ?_
  refine zv_istore_n (lv' := [(3, .int (0 : Int32)), (2, .int (0 : Int32)), (0, .ref (zx_ad X 3)), (1, .int v1)]) hX dX5_inkOf_3 (by decide) rfl ?_
  exact zv_sub [2, 3, 1, 0] rfl (b_X5_inkOf_3_4 hX hT zFU v1 (0 : Int32) (0 : Int32) s)
theorem dX5_signAgeOf_0 : decode cX5_signAgeOf 0 = .ok (.iconst 0, 1) := by decide +kernel
theorem dX5_signAgeOf_1 : decode cX5_signAgeOf 1 = .ok (.istore_n 2, 1) := by decide +kernel
theorem dX5_signAgeOf_2 : decode cX5_signAgeOf 2 = .ok (.iconst 0, 1) := by decide +kernel
theorem dX5_signAgeOf_3 : decode cX5_signAgeOf 3 = .ok (.istore_n 3, 1) := by decide +kernel
theorem dX5_signAgeOf_4 : decode cX5_signAgeOf 4 = .ok (.iload_n 3, 1) := by decide +kernel
theorem dX5_signAgeOf_5 : decode cX5_signAgeOf 5 = .ok (.bipush 7, 2) := by decide +kernel
theorem dX5_signAgeOf_7 : decode cX5_signAgeOf 7 = .ok (.if_icmp .ge 27, 3) := by decide +kernel
theorem dX5_signAgeOf_10 : decode cX5_signAgeOf 10 = .ok (.iload_n 1, 1) := by decide +kernel
theorem dX5_signAgeOf_11 : decode cX5_signAgeOf 11 = .ok (.iload_n 3, 1) := by decide +kernel
theorem dX5_signAgeOf_12 : decode cX5_signAgeOf 12 = .ok (.iushr, 1) := by decide +kernel
theorem dX5_signAgeOf_13 : decode cX5_signAgeOf 13 = .ok (.iconst 1, 1) := by decide +kernel
theorem dX5_signAgeOf_14 : decode cX5_signAgeOf 14 = .ok (.iand, 1) := by decide +kernel
theorem dX5_signAgeOf_15 : decode cX5_signAgeOf 15 = .ok (.iconst 1, 1) := by decide +kernel
theorem dX5_signAgeOf_16 : decode cX5_signAgeOf 16 = .ok (.if_icmp .ne 12, 3) := by decide +kernel
theorem dX5_signAgeOf_19 : decode cX5_signAgeOf 19 = .ok (.iload_n 2, 1) := by decide +kernel
theorem dX5_signAgeOf_20 : decode cX5_signAgeOf 20 = .ok (.aload_n 0, 1) := by decide +kernel
theorem dX5_signAgeOf_21 : decode cX5_signAgeOf 21 = .ok (.getfield 30, 3) := by decide +kernel
theorem dX5_signAgeOf_24 : decode cX5_signAgeOf 24 = .ok (.iload_n 3, 1) := by decide +kernel
theorem dX5_signAgeOf_25 : decode cX5_signAgeOf 25 = .ok (.iaload, 1) := by decide +kernel
theorem dX5_signAgeOf_26 : decode cX5_signAgeOf 26 = .ok (.iadd, 1) := by decide +kernel
theorem dX5_signAgeOf_27 : decode cX5_signAgeOf 27 = .ok (.istore_n 2, 1) := by decide +kernel
theorem dX5_signAgeOf_28 : decode cX5_signAgeOf 28 = .ok (.iinc 3 1, 3) := by decide +kernel
theorem dX5_signAgeOf_31 : decode cX5_signAgeOf 31 = .ok (.goto (-27), 3) := by decide +kernel
theorem dX5_signAgeOf_34 : decode cX5_signAgeOf 34 = .ok (.iload_n 2, 1) := by decide +kernel
theorem dX5_signAgeOf_35 : decode cX5_signAgeOf 35 = .ok (.ireturn, 1) := by decide +kernel
def f_X5_signAgeOf_3_28 (kb_4 : Int32 → Int32 → Int32 → zS → Option (Int32 × zS)) (v1 : Int32) (v2 : Int32) (v3 : Int32) (s : zS) : Option (Int32 × zS) :=
  zb (v3 + (1 : Int32)) fun x1 =>
  kb_4 v1 v2 x1 s
set_option maxRecDepth 20000 in
theorem b_X5_signAgeOf_3_28 {X : zX} {kb_4 : Int32 → Int32 → Int32 → zS → Option (Int32 × zS)} (hX : zx_ok X cX5_signAgeOf RX5 4) (hT : zx_rt X (some .int) (zR 0 0)) (hk_4 : ∀ (v1 : Int32) (v2 : Int32) (v3 : Int32) (s : zS), zV X (zq X zrI) 4 4 [(0, .ref (zx_ad X 3)), (1, .int v1), (2, .int v2), (3, .int v3)] [] s (kb_4 v1 v2 v3 s)) : ∀ (v1 : Int32) (v2 : Int32) (v3 : Int32) (s : zS), zV X (zq X zrI) 4 28 [(0, .ref (zx_ad X 3)), (1, .int v1), (2, .int v2), (3, .int v3)] [] s (f_X5_signAgeOf_3_28 kb_4 v1 v2 v3 s) := by
  intro v1 v2 v3 s
  unfold f_X5_signAgeOf_3_28
  refine zv_iincB (lw := fun x1 => [(3, .int x1), (0, .ref (zx_ad X 3)), (1, .int v1), (2, .int v2)]) hX dX5_signAgeOf_28 3 rfl zi_i_1 (by decide) (fun _ => rfl) (fun x1 => ?_)
  refine zv_goto (tgt := 4) hX dX5_signAgeOf_31 rfl ?_
  exact zv_sub [1, 2, 3, 0] rfl (hk_4 v1 v2 x1 s)
def f_X5_signAgeOf_3_4 : Nat → Int32 → Int32 → Int32 → zS → Option (Int32 × zS)
  | 0, _, _, _, _ => none
  | n + 1, v1, v2, v3, s =>
    if (nI 7) ≤ v3 then
    (some (v2, s))
    else
    if ¬ ((zo_ush v1 v3) &&& (1 : Int32)) = (1 : Int32) then
    (f_X5_signAgeOf_3_28 (f_X5_signAgeOf_3_4 n) v1 v2 v3 s)
    else
    (zr_i s 10 v3).bind fun x2 =>
    zb (v2 + x2) fun x3 =>
    f_X5_signAgeOf_3_28 (f_X5_signAgeOf_3_4 n) v1 x3 v3 s
set_option maxRecDepth 20000 in
theorem b_X5_signAgeOf_3_4 {X : zX} (hX : zx_ok X cX5_signAgeOf RX5 4) (hT : zx_rt X (some .int) (zR 0 0)) : ∀ (n : Nat) (v1 : Int32) (v2 : Int32) (v3 : Int32) (s : zS), zV X (zq X zrI) 4 4 [(0, .ref (zx_ad X 3)), (1, .int v1), (2, .int v2), (3, .int v3)] [] s (f_X5_signAgeOf_3_4 n v1 v2 v3 s) := by
  intro n
  induction n with
  | zero => intro v1 v2 v3 s; exact zv_none
  | succ n ih =>
    intro v1 v2 v3 s
    rw [f_X5_signAgeOf_3_4]
    refine zv_iload_n hX dX5_signAgeOf_4 3 rfl ?_
    refine zv_bipush (v := (nI 7)) hX dX5_signAgeOf_5 zi_b_7 ?_
    refine zv_icmp_ge (tgt := 34) hX dX5_signAgeOf_7 rfl ?_ ?_
    · refine zv_iload_n hX dX5_signAgeOf_34 2 rfl ?_
      exact zv_ireti hX hT dX5_signAgeOf_35
    · refine zv_iload_n hX dX5_signAgeOf_10 1 rfl ?_
      refine zv_iload_n hX dX5_signAgeOf_11 3 rfl ?_
      refine zv_iushr hX dX5_signAgeOf_12 ?_
      refine zv_iconst (v := (1 : Int32)) hX dX5_signAgeOf_13 zi_i_1 ?_
      refine zv_iand hX dX5_signAgeOf_14 ?_
      refine zv_iconst (v := (1 : Int32)) hX dX5_signAgeOf_15 zi_i_1 ?_
      refine zv_icmp_ne (tgt := 28) hX dX5_signAgeOf_16 rfl ?_ ?_
      · exact b_X5_signAgeOf_3_28 hX hT ih v1 v2 v3 s
      · refine zv_iload_n hX dX5_signAgeOf_19 2 rfl ?_
        refine zv_aload_n hX dX5_signAgeOf_20 0 rfl ?_
        refine zv_geta hX wf_X5_30 wc_5 zd_3 zj_3_13 c9_5 zr_3_13 (by decide) dX5_signAgeOf_21 ?_
        refine zv_iload_n hX dX5_signAgeOf_24 3 rfl ?_
        refine zv_iald hX dX5_signAgeOf_25 (fun x2 => ?_)
        refine zv_iadd hX dX5_signAgeOf_26 ?_
        refine zv_istB_n (lw := fun x3 => [(2, .int x3), (0, .ref (zx_ad X 3)), (1, .int v1), (3, .int v3)]) hX dX5_signAgeOf_27 (by decide) (fun _ => rfl) (fun x3 => ?_)
        exact zv_sub [1, 2, 0, 3] rfl (b_X5_signAgeOf_3_28 hX hT ih v1 x3 v3 s)
def f_X5_signAgeOf_3 (v1 : Int32) (s : zS) : Option (Int32 × zS) :=
  f_X5_signAgeOf_3_4 zFU v1 (0 : Int32) (0 : Int32) s
set_option maxRecDepth 20000 in
theorem c_X5_signAgeOf_3 (Y : zG) (v1 : Int32) (s : zS) : zM Y yX5_signAgeOf cX5_signAgeOf 4 (some .int) (zR 0 0) [.ref (zy_a Y 3), .int v1] s zrI (f_X5_signAgeOf_3 v1 s) := by
  refine zm_start (by decide +kernel) (Nat.le_of_ble_eq_true rfl) ?_
  intro X hY hT hX
  subst hY
  have hX : zx_ok X cX5_signAgeOf RX5 4 := hX
  show zV X (zq X zrI) 4 0 [(0, .ref (zx_ad X 3)), (1, .int v1)] [] s _
  unfold f_X5_signAgeOf_3
  refine zv_iconst (v := (0 : Int32)) hX dX5_signAgeOf_0 zi_i_0 ?_
  refine zv_istore_n (lv' := [(2, .int (0 : Int32)), (0, .ref (zx_ad X 3)), (1, .int v1)]) hX dX5_signAgeOf_1 (by decide) rfl ?_
  refine zv_iconst (v := (0 : Int32)) hX dX5_signAgeOf_2 zi_i_0 ?_
  refine zv_istore_n (lv' := [(3, .int (0 : Int32)), (2, .int (0 : Int32)), (0, .ref (zx_ad X 3)), (1, .int v1)]) hX dX5_signAgeOf_3 (by decide) rfl ?_
  exact zv_sub [2, 3, 1, 0] rfl (b_X5_signAgeOf_3_4 hX hT zFU v1 (0 : Int32) (0 : Int32) s)
theorem dX4_twoFit_0 : decode cX4_twoFit 0 = .ok (.iconst 1, 1) := by decide +kernel
theorem dX4_twoFit_1 : decode cX4_twoFit 1 = .ok (.iload_n 1, 1) := by decide +kernel
theorem dX4_twoFit_2 : decode cX4_twoFit 2 = .ok (.ishl, 1) := by decide +kernel
theorem dX4_twoFit_3 : decode cX4_twoFit 3 = .ok (.iconst 1, 1) := by decide +kernel
theorem dX4_twoFit_4 : decode cX4_twoFit 4 = .ok (.iload_n 2, 1) := by decide +kernel
theorem dX4_twoFit_5 : decode cX4_twoFit 5 = .ok (.ishl, 1) := by decide +kernel
theorem dX4_twoFit_6 : decode cX4_twoFit 6 = .ok (.ior, 1) := by decide +kernel
theorem dX4_twoFit_7 : decode cX4_twoFit 7 = .ok (.istore_n 3, 1) := by decide +kernel
theorem dX4_twoFit_8 : decode cX4_twoFit 8 = .ok (.aload_n 0, 1) := by decide +kernel
theorem dX4_twoFit_9 : decode cX4_twoFit 9 = .ok (.getfield 64, 3) := by decide +kernel
theorem dX4_twoFit_12 : decode cX4_twoFit 12 = .ok (.iload_n 3, 1) := by decide +kernel
theorem dX4_twoFit_13 : decode cX4_twoFit 13 = .ok (.invokevirtual 92, 3) := by decide +kernel
theorem dX4_twoFit_16 : decode cX4_twoFit 16 = .ok (.istore 4, 2) := by decide +kernel
theorem dX4_twoFit_18 : decode cX4_twoFit 18 = .ok (.aload_n 0, 1) := by decide +kernel
theorem dX4_twoFit_19 : decode cX4_twoFit 19 = .ok (.getfield 37, 3) := by decide +kernel
theorem dX4_twoFit_22 : decode cX4_twoFit 22 = .ok (.iload_n 3, 1) := by decide +kernel
theorem dX4_twoFit_23 : decode cX4_twoFit 23 = .ok (.iaload, 1) := by decide +kernel
theorem dX4_twoFit_24 : decode cX4_twoFit 24 = .ok (.iload 4, 2) := by decide +kernel
theorem dX4_twoFit_26 : decode cX4_twoFit 26 = .ok (.if_icmp .eq 36, 3) := by decide +kernel
theorem dX4_twoFit_29 : decode cX4_twoFit 29 = .ok (.aload_n 0, 1) := by decide +kernel
theorem dX4_twoFit_30 : decode cX4_twoFit 30 = .ok (.getfield 37, 3) := by decide +kernel
theorem dX4_twoFit_33 : decode cX4_twoFit 33 = .ok (.iload_n 3, 1) := by decide +kernel
theorem dX4_twoFit_34 : decode cX4_twoFit 34 = .ok (.iload 4, 2) := by decide +kernel
theorem dX4_twoFit_36 : decode cX4_twoFit 36 = .ok (.iastore, 1) := by decide +kernel
theorem dX4_twoFit_37 : decode cX4_twoFit 37 = .ok (.aload_n 0, 1) := by decide +kernel
theorem dX4_twoFit_38 : decode cX4_twoFit 38 = .ok (.getfield 33, 3) := by decide +kernel
theorem dX4_twoFit_41 : decode cX4_twoFit 41 = .ok (.iload_n 3, 1) := by decide +kernel
theorem dX4_twoFit_42 : decode cX4_twoFit 42 = .ok (.aload_n 0, 1) := by decide +kernel
theorem dX4_twoFit_43 : decode cX4_twoFit 43 = .ok (.aload_n 0, 1) := by decide +kernel
theorem dX4_twoFit_44 : decode cX4_twoFit 44 = .ok (.iload_n 1, 1) := by decide +kernel
theorem dX4_twoFit_45 : decode cX4_twoFit 45 = .ok (.iload_n 2, 1) := by decide +kernel
theorem dX4_twoFit_46 : decode cX4_twoFit 46 = .ok (.invokevirtual 109, 3) := by decide +kernel
theorem dX4_twoFit_49 : decode cX4_twoFit 49 = .ok (.aload_n 0, 1) := by decide +kernel
theorem dX4_twoFit_50 : decode cX4_twoFit 50 = .ok (.getfield 64, 3) := by decide +kernel
theorem dX4_twoFit_53 : decode cX4_twoFit 53 = .ok (.iload_n 3, 1) := by decide +kernel
theorem dX4_twoFit_54 : decode cX4_twoFit 54 = .ok (.invokevirtual 130, 3) := by decide +kernel
theorem dX4_twoFit_57 : decode cX4_twoFit 57 = .ok (.iconst 2, 1) := by decide +kernel
theorem dX4_twoFit_58 : decode cX4_twoFit 58 = .ok (.invokevirtual 133, 3) := by decide +kernel
theorem dX4_twoFit_61 : decode cX4_twoFit 61 = .ok (.bastore, 1) := by decide +kernel
theorem dX4_twoFit_62 : decode cX4_twoFit 62 = .ok (.aload_n 0, 1) := by decide +kernel
theorem dX4_twoFit_63 : decode cX4_twoFit 63 = .ok (.getfield 33, 3) := by decide +kernel
theorem dX4_twoFit_66 : decode cX4_twoFit 66 = .ok (.iload_n 3, 1) := by decide +kernel
theorem dX4_twoFit_67 : decode cX4_twoFit 67 = .ok (.baload, 1) := by decide +kernel
theorem dX4_twoFit_68 : decode cX4_twoFit 68 = .ok (.ireturn, 1) := by decide +kernel
def f_X4_twoFit_62 (v3 : Int32) (s : zS) : Option (Int32 × zS) :=
  (zr_b s 50 v3).bind fun x1 =>
  if x1 = 0 ∨ x1 = 1 then some (x1, s) else none
set_option maxRecDepth 20000 in
theorem b_X4_twoFit_62 {X : zX} (hX : zx_ok X cX4_twoFit RX4 5) (hT : zx_rt X (some .boolean) (zR 2 54)) : ∀ (v3 : Int32) (s : zS), zV X (zq X zrI) 5 62 [(0, .ref (zx_ad X 42)), (3, .int v3)] [] s (f_X4_twoFit_62 v3 s) := by
  intro v3 s
  unfold f_X4_twoFit_62
  refine zv_aload_n hX dX4_twoFit_62 0 rfl ?_
  refine zv_geta hX wf_X4_33 wc_4 zd_42 zj_42_8 c9_4 zr_42_8 (by decide) dX4_twoFit_63 ?_
  refine zv_iload_n hX dX4_twoFit_66 1 rfl ?_
  refine zv_bald hX dX4_twoFit_67 (fun x1 => ?_)
  exact zv_iretzB hX hT dX4_twoFit_68
def f_X4_twoFit (v1 : Int32) (v2 : Int32) (s : zS) : Option (Int32 × zS) :=
  zb ((zo_shl (1 : Int32) v1) ||| (zo_shl (1 : Int32) v2)) fun x2 =>
  zbd (f_X5_signAgeOf_3 x2 s) fun r3 s4 =>
  (zr_i s4 51 x2).bind fun x5 =>
  if x5 = r3 then
  (f_X4_twoFit_62 x2 s4)
  else
  (zw_i s4 51 x2 r3).bind fun s6 =>
  zbd (f_X4_fewestOf v1 v2 s6) fun r7 s8 =>
  zbd (f_X5_inkOf_3 x2 s8) fun r9 s10 =>
  zbd (f_X4_lawFits r7 r9 (nI 2) s10) fun r11 s12 =>
  (zw_b s12 50 x2 r11).bind fun s13 =>
  f_X4_twoFit_62 x2 s13
set_option maxRecDepth 20000 in
theorem c_X4_twoFit (Y : zG) (v1 : Int32) (v2 : Int32) (s : zS) : zM Y yX4_twoFit cX4_twoFit 5 (some .boolean) (zR 2 54) [.ref (zy_a Y 42), .int v1, .int v2] s zrI (f_X4_twoFit v1 v2 s) := by
  refine zm_start (by decide +kernel) (Nat.le_of_ble_eq_true rfl) ?_
  intro X hY hT hX
  subst hY
  have hX : zx_ok X cX4_twoFit RX4 5 := hX
  show zV X (zq X zrI) 5 0 [(0, .ref (zx_ad X 42)), (1, .int v1), (2, .int v2)] [] s _
  unfold f_X4_twoFit
  refine zv_iconst (v := (1 : Int32)) hX dX4_twoFit_0 zi_i_1 ?_
  refine zv_iload_n hX dX4_twoFit_1 1 rfl ?_
  refine zv_ishl hX dX4_twoFit_2 ?_
  refine zv_iconst (v := (1 : Int32)) hX dX4_twoFit_3 zi_i_1 ?_
  refine zv_iload_n hX dX4_twoFit_4 2 rfl ?_
  refine zv_ishl hX dX4_twoFit_5 ?_
  refine zv_ior hX dX4_twoFit_6 ?_
  refine zv_istB_n (lw := fun x2 => [(3, .int x2), (0, .ref (zx_ad X 42)), (1, .int v1), (2, .int v2)]) hX dX4_twoFit_7 (by decide) (fun _ => rfl) (fun x2 => ?_)
  refine zv_aload_n hX dX4_twoFit_8 1 rfl ?_
  refine zv_geta hX wf_X4_64 wc_4 zd_42 zj_42_0 c9_4 zr_42_0 (by decide) dX4_twoFit_9 ?_
  refine zv_iload_n hX dX4_twoFit_12 0 rfl ?_
  refine zv_cVI [.int x2] (rest := []) hX hT.2.2.2.2 (c_X5_signAgeOf_3 (zx_Y X) x2 s) wv_X5_signAgeOf c9_5 zd_3 wm_X4_92 rfl (Nat.le_of_ble_eq_true rfl) (Nat.le_of_ble_eq_true rfl) rfl (Nat.le_of_ble_eq_true rfl) dX4_twoFit_13 (fun r3 s4 => ?_)
  refine zv_istore (lv' := [(4, .int r3), (3, .int x2), (0, .ref (zx_ad X 42)), (1, .int v1), (2, .int v2)]) hX dX4_twoFit_16 (by decide) rfl ?_
  refine zv_aload_n hX dX4_twoFit_18 2 rfl ?_
  refine zv_geta hX wf_X4_37 wc_4 zd_42 zj_42_9 c9_4 zr_42_9 (by decide) dX4_twoFit_19 ?_
  refine zv_iload_n hX dX4_twoFit_22 1 rfl ?_
  refine zv_iald hX dX4_twoFit_23 (fun x5 => ?_)
  refine zv_iload hX dX4_twoFit_24 0 rfl ?_
  refine zv_icmp_eq (tgt := 62) hX dX4_twoFit_26 rfl ?_ ?_
  · exact zv_sub [2, 1] rfl (b_X4_twoFit_62 hX hT x2 s4)
  · refine zv_aload_n hX dX4_twoFit_29 2 rfl ?_
    refine zv_geta hX wf_X4_37 wc_4 zd_42 zj_42_9 c9_4 zr_42_9 (by decide) dX4_twoFit_30 ?_
    refine zv_iload_n hX dX4_twoFit_33 1 rfl ?_
    refine zv_iload hX dX4_twoFit_34 0 rfl ?_
    refine zv_iast hX dX4_twoFit_36 (fun s6 => ?_)
    refine zv_aload_n hX dX4_twoFit_37 2 rfl ?_
    refine zv_geta hX wf_X4_33 wc_4 zd_42 zj_42_8 c9_4 zr_42_8 (by decide) dX4_twoFit_38 ?_
    refine zv_iload_n hX dX4_twoFit_41 1 rfl ?_
    refine zv_aload_n hX dX4_twoFit_42 2 rfl ?_
    refine zv_aload_n hX dX4_twoFit_43 2 rfl ?_
    refine zv_iload_n hX dX4_twoFit_44 3 rfl ?_
    refine zv_iload_n hX dX4_twoFit_45 4 rfl ?_
    refine zv_cVI [.int v1, .int v2] (rest := [.ref (zx_ad X 42), .int x2, .ref (zx_ad X 50)]) hX hT.2.2.2.2 (c_X4_fewestOf (zx_Y X) v1 v2 s6) wv_X4_fewestOf c9_4 zd_42 wm_X4_109 rfl (Nat.le_of_ble_eq_true rfl) (Nat.le_of_ble_eq_true rfl) rfl (Nat.le_of_ble_eq_true rfl) dX4_twoFit_46 (fun r7 s8 => ?_)
    refine zv_aload_n hX dX4_twoFit_49 2 rfl ?_
    refine zv_geta hX wf_X4_64 wc_4 zd_42 zj_42_0 c9_4 zr_42_0 (by decide) dX4_twoFit_50 ?_
    refine zv_iload_n hX dX4_twoFit_53 1 rfl ?_
    refine zv_cVI [.int x2] (rest := [.int r7, .ref (zx_ad X 42), .int x2, .ref (zx_ad X 50)]) hX hT.2.2.2.2 (c_X5_inkOf_3 (zx_Y X) x2 s8) wv_X5_inkOf c9_5 zd_3 wm_X4_130 rfl (Nat.le_of_ble_eq_true rfl) (Nat.le_of_ble_eq_true rfl) rfl (Nat.le_of_ble_eq_true rfl) dX4_twoFit_54 (fun r9 s10 => ?_)
    refine zv_iconst (v := (nI 2)) hX dX4_twoFit_57 zi_i_2 ?_
    refine zv_cVI [.int r7, .int r9, .int (nI 2)] (rest := [.int x2, .ref (zx_ad X 50)]) hX hT.2.2.2.2 (c_X4_lawFits (zx_Y X) r7 r9 (nI 2) s10) wv_X4_lawFits c9_4 zd_42 wm_X4_133 rfl (Nat.le_of_ble_eq_true rfl) (Nat.le_of_ble_eq_true rfl) rfl (Nat.le_of_ble_eq_true rfl) dX4_twoFit_58 (fun r11 s12 => ?_)
    refine zv_bast hX dX4_twoFit_61 (fun s13 => ?_)
    exact zv_sub [2, 1] rfl (b_X4_twoFit_62 hX hT x2 s13)
