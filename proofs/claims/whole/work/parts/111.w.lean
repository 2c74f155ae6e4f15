theorem dX3_readTruth_0 : decode cX3_readTruth 0 = .ok (.iconst 0, 1) := by decide +kernel
theorem dX3_readTruth_1 : decode cX3_readTruth 1 = .ok (.istore_n 2, 1) := by decide +kernel
theorem dX3_readTruth_2 : decode cX3_readTruth 2 = .ok (.iconst 0, 1) := by decide +kernel
theorem dX3_readTruth_3 : decode cX3_readTruth 3 = .ok (.istore_n 3, 1) := by decide +kernel
theorem dX3_readTruth_4 : decode cX3_readTruth 4 = .ok (.iconst 0, 1) := by decide +kernel
theorem dX3_readTruth_5 : decode cX3_readTruth 5 = .ok (.istore 4, 2) := by decide +kernel
theorem dX3_readTruth_7 : decode cX3_readTruth 7 = .ok (.iload 4, 2) := by decide +kernel
theorem dX3_readTruth_9 : decode cX3_readTruth 9 = .ok (.sipush 900, 3) := by decide +kernel
theorem dX3_readTruth_12 : decode cX3_readTruth 12 = .ok (.if_icmp .ge 97, 3) := by decide +kernel
theorem dX3_readTruth_15 : decode cX3_readTruth 15 = .ok (.aload_n 0, 1) := by decide +kernel
theorem dX3_readTruth_16 : decode cX3_readTruth 16 = .ok (.iload_n 1, 1) := by decide +kernel
theorem dX3_readTruth_17 : decode cX3_readTruth 17 = .ok (.invokevirtual 171, 3) := by decide +kernel
theorem dX3_readTruth_20 : decode cX3_readTruth 20 = .ok (.ifCond .ne 5, 3) := by decide +kernel
theorem dX3_readTruth_23 : decode cX3_readTruth 23 = .ok (.iconst 0, 1) := by decide +kernel
theorem dX3_readTruth_24 : decode cX3_readTruth 24 = .ok (.ireturn, 1) := by decide +kernel
theorem dX3_readTruth_25 : decode cX3_readTruth 25 = .ok (.iload_n 3, 1) := by decide +kernel
theorem dX3_readTruth_26 : decode cX3_readTruth 26 = .ok (.ifCond .eq 10, 3) := by decide +kernel
theorem dX3_readTruth_29 : decode cX3_readTruth 29 = .ok (.aload_n 0, 1) := by decide +kernel
theorem dX3_readTruth_30 : decode cX3_readTruth 30 = .ok (.sipush 1208, 3) := by decide +kernel
theorem dX3_readTruth_33 : decode cX3_readTruth 33 = .ok (.invokevirtual 174, 3) := by decide +kernel
theorem dX3_readTruth_36 : decode cX3_readTruth 36 = .ok (.aload_n 0, 1) := by decide +kernel
theorem dX3_readTruth_37 : decode cX3_readTruth 37 = .ok (.getfield 22, 3) := by decide +kernel
theorem dX3_readTruth_40 : decode cX3_readTruth 40 = .ok (.aload_n 0, 1) := by decide +kernel
theorem dX3_readTruth_41 : decode cX3_readTruth 41 = .ok (.getfield 39, 3) := by decide +kernel
theorem dX3_readTruth_44 : decode cX3_readTruth 44 = .ok (.iaload, 1) := by decide +kernel
theorem dX3_readTruth_45 : decode cX3_readTruth 45 = .ok (.sipush 1208, 3) := by decide +kernel
theorem dX3_readTruth_48 : decode cX3_readTruth 48 = .ok (.if_icmp .ne 7, 3) := by decide +kernel
theorem dX3_readTruth_51 : decode cX3_readTruth 51 = .ok (.iconst 1, 1) := by decide +kernel
theorem dX3_readTruth_52 : decode cX3_readTruth 52 = .ok (.goto 4, 3) := by decide +kernel
theorem dX3_readTruth_55 : decode cX3_readTruth 55 = .ok (.iconst 0, 1) := by decide +kernel
theorem dX3_readTruth_56 : decode cX3_readTruth 56 = .ok (.istore_n 3, 1) := by decide +kernel
theorem dX3_readTruth_57 : decode cX3_readTruth 57 = .ok (.iload_n 3, 1) := by decide +kernel
theorem dX3_readTruth_58 : decode cX3_readTruth 58 = .ok (.ifCond .ne 41, 3) := by decide +kernel
theorem dX3_readTruth_61 : decode cX3_readTruth 61 = .ok (.iload_n 2, 1) := by decide +kernel
theorem dX3_readTruth_62 : decode cX3_readTruth 62 = .ok (.ifCond .eq 10, 3) := by decide +kernel
theorem dX3_readTruth_65 : decode cX3_readTruth 65 = .ok (.aload_n 0, 1) := by decide +kernel
theorem dX3_readTruth_66 : decode cX3_readTruth 66 = .ok (.sipush 1207, 3) := by decide +kernel
theorem dX3_readTruth_69 : decode cX3_readTruth 69 = .ok (.invokevirtual 174, 3) := by decide +kernel
theorem dX3_readTruth_72 : decode cX3_readTruth 72 = .ok (.aload_n 0, 1) := by decide +kernel
theorem dX3_readTruth_73 : decode cX3_readTruth 73 = .ok (.getfield 22, 3) := by decide +kernel
theorem dX3_readTruth_76 : decode cX3_readTruth 76 = .ok (.aload_n 0, 1) := by decide +kernel
theorem dX3_readTruth_77 : decode cX3_readTruth 77 = .ok (.getfield 39, 3) := by decide +kernel
theorem dX3_readTruth_80 : decode cX3_readTruth 80 = .ok (.iaload, 1) := by decide +kernel
theorem dX3_readTruth_81 : decode cX3_readTruth 81 = .ok (.sipush 1207, 3) := by decide +kernel
theorem dX3_readTruth_84 : decode cX3_readTruth 84 = .ok (.if_icmp .ne 7, 3) := by decide +kernel
theorem dX3_readTruth_87 : decode cX3_readTruth 87 = .ok (.iconst 1, 1) := by decide +kernel
theorem dX3_readTruth_88 : decode cX3_readTruth 88 = .ok (.goto 4, 3) := by decide +kernel
theorem dX3_readTruth_91 : decode cX3_readTruth 91 = .ok (.iconst 0, 1) := by decide +kernel
theorem dX3_readTruth_92 : decode cX3_readTruth 92 = .ok (.istore_n 2, 1) := by decide +kernel
theorem dX3_readTruth_93 : decode cX3_readTruth 93 = .ok (.iload_n 2, 1) := by decide +kernel
theorem dX3_readTruth_94 : decode cX3_readTruth 94 = .ok (.ifCond .ne 5, 3) := by decide +kernel
theorem dX3_readTruth_97 : decode cX3_readTruth 97 = .ok (.iconst 1, 1) := by decide +kernel
theorem dX3_readTruth_98 : decode cX3_readTruth 98 = .ok (.ireturn, 1) := by decide +kernel
theorem dX3_readTruth_99 : decode cX3_readTruth 99 = .ok (.aload_n 0, 1) := by decide +kernel
theorem dX3_readTruth_100 : decode cX3_readTruth 100 = .ok (.invokevirtual 97, 3) := by decide +kernel
theorem dX3_readTruth_103 : decode cX3_readTruth 103 = .ok (.iinc 4 1, 3) := by decide +kernel
theorem dX3_readTruth_106 : decode cX3_readTruth 106 = .ok (.goto (-99), 3) := by decide +kernel
theorem dX3_readTruth_109 : decode cX3_readTruth 109 = .ok (.aload_n 0, 1) := by decide +kernel
theorem dX3_readTruth_110 : decode cX3_readTruth 110 = .ok (.iconst 2, 1) := by decide +kernel
theorem dX3_readTruth_111 : decode cX3_readTruth 111 = .ok (.invokevirtual 94, 3) := by decide +kernel
theorem dX3_readTruth_114 : decode cX3_readTruth 114 = .ok (.ireturn, 1) := by decide +kernel
theorem dX3_readUnit_0 : decode cX3_readUnit 0 = .ok (.aload_n 0, 1) := by decide +kernel
theorem dX3_readUnit_1 : decode cX3_readUnit 1 = .ok (.getfield 22, 3) := by decide +kernel
theorem dX3_readUnit_4 : decode cX3_readUnit 4 = .ok (.aload_n 0, 1) := by decide +kernel
theorem dX3_readUnit_5 : decode cX3_readUnit 5 = .ok (.getfield 39, 3) := by decide +kernel
theorem dX3_readUnit_8 : decode cX3_readUnit 8 = .ok (.iaload, 1) := by decide +kernel
theorem dX3_readUnit_9 : decode cX3_readUnit 9 = .ok (.istore_n 2, 1) := by decide +kernel
theorem dX3_readUnit_10 : decode cX3_readUnit 10 = .ok (.iload_n 2, 1) := by decide +kernel
theorem dX3_readUnit_11 : decode cX3_readUnit 11 = .ok (.sipush 1209, 3) := by decide +kernel
theorem dX3_readUnit_14 : decode cX3_readUnit 14 = .ok (.if_icmp .eq 10, 3) := by decide +kernel
theorem dX3_readUnit_17 : decode cX3_readUnit 17 = .ok (.iload_n 2, 1) := by decide +kernel
theorem dX3_readUnit_18 : decode cX3_readUnit 18 = .ok (.sipush 1107, 3) := by decide +kernel
theorem dX3_readUnit_21 : decode cX3_readUnit 21 = .ok (.if_icmp .ne 73, 3) := by decide +kernel
theorem dX3_readUnit_24 : decode cX3_readUnit 24 = .ok (.iload_n 1, 1) := by decide +kernel
theorem dX3_readUnit_25 : decode cX3_readUnit 25 = .ok (.bipush 6, 2) := by decide +kernel
theorem dX3_readUnit_27 : decode cX3_readUnit 27 = .ok (.if_icmp .lt 9, 3) := by decide +kernel
theorem dX3_readUnit_30 : decode cX3_readUnit 30 = .ok (.aload_n 0, 1) := by decide +kernel
theorem dX3_readUnit_31 : decode cX3_readUnit 31 = .ok (.iconst 4, 1) := by decide +kernel
theorem dX3_readUnit_32 : decode cX3_readUnit 32 = .ok (.invokevirtual 94, 3) := by decide +kernel
theorem dX3_readUnit_35 : decode cX3_readUnit 35 = .ok (.ireturn, 1) := by decide +kernel
theorem dX3_readUnit_36 : decode cX3_readUnit 36 = .ok (.aload_n 0, 1) := by decide +kernel
theorem dX3_readUnit_37 : decode cX3_readUnit 37 = .ok (.invokevirtual 97, 3) := by decide +kernel
theorem dX3_readUnit_40 : decode cX3_readUnit 40 = .ok (.iload_n 2, 1) := by decide +kernel
theorem dX3_readUnit_41 : decode cX3_readUnit 41 = .ok (.sipush 1107, 3) := by decide +kernel
theorem dX3_readUnit_44 : decode cX3_readUnit 44 = .ok (.if_icmp .ne 29, 3) := by decide +kernel
theorem dX3_readUnit_47 : decode cX3_readUnit 47 = .ok (.aload_n 0, 1) := by decide +kernel
theorem dX3_readUnit_48 : decode cX3_readUnit 48 = .ok (.iload_n 1, 1) := by decide +kernel
theorem dX3_readUnit_49 : decode cX3_readUnit 49 = .ok (.iconst 1, 1) := by decide +kernel
theorem dX3_readUnit_50 : decode cX3_readUnit 50 = .ok (.iadd, 1) := by decide +kernel
theorem dX3_readUnit_51 : decode cX3_readUnit 51 = .ok (.invokevirtual 119, 3) := by decide +kernel
theorem dX3_readUnit_54 : decode cX3_readUnit 54 = .ok (.ifCond .eq 17, 3) := by decide +kernel
theorem dX3_readUnit_57 : decode cX3_readUnit 57 = .ok (.aload_n 0, 1) := by decide +kernel
theorem dX3_readUnit_58 : decode cX3_readUnit 58 = .ok (.sipush 1108, 3) := by decide +kernel
theorem dX3_readUnit_61 : decode cX3_readUnit 61 = .ok (.invokevirtual 42, 3) := by decide +kernel
theorem dX3_readUnit_64 : decode cX3_readUnit 64 = .ok (.ifCond .eq 7, 3) := by decide +kernel
theorem dX3_readUnit_67 : decode cX3_readUnit 67 = .ok (.iconst 1, 1) := by decide +kernel
theorem dX3_readUnit_68 : decode cX3_readUnit 68 = .ok (.goto 4, 3) := by decide +kernel
theorem dX3_readUnit_71 : decode cX3_readUnit 71 = .ok (.iconst 0, 1) := by decide +kernel
theorem dX3_readUnit_72 : decode cX3_readUnit 72 = .ok (.ireturn, 1) := by decide +kernel
theorem dX3_readUnit_73 : decode cX3_readUnit 73 = .ok (.aload_n 0, 1) := by decide +kernel
theorem dX3_readUnit_74 : decode cX3_readUnit 74 = .ok (.iload_n 1, 1) := by decide +kernel
theorem dX3_readUnit_75 : decode cX3_readUnit 75 = .ok (.iconst 1, 1) := by decide +kernel
theorem dX3_readUnit_76 : decode cX3_readUnit 76 = .ok (.iadd, 1) := by decide +kernel
theorem dX3_readUnit_77 : decode cX3_readUnit 77 = .ok (.invokevirtual 171, 3) := by decide +kernel
theorem dX3_readUnit_80 : decode cX3_readUnit 80 = .ok (.ifCond .ne 5, 3) := by decide +kernel
theorem dX3_readUnit_83 : decode cX3_readUnit 83 = .ok (.iconst 0, 1) := by decide +kernel
theorem dX3_readUnit_84 : decode cX3_readUnit 84 = .ok (.ireturn, 1) := by decide +kernel
theorem dX3_readUnit_85 : decode cX3_readUnit 85 = .ok (.aload_n 0, 1) := by decide +kernel
theorem dX3_readUnit_86 : decode cX3_readUnit 86 = .ok (.sipush 1209, 3) := by decide +kernel
theorem dX3_readUnit_89 : decode cX3_readUnit 89 = .ok (.invokevirtual 174, 3) := by decide +kernel
theorem dX3_readUnit_92 : decode cX3_readUnit 92 = .ok (.iconst 1, 1) := by decide +kernel
theorem dX3_readUnit_93 : decode cX3_readUnit 93 = .ok (.ireturn, 1) := by decide +kernel
theorem dX3_readUnit_94 : decode cX3_readUnit 94 = .ok (.aload_n 0, 1) := by decide +kernel
theorem dX3_readUnit_95 : decode cX3_readUnit 95 = .ok (.iload_n 1, 1) := by decide +kernel
theorem dX3_readUnit_96 : decode cX3_readUnit 96 = .ok (.invokevirtual 116, 3) := by decide +kernel
theorem dX3_readUnit_99 : decode cX3_readUnit 99 = .ok (.ifCond .ne 5, 3) := by decide +kernel
theorem dX3_readUnit_102 : decode cX3_readUnit 102 = .ok (.iconst 0, 1) := by decide +kernel
theorem dX3_readUnit_103 : decode cX3_readUnit 103 = .ok (.ireturn, 1) := by decide +kernel
theorem dX3_readUnit_104 : decode cX3_readUnit 104 = .ok (.aload_n 0, 1) := by decide +kernel
theorem dX3_readUnit_105 : decode cX3_readUnit 105 = .ok (.getfield 22, 3) := by decide +kernel
theorem dX3_readUnit_108 : decode cX3_readUnit 108 = .ok (.aload_n 0, 1) := by decide +kernel
theorem dX3_readUnit_109 : decode cX3_readUnit 109 = .ok (.getfield 39, 3) := by decide +kernel
theorem dX3_readUnit_112 : decode cX3_readUnit 112 = .ok (.iaload, 1) := by decide +kernel
theorem dX3_readUnit_113 : decode cX3_readUnit 113 = .ok (.istore_n 3, 1) := by decide +kernel
theorem dX3_readUnit_114 : decode cX3_readUnit 114 = .ok (.iload_n 3, 1) := by decide +kernel
theorem dX3_readUnit_115 : decode cX3_readUnit 115 = .ok (.sipush 1109, 3) := by decide +kernel
theorem dX3_readUnit_118 : decode cX3_readUnit 118 = .ok (.if_icmp .eq 23, 3) := by decide +kernel
theorem dX3_readUnit_121 : decode cX3_readUnit 121 = .ok (.iload_n 3, 1) := by decide +kernel
theorem dX3_readUnit_122 : decode cX3_readUnit 122 = .ok (.sipush 1110, 3) := by decide +kernel
theorem dX3_readUnit_125 : decode cX3_readUnit 125 = .ok (.if_icmp .eq 16, 3) := by decide +kernel
theorem dX3_readUnit_128 : decode cX3_readUnit 128 = .ok (.iload_n 3, 1) := by decide +kernel
theorem dX3_readUnit_129 : decode cX3_readUnit 129 = .ok (.sipush 1111, 3) := by decide +kernel
theorem dX3_readUnit_132 : decode cX3_readUnit 132 = .ok (.if_icmp .eq 9, 3) := by decide +kernel
theorem dX3_readUnit_135 : decode cX3_readUnit 135 = .ok (.aload_n 0, 1) := by decide +kernel
theorem dX3_readUnit_136 : decode cX3_readUnit 136 = .ok (.iconst 2, 1) := by decide +kernel
theorem dX3_readUnit_137 : decode cX3_readUnit 137 = .ok (.invokevirtual 94, 3) := by decide +kernel
theorem dX3_readUnit_140 : decode cX3_readUnit 140 = .ok (.ireturn, 1) := by decide +kernel
theorem dX3_readUnit_141 : decode cX3_readUnit 141 = .ok (.aload_n 0, 1) := by decide +kernel
theorem dX3_readUnit_142 : decode cX3_readUnit 142 = .ok (.invokevirtual 97, 3) := by decide +kernel
theorem dX3_readUnit_145 : decode cX3_readUnit 145 = .ok (.aload_n 0, 1) := by decide +kernel
theorem dX3_readUnit_146 : decode cX3_readUnit 146 = .ok (.iload_n 1, 1) := by decide +kernel
theorem dX3_readUnit_147 : decode cX3_readUnit 147 = .ok (.invokevirtual 116, 3) := by decide +kernel
theorem dX3_readUnit_150 : decode cX3_readUnit 150 = .ok (.ifCond .ne 5, 3) := by decide +kernel
theorem dX3_readUnit_153 : decode cX3_readUnit 153 = .ok (.iconst 0, 1) := by decide +kernel
theorem dX3_readUnit_154 : decode cX3_readUnit 154 = .ok (.ireturn, 1) := by decide +kernel
theorem dX3_readUnit_155 : decode cX3_readUnit 155 = .ok (.aload_n 0, 1) := by decide +kernel
theorem dX3_readUnit_156 : decode cX3_readUnit 156 = .ok (.iload_n 3, 1) := by decide +kernel
theorem dX3_readUnit_157 : decode cX3_readUnit 157 = .ok (.invokevirtual 174, 3) := by decide +kernel
theorem dX3_readUnit_160 : decode cX3_readUnit 160 = .ok (.iconst 1, 1) := by decide +kernel
theorem dX3_readUnit_161 : decode cX3_readUnit 161 = .ok (.ireturn, 1) := by decide +kernel
def f_X3_readTruth_99 (q_X3_readUnit : Int32 → zS → Option (Int32 × zS)) (kb_7 : Int32 → Int32 → Int32 → Int32 → zS → Option (Int32 × zS)) (v1 : Int32) (v2 : Int32) (v3 : Int32) (v4 : Int32) (s : zS) : Option (Int32 × zS) :=
  zbd (f_X3_step s) fun _ s1 =>
  zb (v4 + (1 : Int32)) fun x2 =>
  kb_7 v1 v2 v3 x2 s1
set_option maxRecDepth 20000 in
theorem b_X3_readTruth_99 {X : zX} {dd : Nat} {q_X3_readUnit : Int32 → zS → Option (Int32 × zS)} {kb_7 : Int32 → Int32 → Int32 → Int32 → zS → Option (Int32 × zS)} (hX : zx_ok X cX3_readTruth RX3 5) (hT : zx_rt X (some .boolean) (zR (66 + dd + 1) (1581 + (dd + 1) * 24))) (hq_X3_readUnit : ∀ (v1 : Int32) (s : zS), zM (zx_Y X) yX3_readUnit cX3_readUnit 4 (some .boolean) (zR (66 + dd) (1581 + dd * 24)) [.ref (zx_ad X 30), .int v1] s zrI (q_X3_readUnit v1 s)) (hk_7 : ∀ (v1 : Int32) (v2 : Int32) (v3 : Int32) (v4 : Int32) (s : zS), zV X (zq X zrI) 5 7 [(0, .ref (zx_ad X 30)), (1, .int v1), (2, .int v2), (3, .int v3), (4, .int v4)] [] s (kb_7 v1 v2 v3 v4 s)) : ∀ (v1 : Int32) (v2 : Int32) (v3 : Int32) (v4 : Int32) (s : zS), zV X (zq X zrI) 5 99 [(0, .ref (zx_ad X 30)), (1, .int v1), (2, .int v2), (3, .int v3), (4, .int v4)] [] s (f_X3_readTruth_99 q_X3_readUnit kb_7 v1 v2 v3 v4 s) := by
  have hDP : zDP = 64 := rfl
  intro v1 v2 v3 v4 s
  unfold f_X3_readTruth_99
  refine zv_aload_n hX dX3_readTruth_99 0 rfl ?_
  refine zv_cVV [] (rest := []) hX hT.2.2.2.2 (c_X3_step (zx_Y X) s) wv_X3_step c9_3 zd_30 wm_X3_97 rfl (by omega) (by omega) rfl (Nat.le_of_ble_eq_true rfl) dX3_readTruth_100 (fun _ s1 => ?_)
  refine zv_iincB (lw := fun x2 => [(4, .int x2), (0, .ref (zx_ad X 30)), (1, .int v1), (2, .int v2), (3, .int v3)]) hX dX3_readTruth_103 4 rfl zi_i_1 (by decide) (fun _ => rfl) (fun x2 => ?_)
  refine zv_goto (tgt := 7) hX dX3_readTruth_106 rfl ?_
  exact zv_sub [1, 2, 3, 4, 0] rfl (hk_7 v1 v2 v3 x2 s1)
def f_X3_readTruth_92 (q_X3_readUnit : Int32 → zS → Option (Int32 × zS)) (kb_7 : Int32 → Int32 → Int32 → Int32 → zS → Option (Int32 × zS)) (v1 : Int32) (v3 : Int32) (v4 : Int32) (w0 : Int32) (s : zS) : Option (Int32 × zS) :=
  if ¬ w0 = 0 then
  (f_X3_readTruth_99 q_X3_readUnit kb_7 v1 w0 v3 v4 s)
  else
  some ((1 : Int32), s)
set_option maxRecDepth 20000 in
theorem b_X3_readTruth_92 {X : zX} {dd : Nat} {q_X3_readUnit : Int32 → zS → Option (Int32 × zS)} {kb_7 : Int32 → Int32 → Int32 → Int32 → zS → Option (Int32 × zS)} (hX : zx_ok X cX3_readTruth RX3 5) (hT : zx_rt X (some .boolean) (zR (66 + dd + 1) (1581 + (dd + 1) * 24))) (hq_X3_readUnit : ∀ (v1 : Int32) (s : zS), zM (zx_Y X) yX3_readUnit cX3_readUnit 4 (some .boolean) (zR (66 + dd) (1581 + dd * 24)) [.ref (zx_ad X 30), .int v1] s zrI (q_X3_readUnit v1 s)) (hk_7 : ∀ (v1 : Int32) (v2 : Int32) (v3 : Int32) (v4 : Int32) (s : zS), zV X (zq X zrI) 5 7 [(0, .ref (zx_ad X 30)), (1, .int v1), (2, .int v2), (3, .int v3), (4, .int v4)] [] s (kb_7 v1 v2 v3 v4 s)) : ∀ (v1 : Int32) (v3 : Int32) (v4 : Int32) (w0 : Int32) (s : zS), zV X (zq X zrI) 5 92 [(0, .ref (zx_ad X 30)), (1, .int v1), (3, .int v3), (4, .int v4)] [.int w0] s (f_X3_readTruth_92 q_X3_readUnit kb_7 v1 v3 v4 w0 s) := by
  have hDP : zDP = 64 := rfl
  intro v1 v3 v4 w0 s
  unfold f_X3_readTruth_92
  refine zv_istore_n (lv' := [(2, .int w0), (0, .ref (zx_ad X 30)), (1, .int v1), (3, .int v3), (4, .int v4)]) hX dX3_readTruth_92 (by decide) rfl ?_
  refine zv_iload_n hX dX3_readTruth_93 0 rfl ?_
  refine zv_if_ne (tgt := 99) hX dX3_readTruth_94 rfl ?_ ?_
  · exact zv_sub [1, 2, 0, 3, 4] rfl (b_X3_readTruth_99 hX hT hq_X3_readUnit hk_7 v1 w0 v3 v4 s)
  · refine zv_iconst (v := (1 : Int32)) hX dX3_readTruth_97 zi_i_1 ?_
    exact zv_iretz hX hT (by decide) dX3_readTruth_98
def f_X3_readTruth_72 (q_X3_readUnit : Int32 → zS → Option (Int32 × zS)) (kb_7 : Int32 → Int32 → Int32 → Int32 → zS → Option (Int32 × zS)) (v1 : Int32) (v3 : Int32) (v4 : Int32) (s : zS) : Option (Int32 × zS) :=
  (zr_i s 40 (s.1 30 5)).bind fun x3 =>
  if ¬ x3 = (nI 1207) then
  (f_X3_readTruth_92 q_X3_readUnit kb_7 v1 v3 v4 (0 : Int32) s)
  else
  f_X3_readTruth_92 q_X3_readUnit kb_7 v1 v3 v4 (1 : Int32) s
set_option maxRecDepth 20000 in
theorem b_X3_readTruth_72 {X : zX} {dd : Nat} {q_X3_readUnit : Int32 → zS → Option (Int32 × zS)} {kb_7 : Int32 → Int32 → Int32 → Int32 → zS → Option (Int32 × zS)} (hX : zx_ok X cX3_readTruth RX3 5) (hT : zx_rt X (some .boolean) (zR (66 + dd + 1) (1581 + (dd + 1) * 24))) (hq_X3_readUnit : ∀ (v1 : Int32) (s : zS), zM (zx_Y X) yX3_readUnit cX3_readUnit 4 (some .boolean) (zR (66 + dd) (1581 + dd * 24)) [.ref (zx_ad X 30), .int v1] s zrI (q_X3_readUnit v1 s)) (hk_7 : ∀ (v1 : Int32) (v2 : Int32) (v3 : Int32) (v4 : Int32) (s : zS), zV X (zq X zrI) 5 7 [(0, .ref (zx_ad X 30)), (1, .int v1), (2, .int v2), (3, .int v3), (4, .int v4)] [] s (kb_7 v1 v2 v3 v4 s)) : ∀ (v1 : Int32) (v3 : Int32) (v4 : Int32) (s : zS), zV X (zq X zrI) 5 72 [(0, .ref (zx_ad X 30)), (1, .int v1), (3, .int v3), (4, .int v4)] [] s (f_X3_readTruth_72 q_X3_readUnit kb_7 v1 v3 v4 s) := by
  have hDP : zDP = 64 := rfl
  intro v1 v3 v4 s
  unfold f_X3_readTruth_72
  refine zv_aload_n hX dX3_readTruth_72 0 rfl ?_
  refine zv_geta hX wf_X3_22 wc_3 zd_30 zj_30_3 c9_3 zr_30_3 (by decide) dX3_readTruth_73 ?_
  refine zv_aload_n hX dX3_readTruth_76 0 rfl ?_
  refine zv_geti hX wf_X3_39 wc_3 zd_30 zj_30_5 c9_3 zr_30_5 dX3_readTruth_77 ?_
  refine zv_iald hX dX3_readTruth_80 (fun x3 => ?_)
  refine zv_sipush (v := (nI 1207)) hX dX3_readTruth_81 zi_s_1207 ?_
  refine zv_icmp_ne (tgt := 91) hX dX3_readTruth_84 rfl ?_ ?_
  · refine zv_iconst (v := (0 : Int32)) hX dX3_readTruth_91 zi_i_0 ?_
    exact b_X3_readTruth_92 hX hT hq_X3_readUnit hk_7 v1 v3 v4 (0 : Int32) s
  · refine zv_iconst (v := (1 : Int32)) hX dX3_readTruth_87 zi_i_1 ?_
    refine zv_goto (tgt := 92) hX dX3_readTruth_88 rfl ?_
    exact b_X3_readTruth_92 hX hT hq_X3_readUnit hk_7 v1 v3 v4 (1 : Int32) s
def f_X3_readTruth_56 (q_X3_readUnit : Int32 → zS → Option (Int32 × zS)) (kb_7 : Int32 → Int32 → Int32 → Int32 → zS → Option (Int32 × zS)) (v1 : Int32) (v2 : Int32) (v4 : Int32) (w0 : Int32) (s : zS) : Option (Int32 × zS) :=
  if ¬ w0 = 0 then
  (f_X3_readTruth_99 q_X3_readUnit kb_7 v1 v2 w0 v4 s)
  else
  if v2 = 0 then
  (f_X3_readTruth_72 q_X3_readUnit kb_7 v1 w0 v4 s)
  else
  zbd (f_X3_emit (nI 1207) s) fun _ s4 =>
  f_X3_readTruth_72 q_X3_readUnit kb_7 v1 w0 v4 s4
set_option maxRecDepth 20000 in
theorem b_X3_readTruth_56 {X : zX} {dd : Nat} {q_X3_readUnit : Int32 → zS → Option (Int32 × zS)} {kb_7 : Int32 → Int32 → Int32 → Int32 → zS → Option (Int32 × zS)} (hX : zx_ok X cX3_readTruth RX3 5) (hT : zx_rt X (some .boolean) (zR (66 + dd + 1) (1581 + (dd + 1) * 24))) (hq_X3_readUnit : ∀ (v1 : Int32) (s : zS), zM (zx_Y X) yX3_readUnit cX3_readUnit 4 (some .boolean) (zR (66 + dd) (1581 + dd * 24)) [.ref (zx_ad X 30), .int v1] s zrI (q_X3_readUnit v1 s)) (hk_7 : ∀ (v1 : Int32) (v2 : Int32) (v3 : Int32) (v4 : Int32) (s : zS), zV X (zq X zrI) 5 7 [(0, .ref (zx_ad X 30)), (1, .int v1), (2, .int v2), (3, .int v3), (4, .int v4)] [] s (kb_7 v1 v2 v3 v4 s)) : ∀ (v1 : Int32) (v2 : Int32) (v4 : Int32) (w0 : Int32) (s : zS), zV X (zq X zrI) 5 56 [(0, .ref (zx_ad X 30)), (1, .int v1), (2, .int v2), (4, .int v4)] [.int w0] s (f_X3_readTruth_56 q_X3_readUnit kb_7 v1 v2 v4 w0 s) := by
  have hDP : zDP = 64 := rfl
  intro v1 v2 v4 w0 s
  unfold f_X3_readTruth_56
  refine zv_istore_n (lv' := [(3, .int w0), (0, .ref (zx_ad X 30)), (1, .int v1), (2, .int v2), (4, .int v4)]) hX dX3_readTruth_56 (by decide) rfl ?_
  refine zv_iload_n hX dX3_readTruth_57 0 rfl ?_
  refine zv_if_ne (tgt := 99) hX dX3_readTruth_58 rfl ?_ ?_
  · exact zv_sub [1, 2, 3, 0, 4] rfl (b_X3_readTruth_99 hX hT hq_X3_readUnit hk_7 v1 v2 w0 v4 s)
  · refine zv_iload_n hX dX3_readTruth_61 3 rfl ?_
    refine zv_if_eq (tgt := 72) hX dX3_readTruth_62 rfl ?_ ?_
    · exact zv_sub [1, 2, 0, 4] rfl (b_X3_readTruth_72 hX hT hq_X3_readUnit hk_7 v1 w0 v4 s)
    · refine zv_aload_n hX dX3_readTruth_65 1 rfl ?_
      refine zv_sipush (v := (nI 1207)) hX dX3_readTruth_66 zi_s_1207 ?_
      refine zv_cVV [.int (nI 1207)] (rest := []) hX hT.2.2.2.2 (c_X3_emit (zx_Y X) (nI 1207) s) wv_X3_emit c9_3 zd_30 wm_X3_174 rfl (by omega) (by omega) rfl (Nat.le_of_ble_eq_true rfl) dX3_readTruth_69 (fun _ s4 => ?_)
      exact zv_sub [1, 2, 0, 4] rfl (b_X3_readTruth_72 hX hT hq_X3_readUnit hk_7 v1 w0 v4 s4)
def f_X3_readTruth_36 (q_X3_readUnit : Int32 → zS → Option (Int32 × zS)) (kb_7 : Int32 → Int32 → Int32 → Int32 → zS → Option (Int32 × zS)) (v1 : Int32) (v2 : Int32) (v4 : Int32) (s : zS) : Option (Int32 × zS) :=
  (zr_i s 40 (s.1 30 5)).bind fun x5 =>
  if ¬ x5 = (nI 1208) then
  (f_X3_readTruth_56 q_X3_readUnit kb_7 v1 v2 v4 (0 : Int32) s)
  else
  f_X3_readTruth_56 q_X3_readUnit kb_7 v1 v2 v4 (1 : Int32) s
set_option maxRecDepth 20000 in
theorem b_X3_readTruth_36 {X : zX} {dd : Nat} {q_X3_readUnit : Int32 → zS → Option (Int32 × zS)} {kb_7 : Int32 → Int32 → Int32 → Int32 → zS → Option (Int32 × zS)} (hX : zx_ok X cX3_readTruth RX3 5) (hT : zx_rt X (some .boolean) (zR (66 + dd + 1) (1581 + (dd + 1) * 24))) (hq_X3_readUnit : ∀ (v1 : Int32) (s : zS), zM (zx_Y X) yX3_readUnit cX3_readUnit 4 (some .boolean) (zR (66 + dd) (1581 + dd * 24)) [.ref (zx_ad X 30), .int v1] s zrI (q_X3_readUnit v1 s)) (hk_7 : ∀ (v1 : Int32) (v2 : Int32) (v3 : Int32) (v4 : Int32) (s : zS), zV X (zq X zrI) 5 7 [(0, .ref (zx_ad X 30)), (1, .int v1), (2, .int v2), (3, .int v3), (4, .int v4)] [] s (kb_7 v1 v2 v3 v4 s)) : ∀ (v1 : Int32) (v2 : Int32) (v4 : Int32) (s : zS), zV X (zq X zrI) 5 36 [(0, .ref (zx_ad X 30)), (1, .int v1), (2, .int v2), (4, .int v4)] [] s (f_X3_readTruth_36 q_X3_readUnit kb_7 v1 v2 v4 s) := by
  have hDP : zDP = 64 := rfl
  intro v1 v2 v4 s
  unfold f_X3_readTruth_36
  refine zv_aload_n hX dX3_readTruth_36 0 rfl ?_
  refine zv_geta hX wf_X3_22 wc_3 zd_30 zj_30_3 c9_3 zr_30_3 (by decide) dX3_readTruth_37 ?_
  refine zv_aload_n hX dX3_readTruth_40 0 rfl ?_
  refine zv_geti hX wf_X3_39 wc_3 zd_30 zj_30_5 c9_3 zr_30_5 dX3_readTruth_41 ?_
  refine zv_iald hX dX3_readTruth_44 (fun x5 => ?_)
  refine zv_sipush (v := (nI 1208)) hX dX3_readTruth_45 zi_s_1208 ?_
  refine zv_icmp_ne (tgt := 55) hX dX3_readTruth_48 rfl ?_ ?_
  · refine zv_iconst (v := (0 : Int32)) hX dX3_readTruth_55 zi_i_0 ?_
    exact b_X3_readTruth_56 hX hT hq_X3_readUnit hk_7 v1 v2 v4 (0 : Int32) s
  · refine zv_iconst (v := (1 : Int32)) hX dX3_readTruth_51 zi_i_1 ?_
    refine zv_goto (tgt := 56) hX dX3_readTruth_52 rfl ?_
    exact b_X3_readTruth_56 hX hT hq_X3_readUnit hk_7 v1 v2 v4 (1 : Int32) s
def f_X3_readTruth_7 (q_X3_readUnit : Int32 → zS → Option (Int32 × zS)) : Nat → Int32 → Int32 → Int32 → Int32 → zS → Option (Int32 × zS)
  | 0, _, _, _, _, _ => none
  | n + 1, v1, v2, v3, v4, s =>
    if (nI 900) ≤ v4 then
    (zbd (f_X3_refuse (nI 2) s) fun r6 s7 =>
    if r6 = 0 ∨ r6 = 1 then some (r6, s7) else none)
    else
    zbd (q_X3_readUnit v1 s) fun r8 s9 =>
    if ¬ r8 = 0 then
    (if v3 = 0 then
    (f_X3_readTruth_36 q_X3_readUnit (f_X3_readTruth_7 q_X3_readUnit n) v1 v2 v4 s9)
    else
    zbd (f_X3_emit (nI 1208) s9) fun _ s10 =>
    f_X3_readTruth_36 q_X3_readUnit (f_X3_readTruth_7 q_X3_readUnit n) v1 v2 v4 s10)
    else
    some ((0 : Int32), s9)
set_option maxRecDepth 20000 in
theorem b_X3_readTruth_7 {X : zX} {dd : Nat} {q_X3_readUnit : Int32 → zS → Option (Int32 × zS)} (hX : zx_ok X cX3_readTruth RX3 5) (hT : zx_rt X (some .boolean) (zR (66 + dd + 1) (1581 + (dd + 1) * 24))) (hq_X3_readUnit : ∀ (v1 : Int32) (s : zS), zM (zx_Y X) yX3_readUnit cX3_readUnit 4 (some .boolean) (zR (66 + dd) (1581 + dd * 24)) [.ref (zx_ad X 30), .int v1] s zrI (q_X3_readUnit v1 s)) : ∀ (n : Nat) (v1 : Int32) (v2 : Int32) (v3 : Int32) (v4 : Int32) (s : zS), zV X (zq X zrI) 5 7 [(0, .ref (zx_ad X 30)), (1, .int v1), (2, .int v2), (3, .int v3), (4, .int v4)] [] s (f_X3_readTruth_7 q_X3_readUnit n v1 v2 v3 v4 s) := by
  have hDP : zDP = 64 := rfl
  intro n
  induction n with
  | zero => intro v1 v2 v3 v4 s; exact zv_none
  | succ n ih =>
    intro v1 v2 v3 v4 s
    rw [f_X3_readTruth_7]
    refine zv_iload hX dX3_readTruth_7 4 rfl ?_
    refine zv_sipush (v := (nI 900)) hX dX3_readTruth_9 zi_s_900 ?_
    refine zv_icmp_ge (tgt := 109) hX dX3_readTruth_12 rfl ?_ ?_
    · refine zv_aload_n hX dX3_readTruth_109 0 rfl ?_
      refine zv_iconst (v := (nI 2)) hX dX3_readTruth_110 zi_i_2 ?_
      refine zv_cVI [.int (nI 2)] (rest := []) hX hT.2.2.2.2 (c_X3_refuse (zx_Y X) (nI 2) s) wv_X3_refuse c9_3 zd_30 wm_X3_94 rfl (by omega) (by omega) rfl (Nat.le_of_ble_eq_true rfl) dX3_readTruth_111 (fun r6 s7 => ?_)
      exact zv_iretzB hX hT dX3_readTruth_114
    · refine zv_aload_n hX dX3_readTruth_15 0 rfl ?_
      refine zv_iload_n hX dX3_readTruth_16 1 rfl ?_
      refine zv_cVI [.int v1] (rest := []) hX hT.2.2.2.2 (hq_X3_readUnit v1 s) wv_X3_readUnit c9_3 zd_30 wm_X3_171 rfl (by omega) (by omega) rfl (Nat.le_of_ble_eq_true rfl) dX3_readTruth_17 (fun r8 s9 => ?_)
      refine zv_if_ne (tgt := 25) hX dX3_readTruth_20 rfl ?_ ?_
      · refine zv_iload_n hX dX3_readTruth_25 3 rfl ?_
        refine zv_if_eq (tgt := 36) hX dX3_readTruth_26 rfl ?_ ?_
        · exact zv_sub [0, 1, 2, 4] rfl (b_X3_readTruth_36 hX hT hq_X3_readUnit ih v1 v2 v4 s9)
        · refine zv_aload_n hX dX3_readTruth_29 0 rfl ?_
          refine zv_sipush (v := (nI 1208)) hX dX3_readTruth_30 zi_s_1208 ?_
          refine zv_cVV [.int (nI 1208)] (rest := []) hX hT.2.2.2.2 (c_X3_emit (zx_Y X) (nI 1208) s9) wv_X3_emit c9_3 zd_30 wm_X3_174 rfl (by omega) (by omega) rfl (Nat.le_of_ble_eq_true rfl) dX3_readTruth_33 (fun _ s10 => ?_)
          exact zv_sub [0, 1, 2, 4] rfl (b_X3_readTruth_36 hX hT hq_X3_readUnit ih v1 v2 v4 s10)
      · refine zv_iconst (v := (0 : Int32)) hX dX3_readTruth_23 zi_i_0 ?_
        exact zv_iretz hX hT (by decide) dX3_readTruth_24
def g_X3_readTruth (q_X3_readUnit : Int32 → zS → Option (Int32 × zS)) (v1 : Int32) (s : zS) : Option (Int32 × zS) :=
  f_X3_readTruth_7 q_X3_readUnit zFU v1 (0 : Int32) (0 : Int32) (0 : Int32) s
set_option maxRecDepth 20000 in
theorem e_X3_readTruth {X : zX} {dd : Nat} {q_X3_readUnit : Int32 → zS → Option (Int32 × zS)} (hX : zx_ok X cX3_readTruth RX3 5) (hT : zx_rt X (some .boolean) (zR (66 + dd + 1) (1581 + (dd + 1) * 24))) (hq_X3_readUnit : ∀ (v1 : Int32) (s : zS), zM (zx_Y X) yX3_readUnit cX3_readUnit 4 (some .boolean) (zR (66 + dd) (1581 + dd * 24)) [.ref (zx_ad X 30), .int v1] s zrI (q_X3_readUnit v1 s)) : ∀ (v1 : Int32) (s : zS), zV X (zq X zrI) 5 0 [(0, .ref (zx_ad X 30)), (1, .int v1)] [] s (g_X3_readTruth q_X3_readUnit v1 s) := by
  have hDP : zDP = 64 := rfl
  intro v1 s
  unfold g_X3_readTruth
  refine zv_iconst (v := (0 : Int32)) hX dX3_readTruth_0 zi_i_0 ?_
  refine zv_istore_n (lv' := [(2, .int (0 : Int32)), (0, .ref (zx_ad X 30)), (1, .int v1)]) hX dX3_readTruth_1 (by decide) rfl ?_
  refine zv_iconst (v := (0 : Int32)) hX dX3_readTruth_2 zi_i_0 ?_
  refine zv_istore_n (lv' := [(3, .int (0 : Int32)), (2, .int (0 : Int32)), (0, .ref (zx_ad X 30)), (1, .int v1)]) hX dX3_readTruth_3 (by decide) rfl ?_
  refine zv_iconst (v := (0 : Int32)) hX dX3_readTruth_4 zi_i_0 ?_
  refine zv_istore (lv' := [(4, .int (0 : Int32)), (3, .int (0 : Int32)), (2, .int (0 : Int32)), (0, .ref (zx_ad X 30)), (1, .int v1)]) hX dX3_readTruth_5 (by decide) rfl ?_
  exact zv_sub [3, 4, 2, 1, 0] rfl (b_X3_readTruth_7 hX hT hq_X3_readUnit zFU v1 (0 : Int32) (0 : Int32) (0 : Int32) s)
def f_X3_readUnit_72 (q_X3_readTruth : Int32 → zS → Option (Int32 × zS)) (q_X3_readUnit : Int32 → zS → Option (Int32 × zS)) (w0 : Int32) (s : zS) : Option (Int32 × zS) :=
  if w0 = 0 ∨ w0 = 1 then some (w0, s) else none
set_option maxRecDepth 20000 in
theorem b_X3_readUnit_72 {X : zX} {dd : Nat} {q_X3_readTruth : Int32 → zS → Option (Int32 × zS)} {q_X3_readUnit : Int32 → zS → Option (Int32 × zS)} (hX : zx_ok X cX3_readUnit RX3 4) (hT : zx_rt X (some .boolean) (zR (66 + dd + 1) (1581 + (dd + 1) * 24))) (hq_X3_readTruth : ∀ (v1 : Int32) (s : zS), zM (zx_Y X) yX3_readTruth cX3_readTruth 5 (some .boolean) (zR (66 + dd) (1581 + dd * 24)) [.ref (zx_ad X 30), .int v1] s zrI (q_X3_readTruth v1 s)) (hq_X3_readUnit : ∀ (v1 : Int32) (s : zS), zM (zx_Y X) yX3_readUnit cX3_readUnit 4 (some .boolean) (zR (66 + dd) (1581 + dd * 24)) [.ref (zx_ad X 30), .int v1] s zrI (q_X3_readUnit v1 s)) : ∀ (w0 : Int32) (s : zS), zV X (zq X zrI) 4 72 [] [.int w0] s (f_X3_readUnit_72 q_X3_readTruth q_X3_readUnit w0 s) := by
  have hDP : zDP = 64 := rfl
  intro w0 s
  unfold f_X3_readUnit_72
  exact zv_iretzB hX hT dX3_readUnit_72
def f_X3_readUnit_71 (q_X3_readTruth : Int32 → zS → Option (Int32 × zS)) (q_X3_readUnit : Int32 → zS → Option (Int32 × zS))  (s : zS) : Option (Int32 × zS) :=
  f_X3_readUnit_72 q_X3_readTruth q_X3_readUnit (0 : Int32) s
set_option maxRecDepth 20000 in
theorem b_X3_readUnit_71 {X : zX} {dd : Nat} {q_X3_readTruth : Int32 → zS → Option (Int32 × zS)} {q_X3_readUnit : Int32 → zS → Option (Int32 × zS)} (hX : zx_ok X cX3_readUnit RX3 4) (hT : zx_rt X (some .boolean) (zR (66 + dd + 1) (1581 + (dd + 1) * 24))) (hq_X3_readTruth : ∀ (v1 : Int32) (s : zS), zM (zx_Y X) yX3_readTruth cX3_readTruth 5 (some .boolean) (zR (66 + dd) (1581 + dd * 24)) [.ref (zx_ad X 30), .int v1] s zrI (q_X3_readTruth v1 s)) (hq_X3_readUnit : ∀ (v1 : Int32) (s : zS), zM (zx_Y X) yX3_readUnit cX3_readUnit 4 (some .boolean) (zR (66 + dd) (1581 + dd * 24)) [.ref (zx_ad X 30), .int v1] s zrI (q_X3_readUnit v1 s)) : ∀  (s : zS), zV X (zq X zrI) 4 71 [] [] s (f_X3_readUnit_71 q_X3_readTruth q_X3_readUnit  s) := by
  have hDP : zDP = 64 := rfl
  intro  s
  unfold f_X3_readUnit_71
  refine zv_iconst (v := (0 : Int32)) hX dX3_readUnit_71 zi_i_0 ?_
  exact b_X3_readUnit_72 hX hT hq_X3_readTruth hq_X3_readUnit (0 : Int32) s
def f_X3_readUnit_24 (q_X3_readTruth : Int32 → zS → Option (Int32 × zS)) (q_X3_readUnit : Int32 → zS → Option (Int32 × zS)) (v1 : Int32) (v2 : Int32) (s : zS) : Option (Int32 × zS) :=
  if v1 < (nI 6) then
  (zbd (f_X3_step s) fun _ s1 =>
  if ¬ v2 = (nI 1107) then
  (zbd (q_X3_readUnit (v1 + (1 : Int32)) s1) fun r2 s3 =>
  if ¬ r2 = 0 then
  (zbd (f_X3_emit (nI 1209) s3) fun _ s4 =>
  some ((1 : Int32), s4))
  else
  some ((0 : Int32), s3))
  else
  zbd (q_X3_readTruth (v1 + (1 : Int32)) s1) fun r5 s6 =>
  if r5 = 0 then
  (f_X3_readUnit_71 q_X3_readTruth q_X3_readUnit s6)
  else
  zbd (f_X3_take (nI 1108) s6) fun r7 s8 =>
  if r7 = 0 then
  (f_X3_readUnit_71 q_X3_readTruth q_X3_readUnit s8)
  else
  f_X3_readUnit_72 q_X3_readTruth q_X3_readUnit (1 : Int32) s8)
  else
  zbd (f_X3_refuse (nI 4) s) fun r9 s10 =>
  if r9 = 0 ∨ r9 = 1 then some (r9, s10) else none
set_option maxRecDepth 20000 in
theorem b_X3_readUnit_24 {X : zX} {dd : Nat} {q_X3_readTruth : Int32 → zS → Option (Int32 × zS)} {q_X3_readUnit : Int32 → zS → Option (Int32 × zS)} (hX : zx_ok X cX3_readUnit RX3 4) (hT : zx_rt X (some .boolean) (zR (66 + dd + 1) (1581 + (dd + 1) * 24))) (hq_X3_readTruth : ∀ (v1 : Int32) (s : zS), zM (zx_Y X) yX3_readTruth cX3_readTruth 5 (some .boolean) (zR (66 + dd) (1581 + dd * 24)) [.ref (zx_ad X 30), .int v1] s zrI (q_X3_readTruth v1 s)) (hq_X3_readUnit : ∀ (v1 : Int32) (s : zS), zM (zx_Y X) yX3_readUnit cX3_readUnit 4 (some .boolean) (zR (66 + dd) (1581 + dd * 24)) [.ref (zx_ad X 30), .int v1] s zrI (q_X3_readUnit v1 s)) : ∀ (v1 : Int32) (v2 : Int32) (s : zS), zV X (zq X zrI) 4 24 [(0, .ref (zx_ad X 30)), (1, .int v1), (2, .int v2)] [] s (f_X3_readUnit_24 q_X3_readTruth q_X3_readUnit v1 v2 s) := by
  have hDP : zDP = 64 := rfl
  intro v1 v2 s
  unfold f_X3_readUnit_24
  refine zv_iload_n hX dX3_readUnit_24 1 rfl ?_
  refine zv_bipush (v := (nI 6)) hX dX3_readUnit_25 zi_b_6 ?_
  refine zv_icmp_lt (tgt := 36) hX dX3_readUnit_27 rfl ?_ ?_
  · refine zv_aload_n hX dX3_readUnit_36 0 rfl ?_
    refine zv_cVV [] (rest := []) hX hT.2.2.2.2 (c_X3_step (zx_Y X) s) wv_X3_step c9_3 zd_30 wm_X3_97 rfl (by omega) (by omega) rfl (Nat.le_of_ble_eq_true rfl) dX3_readUnit_37 (fun _ s1 => ?_)
    refine zv_iload_n hX dX3_readUnit_40 2 rfl ?_
    refine zv_sipush (v := (nI 1107)) hX dX3_readUnit_41 zi_s_1107 ?_
    refine zv_icmp_ne (tgt := 73) hX dX3_readUnit_44 rfl ?_ ?_
    · refine zv_aload_n hX dX3_readUnit_73 0 rfl ?_
      refine zv_iload_n hX dX3_readUnit_74 1 rfl ?_
      refine zv_iconst (v := (1 : Int32)) hX dX3_readUnit_75 zi_i_1 ?_
      refine zv_iadd hX dX3_readUnit_76 ?_
      refine zv_cVI [.int (v1 + (1 : Int32))] (rest := []) hX hT.2.2.2.2 (hq_X3_readUnit (v1 + (1 : Int32)) s1) wv_X3_readUnit c9_3 zd_30 wm_X3_171 rfl (by omega) (by omega) rfl (Nat.le_of_ble_eq_true rfl) dX3_readUnit_77 (fun r2 s3 => ?_)
      refine zv_if_ne (tgt := 85) hX dX3_readUnit_80 rfl ?_ ?_
      · refine zv_aload_n hX dX3_readUnit_85 0 rfl ?_
        refine zv_sipush (v := (nI 1209)) hX dX3_readUnit_86 zi_s_1209 ?_
        refine zv_cVV [.int (nI 1209)] (rest := []) hX hT.2.2.2.2 (c_X3_emit (zx_Y X) (nI 1209) s3) wv_X3_emit c9_3 zd_30 wm_X3_174 rfl (by omega) (by omega) rfl (Nat.le_of_ble_eq_true rfl) dX3_readUnit_89 (fun _ s4 => ?_)
        refine zv_iconst (v := (1 : Int32)) hX dX3_readUnit_92 zi_i_1 ?_
        exact zv_iretz hX hT (by decide) dX3_readUnit_93
      · refine zv_iconst (v := (0 : Int32)) hX dX3_readUnit_83 zi_i_0 ?_
        exact zv_iretz hX hT (by decide) dX3_readUnit_84
    · refine zv_aload_n hX dX3_readUnit_47 0 rfl ?_
      refine zv_iload_n hX dX3_readUnit_48 1 rfl ?_
      refine zv_iconst (v := (1 : Int32)) hX dX3_readUnit_49 zi_i_1 ?_
      refine zv_iadd hX dX3_readUnit_50 ?_
      refine zv_cVI [.int (v1 + (1 : Int32))] (rest := []) hX hT.2.2.2.2 (hq_X3_readTruth (v1 + (1 : Int32)) s1) wv_X3_readTruth c9_3 zd_30 wm_X3_119 rfl (by omega) (by omega) rfl (Nat.le_of_ble_eq_true rfl) dX3_readUnit_51 (fun r5 s6 => ?_)
      refine zv_if_eq (tgt := 71) hX dX3_readUnit_54 rfl ?_ ?_
      · exact zv_sub [] rfl (b_X3_readUnit_71 hX hT hq_X3_readTruth hq_X3_readUnit  s6)
      · refine zv_aload_n hX dX3_readUnit_57 0 rfl ?_
        refine zv_sipush (v := (nI 1108)) hX dX3_readUnit_58 zi_s_1108 ?_
        refine zv_cVI [.int (nI 1108)] (rest := []) hX hT.2.2.2.2 (c_X3_take (zx_Y X) (nI 1108) s6) wv_X3_take c9_3 zd_30 wm_X3_42 rfl (by omega) (by omega) rfl (Nat.le_of_ble_eq_true rfl) dX3_readUnit_61 (fun r7 s8 => ?_)
        refine zv_if_eq (tgt := 71) hX dX3_readUnit_64 rfl ?_ ?_
        · exact zv_sub [] rfl (b_X3_readUnit_71 hX hT hq_X3_readTruth hq_X3_readUnit  s8)
        · refine zv_iconst (v := (1 : Int32)) hX dX3_readUnit_67 zi_i_1 ?_
          refine zv_goto (tgt := 72) hX dX3_readUnit_68 rfl ?_
          exact zv_sub [] rfl (b_X3_readUnit_72 hX hT hq_X3_readTruth hq_X3_readUnit (1 : Int32) s8)
  · refine zv_aload_n hX dX3_readUnit_30 0 rfl ?_
    refine zv_iconst (v := (nI 4)) hX dX3_readUnit_31 zi_i_4 ?_
    refine zv_cVI [.int (nI 4)] (rest := []) hX hT.2.2.2.2 (c_X3_refuse (zx_Y X) (nI 4) s) wv_X3_refuse c9_3 zd_30 wm_X3_94 rfl (by omega) (by omega) rfl (Nat.le_of_ble_eq_true rfl) dX3_readUnit_32 (fun r9 s10 => ?_)
    exact zv_iretzB hX hT dX3_readUnit_35
def f_X3_readUnit_141 (q_X3_readTruth : Int32 → zS → Option (Int32 × zS)) (q_X3_readUnit : Int32 → zS → Option (Int32 × zS)) (v1 : Int32) (v3 : Int32) (s : zS) : Option (Int32 × zS) :=
  zbd (f_X3_step s) fun _ s11 =>
  zbd (f_X3_readSum zDP v1 s11) fun r12 s13 =>
  if ¬ r12 = 0 then
  (zbd (f_X3_emit v3 s13) fun _ s14 =>
  some ((1 : Int32), s14))
  else
  some ((0 : Int32), s13)
set_option maxRecDepth 20000 in
theorem b_X3_readUnit_141 {X : zX} {dd : Nat} {q_X3_readTruth : Int32 → zS → Option (Int32 × zS)} {q_X3_readUnit : Int32 → zS → Option (Int32 × zS)} (hX : zx_ok X cX3_readUnit RX3 4) (hT : zx_rt X (some .boolean) (zR (66 + dd + 1) (1581 + (dd + 1) * 24))) (hq_X3_readTruth : ∀ (v1 : Int32) (s : zS), zM (zx_Y X) yX3_readTruth cX3_readTruth 5 (some .boolean) (zR (66 + dd) (1581 + dd * 24)) [.ref (zx_ad X 30), .int v1] s zrI (q_X3_readTruth v1 s)) (hq_X3_readUnit : ∀ (v1 : Int32) (s : zS), zM (zx_Y X) yX3_readUnit cX3_readUnit 4 (some .boolean) (zR (66 + dd) (1581 + dd * 24)) [.ref (zx_ad X 30), .int v1] s zrI (q_X3_readUnit v1 s)) : ∀ (v1 : Int32) (v3 : Int32) (s : zS), zV X (zq X zrI) 4 141 [(0, .ref (zx_ad X 30)), (1, .int v1), (3, .int v3)] [] s (f_X3_readUnit_141 q_X3_readTruth q_X3_readUnit v1 v3 s) := by
  have hDP : zDP = 64 := rfl
  intro v1 v3 s
  unfold f_X3_readUnit_141
  refine zv_aload_n hX dX3_readUnit_141 0 rfl ?_
  refine zv_cVV [] (rest := []) hX hT.2.2.2.2 (c_X3_step (zx_Y X) s) wv_X3_step c9_3 zd_30 wm_X3_97 rfl (by omega) (by omega) rfl (Nat.le_of_ble_eq_true rfl) dX3_readUnit_142 (fun _ s11 => ?_)
  refine zv_aload_n hX dX3_readUnit_145 0 rfl ?_
  refine zv_iload_n hX dX3_readUnit_146 1 rfl ?_
  refine zv_cVI [.int v1] (rest := []) hX hT.2.2.2.2 (c_X3_readSum (zx_Y X) zDP v1 s11) wv_X3_readSum c9_3 zd_30 wm_X3_116 rfl (by omega) (by omega) rfl (Nat.le_of_ble_eq_true rfl) dX3_readUnit_147 (fun r12 s13 => ?_)
  refine zv_if_ne (tgt := 155) hX dX3_readUnit_150 rfl ?_ ?_
  · refine zv_aload_n hX dX3_readUnit_155 0 rfl ?_
    refine zv_iload_n hX dX3_readUnit_156 2 rfl ?_
    refine zv_cVV [.int v3] (rest := []) hX hT.2.2.2.2 (c_X3_emit (zx_Y X) v3 s13) wv_X3_emit c9_3 zd_30 wm_X3_174 rfl (by omega) (by omega) rfl (Nat.le_of_ble_eq_true rfl) dX3_readUnit_157 (fun _ s14 => ?_)
    refine zv_iconst (v := (1 : Int32)) hX dX3_readUnit_160 zi_i_1 ?_
    exact zv_iretz hX hT (by decide) dX3_readUnit_161
  · refine zv_iconst (v := (0 : Int32)) hX dX3_readUnit_153 zi_i_0 ?_
    exact zv_iretz hX hT (by decide) dX3_readUnit_154
def g_X3_readUnit (q_X3_readTruth : Int32 → zS → Option (Int32 × zS)) (q_X3_readUnit : Int32 → zS → Option (Int32 × zS)) (v1 : Int32) (s : zS) : Option (Int32 × zS) :=
  (zr_i s 40 (s.1 30 5)).bind fun x15 =>
  if x15 = (nI 1209) then
  (f_X3_readUnit_24 q_X3_readTruth q_X3_readUnit v1 x15 s)
  else
  if ¬ x15 = (nI 1107) then
  (zbd (f_X3_readSum zDP v1 s) fun r16 s17 =>
  if ¬ r16 = 0 then
  ((zr_i s17 40 (s17.1 30 5)).bind fun x18 =>
  if x18 = (nI 1109) then
  (f_X3_readUnit_141 q_X3_readTruth q_X3_readUnit v1 x18 s17)
  else
  if x18 = (nI 1110) then
  (f_X3_readUnit_141 q_X3_readTruth q_X3_readUnit v1 x18 s17)
  else
  if x18 = (nI 1111) then
  (f_X3_readUnit_141 q_X3_readTruth q_X3_readUnit v1 x18 s17)
  else
  zbd (f_X3_refuse (nI 2) s17) fun r19 s20 =>
  if r19 = 0 ∨ r19 = 1 then some (r19, s20) else none)
  else
  some ((0 : Int32), s17))
  else
  f_X3_readUnit_24 q_X3_readTruth q_X3_readUnit v1 x15 s
set_option maxRecDepth 20000 in
theorem e_X3_readUnit {X : zX} {dd : Nat} {q_X3_readTruth : Int32 → zS → Option (Int32 × zS)} {q_X3_readUnit : Int32 → zS → Option (Int32 × zS)} (hX : zx_ok X cX3_readUnit RX3 4) (hT : zx_rt X (some .boolean) (zR (66 + dd + 1) (1581 + (dd + 1) * 24))) (hq_X3_readTruth : ∀ (v1 : Int32) (s : zS), zM (zx_Y X) yX3_readTruth cX3_readTruth 5 (some .boolean) (zR (66 + dd) (1581 + dd * 24)) [.ref (zx_ad X 30), .int v1] s zrI (q_X3_readTruth v1 s)) (hq_X3_readUnit : ∀ (v1 : Int32) (s : zS), zM (zx_Y X) yX3_readUnit cX3_readUnit 4 (some .boolean) (zR (66 + dd) (1581 + dd * 24)) [.ref (zx_ad X 30), .int v1] s zrI (q_X3_readUnit v1 s)) : ∀ (v1 : Int32) (s : zS), zV X (zq X zrI) 4 0 [(0, .ref (zx_ad X 30)), (1, .int v1)] [] s (g_X3_readUnit q_X3_readTruth q_X3_readUnit v1 s) := by
  have hDP : zDP = 64 := rfl
  intro v1 s
  unfold g_X3_readUnit
  refine zv_aload_n hX dX3_readUnit_0 0 rfl ?_
  refine zv_geta hX wf_X3_22 wc_3 zd_30 zj_30_3 c9_3 zr_30_3 (by decide) dX3_readUnit_1 ?_
  refine zv_aload_n hX dX3_readUnit_4 0 rfl ?_
  refine zv_geti hX wf_X3_39 wc_3 zd_30 zj_30_5 c9_3 zr_30_5 dX3_readUnit_5 ?_
  refine zv_iald hX dX3_readUnit_8 (fun x15 => ?_)
  refine zv_istore_n (lv' := [(2, .int x15), (0, .ref (zx_ad X 30)), (1, .int v1)]) hX dX3_readUnit_9 (by decide) rfl ?_
  refine zv_iload_n hX dX3_readUnit_10 0 rfl ?_
  refine zv_sipush (v := (nI 1209)) hX dX3_readUnit_11 zi_s_1209 ?_
  refine zv_icmp_eq (tgt := 24) hX dX3_readUnit_14 rfl ?_ ?_
  · exact zv_sub [1, 2, 0] rfl (b_X3_readUnit_24 hX hT hq_X3_readTruth hq_X3_readUnit v1 x15 s)
  · refine zv_iload_n hX dX3_readUnit_17 0 rfl ?_
    refine zv_sipush (v := (nI 1107)) hX dX3_readUnit_18 zi_s_1107 ?_
    refine zv_icmp_ne (tgt := 94) hX dX3_readUnit_21 rfl ?_ ?_
    · refine zv_aload_n hX dX3_readUnit_94 1 rfl ?_
      refine zv_iload_n hX dX3_readUnit_95 2 rfl ?_
      refine zv_cVI [.int v1] (rest := []) hX hT.2.2.2.2 (c_X3_readSum (zx_Y X) zDP v1 s) wv_X3_readSum c9_3 zd_30 wm_X3_116 rfl (by omega) (by omega) rfl (Nat.le_of_ble_eq_true rfl) dX3_readUnit_96 (fun r16 s17 => ?_)
      refine zv_if_ne (tgt := 104) hX dX3_readUnit_99 rfl ?_ ?_
      · refine zv_aload_n hX dX3_readUnit_104 1 rfl ?_
        refine zv_geta hX wf_X3_22 wc_3 zd_30 zj_30_3 c9_3 zr_30_3 (by decide) dX3_readUnit_105 ?_
        refine zv_aload_n hX dX3_readUnit_108 1 rfl ?_
        refine zv_geti hX wf_X3_39 wc_3 zd_30 zj_30_5 c9_3 zr_30_5 dX3_readUnit_109 ?_
        refine zv_iald hX dX3_readUnit_112 (fun x18 => ?_)
        refine zv_istore_n (lv' := [(3, .int x18), (2, .int x15), (0, .ref (zx_ad X 30)), (1, .int v1)]) hX dX3_readUnit_113 (by decide) rfl ?_
        refine zv_iload_n hX dX3_readUnit_114 0 rfl ?_
        refine zv_sipush (v := (nI 1109)) hX dX3_readUnit_115 zi_s_1109 ?_
        refine zv_icmp_eq (tgt := 141) hX dX3_readUnit_118 rfl ?_ ?_
        · exact zv_sub [2, 3, 0] rfl (b_X3_readUnit_141 hX hT hq_X3_readTruth hq_X3_readUnit v1 x18 s17)
        · refine zv_iload_n hX dX3_readUnit_121 0 rfl ?_
          refine zv_sipush (v := (nI 1110)) hX dX3_readUnit_122 zi_s_1110 ?_
          refine zv_icmp_eq (tgt := 141) hX dX3_readUnit_125 rfl ?_ ?_
          · exact zv_sub [2, 3, 0] rfl (b_X3_readUnit_141 hX hT hq_X3_readTruth hq_X3_readUnit v1 x18 s17)
          · refine zv_iload_n hX dX3_readUnit_128 0 rfl ?_
            refine zv_sipush (v := (nI 1111)) hX dX3_readUnit_129 zi_s_1111 ?_
            refine zv_icmp_eq (tgt := 141) hX dX3_readUnit_132 rfl ?_ ?_
            · exact zv_sub [2, 3, 0] rfl (b_X3_readUnit_141 hX hT hq_X3_readTruth hq_X3_readUnit v1 x18 s17)
            · refine zv_aload_n hX dX3_readUnit_135 2 rfl ?_
              refine zv_iconst (v := (nI 2)) hX dX3_readUnit_136 zi_i_2 ?_
              refine zv_cVI [.int (nI 2)] (rest := []) hX hT.2.2.2.2 (c_X3_refuse (zx_Y X) (nI 2) s17) wv_X3_refuse c9_3 zd_30 wm_X3_94 rfl (by omega) (by omega) rfl (Nat.le_of_ble_eq_true rfl) dX3_readUnit_137 (fun r19 s20 => ?_)
              exact zv_iretzB hX hT dX3_readUnit_140
      · refine zv_iconst (v := (0 : Int32)) hX dX3_readUnit_102 zi_i_0 ?_
        exact zv_iretz hX hT (by decide) dX3_readUnit_103
    · exact zv_sub [1, 2, 0] rfl (b_X3_readUnit_24 hX hT hq_X3_readTruth hq_X3_readUnit v1 x15 s)
def gg_X3_readTruth : Nat → (Int32 → zS → Option (Int32 × zS)) × (Int32 → zS → Option (Int32 × zS))
  | 0 => (fun _ _ => none, fun _ _ => none)
  | d + 1 => (g_X3_readTruth ((gg_X3_readTruth d).2), g_X3_readUnit ((gg_X3_readTruth d).1) ((gg_X3_readTruth d).2))
def f_X3_readTruth (d : Nat) (v1 : Int32) (s : zS) : Option (Int32 × zS) := (gg_X3_readTruth d).1 v1 s
def f_X3_readUnit (d : Nat) (v1 : Int32) (s : zS) : Option (Int32 × zS) := (gg_X3_readTruth d).2 v1 s
theorem cc_X3_readTruth (Y : zG) : ∀ (d : Nat), (∀ (v1 : Int32) (s : zS), zM Y yX3_readTruth cX3_readTruth 5 (some .boolean) (zR (66 + d) (1581 + d * 24)) [.ref (zy_a Y 30), .int v1] s zrI (f_X3_readTruth d v1 s)) ∧ (∀ (v1 : Int32) (s : zS), zM Y yX3_readUnit cX3_readUnit 4 (some .boolean) (zR (66 + d) (1581 + d * 24)) [.ref (zy_a Y 30), .int v1] s zrI (f_X3_readUnit d v1 s)) := by
  intro d
  induction d with
  | zero => exact ⟨fun v1 s rr h => (by simp [f_X3_readTruth, gg_X3_readTruth] at h), fun v1 s rr h => (by simp [f_X3_readUnit, gg_X3_readTruth] at h)⟩
  | succ d ih =>
    refine ⟨?_, ?_⟩
    · intro v1 s
      refine zm_start (by decide +kernel) (Nat.le_of_ble_eq_true rfl) ?_
      intro X hY hT hX
      subst hY
      have hX : zx_ok X cX3_readTruth RX3 5 := hX
      exact e_X3_readTruth (dd := d) hX hT ih.2 v1 s
    · intro v1 s
      refine zm_start (by decide +kernel) (Nat.le_of_ble_eq_true rfl) ?_
      intro X hY hT hX
      subst hY
      have hX : zx_ok X cX3_readUnit RX3 4 := hX
      exact e_X3_readUnit (dd := d) hX hT ih.1 ih.2 v1 s
theorem c_X3_readTruth (Y : zG) (d : Nat) (v1 : Int32) (s : zS) : zM Y yX3_readTruth cX3_readTruth 5 (some .boolean) (zR (66 + d) (1581 + d * 24)) [.ref (zy_a Y 30), .int v1] s zrI (f_X3_readTruth d v1 s) := (cc_X3_readTruth Y d).1 v1 s
theorem c_X3_readUnit (Y : zG) (d : Nat) (v1 : Int32) (s : zS) : zM Y yX3_readUnit cX3_readUnit 4 (some .boolean) (zR (66 + d) (1581 + d * 24)) [.ref (zy_a Y 30), .int v1] s zrI (f_X3_readUnit d v1 s) := (cc_X3_readTruth Y d).2 v1 s
theorem dX3_keepLaw_0 : decode cX3_keepLaw 0 = .ok (.aload_n 0, 1) := by decide +kernel
theorem dX3_keepLaw_1 : decode cX3_keepLaw 1 = .ok (.getfield 109, 3) := by decide +kernel
theorem dX3_keepLaw_4 : decode cX3_keepLaw 4 = .ok (.ifCond .eq 28, 3) := by decide +kernel
theorem dX3_keepLaw_7 : decode cX3_keepLaw 7 = .ok (.aload_n 0, 1) := by decide +kernel
theorem dX3_keepLaw_8 : decode cX3_keepLaw 8 = .ok (.getfield 12, 3) := by decide +kernel
theorem dX3_keepLaw_11 : decode cX3_keepLaw 11 = .ok (.iload_n 1, 1) := by decide +kernel
theorem dX3_keepLaw_12 : decode cX3_keepLaw 12 = .ok (.putfield 156, 3) := by decide +kernel
theorem dX3_keepLaw_15 : decode cX3_keepLaw 15 = .ok (.aload_n 0, 1) := by decide +kernel
theorem dX3_keepLaw_16 : decode cX3_keepLaw 16 = .ok (.getfield 12, 3) := by decide +kernel
theorem dX3_keepLaw_19 : decode cX3_keepLaw 19 = .ok (.aload_n 0, 1) := by decide +kernel
theorem dX3_keepLaw_20 : decode cX3_keepLaw 20 = .ok (.getfield 12, 3) := by decide +kernel
theorem dX3_keepLaw_23 : decode cX3_keepLaw 23 = .ok (.getfield 113, 3) := by decide +kernel
theorem dX3_keepLaw_26 : decode cX3_keepLaw 26 = .ok (.putfield 159, 3) := by decide +kernel
theorem dX3_keepLaw_29 : decode cX3_keepLaw 29 = .ok (.goto 25, 3) := by decide +kernel
theorem dX3_keepLaw_32 : decode cX3_keepLaw 32 = .ok (.aload_n 0, 1) := by decide +kernel
theorem dX3_keepLaw_33 : decode cX3_keepLaw 33 = .ok (.getfield 12, 3) := by decide +kernel
theorem dX3_keepLaw_36 : decode cX3_keepLaw 36 = .ok (.iload_n 1, 1) := by decide +kernel
theorem dX3_keepLaw_37 : decode cX3_keepLaw 37 = .ok (.putfield 162, 3) := by decide +kernel
theorem dX3_keepLaw_40 : decode cX3_keepLaw 40 = .ok (.aload_n 0, 1) := by decide +kernel
theorem dX3_keepLaw_41 : decode cX3_keepLaw 41 = .ok (.getfield 12, 3) := by decide +kernel
theorem dX3_keepLaw_44 : decode cX3_keepLaw 44 = .ok (.aload_n 0, 1) := by decide +kernel
theorem dX3_keepLaw_45 : decode cX3_keepLaw 45 = .ok (.getfield 12, 3) := by decide +kernel
theorem dX3_keepLaw_48 : decode cX3_keepLaw 48 = .ok (.getfield 113, 3) := by decide +kernel
theorem dX3_keepLaw_51 : decode cX3_keepLaw 51 = .ok (.putfield 165, 3) := by decide +kernel
theorem dX3_keepLaw_54 : decode cX3_keepLaw 54 = .ok (.return_, 1) := by decide +kernel
def f_X3_keepLaw_54  (s : zS) : Option (Unit × zS) :=
  some ((), s)
set_option maxRecDepth 20000 in
theorem b_X3_keepLaw_54 {X : zX} (hX : zx_ok X cX3_keepLaw RX3 2) (hT : zx_rt X none (zR 0 0)) : ∀  (s : zS), zV X (zq X zrV) 2 54 [] [] s (f_X3_keepLaw_54  s) := by
  intro  s
  unfold f_X3_keepLaw_54
  exact zv_vret hX hT dX3_keepLaw_54
def f_X3_keepLaw (v1 : Int32) (s : zS) : Option (Unit × zS) :=
  if (s.1 30 6) = 0 then
  (zb (zs_i s 31 9 v1) fun s1 =>
  zb (zs_i s1 31 10 (s1.1 31 8)) fun s2 =>
  f_X3_keepLaw_54 s2)
  else
  zb (zs_i s 31 11 v1) fun s3 =>
  zb (zs_i s3 31 12 (s3.1 31 8)) fun s4 =>
  f_X3_keepLaw_54 s4
set_option maxRecDepth 20000 in
theorem c_X3_keepLaw (Y : zG) (v1 : Int32) (s : zS) : zM Y yX3_keepLaw cX3_keepLaw 2 none (zR 0 0) [.ref (zy_a Y 30), .int v1] s zrV (f_X3_keepLaw v1 s) := by
  refine zm_start (by decide +kernel) (Nat.le_of_ble_eq_true rfl) ?_
  intro X hY hT hX
  subst hY
  have hX : zx_ok X cX3_keepLaw RX3 2 := hX
  show zV X (zq X zrV) 2 0 [(0, .ref (zx_ad X 30)), (1, .int v1)] [] s _
  unfold f_X3_keepLaw
  refine zv_aload_n hX dX3_keepLaw_0 0 rfl ?_
  refine zv_geti hX wf_X3_109 wc_3 zd_30 zj_30_6 c9_3 zr_30_6 dX3_keepLaw_1 ?_
  refine zv_if_eq (tgt := 32) hX dX3_keepLaw_4 rfl ?_ ?_
  · refine zv_aload_n hX dX3_keepLaw_32 0 rfl ?_
    refine zv_geta hX wf_X3_12 wc_3 zd_30 zj_30_0 c9_3 zr_30_0 (by decide) dX3_keepLaw_33 ?_
    refine zv_iload_n hX dX3_keepLaw_36 1 rfl ?_
    refine zv_puti hX wf_X3_162 wc_5 wk_5_9 zd_31 zj_31_9 c9_5 zr_31_9 dX3_keepLaw_37 (fun s1 => ?_)
    refine zv_aload_n hX dX3_keepLaw_40 0 rfl ?_
    refine zv_geta hX wf_X3_12 wc_3 zd_30 zj_30_0 c9_3 zr_30_0 (by decide) dX3_keepLaw_41 ?_
    refine zv_aload_n hX dX3_keepLaw_44 0 rfl ?_
    refine zv_geta hX wf_X3_12 wc_3 zd_30 zj_30_0 c9_3 zr_30_0 (by decide) dX3_keepLaw_45 ?_
    refine zv_geti hX wf_X3_113 wc_5 zd_31 zj_31_8 c9_5 zr_31_8 dX3_keepLaw_48 ?_
    refine zv_puti hX wf_X3_165 wc_5 wk_5_10 zd_31 zj_31_10 c9_5 zr_31_10 dX3_keepLaw_51 (fun s2 => ?_)
    exact zv_sub [] rfl (b_X3_keepLaw_54 hX hT  s2)
  · refine zv_aload_n hX dX3_keepLaw_7 0 rfl ?_
    refine zv_geta hX wf_X3_12 wc_3 zd_30 zj_30_0 c9_3 zr_30_0 (by decide) dX3_keepLaw_8 ?_
    refine zv_iload_n hX dX3_keepLaw_11 1 rfl ?_
    refine zv_puti hX wf_X3_156 wc_5 wk_5_11 zd_31 zj_31_11 c9_5 zr_31_11 dX3_keepLaw_12 (fun s3 => ?_)
    refine zv_aload_n hX dX3_keepLaw_15 0 rfl ?_
    refine zv_geta hX wf_X3_12 wc_3 zd_30 zj_30_0 c9_3 zr_30_0 (by decide) dX3_keepLaw_16 ?_
    refine zv_aload_n hX dX3_keepLaw_19 0 rfl ?_
    refine zv_geta hX wf_X3_12 wc_3 zd_30 zj_30_0 c9_3 zr_30_0 (by decide) dX3_keepLaw_20 ?_
    refine zv_geti hX wf_X3_113 wc_5 zd_31 zj_31_8 c9_5 zr_31_8 dX3_keepLaw_23 ?_
    refine zv_puti hX wf_X3_159 wc_5 wk_5_12 zd_31 zj_31_12 c9_5 zr_31_12 dX3_keepLaw_26 (fun s4 => ?_)
    refine zv_goto (tgt := 54) hX dX3_keepLaw_29 rfl ?_
    exact zv_sub [] rfl (b_X3_keepLaw_54 hX hT  s4)
