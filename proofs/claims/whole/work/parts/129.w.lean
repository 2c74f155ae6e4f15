theorem dX8_laysCrossed_0 : decode cX8_laysCrossed 0 = .ok (.iconst 0, 1) := by decide +kernel
theorem dX8_laysCrossed_1 : decode cX8_laysCrossed 1 = .ok (.istore_n 1, 1) := by decide +kernel
theorem dX8_laysCrossed_2 : decode cX8_laysCrossed 2 = .ok (.iload_n 1, 1) := by decide +kernel
theorem dX8_laysCrossed_3 : decode cX8_laysCrossed 3 = .ok (.aload_n 0, 1) := by decide +kernel
theorem dX8_laysCrossed_4 : decode cX8_laysCrossed 4 = .ok (.getfield 13, 3) := by decide +kernel
theorem dX8_laysCrossed_7 : decode cX8_laysCrossed 7 = .ok (.iconst 1, 1) := by decide +kernel
theorem dX8_laysCrossed_8 : decode cX8_laysCrossed 8 = .ok (.iaload, 1) := by decide +kernel
theorem dX8_laysCrossed_9 : decode cX8_laysCrossed 9 = .ok (.if_icmp .ge 72, 3) := by decide +kernel
theorem dX8_laysCrossed_12 : decode cX8_laysCrossed 12 = .ok (.iconst 0, 1) := by decide +kernel
theorem dX8_laysCrossed_13 : decode cX8_laysCrossed 13 = .ok (.istore_n 2, 1) := by decide +kernel
theorem dX8_laysCrossed_14 : decode cX8_laysCrossed 14 = .ok (.iload_n 2, 1) := by decide +kernel
theorem dX8_laysCrossed_15 : decode cX8_laysCrossed 15 = .ok (.aload_n 0, 1) := by decide +kernel
theorem dX8_laysCrossed_16 : decode cX8_laysCrossed 16 = .ok (.getfield 13, 3) := by decide +kernel
theorem dX8_laysCrossed_19 : decode cX8_laysCrossed 19 = .ok (.iconst 1, 1) := by decide +kernel
theorem dX8_laysCrossed_20 : decode cX8_laysCrossed 20 = .ok (.iaload, 1) := by decide +kernel
theorem dX8_laysCrossed_21 : decode cX8_laysCrossed 21 = .ok (.if_icmp .ge 54, 3) := by decide +kernel
theorem dX8_laysCrossed_24 : decode cX8_laysCrossed 24 = .ok (.aload_n 0, 1) := by decide +kernel
theorem dX8_laysCrossed_25 : decode cX8_laysCrossed 25 = .ok (.getfield 48, 3) := by decide +kernel
theorem dX8_laysCrossed_28 : decode cX8_laysCrossed 28 = .ok (.bipush 7, 2) := by decide +kernel
theorem dX8_laysCrossed_30 : decode cX8_laysCrossed 30 = .ok (.iload_n 1, 1) := by decide +kernel
theorem dX8_laysCrossed_31 : decode cX8_laysCrossed 31 = .ok (.imul, 1) := by decide +kernel
theorem dX8_laysCrossed_32 : decode cX8_laysCrossed 32 = .ok (.iload_n 2, 1) := by decide +kernel
theorem dX8_laysCrossed_33 : decode cX8_laysCrossed 33 = .ok (.iadd, 1) := by decide +kernel
theorem dX8_laysCrossed_34 : decode cX8_laysCrossed 34 = .ok (.iload_n 1, 1) := by decide +kernel
theorem dX8_laysCrossed_35 : decode cX8_laysCrossed 35 = .ok (.iload_n 2, 1) := by decide +kernel
theorem dX8_laysCrossed_36 : decode cX8_laysCrossed 36 = .ok (.if_icmp .ge 12, 3) := by decide +kernel
theorem dX8_laysCrossed_39 : decode cX8_laysCrossed 39 = .ok (.aload_n 0, 1) := by decide +kernel
theorem dX8_laysCrossed_40 : decode cX8_laysCrossed 40 = .ok (.iload_n 1, 1) := by decide +kernel
theorem dX8_laysCrossed_41 : decode cX8_laysCrossed 41 = .ok (.iload_n 2, 1) := by decide +kernel
theorem dX8_laysCrossed_42 : decode cX8_laysCrossed 42 = .ok (.invokevirtual 268, 3) := by decide +kernel
theorem dX8_laysCrossed_45 : decode cX8_laysCrossed 45 = .ok (.goto 23, 3) := by decide +kernel
theorem dX8_laysCrossed_48 : decode cX8_laysCrossed 48 = .ok (.iload_n 1, 1) := by decide +kernel
theorem dX8_laysCrossed_49 : decode cX8_laysCrossed 49 = .ok (.iload_n 2, 1) := by decide +kernel
theorem dX8_laysCrossed_50 : decode cX8_laysCrossed 50 = .ok (.if_icmp .le 17, 3) := by decide +kernel
theorem dX8_laysCrossed_53 : decode cX8_laysCrossed 53 = .ok (.aload_n 0, 1) := by decide +kernel
theorem dX8_laysCrossed_54 : decode cX8_laysCrossed 54 = .ok (.getfield 48, 3) := by decide +kernel
theorem dX8_laysCrossed_57 : decode cX8_laysCrossed 57 = .ok (.bipush 7, 2) := by decide +kernel
theorem dX8_laysCrossed_59 : decode cX8_laysCrossed 59 = .ok (.iload_n 2, 1) := by decide +kernel
theorem dX8_laysCrossed_60 : decode cX8_laysCrossed 60 = .ok (.imul, 1) := by decide +kernel
theorem dX8_laysCrossed_61 : decode cX8_laysCrossed 61 = .ok (.iload_n 1, 1) := by decide +kernel
theorem dX8_laysCrossed_62 : decode cX8_laysCrossed 62 = .ok (.iadd, 1) := by decide +kernel
theorem dX8_laysCrossed_63 : decode cX8_laysCrossed 63 = .ok (.iaload, 1) := by decide +kernel
theorem dX8_laysCrossed_64 : decode cX8_laysCrossed 64 = .ok (.goto 4, 3) := by decide +kernel
theorem dX8_laysCrossed_67 : decode cX8_laysCrossed 67 = .ok (.iconst 0, 1) := by decide +kernel
theorem dX8_laysCrossed_68 : decode cX8_laysCrossed 68 = .ok (.iastore, 1) := by decide +kernel
theorem dX8_laysCrossed_69 : decode cX8_laysCrossed 69 = .ok (.iinc 2 1, 3) := by decide +kernel
theorem dX8_laysCrossed_72 : decode cX8_laysCrossed 72 = .ok (.goto (-58), 3) := by decide +kernel
theorem dX8_laysCrossed_75 : decode cX8_laysCrossed 75 = .ok (.iinc 1 1, 3) := by decide +kernel
theorem dX8_laysCrossed_78 : decode cX8_laysCrossed 78 = .ok (.goto (-76), 3) := by decide +kernel
theorem dX8_laysCrossed_81 : decode cX8_laysCrossed 81 = .ok (.return_, 1) := by decide +kernel
def f_X8_laysCrossed_68 (kb_2 : Int32 → zS → Option (Unit × zS)) (kb_14 : Int32 → Int32 → zS → Option (Unit × zS)) (v1 : Int32) (v2 : Int32) (w0 : Int32) (w1 : Int32) (s : zS) : Option (Unit × zS) :=
  (zw_i s 87 w1 w0).bind fun s1 =>
  zb (v2 + (1 : Int32)) fun x2 =>
  kb_14 v1 x2 s1
set_option maxRecDepth 20000 in
theorem b_X8_laysCrossed_68 {X : zX} {kb_2 : Int32 → zS → Option (Unit × zS)} {kb_14 : Int32 → Int32 → zS → Option (Unit × zS)} (hX : zx_ok X cX8_laysCrossed RX8 3) (hT : zx_rt X none (zR 69 1713)) (hk_2 : ∀ (v1 : Int32) (s : zS), zV X (zq X zrV) 3 2 [(0, .ref (zx_ad X 76)), (1, .int v1)] [] s (kb_2 v1 s)) (hk_14 : ∀ (v1 : Int32) (v2 : Int32) (s : zS), zV X (zq X zrV) 3 14 [(0, .ref (zx_ad X 76)), (1, .int v1), (2, .int v2)] [] s (kb_14 v1 v2 s)) : ∀ (v1 : Int32) (v2 : Int32) (w0 : Int32) (w1 : Int32) (s : zS), zV X (zq X zrV) 3 68 [(0, .ref (zx_ad X 76)), (1, .int v1), (2, .int v2)] [.int w0, .int w1, .ref (zx_ad X 87)] s (f_X8_laysCrossed_68 kb_2 kb_14 v1 v2 w0 w1 s) := by
  intro v1 v2 w0 w1 s
  unfold f_X8_laysCrossed_68
  refine zv_iast hX dX8_laysCrossed_68 (fun s1 => ?_)
  refine zv_iincB (lw := fun x2 => [(2, .int x2), (0, .ref (zx_ad X 76)), (1, .int v1)]) hX dX8_laysCrossed_69 2 rfl zi_i_1 (by decide) (fun _ => rfl) (fun x2 => ?_)
  refine zv_goto (tgt := 14) hX dX8_laysCrossed_72 rfl ?_
  exact zv_sub [1, 2, 0] rfl (hk_14 v1 x2 s1)
def f_X8_laysCrossed_14 (kb_2 : Int32 → zS → Option (Unit × zS)) : Nat → Int32 → Int32 → zS → Option (Unit × zS)
  | 0, _, _, _ => none
  | n + 1, v1, v2, s =>
    (zr_i s 77 (1 : Int32)).bind fun x3 =>
    if x3 ≤ v2 then
    (zb (v1 + (1 : Int32)) fun x4 =>
    kb_2 x4 s)
    else
    if v2 ≤ v1 then
    (if v1 ≤ v2 then
    (f_X8_laysCrossed_68 kb_2 (f_X8_laysCrossed_14 kb_2 n) v1 v2 (0 : Int32) (((nI 7) * v1) + v2) s)
    else
    (zr_i s 87 (((nI 7) * v2) + v1)).bind fun x5 =>
    f_X8_laysCrossed_68 kb_2 (f_X8_laysCrossed_14 kb_2 n) v1 v2 x5 (((nI 7) * v1) + v2) s)
    else
    zbd (f_X8_crossOf v1 v2 s) fun r6 s7 =>
    f_X8_laysCrossed_68 kb_2 (f_X8_laysCrossed_14 kb_2 n) v1 v2 r6 (((nI 7) * v1) + v2) s7
set_option maxRecDepth 20000 in
theorem b_X8_laysCrossed_14 {X : zX} {kb_2 : Int32 → zS → Option (Unit × zS)} (hX : zx_ok X cX8_laysCrossed RX8 3) (hT : zx_rt X none (zR 69 1713)) (hk_2 : ∀ (v1 : Int32) (s : zS), zV X (zq X zrV) 3 2 [(0, .ref (zx_ad X 76)), (1, .int v1)] [] s (kb_2 v1 s)) : ∀ (n : Nat) (v1 : Int32) (v2 : Int32) (s : zS), zV X (zq X zrV) 3 14 [(0, .ref (zx_ad X 76)), (1, .int v1), (2, .int v2)] [] s (f_X8_laysCrossed_14 kb_2 n v1 v2 s) := by
  intro n
  induction n with
  | zero => intro v1 v2 s; exact zv_none
  | succ n ih =>
    intro v1 v2 s
    rw [f_X8_laysCrossed_14]
    refine zv_iload_n hX dX8_laysCrossed_14 2 rfl ?_
    refine zv_aload_n hX dX8_laysCrossed_15 0 rfl ?_
    refine zv_geta hX wf_X8_13 wc_8 zd_76 zj_76_1 c9_8 zr_76_1 (by decide) dX8_laysCrossed_16 ?_
    refine zv_iconst (v := (1 : Int32)) hX dX8_laysCrossed_19 zi_i_1 ?_
    refine zv_iald hX dX8_laysCrossed_20 (fun x3 => ?_)
    refine zv_icmp_ge (tgt := 75) hX dX8_laysCrossed_21 rfl ?_ ?_
    · refine zv_iincB (lw := fun x4 => [(1, .int x4), (0, .ref (zx_ad X 76)), (2, .int v2)]) hX dX8_laysCrossed_75 1 rfl zi_i_1 (by decide) (fun _ => rfl) (fun x4 => ?_)
      refine zv_goto (tgt := 2) hX dX8_laysCrossed_78 rfl ?_
      exact zv_sub [1, 0] rfl (hk_2 x4 s)
    · refine zv_aload_n hX dX8_laysCrossed_24 0 rfl ?_
      refine zv_geta hX wf_X8_48 wc_8 zd_76 zj_76_24 c9_8 zr_76_24 (by decide) dX8_laysCrossed_25 ?_
      refine zv_bipush (v := (nI 7)) hX dX8_laysCrossed_28 zi_b_7 ?_
      refine zv_iload_n hX dX8_laysCrossed_30 1 rfl ?_
      refine zv_imul hX dX8_laysCrossed_31 ?_
      refine zv_iload_n hX dX8_laysCrossed_32 2 rfl ?_
      refine zv_iadd hX dX8_laysCrossed_33 ?_
      refine zv_iload_n hX dX8_laysCrossed_34 1 rfl ?_
      refine zv_iload_n hX dX8_laysCrossed_35 2 rfl ?_
      refine zv_icmp_ge (tgt := 48) hX dX8_laysCrossed_36 rfl ?_ ?_
      · refine zv_iload_n hX dX8_laysCrossed_48 1 rfl ?_
        refine zv_iload_n hX dX8_laysCrossed_49 2 rfl ?_
        refine zv_icmp_le (tgt := 67) hX dX8_laysCrossed_50 rfl ?_ ?_
        · refine zv_iconst (v := (0 : Int32)) hX dX8_laysCrossed_67 zi_i_0 ?_
          exact b_X8_laysCrossed_68 hX hT hk_2 ih v1 v2 (0 : Int32) (((nI 7) * v1) + v2) s
        · refine zv_aload_n hX dX8_laysCrossed_53 0 rfl ?_
          refine zv_geta hX wf_X8_48 wc_8 zd_76 zj_76_24 c9_8 zr_76_24 (by decide) dX8_laysCrossed_54 ?_
          refine zv_bipush (v := (nI 7)) hX dX8_laysCrossed_57 zi_b_7 ?_
          refine zv_iload_n hX dX8_laysCrossed_59 2 rfl ?_
          refine zv_imul hX dX8_laysCrossed_60 ?_
          refine zv_iload_n hX dX8_laysCrossed_61 1 rfl ?_
          refine zv_iadd hX dX8_laysCrossed_62 ?_
          refine zv_iald hX dX8_laysCrossed_63 (fun x5 => ?_)
          refine zv_goto (tgt := 68) hX dX8_laysCrossed_64 rfl ?_
          exact b_X8_laysCrossed_68 hX hT hk_2 ih v1 v2 x5 (((nI 7) * v1) + v2) s
      · refine zv_aload_n hX dX8_laysCrossed_39 0 rfl ?_
        refine zv_iload_n hX dX8_laysCrossed_40 1 rfl ?_
        refine zv_iload_n hX dX8_laysCrossed_41 2 rfl ?_
        refine zv_cVI [.int v1, .int v2] (rest := [.int (((nI 7) * v1) + v2), .ref (zx_ad X 87)]) hX hT.2.2.2.2 (c_X8_crossOf (zx_Y X) v1 v2 s) wv_X8_crossOf c9_8 zd_76 wm_X8_268 rfl (Nat.le_of_ble_eq_true rfl) (Nat.le_of_ble_eq_true rfl) rfl (Nat.le_of_ble_eq_true rfl) dX8_laysCrossed_42 (fun r6 s7 => ?_)
        refine zv_goto (tgt := 68) hX dX8_laysCrossed_45 rfl ?_
        exact b_X8_laysCrossed_68 hX hT hk_2 ih v1 v2 r6 (((nI 7) * v1) + v2) s7
def f_X8_laysCrossed_2 : Nat → Int32 → zS → Option (Unit × zS)
  | 0, _, _ => none
  | n + 1, v1, s =>
    (zr_i s 77 (1 : Int32)).bind fun x8 =>
    if x8 ≤ v1 then
    (some ((), s))
    else
    f_X8_laysCrossed_14 (f_X8_laysCrossed_2 n) zFU v1 (0 : Int32) s
set_option maxRecDepth 20000 in
theorem b_X8_laysCrossed_2 {X : zX} (hX : zx_ok X cX8_laysCrossed RX8 3) (hT : zx_rt X none (zR 69 1713)) : ∀ (n : Nat) (v1 : Int32) (s : zS), zV X (zq X zrV) 3 2 [(0, .ref (zx_ad X 76)), (1, .int v1)] [] s (f_X8_laysCrossed_2 n v1 s) := by
  intro n
  induction n with
  | zero => intro v1 s; exact zv_none
  | succ n ih =>
    intro v1 s
    rw [f_X8_laysCrossed_2]
    refine zv_iload_n hX dX8_laysCrossed_2 1 rfl ?_
    refine zv_aload_n hX dX8_laysCrossed_3 0 rfl ?_
    refine zv_geta hX wf_X8_13 wc_8 zd_76 zj_76_1 c9_8 zr_76_1 (by decide) dX8_laysCrossed_4 ?_
    refine zv_iconst (v := (1 : Int32)) hX dX8_laysCrossed_7 zi_i_1 ?_
    refine zv_iald hX dX8_laysCrossed_8 (fun x8 => ?_)
    refine zv_icmp_ge (tgt := 81) hX dX8_laysCrossed_9 rfl ?_ ?_
    · exact zv_vret hX hT dX8_laysCrossed_81
    · refine zv_iconst (v := (0 : Int32)) hX dX8_laysCrossed_12 zi_i_0 ?_
      refine zv_istore_n (lv' := [(2, .int (0 : Int32)), (0, .ref (zx_ad X 76)), (1, .int v1)]) hX dX8_laysCrossed_13 (by decide) rfl ?_
      exact zv_sub [1, 2, 0] rfl (b_X8_laysCrossed_14 hX hT ih zFU v1 (0 : Int32) s)
def f_X8_laysCrossed  (s : zS) : Option (Unit × zS) :=
  f_X8_laysCrossed_2 zFU (0 : Int32) s
set_option maxRecDepth 20000 in
theorem c_X8_laysCrossed (Y : zG)  (s : zS) : zM Y yX8_laysCrossed cX8_laysCrossed 3 none (zR 69 1713) [.ref (zy_a Y 76)] s zrV (f_X8_laysCrossed  s) := by
  refine zm_start (by decide +kernel) (Nat.le_of_ble_eq_true rfl) ?_
  intro X hY hT hX
  subst hY
  have hX : zx_ok X cX8_laysCrossed RX8 3 := hX
  show zV X (zq X zrV) 3 0 [(0, .ref (zx_ad X 76))] [] s _
  unfold f_X8_laysCrossed
  refine zv_iconst (v := (0 : Int32)) hX dX8_laysCrossed_0 zi_i_0 ?_
  refine zv_istore_n (lv' := [(1, .int (0 : Int32)), (0, .ref (zx_ad X 76))]) hX dX8_laysCrossed_1 (by decide) rfl ?_
  exact zv_sub [1, 0] rfl (b_X8_laysCrossed_2 hX hT zFU (0 : Int32) s)
theorem dX8_between_0 : decode cX8_between 0 = .ok (.iload_n 0, 1) := by decide +kernel
theorem dX8_between_1 : decode cX8_between 1 = .ok (.tableswitch 80 3003 3008 #[39, 50, 61, 80, 72, 76], 39) := by decide +kernel
theorem dX8_between_40 : decode cX8_between 40 = .ok (.iload_n 1, 1) := by decide +kernel
theorem dX8_between_41 : decode cX8_between 41 = .ok (.iload_n 2, 1) := by decide +kernel
theorem dX8_between_42 : decode cX8_between 42 = .ok (.if_icmp .ne 7, 3) := by decide +kernel
theorem dX8_between_45 : decode cX8_between 45 = .ok (.iconst 1, 1) := by decide +kernel
theorem dX8_between_46 : decode cX8_between 46 = .ok (.goto 4, 3) := by decide +kernel
theorem dX8_between_49 : decode cX8_between 49 = .ok (.iconst 0, 1) := by decide +kernel
theorem dX8_between_50 : decode cX8_between 50 = .ok (.ireturn, 1) := by decide +kernel
theorem dX8_between_51 : decode cX8_between 51 = .ok (.iload_n 1, 1) := by decide +kernel
theorem dX8_between_52 : decode cX8_between 52 = .ok (.iload_n 2, 1) := by decide +kernel
theorem dX8_between_53 : decode cX8_between 53 = .ok (.if_icmp .ge 7, 3) := by decide +kernel
theorem dX8_between_56 : decode cX8_between 56 = .ok (.iconst 1, 1) := by decide +kernel
theorem dX8_between_57 : decode cX8_between 57 = .ok (.goto 4, 3) := by decide +kernel
theorem dX8_between_60 : decode cX8_between 60 = .ok (.iconst 0, 1) := by decide +kernel
theorem dX8_between_61 : decode cX8_between 61 = .ok (.ireturn, 1) := by decide +kernel
theorem dX8_between_62 : decode cX8_between 62 = .ok (.iload_n 1, 1) := by decide +kernel
theorem dX8_between_63 : decode cX8_between 63 = .ok (.iload_n 2, 1) := by decide +kernel
theorem dX8_between_64 : decode cX8_between 64 = .ok (.if_icmp .le 7, 3) := by decide +kernel
theorem dX8_between_67 : decode cX8_between 67 = .ok (.iconst 1, 1) := by decide +kernel
theorem dX8_between_68 : decode cX8_between 68 = .ok (.goto 4, 3) := by decide +kernel
theorem dX8_between_71 : decode cX8_between 71 = .ok (.iconst 0, 1) := by decide +kernel
theorem dX8_between_72 : decode cX8_between 72 = .ok (.ireturn, 1) := by decide +kernel
theorem dX8_between_73 : decode cX8_between 73 = .ok (.iload_n 1, 1) := by decide +kernel
theorem dX8_between_74 : decode cX8_between 74 = .ok (.iload_n 2, 1) := by decide +kernel
theorem dX8_between_75 : decode cX8_between 75 = .ok (.iand, 1) := by decide +kernel
theorem dX8_between_76 : decode cX8_between 76 = .ok (.ireturn, 1) := by decide +kernel
theorem dX8_between_77 : decode cX8_between 77 = .ok (.iload_n 1, 1) := by decide +kernel
theorem dX8_between_78 : decode cX8_between 78 = .ok (.iload_n 2, 1) := by decide +kernel
theorem dX8_between_79 : decode cX8_between 79 = .ok (.ior, 1) := by decide +kernel
theorem dX8_between_80 : decode cX8_between 80 = .ok (.ireturn, 1) := by decide +kernel
theorem dX8_between_81 : decode cX8_between 81 = .ok (.iload_n 0, 1) := by decide +kernel
theorem dX8_between_82 : decode cX8_between 82 = .ok (.sipush 3000, 3) := by decide +kernel
theorem dX8_between_85 : decode cX8_between 85 = .ok (.if_icmp .ne 11, 3) := by decide +kernel
theorem dX8_between_88 : decode cX8_between 88 = .ok (.iload_n 1, 1) := by decide +kernel
theorem dX8_between_89 : decode cX8_between 89 = .ok (.i2l, 1) := by decide +kernel
theorem dX8_between_90 : decode cX8_between 90 = .ok (.iload_n 2, 1) := by decide +kernel
theorem dX8_between_91 : decode cX8_between 91 = .ok (.i2l, 1) := by decide +kernel
theorem dX8_between_92 : decode cX8_between 92 = .ok (.ladd, 1) := by decide +kernel
theorem dX8_between_93 : decode cX8_between 93 = .ok (.goto 23, 3) := by decide +kernel
theorem dX8_between_96 : decode cX8_between 96 = .ok (.iload_n 0, 1) := by decide +kernel
theorem dX8_between_97 : decode cX8_between 97 = .ok (.sipush 3001, 3) := by decide +kernel
theorem dX8_between_100 : decode cX8_between 100 = .ok (.if_icmp .ne 11, 3) := by decide +kernel
theorem dX8_between_103 : decode cX8_between 103 = .ok (.iload_n 1, 1) := by decide +kernel
theorem dX8_between_104 : decode cX8_between 104 = .ok (.i2l, 1) := by decide +kernel
theorem dX8_between_105 : decode cX8_between 105 = .ok (.iload_n 2, 1) := by decide +kernel
theorem dX8_between_106 : decode cX8_between 106 = .ok (.i2l, 1) := by decide +kernel
theorem dX8_between_107 : decode cX8_between 107 = .ok (.lsub, 1) := by decide +kernel
theorem dX8_between_108 : decode cX8_between 108 = .ok (.goto 8, 3) := by decide +kernel
theorem dX8_between_111 : decode cX8_between 111 = .ok (.iload_n 1, 1) := by decide +kernel
theorem dX8_between_112 : decode cX8_between 112 = .ok (.i2l, 1) := by decide +kernel
theorem dX8_between_113 : decode cX8_between 113 = .ok (.iload_n 2, 1) := by decide +kernel
theorem dX8_between_114 : decode cX8_between 114 = .ok (.i2l, 1) := by decide +kernel
theorem dX8_between_115 : decode cX8_between 115 = .ok (.lmul, 1) := by decide +kernel
theorem dX8_between_116 : decode cX8_between 116 = .ok (.lstore_n 3, 1) := by decide +kernel
theorem dX8_between_117 : decode cX8_between 117 = .ok (.lload_n 3, 1) := by decide +kernel
theorem dX8_between_118 : decode cX8_between 118 = .ok (.ldc2_w 250, 3) := by decide +kernel
theorem dX8_between_121 : decode cX8_between 121 = .ok (.lcmp, 1) := by decide +kernel
theorem dX8_between_122 : decode cX8_between 122 = .ok (.ifCond .le 9, 3) := by decide +kernel
theorem dX8_between_125 : decode cX8_between 125 = .ok (.ldc2_w 250, 3) := by decide +kernel
theorem dX8_between_128 : decode cX8_between 128 = .ok (.goto 18, 3) := by decide +kernel
theorem dX8_between_131 : decode cX8_between 131 = .ok (.lload_n 3, 1) := by decide +kernel
theorem dX8_between_132 : decode cX8_between 132 = .ok (.ldc2_w 252, 3) := by decide +kernel
theorem dX8_between_135 : decode cX8_between 135 = .ok (.lcmp, 1) := by decide +kernel
theorem dX8_between_136 : decode cX8_between 136 = .ok (.ifCond .ge 9, 3) := by decide +kernel
theorem dX8_between_139 : decode cX8_between 139 = .ok (.ldc2_w 252, 3) := by decide +kernel
theorem dX8_between_142 : decode cX8_between 142 = .ok (.goto 4, 3) := by decide +kernel
theorem dX8_between_145 : decode cX8_between 145 = .ok (.lload_n 3, 1) := by decide +kernel
theorem dX8_between_146 : decode cX8_between 146 = .ok (.l2i, 1) := by decide +kernel
theorem dX8_between_147 : decode cX8_between 147 = .ok (.ireturn, 1) := by decide +kernel
def f_X8_between_146 (w0 : Int64) (s : zS) : Option (Int32 × zS) :=
  some (w0.toInt32, s)
set_option maxRecDepth 20000 in
theorem b_X8_between_146 {X : zX} (hX : zx_ok X cX8_between RX8 5) (hT : zx_rt X (some .int) (zR 0 0)) : ∀ (w0 : Int64) (s : zS), zV X (zq X zrI) 5 146 [] [.long w0] s (f_X8_between_146 w0 s) := by
  intro w0 s
  unfold f_X8_between_146
  refine zv_l2i hX dX8_between_146 ?_
  exact zv_ireti hX hT dX8_between_147
def f_X8_between_116 (w0 : Int64) (s : zS) : Option (Int32 × zS) :=
  if (lg_cmp w0 (1000000 : Int64)) ≤ 0 then
  (if 0 ≤ (lg_cmp w0 (-1000000 : Int64)) then
  (f_X8_between_146 w0 s)
  else
  f_X8_between_146 (-1000000 : Int64) s)
  else
  f_X8_between_146 (1000000 : Int64) s
set_option maxRecDepth 20000 in
theorem b_X8_between_116 {X : zX} (hX : zx_ok X cX8_between RX8 5) (hT : zx_rt X (some .int) (zR 0 0)) : ∀ (w0 : Int64) (s : zS), zV X (zq X zrI) 5 116 [] [.long w0] s (f_X8_between_116 w0 s) := by
  intro w0 s
  unfold f_X8_between_116
  refine zv_lstore_n (lv' := [(3, .long w0)]) hX dX8_between_116 (by decide) rfl ?_
  refine zv_lload_n hX dX8_between_117 0 rfl ?_
  refine zv_ldc2 hX wn_X8_250 dX8_between_118 ?_
  refine zv_lcmp hX dX8_between_121 ?_
  refine zv_if_le (tgt := 131) hX dX8_between_122 rfl ?_ ?_
  · refine zv_lload_n hX dX8_between_131 0 rfl ?_
    refine zv_ldc2 hX wn_X8_252 dX8_between_132 ?_
    refine zv_lcmp hX dX8_between_135 ?_
    refine zv_if_ge (tgt := 145) hX dX8_between_136 rfl ?_ ?_
    · refine zv_lload_n hX dX8_between_145 0 rfl ?_
      exact zv_sub [] rfl (b_X8_between_146 hX hT w0 s)
    · refine zv_ldc2 hX wn_X8_252 dX8_between_139 ?_
      refine zv_goto (tgt := 146) hX dX8_between_142 rfl ?_
      exact zv_sub [] rfl (b_X8_between_146 hX hT (-1000000 : Int64) s)
  · refine zv_ldc2 hX wn_X8_250 dX8_between_125 ?_
    refine zv_goto (tgt := 146) hX dX8_between_128 rfl ?_
    exact zv_sub [] rfl (b_X8_between_146 hX hT (1000000 : Int64) s)
def f_X8_between_50 (w0 : Int32) (s : zS) : Option (Int32 × zS) :=
  some (w0, s)
set_option maxRecDepth 20000 in
theorem b_X8_between_50 {X : zX} (hX : zx_ok X cX8_between RX8 5) (hT : zx_rt X (some .int) (zR 0 0)) : ∀ (w0 : Int32) (s : zS), zV X (zq X zrI) 5 50 [] [.int w0] s (f_X8_between_50 w0 s) := by
  intro w0 s
  unfold f_X8_between_50
  exact zv_ireti hX hT dX8_between_50
def f_X8_between_61 (w0 : Int32) (s : zS) : Option (Int32 × zS) :=
  some (w0, s)
set_option maxRecDepth 20000 in
theorem b_X8_between_61 {X : zX} (hX : zx_ok X cX8_between RX8 5) (hT : zx_rt X (some .int) (zR 0 0)) : ∀ (w0 : Int32) (s : zS), zV X (zq X zrI) 5 61 [] [.int w0] s (f_X8_between_61 w0 s) := by
  intro w0 s
  unfold f_X8_between_61
  exact zv_ireti hX hT dX8_between_61
def f_X8_between_72 (w0 : Int32) (s : zS) : Option (Int32 × zS) :=
  some (w0, s)
set_option maxRecDepth 20000 in
theorem b_X8_between_72 {X : zX} (hX : zx_ok X cX8_between RX8 5) (hT : zx_rt X (some .int) (zR 0 0)) : ∀ (w0 : Int32) (s : zS), zV X (zq X zrI) 5 72 [] [.int w0] s (f_X8_between_72 w0 s) := by
  intro w0 s
  unfold f_X8_between_72
  exact zv_ireti hX hT dX8_between_72
def f_X8_between (v0 : Int32) (v1 : Int32) (v2 : Int32) (s : zS) : Option (Int32 × zS) :=
  if v0 = (nI 3003) then
  (if ¬ v1 = v2 then
  (f_X8_between_50 (0 : Int32) s)
  else
  f_X8_between_50 (1 : Int32) s)
  else if v0 = (nI 3004) then
  (if v2 ≤ v1 then
  (f_X8_between_61 (0 : Int32) s)
  else
  f_X8_between_61 (1 : Int32) s)
  else if v0 = (nI 3005) then
  (if v1 ≤ v2 then
  (f_X8_between_72 (0 : Int32) s)
  else
  f_X8_between_72 (1 : Int32) s)
  else if v0 = (nI 3006) then
  (if ¬ v0 = (nI 3000) then
  (if ¬ v0 = (nI 3001) then
  (f_X8_between_116 ((v1.toInt64) * (v2.toInt64)) s)
  else
  f_X8_between_116 ((v1.toInt64) - (v2.toInt64)) s)
  else
  f_X8_between_116 ((v1.toInt64) + (v2.toInt64)) s)
  else if v0 = (nI 3007) then
  (some (v1 &&& v2, s))
  else if v0 = (nI 3008) then
  (some (v1 ||| v2, s))
  else 
  if ¬ v0 = (nI 3000) then
  (if ¬ v0 = (nI 3001) then
  (f_X8_between_116 ((v1.toInt64) * (v2.toInt64)) s)
  else
  f_X8_between_116 ((v1.toInt64) - (v2.toInt64)) s)
  else
  f_X8_between_116 ((v1.toInt64) + (v2.toInt64)) s
set_option maxRecDepth 20000 in
theorem c_X8_between (Y : zG) (v0 : Int32) (v1 : Int32) (v2 : Int32) (s : zS) : zM Y yX8_between cX8_between 5 (some .int) (zR 0 0) [.int v0, .int v1, .int v2] s zrI (f_X8_between v0 v1 v2 s) := by
  refine zm_start (by decide +kernel) (Nat.le_of_ble_eq_true rfl) ?_
  intro X hY hT hX
  subst hY
  have hX : zx_ok X cX8_between RX8 5 := hX
  show zV X (zq X zrI) 5 0 [(0, .int v0), (1, .int v1), (2, .int v2)] [] s _
  unfold f_X8_between
  refine zv_iload_n hX dX8_between_0 0 rfl ?_
  refine zv_ite (fun h1_3003 => ?_) (fun h1_3003 => ?_)
  · refine zv_tabI (tgt := 40) hX dX8_between_1 (nI 3003) h1_3003 (by decide) (by decide) rfl rfl ?_
    refine zv_iload_n hX dX8_between_40 1 rfl ?_
    refine zv_iload_n hX dX8_between_41 2 rfl ?_
    refine zv_icmp_ne (tgt := 49) hX dX8_between_42 rfl ?_ ?_
    · refine zv_iconst (v := (0 : Int32)) hX dX8_between_49 zi_i_0 ?_
      exact zv_sub [] rfl (b_X8_between_50 hX hT (0 : Int32) s)
    · refine zv_iconst (v := (1 : Int32)) hX dX8_between_45 zi_i_1 ?_
      refine zv_goto (tgt := 50) hX dX8_between_46 rfl ?_
      exact zv_sub [] rfl (b_X8_between_50 hX hT (1 : Int32) s)
  refine zv_ite (fun h1_3004 => ?_) (fun h1_3004 => ?_)
  · refine zv_tabI (tgt := 51) hX dX8_between_1 (nI 3004) h1_3004 (by decide) (by decide) rfl rfl ?_
    refine zv_iload_n hX dX8_between_51 1 rfl ?_
    refine zv_iload_n hX dX8_between_52 2 rfl ?_
    refine zv_icmp_ge (tgt := 60) hX dX8_between_53 rfl ?_ ?_
    · refine zv_iconst (v := (0 : Int32)) hX dX8_between_60 zi_i_0 ?_
      exact zv_sub [] rfl (b_X8_between_61 hX hT (0 : Int32) s)
    · refine zv_iconst (v := (1 : Int32)) hX dX8_between_56 zi_i_1 ?_
      refine zv_goto (tgt := 61) hX dX8_between_57 rfl ?_
      exact zv_sub [] rfl (b_X8_between_61 hX hT (1 : Int32) s)
  refine zv_ite (fun h1_3005 => ?_) (fun h1_3005 => ?_)
  · refine zv_tabI (tgt := 62) hX dX8_between_1 (nI 3005) h1_3005 (by decide) (by decide) rfl rfl ?_
    refine zv_iload_n hX dX8_between_62 1 rfl ?_
    refine zv_iload_n hX dX8_between_63 2 rfl ?_
    refine zv_icmp_le (tgt := 71) hX dX8_between_64 rfl ?_ ?_
    · refine zv_iconst (v := (0 : Int32)) hX dX8_between_71 zi_i_0 ?_
      exact zv_sub [] rfl (b_X8_between_72 hX hT (0 : Int32) s)
    · refine zv_iconst (v := (1 : Int32)) hX dX8_between_67 zi_i_1 ?_
      refine zv_goto (tgt := 72) hX dX8_between_68 rfl ?_
      exact zv_sub [] rfl (b_X8_between_72 hX hT (1 : Int32) s)
  refine zv_ite (fun h1_3006 => ?_) (fun h1_3006 => ?_)
  · refine zv_tabI (tgt := 81) hX dX8_between_1 (nI 3006) h1_3006 (by decide) (by decide) rfl rfl ?_
    refine zv_iload_n hX dX8_between_81 0 rfl ?_
    refine zv_sipush (v := (nI 3000)) hX dX8_between_82 zi_s_3000 ?_
    refine zv_icmp_ne (tgt := 96) hX dX8_between_85 rfl ?_ ?_
    · refine zv_iload_n hX dX8_between_96 0 rfl ?_
      refine zv_sipush (v := (nI 3001)) hX dX8_between_97 zi_s_3001 ?_
      refine zv_icmp_ne (tgt := 111) hX dX8_between_100 rfl ?_ ?_
      · refine zv_iload_n hX dX8_between_111 1 rfl ?_
        refine zv_i2l hX dX8_between_112 ?_
        refine zv_iload_n hX dX8_between_113 2 rfl ?_
        refine zv_i2l hX dX8_between_114 ?_
        refine zv_lmul hX dX8_between_115 ?_
        exact zv_sub [] rfl (b_X8_between_116 hX hT ((v1.toInt64) * (v2.toInt64)) s)
      · refine zv_iload_n hX dX8_between_103 1 rfl ?_
        refine zv_i2l hX dX8_between_104 ?_
        refine zv_iload_n hX dX8_between_105 2 rfl ?_
        refine zv_i2l hX dX8_between_106 ?_
        refine zv_lsub hX dX8_between_107 ?_
        refine zv_goto (tgt := 116) hX dX8_between_108 rfl ?_
        exact zv_sub [] rfl (b_X8_between_116 hX hT ((v1.toInt64) - (v2.toInt64)) s)
    · refine zv_iload_n hX dX8_between_88 1 rfl ?_
      refine zv_i2l hX dX8_between_89 ?_
      refine zv_iload_n hX dX8_between_90 2 rfl ?_
      refine zv_i2l hX dX8_between_91 ?_
      refine zv_ladd hX dX8_between_92 ?_
      refine zv_goto (tgt := 116) hX dX8_between_93 rfl ?_
      exact zv_sub [] rfl (b_X8_between_116 hX hT ((v1.toInt64) + (v2.toInt64)) s)
  refine zv_ite (fun h1_3007 => ?_) (fun h1_3007 => ?_)
  · refine zv_tabI (tgt := 73) hX dX8_between_1 (nI 3007) h1_3007 (by decide) (by decide) rfl rfl ?_
    refine zv_iload_n hX dX8_between_73 1 rfl ?_
    refine zv_iload_n hX dX8_between_74 2 rfl ?_
    refine zv_iand hX dX8_between_75 ?_
    exact zv_ireti hX hT dX8_between_76
  refine zv_ite (fun h1_3008 => ?_) (fun h1_3008 => ?_)
  · refine zv_tabI (tgt := 77) hX dX8_between_1 (nI 3008) h1_3008 (by decide) (by decide) rfl rfl ?_
    refine zv_iload_n hX dX8_between_77 1 rfl ?_
    refine zv_iload_n hX dX8_between_78 2 rfl ?_
    refine zv_ior hX dX8_between_79 ?_
    exact zv_ireti hX hT dX8_between_80
  refine zv_tabO (tgt := 81) hX dX8_between_1 (zt_out 3003 6 (by decide) (fun j hj => by match j, hj with | 0, _ => exact h1_3003 | 1, _ => exact h1_3004 | 2, _ => exact h1_3005 | 3, _ => exact h1_3006 | 4, _ => exact h1_3007 | 5, _ => exact h1_3008)) rfl ?_
  refine zv_iload_n hX dX8_between_81 0 rfl ?_
  refine zv_sipush (v := (nI 3000)) hX dX8_between_82 zi_s_3000 ?_
  refine zv_icmp_ne (tgt := 96) hX dX8_between_85 rfl ?_ ?_
  · refine zv_iload_n hX dX8_between_96 0 rfl ?_
    refine zv_sipush (v := (nI 3001)) hX dX8_between_97 zi_s_3001 ?_
    refine zv_icmp_ne (tgt := 111) hX dX8_between_100 rfl ?_ ?_
    · refine zv_iload_n hX dX8_between_111 1 rfl ?_
      refine zv_i2l hX dX8_between_112 ?_
      refine zv_iload_n hX dX8_between_113 2 rfl ?_
      refine zv_i2l hX dX8_between_114 ?_
      refine zv_lmul hX dX8_between_115 ?_
      exact zv_sub [] rfl (b_X8_between_116 hX hT ((v1.toInt64) * (v2.toInt64)) s)
    · refine zv_iload_n hX dX8_between_103 1 rfl ?_
      refine zv_i2l hX dX8_between_104 ?_
      refine zv_iload_n hX dX8_between_105 2 rfl ?_
      refine zv_i2l hX dX8_between_106 ?_
      refine zv_lsub hX dX8_between_107 ?_
      refine zv_goto (tgt := 116) hX dX8_between_108 rfl ?_
      exact zv_sub [] rfl (b_X8_between_116 hX hT ((v1.toInt64) - (v2.toInt64)) s)
  · refine zv_iload_n hX dX8_between_88 1 rfl ?_
    refine zv_i2l hX dX8_between_89 ?_
    refine zv_iload_n hX dX8_between_90 2 rfl ?_
    refine zv_i2l hX dX8_between_91 ?_
    refine zv_ladd hX dX8_between_92 ?_
    refine zv_goto (tgt := 116) hX dX8_between_93 rfl ?_
    exact zv_sub [] rfl (b_X8_between_116 hX hT ((v1.toInt64) + (v2.toInt64)) s)
theorem dX8_reckons_0 : decode cX8_reckons 0 = .ok (.iconst 0, 1) := by decide +kernel
theorem dX8_reckons_1 : decode cX8_reckons 1 = .ok (.istore_n 2, 1) := by decide +kernel
theorem dX8_reckons_2 : decode cX8_reckons 2 = .ok (.iconst 0, 1) := by decide +kernel
theorem dX8_reckons_3 : decode cX8_reckons 3 = .ok (.istore_n 3, 1) := by decide +kernel
theorem dX8_reckons_4 : decode cX8_reckons 4 = .ok (.iload_n 3, 1) := by decide +kernel
theorem dX8_reckons_5 : decode cX8_reckons 5 = .ok (.aload_n 0, 1) := by decide +kernel
theorem dX8_reckons_6 : decode cX8_reckons 6 = .ok (.getfield 13, 3) := by decide +kernel
theorem dX8_reckons_9 : decode cX8_reckons 9 = .ok (.bipush 6, 2) := by decide +kernel
theorem dX8_reckons_11 : decode cX8_reckons 11 = .ok (.iload_n 1, 1) := by decide +kernel
theorem dX8_reckons_12 : decode cX8_reckons 12 = .ok (.iadd, 1) := by decide +kernel
theorem dX8_reckons_13 : decode cX8_reckons 13 = .ok (.iaload, 1) := by decide +kernel
theorem dX8_reckons_14 : decode cX8_reckons 14 = .ok (.if_icmp .ge 133, 3) := by decide +kernel
theorem dX8_reckons_17 : decode cX8_reckons 17 = .ok (.aload_n 0, 1) := by decide +kernel
theorem dX8_reckons_18 : decode cX8_reckons 18 = .ok (.getfield 13, 3) := by decide +kernel
theorem dX8_reckons_21 : decode cX8_reckons 21 = .ok (.sipush 255, 3) := by decide +kernel
theorem dX8_reckons_24 : decode cX8_reckons 24 = .ok (.aload_n 0, 1) := by decide +kernel
theorem dX8_reckons_25 : decode cX8_reckons 25 = .ok (.getfield 13, 3) := by decide +kernel
theorem dX8_reckons_28 : decode cX8_reckons 28 = .ok (.iconst 4, 1) := by decide +kernel
theorem dX8_reckons_29 : decode cX8_reckons 29 = .ok (.iload_n 1, 1) := by decide +kernel
theorem dX8_reckons_30 : decode cX8_reckons 30 = .ok (.iadd, 1) := by decide +kernel
theorem dX8_reckons_31 : decode cX8_reckons 31 = .ok (.iaload, 1) := by decide +kernel
theorem dX8_reckons_32 : decode cX8_reckons 32 = .ok (.iadd, 1) := by decide +kernel
theorem dX8_reckons_33 : decode cX8_reckons 33 = .ok (.iload_n 3, 1) := by decide +kernel
theorem dX8_reckons_34 : decode cX8_reckons 34 = .ok (.iadd, 1) := by decide +kernel
theorem dX8_reckons_35 : decode cX8_reckons 35 = .ok (.iaload, 1) := by decide +kernel
theorem dX8_reckons_36 : decode cX8_reckons 36 = .ok (.istore 4, 2) := by decide +kernel
theorem dX8_reckons_38 : decode cX8_reckons 38 = .ok (.iload 4, 2) := by decide +kernel
theorem dX8_reckons_40 : decode cX8_reckons 40 = .ok (.sipush 3000, 3) := by decide +kernel
theorem dX8_reckons_43 : decode cX8_reckons 43 = .ok (.if_icmp .ge 39, 3) := by decide +kernel
theorem dX8_reckons_46 : decode cX8_reckons 46 = .ok (.aload_n 0, 1) := by decide +kernel
theorem dX8_reckons_47 : decode cX8_reckons 47 = .ok (.getfield 42, 3) := by decide +kernel
theorem dX8_reckons_50 : decode cX8_reckons 50 = .ok (.iload_n 2, 1) := by decide +kernel
theorem dX8_reckons_51 : decode cX8_reckons 51 = .ok (.iload 4, 2) := by decide +kernel
theorem dX8_reckons_53 : decode cX8_reckons 53 = .ok (.sipush 1000, 3) := by decide +kernel
theorem dX8_reckons_56 : decode cX8_reckons 56 = .ok (.if_icmp .ge 8, 3) := by decide +kernel
theorem dX8_reckons_59 : decode cX8_reckons 59 = .ok (.iload 4, 2) := by decide +kernel
theorem dX8_reckons_61 : decode cX8_reckons 61 = .ok (.goto 14, 3) := by decide +kernel
theorem dX8_reckons_64 : decode cX8_reckons 64 = .ok (.aload_n 0, 1) := by decide +kernel
theorem dX8_reckons_65 : decode cX8_reckons 65 = .ok (.getfield 45, 3) := by decide +kernel
theorem dX8_reckons_68 : decode cX8_reckons 68 = .ok (.iload 4, 2) := by decide +kernel
theorem dX8_reckons_70 : decode cX8_reckons 70 = .ok (.sipush 1000, 3) := by decide +kernel
theorem dX8_reckons_73 : decode cX8_reckons 73 = .ok (.isub, 1) := by decide +kernel
theorem dX8_reckons_74 : decode cX8_reckons 74 = .ok (.iaload, 1) := by decide +kernel
theorem dX8_reckons_75 : decode cX8_reckons 75 = .ok (.iastore, 1) := by decide +kernel
theorem dX8_reckons_76 : decode cX8_reckons 76 = .ok (.iinc 2 1, 3) := by decide +kernel
theorem dX8_reckons_79 : decode cX8_reckons 79 = .ok (.goto 62, 3) := by decide +kernel
theorem dX8_reckons_82 : decode cX8_reckons 82 = .ok (.iload 4, 2) := by decide +kernel
theorem dX8_reckons_84 : decode cX8_reckons 84 = .ok (.sipush 3006, 3) := by decide +kernel
theorem dX8_reckons_87 : decode cX8_reckons 87 = .ok (.if_icmp .ne 24, 3) := by decide +kernel
theorem dX8_reckons_90 : decode cX8_reckons 90 = .ok (.aload_n 0, 1) := by decide +kernel
theorem dX8_reckons_91 : decode cX8_reckons 91 = .ok (.getfield 42, 3) := by decide +kernel
theorem dX8_reckons_94 : decode cX8_reckons 94 = .ok (.iload_n 2, 1) := by decide +kernel
theorem dX8_reckons_95 : decode cX8_reckons 95 = .ok (.iconst 1, 1) := by decide +kernel
theorem dX8_reckons_96 : decode cX8_reckons 96 = .ok (.isub, 1) := by decide +kernel
theorem dX8_reckons_97 : decode cX8_reckons 97 = .ok (.iconst 1, 1) := by decide +kernel
theorem dX8_reckons_98 : decode cX8_reckons 98 = .ok (.aload_n 0, 1) := by decide +kernel
theorem dX8_reckons_99 : decode cX8_reckons 99 = .ok (.getfield 42, 3) := by decide +kernel
theorem dX8_reckons_102 : decode cX8_reckons 102 = .ok (.iload_n 2, 1) := by decide +kernel
theorem dX8_reckons_103 : decode cX8_reckons 103 = .ok (.iconst 1, 1) := by decide +kernel
theorem dX8_reckons_104 : decode cX8_reckons 104 = .ok (.isub, 1) := by decide +kernel
theorem dX8_reckons_105 : decode cX8_reckons 105 = .ok (.iaload, 1) := by decide +kernel
theorem dX8_reckons_106 : decode cX8_reckons 106 = .ok (.isub, 1) := by decide +kernel
theorem dX8_reckons_107 : decode cX8_reckons 107 = .ok (.iastore, 1) := by decide +kernel
theorem dX8_reckons_108 : decode cX8_reckons 108 = .ok (.goto 33, 3) := by decide +kernel
theorem dX8_reckons_111 : decode cX8_reckons 111 = .ok (.iinc 2 (-1), 3) := by decide +kernel
theorem dX8_reckons_114 : decode cX8_reckons 114 = .ok (.aload_n 0, 1) := by decide +kernel
theorem dX8_reckons_115 : decode cX8_reckons 115 = .ok (.getfield 42, 3) := by decide +kernel
theorem dX8_reckons_118 : decode cX8_reckons 118 = .ok (.iload_n 2, 1) := by decide +kernel
theorem dX8_reckons_119 : decode cX8_reckons 119 = .ok (.iconst 1, 1) := by decide +kernel
theorem dX8_reckons_120 : decode cX8_reckons 120 = .ok (.isub, 1) := by decide +kernel
theorem dX8_reckons_121 : decode cX8_reckons 121 = .ok (.iload 4, 2) := by decide +kernel
theorem dX8_reckons_123 : decode cX8_reckons 123 = .ok (.aload_n 0, 1) := by decide +kernel
theorem dX8_reckons_124 : decode cX8_reckons 124 = .ok (.getfield 42, 3) := by decide +kernel
theorem dX8_reckons_127 : decode cX8_reckons 127 = .ok (.iload_n 2, 1) := by decide +kernel
theorem dX8_reckons_128 : decode cX8_reckons 128 = .ok (.iconst 1, 1) := by decide +kernel
theorem dX8_reckons_129 : decode cX8_reckons 129 = .ok (.isub, 1) := by decide +kernel
theorem dX8_reckons_130 : decode cX8_reckons 130 = .ok (.iaload, 1) := by decide +kernel
theorem dX8_reckons_131 : decode cX8_reckons 131 = .ok (.aload_n 0, 1) := by decide +kernel
theorem dX8_reckons_132 : decode cX8_reckons 132 = .ok (.getfield 42, 3) := by decide +kernel
theorem dX8_reckons_135 : decode cX8_reckons 135 = .ok (.iload_n 2, 1) := by decide +kernel
theorem dX8_reckons_136 : decode cX8_reckons 136 = .ok (.iaload, 1) := by decide +kernel
theorem dX8_reckons_137 : decode cX8_reckons 137 = .ok (.invokestatic 254, 3) := by decide +kernel
theorem dX8_reckons_140 : decode cX8_reckons 140 = .ok (.iastore, 1) := by decide +kernel
theorem dX8_reckons_141 : decode cX8_reckons 141 = .ok (.iinc 3 1, 3) := by decide +kernel
theorem dX8_reckons_144 : decode cX8_reckons 144 = .ok (.goto (-140), 3) := by decide +kernel
theorem dX8_reckons_147 : decode cX8_reckons 147 = .ok (.aload_n 0, 1) := by decide +kernel
theorem dX8_reckons_148 : decode cX8_reckons 148 = .ok (.getfield 42, 3) := by decide +kernel
theorem dX8_reckons_151 : decode cX8_reckons 151 = .ok (.iconst 0, 1) := by decide +kernel
theorem dX8_reckons_152 : decode cX8_reckons 152 = .ok (.iaload, 1) := by decide +kernel
theorem dX8_reckons_153 : decode cX8_reckons 153 = .ok (.ireturn, 1) := by decide +kernel
def f_X8_reckons_141 (kb_4 : Int32 → Int32 → Int32 → zS → Option (Int32 × zS)) (v1 : Int32) (v2 : Int32) (v3 : Int32) (s : zS) : Option (Int32 × zS) :=
  zb (v3 + (1 : Int32)) fun x1 =>
  kb_4 v1 v2 x1 s
set_option maxRecDepth 20000 in
theorem b_X8_reckons_141 {X : zX} {kb_4 : Int32 → Int32 → Int32 → zS → Option (Int32 × zS)} (hX : zx_ok X cX8_reckons RX8 5) (hT : zx_rt X (some .int) (zR 1 24)) (hk_4 : ∀ (v1 : Int32) (v2 : Int32) (v3 : Int32) (s : zS), zV X (zq X zrI) 5 4 [(0, .ref (zx_ad X 76)), (1, .int v1), (2, .int v2), (3, .int v3)] [] s (kb_4 v1 v2 v3 s)) : ∀ (v1 : Int32) (v2 : Int32) (v3 : Int32) (s : zS), zV X (zq X zrI) 5 141 [(0, .ref (zx_ad X 76)), (1, .int v1), (2, .int v2), (3, .int v3)] [] s (f_X8_reckons_141 kb_4 v1 v2 v3 s) := by
  intro v1 v2 v3 s
  unfold f_X8_reckons_141
  refine zv_iincB (lw := fun x1 => [(3, .int x1), (0, .ref (zx_ad X 76)), (1, .int v1), (2, .int v2)]) hX dX8_reckons_141 3 rfl zi_i_1 (by decide) (fun _ => rfl) (fun x1 => ?_)
  refine zv_goto (tgt := 4) hX dX8_reckons_144 rfl ?_
  exact zv_sub [1, 2, 3, 0] rfl (hk_4 v1 v2 x1 s)
def f_X8_reckons_75 (kb_4 : Int32 → Int32 → Int32 → zS → Option (Int32 × zS)) (v1 : Int32) (v2 : Int32) (v3 : Int32) (w0 : Int32) (w1 : Int32) (s : zS) : Option (Int32 × zS) :=
  (zw_i s 85 w1 w0).bind fun s2 =>
  zb (v2 + (1 : Int32)) fun x3 =>
  f_X8_reckons_141 kb_4 v1 x3 v3 s2
set_option maxRecDepth 20000 in
theorem b_X8_reckons_75 {X : zX} {kb_4 : Int32 → Int32 → Int32 → zS → Option (Int32 × zS)} (hX : zx_ok X cX8_reckons RX8 5) (hT : zx_rt X (some .int) (zR 1 24)) (hk_4 : ∀ (v1 : Int32) (v2 : Int32) (v3 : Int32) (s : zS), zV X (zq X zrI) 5 4 [(0, .ref (zx_ad X 76)), (1, .int v1), (2, .int v2), (3, .int v3)] [] s (kb_4 v1 v2 v3 s)) : ∀ (v1 : Int32) (v2 : Int32) (v3 : Int32) (w0 : Int32) (w1 : Int32) (s : zS), zV X (zq X zrI) 5 75 [(0, .ref (zx_ad X 76)), (1, .int v1), (2, .int v2), (3, .int v3)] [.int w0, .int w1, .ref (zx_ad X 85)] s (f_X8_reckons_75 kb_4 v1 v2 v3 w0 w1 s) := by
  intro v1 v2 v3 w0 w1 s
  unfold f_X8_reckons_75
  refine zv_iast hX dX8_reckons_75 (fun s2 => ?_)
  refine zv_iincB (lw := fun x3 => [(2, .int x3), (0, .ref (zx_ad X 76)), (1, .int v1), (3, .int v3)]) hX dX8_reckons_76 2 rfl zi_i_1 (by decide) (fun _ => rfl) (fun x3 => ?_)
  refine zv_goto (tgt := 141) hX dX8_reckons_79 rfl ?_
  exact zv_sub [1, 2, 0, 3] rfl (b_X8_reckons_141 hX hT hk_4 v1 x3 v3 s2)
def f_X8_reckons_4 : Nat → Int32 → Int32 → Int32 → zS → Option (Int32 × zS)
  | 0, _, _, _, _ => none
  | n + 1, v1, v2, v3, s =>
    (zr_i s 77 ((nI 6) + v1)).bind fun x4 =>
    if x4 ≤ v3 then
    ((zr_i s 85 (0 : Int32)).bind fun x5 =>
    some (x5, s))
    else
    (zr_i s 77 ((nI 4) + v1)).bind fun x6 =>
    (zr_i s 77 (((nI 255) + x6) + v3)).bind fun x7 =>
    if (nI 3000) ≤ x7 then
    (if ¬ x7 = (nI 3006) then
    (zb (v2 + (-1 : Int32)) fun x8 =>
    (zr_i s 85 (x8 - (1 : Int32))).bind fun x9 =>
    (zr_i s 85 x8).bind fun x10 =>
    zbd (f_X8_between x7 x9 x10 s) fun r11 s12 =>
    (zw_i s12 85 (x8 - (1 : Int32)) r11).bind fun s13 =>
    f_X8_reckons_141 (f_X8_reckons_4 n) v1 x8 v3 s13)
    else
    (zr_i s 85 (v2 - (1 : Int32))).bind fun x14 =>
    (zw_i s 85 (v2 - (1 : Int32)) ((1 : Int32) - x14)).bind fun s15 =>
    f_X8_reckons_141 (f_X8_reckons_4 n) v1 v2 v3 s15)
    else
    if (nI 1000) ≤ x7 then
    ((zr_i s 86 (x7 - (nI 1000))).bind fun x16 =>
    f_X8_reckons_75 (f_X8_reckons_4 n) v1 v2 v3 x16 v2 s)
    else
    f_X8_reckons_75 (f_X8_reckons_4 n) v1 v2 v3 x7 v2 s
set_option maxRecDepth 20000 in
theorem b_X8_reckons_4 {X : zX} (hX : zx_ok X cX8_reckons RX8 5) (hT : zx_rt X (some .int) (zR 1 24)) : ∀ (n : Nat) (v1 : Int32) (v2 : Int32) (v3 : Int32) (s : zS), zV X (zq X zrI) 5 4 [(0, .ref (zx_ad X 76)), (1, .int v1), (2, .int v2), (3, .int v3)] [] s (f_X8_reckons_4 n v1 v2 v3 s) := by
  intro n
  induction n with
  | zero => intro v1 v2 v3 s; exact zv_none
  | succ n ih =>
    intro v1 v2 v3 s
    rw [f_X8_reckons_4]
    refine zv_iload_n hX dX8_reckons_4 3 rfl ?_
    refine zv_aload_n hX dX8_reckons_5 0 rfl ?_
    refine zv_geta hX wf_X8_13 wc_8 zd_76 zj_76_1 c9_8 zr_76_1 (by decide) dX8_reckons_6 ?_
    refine zv_bipush (v := (nI 6)) hX dX8_reckons_9 zi_b_6 ?_
    refine zv_iload_n hX dX8_reckons_11 1 rfl ?_
    refine zv_iadd hX dX8_reckons_12 ?_
    refine zv_iald hX dX8_reckons_13 (fun x4 => ?_)
    refine zv_icmp_ge (tgt := 147) hX dX8_reckons_14 rfl ?_ ?_
    · refine zv_aload_n hX dX8_reckons_147 0 rfl ?_
      refine zv_geta hX wf_X8_42 wc_8 zd_76 zj_76_22 c9_8 zr_76_22 (by decide) dX8_reckons_148 ?_
      refine zv_iconst (v := (0 : Int32)) hX dX8_reckons_151 zi_i_0 ?_
      refine zv_iald hX dX8_reckons_152 (fun x5 => ?_)
      exact zv_ireti hX hT dX8_reckons_153
    · refine zv_aload_n hX dX8_reckons_17 0 rfl ?_
      refine zv_geta hX wf_X8_13 wc_8 zd_76 zj_76_1 c9_8 zr_76_1 (by decide) dX8_reckons_18 ?_
      refine zv_sipush (v := (nI 255)) hX dX8_reckons_21 zi_s_255 ?_
      refine zv_aload_n hX dX8_reckons_24 0 rfl ?_
      refine zv_geta hX wf_X8_13 wc_8 zd_76 zj_76_1 c9_8 zr_76_1 (by decide) dX8_reckons_25 ?_
      refine zv_iconst (v := (nI 4)) hX dX8_reckons_28 zi_i_4 ?_
      refine zv_iload_n hX dX8_reckons_29 1 rfl ?_
      refine zv_iadd hX dX8_reckons_30 ?_
      refine zv_iald hX dX8_reckons_31 (fun x6 => ?_)
      refine zv_iadd hX dX8_reckons_32 ?_
      refine zv_iload_n hX dX8_reckons_33 3 rfl ?_
      refine zv_iadd hX dX8_reckons_34 ?_
      refine zv_iald hX dX8_reckons_35 (fun x7 => ?_)
      refine zv_istore (lv' := [(4, .int x7), (0, .ref (zx_ad X 76)), (1, .int v1), (2, .int v2), (3, .int v3)]) hX dX8_reckons_36 (by decide) rfl ?_
      refine zv_iload hX dX8_reckons_38 0 rfl ?_
      refine zv_sipush (v := (nI 3000)) hX dX8_reckons_40 zi_s_3000 ?_
      refine zv_icmp_ge (tgt := 82) hX dX8_reckons_43 rfl ?_ ?_
      · refine zv_iload hX dX8_reckons_82 0 rfl ?_
        refine zv_sipush (v := (nI 3006)) hX dX8_reckons_84 zi_s_3006 ?_
        refine zv_icmp_ne (tgt := 111) hX dX8_reckons_87 rfl ?_ ?_
        · refine zv_iincB (lw := fun x8 => [(2, .int x8), (4, .int x7), (0, .ref (zx_ad X 76)), (1, .int v1), (3, .int v3)]) hX dX8_reckons_111 3 rfl zi_i_m1 (by decide) (fun _ => rfl) (fun x8 => ?_)
          refine zv_aload_n hX dX8_reckons_114 2 rfl ?_
          refine zv_geta hX wf_X8_42 wc_8 zd_76 zj_76_22 c9_8 zr_76_22 (by decide) dX8_reckons_115 ?_
          refine zv_iload_n hX dX8_reckons_118 0 rfl ?_
          refine zv_iconst (v := (1 : Int32)) hX dX8_reckons_119 zi_i_1 ?_
          refine zv_isub hX dX8_reckons_120 ?_
          refine zv_iload hX dX8_reckons_121 1 rfl ?_
          refine zv_aload_n hX dX8_reckons_123 2 rfl ?_
          refine zv_geta hX wf_X8_42 wc_8 zd_76 zj_76_22 c9_8 zr_76_22 (by decide) dX8_reckons_124 ?_
          refine zv_iload_n hX dX8_reckons_127 0 rfl ?_
          refine zv_iconst (v := (1 : Int32)) hX dX8_reckons_128 zi_i_1 ?_
          refine zv_isub hX dX8_reckons_129 ?_
          refine zv_iald hX dX8_reckons_130 (fun x9 => ?_)
          refine zv_aload_n hX dX8_reckons_131 2 rfl ?_
          refine zv_geta hX wf_X8_42 wc_8 zd_76 zj_76_22 c9_8 zr_76_22 (by decide) dX8_reckons_132 ?_
          refine zv_iload_n hX dX8_reckons_135 0 rfl ?_
          refine zv_iald hX dX8_reckons_136 (fun x10 => ?_)
          refine zv_cSI [.int x7, .int x9, .int x10] (rest := [.int (x8 - (1 : Int32)), .ref (zx_ad X 85)]) hX hT.2.2.2.2 (c_X8_between (zx_Y X) x7 x9 x10 s) wv_X8_between wm_X8_254 rfl (Nat.le_of_ble_eq_true rfl) (Nat.le_of_ble_eq_true rfl) rfl (Nat.le_of_ble_eq_true rfl) dX8_reckons_137 (fun r11 s12 => ?_)
          refine zv_iast hX dX8_reckons_140 (fun s13 => ?_)
          exact zv_sub [2, 3, 0, 4] rfl (b_X8_reckons_141 hX hT ih v1 x8 v3 s13)
        · refine zv_aload_n hX dX8_reckons_90 1 rfl ?_
          refine zv_geta hX wf_X8_42 wc_8 zd_76 zj_76_22 c9_8 zr_76_22 (by decide) dX8_reckons_91 ?_
          refine zv_iload_n hX dX8_reckons_94 3 rfl ?_
          refine zv_iconst (v := (1 : Int32)) hX dX8_reckons_95 zi_i_1 ?_
          refine zv_isub hX dX8_reckons_96 ?_
          refine zv_iconst (v := (1 : Int32)) hX dX8_reckons_97 zi_i_1 ?_
          refine zv_aload_n hX dX8_reckons_98 1 rfl ?_
          refine zv_geta hX wf_X8_42 wc_8 zd_76 zj_76_22 c9_8 zr_76_22 (by decide) dX8_reckons_99 ?_
          refine zv_iload_n hX dX8_reckons_102 3 rfl ?_
          refine zv_iconst (v := (1 : Int32)) hX dX8_reckons_103 zi_i_1 ?_
          refine zv_isub hX dX8_reckons_104 ?_
          refine zv_iald hX dX8_reckons_105 (fun x14 => ?_)
          refine zv_isub hX dX8_reckons_106 ?_
          refine zv_iast hX dX8_reckons_107 (fun s15 => ?_)
          refine zv_goto (tgt := 141) hX dX8_reckons_108 rfl ?_
          exact zv_sub [1, 2, 3, 4] rfl (b_X8_reckons_141 hX hT ih v1 v2 v3 s15)
      · refine zv_aload_n hX dX8_reckons_46 1 rfl ?_
        refine zv_geta hX wf_X8_42 wc_8 zd_76 zj_76_22 c9_8 zr_76_22 (by decide) dX8_reckons_47 ?_
        refine zv_iload_n hX dX8_reckons_50 3 rfl ?_
        refine zv_iload hX dX8_reckons_51 0 rfl ?_
        refine zv_sipush (v := (nI 1000)) hX dX8_reckons_53 zi_s_1000 ?_
        refine zv_icmp_ge (tgt := 64) hX dX8_reckons_56 rfl ?_ ?_
        · refine zv_aload_n hX dX8_reckons_64 1 rfl ?_
          refine zv_geta hX wf_X8_45 wc_8 zd_76 zj_76_23 c9_8 zr_76_23 (by decide) dX8_reckons_65 ?_
          refine zv_iload hX dX8_reckons_68 0 rfl ?_
          refine zv_sipush (v := (nI 1000)) hX dX8_reckons_70 zi_s_1000 ?_
          refine zv_isub hX dX8_reckons_73 ?_
          refine zv_iald hX dX8_reckons_74 (fun x16 => ?_)
          exact zv_sub [1, 2, 3, 4] rfl (b_X8_reckons_75 hX hT ih v1 v2 v3 x16 v2 s)
        · refine zv_iload hX dX8_reckons_59 0 rfl ?_
          refine zv_goto (tgt := 75) hX dX8_reckons_61 rfl ?_
          exact zv_sub [1, 2, 3, 4] rfl (b_X8_reckons_75 hX hT ih v1 v2 v3 x7 v2 s)
def f_X8_reckons (v1 : Int32) (s : zS) : Option (Int32 × zS) :=
  f_X8_reckons_4 zFU v1 (0 : Int32) (0 : Int32) s
set_option maxRecDepth 20000 in
theorem c_X8_reckons (Y : zG) (v1 : Int32) (s : zS) : zM Y yX8_reckons cX8_reckons 5 (some .int) (zR 1 24) [.ref (zy_a Y 76), .int v1] s zrI (f_X8_reckons v1 s) := by
  refine zm_start (by decide +kernel) (Nat.le_of_ble_eq_true rfl) ?_
  intro X hY hT hX
  subst hY
  have hX : zx_ok X cX8_reckons RX8 5 := hX
  show zV X (zq X zrI) 5 0 [(0, .ref (zx_ad X 76)), (1, .int v1)] [] s _
  unfold f_X8_reckons
  refine zv_iconst (v := (0 : Int32)) hX dX8_reckons_0 zi_i_0 ?_
  refine zv_istore_n (lv' := [(2, .int (0 : Int32)), (0, .ref (zx_ad X 76)), (1, .int v1)]) hX dX8_reckons_1 (by decide) rfl ?_
  refine zv_iconst (v := (0 : Int32)) hX dX8_reckons_2 zi_i_0 ?_
  refine zv_istore_n (lv' := [(3, .int (0 : Int32)), (2, .int (0 : Int32)), (0, .ref (zx_ad X 76)), (1, .int v1)]) hX dX8_reckons_3 (by decide) rfl ?_
  exact zv_sub [2, 3, 1, 0] rfl (b_X8_reckons_4 hX hT zFU v1 (0 : Int32) (0 : Int32) s)
theorem dX8_fitsBy_0 : decode cX8_fitsBy 0 = .ok (.aload_n 0, 1) := by decide +kernel
theorem dX8_fitsBy_1 : decode cX8_fitsBy 1 = .ok (.getfield 13, 3) := by decide +kernel
theorem dX8_fitsBy_4 : decode cX8_fitsBy 4 = .ok (.iconst 2, 1) := by decide +kernel
theorem dX8_fitsBy_5 : decode cX8_fitsBy 5 = .ok (.iaload, 1) := by decide +kernel
theorem dX8_fitsBy_6 : decode cX8_fitsBy 6 = .ok (.ifCond .ne 14, 3) := by decide +kernel
theorem dX8_fitsBy_9 : decode cX8_fitsBy 9 = .ok (.iload_n 1, 1) := by decide +kernel
theorem dX8_fitsBy_10 : decode cX8_fitsBy 10 = .ok (.iconst 2, 1) := by decide +kernel
theorem dX8_fitsBy_11 : decode cX8_fitsBy 11 = .ok (.if_icmp .ge 7, 3) := by decide +kernel
theorem dX8_fitsBy_14 : decode cX8_fitsBy 14 = .ok (.iconst 1, 1) := by decide +kernel
theorem dX8_fitsBy_15 : decode cX8_fitsBy 15 = .ok (.goto 4, 3) := by decide +kernel
theorem dX8_fitsBy_18 : decode cX8_fitsBy 18 = .ok (.iconst 0, 1) := by decide +kernel
theorem dX8_fitsBy_19 : decode cX8_fitsBy 19 = .ok (.ireturn, 1) := by decide +kernel
theorem dX8_fitsBy_20 : decode cX8_fitsBy 20 = .ok (.aload_n 0, 1) := by decide +kernel
theorem dX8_fitsBy_21 : decode cX8_fitsBy 21 = .ok (.getfield 45, 3) := by decide +kernel
theorem dX8_fitsBy_24 : decode cX8_fitsBy 24 = .ok (.iconst 0, 1) := by decide +kernel
theorem dX8_fitsBy_25 : decode cX8_fitsBy 25 = .ok (.iload_n 1, 1) := by decide +kernel
theorem dX8_fitsBy_26 : decode cX8_fitsBy 26 = .ok (.iastore, 1) := by decide +kernel
theorem dX8_fitsBy_27 : decode cX8_fitsBy 27 = .ok (.aload_n 0, 1) := by decide +kernel
theorem dX8_fitsBy_28 : decode cX8_fitsBy 28 = .ok (.getfield 45, 3) := by decide +kernel
theorem dX8_fitsBy_31 : decode cX8_fitsBy 31 = .ok (.iconst 1, 1) := by decide +kernel
theorem dX8_fitsBy_32 : decode cX8_fitsBy 32 = .ok (.iload_n 2, 1) := by decide +kernel
theorem dX8_fitsBy_33 : decode cX8_fitsBy 33 = .ok (.iastore, 1) := by decide +kernel
theorem dX8_fitsBy_34 : decode cX8_fitsBy 34 = .ok (.aload_n 0, 1) := by decide +kernel
theorem dX8_fitsBy_35 : decode cX8_fitsBy 35 = .ok (.getfield 45, 3) := by decide +kernel
theorem dX8_fitsBy_38 : decode cX8_fitsBy 38 = .ok (.iconst 2, 1) := by decide +kernel
theorem dX8_fitsBy_39 : decode cX8_fitsBy 39 = .ok (.iload_n 3, 1) := by decide +kernel
theorem dX8_fitsBy_40 : decode cX8_fitsBy 40 = .ok (.iastore, 1) := by decide +kernel
theorem dX8_fitsBy_41 : decode cX8_fitsBy 41 = .ok (.aload_n 0, 1) := by decide +kernel
theorem dX8_fitsBy_42 : decode cX8_fitsBy 42 = .ok (.iconst 0, 1) := by decide +kernel
theorem dX8_fitsBy_43 : decode cX8_fitsBy 43 = .ok (.invokevirtual 258, 3) := by decide +kernel
theorem dX8_fitsBy_46 : decode cX8_fitsBy 46 = .ok (.iconst 1, 1) := by decide +kernel
theorem dX8_fitsBy_47 : decode cX8_fitsBy 47 = .ok (.if_icmp .ne 7, 3) := by decide +kernel
theorem dX8_fitsBy_50 : decode cX8_fitsBy 50 = .ok (.iconst 1, 1) := by decide +kernel
theorem dX8_fitsBy_51 : decode cX8_fitsBy 51 = .ok (.goto 4, 3) := by decide +kernel
theorem dX8_fitsBy_54 : decode cX8_fitsBy 54 = .ok (.iconst 0, 1) := by decide +kernel
theorem dX8_fitsBy_55 : decode cX8_fitsBy 55 = .ok (.ireturn, 1) := by decide +kernel
def f_X8_fitsBy_55 (w0 : Int32) (s : zS) : Option (Int32 × zS) :=
  if w0 = 0 ∨ w0 = 1 then some (w0, s) else none
set_option maxRecDepth 20000 in
theorem b_X8_fitsBy_55 {X : zX} (hX : zx_ok X cX8_fitsBy RX8 4) (hT : zx_rt X (some .boolean) (zR 2 48)) : ∀ (w0 : Int32) (s : zS), zV X (zq X zrI) 4 55 [] [.int w0] s (f_X8_fitsBy_55 w0 s) := by
  intro w0 s
  unfold f_X8_fitsBy_55
  exact zv_iretzB hX hT dX8_fitsBy_55
def f_X8_fitsBy_19 (w0 : Int32) (s : zS) : Option (Int32 × zS) :=
  if w0 = 0 ∨ w0 = 1 then some (w0, s) else none
set_option maxRecDepth 20000 in
theorem b_X8_fitsBy_19 {X : zX} (hX : zx_ok X cX8_fitsBy RX8 4) (hT : zx_rt X (some .boolean) (zR 2 48)) : ∀ (w0 : Int32) (s : zS), zV X (zq X zrI) 4 19 [] [.int w0] s (f_X8_fitsBy_19 w0 s) := by
  intro w0 s
  unfold f_X8_fitsBy_19
  exact zv_iretzB hX hT dX8_fitsBy_19
def f_X8_fitsBy (v1 : Int32) (v2 : Int32) (v3 : Int32) (s : zS) : Option (Int32 × zS) :=
  (zr_i s 77 (nI 2)).bind fun x1 =>
  if ¬ x1 = 0 then
  ((zw_i s 86 (0 : Int32) v1).bind fun s2 =>
  (zw_i s2 86 (1 : Int32) v2).bind fun s3 =>
  (zw_i s3 86 (nI 2) v3).bind fun s4 =>
  zbd (f_X8_reckons (0 : Int32) s4) fun r5 s6 =>
  if ¬ r5 = (1 : Int32) then
  (f_X8_fitsBy_55 (0 : Int32) s6)
  else
  f_X8_fitsBy_55 (1 : Int32) s6)
  else
  if (nI 2) ≤ v1 then
  (f_X8_fitsBy_19 (0 : Int32) s)
  else
  f_X8_fitsBy_19 (1 : Int32) s
set_option maxRecDepth 20000 in
theorem c_X8_fitsBy (Y : zG) (v1 : Int32) (v2 : Int32) (v3 : Int32) (s : zS) : zM Y yX8_fitsBy cX8_fitsBy 4 (some .boolean) (zR 2 48) [.ref (zy_a Y 76), .int v1, .int v2, .int v3] s zrI (f_X8_fitsBy v1 v2 v3 s) := by
  refine zm_start (by decide +kernel) (Nat.le_of_ble_eq_true rfl) ?_
  intro X hY hT hX
  subst hY
  have hX : zx_ok X cX8_fitsBy RX8 4 := hX
  show zV X (zq X zrI) 4 0 [(0, .ref (zx_ad X 76)), (1, .int v1), (2, .int v2), (3, .int v3)] [] s _
  unfold f_X8_fitsBy
  refine zv_aload_n hX dX8_fitsBy_0 0 rfl ?_
  refine zv_geta hX wf_X8_13 wc_8 zd_76 zj_76_1 c9_8 zr_76_1 (by decide) dX8_fitsBy_1 ?_
  refine zv_iconst (v := (nI 2)) hX dX8_fitsBy_4 zi_i_2 ?_
  refine zv_iald hX dX8_fitsBy_5 (fun x1 => ?_)
  refine zv_if_ne (tgt := 20) hX dX8_fitsBy_6 rfl ?_ ?_
  · refine zv_aload_n hX dX8_fitsBy_20 0 rfl ?_
    refine zv_geta hX wf_X8_45 wc_8 zd_76 zj_76_23 c9_8 zr_76_23 (by decide) dX8_fitsBy_21 ?_
    refine zv_iconst (v := (0 : Int32)) hX dX8_fitsBy_24 zi_i_0 ?_
    refine zv_iload_n hX dX8_fitsBy_25 1 rfl ?_
    refine zv_iast hX dX8_fitsBy_26 (fun s2 => ?_)
    refine zv_aload_n hX dX8_fitsBy_27 0 rfl ?_
    refine zv_geta hX wf_X8_45 wc_8 zd_76 zj_76_23 c9_8 zr_76_23 (by decide) dX8_fitsBy_28 ?_
    refine zv_iconst (v := (1 : Int32)) hX dX8_fitsBy_31 zi_i_1 ?_
    refine zv_iload_n hX dX8_fitsBy_32 2 rfl ?_
    refine zv_iast hX dX8_fitsBy_33 (fun s3 => ?_)
    refine zv_aload_n hX dX8_fitsBy_34 0 rfl ?_
    refine zv_geta hX wf_X8_45 wc_8 zd_76 zj_76_23 c9_8 zr_76_23 (by decide) dX8_fitsBy_35 ?_
    refine zv_iconst (v := (nI 2)) hX dX8_fitsBy_38 zi_i_2 ?_
    refine zv_iload_n hX dX8_fitsBy_39 3 rfl ?_
    refine zv_iast hX dX8_fitsBy_40 (fun s4 => ?_)
    refine zv_aload_n hX dX8_fitsBy_41 0 rfl ?_
    refine zv_iconst (v := (0 : Int32)) hX dX8_fitsBy_42 zi_i_0 ?_
    refine zv_cVI [.int (0 : Int32)] (rest := []) hX hT.2.2.2.2 (c_X8_reckons (zx_Y X) (0 : Int32) s4) wv_X8_reckons c9_8 zd_76 wm_X8_258 rfl (Nat.le_of_ble_eq_true rfl) (Nat.le_of_ble_eq_true rfl) rfl (Nat.le_of_ble_eq_true rfl) dX8_fitsBy_43 (fun r5 s6 => ?_)
    refine zv_iconst (v := (1 : Int32)) hX dX8_fitsBy_46 zi_i_1 ?_
    refine zv_icmp_ne (tgt := 54) hX dX8_fitsBy_47 rfl ?_ ?_
    · refine zv_iconst (v := (0 : Int32)) hX dX8_fitsBy_54 zi_i_0 ?_
      exact zv_sub [] rfl (b_X8_fitsBy_55 hX hT (0 : Int32) s6)
    · refine zv_iconst (v := (1 : Int32)) hX dX8_fitsBy_50 zi_i_1 ?_
      refine zv_goto (tgt := 55) hX dX8_fitsBy_51 rfl ?_
      exact zv_sub [] rfl (b_X8_fitsBy_55 hX hT (1 : Int32) s6)
  · refine zv_iload_n hX dX8_fitsBy_9 1 rfl ?_
    refine zv_iconst (v := (nI 2)) hX dX8_fitsBy_10 zi_i_2 ?_
    refine zv_icmp_ge (tgt := 18) hX dX8_fitsBy_11 rfl ?_ ?_
    · refine zv_iconst (v := (0 : Int32)) hX dX8_fitsBy_18 zi_i_0 ?_
      exact zv_sub [] rfl (b_X8_fitsBy_19 hX hT (0 : Int32) s)
    · refine zv_iconst (v := (1 : Int32)) hX dX8_fitsBy_14 zi_i_1 ?_
      refine zv_goto (tgt := 19) hX dX8_fitsBy_15 rfl ?_
      exact zv_sub [] rfl (b_X8_fitsBy_19 hX hT (1 : Int32) s)
