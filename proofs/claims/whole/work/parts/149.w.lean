theorem dX8_triangle_0 : decode cX8_triangle 0 = .ok (.aload_n 0, 1) := by decide +kernel
theorem dX8_triangle_1 : decode cX8_triangle 1 = .ok (.iconst 0, 1) := by decide +kernel
theorem dX8_triangle_2 : decode cX8_triangle 2 = .ok (.putfield 1, 3) := by decide +kernel
theorem dX8_triangle_5 : decode cX8_triangle 5 = .ok (.aload_n 0, 1) := by decide +kernel
theorem dX8_triangle_6 : decode cX8_triangle 6 = .ok (.invokevirtual 284, 3) := by decide +kernel
theorem dX8_triangle_9 : decode cX8_triangle 9 = .ok (.iconst 0, 1) := by decide +kernel
theorem dX8_triangle_10 : decode cX8_triangle 10 = .ok (.istore_n 1, 1) := by decide +kernel
theorem dX8_triangle_11 : decode cX8_triangle 11 = .ok (.iload_n 1, 1) := by decide +kernel
theorem dX8_triangle_12 : decode cX8_triangle 12 = .ok (.aload_n 0, 1) := by decide +kernel
theorem dX8_triangle_13 : decode cX8_triangle 13 = .ok (.getfield 13, 3) := by decide +kernel
theorem dX8_triangle_16 : decode cX8_triangle 16 = .ok (.iconst 1, 1) := by decide +kernel
theorem dX8_triangle_17 : decode cX8_triangle 17 = .ok (.iaload, 1) := by decide +kernel
theorem dX8_triangle_18 : decode cX8_triangle 18 = .ok (.if_icmp .ge 76, 3) := by decide +kernel
theorem dX8_triangle_21 : decode cX8_triangle 21 = .ok (.iload_n 1, 1) := by decide +kernel
theorem dX8_triangle_22 : decode cX8_triangle 22 = .ok (.iconst 1, 1) := by decide +kernel
theorem dX8_triangle_23 : decode cX8_triangle 23 = .ok (.iadd, 1) := by decide +kernel
theorem dX8_triangle_24 : decode cX8_triangle 24 = .ok (.istore_n 2, 1) := by decide +kernel
theorem dX8_triangle_25 : decode cX8_triangle 25 = .ok (.iload_n 2, 1) := by decide +kernel
theorem dX8_triangle_26 : decode cX8_triangle 26 = .ok (.aload_n 0, 1) := by decide +kernel
theorem dX8_triangle_27 : decode cX8_triangle 27 = .ok (.getfield 13, 3) := by decide +kernel
theorem dX8_triangle_30 : decode cX8_triangle 30 = .ok (.iconst 1, 1) := by decide +kernel
theorem dX8_triangle_31 : decode cX8_triangle 31 = .ok (.iaload, 1) := by decide +kernel
theorem dX8_triangle_32 : decode cX8_triangle 32 = .ok (.if_icmp .ge 56, 3) := by decide +kernel
theorem dX8_triangle_35 : decode cX8_triangle 35 = .ok (.iload_n 1, 1) := by decide +kernel
theorem dX8_triangle_36 : decode cX8_triangle 36 = .ok (.iconst 1, 1) := by decide +kernel
theorem dX8_triangle_37 : decode cX8_triangle 37 = .ok (.iadd, 1) := by decide +kernel
theorem dX8_triangle_38 : decode cX8_triangle 38 = .ok (.istore_n 3, 1) := by decide +kernel
theorem dX8_triangle_39 : decode cX8_triangle 39 = .ok (.iload_n 3, 1) := by decide +kernel
theorem dX8_triangle_40 : decode cX8_triangle 40 = .ok (.aload_n 0, 1) := by decide +kernel
theorem dX8_triangle_41 : decode cX8_triangle 41 = .ok (.getfield 13, 3) := by decide +kernel
theorem dX8_triangle_44 : decode cX8_triangle 44 = .ok (.iconst 1, 1) := by decide +kernel
theorem dX8_triangle_45 : decode cX8_triangle 45 = .ok (.iaload, 1) := by decide +kernel
theorem dX8_triangle_46 : decode cX8_triangle 46 = .ok (.if_icmp .ge 36, 3) := by decide +kernel
theorem dX8_triangle_49 : decode cX8_triangle 49 = .ok (.iload_n 2, 1) := by decide +kernel
theorem dX8_triangle_50 : decode cX8_triangle 50 = .ok (.iload_n 3, 1) := by decide +kernel
theorem dX8_triangle_51 : decode cX8_triangle 51 = .ok (.if_icmp .eq 25, 3) := by decide +kernel
theorem dX8_triangle_54 : decode cX8_triangle 54 = .ok (.aload_n 0, 1) := by decide +kernel
theorem dX8_triangle_55 : decode cX8_triangle 55 = .ok (.iload_n 1, 1) := by decide +kernel
theorem dX8_triangle_56 : decode cX8_triangle 56 = .ok (.iload_n 2, 1) := by decide +kernel
theorem dX8_triangle_57 : decode cX8_triangle 57 = .ok (.iload_n 3, 1) := by decide +kernel
theorem dX8_triangle_58 : decode cX8_triangle 58 = .ok (.invokevirtual 406, 3) := by decide +kernel
theorem dX8_triangle_61 : decode cX8_triangle 61 = .ok (.ifCond .eq 15, 3) := by decide +kernel
theorem dX8_triangle_64 : decode cX8_triangle 64 = .ok (.bipush 100, 2) := by decide +kernel
theorem dX8_triangle_66 : decode cX8_triangle 66 = .ok (.iload_n 1, 1) := by decide +kernel
theorem dX8_triangle_67 : decode cX8_triangle 67 = .ok (.imul, 1) := by decide +kernel
theorem dX8_triangle_68 : decode cX8_triangle 68 = .ok (.bipush 10, 2) := by decide +kernel
theorem dX8_triangle_70 : decode cX8_triangle 70 = .ok (.iload_n 2, 1) := by decide +kernel
theorem dX8_triangle_71 : decode cX8_triangle 71 = .ok (.imul, 1) := by decide +kernel
theorem dX8_triangle_72 : decode cX8_triangle 72 = .ok (.iadd, 1) := by decide +kernel
theorem dX8_triangle_73 : decode cX8_triangle 73 = .ok (.iload_n 3, 1) := by decide +kernel
theorem dX8_triangle_74 : decode cX8_triangle 74 = .ok (.iadd, 1) := by decide +kernel
theorem dX8_triangle_75 : decode cX8_triangle 75 = .ok (.ireturn, 1) := by decide +kernel
theorem dX8_triangle_76 : decode cX8_triangle 76 = .ok (.iinc 3 1, 3) := by decide +kernel
theorem dX8_triangle_79 : decode cX8_triangle 79 = .ok (.goto (-40), 3) := by decide +kernel
theorem dX8_triangle_82 : decode cX8_triangle 82 = .ok (.iinc 2 1, 3) := by decide +kernel
theorem dX8_triangle_85 : decode cX8_triangle 85 = .ok (.goto (-60), 3) := by decide +kernel
theorem dX8_triangle_88 : decode cX8_triangle 88 = .ok (.iinc 1 1, 3) := by decide +kernel
theorem dX8_triangle_91 : decode cX8_triangle 91 = .ok (.goto (-80), 3) := by decide +kernel
theorem dX8_triangle_94 : decode cX8_triangle 94 = .ok (.iconst (-1), 1) := by decide +kernel
theorem dX8_triangle_95 : decode cX8_triangle 95 = .ok (.ireturn, 1) := by decide +kernel
def f_X8_triangle_76 (kb_11 : Int32 → zS → Option (Int32 × zS)) (kb_25 : Int32 → Int32 → zS → Option (Int32 × zS)) (kb_39 : Int32 → Int32 → Int32 → zS → Option (Int32 × zS)) (v1 : Int32) (v2 : Int32) (v3 : Int32) (s : zS) : Option (Int32 × zS) :=
  zb (v3 + (1 : Int32)) fun x1 =>
  kb_39 v1 v2 x1 s
set_option maxRecDepth 20000 in
theorem b_X8_triangle_76 {X : zX} {kb_11 : Int32 → zS → Option (Int32 × zS)} {kb_25 : Int32 → Int32 → zS → Option (Int32 × zS)} {kb_39 : Int32 → Int32 → Int32 → zS → Option (Int32 × zS)} (hX : zx_ok X cX8_triangle RX8 4) (hT : zx_rt X (some .int) (zR 71 1755)) (hk_11 : ∀ (v1 : Int32) (s : zS), zV X (zq X zrI) 4 11 [(0, .ref (zx_ad X 76)), (1, .int v1)] [] s (kb_11 v1 s)) (hk_25 : ∀ (v1 : Int32) (v2 : Int32) (s : zS), zV X (zq X zrI) 4 25 [(0, .ref (zx_ad X 76)), (1, .int v1), (2, .int v2)] [] s (kb_25 v1 v2 s)) (hk_39 : ∀ (v1 : Int32) (v2 : Int32) (v3 : Int32) (s : zS), zV X (zq X zrI) 4 39 [(0, .ref (zx_ad X 76)), (1, .int v1), (2, .int v2), (3, .int v3)] [] s (kb_39 v1 v2 v3 s)) : ∀ (v1 : Int32) (v2 : Int32) (v3 : Int32) (s : zS), zV X (zq X zrI) 4 76 [(0, .ref (zx_ad X 76)), (1, .int v1), (2, .int v2), (3, .int v3)] [] s (f_X8_triangle_76 kb_11 kb_25 kb_39 v1 v2 v3 s) := by
  intro v1 v2 v3 s
  unfold f_X8_triangle_76
  refine zv_iincB (lw := fun x1 => [(3, .int x1), (0, .ref (zx_ad X 76)), (1, .int v1), (2, .int v2)]) hX dX8_triangle_76 3 rfl zi_i_1 (by decide) (fun _ => rfl) (fun x1 => ?_)
  refine zv_goto (tgt := 39) hX dX8_triangle_79 rfl ?_
  exact zv_sub [1, 2, 3, 0] rfl (hk_39 v1 v2 x1 s)
def f_X8_triangle_39 (kb_11 : Int32 → zS → Option (Int32 × zS)) (kb_25 : Int32 → Int32 → zS → Option (Int32 × zS)) : Nat → Int32 → Int32 → Int32 → zS → Option (Int32 × zS)
  | 0, _, _, _, _ => none
  | n + 1, v1, v2, v3, s =>
    (zr_i s 77 (1 : Int32)).bind fun x2 =>
    if x2 ≤ v3 then
    (zb (v2 + (1 : Int32)) fun x3 =>
    kb_25 v1 x3 s)
    else
    if v2 = v3 then
    (f_X8_triangle_76 kb_11 kb_25 (f_X8_triangle_39 kb_11 kb_25 n) v1 v2 v3 s)
    else
    zbd (f_X8_isTriangle v1 v2 v3 s) fun r4 s5 =>
    if r4 = 0 then
    (f_X8_triangle_76 kb_11 kb_25 (f_X8_triangle_39 kb_11 kb_25 n) v1 v2 v3 s5)
    else
    some ((((nI 100) * v1) + ((nI 10) * v2)) + v3, s5)
set_option maxRecDepth 20000 in
theorem b_X8_triangle_39 {X : zX} {kb_11 : Int32 → zS → Option (Int32 × zS)} {kb_25 : Int32 → Int32 → zS → Option (Int32 × zS)} (hX : zx_ok X cX8_triangle RX8 4) (hT : zx_rt X (some .int) (zR 71 1755)) (hk_11 : ∀ (v1 : Int32) (s : zS), zV X (zq X zrI) 4 11 [(0, .ref (zx_ad X 76)), (1, .int v1)] [] s (kb_11 v1 s)) (hk_25 : ∀ (v1 : Int32) (v2 : Int32) (s : zS), zV X (zq X zrI) 4 25 [(0, .ref (zx_ad X 76)), (1, .int v1), (2, .int v2)] [] s (kb_25 v1 v2 s)) : ∀ (n : Nat) (v1 : Int32) (v2 : Int32) (v3 : Int32) (s : zS), zV X (zq X zrI) 4 39 [(0, .ref (zx_ad X 76)), (1, .int v1), (2, .int v2), (3, .int v3)] [] s (f_X8_triangle_39 kb_11 kb_25 n v1 v2 v3 s) := by
  intro n
  induction n with
  | zero => intro v1 v2 v3 s; exact zv_none
  | succ n ih =>
    intro v1 v2 v3 s
    rw [f_X8_triangle_39]
    refine zv_iload_n hX dX8_triangle_39 3 rfl ?_
    refine zv_aload_n hX dX8_triangle_40 0 rfl ?_
    refine zv_geta hX wf_X8_13 wc_8 zd_76 zj_76_1 c9_8 zr_76_1 (by decide) dX8_triangle_41 ?_
    refine zv_iconst (v := (1 : Int32)) hX dX8_triangle_44 zi_i_1 ?_
    refine zv_iald hX dX8_triangle_45 (fun x2 => ?_)
    refine zv_icmp_ge (tgt := 82) hX dX8_triangle_46 rfl ?_ ?_
    · refine zv_iincB (lw := fun x3 => [(2, .int x3), (0, .ref (zx_ad X 76)), (1, .int v1), (3, .int v3)]) hX dX8_triangle_82 2 rfl zi_i_1 (by decide) (fun _ => rfl) (fun x3 => ?_)
      refine zv_goto (tgt := 25) hX dX8_triangle_85 rfl ?_
      exact zv_sub [1, 2, 0] rfl (hk_25 v1 x3 s)
    · refine zv_iload_n hX dX8_triangle_49 2 rfl ?_
      refine zv_iload_n hX dX8_triangle_50 3 rfl ?_
      refine zv_icmp_eq (tgt := 76) hX dX8_triangle_51 rfl ?_ ?_
      · exact b_X8_triangle_76 hX hT hk_11 hk_25 ih v1 v2 v3 s
      · refine zv_aload_n hX dX8_triangle_54 0 rfl ?_
        refine zv_iload_n hX dX8_triangle_55 1 rfl ?_
        refine zv_iload_n hX dX8_triangle_56 2 rfl ?_
        refine zv_iload_n hX dX8_triangle_57 3 rfl ?_
        refine zv_cVI [.int v1, .int v2, .int v3] (rest := []) hX hT.2.2.2.2 (c_X8_isTriangle (zx_Y X) v1 v2 v3 s) wv_X8_isTriangle c9_8 zd_76 wm_X8_406 rfl (Nat.le_of_ble_eq_true rfl) (Nat.le_of_ble_eq_true rfl) rfl (Nat.le_of_ble_eq_true rfl) dX8_triangle_58 (fun r4 s5 => ?_)
        refine zv_if_eq (tgt := 76) hX dX8_triangle_61 rfl ?_ ?_
        · exact b_X8_triangle_76 hX hT hk_11 hk_25 ih v1 v2 v3 s5
        · refine zv_bipush (v := (nI 100)) hX dX8_triangle_64 zi_b_100 ?_
          refine zv_iload_n hX dX8_triangle_66 1 rfl ?_
          refine zv_imul hX dX8_triangle_67 ?_
          refine zv_bipush (v := (nI 10)) hX dX8_triangle_68 zi_b_10 ?_
          refine zv_iload_n hX dX8_triangle_70 2 rfl ?_
          refine zv_imul hX dX8_triangle_71 ?_
          refine zv_iadd hX dX8_triangle_72 ?_
          refine zv_iload_n hX dX8_triangle_73 3 rfl ?_
          refine zv_iadd hX dX8_triangle_74 ?_
          exact zv_ireti hX hT dX8_triangle_75
def f_X8_triangle_25 (kb_11 : Int32 → zS → Option (Int32 × zS)) : Nat → Int32 → Int32 → zS → Option (Int32 × zS)
  | 0, _, _, _ => none
  | n + 1, v1, v2, s =>
    (zr_i s 77 (1 : Int32)).bind fun x6 =>
    if x6 ≤ v2 then
    (zb (v1 + (1 : Int32)) fun x7 =>
    kb_11 x7 s)
    else
    zb (v1 + (1 : Int32)) fun x8 =>
    f_X8_triangle_39 kb_11 (f_X8_triangle_25 kb_11 n) zFU v1 v2 x8 s
set_option maxRecDepth 20000 in
theorem b_X8_triangle_25 {X : zX} {kb_11 : Int32 → zS → Option (Int32 × zS)} (hX : zx_ok X cX8_triangle RX8 4) (hT : zx_rt X (some .int) (zR 71 1755)) (hk_11 : ∀ (v1 : Int32) (s : zS), zV X (zq X zrI) 4 11 [(0, .ref (zx_ad X 76)), (1, .int v1)] [] s (kb_11 v1 s)) : ∀ (n : Nat) (v1 : Int32) (v2 : Int32) (s : zS), zV X (zq X zrI) 4 25 [(0, .ref (zx_ad X 76)), (1, .int v1), (2, .int v2)] [] s (f_X8_triangle_25 kb_11 n v1 v2 s) := by
  intro n
  induction n with
  | zero => intro v1 v2 s; exact zv_none
  | succ n ih =>
    intro v1 v2 s
    rw [f_X8_triangle_25]
    refine zv_iload_n hX dX8_triangle_25 2 rfl ?_
    refine zv_aload_n hX dX8_triangle_26 0 rfl ?_
    refine zv_geta hX wf_X8_13 wc_8 zd_76 zj_76_1 c9_8 zr_76_1 (by decide) dX8_triangle_27 ?_
    refine zv_iconst (v := (1 : Int32)) hX dX8_triangle_30 zi_i_1 ?_
    refine zv_iald hX dX8_triangle_31 (fun x6 => ?_)
    refine zv_icmp_ge (tgt := 88) hX dX8_triangle_32 rfl ?_ ?_
    · refine zv_iincB (lw := fun x7 => [(1, .int x7), (0, .ref (zx_ad X 76)), (2, .int v2)]) hX dX8_triangle_88 1 rfl zi_i_1 (by decide) (fun _ => rfl) (fun x7 => ?_)
      refine zv_goto (tgt := 11) hX dX8_triangle_91 rfl ?_
      exact zv_sub [1, 0] rfl (hk_11 x7 s)
    · refine zv_iload_n hX dX8_triangle_35 1 rfl ?_
      refine zv_iconst (v := (1 : Int32)) hX dX8_triangle_36 zi_i_1 ?_
      refine zv_iadd hX dX8_triangle_37 ?_
      refine zv_istB_n (lw := fun x8 => [(3, .int x8), (0, .ref (zx_ad X 76)), (1, .int v1), (2, .int v2)]) hX dX8_triangle_38 (by decide) (fun _ => rfl) (fun x8 => ?_)
      exact zv_sub [1, 2, 3, 0] rfl (b_X8_triangle_39 hX hT hk_11 ih zFU v1 v2 x8 s)
def f_X8_triangle_11 : Nat → Int32 → zS → Option (Int32 × zS)
  | 0, _, _ => none
  | n + 1, v1, s =>
    (zr_i s 77 (1 : Int32)).bind fun x9 =>
    if x9 ≤ v1 then
    (some ((-1 : Int32), s))
    else
    zb (v1 + (1 : Int32)) fun x10 =>
    f_X8_triangle_25 (f_X8_triangle_11 n) zFU v1 x10 s
set_option maxRecDepth 20000 in
theorem b_X8_triangle_11 {X : zX} (hX : zx_ok X cX8_triangle RX8 4) (hT : zx_rt X (some .int) (zR 71 1755)) : ∀ (n : Nat) (v1 : Int32) (s : zS), zV X (zq X zrI) 4 11 [(0, .ref (zx_ad X 76)), (1, .int v1)] [] s (f_X8_triangle_11 n v1 s) := by
  intro n
  induction n with
  | zero => intro v1 s; exact zv_none
  | succ n ih =>
    intro v1 s
    rw [f_X8_triangle_11]
    refine zv_iload_n hX dX8_triangle_11 1 rfl ?_
    refine zv_aload_n hX dX8_triangle_12 0 rfl ?_
    refine zv_geta hX wf_X8_13 wc_8 zd_76 zj_76_1 c9_8 zr_76_1 (by decide) dX8_triangle_13 ?_
    refine zv_iconst (v := (1 : Int32)) hX dX8_triangle_16 zi_i_1 ?_
    refine zv_iald hX dX8_triangle_17 (fun x9 => ?_)
    refine zv_icmp_ge (tgt := 94) hX dX8_triangle_18 rfl ?_ ?_
    · refine zv_iconst (v := (-1 : Int32)) hX dX8_triangle_94 zi_i_m1 ?_
      exact zv_ireti hX hT dX8_triangle_95
    · refine zv_iload_n hX dX8_triangle_21 1 rfl ?_
      refine zv_iconst (v := (1 : Int32)) hX dX8_triangle_22 zi_i_1 ?_
      refine zv_iadd hX dX8_triangle_23 ?_
      refine zv_istB_n (lw := fun x10 => [(2, .int x10), (0, .ref (zx_ad X 76)), (1, .int v1)]) hX dX8_triangle_24 (by decide) (fun _ => rfl) (fun x10 => ?_)
      exact zv_sub [1, 2, 0] rfl (b_X8_triangle_25 hX hT ih zFU v1 x10 s)
def f_X8_triangle  (s : zS) : Option (Int32 × zS) :=
  zb (zs_i s 76 0 (0 : Int32)) fun s11 =>
  zbd (f_X8_lays s11) fun _ s12 =>
  f_X8_triangle_11 zFU (0 : Int32) s12
set_option maxRecDepth 20000 in
theorem c_X8_triangle (Y : zG)  (s : zS) : zM Y yX8_triangle cX8_triangle 4 (some .int) (zR 71 1755) [.ref (zy_a Y 76)] s zrI (f_X8_triangle  s) := by
  refine zm_start (by decide +kernel) (Nat.le_of_ble_eq_true rfl) ?_
  intro X hY hT hX
  subst hY
  have hX : zx_ok X cX8_triangle RX8 4 := hX
  show zV X (zq X zrI) 4 0 [(0, .ref (zx_ad X 76))] [] s _
  unfold f_X8_triangle
  refine zv_aload_n hX dX8_triangle_0 0 rfl ?_
  refine zv_iconst (v := (0 : Int32)) hX dX8_triangle_1 zi_i_0 ?_
  refine zv_puti hX wf_X8_1 wc_8 wk_8_0 zd_76 zj_76_0 c9_8 zr_76_0 dX8_triangle_2 (fun s11 => ?_)
  refine zv_aload_n hX dX8_triangle_5 0 rfl ?_
  refine zv_cVV [] (rest := []) hX hT.2.2.2.2 (c_X8_lays (zx_Y X) s11) wv_X8_lays c9_8 zd_76 wm_X8_284 rfl (Nat.le_of_ble_eq_true rfl) (Nat.le_of_ble_eq_true rfl) rfl (Nat.le_of_ble_eq_true rfl) dX8_triangle_6 (fun _ s12 => ?_)
  refine zv_iconst (v := (0 : Int32)) hX dX8_triangle_9 zi_i_0 ?_
  refine zv_istore_n (lv' := [(1, .int (0 : Int32)), (0, .ref (zx_ad X 76))]) hX dX8_triangle_10 (by decide) rfl ?_
  exact zv_sub [1, 0] rfl (b_X8_triangle_11 hX hT zFU (0 : Int32) s12)
theorem dX8_undo_0 : decode cX8_undo 0 = .ok (.aload_n 0, 1) := by decide +kernel
theorem dX8_undo_1 : decode cX8_undo 1 = .ok (.iconst 0, 1) := by decide +kernel
theorem dX8_undo_2 : decode cX8_undo 2 = .ok (.putfield 1, 3) := by decide +kernel
theorem dX8_undo_5 : decode cX8_undo 5 = .ok (.iload_n 1, 1) := by decide +kernel
theorem dX8_undo_6 : decode cX8_undo 6 = .ok (.i2l, 1) := by decide +kernel
theorem dX8_undo_7 : decode cX8_undo 7 = .ok (.lconst 1, 1) := by decide +kernel
theorem dX8_undo_8 : decode cX8_undo 8 = .ok (.ldc2_w 325, 3) := by decide +kernel
theorem dX8_undo_11 : decode cX8_undo 11 = .ok (.invokestatic 154, 3) := by decide +kernel
theorem dX8_undo_14 : decode cX8_undo 14 = .ok (.ifCond .eq 14, 3) := by decide +kernel
theorem dX8_undo_17 : decode cX8_undo 17 = .ok (.iload_n 1, 1) := by decide +kernel
theorem dX8_undo_18 : decode cX8_undo 18 = .ok (.aload_n 0, 1) := by decide +kernel
theorem dX8_undo_19 : decode cX8_undo 19 = .ok (.getfield 13, 3) := by decide +kernel
theorem dX8_undo_22 : decode cX8_undo 22 = .ok (.bipush 43, 2) := by decide +kernel
theorem dX8_undo_24 : decode cX8_undo 24 = .ok (.iaload, 1) := by decide +kernel
theorem dX8_undo_25 : decode cX8_undo 25 = .ok (.if_icmp .le 6, 3) := by decide +kernel
theorem dX8_undo_28 : decode cX8_undo 28 = .ok (.bipush (-3), 2) := by decide +kernel
theorem dX8_undo_30 : decode cX8_undo 30 = .ok (.ireturn, 1) := by decide +kernel
theorem dX8_undo_31 : decode cX8_undo 31 = .ok (.aload_n 0, 1) := by decide +kernel
theorem dX8_undo_32 : decode cX8_undo 32 = .ok (.getfield 13, 3) := by decide +kernel
theorem dX8_undo_35 : decode cX8_undo 35 = .ok (.bipush 43, 2) := by decide +kernel
theorem dX8_undo_37 : decode cX8_undo 37 = .ok (.dup2, 1) := by decide +kernel
theorem dX8_undo_38 : decode cX8_undo 38 = .ok (.iaload, 1) := by decide +kernel
theorem dX8_undo_39 : decode cX8_undo 39 = .ok (.iload_n 1, 1) := by decide +kernel
theorem dX8_undo_40 : decode cX8_undo 40 = .ok (.isub, 1) := by decide +kernel
theorem dX8_undo_41 : decode cX8_undo 41 = .ok (.iastore, 1) := by decide +kernel
theorem dX8_undo_42 : decode cX8_undo 42 = .ok (.iconst 0, 1) := by decide +kernel
theorem dX8_undo_43 : decode cX8_undo 43 = .ok (.istore_n 2, 1) := by decide +kernel
theorem dX8_undo_44 : decode cX8_undo 44 = .ok (.iload_n 2, 1) := by decide +kernel
theorem dX8_undo_45 : decode cX8_undo 45 = .ok (.bipush 21, 2) := by decide +kernel
theorem dX8_undo_47 : decode cX8_undo 47 = .ok (.if_icmp .ge 38, 3) := by decide +kernel
theorem dX8_undo_50 : decode cX8_undo 50 = .ok (.aload_n 0, 1) := by decide +kernel
theorem dX8_undo_51 : decode cX8_undo 51 = .ok (.getfield 13, 3) := by decide +kernel
theorem dX8_undo_54 : decode cX8_undo 54 = .ok (.bipush 22, 2) := by decide +kernel
theorem dX8_undo_56 : decode cX8_undo 56 = .ok (.iload_n 2, 1) := by decide +kernel
theorem dX8_undo_57 : decode cX8_undo 57 = .ok (.iadd, 1) := by decide +kernel
theorem dX8_undo_58 : decode cX8_undo 58 = .ok (.aload_n 0, 1) := by decide +kernel
theorem dX8_undo_59 : decode cX8_undo 59 = .ok (.getfield 13, 3) := by decide +kernel
theorem dX8_undo_62 : decode cX8_undo 62 = .ok (.bipush 44, 2) := by decide +kernel
theorem dX8_undo_64 : decode cX8_undo 64 = .ok (.bipush 21, 2) := by decide +kernel
theorem dX8_undo_66 : decode cX8_undo 66 = .ok (.aload_n 0, 1) := by decide +kernel
theorem dX8_undo_67 : decode cX8_undo 67 = .ok (.getfield 13, 3) := by decide +kernel
theorem dX8_undo_70 : decode cX8_undo 70 = .ok (.bipush 43, 2) := by decide +kernel
theorem dX8_undo_72 : decode cX8_undo 72 = .ok (.iaload, 1) := by decide +kernel
theorem dX8_undo_73 : decode cX8_undo 73 = .ok (.imul, 1) := by decide +kernel
theorem dX8_undo_74 : decode cX8_undo 74 = .ok (.iadd, 1) := by decide +kernel
theorem dX8_undo_75 : decode cX8_undo 75 = .ok (.iload_n 2, 1) := by decide +kernel
theorem dX8_undo_76 : decode cX8_undo 76 = .ok (.iadd, 1) := by decide +kernel
theorem dX8_undo_77 : decode cX8_undo 77 = .ok (.iaload, 1) := by decide +kernel
theorem dX8_undo_78 : decode cX8_undo 78 = .ok (.iastore, 1) := by decide +kernel
theorem dX8_undo_79 : decode cX8_undo 79 = .ok (.iinc 2 1, 3) := by decide +kernel
theorem dX8_undo_82 : decode cX8_undo 82 = .ok (.goto (-38), 3) := by decide +kernel
theorem dX8_undo_85 : decode cX8_undo 85 = .ok (.aload_n 0, 1) := by decide +kernel
theorem dX8_undo_86 : decode cX8_undo 86 = .ok (.getfield 13, 3) := by decide +kernel
theorem dX8_undo_89 : decode cX8_undo 89 = .ok (.bipush 43, 2) := by decide +kernel
theorem dX8_undo_91 : decode cX8_undo 91 = .ok (.iaload, 1) := by decide +kernel
theorem dX8_undo_92 : decode cX8_undo 92 = .ok (.ireturn, 1) := by decide +kernel
def f_X8_undo_28  (s : zS) : Option (Int32 × zS) :=
  some ((-3 : Int32), s)
set_option maxRecDepth 20000 in
theorem b_X8_undo_28 {X : zX} (hX : zx_ok X cX8_undo RX8 3) (hT : zx_rt X (some .int) (zR 1 25)) : ∀  (s : zS), zV X (zq X zrI) 3 28 [] [] s (f_X8_undo_28  s) := by
  intro  s
  unfold f_X8_undo_28
  refine zv_bipush (v := (-3 : Int32)) hX dX8_undo_28 zi_b_m3 ?_
  exact zv_ireti hX hT dX8_undo_30
def f_X8_undo_44 : Nat → Int32 → zS → Option (Int32 × zS)
  | 0, _, _ => none
  | n + 1, v2, s =>
    if (nI 21) ≤ v2 then
    ((zr_i s 77 (nI 43)).bind fun x1 =>
    some (x1, s))
    else
    (zr_i s 77 (nI 43)).bind fun x2 =>
    (zr_i s 77 (((nI 44) + ((nI 21) * x2)) + v2)).bind fun x3 =>
    (zw_i s 77 ((nI 22) + v2) x3).bind fun s4 =>
    zb (v2 + (1 : Int32)) fun x5 =>
    f_X8_undo_44 n x5 s4
set_option maxRecDepth 20000 in
theorem b_X8_undo_44 {X : zX} (hX : zx_ok X cX8_undo RX8 3) (hT : zx_rt X (some .int) (zR 1 25)) : ∀ (n : Nat) (v2 : Int32) (s : zS), zV X (zq X zrI) 3 44 [(0, .ref (zx_ad X 76)), (2, .int v2)] [] s (f_X8_undo_44 n v2 s) := by
  intro n
  induction n with
  | zero => intro v2 s; exact zv_none
  | succ n ih =>
    intro v2 s
    rw [f_X8_undo_44]
    refine zv_iload_n hX dX8_undo_44 1 rfl ?_
    refine zv_bipush (v := (nI 21)) hX dX8_undo_45 zi_b_21 ?_
    refine zv_icmp_ge (tgt := 85) hX dX8_undo_47 rfl ?_ ?_
    · refine zv_aload_n hX dX8_undo_85 0 rfl ?_
      refine zv_geta hX wf_X8_13 wc_8 zd_76 zj_76_1 c9_8 zr_76_1 (by decide) dX8_undo_86 ?_
      refine zv_bipush (v := (nI 43)) hX dX8_undo_89 zi_b_43 ?_
      refine zv_iald hX dX8_undo_91 (fun x1 => ?_)
      exact zv_ireti hX hT dX8_undo_92
    · refine zv_aload_n hX dX8_undo_50 0 rfl ?_
      refine zv_geta hX wf_X8_13 wc_8 zd_76 zj_76_1 c9_8 zr_76_1 (by decide) dX8_undo_51 ?_
      refine zv_bipush (v := (nI 22)) hX dX8_undo_54 zi_b_22 ?_
      refine zv_iload_n hX dX8_undo_56 1 rfl ?_
      refine zv_iadd hX dX8_undo_57 ?_
      refine zv_aload_n hX dX8_undo_58 0 rfl ?_
      refine zv_geta hX wf_X8_13 wc_8 zd_76 zj_76_1 c9_8 zr_76_1 (by decide) dX8_undo_59 ?_
      refine zv_bipush (v := (nI 44)) hX dX8_undo_62 zi_b_44 ?_
      refine zv_bipush (v := (nI 21)) hX dX8_undo_64 zi_b_21 ?_
      refine zv_aload_n hX dX8_undo_66 0 rfl ?_
      refine zv_geta hX wf_X8_13 wc_8 zd_76 zj_76_1 c9_8 zr_76_1 (by decide) dX8_undo_67 ?_
      refine zv_bipush (v := (nI 43)) hX dX8_undo_70 zi_b_43 ?_
      refine zv_iald hX dX8_undo_72 (fun x2 => ?_)
      refine zv_imul hX dX8_undo_73 ?_
      refine zv_iadd hX dX8_undo_74 ?_
      refine zv_iload_n hX dX8_undo_75 1 rfl ?_
      refine zv_iadd hX dX8_undo_76 ?_
      refine zv_iald hX dX8_undo_77 (fun x3 => ?_)
      refine zv_iast hX dX8_undo_78 (fun s4 => ?_)
      refine zv_iincB (lw := fun x5 => [(2, .int x5), (0, .ref (zx_ad X 76))]) hX dX8_undo_79 1 rfl zi_i_1 (by decide) (fun _ => rfl) (fun x5 => ?_)
      refine zv_goto (tgt := 44) hX dX8_undo_82 rfl ?_
      exact zv_sub [1, 0] rfl (ih x5 s4)
def f_X8_undo (v1 : Int32) (s : zS) : Option (Int32 × zS) :=
  zb (zs_i s 76 0 (0 : Int32)) fun s6 =>
  zbd (f_X8_within (v1.toInt64) (1 : Int64) (10 : Int64) s6) fun r7 s8 =>
  if r7 = 0 then
  (f_X8_undo_28 s8)
  else
  (zr_i s8 77 (nI 43)).bind fun x9 =>
  if v1 ≤ x9 then
  ((zr_i s8 77 (nI 43)).bind fun x10 =>
  (zw_i s8 77 (nI 43) (x10 - v1)).bind fun s11 =>
  f_X8_undo_44 zFU (0 : Int32) s11)
  else
  f_X8_undo_28 s8
set_option maxRecDepth 20000 in
theorem c_X8_undo (Y : zG) (v1 : Int32) (s : zS) : zM Y yX8_undo cX8_undo 3 (some .int) (zR 1 25) [.ref (zy_a Y 76), .int v1] s zrI (f_X8_undo v1 s) := by
  refine zm_start (by decide +kernel) (Nat.le_of_ble_eq_true rfl) ?_
  intro X hY hT hX
  subst hY
  have hX : zx_ok X cX8_undo RX8 3 := hX
  show zV X (zq X zrI) 3 0 [(0, .ref (zx_ad X 76)), (1, .int v1)] [] s _
  unfold f_X8_undo
  refine zv_aload_n hX dX8_undo_0 0 rfl ?_
  refine zv_iconst (v := (0 : Int32)) hX dX8_undo_1 zi_i_0 ?_
  refine zv_puti hX wf_X8_1 wc_8 wk_8_0 zd_76 zj_76_0 c9_8 zr_76_0 dX8_undo_2 (fun s6 => ?_)
  refine zv_iload_n hX dX8_undo_5 1 rfl ?_
  refine zv_i2l hX dX8_undo_6 ?_
  refine zv_lconst (v := (1 : Int64)) hX dX8_undo_7 zi_l_1 ?_
  refine zv_ldc2 hX wn_X8_325 dX8_undo_8 ?_
  refine zv_cSI [.long (v1.toInt64), .long (1 : Int64), .long (10 : Int64)] (rest := []) hX hT.2.2.2.2 (c_X8_within (zx_Y X) (v1.toInt64) (1 : Int64) (10 : Int64) s6) wv_X8_within wm_X8_154 rfl (Nat.le_of_ble_eq_true rfl) (Nat.le_of_ble_eq_true rfl) rfl (Nat.le_of_ble_eq_true rfl) dX8_undo_11 (fun r7 s8 => ?_)
  refine zv_if_eq (tgt := 28) hX dX8_undo_14 rfl ?_ ?_
  · exact zv_sub [] rfl (b_X8_undo_28 hX hT  s8)
  · refine zv_iload_n hX dX8_undo_17 1 rfl ?_
    refine zv_aload_n hX dX8_undo_18 0 rfl ?_
    refine zv_geta hX wf_X8_13 wc_8 zd_76 zj_76_1 c9_8 zr_76_1 (by decide) dX8_undo_19 ?_
    refine zv_bipush (v := (nI 43)) hX dX8_undo_22 zi_b_43 ?_
    refine zv_iald hX dX8_undo_24 (fun x9 => ?_)
    refine zv_icmp_le (tgt := 31) hX dX8_undo_25 rfl ?_ ?_
    · refine zv_aload_n hX dX8_undo_31 0 rfl ?_
      refine zv_geta hX wf_X8_13 wc_8 zd_76 zj_76_1 c9_8 zr_76_1 (by decide) dX8_undo_32 ?_
      refine zv_bipush (v := (nI 43)) hX dX8_undo_35 zi_b_43 ?_
      refine zv_dup2 hX dX8_undo_37 rfl rfl ?_
      refine zv_iald hX dX8_undo_38 (fun x10 => ?_)
      refine zv_iload_n hX dX8_undo_39 1 rfl ?_
      refine zv_isub hX dX8_undo_40 ?_
      refine zv_iast hX dX8_undo_41 (fun s11 => ?_)
      refine zv_iconst (v := (0 : Int32)) hX dX8_undo_42 zi_i_0 ?_
      refine zv_istore_n (lv' := [(2, .int (0 : Int32)), (0, .ref (zx_ad X 76)), (1, .int v1)]) hX dX8_undo_43 (by decide) rfl ?_
      exact zv_sub [1, 0] rfl (b_X8_undo_44 hX hT zFU (0 : Int32) s11)
    · exact zv_sub [] rfl (b_X8_undo_28 hX hT  s8)
theorem dX8_wins_0 : decode cX8_wins 0 = .ok (.aload_n 0, 1) := by decide +kernel
theorem dX8_wins_1 : decode cX8_wins 1 = .ok (.iconst 0, 1) := by decide +kernel
theorem dX8_wins_2 : decode cX8_wins 2 = .ok (.putfield 1, 3) := by decide +kernel
theorem dX8_wins_5 : decode cX8_wins 5 = .ok (.aload_n 0, 1) := by decide +kernel
theorem dX8_wins_6 : decode cX8_wins 6 = .ok (.iload_n 1, 1) := by decide +kernel
theorem dX8_wins_7 : decode cX8_wins 7 = .ok (.invokevirtual 409, 3) := by decide +kernel
theorem dX8_wins_10 : decode cX8_wins 10 = .ok (.ifCond .ne 6, 3) := by decide +kernel
theorem dX8_wins_13 : decode cX8_wins 13 = .ok (.bipush (-3), 2) := by decide +kernel
theorem dX8_wins_15 : decode cX8_wins 15 = .ok (.ireturn, 1) := by decide +kernel
theorem dX8_wins_16 : decode cX8_wins 16 = .ok (.aload_n 0, 1) := by decide +kernel
theorem dX8_wins_17 : decode cX8_wins 17 = .ok (.invokevirtual 455, 3) := by decide +kernel
theorem dX8_wins_20 : decode cX8_wins 20 = .ok (.aload_n 0, 1) := by decide +kernel
theorem dX8_wins_21 : decode cX8_wins 21 = .ok (.getfield 72, 3) := by decide +kernel
theorem dX8_wins_24 : decode cX8_wins 24 = .ok (.iload_n 1, 1) := by decide +kernel
theorem dX8_wins_25 : decode cX8_wins 25 = .ok (.iaload, 1) := by decide +kernel
theorem dX8_wins_26 : decode cX8_wins 26 = .ok (.ifCond .lt 7, 3) := by decide +kernel
theorem dX8_wins_29 : decode cX8_wins 29 = .ok (.iconst 1, 1) := by decide +kernel
theorem dX8_wins_30 : decode cX8_wins 30 = .ok (.goto 4, 3) := by decide +kernel
theorem dX8_wins_33 : decode cX8_wins 33 = .ok (.iconst 0, 1) := by decide +kernel
theorem dX8_wins_34 : decode cX8_wins 34 = .ok (.ireturn, 1) := by decide +kernel
def f_X8_wins_34 (w0 : Int32) (s : zS) : Option (Int32 × zS) :=
  some (w0, s)
set_option maxRecDepth 20000 in
theorem b_X8_wins_34 {X : zX} (hX : zx_ok X cX8_wins RX8 2) (hT : zx_rt X (some .int) (zR 71 1759)) : ∀ (w0 : Int32) (s : zS), zV X (zq X zrI) 2 34 [] [.int w0] s (f_X8_wins_34 w0 s) := by
  intro w0 s
  unfold f_X8_wins_34
  exact zv_ireti hX hT dX8_wins_34
def f_X8_wins (v1 : Int32) (s : zS) : Option (Int32 × zS) :=
  zb (zs_i s 76 0 (0 : Int32)) fun s1 =>
  zbd (f_X8_isSet v1 s1) fun r2 s3 =>
  if ¬ r2 = 0 then
  (zbd (f_X8_laysGame s3) fun _ s4 =>
  (zr_i s4 95 v1).bind fun x5 =>
  if x5 < 0 then
  (f_X8_wins_34 (0 : Int32) s4)
  else
  f_X8_wins_34 (1 : Int32) s4)
  else
  some ((-3 : Int32), s3)
set_option maxRecDepth 20000 in
theorem c_X8_wins (Y : zG) (v1 : Int32) (s : zS) : zM Y yX8_wins cX8_wins 2 (some .int) (zR 71 1759) [.ref (zy_a Y 76), .int v1] s zrI (f_X8_wins v1 s) := by
  refine zm_start (by decide +kernel) (Nat.le_of_ble_eq_true rfl) ?_
  intro X hY hT hX
  subst hY
  have hX : zx_ok X cX8_wins RX8 2 := hX
  show zV X (zq X zrI) 2 0 [(0, .ref (zx_ad X 76)), (1, .int v1)] [] s _
  unfold f_X8_wins
  refine zv_aload_n hX dX8_wins_0 0 rfl ?_
  refine zv_iconst (v := (0 : Int32)) hX dX8_wins_1 zi_i_0 ?_
  refine zv_puti hX wf_X8_1 wc_8 wk_8_0 zd_76 zj_76_0 c9_8 zr_76_0 dX8_wins_2 (fun s1 => ?_)
  refine zv_aload_n hX dX8_wins_5 0 rfl ?_
  refine zv_iload_n hX dX8_wins_6 1 rfl ?_
  refine zv_cVI [.int v1] (rest := []) hX hT.2.2.2.2 (c_X8_isSet (zx_Y X) v1 s1) wv_X8_isSet c9_8 zd_76 wm_X8_409 rfl (Nat.le_of_ble_eq_true rfl) (Nat.le_of_ble_eq_true rfl) rfl (Nat.le_of_ble_eq_true rfl) dX8_wins_7 (fun r2 s3 => ?_)
  refine zv_if_ne (tgt := 16) hX dX8_wins_10 rfl ?_ ?_
  · refine zv_aload_n hX dX8_wins_16 0 rfl ?_
    refine zv_cVV [] (rest := []) hX hT.2.2.2.2 (c_X8_laysGame (zx_Y X) s3) wv_X8_laysGame c9_8 zd_76 wm_X8_455 rfl (Nat.le_of_ble_eq_true rfl) (Nat.le_of_ble_eq_true rfl) rfl (Nat.le_of_ble_eq_true rfl) dX8_wins_17 (fun _ s4 => ?_)
    refine zv_aload_n hX dX8_wins_20 0 rfl ?_
    refine zv_geta hX wf_X8_72 wc_8 zd_76 zj_76_36 c9_8 zr_76_36 (by decide) dX8_wins_21 ?_
    refine zv_iload_n hX dX8_wins_24 1 rfl ?_
    refine zv_iald hX dX8_wins_25 (fun x5 => ?_)
    refine zv_if_lt (tgt := 33) hX dX8_wins_26 rfl ?_ ?_
    · refine zv_iconst (v := (0 : Int32)) hX dX8_wins_33 zi_i_0 ?_
      exact zv_sub [] rfl (b_X8_wins_34 hX hT (0 : Int32) s4)
    · refine zv_iconst (v := (1 : Int32)) hX dX8_wins_29 zi_i_1 ?_
      refine zv_goto (tgt := 34) hX dX8_wins_30 rfl ?_
      exact zv_sub [] rfl (b_X8_wins_34 hX hT (1 : Int32) s4)
  · refine zv_bipush (v := (-3 : Int32)) hX dX8_wins_13 zi_b_m3 ?_
    exact zv_ireti hX hT dX8_wins_15
theorem dX8_write_0 : decode cX8_write 0 = .ok (.aload_n 0, 1) := by decide +kernel
theorem dX8_write_1 : decode cX8_write 1 = .ok (.iconst 0, 1) := by decide +kernel
theorem dX8_write_2 : decode cX8_write 2 = .ok (.putfield 1, 3) := by decide +kernel
theorem dX8_write_5 : decode cX8_write 5 = .ok (.aload_n 0, 1) := by decide +kernel
theorem dX8_write_6 : decode cX8_write 6 = .ok (.iload_n 1, 1) := by decide +kernel
theorem dX8_write_7 : decode cX8_write 7 = .ok (.invokevirtual 352, 3) := by decide +kernel
theorem dX8_write_10 : decode cX8_write 10 = .ok (.istore 5, 2) := by decide +kernel
theorem dX8_write_12 : decode cX8_write 12 = .ok (.iload 5, 2) := by decide +kernel
theorem dX8_write_14 : decode cX8_write 14 = .ok (.ifCond .eq 7, 3) := by decide +kernel
theorem dX8_write_17 : decode cX8_write 17 = .ok (.iload 5, 2) := by decide +kernel
theorem dX8_write_19 : decode cX8_write 19 = .ok (.i2l, 1) := by decide +kernel
theorem dX8_write_20 : decode cX8_write 20 = .ok (.lreturn, 1) := by decide +kernel
theorem dX8_write_21 : decode cX8_write 21 = .ok (.iload_n 2, 1) := by decide +kernel
theorem dX8_write_22 : decode cX8_write 22 = .ok (.i2l, 1) := by decide +kernel
theorem dX8_write_23 : decode cX8_write 23 = .ok (.lconst 0, 1) := by decide +kernel
theorem dX8_write_24 : decode cX8_write 24 = .ok (.aload_n 0, 1) := by decide +kernel
theorem dX8_write_25 : decode cX8_write 25 = .ok (.getfield 81, 3) := by decide +kernel
theorem dX8_write_28 : decode cX8_write 28 = .ok (.iload_n 1, 1) := by decide +kernel
theorem dX8_write_29 : decode cX8_write 29 = .ok (.iaload, 1) := by decide +kernel
theorem dX8_write_30 : decode cX8_write 30 = .ok (.iconst 1, 1) := by decide +kernel
theorem dX8_write_31 : decode cX8_write 31 = .ok (.isub, 1) := by decide +kernel
theorem dX8_write_32 : decode cX8_write 32 = .ok (.i2l, 1) := by decide +kernel
theorem dX8_write_33 : decode cX8_write 33 = .ok (.invokestatic 154, 3) := by decide +kernel
theorem dX8_write_36 : decode cX8_write 36 = .ok (.ifCond .ne 7, 3) := by decide +kernel
theorem dX8_write_39 : decode cX8_write 39 = .ok (.ldc2_w 467, 3) := by decide +kernel
theorem dX8_write_42 : decode cX8_write 42 = .ok (.lreturn, 1) := by decide +kernel
theorem dX8_write_43 : decode cX8_write 43 = .ok (.aload_n 0, 1) := by decide +kernel
theorem dX8_write_44 : decode cX8_write 44 = .ok (.getfield 84, 3) := by decide +kernel
theorem dX8_write_47 : decode cX8_write 47 = .ok (.bipush 40, 2) := by decide +kernel
theorem dX8_write_49 : decode cX8_write 49 = .ok (.iload_n 1, 1) := by decide +kernel
theorem dX8_write_50 : decode cX8_write 50 = .ok (.imul, 1) := by decide +kernel
theorem dX8_write_51 : decode cX8_write 51 = .ok (.iload_n 2, 1) := by decide +kernel
theorem dX8_write_52 : decode cX8_write 52 = .ok (.iadd, 1) := by decide +kernel
theorem dX8_write_53 : decode cX8_write 53 = .ok (.lload_n 3, 1) := by decide +kernel
theorem dX8_write_54 : decode cX8_write 54 = .ok (.aload_n 0, 1) := by decide +kernel
theorem dX8_write_55 : decode cX8_write 55 = .ok (.getfield 78, 3) := by decide +kernel
theorem dX8_write_58 : decode cX8_write 58 = .ok (.iload_n 1, 1) := by decide +kernel
theorem dX8_write_59 : decode cX8_write 59 = .ok (.iaload, 1) := by decide +kernel
theorem dX8_write_60 : decode cX8_write 60 = .ok (.invokestatic 469, 3) := by decide +kernel
theorem dX8_write_63 : decode cX8_write 63 = .ok (.lastore, 1) := by decide +kernel
theorem dX8_write_64 : decode cX8_write 64 = .ok (.aload_n 0, 1) := by decide +kernel
theorem dX8_write_65 : decode cX8_write 65 = .ok (.getfield 84, 3) := by decide +kernel
theorem dX8_write_68 : decode cX8_write 68 = .ok (.bipush 40, 2) := by decide +kernel
theorem dX8_write_70 : decode cX8_write 70 = .ok (.iload_n 1, 1) := by decide +kernel
theorem dX8_write_71 : decode cX8_write 71 = .ok (.imul, 1) := by decide +kernel
theorem dX8_write_72 : decode cX8_write 72 = .ok (.iload_n 2, 1) := by decide +kernel
theorem dX8_write_73 : decode cX8_write 73 = .ok (.iadd, 1) := by decide +kernel
theorem dX8_write_74 : decode cX8_write 74 = .ok (.laload, 1) := by decide +kernel
theorem dX8_write_75 : decode cX8_write 75 = .ok (.lreturn, 1) := by decide +kernel
def f_X8_write (v1 : Int32) (v2 : Int32) (v3 : Int64) (s : zS) : Option (Int64 × zS) :=
  zb (zs_i s 76 0 (0 : Int32)) fun s1 =>
  zbd (f_X8_noTray v1 s1) fun r2 s3 =>
  if r2 = 0 then
  ((zr_i s3 98 v1).bind fun x4 =>
  zbd (f_X8_within (v2.toInt64) (0 : Int64) ((x4 - (1 : Int32)).toInt64) s3) fun r5 s6 =>
  if ¬ r5 = 0 then
  ((zr_i s6 97 v1).bind fun x7 =>
  zbd (f_X8_cut v3 x7 s6) fun r8 s9 =>
  (zw_l s9 99 (((nI 40) * v1) + v2) r8).bind fun s10 =>
  (zr_l s10 99 (((nI 40) * v1) + v2)).bind fun x11 =>
  some (x11, s10))
  else
  some ((-7 : Int64), s6))
  else
  some (r2.toInt64, s3)
set_option maxRecDepth 20000 in
theorem c_X8_write (Y : zG) (v1 : Int32) (v2 : Int32) (v3 : Int64) (s : zS) : zM Y yX8_write cX8_write 6 (some .long) (zR 2 46) [.ref (zy_a Y 76), .int v1, .int v2, .long v3] s zrJ (f_X8_write v1 v2 v3 s) := by
  refine zm_start (by decide +kernel) (Nat.le_of_ble_eq_true rfl) ?_
  intro X hY hT hX
  subst hY
  have hX : zx_ok X cX8_write RX8 6 := hX
  show zV X (zq X zrJ) 6 0 [(0, .ref (zx_ad X 76)), (1, .int v1), (2, .int v2), (3, .long v3)] [] s _
  unfold f_X8_write
  refine zv_aload_n hX dX8_write_0 0 rfl ?_
  refine zv_iconst (v := (0 : Int32)) hX dX8_write_1 zi_i_0 ?_
  refine zv_puti hX wf_X8_1 wc_8 wk_8_0 zd_76 zj_76_0 c9_8 zr_76_0 dX8_write_2 (fun s1 => ?_)
  refine zv_aload_n hX dX8_write_5 0 rfl ?_
  refine zv_iload_n hX dX8_write_6 1 rfl ?_
  refine zv_cVI [.int v1] (rest := []) hX hT.2.2.2.2 (c_X8_noTray (zx_Y X) v1 s1) wv_X8_noTray c9_8 zd_76 wm_X8_352 rfl (Nat.le_of_ble_eq_true rfl) (Nat.le_of_ble_eq_true rfl) rfl (Nat.le_of_ble_eq_true rfl) dX8_write_7 (fun r2 s3 => ?_)
  refine zv_istore (lv' := [(5, .int r2), (0, .ref (zx_ad X 76)), (1, .int v1), (2, .int v2), (3, .long v3)]) hX dX8_write_10 (by decide) rfl ?_
  refine zv_iload hX dX8_write_12 0 rfl ?_
  refine zv_if_eq (tgt := 21) hX dX8_write_14 rfl ?_ ?_
  · refine zv_iload_n hX dX8_write_21 3 rfl ?_
    refine zv_i2l hX dX8_write_22 ?_
    refine zv_lconst (v := (0 : Int64)) hX dX8_write_23 zi_l_0 ?_
    refine zv_aload_n hX dX8_write_24 1 rfl ?_
    refine zv_geta hX wf_X8_81 wc_8 zd_76 zj_76_39 c9_8 zr_76_39 (by decide) dX8_write_25 ?_
    refine zv_iload_n hX dX8_write_28 2 rfl ?_
    refine zv_iald hX dX8_write_29 (fun x4 => ?_)
    refine zv_iconst (v := (1 : Int32)) hX dX8_write_30 zi_i_1 ?_
    refine zv_isub hX dX8_write_31 ?_
    refine zv_i2l hX dX8_write_32 ?_
    refine zv_cSI [.long (v2.toInt64), .long (0 : Int64), .long ((x4 - (1 : Int32)).toInt64)] (rest := []) hX hT.2.2.2.2 (c_X8_within (zx_Y X) (v2.toInt64) (0 : Int64) ((x4 - (1 : Int32)).toInt64) s3) wv_X8_within wm_X8_154 rfl (Nat.le_of_ble_eq_true rfl) (Nat.le_of_ble_eq_true rfl) rfl (Nat.le_of_ble_eq_true rfl) dX8_write_33 (fun r5 s6 => ?_)
    refine zv_if_ne (tgt := 43) hX dX8_write_36 rfl ?_ ?_
    · refine zv_aload_n hX dX8_write_43 1 rfl ?_
      refine zv_geta hX wf_X8_84 wc_8 zd_76 zj_76_40 c9_8 zr_76_40 (by decide) dX8_write_44 ?_
      refine zv_bipush (v := (nI 40)) hX dX8_write_47 zi_b_40 ?_
      refine zv_iload_n hX dX8_write_49 2 rfl ?_
      refine zv_imul hX dX8_write_50 ?_
      refine zv_iload_n hX dX8_write_51 3 rfl ?_
      refine zv_iadd hX dX8_write_52 ?_
      refine zv_lload_n hX dX8_write_53 4 rfl ?_
      refine zv_aload_n hX dX8_write_54 1 rfl ?_
      refine zv_geta hX wf_X8_78 wc_8 zd_76 zj_76_38 c9_8 zr_76_38 (by decide) dX8_write_55 ?_
      refine zv_iload_n hX dX8_write_58 2 rfl ?_
      refine zv_iald hX dX8_write_59 (fun x7 => ?_)
      refine zv_cSJ [.long v3, .int x7] (rest := [.int (((nI 40) * v1) + v2), .ref (zx_ad X 99)]) hX hT.2.2.2.2 (c_X8_cut (zx_Y X) v3 x7 s6) wv_X8_cut wm_X8_469 rfl (Nat.le_of_ble_eq_true rfl) (Nat.le_of_ble_eq_true rfl) rfl (Nat.le_of_ble_eq_true rfl) dX8_write_60 (fun r8 s9 => ?_)
      refine zv_last hX dX8_write_63 (fun s10 => ?_)
      refine zv_aload_n hX dX8_write_64 1 rfl ?_
      refine zv_geta hX wf_X8_84 wc_8 zd_76 zj_76_40 c9_8 zr_76_40 (by decide) dX8_write_65 ?_
      refine zv_bipush (v := (nI 40)) hX dX8_write_68 zi_b_40 ?_
      refine zv_iload_n hX dX8_write_70 2 rfl ?_
      refine zv_imul hX dX8_write_71 ?_
      refine zv_iload_n hX dX8_write_72 3 rfl ?_
      refine zv_iadd hX dX8_write_73 ?_
      refine zv_lald hX dX8_write_74 (fun x11 => ?_)
      exact zv_lret hX hT dX8_write_75
    · refine zv_ldc2 hX wn_X8_467 dX8_write_39 ?_
      exact zv_lret hX hT dX8_write_42
  · refine zv_iload hX dX8_write_17 0 rfl ?_
    refine zv_i2l hX dX8_write_19 ?_
    exact zv_lret hX hT dX8_write_20
theorem dX8_year_0 : decode cX8_year 0 = .ok (.aload_n 0, 1) := by decide +kernel
theorem dX8_year_1 : decode cX8_year 1 = .ok (.iconst 0, 1) := by decide +kernel
theorem dX8_year_2 : decode cX8_year 2 = .ok (.putfield 1, 3) := by decide +kernel
theorem dX8_year_5 : decode cX8_year 5 = .ok (.iload_n 2, 1) := by decide +kernel
theorem dX8_year_6 : decode cX8_year 6 = .ok (.i2l, 1) := by decide +kernel
theorem dX8_year_7 : decode cX8_year 7 = .ok (.lconst 1, 1) := by decide +kernel
theorem dX8_year_8 : decode cX8_year 8 = .ok (.ldc2_w 371, 3) := by decide +kernel
theorem dX8_year_11 : decode cX8_year 11 = .ok (.invokestatic 154, 3) := by decide +kernel
theorem dX8_year_14 : decode cX8_year 14 = .ok (.ifCond .ne 6, 3) := by decide +kernel
theorem dX8_year_17 : decode cX8_year 17 = .ok (.bipush (-3), 2) := by decide +kernel
theorem dX8_year_19 : decode cX8_year 19 = .ok (.ireturn, 1) := by decide +kernel
theorem dX8_year_20 : decode cX8_year 20 = .ok (.aload_n 0, 1) := by decide +kernel
theorem dX8_year_21 : decode cX8_year 21 = .ok (.invokevirtual 307, 3) := by decide +kernel
theorem dX8_year_24 : decode cX8_year 24 = .ok (.aload_n 0, 1) := by decide +kernel
theorem dX8_year_25 : decode cX8_year 25 = .ok (.iload_n 1, 1) := by decide +kernel
theorem dX8_year_26 : decode cX8_year 26 = .ok (.putfield 365, 3) := by decide +kernel
theorem dX8_year_29 : decode cX8_year 29 = .ok (.iconst 0, 1) := by decide +kernel
theorem dX8_year_30 : decode cX8_year 30 = .ok (.istore_n 3, 1) := by decide +kernel
theorem dX8_year_31 : decode cX8_year 31 = .ok (.iconst 0, 1) := by decide +kernel
theorem dX8_year_32 : decode cX8_year 32 = .ok (.istore 4, 2) := by decide +kernel
theorem dX8_year_34 : decode cX8_year 34 = .ok (.iload 4, 2) := by decide +kernel
theorem dX8_year_36 : decode cX8_year 36 = .ok (.iload_n 2, 1) := by decide +kernel
theorem dX8_year_37 : decode cX8_year 37 = .ok (.if_icmp .ge 37, 3) := by decide +kernel
theorem dX8_year_40 : decode cX8_year 40 = .ok (.aload_n 0, 1) := by decide +kernel
theorem dX8_year_41 : decode cX8_year 41 = .ok (.invokevirtual 373, 3) := by decide +kernel
theorem dX8_year_44 : decode cX8_year 44 = .ok (.istore 5, 2) := by decide +kernel
theorem dX8_year_46 : decode cX8_year 46 = .ok (.aload_n 0, 1) := by decide +kernel
theorem dX8_year_47 : decode cX8_year 47 = .ok (.iload 5, 2) := by decide +kernel
theorem dX8_year_49 : decode cX8_year 49 = .ok (.i2l, 1) := by decide +kernel
theorem dX8_year_50 : decode cX8_year 50 = .ok (.invokevirtual 344, 3) := by decide +kernel
theorem dX8_year_53 : decode cX8_year 53 = .ok (.ifCond .eq 6, 3) := by decide +kernel
theorem dX8_year_56 : decode cX8_year 56 = .ok (.goto 12, 3) := by decide +kernel
theorem dX8_year_59 : decode cX8_year 59 = .ok (.aload_n 0, 1) := by decide +kernel
theorem dX8_year_60 : decode cX8_year 60 = .ok (.iload 5, 2) := by decide +kernel
theorem dX8_year_62 : decode cX8_year 62 = .ok (.invokevirtual 347, 3) := by decide +kernel
theorem dX8_year_65 : decode cX8_year 65 = .ok (.iinc 3 1, 3) := by decide +kernel
theorem dX8_year_68 : decode cX8_year 68 = .ok (.iinc 4 1, 3) := by decide +kernel
theorem dX8_year_71 : decode cX8_year 71 = .ok (.goto (-37), 3) := by decide +kernel
theorem dX8_year_74 : decode cX8_year 74 = .ok (.iload_n 3, 1) := by decide +kernel
theorem dX8_year_75 : decode cX8_year 75 = .ok (.ifCond .le 7, 3) := by decide +kernel
theorem dX8_year_78 : decode cX8_year 78 = .ok (.aload_n 0, 1) := by decide +kernel
theorem dX8_year_79 : decode cX8_year 79 = .ok (.invokevirtual 313, 3) := by decide +kernel
theorem dX8_year_82 : decode cX8_year 82 = .ok (.iload_n 3, 1) := by decide +kernel
theorem dX8_year_83 : decode cX8_year 83 = .ok (.ireturn, 1) := by decide +kernel
def f_X8_year_82 (v3 : Int32) (s : zS) : Option (Int32 × zS) :=
  some (v3, s)
set_option maxRecDepth 20000 in
theorem b_X8_year_82 {X : zX} (hX : zx_ok X cX8_year RX8 6) (hT : zx_rt X (some .int) (zR 73 1807)) : ∀ (v3 : Int32) (s : zS), zV X (zq X zrI) 6 82 [(3, .int v3)] [] s (f_X8_year_82 v3 s) := by
  intro v3 s
  unfold f_X8_year_82
  refine zv_iload_n hX dX8_year_82 0 rfl ?_
  exact zv_ireti hX hT dX8_year_83
def f_X8_year_68 (kb_34 : Int32 → Int32 → Int32 → zS → Option (Int32 × zS)) (v2 : Int32) (v3 : Int32) (v4 : Int32) (s : zS) : Option (Int32 × zS) :=
  zb (v4 + (1 : Int32)) fun x1 =>
  kb_34 v2 v3 x1 s
set_option maxRecDepth 20000 in
theorem b_X8_year_68 {X : zX} {kb_34 : Int32 → Int32 → Int32 → zS → Option (Int32 × zS)} (hX : zx_ok X cX8_year RX8 6) (hT : zx_rt X (some .int) (zR 73 1807)) (hk_34 : ∀ (v2 : Int32) (v3 : Int32) (v4 : Int32) (s : zS), zV X (zq X zrI) 6 34 [(0, .ref (zx_ad X 76)), (2, .int v2), (3, .int v3), (4, .int v4)] [] s (kb_34 v2 v3 v4 s)) : ∀ (v2 : Int32) (v3 : Int32) (v4 : Int32) (s : zS), zV X (zq X zrI) 6 68 [(0, .ref (zx_ad X 76)), (2, .int v2), (3, .int v3), (4, .int v4)] [] s (f_X8_year_68 kb_34 v2 v3 v4 s) := by
  intro v2 v3 v4 s
  unfold f_X8_year_68
  refine zv_iincB (lw := fun x1 => [(4, .int x1), (0, .ref (zx_ad X 76)), (2, .int v2), (3, .int v3)]) hX dX8_year_68 3 rfl zi_i_1 (by decide) (fun _ => rfl) (fun x1 => ?_)
  refine zv_goto (tgt := 34) hX dX8_year_71 rfl ?_
  exact zv_sub [1, 2, 3, 0] rfl (hk_34 v2 v3 x1 s)
def f_X8_year_34 : Nat → Int32 → Int32 → Int32 → zS → Option (Int32 × zS)
  | 0, _, _, _, _ => none
  | n + 1, v2, v3, v4, s =>
    if v2 ≤ v4 then
    (if v3 ≤ 0 then
    (f_X8_year_82 v3 s)
    else
    zbd (f_X8_notes s) fun _ s2 =>
    f_X8_year_82 v3 s2)
    else
    zbd (f_X8_drawn s) fun r3 s4 =>
    zbd (f_X8_whyNot (r3.toInt64) s4) fun r5 s6 =>
    if r5 = 0 then
    (zbd (f_X8_does r3 s6) fun _ s7 =>
    zb (v3 + (1 : Int32)) fun x8 =>
    f_X8_year_68 (f_X8_year_34 n) v2 x8 v4 s7)
    else
    f_X8_year_68 (f_X8_year_34 n) v2 v3 v4 s6
set_option maxRecDepth 20000 in
theorem b_X8_year_34 {X : zX} (hX : zx_ok X cX8_year RX8 6) (hT : zx_rt X (some .int) (zR 73 1807)) : ∀ (n : Nat) (v2 : Int32) (v3 : Int32) (v4 : Int32) (s : zS), zV X (zq X zrI) 6 34 [(0, .ref (zx_ad X 76)), (2, .int v2), (3, .int v3), (4, .int v4)] [] s (f_X8_year_34 n v2 v3 v4 s) := by
  intro n
  induction n with
  | zero => intro v2 v3 v4 s; exact zv_none
  | succ n ih =>
    intro v2 v3 v4 s
    rw [f_X8_year_34]
    refine zv_iload hX dX8_year_34 3 rfl ?_
    refine zv_iload_n hX dX8_year_36 1 rfl ?_
    refine zv_icmp_ge (tgt := 74) hX dX8_year_37 rfl ?_ ?_
    · refine zv_iload_n hX dX8_year_74 2 rfl ?_
      refine zv_if_le (tgt := 82) hX dX8_year_75 rfl ?_ ?_
      · exact zv_sub [2] rfl (b_X8_year_82 hX hT v3 s)
      · refine zv_aload_n hX dX8_year_78 0 rfl ?_
        refine zv_cVV [] (rest := []) hX hT.2.2.2.2 (c_X8_notes (zx_Y X) s) wv_X8_notes c9_8 zd_76 wm_X8_313 rfl (Nat.le_of_ble_eq_true rfl) (Nat.le_of_ble_eq_true rfl) rfl (Nat.le_of_ble_eq_true rfl) dX8_year_79 (fun _ s2 => ?_)
        exact zv_sub [2] rfl (b_X8_year_82 hX hT v3 s2)
    · refine zv_aload_n hX dX8_year_40 0 rfl ?_
      refine zv_cVI [] (rest := []) hX hT.2.2.2.2 (c_X8_drawn (zx_Y X) s) wv_X8_drawn c9_8 zd_76 wm_X8_373 rfl (Nat.le_of_ble_eq_true rfl) (Nat.le_of_ble_eq_true rfl) rfl (Nat.le_of_ble_eq_true rfl) dX8_year_41 (fun r3 s4 => ?_)
      refine zv_istore (lv' := [(5, .int r3), (0, .ref (zx_ad X 76)), (2, .int v2), (3, .int v3), (4, .int v4)]) hX dX8_year_44 (by decide) rfl ?_
      refine zv_aload_n hX dX8_year_46 1 rfl ?_
      refine zv_iload hX dX8_year_47 0 rfl ?_
      refine zv_i2l hX dX8_year_49 ?_
      refine zv_cVI [.long (r3.toInt64)] (rest := []) hX hT.2.2.2.2 (c_X8_whyNot (zx_Y X) (r3.toInt64) s4) wv_X8_whyNot c9_8 zd_76 wm_X8_344 rfl (Nat.le_of_ble_eq_true rfl) (Nat.le_of_ble_eq_true rfl) rfl (Nat.le_of_ble_eq_true rfl) dX8_year_50 (fun r5 s6 => ?_)
      refine zv_if_eq (tgt := 59) hX dX8_year_53 rfl ?_ ?_
      · refine zv_aload_n hX dX8_year_59 1 rfl ?_
        refine zv_iload hX dX8_year_60 0 rfl ?_
        refine zv_cVV [.int r3] (rest := []) hX hT.2.2.2.2 (c_X8_does (zx_Y X) r3 s6) wv_X8_does c9_8 zd_76 wm_X8_347 rfl (Nat.le_of_ble_eq_true rfl) (Nat.le_of_ble_eq_true rfl) rfl (Nat.le_of_ble_eq_true rfl) dX8_year_62 (fun _ s7 => ?_)
        refine zv_iincB (lw := fun x8 => [(3, .int x8), (5, .int r3), (0, .ref (zx_ad X 76)), (2, .int v2), (4, .int v4)]) hX dX8_year_65 3 rfl zi_i_1 (by decide) (fun _ => rfl) (fun x8 => ?_)
        exact zv_sub [2, 3, 0, 4] rfl (b_X8_year_68 hX hT ih v2 x8 v4 s7)
      · refine zv_goto (tgt := 68) hX dX8_year_56 rfl ?_
        exact zv_sub [1, 2, 3, 4] rfl (b_X8_year_68 hX hT ih v2 v3 v4 s6)
def f_X8_year (v1 : Int32) (v2 : Int32) (s : zS) : Option (Int32 × zS) :=
  zb (zs_i s 76 0 (0 : Int32)) fun s9 =>
  zbd (f_X8_within (v2.toInt64) (1 : Int64) (40 : Int64) s9) fun r10 s11 =>
  if ¬ r10 = 0 then
  (zbd (f_X8_keeps s11) fun _ s12 =>
  zb (zs_i s12 76 29 v1) fun s13 =>
  f_X8_year_34 zFU v2 (0 : Int32) (0 : Int32) s13)
  else
  some ((-3 : Int32), s11)
set_option maxRecDepth 20000 in
theorem c_X8_year (Y : zG) (v1 : Int32) (v2 : Int32) (s : zS) : zM Y yX8_year cX8_year 6 (some .int) (zR 73 1807) [.ref (zy_a Y 76), .int v1, .int v2] s zrI (f_X8_year v1 v2 s) := by
  refine zm_start (by decide +kernel) (Nat.le_of_ble_eq_true rfl) ?_
  intro X hY hT hX
  subst hY
  have hX : zx_ok X cX8_year RX8 6 := hX
  show zV X (zq X zrI) 6 0 [(0, .ref (zx_ad X 76)), (1, .int v1), (2, .int v2)] [] s _
  unfold f_X8_year
  refine zv_aload_n hX dX8_year_0 0 rfl ?_
  refine zv_iconst (v := (0 : Int32)) hX dX8_year_1 zi_i_0 ?_
  refine zv_puti hX wf_X8_1 wc_8 wk_8_0 zd_76 zj_76_0 c9_8 zr_76_0 dX8_year_2 (fun s9 => ?_)
  refine zv_iload_n hX dX8_year_5 2 rfl ?_
  refine zv_i2l hX dX8_year_6 ?_
  refine zv_lconst (v := (1 : Int64)) hX dX8_year_7 zi_l_1 ?_
  refine zv_ldc2 hX wn_X8_371 dX8_year_8 ?_
  refine zv_cSI [.long (v2.toInt64), .long (1 : Int64), .long (40 : Int64)] (rest := []) hX hT.2.2.2.2 (c_X8_within (zx_Y X) (v2.toInt64) (1 : Int64) (40 : Int64) s9) wv_X8_within wm_X8_154 rfl (Nat.le_of_ble_eq_true rfl) (Nat.le_of_ble_eq_true rfl) rfl (Nat.le_of_ble_eq_true rfl) dX8_year_11 (fun r10 s11 => ?_)
  refine zv_if_ne (tgt := 20) hX dX8_year_14 rfl ?_ ?_
  · refine zv_aload_n hX dX8_year_20 0 rfl ?_
    refine zv_cVV [] (rest := []) hX hT.2.2.2.2 (c_X8_keeps (zx_Y X) s11) wv_X8_keeps c9_8 zd_76 wm_X8_307 rfl (Nat.le_of_ble_eq_true rfl) (Nat.le_of_ble_eq_true rfl) rfl (Nat.le_of_ble_eq_true rfl) dX8_year_21 (fun _ s12 => ?_)
    refine zv_aload_n hX dX8_year_24 0 rfl ?_
    refine zv_iload_n hX dX8_year_25 1 rfl ?_
    refine zv_puti hX wf_X8_365 wc_8 wk_8_29 zd_76 zj_76_29 c9_8 zr_76_29 dX8_year_26 (fun s13 => ?_)
    refine zv_iconst (v := (0 : Int32)) hX dX8_year_29 zi_i_0 ?_
    refine zv_istore_n (lv' := [(3, .int (0 : Int32)), (0, .ref (zx_ad X 76)), (1, .int v1), (2, .int v2)]) hX dX8_year_30 (by decide) rfl ?_
    refine zv_iconst (v := (0 : Int32)) hX dX8_year_31 zi_i_0 ?_
    refine zv_istore (lv' := [(4, .int (0 : Int32)), (3, .int (0 : Int32)), (0, .ref (zx_ad X 76)), (1, .int v1), (2, .int v2)]) hX dX8_year_32 (by decide) rfl ?_
    exact zv_sub [2, 4, 1, 0] rfl (b_X8_year_34 hX hT zFU v2 (0 : Int32) (0 : Int32) s13)
  · refine zv_bipush (v := (-3 : Int32)) hX dX8_year_17 zi_b_m3 ?_
    exact zv_ireti hX hT dX8_year_19
