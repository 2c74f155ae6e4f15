theorem dX8_drawn_0 : decode cX8_drawn 0 = .ok (.aload_n 0, 1) := by decide +kernel
theorem dX8_drawn_1 : decode cX8_drawn 1 = .ok (.bipush 6, 2) := by decide +kernel
theorem dX8_drawn_3 : decode cX8_drawn 3 = .ok (.invokevirtual 368, 3) := by decide +kernel
theorem dX8_drawn_6 : decode cX8_drawn 6 = .ok (.istore_n 1, 1) := by decide +kernel
theorem dX8_drawn_7 : decode cX8_drawn 7 = .ok (.aload_n 0, 1) := by decide +kernel
theorem dX8_drawn_8 : decode cX8_drawn 8 = .ok (.bipush 7, 2) := by decide +kernel
theorem dX8_drawn_10 : decode cX8_drawn 10 = .ok (.invokevirtual 368, 3) := by decide +kernel
theorem dX8_drawn_13 : decode cX8_drawn 13 = .ok (.istore_n 2, 1) := by decide +kernel
theorem dX8_drawn_14 : decode cX8_drawn 14 = .ok (.iload_n 1, 1) := by decide +kernel
theorem dX8_drawn_15 : decode cX8_drawn 15 = .ok (.iconst 3, 1) := by decide +kernel
theorem dX8_drawn_16 : decode cX8_drawn 16 = .ok (.if_icmp .ge 15, 3) := by decide +kernel
theorem dX8_drawn_19 : decode cX8_drawn 19 = .ok (.bipush 10, 2) := by decide +kernel
theorem dX8_drawn_21 : decode cX8_drawn 21 = .ok (.iload_n 2, 1) := by decide +kernel
theorem dX8_drawn_22 : decode cX8_drawn 22 = .ok (.imul, 1) := by decide +kernel
theorem dX8_drawn_23 : decode cX8_drawn 23 = .ok (.aload_n 0, 1) := by decide +kernel
theorem dX8_drawn_24 : decode cX8_drawn 24 = .ok (.bipush 7, 2) := by decide +kernel
theorem dX8_drawn_26 : decode cX8_drawn 26 = .ok (.invokevirtual 368, 3) := by decide +kernel
theorem dX8_drawn_29 : decode cX8_drawn 29 = .ok (.iadd, 1) := by decide +kernel
theorem dX8_drawn_30 : decode cX8_drawn 30 = .ok (.ireturn, 1) := by decide +kernel
theorem dX8_drawn_31 : decode cX8_drawn 31 = .ok (.iload_n 1, 1) := by decide +kernel
theorem dX8_drawn_32 : decode cX8_drawn 32 = .ok (.iconst 3, 1) := by decide +kernel
theorem dX8_drawn_33 : decode cX8_drawn 33 = .ok (.if_icmp .ne 10, 3) := by decide +kernel
theorem dX8_drawn_36 : decode cX8_drawn 36 = .ok (.bipush 100, 2) := by decide +kernel
theorem dX8_drawn_38 : decode cX8_drawn 38 = .ok (.iload_n 2, 1) := by decide +kernel
theorem dX8_drawn_39 : decode cX8_drawn 39 = .ok (.iadd, 1) := by decide +kernel
theorem dX8_drawn_40 : decode cX8_drawn 40 = .ok (.goto 41, 3) := by decide +kernel
theorem dX8_drawn_43 : decode cX8_drawn 43 = .ok (.iload_n 1, 1) := by decide +kernel
theorem dX8_drawn_44 : decode cX8_drawn 44 = .ok (.iconst 4, 1) := by decide +kernel
theorem dX8_drawn_45 : decode cX8_drawn 45 = .ok (.if_icmp .ne 21, 3) := by decide +kernel
theorem dX8_drawn_48 : decode cX8_drawn 48 = .ok (.sipush 200, 3) := by decide +kernel
theorem dX8_drawn_51 : decode cX8_drawn 51 = .ok (.bipush 10, 2) := by decide +kernel
theorem dX8_drawn_53 : decode cX8_drawn 53 = .ok (.iload_n 2, 1) := by decide +kernel
theorem dX8_drawn_54 : decode cX8_drawn 54 = .ok (.imul, 1) := by decide +kernel
theorem dX8_drawn_55 : decode cX8_drawn 55 = .ok (.iadd, 1) := by decide +kernel
theorem dX8_drawn_56 : decode cX8_drawn 56 = .ok (.aload_n 0, 1) := by decide +kernel
theorem dX8_drawn_57 : decode cX8_drawn 57 = .ok (.bipush 9, 2) := by decide +kernel
theorem dX8_drawn_59 : decode cX8_drawn 59 = .ok (.invokevirtual 368, 3) := by decide +kernel
theorem dX8_drawn_62 : decode cX8_drawn 62 = .ok (.iadd, 1) := by decide +kernel
theorem dX8_drawn_63 : decode cX8_drawn 63 = .ok (.goto 18, 3) := by decide +kernel
theorem dX8_drawn_66 : decode cX8_drawn 66 = .ok (.sipush 300, 3) := by decide +kernel
theorem dX8_drawn_69 : decode cX8_drawn 69 = .ok (.bipush 10, 2) := by decide +kernel
theorem dX8_drawn_71 : decode cX8_drawn 71 = .ok (.iload_n 2, 1) := by decide +kernel
theorem dX8_drawn_72 : decode cX8_drawn 72 = .ok (.imul, 1) := by decide +kernel
theorem dX8_drawn_73 : decode cX8_drawn 73 = .ok (.iadd, 1) := by decide +kernel
theorem dX8_drawn_74 : decode cX8_drawn 74 = .ok (.aload_n 0, 1) := by decide +kernel
theorem dX8_drawn_75 : decode cX8_drawn 75 = .ok (.bipush 10, 2) := by decide +kernel
theorem dX8_drawn_77 : decode cX8_drawn 77 = .ok (.invokevirtual 368, 3) := by decide +kernel
theorem dX8_drawn_80 : decode cX8_drawn 80 = .ok (.iadd, 1) := by decide +kernel
theorem dX8_drawn_81 : decode cX8_drawn 81 = .ok (.ireturn, 1) := by decide +kernel
def f_X8_drawn_81 (w0 : Int32) (s : zS) : Option (Int32 × zS) :=
  some (w0, s)
set_option maxRecDepth 20000 in
theorem b_X8_drawn_81 {X : zX} (hX : zx_ok X cX8_drawn RX8 3) (hT : zx_rt X (some .int) (zR 1 21)) : ∀ (w0 : Int32) (s : zS), zV X (zq X zrI) 3 81 [] [.int w0] s (f_X8_drawn_81 w0 s) := by
  intro w0 s
  unfold f_X8_drawn_81
  exact zv_ireti hX hT dX8_drawn_81
def f_X8_drawn  (s : zS) : Option (Int32 × zS) :=
  zbd (f_X8_draw (nI 6) s) fun r1 s2 =>
  zbd (f_X8_draw (nI 7) s2) fun r3 s4 =>
  if (nI 3) ≤ r1 then
  (if ¬ r1 = (nI 3) then
  (if ¬ r1 = (nI 4) then
  (zbd (f_X8_draw (nI 10) s4) fun r5 s6 =>
  f_X8_drawn_81 (((nI 300) + ((nI 10) * r3)) + r5) s6)
  else
  zbd (f_X8_draw (nI 9) s4) fun r7 s8 =>
  f_X8_drawn_81 (((nI 200) + ((nI 10) * r3)) + r7) s8)
  else
  f_X8_drawn_81 ((nI 100) + r3) s4)
  else
  zbd (f_X8_draw (nI 7) s4) fun r9 s10 =>
  some (((nI 10) * r3) + r9, s10)
set_option maxRecDepth 20000 in
theorem c_X8_drawn (Y : zG)  (s : zS) : zM Y yX8_drawn cX8_drawn 3 (some .int) (zR 1 21) [.ref (zy_a Y 76)] s zrI (f_X8_drawn  s) := by
  refine zm_start (by decide +kernel) (Nat.le_of_ble_eq_true rfl) ?_
  intro X hY hT hX
  subst hY
  have hX : zx_ok X cX8_drawn RX8 3 := hX
  show zV X (zq X zrI) 3 0 [(0, .ref (zx_ad X 76))] [] s _
  unfold f_X8_drawn
  refine zv_aload_n hX dX8_drawn_0 0 rfl ?_
  refine zv_bipush (v := (nI 6)) hX dX8_drawn_1 zi_b_6 ?_
  refine zv_cVI [.int (nI 6)] (rest := []) hX hT.2.2.2.2 (c_X8_draw (zx_Y X) (nI 6) s) wv_X8_draw c9_8 zd_76 wm_X8_368 rfl (Nat.le_of_ble_eq_true rfl) (Nat.le_of_ble_eq_true rfl) rfl (Nat.le_of_ble_eq_true rfl) dX8_drawn_3 (fun r1 s2 => ?_)
  refine zv_istore_n (lv' := [(1, .int r1), (0, .ref (zx_ad X 76))]) hX dX8_drawn_6 (by decide) rfl ?_
  refine zv_aload_n hX dX8_drawn_7 1 rfl ?_
  refine zv_bipush (v := (nI 7)) hX dX8_drawn_8 zi_b_7 ?_
  refine zv_cVI [.int (nI 7)] (rest := []) hX hT.2.2.2.2 (c_X8_draw (zx_Y X) (nI 7) s2) wv_X8_draw c9_8 zd_76 wm_X8_368 rfl (Nat.le_of_ble_eq_true rfl) (Nat.le_of_ble_eq_true rfl) rfl (Nat.le_of_ble_eq_true rfl) dX8_drawn_10 (fun r3 s4 => ?_)
  refine zv_istore_n (lv' := [(2, .int r3), (1, .int r1), (0, .ref (zx_ad X 76))]) hX dX8_drawn_13 (by decide) rfl ?_
  refine zv_iload_n hX dX8_drawn_14 1 rfl ?_
  refine zv_iconst (v := (nI 3)) hX dX8_drawn_15 zi_i_3 ?_
  refine zv_icmp_ge (tgt := 31) hX dX8_drawn_16 rfl ?_ ?_
  · refine zv_iload_n hX dX8_drawn_31 1 rfl ?_
    refine zv_iconst (v := (nI 3)) hX dX8_drawn_32 zi_i_3 ?_
    refine zv_icmp_ne (tgt := 43) hX dX8_drawn_33 rfl ?_ ?_
    · refine zv_iload_n hX dX8_drawn_43 1 rfl ?_
      refine zv_iconst (v := (nI 4)) hX dX8_drawn_44 zi_i_4 ?_
      refine zv_icmp_ne (tgt := 66) hX dX8_drawn_45 rfl ?_ ?_
      · refine zv_sipush (v := (nI 300)) hX dX8_drawn_66 zi_s_300 ?_
        refine zv_bipush (v := (nI 10)) hX dX8_drawn_69 zi_b_10 ?_
        refine zv_iload_n hX dX8_drawn_71 0 rfl ?_
        refine zv_imul hX dX8_drawn_72 ?_
        refine zv_iadd hX dX8_drawn_73 ?_
        refine zv_aload_n hX dX8_drawn_74 2 rfl ?_
        refine zv_bipush (v := (nI 10)) hX dX8_drawn_75 zi_b_10 ?_
        refine zv_cVI [.int (nI 10)] (rest := [.int ((nI 300) + ((nI 10) * r3))]) hX hT.2.2.2.2 (c_X8_draw (zx_Y X) (nI 10) s4) wv_X8_draw c9_8 zd_76 wm_X8_368 rfl (Nat.le_of_ble_eq_true rfl) (Nat.le_of_ble_eq_true rfl) rfl (Nat.le_of_ble_eq_true rfl) dX8_drawn_77 (fun r5 s6 => ?_)
        refine zv_iadd hX dX8_drawn_80 ?_
        exact zv_sub [] rfl (b_X8_drawn_81 hX hT (((nI 300) + ((nI 10) * r3)) + r5) s6)
      · refine zv_sipush (v := (nI 200)) hX dX8_drawn_48 zi_s_200 ?_
        refine zv_bipush (v := (nI 10)) hX dX8_drawn_51 zi_b_10 ?_
        refine zv_iload_n hX dX8_drawn_53 0 rfl ?_
        refine zv_imul hX dX8_drawn_54 ?_
        refine zv_iadd hX dX8_drawn_55 ?_
        refine zv_aload_n hX dX8_drawn_56 2 rfl ?_
        refine zv_bipush (v := (nI 9)) hX dX8_drawn_57 zi_b_9 ?_
        refine zv_cVI [.int (nI 9)] (rest := [.int ((nI 200) + ((nI 10) * r3))]) hX hT.2.2.2.2 (c_X8_draw (zx_Y X) (nI 9) s4) wv_X8_draw c9_8 zd_76 wm_X8_368 rfl (Nat.le_of_ble_eq_true rfl) (Nat.le_of_ble_eq_true rfl) rfl (Nat.le_of_ble_eq_true rfl) dX8_drawn_59 (fun r7 s8 => ?_)
        refine zv_iadd hX dX8_drawn_62 ?_
        refine zv_goto (tgt := 81) hX dX8_drawn_63 rfl ?_
        exact zv_sub [] rfl (b_X8_drawn_81 hX hT (((nI 200) + ((nI 10) * r3)) + r7) s8)
    · refine zv_bipush (v := (nI 100)) hX dX8_drawn_36 zi_b_100 ?_
      refine zv_iload_n hX dX8_drawn_38 0 rfl ?_
      refine zv_iadd hX dX8_drawn_39 ?_
      refine zv_goto (tgt := 81) hX dX8_drawn_40 rfl ?_
      exact zv_sub [] rfl (b_X8_drawn_81 hX hT ((nI 100) + r3) s4)
  · refine zv_bipush (v := (nI 10)) hX dX8_drawn_19 zi_b_10 ?_
    refine zv_iload_n hX dX8_drawn_21 0 rfl ?_
    refine zv_imul hX dX8_drawn_22 ?_
    refine zv_aload_n hX dX8_drawn_23 2 rfl ?_
    refine zv_bipush (v := (nI 7)) hX dX8_drawn_24 zi_b_7 ?_
    refine zv_cVI [.int (nI 7)] (rest := [.int ((nI 10) * r3)]) hX hT.2.2.2.2 (c_X8_draw (zx_Y X) (nI 7) s4) wv_X8_draw c9_8 zd_76 wm_X8_368 rfl (Nat.le_of_ble_eq_true rfl) (Nat.le_of_ble_eq_true rfl) rfl (Nat.le_of_ble_eq_true rfl) dX8_drawn_26 (fun r9 s10 => ?_)
    refine zv_iadd hX dX8_drawn_29 ?_
    exact zv_ireti hX hT dX8_drawn_30
theorem dX8_eachTwo_0 : decode cX8_eachTwo 0 = .ok (.iconst 0, 1) := by decide +kernel
theorem dX8_eachTwo_1 : decode cX8_eachTwo 1 = .ok (.istore_n 2, 1) := by decide +kernel
theorem dX8_eachTwo_2 : decode cX8_eachTwo 2 = .ok (.iload_n 2, 1) := by decide +kernel
theorem dX8_eachTwo_3 : decode cX8_eachTwo 3 = .ok (.aload_n 0, 1) := by decide +kernel
theorem dX8_eachTwo_4 : decode cX8_eachTwo 4 = .ok (.getfield 13, 3) := by decide +kernel
theorem dX8_eachTwo_7 : decode cX8_eachTwo 7 = .ok (.iconst 1, 1) := by decide +kernel
theorem dX8_eachTwo_8 : decode cX8_eachTwo 8 = .ok (.iaload, 1) := by decide +kernel
theorem dX8_eachTwo_9 : decode cX8_eachTwo 9 = .ok (.if_icmp .ge 57, 3) := by decide +kernel
theorem dX8_eachTwo_12 : decode cX8_eachTwo 12 = .ok (.iconst 0, 1) := by decide +kernel
theorem dX8_eachTwo_13 : decode cX8_eachTwo 13 = .ok (.istore_n 3, 1) := by decide +kernel
theorem dX8_eachTwo_14 : decode cX8_eachTwo 14 = .ok (.iload_n 3, 1) := by decide +kernel
theorem dX8_eachTwo_15 : decode cX8_eachTwo 15 = .ok (.iload_n 2, 1) := by decide +kernel
theorem dX8_eachTwo_16 : decode cX8_eachTwo 16 = .ok (.if_icmp .ge 44, 3) := by decide +kernel
theorem dX8_eachTwo_19 : decode cX8_eachTwo 19 = .ok (.iload_n 1, 1) := by decide +kernel
theorem dX8_eachTwo_20 : decode cX8_eachTwo 20 = .ok (.i2l, 1) := by decide +kernel
theorem dX8_eachTwo_21 : decode cX8_eachTwo 21 = .ok (.iload_n 2, 1) := by decide +kernel
theorem dX8_eachTwo_22 : decode cX8_eachTwo 22 = .ok (.invokestatic 223, 3) := by decide +kernel
theorem dX8_eachTwo_25 : decode cX8_eachTwo 25 = .ok (.ifCond .eq 29, 3) := by decide +kernel
theorem dX8_eachTwo_28 : decode cX8_eachTwo 28 = .ok (.iload_n 1, 1) := by decide +kernel
theorem dX8_eachTwo_29 : decode cX8_eachTwo 29 = .ok (.i2l, 1) := by decide +kernel
theorem dX8_eachTwo_30 : decode cX8_eachTwo 30 = .ok (.iload_n 3, 1) := by decide +kernel
theorem dX8_eachTwo_31 : decode cX8_eachTwo 31 = .ok (.invokestatic 223, 3) := by decide +kernel
theorem dX8_eachTwo_34 : decode cX8_eachTwo 34 = .ok (.ifCond .eq 20, 3) := by decide +kernel
theorem dX8_eachTwo_37 : decode cX8_eachTwo 37 = .ok (.aload_n 0, 1) := by decide +kernel
theorem dX8_eachTwo_38 : decode cX8_eachTwo 38 = .ok (.getfield 69, 3) := by decide +kernel
theorem dX8_eachTwo_41 : decode cX8_eachTwo 41 = .ok (.iconst 1, 1) := by decide +kernel
theorem dX8_eachTwo_42 : decode cX8_eachTwo 42 = .ok (.iload_n 2, 1) := by decide +kernel
theorem dX8_eachTwo_43 : decode cX8_eachTwo 43 = .ok (.ishl, 1) := by decide +kernel
theorem dX8_eachTwo_44 : decode cX8_eachTwo 44 = .ok (.iconst 1, 1) := by decide +kernel
theorem dX8_eachTwo_45 : decode cX8_eachTwo 45 = .ok (.iload_n 3, 1) := by decide +kernel
theorem dX8_eachTwo_46 : decode cX8_eachTwo 46 = .ok (.ishl, 1) := by decide +kernel
theorem dX8_eachTwo_47 : decode cX8_eachTwo 47 = .ok (.ior, 1) := by decide +kernel
theorem dX8_eachTwo_48 : decode cX8_eachTwo 48 = .ok (.baload, 1) := by decide +kernel
theorem dX8_eachTwo_49 : decode cX8_eachTwo 49 = .ok (.ifCond .ne 5, 3) := by decide +kernel
theorem dX8_eachTwo_52 : decode cX8_eachTwo 52 = .ok (.iconst 0, 1) := by decide +kernel
theorem dX8_eachTwo_53 : decode cX8_eachTwo 53 = .ok (.ireturn, 1) := by decide +kernel
theorem dX8_eachTwo_54 : decode cX8_eachTwo 54 = .ok (.iinc 3 1, 3) := by decide +kernel
theorem dX8_eachTwo_57 : decode cX8_eachTwo 57 = .ok (.goto (-43), 3) := by decide +kernel
theorem dX8_eachTwo_60 : decode cX8_eachTwo 60 = .ok (.iinc 2 1, 3) := by decide +kernel
theorem dX8_eachTwo_63 : decode cX8_eachTwo 63 = .ok (.goto (-61), 3) := by decide +kernel
theorem dX8_eachTwo_66 : decode cX8_eachTwo 66 = .ok (.iconst 1, 1) := by decide +kernel
theorem dX8_eachTwo_67 : decode cX8_eachTwo 67 = .ok (.ireturn, 1) := by decide +kernel
def f_X8_eachTwo_54 (kb_2 : Int32 → Int32 → zS → Option (Int32 × zS)) (kb_14 : Int32 → Int32 → Int32 → zS → Option (Int32 × zS)) (v1 : Int32) (v2 : Int32) (v3 : Int32) (s : zS) : Option (Int32 × zS) :=
  zb (v3 + (1 : Int32)) fun x1 =>
  kb_14 v1 v2 x1 s
set_option maxRecDepth 20000 in
theorem b_X8_eachTwo_54 {X : zX} {kb_2 : Int32 → Int32 → zS → Option (Int32 × zS)} {kb_14 : Int32 → Int32 → Int32 → zS → Option (Int32 × zS)} (hX : zx_ok X cX8_eachTwo RX8 4) (hT : zx_rt X (some .boolean) (zR 1 22)) (hk_2 : ∀ (v1 : Int32) (v2 : Int32) (s : zS), zV X (zq X zrI) 4 2 [(0, .ref (zx_ad X 76)), (1, .int v1), (2, .int v2)] [] s (kb_2 v1 v2 s)) (hk_14 : ∀ (v1 : Int32) (v2 : Int32) (v3 : Int32) (s : zS), zV X (zq X zrI) 4 14 [(0, .ref (zx_ad X 76)), (1, .int v1), (2, .int v2), (3, .int v3)] [] s (kb_14 v1 v2 v3 s)) : ∀ (v1 : Int32) (v2 : Int32) (v3 : Int32) (s : zS), zV X (zq X zrI) 4 54 [(0, .ref (zx_ad X 76)), (1, .int v1), (2, .int v2), (3, .int v3)] [] s (f_X8_eachTwo_54 kb_2 kb_14 v1 v2 v3 s) := by
  intro v1 v2 v3 s
  unfold f_X8_eachTwo_54
  refine zv_iincB (lw := fun x1 => [(3, .int x1), (0, .ref (zx_ad X 76)), (1, .int v1), (2, .int v2)]) hX dX8_eachTwo_54 3 rfl zi_i_1 (by decide) (fun _ => rfl) (fun x1 => ?_)
  refine zv_goto (tgt := 14) hX dX8_eachTwo_57 rfl ?_
  exact zv_sub [1, 2, 3, 0] rfl (hk_14 v1 v2 x1 s)
def f_X8_eachTwo_14 (kb_2 : Int32 → Int32 → zS → Option (Int32 × zS)) : Nat → Int32 → Int32 → Int32 → zS → Option (Int32 × zS)
  | 0, _, _, _, _ => none
  | n + 1, v1, v2, v3, s =>
    if v2 ≤ v3 then
    (zb (v2 + (1 : Int32)) fun x2 =>
    kb_2 v1 x2 s)
    else
    zbd (f_X8_isIn (v1.toInt64) v2 s) fun r3 s4 =>
    if r3 = 0 then
    (f_X8_eachTwo_54 kb_2 (f_X8_eachTwo_14 kb_2 n) v1 v2 v3 s4)
    else
    zbd (f_X8_isIn (v1.toInt64) v3 s4) fun r5 s6 =>
    if r5 = 0 then
    (f_X8_eachTwo_54 kb_2 (f_X8_eachTwo_14 kb_2 n) v1 v2 v3 s6)
    else
    (zr_b s6 94 ((zo_shl (1 : Int32) v2) ||| (zo_shl (1 : Int32) v3))).bind fun x7 =>
    if ¬ x7 = 0 then
    (f_X8_eachTwo_54 kb_2 (f_X8_eachTwo_14 kb_2 n) v1 v2 v3 s6)
    else
    some ((0 : Int32), s6)
set_option maxRecDepth 20000 in
theorem b_X8_eachTwo_14 {X : zX} {kb_2 : Int32 → Int32 → zS → Option (Int32 × zS)} (hX : zx_ok X cX8_eachTwo RX8 4) (hT : zx_rt X (some .boolean) (zR 1 22)) (hk_2 : ∀ (v1 : Int32) (v2 : Int32) (s : zS), zV X (zq X zrI) 4 2 [(0, .ref (zx_ad X 76)), (1, .int v1), (2, .int v2)] [] s (kb_2 v1 v2 s)) : ∀ (n : Nat) (v1 : Int32) (v2 : Int32) (v3 : Int32) (s : zS), zV X (zq X zrI) 4 14 [(0, .ref (zx_ad X 76)), (1, .int v1), (2, .int v2), (3, .int v3)] [] s (f_X8_eachTwo_14 kb_2 n v1 v2 v3 s) := by
  intro n
  induction n with
  | zero => intro v1 v2 v3 s; exact zv_none
  | succ n ih =>
    intro v1 v2 v3 s
    rw [f_X8_eachTwo_14]
    refine zv_iload_n hX dX8_eachTwo_14 3 rfl ?_
    refine zv_iload_n hX dX8_eachTwo_15 2 rfl ?_
    refine zv_icmp_ge (tgt := 60) hX dX8_eachTwo_16 rfl ?_ ?_
    · refine zv_iincB (lw := fun x2 => [(2, .int x2), (0, .ref (zx_ad X 76)), (1, .int v1), (3, .int v3)]) hX dX8_eachTwo_60 2 rfl zi_i_1 (by decide) (fun _ => rfl) (fun x2 => ?_)
      refine zv_goto (tgt := 2) hX dX8_eachTwo_63 rfl ?_
      exact zv_sub [1, 2, 0] rfl (hk_2 v1 x2 s)
    · refine zv_iload_n hX dX8_eachTwo_19 1 rfl ?_
      refine zv_i2l hX dX8_eachTwo_20 ?_
      refine zv_iload_n hX dX8_eachTwo_21 2 rfl ?_
      refine zv_cSI [.long (v1.toInt64), .int v2] (rest := []) hX hT.2.2.2.2 (c_X8_isIn (zx_Y X) (v1.toInt64) v2 s) wv_X8_isIn wm_X8_223 rfl (Nat.le_of_ble_eq_true rfl) (Nat.le_of_ble_eq_true rfl) rfl (Nat.le_of_ble_eq_true rfl) dX8_eachTwo_22 (fun r3 s4 => ?_)
      refine zv_if_eq (tgt := 54) hX dX8_eachTwo_25 rfl ?_ ?_
      · exact b_X8_eachTwo_54 hX hT hk_2 ih v1 v2 v3 s4
      · refine zv_iload_n hX dX8_eachTwo_28 1 rfl ?_
        refine zv_i2l hX dX8_eachTwo_29 ?_
        refine zv_iload_n hX dX8_eachTwo_30 3 rfl ?_
        refine zv_cSI [.long (v1.toInt64), .int v3] (rest := []) hX hT.2.2.2.2 (c_X8_isIn (zx_Y X) (v1.toInt64) v3 s4) wv_X8_isIn wm_X8_223 rfl (Nat.le_of_ble_eq_true rfl) (Nat.le_of_ble_eq_true rfl) rfl (Nat.le_of_ble_eq_true rfl) dX8_eachTwo_31 (fun r5 s6 => ?_)
        refine zv_if_eq (tgt := 54) hX dX8_eachTwo_34 rfl ?_ ?_
        · exact b_X8_eachTwo_54 hX hT hk_2 ih v1 v2 v3 s6
        · refine zv_aload_n hX dX8_eachTwo_37 0 rfl ?_
          refine zv_geta hX wf_X8_69 wc_8 zd_76 zj_76_35 c9_8 zr_76_35 (by decide) dX8_eachTwo_38 ?_
          refine zv_iconst (v := (1 : Int32)) hX dX8_eachTwo_41 zi_i_1 ?_
          refine zv_iload_n hX dX8_eachTwo_42 2 rfl ?_
          refine zv_ishl hX dX8_eachTwo_43 ?_
          refine zv_iconst (v := (1 : Int32)) hX dX8_eachTwo_44 zi_i_1 ?_
          refine zv_iload_n hX dX8_eachTwo_45 3 rfl ?_
          refine zv_ishl hX dX8_eachTwo_46 ?_
          refine zv_ior hX dX8_eachTwo_47 ?_
          refine zv_bald hX dX8_eachTwo_48 (fun x7 => ?_)
          refine zv_if_ne (tgt := 54) hX dX8_eachTwo_49 rfl ?_ ?_
          · exact b_X8_eachTwo_54 hX hT hk_2 ih v1 v2 v3 s6
          · refine zv_iconst (v := (0 : Int32)) hX dX8_eachTwo_52 zi_i_0 ?_
            exact zv_iretz hX hT (by decide) dX8_eachTwo_53
def f_X8_eachTwo_2 : Nat → Int32 → Int32 → zS → Option (Int32 × zS)
  | 0, _, _, _ => none
  | n + 1, v1, v2, s =>
    (zr_i s 77 (1 : Int32)).bind fun x8 =>
    if x8 ≤ v2 then
    (some ((1 : Int32), s))
    else
    f_X8_eachTwo_14 (f_X8_eachTwo_2 n) zFU v1 v2 (0 : Int32) s
set_option maxRecDepth 20000 in
theorem b_X8_eachTwo_2 {X : zX} (hX : zx_ok X cX8_eachTwo RX8 4) (hT : zx_rt X (some .boolean) (zR 1 22)) : ∀ (n : Nat) (v1 : Int32) (v2 : Int32) (s : zS), zV X (zq X zrI) 4 2 [(0, .ref (zx_ad X 76)), (1, .int v1), (2, .int v2)] [] s (f_X8_eachTwo_2 n v1 v2 s) := by
  intro n
  induction n with
  | zero => intro v1 v2 s; exact zv_none
  | succ n ih =>
    intro v1 v2 s
    rw [f_X8_eachTwo_2]
    refine zv_iload_n hX dX8_eachTwo_2 2 rfl ?_
    refine zv_aload_n hX dX8_eachTwo_3 0 rfl ?_
    refine zv_geta hX wf_X8_13 wc_8 zd_76 zj_76_1 c9_8 zr_76_1 (by decide) dX8_eachTwo_4 ?_
    refine zv_iconst (v := (1 : Int32)) hX dX8_eachTwo_7 zi_i_1 ?_
    refine zv_iald hX dX8_eachTwo_8 (fun x8 => ?_)
    refine zv_icmp_ge (tgt := 66) hX dX8_eachTwo_9 rfl ?_ ?_
    · refine zv_iconst (v := (1 : Int32)) hX dX8_eachTwo_66 zi_i_1 ?_
      exact zv_iretz hX hT (by decide) dX8_eachTwo_67
    · refine zv_iconst (v := (0 : Int32)) hX dX8_eachTwo_12 zi_i_0 ?_
      refine zv_istore_n (lv' := [(3, .int (0 : Int32)), (0, .ref (zx_ad X 76)), (1, .int v1), (2, .int v2)]) hX dX8_eachTwo_13 (by decide) rfl ?_
      exact zv_sub [1, 2, 3, 0] rfl (b_X8_eachTwo_14 hX hT ih zFU v1 v2 (0 : Int32) s)
def f_X8_eachTwo (v1 : Int32) (s : zS) : Option (Int32 × zS) :=
  f_X8_eachTwo_2 zFU v1 (0 : Int32) s
set_option maxRecDepth 20000 in
theorem c_X8_eachTwo (Y : zG) (v1 : Int32) (s : zS) : zM Y yX8_eachTwo cX8_eachTwo 4 (some .boolean) (zR 1 22) [.ref (zy_a Y 76), .int v1] s zrI (f_X8_eachTwo v1 s) := by
  refine zm_start (by decide +kernel) (Nat.le_of_ble_eq_true rfl) ?_
  intro X hY hT hX
  subst hY
  have hX : zx_ok X cX8_eachTwo RX8 4 := hX
  show zV X (zq X zrI) 4 0 [(0, .ref (zx_ad X 76)), (1, .int v1)] [] s _
  unfold f_X8_eachTwo
  refine zv_iconst (v := (0 : Int32)) hX dX8_eachTwo_0 zi_i_0 ?_
  refine zv_istore_n (lv' := [(2, .int (0 : Int32)), (0, .ref (zx_ad X 76)), (1, .int v1)]) hX dX8_eachTwo_1 (by decide) rfl ?_
  exact zv_sub [1, 2, 0] rfl (b_X8_eachTwo_2 hX hT zFU v1 (0 : Int32) s)
theorem dX8_is_0 : decode cX8_is 0 = .ok (.aload_n 0, 1) := by decide +kernel
theorem dX8_is_1 : decode cX8_is 1 = .ok (.getfield 138, 3) := by decide +kernel
theorem dX8_is_4 : decode cX8_is 4 = .ok (.ifCond .ne 15, 3) := by decide +kernel
theorem dX8_is_7 : decode cX8_is 7 = .ok (.aload_n 0, 1) := by decide +kernel
theorem dX8_is_8 : decode cX8_is 8 = .ok (.getfield 120, 3) := by decide +kernel
theorem dX8_is_11 : decode cX8_is 11 = .ok (.iload_n 1, 1) := by decide +kernel
theorem dX8_is_12 : decode cX8_is 12 = .ok (.if_icmp .ne 7, 3) := by decide +kernel
theorem dX8_is_15 : decode cX8_is 15 = .ok (.iconst 1, 1) := by decide +kernel
theorem dX8_is_16 : decode cX8_is 16 = .ok (.goto 4, 3) := by decide +kernel
theorem dX8_is_19 : decode cX8_is 19 = .ok (.iconst 0, 1) := by decide +kernel
theorem dX8_is_20 : decode cX8_is 20 = .ok (.ireturn, 1) := by decide +kernel
def f_X8_is_20 (w0 : Int32) (s : zS) : Option (Int32 × zS) :=
  if w0 = 0 ∨ w0 = 1 then some (w0, s) else none
set_option maxRecDepth 20000 in
theorem b_X8_is_20 {X : zX} (hX : zx_ok X cX8_is RX8 2) (hT : zx_rt X (some .boolean) (zR 0 0)) : ∀ (w0 : Int32) (s : zS), zV X (zq X zrI) 2 20 [] [.int w0] s (f_X8_is_20 w0 s) := by
  intro w0 s
  unfold f_X8_is_20
  exact zv_iretzB hX hT dX8_is_20
def f_X8_is_19  (s : zS) : Option (Int32 × zS) :=
  f_X8_is_20 (0 : Int32) s
set_option maxRecDepth 20000 in
theorem b_X8_is_19 {X : zX} (hX : zx_ok X cX8_is RX8 2) (hT : zx_rt X (some .boolean) (zR 0 0)) : ∀  (s : zS), zV X (zq X zrI) 2 19 [] [] s (f_X8_is_19  s) := by
  intro  s
  unfold f_X8_is_19
  refine zv_iconst (v := (0 : Int32)) hX dX8_is_19 zi_i_0 ?_
  exact b_X8_is_20 hX hT (0 : Int32) s
def f_X8_is (v1 : Int32) (s : zS) : Option (Int32 × zS) :=
  if ¬ (s.1 76 11) = 0 then
  (f_X8_is_19 s)
  else
  if ¬ (s.1 76 9) = v1 then
  (f_X8_is_19 s)
  else
  f_X8_is_20 (1 : Int32) s
set_option maxRecDepth 20000 in
theorem c_X8_is (Y : zG) (v1 : Int32) (s : zS) : zM Y yX8_is cX8_is 2 (some .boolean) (zR 0 0) [.ref (zy_a Y 76), .int v1] s zrI (f_X8_is v1 s) := by
  refine zm_start (by decide +kernel) (Nat.le_of_ble_eq_true rfl) ?_
  intro X hY hT hX
  subst hY
  have hX : zx_ok X cX8_is RX8 2 := hX
  show zV X (zq X zrI) 2 0 [(0, .ref (zx_ad X 76)), (1, .int v1)] [] s _
  unfold f_X8_is
  refine zv_aload_n hX dX8_is_0 0 rfl ?_
  refine zv_geti hX wf_X8_138 wc_8 zd_76 zj_76_11 c9_8 zr_76_11 dX8_is_1 ?_
  refine zv_if_ne (tgt := 19) hX dX8_is_4 rfl ?_ ?_
  · exact zv_sub [] rfl (b_X8_is_19 hX hT  s)
  · refine zv_aload_n hX dX8_is_7 0 rfl ?_
    refine zv_geti hX wf_X8_120 wc_8 zd_76 zj_76_9 c9_8 zr_76_9 dX8_is_8 ?_
    refine zv_iload_n hX dX8_is_11 1 rfl ?_
    refine zv_icmp_ne (tgt := 19) hX dX8_is_12 rfl ?_ ?_
    · exact zv_sub [] rfl (b_X8_is_19 hX hT  s)
    · refine zv_iconst (v := (1 : Int32)) hX dX8_is_15 zi_i_1 ?_
      refine zv_goto (tgt := 20) hX dX8_is_16 rfl ?_
      exact zv_sub [] rfl (b_X8_is_20 hX hT (1 : Int32) s)
theorem dX8_isDigit_0 : decode cX8_isDigit 0 = .ok (.iload_n 0, 1) := by decide +kernel
theorem dX8_isDigit_1 : decode cX8_isDigit 1 = .ok (.bipush 48, 2) := by decide +kernel
theorem dX8_isDigit_3 : decode cX8_isDigit 3 = .ok (.if_icmp .lt 13, 3) := by decide +kernel
theorem dX8_isDigit_6 : decode cX8_isDigit 6 = .ok (.iload_n 0, 1) := by decide +kernel
theorem dX8_isDigit_7 : decode cX8_isDigit 7 = .ok (.bipush 57, 2) := by decide +kernel
theorem dX8_isDigit_9 : decode cX8_isDigit 9 = .ok (.if_icmp .gt 7, 3) := by decide +kernel
theorem dX8_isDigit_12 : decode cX8_isDigit 12 = .ok (.iconst 1, 1) := by decide +kernel
theorem dX8_isDigit_13 : decode cX8_isDigit 13 = .ok (.goto 4, 3) := by decide +kernel
theorem dX8_isDigit_16 : decode cX8_isDigit 16 = .ok (.iconst 0, 1) := by decide +kernel
theorem dX8_isDigit_17 : decode cX8_isDigit 17 = .ok (.ireturn, 1) := by decide +kernel
def f_X8_isDigit_17 (w0 : Int32) (s : zS) : Option (Int32 × zS) :=
  if w0 = 0 ∨ w0 = 1 then some (w0, s) else none
set_option maxRecDepth 20000 in
theorem b_X8_isDigit_17 {X : zX} (hX : zx_ok X cX8_isDigit RX8 1) (hT : zx_rt X (some .boolean) (zR 0 0)) : ∀ (w0 : Int32) (s : zS), zV X (zq X zrI) 1 17 [] [.int w0] s (f_X8_isDigit_17 w0 s) := by
  intro w0 s
  unfold f_X8_isDigit_17
  exact zv_iretzB hX hT dX8_isDigit_17
def f_X8_isDigit_16  (s : zS) : Option (Int32 × zS) :=
  f_X8_isDigit_17 (0 : Int32) s
set_option maxRecDepth 20000 in
theorem b_X8_isDigit_16 {X : zX} (hX : zx_ok X cX8_isDigit RX8 1) (hT : zx_rt X (some .boolean) (zR 0 0)) : ∀  (s : zS), zV X (zq X zrI) 1 16 [] [] s (f_X8_isDigit_16  s) := by
  intro  s
  unfold f_X8_isDigit_16
  refine zv_iconst (v := (0 : Int32)) hX dX8_isDigit_16 zi_i_0 ?_
  exact b_X8_isDigit_17 hX hT (0 : Int32) s
def f_X8_isDigit (v0 : Int32) (s : zS) : Option (Int32 × zS) :=
  if v0 < (nI 48) then
  (f_X8_isDigit_16 s)
  else
  if (nI 57) < v0 then
  (f_X8_isDigit_16 s)
  else
  f_X8_isDigit_17 (1 : Int32) s
set_option maxRecDepth 20000 in
theorem c_X8_isDigit (Y : zG) (v0 : Int32) (s : zS) : zM Y yX8_isDigit cX8_isDigit 1 (some .boolean) (zR 0 0) [.int v0] s zrI (f_X8_isDigit v0 s) := by
  refine zm_start (by decide +kernel) (Nat.le_of_ble_eq_true rfl) ?_
  intro X hY hT hX
  subst hY
  have hX : zx_ok X cX8_isDigit RX8 1 := hX
  show zV X (zq X zrI) 1 0 [(0, .int v0)] [] s _
  unfold f_X8_isDigit
  refine zv_iload_n hX dX8_isDigit_0 0 rfl ?_
  refine zv_bipush (v := (nI 48)) hX dX8_isDigit_1 zi_b_48 ?_
  refine zv_icmp_lt (tgt := 16) hX dX8_isDigit_3 rfl ?_ ?_
  · exact zv_sub [] rfl (b_X8_isDigit_16 hX hT  s)
  · refine zv_iload_n hX dX8_isDigit_6 0 rfl ?_
    refine zv_bipush (v := (nI 57)) hX dX8_isDigit_7 zi_b_57 ?_
    refine zv_icmp_gt (tgt := 16) hX dX8_isDigit_9 rfl ?_ ?_
    · exact zv_sub [] rfl (b_X8_isDigit_16 hX hT  s)
    · refine zv_iconst (v := (1 : Int32)) hX dX8_isDigit_12 zi_i_1 ?_
      refine zv_goto (tgt := 17) hX dX8_isDigit_13 rfl ?_
      exact zv_sub [] rfl (b_X8_isDigit_17 hX hT (1 : Int32) s)
theorem dX8_isSmall_0 : decode cX8_isSmall 0 = .ok (.iload_n 0, 1) := by decide +kernel
theorem dX8_isSmall_1 : decode cX8_isSmall 1 = .ok (.bipush 97, 2) := by decide +kernel
theorem dX8_isSmall_3 : decode cX8_isSmall 3 = .ok (.if_icmp .lt 13, 3) := by decide +kernel
theorem dX8_isSmall_6 : decode cX8_isSmall 6 = .ok (.iload_n 0, 1) := by decide +kernel
theorem dX8_isSmall_7 : decode cX8_isSmall 7 = .ok (.bipush 122, 2) := by decide +kernel
theorem dX8_isSmall_9 : decode cX8_isSmall 9 = .ok (.if_icmp .gt 7, 3) := by decide +kernel
theorem dX8_isSmall_12 : decode cX8_isSmall 12 = .ok (.iconst 1, 1) := by decide +kernel
theorem dX8_isSmall_13 : decode cX8_isSmall 13 = .ok (.goto 4, 3) := by decide +kernel
theorem dX8_isSmall_16 : decode cX8_isSmall 16 = .ok (.iconst 0, 1) := by decide +kernel
theorem dX8_isSmall_17 : decode cX8_isSmall 17 = .ok (.ireturn, 1) := by decide +kernel
def f_X8_isSmall_17 (w0 : Int32) (s : zS) : Option (Int32 × zS) :=
  if w0 = 0 ∨ w0 = 1 then some (w0, s) else none
set_option maxRecDepth 20000 in
theorem b_X8_isSmall_17 {X : zX} (hX : zx_ok X cX8_isSmall RX8 1) (hT : zx_rt X (some .boolean) (zR 0 0)) : ∀ (w0 : Int32) (s : zS), zV X (zq X zrI) 1 17 [] [.int w0] s (f_X8_isSmall_17 w0 s) := by
  intro w0 s
  unfold f_X8_isSmall_17
  exact zv_iretzB hX hT dX8_isSmall_17
def f_X8_isSmall_16  (s : zS) : Option (Int32 × zS) :=
  f_X8_isSmall_17 (0 : Int32) s
set_option maxRecDepth 20000 in
theorem b_X8_isSmall_16 {X : zX} (hX : zx_ok X cX8_isSmall RX8 1) (hT : zx_rt X (some .boolean) (zR 0 0)) : ∀  (s : zS), zV X (zq X zrI) 1 16 [] [] s (f_X8_isSmall_16  s) := by
  intro  s
  unfold f_X8_isSmall_16
  refine zv_iconst (v := (0 : Int32)) hX dX8_isSmall_16 zi_i_0 ?_
  exact b_X8_isSmall_17 hX hT (0 : Int32) s
def f_X8_isSmall (v0 : Int32) (s : zS) : Option (Int32 × zS) :=
  if v0 < (nI 97) then
  (f_X8_isSmall_16 s)
  else
  if (nI 122) < v0 then
  (f_X8_isSmall_16 s)
  else
  f_X8_isSmall_17 (1 : Int32) s
set_option maxRecDepth 20000 in
theorem c_X8_isSmall (Y : zG) (v0 : Int32) (s : zS) : zM Y yX8_isSmall cX8_isSmall 1 (some .boolean) (zR 0 0) [.int v0] s zrI (f_X8_isSmall v0 s) := by
  refine zm_start (by decide +kernel) (Nat.le_of_ble_eq_true rfl) ?_
  intro X hY hT hX
  subst hY
  have hX : zx_ok X cX8_isSmall RX8 1 := hX
  show zV X (zq X zrI) 1 0 [(0, .int v0)] [] s _
  unfold f_X8_isSmall
  refine zv_iload_n hX dX8_isSmall_0 0 rfl ?_
  refine zv_bipush (v := (nI 97)) hX dX8_isSmall_1 zi_b_97 ?_
  refine zv_icmp_lt (tgt := 16) hX dX8_isSmall_3 rfl ?_ ?_
  · exact zv_sub [] rfl (b_X8_isSmall_16 hX hT  s)
  · refine zv_iload_n hX dX8_isSmall_6 0 rfl ?_
    refine zv_bipush (v := (nI 122)) hX dX8_isSmall_7 zi_b_122 ?_
    refine zv_icmp_gt (tgt := 16) hX dX8_isSmall_9 rfl ?_ ?_
    · exact zv_sub [] rfl (b_X8_isSmall_16 hX hT  s)
    · refine zv_iconst (v := (1 : Int32)) hX dX8_isSmall_12 zi_i_1 ?_
      refine zv_goto (tgt := 17) hX dX8_isSmall_13 rfl ?_
      exact zv_sub [] rfl (b_X8_isSmall_17 hX hT (1 : Int32) s)
theorem dX8_keyAt_0 : decode cX8_keyAt 0 = .ok (.iconst 0, 1) := by decide +kernel
theorem dX8_keyAt_1 : decode cX8_keyAt 1 = .ok (.istore_n 1, 1) := by decide +kernel
theorem dX8_keyAt_2 : decode cX8_keyAt 2 = .ok (.iconst 1, 1) := by decide +kernel
theorem dX8_keyAt_3 : decode cX8_keyAt 3 = .ok (.istore_n 2, 1) := by decide +kernel
theorem dX8_keyAt_4 : decode cX8_keyAt 4 = .ok (.iload_n 2, 1) := by decide +kernel
theorem dX8_keyAt_5 : decode cX8_keyAt 5 = .ok (.ldc 98, 2) := by decide +kernel
theorem dX8_keyAt_7 : decode cX8_keyAt 7 = .ok (.invokevirtual 100, 3) := by decide +kernel
theorem dX8_keyAt_10 : decode cX8_keyAt 10 = .ok (.if_icmp .ge 113, 3) := by decide +kernel
theorem dX8_keyAt_13 : decode cX8_keyAt 13 = .ok (.iconst 0, 1) := by decide +kernel
theorem dX8_keyAt_14 : decode cX8_keyAt 14 = .ok (.istore_n 3, 1) := by decide +kernel
theorem dX8_keyAt_15 : decode cX8_keyAt 15 = .ok (.ldc 98, 2) := by decide +kernel
theorem dX8_keyAt_17 : decode cX8_keyAt 17 = .ok (.iload_n 2, 1) := by decide +kernel
theorem dX8_keyAt_18 : decode cX8_keyAt 18 = .ok (.iload_n 3, 1) := by decide +kernel
theorem dX8_keyAt_19 : decode cX8_keyAt 19 = .ok (.iadd, 1) := by decide +kernel
theorem dX8_keyAt_20 : decode cX8_keyAt 20 = .ok (.invokevirtual 106, 3) := by decide +kernel
theorem dX8_keyAt_23 : decode cX8_keyAt 23 = .ok (.bipush 32, 2) := by decide +kernel
theorem dX8_keyAt_25 : decode cX8_keyAt 25 = .ok (.if_icmp .eq 44, 3) := by decide +kernel
theorem dX8_keyAt_28 : decode cX8_keyAt 28 = .ok (.aload_n 0, 1) := by decide +kernel
theorem dX8_keyAt_29 : decode cX8_keyAt 29 = .ok (.getfield 110, 3) := by decide +kernel
theorem dX8_keyAt_32 : decode cX8_keyAt 32 = .ok (.iload_n 3, 1) := by decide +kernel
theorem dX8_keyAt_33 : decode cX8_keyAt 33 = .ok (.iadd, 1) := by decide +kernel
theorem dX8_keyAt_34 : decode cX8_keyAt 34 = .ok (.aload_n 0, 1) := by decide +kernel
theorem dX8_keyAt_35 : decode cX8_keyAt 35 = .ok (.getfield 113, 3) := by decide +kernel
theorem dX8_keyAt_38 : decode cX8_keyAt 38 = .ok (.if_icmp .ge 31, 3) := by decide +kernel
theorem dX8_keyAt_41 : decode cX8_keyAt 41 = .ok (.aload_n 0, 1) := by decide +kernel
theorem dX8_keyAt_42 : decode cX8_keyAt 42 = .ok (.getfield 21, 3) := by decide +kernel
theorem dX8_keyAt_45 : decode cX8_keyAt 45 = .ok (.aload_n 0, 1) := by decide +kernel
theorem dX8_keyAt_46 : decode cX8_keyAt 46 = .ok (.getfield 110, 3) := by decide +kernel
theorem dX8_keyAt_49 : decode cX8_keyAt 49 = .ok (.iload_n 3, 1) := by decide +kernel
theorem dX8_keyAt_50 : decode cX8_keyAt 50 = .ok (.iadd, 1) := by decide +kernel
theorem dX8_keyAt_51 : decode cX8_keyAt 51 = .ok (.iaload, 1) := by decide +kernel
theorem dX8_keyAt_52 : decode cX8_keyAt 52 = .ok (.ldc 98, 2) := by decide +kernel
theorem dX8_keyAt_54 : decode cX8_keyAt 54 = .ok (.iload_n 2, 1) := by decide +kernel
theorem dX8_keyAt_55 : decode cX8_keyAt 55 = .ok (.iload_n 3, 1) := by decide +kernel
theorem dX8_keyAt_56 : decode cX8_keyAt 56 = .ok (.iadd, 1) := by decide +kernel
theorem dX8_keyAt_57 : decode cX8_keyAt 57 = .ok (.invokevirtual 106, 3) := by decide +kernel
theorem dX8_keyAt_60 : decode cX8_keyAt 60 = .ok (.if_icmp .ne 9, 3) := by decide +kernel
theorem dX8_keyAt_63 : decode cX8_keyAt 63 = .ok (.iinc 3 1, 3) := by decide +kernel
theorem dX8_keyAt_66 : decode cX8_keyAt 66 = .ok (.goto (-51), 3) := by decide +kernel
theorem dX8_keyAt_69 : decode cX8_keyAt 69 = .ok (.ldc 98, 2) := by decide +kernel
theorem dX8_keyAt_71 : decode cX8_keyAt 71 = .ok (.iload_n 2, 1) := by decide +kernel
theorem dX8_keyAt_72 : decode cX8_keyAt 72 = .ok (.iload_n 3, 1) := by decide +kernel
theorem dX8_keyAt_73 : decode cX8_keyAt 73 = .ok (.iadd, 1) := by decide +kernel
theorem dX8_keyAt_74 : decode cX8_keyAt 74 = .ok (.invokevirtual 106, 3) := by decide +kernel
theorem dX8_keyAt_77 : decode cX8_keyAt 77 = .ok (.bipush 32, 2) := by decide +kernel
theorem dX8_keyAt_79 : decode cX8_keyAt 79 = .ok (.if_icmp .ne 18, 3) := by decide +kernel
theorem dX8_keyAt_82 : decode cX8_keyAt 82 = .ok (.aload_n 0, 1) := by decide +kernel
theorem dX8_keyAt_83 : decode cX8_keyAt 83 = .ok (.getfield 110, 3) := by decide +kernel
theorem dX8_keyAt_86 : decode cX8_keyAt 86 = .ok (.iload_n 3, 1) := by decide +kernel
theorem dX8_keyAt_87 : decode cX8_keyAt 87 = .ok (.iadd, 1) := by decide +kernel
theorem dX8_keyAt_88 : decode cX8_keyAt 88 = .ok (.aload_n 0, 1) := by decide +kernel
theorem dX8_keyAt_89 : decode cX8_keyAt 89 = .ok (.getfield 113, 3) := by decide +kernel
theorem dX8_keyAt_92 : decode cX8_keyAt 92 = .ok (.if_icmp .ne 5, 3) := by decide +kernel
theorem dX8_keyAt_95 : decode cX8_keyAt 95 = .ok (.iload_n 1, 1) := by decide +kernel
theorem dX8_keyAt_96 : decode cX8_keyAt 96 = .ok (.ireturn, 1) := by decide +kernel
theorem dX8_keyAt_97 : decode cX8_keyAt 97 = .ok (.ldc 98, 2) := by decide +kernel
theorem dX8_keyAt_99 : decode cX8_keyAt 99 = .ok (.iload_n 2, 1) := by decide +kernel
theorem dX8_keyAt_100 : decode cX8_keyAt 100 = .ok (.invokevirtual 106, 3) := by decide +kernel
theorem dX8_keyAt_103 : decode cX8_keyAt 103 = .ok (.bipush 32, 2) := by decide +kernel
theorem dX8_keyAt_105 : decode cX8_keyAt 105 = .ok (.if_icmp .eq 9, 3) := by decide +kernel
theorem dX8_keyAt_108 : decode cX8_keyAt 108 = .ok (.iinc 2 1, 3) := by decide +kernel
theorem dX8_keyAt_111 : decode cX8_keyAt 111 = .ok (.goto (-14), 3) := by decide +kernel
theorem dX8_keyAt_114 : decode cX8_keyAt 114 = .ok (.iinc 2 1, 3) := by decide +kernel
theorem dX8_keyAt_117 : decode cX8_keyAt 117 = .ok (.iinc 1 1, 3) := by decide +kernel
theorem dX8_keyAt_120 : decode cX8_keyAt 120 = .ok (.goto (-116), 3) := by decide +kernel
theorem dX8_keyAt_123 : decode cX8_keyAt 123 = .ok (.bipush 22, 2) := by decide +kernel
theorem dX8_keyAt_125 : decode cX8_keyAt 125 = .ok (.ireturn, 1) := by decide +kernel
def f_X8_keyAt_97 (kb_4 : Int32 → Int32 → zS → Option (Int32 × zS)) : Nat → Int32 → Int32 → zS → Option (Int32 × zS)
  | 0, _, _, _ => none
  | n + 1, v1, v2, s =>
    zbd (f_J0_charAt_5068e 2 v2 s) fun r1 s2 =>
    if r1 = (nI 32) then
    (zb (v2 + (1 : Int32)) fun x3 =>
    zb (v1 + (1 : Int32)) fun x4 =>
    kb_4 x4 x3 s2)
    else
    zb (v2 + (1 : Int32)) fun x5 =>
    f_X8_keyAt_97 kb_4 n v1 x5 s2
set_option maxRecDepth 20000 in
theorem b_X8_keyAt_97 {X : zX} {kb_4 : Int32 → Int32 → zS → Option (Int32 × zS)} (hX : zx_ok X cX8_keyAt RX8 4) (hT : zx_rt X (some .int) (zR 4 85)) (hk_4 : ∀ (v1 : Int32) (v2 : Int32) (s : zS), zV X (zq X zrI) 4 4 [(0, .ref (zx_ad X 76)), (1, .int v1), (2, .int v2)] [] s (kb_4 v1 v2 s)) : ∀ (n : Nat) (v1 : Int32) (v2 : Int32) (s : zS), zV X (zq X zrI) 4 97 [(0, .ref (zx_ad X 76)), (1, .int v1), (2, .int v2)] [] s (f_X8_keyAt_97 kb_4 n v1 v2 s) := by
  intro n
  induction n with
  | zero => intro v1 v2 s; exact zv_none
  | succ n ih =>
    intro v1 v2 s
    rw [f_X8_keyAt_97]
    refine zv_ldcK hX dX8_keyAt_97 ?_
    refine zv_iload_n hX dX8_keyAt_99 2 rfl ?_
    refine zv_cTI [.int v2] (i := 2) (rest := []) hX hT.2.2.2.2 (by decide) (c_J0_charAt_5068e (zx_Y X) 2 v2 s) wb_J0_charAt_5068e wi_J0_charAt_5068e wq_J0_charAt_5068e rfl wm_X8_106 rfl (Nat.le_of_ble_eq_true rfl) (Nat.le_of_ble_eq_true rfl) rfl (Nat.le_of_ble_eq_true rfl) dX8_keyAt_100 (fun r1 s2 => ?_)
    refine zv_bipush (v := (nI 32)) hX dX8_keyAt_103 zi_b_32 ?_
    refine zv_icmp_eq (tgt := 114) hX dX8_keyAt_105 rfl ?_ ?_
    · refine zv_iincB (lw := fun x3 => [(2, .int x3), (0, .ref (zx_ad X 76)), (1, .int v1)]) hX dX8_keyAt_114 2 rfl zi_i_1 (by decide) (fun _ => rfl) (fun x3 => ?_)
      refine zv_iincB (lw := fun x4 => [(1, .int x4), (2, .int x3), (0, .ref (zx_ad X 76))]) hX dX8_keyAt_117 2 rfl zi_i_1 (by decide) (fun _ => rfl) (fun x4 => ?_)
      refine zv_goto (tgt := 4) hX dX8_keyAt_120 rfl ?_
      exact zv_sub [2, 0, 1] rfl (hk_4 x4 x3 s2)
    · refine zv_iincB (lw := fun x5 => [(2, .int x5), (0, .ref (zx_ad X 76)), (1, .int v1)]) hX dX8_keyAt_108 2 rfl zi_i_1 (by decide) (fun _ => rfl) (fun x5 => ?_)
      refine zv_goto (tgt := 97) hX dX8_keyAt_111 rfl ?_
      exact zv_sub [1, 2, 0] rfl (ih v1 x5 s2)
def f_X8_keyAt_69 (kb_4 : Int32 → Int32 → zS → Option (Int32 × zS)) (v1 : Int32) (v2 : Int32) (v3 : Int32) (s : zS) : Option (Int32 × zS) :=
  zbd (f_J0_charAt_5068e 2 (v2 + v3) s) fun r6 s7 =>
  if ¬ r6 = (nI 32) then
  (f_X8_keyAt_97 kb_4 zFU v1 v2 s7)
  else
  if ¬ ((s7.1 76 6) + v3) = (s7.1 76 7) then
  (f_X8_keyAt_97 kb_4 zFU v1 v2 s7)
  else
  some (v1, s7)
set_option maxRecDepth 20000 in
theorem b_X8_keyAt_69 {X : zX} {kb_4 : Int32 → Int32 → zS → Option (Int32 × zS)} (hX : zx_ok X cX8_keyAt RX8 4) (hT : zx_rt X (some .int) (zR 4 85)) (hk_4 : ∀ (v1 : Int32) (v2 : Int32) (s : zS), zV X (zq X zrI) 4 4 [(0, .ref (zx_ad X 76)), (1, .int v1), (2, .int v2)] [] s (kb_4 v1 v2 s)) : ∀ (v1 : Int32) (v2 : Int32) (v3 : Int32) (s : zS), zV X (zq X zrI) 4 69 [(0, .ref (zx_ad X 76)), (1, .int v1), (2, .int v2), (3, .int v3)] [] s (f_X8_keyAt_69 kb_4 v1 v2 v3 s) := by
  intro v1 v2 v3 s
  unfold f_X8_keyAt_69
  refine zv_ldcK hX dX8_keyAt_69 ?_
  refine zv_iload_n hX dX8_keyAt_71 2 rfl ?_
  refine zv_iload_n hX dX8_keyAt_72 3 rfl ?_
  refine zv_iadd hX dX8_keyAt_73 ?_
  refine zv_cTI [.int (v2 + v3)] (i := 2) (rest := []) hX hT.2.2.2.2 (by decide) (c_J0_charAt_5068e (zx_Y X) 2 (v2 + v3) s) wb_J0_charAt_5068e wi_J0_charAt_5068e wq_J0_charAt_5068e rfl wm_X8_106 rfl (Nat.le_of_ble_eq_true rfl) (Nat.le_of_ble_eq_true rfl) rfl (Nat.le_of_ble_eq_true rfl) dX8_keyAt_74 (fun r6 s7 => ?_)
  refine zv_bipush (v := (nI 32)) hX dX8_keyAt_77 zi_b_32 ?_
  refine zv_icmp_ne (tgt := 97) hX dX8_keyAt_79 rfl ?_ ?_
  · exact zv_sub [0, 1, 2] rfl (b_X8_keyAt_97 hX hT hk_4 zFU v1 v2 s7)
  · refine zv_aload_n hX dX8_keyAt_82 0 rfl ?_
    refine zv_geti hX wf_X8_110 wc_8 zd_76 zj_76_6 c9_8 zr_76_6 dX8_keyAt_83 ?_
    refine zv_iload_n hX dX8_keyAt_86 3 rfl ?_
    refine zv_iadd hX dX8_keyAt_87 ?_
    refine zv_aload_n hX dX8_keyAt_88 0 rfl ?_
    refine zv_geti hX wf_X8_113 wc_8 zd_76 zj_76_7 c9_8 zr_76_7 dX8_keyAt_89 ?_
    refine zv_icmp_ne (tgt := 97) hX dX8_keyAt_92 rfl ?_ ?_
    · exact zv_sub [0, 1, 2] rfl (b_X8_keyAt_97 hX hT hk_4 zFU v1 v2 s7)
    · refine zv_iload_n hX dX8_keyAt_95 1 rfl ?_
      exact zv_ireti hX hT dX8_keyAt_96
def f_X8_keyAt_15 (kb_4 : Int32 → Int32 → zS → Option (Int32 × zS)) : Nat → Int32 → Int32 → Int32 → zS → Option (Int32 × zS)
  | 0, _, _, _, _ => none
  | n + 1, v1, v2, v3, s =>
    zbd (f_J0_charAt_5068e 2 (v2 + v3) s) fun r8 s9 =>
    if r8 = (nI 32) then
    (f_X8_keyAt_69 kb_4 v1 v2 v3 s9)
    else
    if (s9.1 76 7) ≤ ((s9.1 76 6) + v3) then
    (f_X8_keyAt_69 kb_4 v1 v2 v3 s9)
    else
    (zr_i s9 79 ((s9.1 76 6) + v3)).bind fun x10 =>
    zbd (f_J0_charAt_5068e 2 (v2 + v3) s9) fun r11 s12 =>
    if ¬ x10 = r11 then
    (f_X8_keyAt_69 kb_4 v1 v2 v3 s12)
    else
    zb (v3 + (1 : Int32)) fun x13 =>
    f_X8_keyAt_15 kb_4 n v1 v2 x13 s12
set_option maxRecDepth 20000 in
theorem b_X8_keyAt_15 {X : zX} {kb_4 : Int32 → Int32 → zS → Option (Int32 × zS)} (hX : zx_ok X cX8_keyAt RX8 4) (hT : zx_rt X (some .int) (zR 4 85)) (hk_4 : ∀ (v1 : Int32) (v2 : Int32) (s : zS), zV X (zq X zrI) 4 4 [(0, .ref (zx_ad X 76)), (1, .int v1), (2, .int v2)] [] s (kb_4 v1 v2 s)) : ∀ (n : Nat) (v1 : Int32) (v2 : Int32) (v3 : Int32) (s : zS), zV X (zq X zrI) 4 15 [(0, .ref (zx_ad X 76)), (1, .int v1), (2, .int v2), (3, .int v3)] [] s (f_X8_keyAt_15 kb_4 n v1 v2 v3 s) := by
  intro n
  induction n with
  | zero => intro v1 v2 v3 s; exact zv_none
  | succ n ih =>
    intro v1 v2 v3 s
    rw [f_X8_keyAt_15]
    refine zv_ldcK hX dX8_keyAt_15 ?_
    refine zv_iload_n hX dX8_keyAt_17 2 rfl ?_
    refine zv_iload_n hX dX8_keyAt_18 3 rfl ?_
    refine zv_iadd hX dX8_keyAt_19 ?_
    refine zv_cTI [.int (v2 + v3)] (i := 2) (rest := []) hX hT.2.2.2.2 (by decide) (c_J0_charAt_5068e (zx_Y X) 2 (v2 + v3) s) wb_J0_charAt_5068e wi_J0_charAt_5068e wq_J0_charAt_5068e rfl wm_X8_106 rfl (Nat.le_of_ble_eq_true rfl) (Nat.le_of_ble_eq_true rfl) rfl (Nat.le_of_ble_eq_true rfl) dX8_keyAt_20 (fun r8 s9 => ?_)
    refine zv_bipush (v := (nI 32)) hX dX8_keyAt_23 zi_b_32 ?_
    refine zv_icmp_eq (tgt := 69) hX dX8_keyAt_25 rfl ?_ ?_
    · exact b_X8_keyAt_69 hX hT hk_4 v1 v2 v3 s9
    · refine zv_aload_n hX dX8_keyAt_28 0 rfl ?_
      refine zv_geti hX wf_X8_110 wc_8 zd_76 zj_76_6 c9_8 zr_76_6 dX8_keyAt_29 ?_
      refine zv_iload_n hX dX8_keyAt_32 3 rfl ?_
      refine zv_iadd hX dX8_keyAt_33 ?_
      refine zv_aload_n hX dX8_keyAt_34 0 rfl ?_
      refine zv_geti hX wf_X8_113 wc_8 zd_76 zj_76_7 c9_8 zr_76_7 dX8_keyAt_35 ?_
      refine zv_icmp_ge (tgt := 69) hX dX8_keyAt_38 rfl ?_ ?_
      · exact b_X8_keyAt_69 hX hT hk_4 v1 v2 v3 s9
      · refine zv_aload_n hX dX8_keyAt_41 0 rfl ?_
        refine zv_geta hX wf_X8_21 wc_8 zd_76 zj_76_3 c9_8 zr_76_3 (by decide) dX8_keyAt_42 ?_
        refine zv_aload_n hX dX8_keyAt_45 0 rfl ?_
        refine zv_geti hX wf_X8_110 wc_8 zd_76 zj_76_6 c9_8 zr_76_6 dX8_keyAt_46 ?_
        refine zv_iload_n hX dX8_keyAt_49 3 rfl ?_
        refine zv_iadd hX dX8_keyAt_50 ?_
        refine zv_iald hX dX8_keyAt_51 (fun x10 => ?_)
        refine zv_ldcK hX dX8_keyAt_52 ?_
        refine zv_iload_n hX dX8_keyAt_54 2 rfl ?_
        refine zv_iload_n hX dX8_keyAt_55 3 rfl ?_
        refine zv_iadd hX dX8_keyAt_56 ?_
        refine zv_cTI [.int (v2 + v3)] (i := 2) (rest := [.int x10]) hX hT.2.2.2.2 (by decide) (c_J0_charAt_5068e (zx_Y X) 2 (v2 + v3) s9) wb_J0_charAt_5068e wi_J0_charAt_5068e wq_J0_charAt_5068e rfl wm_X8_106 rfl (Nat.le_of_ble_eq_true rfl) (Nat.le_of_ble_eq_true rfl) rfl (Nat.le_of_ble_eq_true rfl) dX8_keyAt_57 (fun r11 s12 => ?_)
        refine zv_icmp_ne (tgt := 69) hX dX8_keyAt_60 rfl ?_ ?_
        · exact b_X8_keyAt_69 hX hT hk_4 v1 v2 v3 s12
        · refine zv_iincB (lw := fun x13 => [(3, .int x13), (0, .ref (zx_ad X 76)), (1, .int v1), (2, .int v2)]) hX dX8_keyAt_63 3 rfl zi_i_1 (by decide) (fun _ => rfl) (fun x13 => ?_)
          refine zv_goto (tgt := 15) hX dX8_keyAt_66 rfl ?_
          exact zv_sub [1, 2, 3, 0] rfl (ih v1 v2 x13 s12)
def f_X8_keyAt_4 : Nat → Int32 → Int32 → zS → Option (Int32 × zS)
  | 0, _, _, _ => none
  | n + 1, v1, v2, s =>
    zbd (f_J0_length_8abf5 2 s) fun r14 s15 =>
    if r14 ≤ v2 then
    (some ((nI 22), s15))
    else
    f_X8_keyAt_15 (f_X8_keyAt_4 n) zFU v1 v2 (0 : Int32) s15
set_option maxRecDepth 20000 in
theorem b_X8_keyAt_4 {X : zX} (hX : zx_ok X cX8_keyAt RX8 4) (hT : zx_rt X (some .int) (zR 4 85)) : ∀ (n : Nat) (v1 : Int32) (v2 : Int32) (s : zS), zV X (zq X zrI) 4 4 [(0, .ref (zx_ad X 76)), (1, .int v1), (2, .int v2)] [] s (f_X8_keyAt_4 n v1 v2 s) := by
  intro n
  induction n with
  | zero => intro v1 v2 s; exact zv_none
  | succ n ih =>
    intro v1 v2 s
    rw [f_X8_keyAt_4]
    refine zv_iload_n hX dX8_keyAt_4 2 rfl ?_
    refine zv_ldcK hX dX8_keyAt_5 ?_
    refine zv_cTI [] (i := 2) (rest := [.int v2]) hX hT.2.2.2.2 (by decide) (c_J0_length_8abf5 (zx_Y X) 2 s) wb_J0_length_8abf5 wi_J0_length_8abf5 wq_J0_length_8abf5 rfl wm_X8_100 rfl (Nat.le_of_ble_eq_true rfl) (Nat.le_of_ble_eq_true rfl) rfl (Nat.le_of_ble_eq_true rfl) dX8_keyAt_7 (fun r14 s15 => ?_)
    refine zv_icmp_ge (tgt := 123) hX dX8_keyAt_10 rfl ?_ ?_
    · refine zv_bipush (v := (nI 22)) hX dX8_keyAt_123 zi_b_22 ?_
      exact zv_ireti hX hT dX8_keyAt_125
    · refine zv_iconst (v := (0 : Int32)) hX dX8_keyAt_13 zi_i_0 ?_
      refine zv_istore_n (lv' := [(3, .int (0 : Int32)), (0, .ref (zx_ad X 76)), (1, .int v1), (2, .int v2)]) hX dX8_keyAt_14 (by decide) rfl ?_
      exact zv_sub [1, 2, 3, 0] rfl (b_X8_keyAt_15 hX hT ih zFU v1 v2 (0 : Int32) s15)
def f_X8_keyAt  (s : zS) : Option (Int32 × zS) :=
  f_X8_keyAt_4 zFU (0 : Int32) (1 : Int32) s
set_option maxRecDepth 20000 in
theorem c_X8_keyAt (Y : zG)  (s : zS) : zM Y yX8_keyAt cX8_keyAt 4 (some .int) (zR 4 85) [.ref (zy_a Y 76)] s zrI (f_X8_keyAt  s) := by
  refine zm_start (by decide +kernel) (Nat.le_of_ble_eq_true rfl) ?_
  intro X hY hT hX
  subst hY
  have hX : zx_ok X cX8_keyAt RX8 4 := hX
  show zV X (zq X zrI) 4 0 [(0, .ref (zx_ad X 76))] [] s _
  unfold f_X8_keyAt
  refine zv_iconst (v := (0 : Int32)) hX dX8_keyAt_0 zi_i_0 ?_
  refine zv_istore_n (lv' := [(1, .int (0 : Int32)), (0, .ref (zx_ad X 76))]) hX dX8_keyAt_1 (by decide) rfl ?_
  refine zv_iconst (v := (1 : Int32)) hX dX8_keyAt_2 zi_i_1 ?_
  refine zv_istore_n (lv' := [(2, .int (1 : Int32)), (1, .int (0 : Int32)), (0, .ref (zx_ad X 76))]) hX dX8_keyAt_3 (by decide) rfl ?_
  exact zv_sub [2, 1, 0] rfl (b_X8_keyAt_4 hX hT zFU (0 : Int32) (1 : Int32) s)
theorem dX8_see_0 : decode cX8_see 0 = .ok (.iload_n 1, 1) := by decide +kernel
theorem dX8_see_1 : decode cX8_see 1 = .ok (.aload_n 0, 1) := by decide +kernel
theorem dX8_see_2 : decode cX8_see 2 = .ok (.getfield 95, 3) := by decide +kernel
theorem dX8_see_5 : decode cX8_see 5 = .ok (.if_icmp .ge 12, 3) := by decide +kernel
theorem dX8_see_8 : decode cX8_see 8 = .ok (.aload_n 0, 1) := by decide +kernel
theorem dX8_see_9 : decode cX8_see 9 = .ok (.getfield 21, 3) := by decide +kernel
theorem dX8_see_12 : decode cX8_see 12 = .ok (.iload_n 1, 1) := by decide +kernel
theorem dX8_see_13 : decode cX8_see 13 = .ok (.iaload, 1) := by decide +kernel
theorem dX8_see_14 : decode cX8_see 14 = .ok (.goto 4, 3) := by decide +kernel
theorem dX8_see_17 : decode cX8_see 17 = .ok (.iconst (-1), 1) := by decide +kernel
theorem dX8_see_18 : decode cX8_see 18 = .ok (.ireturn, 1) := by decide +kernel
def f_X8_see_18 (w0 : Int32) (s : zS) : Option (Int32 × zS) :=
  some (w0, s)
set_option maxRecDepth 20000 in
theorem b_X8_see_18 {X : zX} (hX : zx_ok X cX8_see RX8 2) (hT : zx_rt X (some .int) (zR 0 0)) : ∀ (w0 : Int32) (s : zS), zV X (zq X zrI) 2 18 [] [.int w0] s (f_X8_see_18 w0 s) := by
  intro w0 s
  unfold f_X8_see_18
  exact zv_ireti hX hT dX8_see_18
def f_X8_see (v1 : Int32) (s : zS) : Option (Int32 × zS) :=
  if (s.1 76 8) ≤ v1 then
  (f_X8_see_18 (-1 : Int32) s)
  else
  (zr_i s 79 v1).bind fun x1 =>
  f_X8_see_18 x1 s
set_option maxRecDepth 20000 in
theorem c_X8_see (Y : zG) (v1 : Int32) (s : zS) : zM Y yX8_see cX8_see 2 (some .int) (zR 0 0) [.ref (zy_a Y 76), .int v1] s zrI (f_X8_see v1 s) := by
  refine zm_start (by decide +kernel) (Nat.le_of_ble_eq_true rfl) ?_
  intro X hY hT hX
  subst hY
  have hX : zx_ok X cX8_see RX8 2 := hX
  show zV X (zq X zrI) 2 0 [(0, .ref (zx_ad X 76)), (1, .int v1)] [] s _
  unfold f_X8_see
  refine zv_iload_n hX dX8_see_0 1 rfl ?_
  refine zv_aload_n hX dX8_see_1 0 rfl ?_
  refine zv_geti hX wf_X8_95 wc_8 zd_76 zj_76_8 c9_8 zr_76_8 dX8_see_2 ?_
  refine zv_icmp_ge (tgt := 17) hX dX8_see_5 rfl ?_ ?_
  · refine zv_iconst (v := (-1 : Int32)) hX dX8_see_17 zi_i_m1 ?_
    exact zv_sub [] rfl (b_X8_see_18 hX hT (-1 : Int32) s)
  · refine zv_aload_n hX dX8_see_8 0 rfl ?_
    refine zv_geta hX wf_X8_21 wc_8 zd_76 zj_76_3 c9_8 zr_76_3 (by decide) dX8_see_9 ?_
    refine zv_iload_n hX dX8_see_12 1 rfl ?_
    refine zv_iald hX dX8_see_13 (fun x1 => ?_)
    refine zv_goto (tgt := 18) hX dX8_see_14 rfl ?_
    exact zv_sub [] rfl (b_X8_see_18 hX hT x1 s)
