theorem dJ0_indexOf_7cf53_0 : decode cJ0_indexOf_7cf53 0 = .ok (.aload_n 0, 1) := by decide +kernel
theorem dJ0_indexOf_7cf53_1 : decode cJ0_indexOf_7cf53 1 = .ok (.invokevirtual 492, 3) := by decide +kernel
theorem dJ0_indexOf_7cf53_4 : decode cJ0_indexOf_7cf53 4 = .ok (.ifCond .eq 19, 3) := by decide +kernel
theorem dJ0_indexOf_7cf53_7 : decode cJ0_indexOf_7cf53 7 = .ok (.aload_n 0, 1) := by decide +kernel
theorem dJ0_indexOf_7cf53_8 : decode cJ0_indexOf_7cf53 8 = .ok (.getfield 9, 3) := by decide +kernel
theorem dJ0_indexOf_7cf53_11 : decode cJ0_indexOf_7cf53 11 = .ok (.iload_n 1, 1) := by decide +kernel
theorem dJ0_indexOf_7cf53_12 : decode cJ0_indexOf_7cf53 12 = .ok (.iload_n 2, 1) := by decide +kernel
theorem dJ0_indexOf_7cf53_13 : decode cJ0_indexOf_7cf53 13 = .ok (.aload_n 0, 1) := by decide +kernel
theorem dJ0_indexOf_7cf53_14 : decode cJ0_indexOf_7cf53 14 = .ok (.invokevirtual 505, 3) := by decide +kernel
theorem dJ0_indexOf_7cf53_17 : decode cJ0_indexOf_7cf53 17 = .ok (.invokestatic 637, 3) := by decide +kernel
theorem dJ0_indexOf_7cf53_20 : decode cJ0_indexOf_7cf53 20 = .ok (.goto 16, 3) := by decide +kernel
theorem dJ0_indexOf_7cf53_23 : decode cJ0_indexOf_7cf53 23 = .ok (.aload_n 0, 1) := by decide +kernel
theorem dJ0_indexOf_7cf53_24 : decode cJ0_indexOf_7cf53 24 = .ok (.getfield 9, 3) := by decide +kernel
theorem dJ0_indexOf_7cf53_27 : decode cJ0_indexOf_7cf53 27 = .ok (.iload_n 1, 1) := by decide +kernel
theorem dJ0_indexOf_7cf53_28 : decode cJ0_indexOf_7cf53 28 = .ok (.iload_n 2, 1) := by decide +kernel
theorem dJ0_indexOf_7cf53_29 : decode cJ0_indexOf_7cf53 29 = .ok (.aload_n 0, 1) := by decide +kernel
theorem dJ0_indexOf_7cf53_30 : decode cJ0_indexOf_7cf53 30 = .ok (.invokevirtual 505, 3) := by decide +kernel
theorem dJ0_indexOf_7cf53_33 : decode cJ0_indexOf_7cf53 33 = .ok (.invokestatic 640, 3) := by decide +kernel
theorem dJ0_indexOf_7cf53_36 : decode cJ0_indexOf_7cf53 36 = .ok (.ireturn, 1) := by decide +kernel
def f_J0_indexOf_7cf53_36 (w0 : Int32) (s : zS) : Option (Int32 × zS) :=
  some (w0, s)
set_option maxRecDepth 20000 in
theorem b_J0_indexOf_7cf53_36 {X : zX} (hX : zx_ok X cJ0_indexOf_7cf53 RJ0 3) (hT : zx_rt X (some .int) (zR 2 48)) : ∀ (w0 : Int32) (s : zS), zV X (zq X zrI) 3 36 [] [.int w0] s (f_J0_indexOf_7cf53_36 w0 s) := by
  intro w0 s
  unfold f_J0_indexOf_7cf53_36
  exact zv_ireti hX hT dJ0_indexOf_7cf53_36
def f_J0_indexOf_7cf53 (i0 : Nat) (v1 : Int32) (v2 : Int32) (s : zS) : Option (Int32 × zS) :=
  if i0 < 3 then
  (zbd (f_J0_isLatin1_aae02 i0 s) fun r1 s2 =>
  if r1 = 0 then
  (if i0 < 3 then
  (if i0 < 3 then
  (zbd (f_J0_length_8abf5 i0 s2) fun r3 s4 =>
  none)
  else none)
  else none)
  else
  if i0 < 3 then
  (if i0 < 3 then
  (zbd (f_J0_length_8abf5 i0 s2) fun r5 s6 =>
  zbd (f_J1_indexOf_4cfef i0 v1 v2 r5 s6) fun r7 s8 =>
  f_J0_indexOf_7cf53_36 r7 s8)
  else none)
  else none)
  else none
set_option maxRecDepth 20000 in
theorem c_J0_indexOf_7cf53 (Y : zG) (i0 : Nat) (v1 : Int32) (v2 : Int32) (s : zS) : zM Y yJ0_indexOf_7cf53 cJ0_indexOf_7cf53 3 (some .int) (zR 2 48) [.ref (zy_t Y (10 + i0)), .int v1, .int v2] s zrI (f_J0_indexOf_7cf53 i0 v1 v2 s) := by
  refine zm_startJ (by decide +kernel) (Nat.le_of_ble_eq_true rfl) ?_
  intro X hY hT hX
  subst hY
  have hX : zx_ok X cJ0_indexOf_7cf53 RJ0 3 := hX
  show zV X (zq X zrI) 3 0 [(0, .ref (zx_tv X (10 + i0))), (1, .int v1), (2, .int v2)] [] s _
  unfold f_J0_indexOf_7cf53
  refine zv_aload_n hX dJ0_indexOf_7cf53_0 0 rfl ?_
  refine zv_ite (fun h3 => ?_) (fun _ => zv_none)
  refine zv_cTI [] (i := i0) (rest := []) hX hT.2.2.2.2 h3 (c_J0_isLatin1_aae02 (zx_Y X) i0 s) wb_J0_isLatin1_aae02 wi_J0_isLatin1_aae02 wq_J0_isLatin1_aae02 rfl wm_J0_492 rfl (Nat.le_of_ble_eq_true rfl) (Nat.le_of_ble_eq_true rfl) rfl (Nat.le_of_ble_eq_true rfl) dJ0_indexOf_7cf53_1 (fun r1 s2 => ?_)
  refine zv_if_eq (tgt := 23) hX dJ0_indexOf_7cf53_4 rfl ?_ ?_
  · refine zv_aload_n hX dJ0_indexOf_7cf53_23 0 rfl ?_
    refine zv_ite (fun h3 => ?_) (fun _ => zv_none)
    refine zv_sval (i := i0) hX h3 ws_J0_9 dJ0_indexOf_7cf53_24 ?_
    refine zv_iload_n hX dJ0_indexOf_7cf53_27 1 rfl ?_
    refine zv_iload_n hX dJ0_indexOf_7cf53_28 2 rfl ?_
    refine zv_aload_n hX dJ0_indexOf_7cf53_29 0 rfl ?_
    refine zv_ite (fun h3 => ?_) (fun _ => zv_none)
    refine zv_cTI [] (i := i0) (rest := [.int v2, .int v1, .ref (zx_tv X (20 + i0))]) hX hT.2.2.2.2 h3 (c_J0_length_8abf5 (zx_Y X) i0 s2) wb_J0_length_8abf5 wi_J0_length_8abf5 wq_J0_length_8abf5 rfl wm_J0_505 rfl (Nat.le_of_ble_eq_true rfl) (Nat.le_of_ble_eq_true rfl) rfl (Nat.le_of_ble_eq_true rfl) dJ0_indexOf_7cf53_30 (fun r3 s4 => ?_)
    exact zv_none
  · refine zv_aload_n hX dJ0_indexOf_7cf53_7 0 rfl ?_
    refine zv_ite (fun h3 => ?_) (fun _ => zv_none)
    refine zv_sval (i := i0) hX h3 ws_J0_9 dJ0_indexOf_7cf53_8 ?_
    refine zv_iload_n hX dJ0_indexOf_7cf53_11 1 rfl ?_
    refine zv_iload_n hX dJ0_indexOf_7cf53_12 2 rfl ?_
    refine zv_aload_n hX dJ0_indexOf_7cf53_13 0 rfl ?_
    refine zv_ite (fun h3 => ?_) (fun _ => zv_none)
    refine zv_cTI [] (i := i0) (rest := [.int v2, .int v1, .ref (zx_tv X (20 + i0))]) hX hT.2.2.2.2 h3 (c_J0_length_8abf5 (zx_Y X) i0 s2) wb_J0_length_8abf5 wi_J0_length_8abf5 wq_J0_length_8abf5 rfl wm_J0_505 rfl (Nat.le_of_ble_eq_true rfl) (Nat.le_of_ble_eq_true rfl) rfl (Nat.le_of_ble_eq_true rfl) dJ0_indexOf_7cf53_14 (fun r5 s6 => ?_)
    refine zv_cSI [.ref (zx_tv X (20 + i0)), .int v1, .int v2, .int r5] (rest := []) hX hT.2.2.2.2 (c_J1_indexOf_4cfef (zx_Y X) i0 v1 v2 r5 s6) wv_J1_indexOf_4cfef wm_J0_637 rfl (Nat.le_of_ble_eq_true rfl) (Nat.le_of_ble_eq_true rfl) rfl (Nat.le_of_ble_eq_true rfl) dJ0_indexOf_7cf53_17 (fun r7 s8 => ?_)
    refine zv_goto (tgt := 36) hX dJ0_indexOf_7cf53_20 rfl ?_
    exact zv_sub [] rfl (b_J0_indexOf_7cf53_36 hX hT r7 s8)
theorem dJ0_indexOf_0f7a4_0 : decode cJ0_indexOf_0f7a4 0 = .ok (.aload_n 0, 1) := by decide +kernel
theorem dJ0_indexOf_0f7a4_1 : decode cJ0_indexOf_0f7a4 1 = .ok (.iload_n 1, 1) := by decide +kernel
theorem dJ0_indexOf_0f7a4_2 : decode cJ0_indexOf_0f7a4 2 = .ok (.iconst 0, 1) := by decide +kernel
theorem dJ0_indexOf_0f7a4_3 : decode cJ0_indexOf_0f7a4 3 = .ok (.invokevirtual 633, 3) := by decide +kernel
theorem dJ0_indexOf_0f7a4_6 : decode cJ0_indexOf_0f7a4 6 = .ok (.ireturn, 1) := by decide +kernel
def f_J0_indexOf_0f7a4 (i0 : Nat) (v1 : Int32) (s : zS) : Option (Int32 × zS) :=
  if i0 < 3 then
  (zbd (f_J0_indexOf_7cf53 i0 v1 (0 : Int32) s) fun r1 s2 =>
  some (r1, s2))
  else none
set_option maxRecDepth 20000 in
theorem c_J0_indexOf_0f7a4 (Y : zG) (i0 : Nat) (v1 : Int32) (s : zS) : zM Y yJ0_indexOf_0f7a4 cJ0_indexOf_0f7a4 2 (some .int) (zR 3 70) [.ref (zy_t Y (10 + i0)), .int v1] s zrI (f_J0_indexOf_0f7a4 i0 v1 s) := by
  refine zm_startJ (by decide +kernel) (Nat.le_of_ble_eq_true rfl) ?_
  intro X hY hT hX
  subst hY
  have hX : zx_ok X cJ0_indexOf_0f7a4 RJ0 2 := hX
  show zV X (zq X zrI) 2 0 [(0, .ref (zx_tv X (10 + i0))), (1, .int v1)] [] s _
  unfold f_J0_indexOf_0f7a4
  refine zv_aload_n hX dJ0_indexOf_0f7a4_0 0 rfl ?_
  refine zv_iload_n hX dJ0_indexOf_0f7a4_1 1 rfl ?_
  refine zv_iconst (v := (0 : Int32)) hX dJ0_indexOf_0f7a4_2 zi_i_0 ?_
  refine zv_ite (fun h3 => ?_) (fun _ => zv_none)
  refine zv_cTI [.int v1, .int (0 : Int32)] (i := i0) (rest := []) hX hT.2.2.2.2 h3 (c_J0_indexOf_7cf53 (zx_Y X) i0 v1 (0 : Int32) s) wb_J0_indexOf_7cf53 wi_J0_indexOf_7cf53 wq_J0_indexOf_7cf53 rfl wm_J0_633 rfl (Nat.le_of_ble_eq_true rfl) (Nat.le_of_ble_eq_true rfl) rfl (Nat.le_of_ble_eq_true rfl) dJ0_indexOf_0f7a4_3 (fun r1 s2 => ?_)
  exact zv_ireti hX hT dJ0_indexOf_0f7a4_6
theorem dX3_tokenOf_0 : decode cX3_tokenOf 0 = .ok (.aload_n 0, 1) := by decide +kernel
theorem dX3_tokenOf_1 : decode cX3_tokenOf 1 = .ok (.iload_n 1, 1) := by decide +kernel
theorem dX3_tokenOf_2 : decode cX3_tokenOf 2 = .ok (.baload, 1) := by decide +kernel
theorem dX3_tokenOf_3 : decode cX3_tokenOf 3 = .ok (.invokestatic 66, 3) := by decide +kernel
theorem dX3_tokenOf_6 : decode cX3_tokenOf 6 = .ok (.ifCond .eq 10, 3) := by decide +kernel
theorem dX3_tokenOf_9 : decode cX3_tokenOf 9 = .ok (.aload_n 0, 1) := by decide +kernel
theorem dX3_tokenOf_10 : decode cX3_tokenOf 10 = .ok (.iload_n 1, 1) := by decide +kernel
theorem dX3_tokenOf_11 : decode cX3_tokenOf 11 = .ok (.iload_n 2, 1) := by decide +kernel
theorem dX3_tokenOf_12 : decode cX3_tokenOf 12 = .ok (.invokestatic 73, 3) := by decide +kernel
theorem dX3_tokenOf_15 : decode cX3_tokenOf 15 = .ok (.ireturn, 1) := by decide +kernel
theorem dX3_tokenOf_16 : decode cX3_tokenOf 16 = .ok (.aload_n 0, 1) := by decide +kernel
theorem dX3_tokenOf_17 : decode cX3_tokenOf 17 = .ok (.iload_n 1, 1) := by decide +kernel
theorem dX3_tokenOf_18 : decode cX3_tokenOf 18 = .ok (.baload, 1) := by decide +kernel
theorem dX3_tokenOf_19 : decode cX3_tokenOf 19 = .ok (.invokestatic 70, 3) := by decide +kernel
theorem dX3_tokenOf_22 : decode cX3_tokenOf 22 = .ok (.ifCond .eq 55, 3) := by decide +kernel
theorem dX3_tokenOf_25 : decode cX3_tokenOf 25 = .ok (.iconst 0, 1) := by decide +kernel
theorem dX3_tokenOf_26 : decode cX3_tokenOf 26 = .ok (.istore_n 3, 1) := by decide +kernel
theorem dX3_tokenOf_27 : decode cX3_tokenOf 27 = .ok (.iload_n 1, 1) := by decide +kernel
theorem dX3_tokenOf_28 : decode cX3_tokenOf 28 = .ok (.istore 4, 2) := by decide +kernel
theorem dX3_tokenOf_30 : decode cX3_tokenOf 30 = .ok (.iload 4, 2) := by decide +kernel
theorem dX3_tokenOf_32 : decode cX3_tokenOf 32 = .ok (.iload_n 2, 1) := by decide +kernel
theorem dX3_tokenOf_33 : decode cX3_tokenOf 33 = .ok (.if_icmp .ge 29, 3) := by decide +kernel
theorem dX3_tokenOf_36 : decode cX3_tokenOf 36 = .ok (.iload_n 2, 1) := by decide +kernel
theorem dX3_tokenOf_37 : decode cX3_tokenOf 37 = .ok (.iload_n 1, 1) := by decide +kernel
theorem dX3_tokenOf_38 : decode cX3_tokenOf 38 = .ok (.isub, 1) := by decide +kernel
theorem dX3_tokenOf_39 : decode cX3_tokenOf 39 = .ok (.iconst 3, 1) := by decide +kernel
theorem dX3_tokenOf_40 : decode cX3_tokenOf 40 = .ok (.if_icmp .gt 22, 3) := by decide +kernel
theorem dX3_tokenOf_43 : decode cX3_tokenOf 43 = .ok (.bipush 10, 2) := by decide +kernel
theorem dX3_tokenOf_45 : decode cX3_tokenOf 45 = .ok (.iload_n 3, 1) := by decide +kernel
theorem dX3_tokenOf_46 : decode cX3_tokenOf 46 = .ok (.imul, 1) := by decide +kernel
theorem dX3_tokenOf_47 : decode cX3_tokenOf 47 = .ok (.aload_n 0, 1) := by decide +kernel
theorem dX3_tokenOf_48 : decode cX3_tokenOf 48 = .ok (.iload 4, 2) := by decide +kernel
theorem dX3_tokenOf_50 : decode cX3_tokenOf 50 = .ok (.baload, 1) := by decide +kernel
theorem dX3_tokenOf_51 : decode cX3_tokenOf 51 = .ok (.iadd, 1) := by decide +kernel
theorem dX3_tokenOf_52 : decode cX3_tokenOf 52 = .ok (.bipush 48, 2) := by decide +kernel
theorem dX3_tokenOf_54 : decode cX3_tokenOf 54 = .ok (.isub, 1) := by decide +kernel
theorem dX3_tokenOf_55 : decode cX3_tokenOf 55 = .ok (.istore_n 3, 1) := by decide +kernel
theorem dX3_tokenOf_56 : decode cX3_tokenOf 56 = .ok (.iinc 4 1, 3) := by decide +kernel
theorem dX3_tokenOf_59 : decode cX3_tokenOf 59 = .ok (.goto (-29), 3) := by decide +kernel
theorem dX3_tokenOf_62 : decode cX3_tokenOf 62 = .ok (.iload_n 2, 1) := by decide +kernel
theorem dX3_tokenOf_63 : decode cX3_tokenOf 63 = .ok (.iload_n 1, 1) := by decide +kernel
theorem dX3_tokenOf_64 : decode cX3_tokenOf 64 = .ok (.isub, 1) := by decide +kernel
theorem dX3_tokenOf_65 : decode cX3_tokenOf 65 = .ok (.iconst 3, 1) := by decide +kernel
theorem dX3_tokenOf_66 : decode cX3_tokenOf 66 = .ok (.if_icmp .gt 7, 3) := by decide +kernel
theorem dX3_tokenOf_69 : decode cX3_tokenOf 69 = .ok (.iload_n 3, 1) := by decide +kernel
theorem dX3_tokenOf_70 : decode cX3_tokenOf 70 = .ok (.goto 6, 3) := by decide +kernel
theorem dX3_tokenOf_73 : decode cX3_tokenOf 73 = .ok (.sipush 1001, 3) := by decide +kernel
theorem dX3_tokenOf_76 : decode cX3_tokenOf 76 = .ok (.ireturn, 1) := by decide +kernel
theorem dX3_tokenOf_77 : decode cX3_tokenOf 77 = .ok (.ldc 76, 2) := by decide +kernel
theorem dX3_tokenOf_79 : decode cX3_tokenOf 79 = .ok (.aload_n 0, 1) := by decide +kernel
theorem dX3_tokenOf_80 : decode cX3_tokenOf 80 = .ok (.iload_n 1, 1) := by decide +kernel
theorem dX3_tokenOf_81 : decode cX3_tokenOf 81 = .ok (.baload, 1) := by decide +kernel
theorem dX3_tokenOf_82 : decode cX3_tokenOf 82 = .ok (.sipush 255, 3) := by decide +kernel
theorem dX3_tokenOf_85 : decode cX3_tokenOf 85 = .ok (.iand, 1) := by decide +kernel
theorem dX3_tokenOf_86 : decode cX3_tokenOf 86 = .ok (.i2c, 1) := by decide +kernel
theorem dX3_tokenOf_87 : decode cX3_tokenOf 87 = .ok (.invokevirtual 78, 3) := by decide +kernel
theorem dX3_tokenOf_90 : decode cX3_tokenOf 90 = .ok (.istore_n 3, 1) := by decide +kernel
theorem dX3_tokenOf_91 : decode cX3_tokenOf 91 = .ok (.iload_n 3, 1) := by decide +kernel
theorem dX3_tokenOf_92 : decode cX3_tokenOf 92 = .ok (.ifCond .lt 11, 3) := by decide +kernel
theorem dX3_tokenOf_95 : decode cX3_tokenOf 95 = .ok (.sipush 1100, 3) := by decide +kernel
theorem dX3_tokenOf_98 : decode cX3_tokenOf 98 = .ok (.iload_n 3, 1) := by decide +kernel
theorem dX3_tokenOf_99 : decode cX3_tokenOf 99 = .ok (.iadd, 1) := by decide +kernel
theorem dX3_tokenOf_100 : decode cX3_tokenOf 100 = .ok (.goto 6, 3) := by decide +kernel
theorem dX3_tokenOf_103 : decode cX3_tokenOf 103 = .ok (.sipush 1001, 3) := by decide +kernel
theorem dX3_tokenOf_106 : decode cX3_tokenOf 106 = .ok (.ireturn, 1) := by decide +kernel
def f_X3_tokenOf_106 (w0 : Int32) (s : zS) : Option (Int32 × zS) :=
  some (w0, s)
set_option maxRecDepth 20000 in
theorem b_X3_tokenOf_106 {X : zX} (hX : zx_ok X cX3_tokenOf RX3 5) (hT : zx_rt X (some .int) (zR 5 111)) : ∀ (w0 : Int32) (s : zS), zV X (zq X zrI) 5 106 [] [.int w0] s (f_X3_tokenOf_106 w0 s) := by
  intro w0 s
  unfold f_X3_tokenOf_106
  exact zv_ireti hX hT dX3_tokenOf_106
def f_X3_tokenOf_76 (w0 : Int32) (s : zS) : Option (Int32 × zS) :=
  some (w0, s)
set_option maxRecDepth 20000 in
theorem b_X3_tokenOf_76 {X : zX} (hX : zx_ok X cX3_tokenOf RX3 5) (hT : zx_rt X (some .int) (zR 5 111)) : ∀ (w0 : Int32) (s : zS), zV X (zq X zrI) 5 76 [] [.int w0] s (f_X3_tokenOf_76 w0 s) := by
  intro w0 s
  unfold f_X3_tokenOf_76
  exact zv_ireti hX hT dX3_tokenOf_76
def f_X3_tokenOf_62 (v1 : Int32) (v2 : Int32) (v3 : Int32) (s : zS) : Option (Int32 × zS) :=
  if (nI 3) < (v2 - v1) then
  (f_X3_tokenOf_76 (nI 1001) s)
  else
  f_X3_tokenOf_76 v3 s
set_option maxRecDepth 20000 in
theorem b_X3_tokenOf_62 {X : zX} (hX : zx_ok X cX3_tokenOf RX3 5) (hT : zx_rt X (some .int) (zR 5 111)) : ∀ (v1 : Int32) (v2 : Int32) (v3 : Int32) (s : zS), zV X (zq X zrI) 5 62 [(1, .int v1), (2, .int v2), (3, .int v3)] [] s (f_X3_tokenOf_62 v1 v2 v3 s) := by
  intro v1 v2 v3 s
  unfold f_X3_tokenOf_62
  refine zv_iload_n hX dX3_tokenOf_62 1 rfl ?_
  refine zv_iload_n hX dX3_tokenOf_63 0 rfl ?_
  refine zv_isub hX dX3_tokenOf_64 ?_
  refine zv_iconst (v := (nI 3)) hX dX3_tokenOf_65 zi_i_3 ?_
  refine zv_icmp_gt (tgt := 73) hX dX3_tokenOf_66 rfl ?_ ?_
  · refine zv_sipush (v := (nI 1001)) hX dX3_tokenOf_73 zi_s_1001 ?_
    exact zv_sub [] rfl (b_X3_tokenOf_76 hX hT (nI 1001) s)
  · refine zv_iload_n hX dX3_tokenOf_69 2 rfl ?_
    refine zv_goto (tgt := 76) hX dX3_tokenOf_70 rfl ?_
    exact zv_sub [] rfl (b_X3_tokenOf_76 hX hT v3 s)
def f_X3_tokenOf_30 : Nat → Nat → Int32 → Int32 → Int32 → Int32 → zS → Option (Int32 × zS)
  | 0, _, _, _, _, _, _ => none
  | n + 1, v0, v1, v2, v3, v4, s =>
    if v2 ≤ v4 then
    (f_X3_tokenOf_62 v1 v2 v3 s)
    else
    if (nI 3) < (v2 - v1) then
    (f_X3_tokenOf_62 v1 v2 v3 s)
    else
    (zr_b s v0 v4).bind fun x1 =>
    zb ((((nI 10) * v3) + x1) - (nI 48)) fun x2 =>
    zb (v4 + (1 : Int32)) fun x3 =>
    f_X3_tokenOf_30 n v0 v1 v2 x2 x3 s
set_option maxRecDepth 20000 in
theorem b_X3_tokenOf_30 {X : zX} (hX : zx_ok X cX3_tokenOf RX3 5) (hT : zx_rt X (some .int) (zR 5 111)) : ∀ (n : Nat) (v0 : Nat) (v1 : Int32) (v2 : Int32) (v3 : Int32) (v4 : Int32) (s : zS), zV X (zq X zrI) 5 30 [(0, .ref (zx_ad X v0)), (1, .int v1), (2, .int v2), (3, .int v3), (4, .int v4)] [] s (f_X3_tokenOf_30 n v0 v1 v2 v3 v4 s) := by
  intro n
  induction n with
  | zero => intro v0 v1 v2 v3 v4 s; exact zv_none
  | succ n ih =>
    intro v0 v1 v2 v3 v4 s
    rw [f_X3_tokenOf_30]
    refine zv_iload hX dX3_tokenOf_30 4 rfl ?_
    refine zv_iload_n hX dX3_tokenOf_32 2 rfl ?_
    refine zv_icmp_ge (tgt := 62) hX dX3_tokenOf_33 rfl ?_ ?_
    · exact zv_sub [1, 2, 3] rfl (b_X3_tokenOf_62 hX hT v1 v2 v3 s)
    · refine zv_iload_n hX dX3_tokenOf_36 2 rfl ?_
      refine zv_iload_n hX dX3_tokenOf_37 1 rfl ?_
      refine zv_isub hX dX3_tokenOf_38 ?_
      refine zv_iconst (v := (nI 3)) hX dX3_tokenOf_39 zi_i_3 ?_
      refine zv_icmp_gt (tgt := 62) hX dX3_tokenOf_40 rfl ?_ ?_
      · exact zv_sub [1, 2, 3] rfl (b_X3_tokenOf_62 hX hT v1 v2 v3 s)
      · refine zv_bipush (v := (nI 10)) hX dX3_tokenOf_43 zi_b_10 ?_
        refine zv_iload_n hX dX3_tokenOf_45 3 rfl ?_
        refine zv_imul hX dX3_tokenOf_46 ?_
        refine zv_aload_n hX dX3_tokenOf_47 0 rfl ?_
        refine zv_iload hX dX3_tokenOf_48 4 rfl ?_
        refine zv_bald hX dX3_tokenOf_50 (fun x1 => ?_)
        refine zv_iadd hX dX3_tokenOf_51 ?_
        refine zv_bipush (v := (nI 48)) hX dX3_tokenOf_52 zi_b_48 ?_
        refine zv_isub hX dX3_tokenOf_54 ?_
        refine zv_istB_n (lw := fun x2 => [(3, .int x2), (0, .ref (zx_ad X v0)), (1, .int v1), (2, .int v2), (4, .int v4)]) hX dX3_tokenOf_55 (by decide) (fun _ => rfl) (fun x2 => ?_)
        refine zv_iincB (lw := fun x3 => [(4, .int x3), (3, .int x2), (0, .ref (zx_ad X v0)), (1, .int v1), (2, .int v2)]) hX dX3_tokenOf_56 4 rfl zi_i_1 (by decide) (fun _ => rfl) (fun x3 => ?_)
        refine zv_goto (tgt := 30) hX dX3_tokenOf_59 rfl ?_
        exact zv_sub [2, 3, 4, 1, 0] rfl (ih v0 v1 v2 x2 x3 s)
def f_X3_tokenOf (v0 : Nat) (v1 : Int32) (v2 : Int32) (s : zS) : Option (Int32 × zS) :=
  (zr_b s v0 v1).bind fun x4 =>
  zbd (f_X3_isLetter x4 s) fun r5 s6 =>
  if r5 = 0 then
  ((zr_b s6 v0 v1).bind fun x7 =>
  zbd (f_X3_isDigit x7 s6) fun r8 s9 =>
  if r8 = 0 then
  ((zr_b s9 v0 v1).bind fun x10 =>
  zbd (f_J0_indexOf_0f7a4 1 (((x10 &&& (nI 255)).toUInt32 % 65536).toInt32) s9) fun r11 s12 =>
  if r11 < 0 then
  (f_X3_tokenOf_106 (nI 1001) s12)
  else
  f_X3_tokenOf_106 ((nI 1100) + r11) s12)
  else
  f_X3_tokenOf_30 zFU v0 v1 v2 (0 : Int32) v1 s9)
  else
  zbd (f_X3_wordOf v0 v1 v2 s6) fun r13 s14 =>
  some (r13, s14)
set_option maxRecDepth 20000 in
theorem c_X3_tokenOf (Y : zG) (v0 : Nat) (v1 : Int32) (v2 : Int32) (s : zS) : zM Y yX3_tokenOf cX3_tokenOf 5 (some .int) (zR 5 111) [.ref (zy_a Y v0), .int v1, .int v2] s zrI (f_X3_tokenOf v0 v1 v2 s) := by
  refine zm_start (by decide +kernel) (Nat.le_of_ble_eq_true rfl) ?_
  intro X hY hT hX
  subst hY
  have hX : zx_ok X cX3_tokenOf RX3 5 := hX
  show zV X (zq X zrI) 5 0 [(0, .ref (zx_ad X v0)), (1, .int v1), (2, .int v2)] [] s _
  unfold f_X3_tokenOf
  refine zv_aload_n hX dX3_tokenOf_0 0 rfl ?_
  refine zv_iload_n hX dX3_tokenOf_1 1 rfl ?_
  refine zv_bald hX dX3_tokenOf_2 (fun x4 => ?_)
  refine zv_cSI [.int x4] (rest := []) hX hT.2.2.2.2 (c_X3_isLetter (zx_Y X) x4 s) wv_X3_isLetter wm_X3_66 rfl (Nat.le_of_ble_eq_true rfl) (Nat.le_of_ble_eq_true rfl) rfl (Nat.le_of_ble_eq_true rfl) dX3_tokenOf_3 (fun r5 s6 => ?_)
  refine zv_if_eq (tgt := 16) hX dX3_tokenOf_6 rfl ?_ ?_
  · refine zv_aload_n hX dX3_tokenOf_16 0 rfl ?_
    refine zv_iload_n hX dX3_tokenOf_17 1 rfl ?_
    refine zv_bald hX dX3_tokenOf_18 (fun x7 => ?_)
    refine zv_cSI [.int x7] (rest := []) hX hT.2.2.2.2 (c_X3_isDigit (zx_Y X) x7 s6) wv_X3_isDigit wm_X3_70 rfl (Nat.le_of_ble_eq_true rfl) (Nat.le_of_ble_eq_true rfl) rfl (Nat.le_of_ble_eq_true rfl) dX3_tokenOf_19 (fun r8 s9 => ?_)
    refine zv_if_eq (tgt := 77) hX dX3_tokenOf_22 rfl ?_ ?_
    · refine zv_ldcT hX dX3_tokenOf_77 ?_
      refine zv_aload_n hX dX3_tokenOf_79 0 rfl ?_
      refine zv_iload_n hX dX3_tokenOf_80 1 rfl ?_
      refine zv_bald hX dX3_tokenOf_81 (fun x10 => ?_)
      refine zv_sipush (v := (nI 255)) hX dX3_tokenOf_82 zi_s_255 ?_
      refine zv_iand hX dX3_tokenOf_85 ?_
      refine zv_i2c hX dX3_tokenOf_86 ?_
      refine zv_cTI [.int (((x10 &&& (nI 255)).toUInt32 % 65536).toInt32)] (i := 1) (rest := []) hX hT.2.2.2.2 (by decide) (c_J0_indexOf_0f7a4 (zx_Y X) 1 (((x10 &&& (nI 255)).toUInt32 % 65536).toInt32) s9) wb_J0_indexOf_0f7a4 wi_J0_indexOf_0f7a4 wq_J0_indexOf_0f7a4 rfl wm_X3_78 rfl (Nat.le_of_ble_eq_true rfl) (Nat.le_of_ble_eq_true rfl) rfl (Nat.le_of_ble_eq_true rfl) dX3_tokenOf_87 (fun r11 s12 => ?_)
      refine zv_istore_n (lv' := [(3, .int r11), (0, .ref (zx_ad X v0)), (1, .int v1), (2, .int v2)]) hX dX3_tokenOf_90 (by decide) rfl ?_
      refine zv_iload_n hX dX3_tokenOf_91 0 rfl ?_
      refine zv_if_lt (tgt := 103) hX dX3_tokenOf_92 rfl ?_ ?_
      · refine zv_sipush (v := (nI 1001)) hX dX3_tokenOf_103 zi_s_1001 ?_
        exact zv_sub [] rfl (b_X3_tokenOf_106 hX hT (nI 1001) s12)
      · refine zv_sipush (v := (nI 1100)) hX dX3_tokenOf_95 zi_s_1100 ?_
        refine zv_iload_n hX dX3_tokenOf_98 0 rfl ?_
        refine zv_iadd hX dX3_tokenOf_99 ?_
        refine zv_goto (tgt := 106) hX dX3_tokenOf_100 rfl ?_
        exact zv_sub [] rfl (b_X3_tokenOf_106 hX hT ((nI 1100) + r11) s12)
    · refine zv_iconst (v := (0 : Int32)) hX dX3_tokenOf_25 zi_i_0 ?_
      refine zv_istore_n (lv' := [(3, .int (0 : Int32)), (0, .ref (zx_ad X v0)), (1, .int v1), (2, .int v2)]) hX dX3_tokenOf_26 (by decide) rfl ?_
      refine zv_iload_n hX dX3_tokenOf_27 2 rfl ?_
      refine zv_istore (lv' := [(4, .int v1), (3, .int (0 : Int32)), (0, .ref (zx_ad X v0)), (1, .int v1), (2, .int v2)]) hX dX3_tokenOf_28 (by decide) rfl ?_
      exact zv_sub [2, 3, 4, 1, 0] rfl (b_X3_tokenOf_30 hX hT zFU v0 v1 v2 (0 : Int32) v1 s9)
  · refine zv_aload_n hX dX3_tokenOf_9 0 rfl ?_
    refine zv_iload_n hX dX3_tokenOf_10 1 rfl ?_
    refine zv_iload_n hX dX3_tokenOf_11 2 rfl ?_
    refine zv_cSI [.ref (zx_ad X v0), .int v1, .int v2] (rest := []) hX hT.2.2.2.2 (c_X3_wordOf (zx_Y X) v0 v1 v2 s6) wv_X3_wordOf wm_X3_73 rfl (Nat.le_of_ble_eq_true rfl) (Nat.le_of_ble_eq_true rfl) rfl (Nat.le_of_ble_eq_true rfl) dX3_tokenOf_12 (fun r13 s14 => ?_)
    exact zv_ireti hX hT dX3_tokenOf_15
theorem dX3_splitText_0 : decode cX3_splitText 0 = .ok (.iconst 0, 1) := by decide +kernel
theorem dX3_splitText_1 : decode cX3_splitText 1 = .ok (.istore_n 3, 1) := by decide +kernel
theorem dX3_splitText_2 : decode cX3_splitText 2 = .ok (.iconst 0, 1) := by decide +kernel
theorem dX3_splitText_3 : decode cX3_splitText 3 = .ok (.istore 5, 2) := by decide +kernel
theorem dX3_splitText_5 : decode cX3_splitText 5 = .ok (.iload 5, 2) := by decide +kernel
theorem dX3_splitText_7 : decode cX3_splitText 7 = .ok (.iload_n 2, 1) := by decide +kernel
theorem dX3_splitText_8 : decode cX3_splitText 8 = .ok (.if_icmp .ge 88, 3) := by decide +kernel
theorem dX3_splitText_11 : decode cX3_splitText 11 = .ok (.aload_n 1, 1) := by decide +kernel
theorem dX3_splitText_12 : decode cX3_splitText 12 = .ok (.iload 5, 2) := by decide +kernel
theorem dX3_splitText_14 : decode cX3_splitText 14 = .ok (.baload, 1) := by decide +kernel
theorem dX3_splitText_15 : decode cX3_splitText 15 = .ok (.sipush 255, 3) := by decide +kernel
theorem dX3_splitText_18 : decode cX3_splitText 18 = .ok (.iand, 1) := by decide +kernel
theorem dX3_splitText_19 : decode cX3_splitText 19 = .ok (.istore 6, 2) := by decide +kernel
theorem dX3_splitText_21 : decode cX3_splitText 21 = .ok (.iload 5, 2) := by decide +kernel
theorem dX3_splitText_23 : decode cX3_splitText 23 = .ok (.iconst 1, 1) := by decide +kernel
theorem dX3_splitText_24 : decode cX3_splitText 24 = .ok (.iadd, 1) := by decide +kernel
theorem dX3_splitText_25 : decode cX3_splitText 25 = .ok (.istore 4, 2) := by decide +kernel
theorem dX3_splitText_27 : decode cX3_splitText 27 = .ok (.iload 6, 2) := by decide +kernel
theorem dX3_splitText_29 : decode cX3_splitText 29 = .ok (.bipush 10, 2) := by decide +kernel
theorem dX3_splitText_31 : decode cX3_splitText 31 = .ok (.if_icmp .eq 51, 3) := by decide +kernel
theorem dX3_splitText_34 : decode cX3_splitText 34 = .ok (.iload 6, 2) := by decide +kernel
theorem dX3_splitText_36 : decode cX3_splitText 36 = .ok (.bipush 32, 2) := by decide +kernel
theorem dX3_splitText_38 : decode cX3_splitText 38 = .ok (.if_icmp .eq 44, 3) := by decide +kernel
theorem dX3_splitText_41 : decode cX3_splitText 41 = .ok (.iload_n 3, 1) := by decide +kernel
theorem dX3_splitText_42 : decode cX3_splitText 42 = .ok (.sipush 900, 3) := by decide +kernel
theorem dX3_splitText_45 : decode cX3_splitText 45 = .ok (.if_icmp .ge 37, 3) := by decide +kernel
theorem dX3_splitText_48 : decode cX3_splitText 48 = .ok (.aload_n 1, 1) := by decide +kernel
theorem dX3_splitText_49 : decode cX3_splitText 49 = .ok (.iload 5, 2) := by decide +kernel
theorem dX3_splitText_51 : decode cX3_splitText 51 = .ok (.iload_n 2, 1) := by decide +kernel
theorem dX3_splitText_52 : decode cX3_splitText 52 = .ok (.invokestatic 53, 3) := by decide +kernel
theorem dX3_splitText_55 : decode cX3_splitText 55 = .ok (.istore 4, 2) := by decide +kernel
theorem dX3_splitText_57 : decode cX3_splitText 57 = .ok (.aload_n 0, 1) := by decide +kernel
theorem dX3_splitText_58 : decode cX3_splitText 58 = .ok (.getfield 22, 3) := by decide +kernel
theorem dX3_splitText_61 : decode cX3_splitText 61 = .ok (.iload_n 3, 1) := by decide +kernel
theorem dX3_splitText_62 : decode cX3_splitText 62 = .ok (.aload_n 1, 1) := by decide +kernel
theorem dX3_splitText_63 : decode cX3_splitText 63 = .ok (.iload 5, 2) := by decide +kernel
theorem dX3_splitText_65 : decode cX3_splitText 65 = .ok (.iload 4, 2) := by decide +kernel
theorem dX3_splitText_67 : decode cX3_splitText 67 = .ok (.invokestatic 57, 3) := by decide +kernel
theorem dX3_splitText_70 : decode cX3_splitText 70 = .ok (.iastore, 1) := by decide +kernel
theorem dX3_splitText_71 : decode cX3_splitText 71 = .ok (.aload_n 0, 1) := by decide +kernel
theorem dX3_splitText_72 : decode cX3_splitText 72 = .ok (.getfield 26, 3) := by decide +kernel
theorem dX3_splitText_75 : decode cX3_splitText 75 = .ok (.iload_n 3, 1) := by decide +kernel
theorem dX3_splitText_76 : decode cX3_splitText 76 = .ok (.iload 5, 2) := by decide +kernel
theorem dX3_splitText_78 : decode cX3_splitText 78 = .ok (.iastore, 1) := by decide +kernel
theorem dX3_splitText_79 : decode cX3_splitText 79 = .ok (.iinc 3 1, 3) := by decide +kernel
theorem dX3_splitText_82 : decode cX3_splitText 82 = .ok (.iload 4, 2) := by decide +kernel
theorem dX3_splitText_84 : decode cX3_splitText 84 = .ok (.iload 5, 2) := by decide +kernel
theorem dX3_splitText_86 : decode cX3_splitText 86 = .ok (.iconst 1, 1) := by decide +kernel
theorem dX3_splitText_87 : decode cX3_splitText 87 = .ok (.iadd, 1) := by decide +kernel
theorem dX3_splitText_88 : decode cX3_splitText 88 = .ok (.invokestatic 60, 3) := by decide +kernel
theorem dX3_splitText_91 : decode cX3_splitText 91 = .ok (.istore 5, 2) := by decide +kernel
theorem dX3_splitText_93 : decode cX3_splitText 93 = .ok (.goto (-88), 3) := by decide +kernel
theorem dX3_splitText_96 : decode cX3_splitText 96 = .ok (.aload_n 0, 1) := by decide +kernel
theorem dX3_splitText_97 : decode cX3_splitText 97 = .ok (.getfield 22, 3) := by decide +kernel
theorem dX3_splitText_100 : decode cX3_splitText 100 = .ok (.iload_n 3, 1) := by decide +kernel
theorem dX3_splitText_101 : decode cX3_splitText 101 = .ok (.sipush 1000, 3) := by decide +kernel
theorem dX3_splitText_104 : decode cX3_splitText 104 = .ok (.iastore, 1) := by decide +kernel
theorem dX3_splitText_105 : decode cX3_splitText 105 = .ok (.aload_n 0, 1) := by decide +kernel
theorem dX3_splitText_106 : decode cX3_splitText 106 = .ok (.getfield 26, 3) := by decide +kernel
theorem dX3_splitText_109 : decode cX3_splitText 109 = .ok (.iload_n 3, 1) := by decide +kernel
theorem dX3_splitText_110 : decode cX3_splitText 110 = .ok (.iload_n 2, 1) := by decide +kernel
theorem dX3_splitText_111 : decode cX3_splitText 111 = .ok (.iastore, 1) := by decide +kernel
theorem dX3_splitText_112 : decode cX3_splitText 112 = .ok (.return_, 1) := by decide +kernel
def f_X3_splitText_82 (kb_5 : Nat → Int32 → Int32 → Int32 → zS → Option (Unit × zS)) (v1 : Nat) (v2 : Int32) (v3 : Int32) (v4 : Int32) (v5 : Int32) (s : zS) : Option (Unit × zS) :=
  zbd (f_J9_max_7cf53 v4 (v5 + (1 : Int32)) s) fun r1 s2 =>
  kb_5 v1 v2 v3 r1 s2
set_option maxRecDepth 20000 in
theorem b_X3_splitText_82 {X : zX} {kb_5 : Nat → Int32 → Int32 → Int32 → zS → Option (Unit × zS)} (hX : zx_ok X cX3_splitText RX3 7) (hT : zx_rt X none (zR 6 135)) (hk_5 : ∀ (v1 : Nat) (v2 : Int32) (v3 : Int32) (v5 : Int32) (s : zS), zV X (zq X zrV) 7 5 [(0, .ref (zx_ad X 30)), (1, .ref (zx_ad X v1)), (2, .int v2), (3, .int v3), (5, .int v5)] [] s (kb_5 v1 v2 v3 v5 s)) : ∀ (v1 : Nat) (v2 : Int32) (v3 : Int32) (v4 : Int32) (v5 : Int32) (s : zS), zV X (zq X zrV) 7 82 [(0, .ref (zx_ad X 30)), (1, .ref (zx_ad X v1)), (2, .int v2), (3, .int v3), (4, .int v4), (5, .int v5)] [] s (f_X3_splitText_82 kb_5 v1 v2 v3 v4 v5 s) := by
  intro v1 v2 v3 v4 v5 s
  unfold f_X3_splitText_82
  refine zv_iload hX dX3_splitText_82 4 rfl ?_
  refine zv_iload hX dX3_splitText_84 5 rfl ?_
  refine zv_iconst (v := (1 : Int32)) hX dX3_splitText_86 zi_i_1 ?_
  refine zv_iadd hX dX3_splitText_87 ?_
  refine zv_cSI [.int v4, .int (v5 + (1 : Int32))] (rest := []) hX hT.2.2.2.2 (c_J9_max_7cf53 (zx_Y X) v4 (v5 + (1 : Int32)) s) wv_J9_max_7cf53 wm_X3_60 rfl (Nat.le_of_ble_eq_true rfl) (Nat.le_of_ble_eq_true rfl) rfl (Nat.le_of_ble_eq_true rfl) dX3_splitText_88 (fun r1 s2 => ?_)
  refine zv_istore (lv' := [(5, .int r1), (0, .ref (zx_ad X 30)), (1, .ref (zx_ad X v1)), (2, .int v2), (3, .int v3), (4, .int v4)]) hX dX3_splitText_91 (by decide) rfl ?_
  refine zv_goto (tgt := 5) hX dX3_splitText_93 rfl ?_
  exact zv_sub [1, 2, 3, 4, 0] rfl (hk_5 v1 v2 v3 r1 s2)
def f_X3_splitText_5 : Nat → Nat → Int32 → Int32 → Int32 → zS → Option (Unit × zS)
  | 0, _, _, _, _, _ => none
  | n + 1, v1, v2, v3, v5, s =>
    if v2 ≤ v5 then
    ((zw_i s 40 v3 (nI 1000)).bind fun s3 =>
    (zw_i s3 41 v3 v2).bind fun s4 =>
    some ((), s4))
    else
    (zr_b s v1 v5).bind fun x5 =>
    zb (x5 &&& (nI 255)) fun x6 =>
    zb (v5 + (1 : Int32)) fun x7 =>
    if x6 = (nI 10) then
    (f_X3_splitText_82 (f_X3_splitText_5 n) v1 v2 v3 x7 v5 s)
    else
    if x6 = (nI 32) then
    (f_X3_splitText_82 (f_X3_splitText_5 n) v1 v2 v3 x7 v5 s)
    else
    if (nI 900) ≤ v3 then
    (f_X3_splitText_82 (f_X3_splitText_5 n) v1 v2 v3 x7 v5 s)
    else
    zbd (f_X3_tokenEnd v1 v5 v2 s) fun r8 s9 =>
    zbd (f_X3_tokenOf v1 v5 r8 s9) fun r10 s11 =>
    (zw_i s11 40 v3 r10).bind fun s12 =>
    (zw_i s12 41 v3 v5).bind fun s13 =>
    zb (v3 + (1 : Int32)) fun x14 =>
    f_X3_splitText_82 (f_X3_splitText_5 n) v1 v2 x14 r8 v5 s13
set_option maxRecDepth 20000 in
theorem b_X3_splitText_5 {X : zX} (hX : zx_ok X cX3_splitText RX3 7) (hT : zx_rt X none (zR 6 135)) : ∀ (n : Nat) (v1 : Nat) (v2 : Int32) (v3 : Int32) (v5 : Int32) (s : zS), zV X (zq X zrV) 7 5 [(0, .ref (zx_ad X 30)), (1, .ref (zx_ad X v1)), (2, .int v2), (3, .int v3), (5, .int v5)] [] s (f_X3_splitText_5 n v1 v2 v3 v5 s) := by
  intro n
  induction n with
  | zero => intro v1 v2 v3 v5 s; exact zv_none
  | succ n ih =>
    intro v1 v2 v3 v5 s
    rw [f_X3_splitText_5]
    refine zv_iload hX dX3_splitText_5 4 rfl ?_
    refine zv_iload_n hX dX3_splitText_7 2 rfl ?_
    refine zv_icmp_ge (tgt := 96) hX dX3_splitText_8 rfl ?_ ?_
    · refine zv_aload_n hX dX3_splitText_96 0 rfl ?_
      refine zv_geta hX wf_X3_22 wc_3 zd_30 zj_30_3 c9_3 zr_30_3 (by decide) dX3_splitText_97 ?_
      refine zv_iload_n hX dX3_splitText_100 3 rfl ?_
      refine zv_sipush (v := (nI 1000)) hX dX3_splitText_101 zi_s_1000 ?_
      refine zv_iast hX dX3_splitText_104 (fun s3 => ?_)
      refine zv_aload_n hX dX3_splitText_105 0 rfl ?_
      refine zv_geta hX wf_X3_26 wc_3 zd_30 zj_30_4 c9_3 zr_30_4 (by decide) dX3_splitText_106 ?_
      refine zv_iload_n hX dX3_splitText_109 3 rfl ?_
      refine zv_iload_n hX dX3_splitText_110 2 rfl ?_
      refine zv_iast hX dX3_splitText_111 (fun s4 => ?_)
      exact zv_vret hX hT dX3_splitText_112
    · refine zv_aload_n hX dX3_splitText_11 1 rfl ?_
      refine zv_iload hX dX3_splitText_12 4 rfl ?_
      refine zv_bald hX dX3_splitText_14 (fun x5 => ?_)
      refine zv_sipush (v := (nI 255)) hX dX3_splitText_15 zi_s_255 ?_
      refine zv_iand hX dX3_splitText_18 ?_
      refine zv_istB (lw := fun x6 => [(6, .int x6), (0, .ref (zx_ad X 30)), (1, .ref (zx_ad X v1)), (2, .int v2), (3, .int v3), (5, .int v5)]) hX dX3_splitText_19 (by decide) (fun _ => rfl) (fun x6 => ?_)
      refine zv_iload hX dX3_splitText_21 5 rfl ?_
      refine zv_iconst (v := (1 : Int32)) hX dX3_splitText_23 zi_i_1 ?_
      refine zv_iadd hX dX3_splitText_24 ?_
      refine zv_istB (lw := fun x7 => [(4, .int x7), (6, .int x6), (0, .ref (zx_ad X 30)), (1, .ref (zx_ad X v1)), (2, .int v2), (3, .int v3), (5, .int v5)]) hX dX3_splitText_25 (by decide) (fun _ => rfl) (fun x7 => ?_)
      refine zv_iload hX dX3_splitText_27 1 rfl ?_
      refine zv_bipush (v := (nI 10)) hX dX3_splitText_29 zi_b_10 ?_
      refine zv_icmp_eq (tgt := 82) hX dX3_splitText_31 rfl ?_ ?_
      · exact zv_sub [2, 3, 4, 5, 0, 6] rfl (b_X3_splitText_82 hX hT ih v1 v2 v3 x7 v5 s)
      · refine zv_iload hX dX3_splitText_34 1 rfl ?_
        refine zv_bipush (v := (nI 32)) hX dX3_splitText_36 zi_b_32 ?_
        refine zv_icmp_eq (tgt := 82) hX dX3_splitText_38 rfl ?_ ?_
        · exact zv_sub [2, 3, 4, 5, 0, 6] rfl (b_X3_splitText_82 hX hT ih v1 v2 v3 x7 v5 s)
        · refine zv_iload_n hX dX3_splitText_41 5 rfl ?_
          refine zv_sipush (v := (nI 900)) hX dX3_splitText_42 zi_s_900 ?_
          refine zv_icmp_ge (tgt := 82) hX dX3_splitText_45 rfl ?_ ?_
          · exact zv_sub [2, 3, 4, 5, 0, 6] rfl (b_X3_splitText_82 hX hT ih v1 v2 v3 x7 v5 s)
          · refine zv_aload_n hX dX3_splitText_48 3 rfl ?_
            refine zv_iload hX dX3_splitText_49 6 rfl ?_
            refine zv_iload_n hX dX3_splitText_51 4 rfl ?_
            refine zv_cSI [.ref (zx_ad X v1), .int v5, .int v2] (rest := []) hX hT.2.2.2.2 (c_X3_tokenEnd (zx_Y X) v1 v5 v2 s) wv_X3_tokenEnd wm_X3_53 rfl (Nat.le_of_ble_eq_true rfl) (Nat.le_of_ble_eq_true rfl) rfl (Nat.le_of_ble_eq_true rfl) dX3_splitText_52 (fun r8 s9 => ?_)
            refine zv_istore (lv' := [(4, .int r8), (6, .int x6), (0, .ref (zx_ad X 30)), (1, .ref (zx_ad X v1)), (2, .int v2), (3, .int v3), (5, .int v5)]) hX dX3_splitText_55 (by decide) rfl ?_
            refine zv_aload_n hX dX3_splitText_57 2 rfl ?_
            refine zv_geta hX wf_X3_22 wc_3 zd_30 zj_30_3 c9_3 zr_30_3 (by decide) dX3_splitText_58 ?_
            refine zv_iload_n hX dX3_splitText_61 5 rfl ?_
            refine zv_aload_n hX dX3_splitText_62 3 rfl ?_
            refine zv_iload hX dX3_splitText_63 6 rfl ?_
            refine zv_iload hX dX3_splitText_65 0 rfl ?_
            refine zv_cSI [.ref (zx_ad X v1), .int v5, .int r8] (rest := [.int v3, .ref (zx_ad X 40)]) hX hT.2.2.2.2 (c_X3_tokenOf (zx_Y X) v1 v5 r8 s9) wv_X3_tokenOf wm_X3_57 rfl (Nat.le_of_ble_eq_true rfl) (Nat.le_of_ble_eq_true rfl) rfl (Nat.le_of_ble_eq_true rfl) dX3_splitText_67 (fun r10 s11 => ?_)
            refine zv_iast hX dX3_splitText_70 (fun s12 => ?_)
            refine zv_aload_n hX dX3_splitText_71 2 rfl ?_
            refine zv_geta hX wf_X3_26 wc_3 zd_30 zj_30_4 c9_3 zr_30_4 (by decide) dX3_splitText_72 ?_
            refine zv_iload_n hX dX3_splitText_75 5 rfl ?_
            refine zv_iload hX dX3_splitText_76 6 rfl ?_
            refine zv_iast hX dX3_splitText_78 (fun s13 => ?_)
            refine zv_iincB (lw := fun x14 => [(3, .int x14), (4, .int r8), (6, .int x6), (0, .ref (zx_ad X 30)), (1, .ref (zx_ad X v1)), (2, .int v2), (5, .int v5)]) hX dX3_splitText_79 5 rfl zi_i_1 (by decide) (fun _ => rfl) (fun x14 => ?_)
            exact zv_sub [3, 4, 5, 0, 1, 6] rfl (b_X3_splitText_82 hX hT ih v1 v2 x14 r8 v5 s13)
def f_X3_splitText (v1 : Nat) (v2 : Int32) (s : zS) : Option (Unit × zS) :=
  f_X3_splitText_5 zFU v1 v2 (0 : Int32) (0 : Int32) s
set_option maxRecDepth 20000 in
theorem c_X3_splitText (Y : zG) (v1 : Nat) (v2 : Int32) (s : zS) : zM Y yX3_splitText cX3_splitText 7 none (zR 6 135) [.ref (zy_a Y 30), .ref (zy_a Y v1), .int v2] s zrV (f_X3_splitText v1 v2 s) := by
  refine zm_start (by decide +kernel) (Nat.le_of_ble_eq_true rfl) ?_
  intro X hY hT hX
  subst hY
  have hX : zx_ok X cX3_splitText RX3 7 := hX
  show zV X (zq X zrV) 7 0 [(0, .ref (zx_ad X 30)), (1, .ref (zx_ad X v1)), (2, .int v2)] [] s _
  unfold f_X3_splitText
  refine zv_iconst (v := (0 : Int32)) hX dX3_splitText_0 zi_i_0 ?_
  refine zv_istore_n (lv' := [(3, .int (0 : Int32)), (0, .ref (zx_ad X 30)), (1, .ref (zx_ad X v1)), (2, .int v2)]) hX dX3_splitText_1 (by decide) rfl ?_
  refine zv_iconst (v := (0 : Int32)) hX dX3_splitText_2 zi_i_0 ?_
  refine zv_istore (lv' := [(5, .int (0 : Int32)), (3, .int (0 : Int32)), (0, .ref (zx_ad X 30)), (1, .ref (zx_ad X v1)), (2, .int v2)]) hX dX3_splitText_3 (by decide) rfl ?_
  exact zv_sub [2, 3, 4, 1, 0] rfl (b_X3_splitText_5 hX hT zFU v1 v2 (0 : Int32) (0 : Int32) s)
theorem dX5_empty_0 : decode cX5_empty 0 = .ok (.aload_n 0, 1) := by decide +kernel
theorem dX5_empty_1 : decode cX5_empty 1 = .ok (.iconst 0, 1) := by decide +kernel
theorem dX5_empty_2 : decode cX5_empty 2 = .ok (.putfield 42, 3) := by decide +kernel
theorem dX5_empty_5 : decode cX5_empty 5 = .ok (.aload_n 0, 1) := by decide +kernel
theorem dX5_empty_6 : decode cX5_empty 6 = .ok (.iconst 0, 1) := by decide +kernel
theorem dX5_empty_7 : decode cX5_empty 7 = .ok (.putfield 54, 3) := by decide +kernel
theorem dX5_empty_10 : decode cX5_empty 10 = .ok (.aload_n 0, 1) := by decide +kernel
theorem dX5_empty_11 : decode cX5_empty 11 = .ok (.iconst 0, 1) := by decide +kernel
theorem dX5_empty_12 : decode cX5_empty 12 = .ok (.putfield 57, 3) := by decide +kernel
theorem dX5_empty_15 : decode cX5_empty 15 = .ok (.aload_n 0, 1) := by decide +kernel
theorem dX5_empty_16 : decode cX5_empty 16 = .ok (.iconst 0, 1) := by decide +kernel
theorem dX5_empty_17 : decode cX5_empty 17 = .ok (.putfield 60, 3) := by decide +kernel
theorem dX5_empty_20 : decode cX5_empty 20 = .ok (.aload_n 0, 1) := by decide +kernel
theorem dX5_empty_21 : decode cX5_empty 21 = .ok (.iconst 0, 1) := by decide +kernel
theorem dX5_empty_22 : decode cX5_empty 22 = .ok (.putfield 63, 3) := by decide +kernel
theorem dX5_empty_25 : decode cX5_empty 25 = .ok (.aload_n 0, 1) := by decide +kernel
theorem dX5_empty_26 : decode cX5_empty 26 = .ok (.iconst 0, 1) := by decide +kernel
theorem dX5_empty_27 : decode cX5_empty 27 = .ok (.putfield 66, 3) := by decide +kernel
theorem dX5_empty_30 : decode cX5_empty 30 = .ok (.aload_n 0, 1) := by decide +kernel
theorem dX5_empty_31 : decode cX5_empty 31 = .ok (.iconst 0, 1) := by decide +kernel
theorem dX5_empty_32 : decode cX5_empty 32 = .ok (.putfield 69, 3) := by decide +kernel
theorem dX5_empty_35 : decode cX5_empty 35 = .ok (.aload_n 0, 1) := by decide +kernel
theorem dX5_empty_36 : decode cX5_empty 36 = .ok (.getfield 9, 3) := by decide +kernel
theorem dX5_empty_39 : decode cX5_empty 39 = .ok (.iconst 0, 1) := by decide +kernel
theorem dX5_empty_40 : decode cX5_empty 40 = .ok (.invokestatic 36, 3) := by decide +kernel
theorem dX5_empty_43 : decode cX5_empty 43 = .ok (.aload_n 0, 1) := by decide +kernel
theorem dX5_empty_44 : decode cX5_empty 44 = .ok (.getfield 24, 3) := by decide +kernel
theorem dX5_empty_47 : decode cX5_empty 47 = .ok (.iconst (-1), 1) := by decide +kernel
theorem dX5_empty_48 : decode cX5_empty 48 = .ok (.invokestatic 36, 3) := by decide +kernel
theorem dX5_empty_51 : decode cX5_empty 51 = .ok (.return_, 1) := by decide +kernel
def f_X5_empty_31  (s : zS) : Option (Unit × zS) :=
  zb (zs_i s 31 0 (0 : Int32)) fun s1 =>
  zb (zs_i s1 31 1 (0 : Int32)) fun s2 =>
  zb (zs_i s2 31 8 (0 : Int32)) fun s3 =>
  zb (zs_i s3 31 9 (0 : Int32)) fun s4 =>
  zb (zs_i s4 31 10 (0 : Int32)) fun s5 =>
  zb (zs_i s5 31 11 (0 : Int32)) fun s6 =>
  zb (zs_i s6 31 12 (0 : Int32)) fun s7 =>
  zbd (f_J7_fill_53178 32 (0 : Int32) s7) fun _ s8 =>
  zbd (f_J7_fill_53178 36 (-1 : Int32) s8) fun _ s9 =>
  some ((), s9)
set_option maxRecDepth 20000 in
theorem c_X5_empty_31 (Y : zG)  (s : zS) : zM Y yX5_empty cX5_empty 1 none (zR 1 23) [.ref (zy_a Y 31)] s zrV (f_X5_empty_31  s) := by
  refine zm_start (by decide +kernel) (Nat.le_of_ble_eq_true rfl) ?_
  intro X hY hT hX
  subst hY
  have hX : zx_ok X cX5_empty RX5 1 := hX
  show zV X (zq X zrV) 1 0 [(0, .ref (zx_ad X 31))] [] s _
  unfold f_X5_empty_31
  refine zv_aload_n hX dX5_empty_0 0 rfl ?_
  refine zv_iconst (v := (0 : Int32)) hX dX5_empty_1 zi_i_0 ?_
  refine zv_puti hX wf_X5_42 wc_5 wk_5_0 zd_31 zj_31_0 c9_5 zr_31_0 dX5_empty_2 (fun s1 => ?_)
  refine zv_aload_n hX dX5_empty_5 0 rfl ?_
  refine zv_iconst (v := (0 : Int32)) hX dX5_empty_6 zi_i_0 ?_
  refine zv_puti hX wf_X5_54 wc_5 wk_5_1 zd_31 zj_31_1 c9_5 zr_31_1 dX5_empty_7 (fun s2 => ?_)
  refine zv_aload_n hX dX5_empty_10 0 rfl ?_
  refine zv_iconst (v := (0 : Int32)) hX dX5_empty_11 zi_i_0 ?_
  refine zv_puti hX wf_X5_57 wc_5 wk_5_8 zd_31 zj_31_8 c9_5 zr_31_8 dX5_empty_12 (fun s3 => ?_)
  refine zv_aload_n hX dX5_empty_15 0 rfl ?_
  refine zv_iconst (v := (0 : Int32)) hX dX5_empty_16 zi_i_0 ?_
  refine zv_puti hX wf_X5_60 wc_5 wk_5_9 zd_31 zj_31_9 c9_5 zr_31_9 dX5_empty_17 (fun s4 => ?_)
  refine zv_aload_n hX dX5_empty_20 0 rfl ?_
  refine zv_iconst (v := (0 : Int32)) hX dX5_empty_21 zi_i_0 ?_
  refine zv_puti hX wf_X5_63 wc_5 wk_5_10 zd_31 zj_31_10 c9_5 zr_31_10 dX5_empty_22 (fun s5 => ?_)
  refine zv_aload_n hX dX5_empty_25 0 rfl ?_
  refine zv_iconst (v := (0 : Int32)) hX dX5_empty_26 zi_i_0 ?_
  refine zv_puti hX wf_X5_66 wc_5 wk_5_11 zd_31 zj_31_11 c9_5 zr_31_11 dX5_empty_27 (fun s6 => ?_)
  refine zv_aload_n hX dX5_empty_30 0 rfl ?_
  refine zv_iconst (v := (0 : Int32)) hX dX5_empty_31 zi_i_0 ?_
  refine zv_puti hX wf_X5_69 wc_5 wk_5_12 zd_31 zj_31_12 c9_5 zr_31_12 dX5_empty_32 (fun s7 => ?_)
  refine zv_aload_n hX dX5_empty_35 0 rfl ?_
  refine zv_geta hX wf_X5_9 wc_5 zd_31 zj_31_2 c9_5 zr_31_2 (by decide) dX5_empty_36 ?_
  refine zv_iconst (v := (0 : Int32)) hX dX5_empty_39 zi_i_0 ?_
  refine zv_cSV [.ref (zx_ad X 32), .int (0 : Int32)] (rest := []) hX hT.2.2.2.2 (c_J7_fill_53178 (zx_Y X) 32 (0 : Int32) s7) wv_J7_fill_53178 wm_X5_36 rfl (Nat.le_of_ble_eq_true rfl) (Nat.le_of_ble_eq_true rfl) rfl (Nat.le_of_ble_eq_true rfl) dX5_empty_40 (fun _ s8 => ?_)
  refine zv_aload_n hX dX5_empty_43 0 rfl ?_
  refine zv_geta hX wf_X5_24 wc_5 zd_31 zj_31_6 c9_5 zr_31_6 (by decide) dX5_empty_44 ?_
  refine zv_iconst (v := (-1 : Int32)) hX dX5_empty_47 zi_i_m1 ?_
  refine zv_cSV [.ref (zx_ad X 36), .int (-1 : Int32)] (rest := []) hX hT.2.2.2.2 (c_J7_fill_53178 (zx_Y X) 36 (-1 : Int32) s8) wv_J7_fill_53178 wm_X5_36 rfl (Nat.le_of_ble_eq_true rfl) (Nat.le_of_ble_eq_true rfl) rfl (Nat.le_of_ble_eq_true rfl) dX5_empty_48 (fun _ s9 => ?_)
  exact zv_vret hX hT dX5_empty_51
theorem dX3_read_0 : decode cX3_read 0 = .ok (.aload_n 0, 1) := by decide +kernel
theorem dX3_read_1 : decode cX3_read 1 = .ok (.iconst 0, 1) := by decide +kernel
theorem dX3_read_2 : decode cX3_read 2 = .ok (.putfield 29, 3) := by decide +kernel
theorem dX3_read_5 : decode cX3_read 5 = .ok (.aload_n 0, 1) := by decide +kernel
theorem dX3_read_6 : decode cX3_read 6 = .ok (.iconst (-1), 1) := by decide +kernel
theorem dX3_read_7 : decode cX3_read 7 = .ok (.putfield 18, 3) := by decide +kernel
theorem dX3_read_10 : decode cX3_read 10 = .ok (.aload_n 0, 1) := by decide +kernel
theorem dX3_read_11 : decode cX3_read 11 = .ok (.getfield 12, 3) := by decide +kernel
theorem dX3_read_14 : decode cX3_read 14 = .ok (.invokevirtual 32, 3) := by decide +kernel
theorem dX3_read_17 : decode cX3_read 17 = .ok (.aload_n 0, 1) := by decide +kernel
theorem dX3_read_18 : decode cX3_read 18 = .ok (.aload_n 1, 1) := by decide +kernel
theorem dX3_read_19 : decode cX3_read 19 = .ok (.iload_n 2, 1) := by decide +kernel
theorem dX3_read_20 : decode cX3_read 20 = .ok (.invokevirtual 35, 3) := by decide +kernel
theorem dX3_read_23 : decode cX3_read 23 = .ok (.aload_n 0, 1) := by decide +kernel
theorem dX3_read_24 : decode cX3_read 24 = .ok (.iconst 0, 1) := by decide +kernel
theorem dX3_read_25 : decode cX3_read 25 = .ok (.putfield 39, 3) := by decide +kernel
theorem dX3_read_28 : decode cX3_read 28 = .ok (.aload_n 0, 1) := by decide +kernel
theorem dX3_read_29 : decode cX3_read 29 = .ok (.sipush 1200, 3) := by decide +kernel
theorem dX3_read_32 : decode cX3_read 32 = .ok (.invokevirtual 42, 3) := by decide +kernel
theorem dX3_read_35 : decode cX3_read 35 = .ok (.ifCond .eq 88, 3) := by decide +kernel
theorem dX3_read_38 : decode cX3_read 38 = .ok (.aload_n 0, 1) := by decide +kernel
theorem dX3_read_39 : decode cX3_read 39 = .ok (.sipush 1100, 3) := by decide +kernel
theorem dX3_read_42 : decode cX3_read 42 = .ok (.invokevirtual 42, 3) := by decide +kernel
theorem dX3_read_45 : decode cX3_read 45 = .ok (.ifCond .eq 78, 3) := by decide +kernel
theorem dX3_read_48 : decode cX3_read 48 = .ok (.aload_n 0, 1) := by decide +kernel
theorem dX3_read_49 : decode cX3_read 49 = .ok (.getfield 12, 3) := by decide +kernel
theorem dX3_read_52 : decode cX3_read 52 = .ok (.iconst 1, 1) := by decide +kernel
theorem dX3_read_53 : decode cX3_read 53 = .ok (.putfield 46, 3) := by decide +kernel
theorem dX3_read_56 : decode cX3_read 56 = .ok (.iconst 0, 1) := by decide +kernel
theorem dX3_read_57 : decode cX3_read 57 = .ok (.istore_n 3, 1) := by decide +kernel
theorem dX3_read_58 : decode cX3_read 58 = .ok (.iload_n 3, 1) := by decide +kernel
theorem dX3_read_59 : decode cX3_read 59 = .ok (.sipush 900, 3) := by decide +kernel
theorem dX3_read_62 : decode cX3_read 62 = .ok (.if_icmp .ge 61, 3) := by decide +kernel
theorem dX3_read_65 : decode cX3_read 65 = .ok (.aload_n 0, 1) := by decide +kernel
theorem dX3_read_66 : decode cX3_read 66 = .ok (.getfield 29, 3) := by decide +kernel
theorem dX3_read_69 : decode cX3_read 69 = .ok (.ifCond .ne 54, 3) := by decide +kernel
theorem dX3_read_72 : decode cX3_read 72 = .ok (.aload_n 0, 1) := by decide +kernel
theorem dX3_read_73 : decode cX3_read 73 = .ok (.getfield 22, 3) := by decide +kernel
theorem dX3_read_76 : decode cX3_read 76 = .ok (.aload_n 0, 1) := by decide +kernel
theorem dX3_read_77 : decode cX3_read 77 = .ok (.getfield 39, 3) := by decide +kernel
theorem dX3_read_80 : decode cX3_read 80 = .ok (.iaload, 1) := by decide +kernel
theorem dX3_read_81 : decode cX3_read 81 = .ok (.sipush 1000, 3) := by decide +kernel
theorem dX3_read_84 : decode cX3_read 84 = .ok (.if_icmp .eq 39, 3) := by decide +kernel
theorem dX3_read_87 : decode cX3_read 87 = .ok (.aload_n 0, 1) := by decide +kernel
theorem dX3_read_88 : decode cX3_read 88 = .ok (.invokevirtual 49, 3) := by decide +kernel
theorem dX3_read_91 : decode cX3_read 91 = .ok (.ifCond .eq 26, 3) := by decide +kernel
theorem dX3_read_94 : decode cX3_read 94 = .ok (.aload_n 0, 1) := by decide +kernel
theorem dX3_read_95 : decode cX3_read 95 = .ok (.sipush 1100, 3) := by decide +kernel
theorem dX3_read_98 : decode cX3_read 98 = .ok (.invokevirtual 42, 3) := by decide +kernel
theorem dX3_read_101 : decode cX3_read 101 = .ok (.ifCond .eq 16, 3) := by decide +kernel
theorem dX3_read_104 : decode cX3_read 104 = .ok (.aload_n 0, 1) := by decide +kernel
theorem dX3_read_105 : decode cX3_read 105 = .ok (.getfield 12, 3) := by decide +kernel
theorem dX3_read_108 : decode cX3_read 108 = .ok (.dup, 1) := by decide +kernel
theorem dX3_read_109 : decode cX3_read 109 = .ok (.getfield 46, 3) := by decide +kernel
theorem dX3_read_112 : decode cX3_read 112 = .ok (.iconst 1, 1) := by decide +kernel
theorem dX3_read_113 : decode cX3_read 113 = .ok (.iadd, 1) := by decide +kernel
theorem dX3_read_114 : decode cX3_read 114 = .ok (.putfield 46, 3) := by decide +kernel
theorem dX3_read_117 : decode cX3_read 117 = .ok (.iinc 3 1, 3) := by decide +kernel
theorem dX3_read_120 : decode cX3_read 120 = .ok (.goto (-62), 3) := by decide +kernel
theorem dX3_read_123 : decode cX3_read 123 = .ok (.aload_n 0, 1) := by decide +kernel
theorem dX3_read_124 : decode cX3_read 124 = .ok (.getfield 29, 3) := by decide +kernel
theorem dX3_read_127 : decode cX3_read 127 = .ok (.ireturn, 1) := by decide +kernel
def f_X3_read_123  (s : zS) : Option (Int32 × zS) :=
  some (s.1 30 1, s)
set_option maxRecDepth 20000 in
theorem b_X3_read_123 {X : zX} (hX : zx_ok X cX3_read RX3 4) (hT : zx_rt X (some .int) (zR 132 3163)) : ∀  (s : zS), zV X (zq X zrI) 4 123 [(0, .ref (zx_ad X 30))] [] s (f_X3_read_123  s) := by
  intro  s
  unfold f_X3_read_123
  refine zv_aload_n hX dX3_read_123 0 rfl ?_
  refine zv_geti hX wf_X3_29 wc_3 zd_30 zj_30_1 c9_3 zr_30_1 dX3_read_124 ?_
  exact zv_ireti hX hT dX3_read_127
def f_X3_read_117 (kb_58 : Int32 → zS → Option (Int32 × zS)) (v3 : Int32) (s : zS) : Option (Int32 × zS) :=
  zb (v3 + (1 : Int32)) fun x1 =>
  kb_58 x1 s
set_option maxRecDepth 20000 in
theorem b_X3_read_117 {X : zX} {kb_58 : Int32 → zS → Option (Int32 × zS)} (hX : zx_ok X cX3_read RX3 4) (hT : zx_rt X (some .int) (zR 132 3163)) (hk_58 : ∀ (v3 : Int32) (s : zS), zV X (zq X zrI) 4 58 [(0, .ref (zx_ad X 30)), (3, .int v3)] [] s (kb_58 v3 s)) : ∀ (v3 : Int32) (s : zS), zV X (zq X zrI) 4 117 [(0, .ref (zx_ad X 30)), (3, .int v3)] [] s (f_X3_read_117 kb_58 v3 s) := by
  intro v3 s
  unfold f_X3_read_117
  refine zv_iincB (lw := fun x1 => [(3, .int x1), (0, .ref (zx_ad X 30))]) hX dX3_read_117 1 rfl zi_i_1 (by decide) (fun _ => rfl) (fun x1 => ?_)
  refine zv_goto (tgt := 58) hX dX3_read_120 rfl ?_
  exact zv_sub [1, 0] rfl (hk_58 x1 s)
def f_X3_read_58 : Nat → Int32 → zS → Option (Int32 × zS)
  | 0, _, _ => none
  | n + 1, v3, s =>
    if (nI 900) ≤ v3 then
    (f_X3_read_123 s)
    else
    if ¬ (s.1 30 1) = 0 then
    (f_X3_read_123 s)
    else
    (zr_i s 40 (s.1 30 5)).bind fun x2 =>
    if x2 = (nI 1000) then
    (f_X3_read_123 s)
    else
    zbd (f_X3_readLine s) fun r3 s4 =>
    if r3 = 0 then
    (f_X3_read_117 (f_X3_read_58 n) v3 s4)
    else
    zbd (f_X3_take (nI 1100) s4) fun r5 s6 =>
    if r5 = 0 then
    (f_X3_read_117 (f_X3_read_58 n) v3 s6)
    else
    zb (zs_i s6 31 1 ((s6.1 31 1) + (1 : Int32))) fun s7 =>
    f_X3_read_117 (f_X3_read_58 n) v3 s7
set_option maxRecDepth 20000 in
theorem b_X3_read_58 {X : zX} (hX : zx_ok X cX3_read RX3 4) (hT : zx_rt X (some .int) (zR 132 3163)) : ∀ (n : Nat) (v3 : Int32) (s : zS), zV X (zq X zrI) 4 58 [(0, .ref (zx_ad X 30)), (3, .int v3)] [] s (f_X3_read_58 n v3 s) := by
  intro n
  induction n with
  | zero => intro v3 s; exact zv_none
  | succ n ih =>
    intro v3 s
    rw [f_X3_read_58]
    refine zv_iload_n hX dX3_read_58 1 rfl ?_
    refine zv_sipush (v := (nI 900)) hX dX3_read_59 zi_s_900 ?_
    refine zv_icmp_ge (tgt := 123) hX dX3_read_62 rfl ?_ ?_
    · exact zv_sub [0] rfl (b_X3_read_123 hX hT  s)
    · refine zv_aload_n hX dX3_read_65 0 rfl ?_
      refine zv_geti hX wf_X3_29 wc_3 zd_30 zj_30_1 c9_3 zr_30_1 dX3_read_66 ?_
      refine zv_if_ne (tgt := 123) hX dX3_read_69 rfl ?_ ?_
      · exact zv_sub [0] rfl (b_X3_read_123 hX hT  s)
      · refine zv_aload_n hX dX3_read_72 0 rfl ?_
        refine zv_geta hX wf_X3_22 wc_3 zd_30 zj_30_3 c9_3 zr_30_3 (by decide) dX3_read_73 ?_
        refine zv_aload_n hX dX3_read_76 0 rfl ?_
        refine zv_geti hX wf_X3_39 wc_3 zd_30 zj_30_5 c9_3 zr_30_5 dX3_read_77 ?_
        refine zv_iald hX dX3_read_80 (fun x2 => ?_)
        refine zv_sipush (v := (nI 1000)) hX dX3_read_81 zi_s_1000 ?_
        refine zv_icmp_eq (tgt := 123) hX dX3_read_84 rfl ?_ ?_
        · exact zv_sub [0] rfl (b_X3_read_123 hX hT  s)
        · refine zv_aload_n hX dX3_read_87 0 rfl ?_
          refine zv_cVI [] (rest := []) hX hT.2.2.2.2 (c_X3_readLine (zx_Y X) s) wv_X3_readLine c9_3 zd_30 wm_X3_49 rfl (Nat.le_of_ble_eq_true rfl) (Nat.le_of_ble_eq_true rfl) rfl (Nat.le_of_ble_eq_true rfl) dX3_read_88 (fun r3 s4 => ?_)
          refine zv_if_eq (tgt := 117) hX dX3_read_91 rfl ?_ ?_
          · exact b_X3_read_117 hX hT ih v3 s4
          · refine zv_aload_n hX dX3_read_94 0 rfl ?_
            refine zv_sipush (v := (nI 1100)) hX dX3_read_95 zi_s_1100 ?_
            refine zv_cVI [.int (nI 1100)] (rest := []) hX hT.2.2.2.2 (c_X3_take (zx_Y X) (nI 1100) s4) wv_X3_take c9_3 zd_30 wm_X3_42 rfl (Nat.le_of_ble_eq_true rfl) (Nat.le_of_ble_eq_true rfl) rfl (Nat.le_of_ble_eq_true rfl) dX3_read_98 (fun r5 s6 => ?_)
            refine zv_if_eq (tgt := 117) hX dX3_read_101 rfl ?_ ?_
            · exact b_X3_read_117 hX hT ih v3 s6
            · refine zv_aload_n hX dX3_read_104 0 rfl ?_
              refine zv_geta hX wf_X3_12 wc_3 zd_30 zj_30_0 c9_3 zr_30_0 (by decide) dX3_read_105 ?_
              refine zv_dup hX dX3_read_108 rfl ?_
              refine zv_geti hX wf_X3_46 wc_5 zd_31 zj_31_1 c9_5 zr_31_1 dX3_read_109 ?_
              refine zv_iconst (v := (1 : Int32)) hX dX3_read_112 zi_i_1 ?_
              refine zv_iadd hX dX3_read_113 ?_
              refine zv_puti hX wf_X3_46 wc_5 wk_5_1 zd_31 zj_31_1 c9_5 zr_31_1 dX3_read_114 (fun s7 => ?_)
              exact b_X3_read_117 hX hT ih v3 s7
def f_X3_read (v1 : Nat) (v2 : Int32) (s : zS) : Option (Int32 × zS) :=
  zb (zs_i s 30 1 (0 : Int32)) fun s8 =>
  zb (zs_i s8 30 2 (-1 : Int32)) fun s9 =>
  zbd (f_X5_empty_31 s9) fun _ s10 =>
  zbd (f_X3_splitText v1 v2 s10) fun _ s11 =>
  zb (zs_i s11 30 5 (0 : Int32)) fun s12 =>
  zbd (f_X3_take (nI 1200) s12) fun r13 s14 =>
  if r13 = 0 then
  (f_X3_read_123 s14)
  else
  zbd (f_X3_take (nI 1100) s14) fun r15 s16 =>
  if r15 = 0 then
  (f_X3_read_123 s16)
  else
  zb (zs_i s16 31 1 (1 : Int32)) fun s17 =>
  f_X3_read_58 zFU (0 : Int32) s17
set_option maxRecDepth 20000 in
theorem c_X3_read (Y : zG) (v1 : Nat) (v2 : Int32) (s : zS) : zM Y yX3_read cX3_read 4 (some .int) (zR 132 3163) [.ref (zy_a Y 30), .ref (zy_a Y v1), .int v2] s zrI (f_X3_read v1 v2 s) := by
  refine zm_start (by decide +kernel) (Nat.le_of_ble_eq_true rfl) ?_
  intro X hY hT hX
  subst hY
  have hX : zx_ok X cX3_read RX3 4 := hX
  show zV X (zq X zrI) 4 0 [(0, .ref (zx_ad X 30)), (1, .ref (zx_ad X v1)), (2, .int v2)] [] s _
  unfold f_X3_read
  refine zv_aload_n hX dX3_read_0 0 rfl ?_
  refine zv_iconst (v := (0 : Int32)) hX dX3_read_1 zi_i_0 ?_
  refine zv_puti hX wf_X3_29 wc_3 wk_3_1 zd_30 zj_30_1 c9_3 zr_30_1 dX3_read_2 (fun s8 => ?_)
  refine zv_aload_n hX dX3_read_5 0 rfl ?_
  refine zv_iconst (v := (-1 : Int32)) hX dX3_read_6 zi_i_m1 ?_
  refine zv_puti hX wf_X3_18 wc_3 wk_3_2 zd_30 zj_30_2 c9_3 zr_30_2 dX3_read_7 (fun s9 => ?_)
  refine zv_aload_n hX dX3_read_10 0 rfl ?_
  refine zv_geta hX wf_X3_12 wc_3 zd_30 zj_30_0 c9_3 zr_30_0 (by decide) dX3_read_11 ?_
  refine zv_cVV [] (rest := []) hX hT.2.2.2.2 (c_X5_empty_31 (zx_Y X) s9) wv_X5_empty c9_5 zd_31 wm_X3_32 rfl (Nat.le_of_ble_eq_true rfl) (Nat.le_of_ble_eq_true rfl) rfl (Nat.le_of_ble_eq_true rfl) dX3_read_14 (fun _ s10 => ?_)
  refine zv_aload_n hX dX3_read_17 0 rfl ?_
  refine zv_aload_n hX dX3_read_18 1 rfl ?_
  refine zv_iload_n hX dX3_read_19 2 rfl ?_
  refine zv_cVV [.ref (zx_ad X v1), .int v2] (rest := []) hX hT.2.2.2.2 (c_X3_splitText (zx_Y X) v1 v2 s10) wv_X3_splitText c9_3 zd_30 wm_X3_35 rfl (Nat.le_of_ble_eq_true rfl) (Nat.le_of_ble_eq_true rfl) rfl (Nat.le_of_ble_eq_true rfl) dX3_read_20 (fun _ s11 => ?_)
  refine zv_aload_n hX dX3_read_23 0 rfl ?_
  refine zv_iconst (v := (0 : Int32)) hX dX3_read_24 zi_i_0 ?_
  refine zv_puti hX wf_X3_39 wc_3 wk_3_5 zd_30 zj_30_5 c9_3 zr_30_5 dX3_read_25 (fun s12 => ?_)
  refine zv_aload_n hX dX3_read_28 0 rfl ?_
  refine zv_sipush (v := (nI 1200)) hX dX3_read_29 zi_s_1200 ?_
  refine zv_cVI [.int (nI 1200)] (rest := []) hX hT.2.2.2.2 (c_X3_take (zx_Y X) (nI 1200) s12) wv_X3_take c9_3 zd_30 wm_X3_42 rfl (Nat.le_of_ble_eq_true rfl) (Nat.le_of_ble_eq_true rfl) rfl (Nat.le_of_ble_eq_true rfl) dX3_read_32 (fun r13 s14 => ?_)
  refine zv_if_eq (tgt := 123) hX dX3_read_35 rfl ?_ ?_
  · exact zv_sub [0] rfl (b_X3_read_123 hX hT  s14)
  · refine zv_aload_n hX dX3_read_38 0 rfl ?_
    refine zv_sipush (v := (nI 1100)) hX dX3_read_39 zi_s_1100 ?_
    refine zv_cVI [.int (nI 1100)] (rest := []) hX hT.2.2.2.2 (c_X3_take (zx_Y X) (nI 1100) s14) wv_X3_take c9_3 zd_30 wm_X3_42 rfl (Nat.le_of_ble_eq_true rfl) (Nat.le_of_ble_eq_true rfl) rfl (Nat.le_of_ble_eq_true rfl) dX3_read_42 (fun r15 s16 => ?_)
    refine zv_if_eq (tgt := 123) hX dX3_read_45 rfl ?_ ?_
    · exact zv_sub [0] rfl (b_X3_read_123 hX hT  s16)
    · refine zv_aload_n hX dX3_read_48 0 rfl ?_
      refine zv_geta hX wf_X3_12 wc_3 zd_30 zj_30_0 c9_3 zr_30_0 (by decide) dX3_read_49 ?_
      refine zv_iconst (v := (1 : Int32)) hX dX3_read_52 zi_i_1 ?_
      refine zv_puti hX wf_X3_46 wc_5 wk_5_1 zd_31 zj_31_1 c9_5 zr_31_1 dX3_read_53 (fun s17 => ?_)
      refine zv_iconst (v := (0 : Int32)) hX dX3_read_56 zi_i_0 ?_
      refine zv_istore_n (lv' := [(3, .int (0 : Int32)), (0, .ref (zx_ad X 30)), (1, .ref (zx_ad X v1)), (2, .int v2)]) hX dX3_read_57 (by decide) rfl ?_
      exact zv_sub [1, 0] rfl (b_X3_read_58 hX hT zFU (0 : Int32) s17)
