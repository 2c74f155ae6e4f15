theorem dX3_tokenEnd_0 : decode cX3_tokenEnd 0 = .ok (.iload_n 1, 1) := by decide +kernel
theorem dX3_tokenEnd_1 : decode cX3_tokenEnd 1 = .ok (.iconst 1, 1) := by decide +kernel
theorem dX3_tokenEnd_2 : decode cX3_tokenEnd 2 = .ok (.iadd, 1) := by decide +kernel
theorem dX3_tokenEnd_3 : decode cX3_tokenEnd 3 = .ok (.istore_n 3, 1) := by decide +kernel
theorem dX3_tokenEnd_4 : decode cX3_tokenEnd 4 = .ok (.aload_n 0, 1) := by decide +kernel
theorem dX3_tokenEnd_5 : decode cX3_tokenEnd 5 = .ok (.iload_n 1, 1) := by decide +kernel
theorem dX3_tokenEnd_6 : decode cX3_tokenEnd 6 = .ok (.baload, 1) := by decide +kernel
theorem dX3_tokenEnd_7 : decode cX3_tokenEnd 7 = .ok (.invokestatic 66, 3) := by decide +kernel
theorem dX3_tokenEnd_10 : decode cX3_tokenEnd 10 = .ok (.istore 4, 2) := by decide +kernel
theorem dX3_tokenEnd_12 : decode cX3_tokenEnd 12 = .ok (.iload 4, 2) := by decide +kernel
theorem dX3_tokenEnd_14 : decode cX3_tokenEnd 14 = .ok (.ifCond .ne 12, 3) := by decide +kernel
theorem dX3_tokenEnd_17 : decode cX3_tokenEnd 17 = .ok (.aload_n 0, 1) := by decide +kernel
theorem dX3_tokenEnd_18 : decode cX3_tokenEnd 18 = .ok (.iload_n 1, 1) := by decide +kernel
theorem dX3_tokenEnd_19 : decode cX3_tokenEnd 19 = .ok (.baload, 1) := by decide +kernel
theorem dX3_tokenEnd_20 : decode cX3_tokenEnd 20 = .ok (.invokestatic 70, 3) := by decide +kernel
theorem dX3_tokenEnd_23 : decode cX3_tokenEnd 23 = .ok (.ifCond .eq 40, 3) := by decide +kernel
theorem dX3_tokenEnd_26 : decode cX3_tokenEnd 26 = .ok (.iload_n 3, 1) := by decide +kernel
theorem dX3_tokenEnd_27 : decode cX3_tokenEnd 27 = .ok (.iload_n 2, 1) := by decide +kernel
theorem dX3_tokenEnd_28 : decode cX3_tokenEnd 28 = .ok (.if_icmp .ge 35, 3) := by decide +kernel
theorem dX3_tokenEnd_31 : decode cX3_tokenEnd 31 = .ok (.iload 4, 2) := by decide +kernel
theorem dX3_tokenEnd_33 : decode cX3_tokenEnd 33 = .ok (.ifCond .eq 15, 3) := by decide +kernel
theorem dX3_tokenEnd_36 : decode cX3_tokenEnd 36 = .ok (.aload_n 0, 1) := by decide +kernel
theorem dX3_tokenEnd_37 : decode cX3_tokenEnd 37 = .ok (.iload_n 3, 1) := by decide +kernel
theorem dX3_tokenEnd_38 : decode cX3_tokenEnd 38 = .ok (.baload, 1) := by decide +kernel
theorem dX3_tokenEnd_39 : decode cX3_tokenEnd 39 = .ok (.invokestatic 66, 3) := by decide +kernel
theorem dX3_tokenEnd_42 : decode cX3_tokenEnd 42 = .ok (.ifCond .eq 21, 3) := by decide +kernel
theorem dX3_tokenEnd_45 : decode cX3_tokenEnd 45 = .ok (.goto 12, 3) := by decide +kernel
theorem dX3_tokenEnd_48 : decode cX3_tokenEnd 48 = .ok (.aload_n 0, 1) := by decide +kernel
theorem dX3_tokenEnd_49 : decode cX3_tokenEnd 49 = .ok (.iload_n 3, 1) := by decide +kernel
theorem dX3_tokenEnd_50 : decode cX3_tokenEnd 50 = .ok (.baload, 1) := by decide +kernel
theorem dX3_tokenEnd_51 : decode cX3_tokenEnd 51 = .ok (.invokestatic 70, 3) := by decide +kernel
theorem dX3_tokenEnd_54 : decode cX3_tokenEnd 54 = .ok (.ifCond .eq 9, 3) := by decide +kernel
theorem dX3_tokenEnd_57 : decode cX3_tokenEnd 57 = .ok (.iinc 3 1, 3) := by decide +kernel
theorem dX3_tokenEnd_60 : decode cX3_tokenEnd 60 = .ok (.goto (-34), 3) := by decide +kernel
theorem dX3_tokenEnd_63 : decode cX3_tokenEnd 63 = .ok (.iload_n 3, 1) := by decide +kernel
theorem dX3_tokenEnd_64 : decode cX3_tokenEnd 64 = .ok (.ireturn, 1) := by decide +kernel
def f_X3_tokenEnd_63 (v3 : Int32) (s : zS) : Option (Int32 × zS) :=
  some (v3, s)
set_option maxRecDepth 20000 in
theorem b_X3_tokenEnd_63 {X : zX} (hX : zx_ok X cX3_tokenEnd RX3 5) (hT : zx_rt X (some .int) (zR 1 20)) : ∀ (v3 : Int32) (s : zS), zV X (zq X zrI) 5 63 [(3, .int v3)] [] s (f_X3_tokenEnd_63 v3 s) := by
  intro v3 s
  unfold f_X3_tokenEnd_63
  refine zv_iload_n hX dX3_tokenEnd_63 0 rfl ?_
  exact zv_ireti hX hT dX3_tokenEnd_64
def f_X3_tokenEnd_57 (kb_26 : Nat → Int32 → Int32 → Int32 → zS → Option (Int32 × zS)) (v0 : Nat) (v2 : Int32) (v3 : Int32) (v4 : Int32) (s : zS) : Option (Int32 × zS) :=
  zb (v3 + (1 : Int32)) fun x1 =>
  kb_26 v0 v2 x1 v4 s
set_option maxRecDepth 20000 in
theorem b_X3_tokenEnd_57 {X : zX} {kb_26 : Nat → Int32 → Int32 → Int32 → zS → Option (Int32 × zS)} (hX : zx_ok X cX3_tokenEnd RX3 5) (hT : zx_rt X (some .int) (zR 1 20)) (hk_26 : ∀ (v0 : Nat) (v2 : Int32) (v3 : Int32) (v4 : Int32) (s : zS), zV X (zq X zrI) 5 26 [(0, .ref (zx_ad X v0)), (2, .int v2), (3, .int v3), (4, .int v4)] [] s (kb_26 v0 v2 v3 v4 s)) : ∀ (v0 : Nat) (v2 : Int32) (v3 : Int32) (v4 : Int32) (s : zS), zV X (zq X zrI) 5 57 [(0, .ref (zx_ad X v0)), (2, .int v2), (3, .int v3), (4, .int v4)] [] s (f_X3_tokenEnd_57 kb_26 v0 v2 v3 v4 s) := by
  intro v0 v2 v3 v4 s
  unfold f_X3_tokenEnd_57
  refine zv_iincB (lw := fun x1 => [(3, .int x1), (0, .ref (zx_ad X v0)), (2, .int v2), (4, .int v4)]) hX dX3_tokenEnd_57 2 rfl zi_i_1 (by decide) (fun _ => rfl) (fun x1 => ?_)
  refine zv_goto (tgt := 26) hX dX3_tokenEnd_60 rfl ?_
  exact zv_sub [1, 2, 0, 3] rfl (hk_26 v0 v2 x1 v4 s)
def f_X3_tokenEnd_26 : Nat → Nat → Int32 → Int32 → Int32 → zS → Option (Int32 × zS)
  | 0, _, _, _, _, _ => none
  | n + 1, v0, v2, v3, v4, s =>
    if v2 ≤ v3 then
    (f_X3_tokenEnd_63 v3 s)
    else
    if v4 = 0 then
    ((zr_b s v0 v3).bind fun x2 =>
    zbd (f_X3_isDigit x2 s) fun r3 s4 =>
    if r3 = 0 then
    (f_X3_tokenEnd_63 v3 s4)
    else
    f_X3_tokenEnd_57 (f_X3_tokenEnd_26 n) v0 v2 v3 v4 s4)
    else
    (zr_b s v0 v3).bind fun x5 =>
    zbd (f_X3_isLetter x5 s) fun r6 s7 =>
    if r6 = 0 then
    (f_X3_tokenEnd_63 v3 s7)
    else
    f_X3_tokenEnd_57 (f_X3_tokenEnd_26 n) v0 v2 v3 v4 s7
set_option maxRecDepth 20000 in
theorem b_X3_tokenEnd_26 {X : zX} (hX : zx_ok X cX3_tokenEnd RX3 5) (hT : zx_rt X (some .int) (zR 1 20)) : ∀ (n : Nat) (v0 : Nat) (v2 : Int32) (v3 : Int32) (v4 : Int32) (s : zS), zV X (zq X zrI) 5 26 [(0, .ref (zx_ad X v0)), (2, .int v2), (3, .int v3), (4, .int v4)] [] s (f_X3_tokenEnd_26 n v0 v2 v3 v4 s) := by
  intro n
  induction n with
  | zero => intro v0 v2 v3 v4 s; exact zv_none
  | succ n ih =>
    intro v0 v2 v3 v4 s
    rw [f_X3_tokenEnd_26]
    refine zv_iload_n hX dX3_tokenEnd_26 2 rfl ?_
    refine zv_iload_n hX dX3_tokenEnd_27 1 rfl ?_
    refine zv_icmp_ge (tgt := 63) hX dX3_tokenEnd_28 rfl ?_ ?_
    · exact zv_sub [2] rfl (b_X3_tokenEnd_63 hX hT v3 s)
    · refine zv_iload hX dX3_tokenEnd_31 3 rfl ?_
      refine zv_if_eq (tgt := 48) hX dX3_tokenEnd_33 rfl ?_ ?_
      · refine zv_aload_n hX dX3_tokenEnd_48 0 rfl ?_
        refine zv_iload_n hX dX3_tokenEnd_49 2 rfl ?_
        refine zv_bald hX dX3_tokenEnd_50 (fun x2 => ?_)
        refine zv_cSI [.int x2] (rest := []) hX hT.2.2.2.2 (c_X3_isDigit (zx_Y X) x2 s) wv_X3_isDigit wm_X3_70 rfl (Nat.le_of_ble_eq_true rfl) (Nat.le_of_ble_eq_true rfl) rfl (Nat.le_of_ble_eq_true rfl) dX3_tokenEnd_51 (fun r3 s4 => ?_)
        refine zv_if_eq (tgt := 63) hX dX3_tokenEnd_54 rfl ?_ ?_
        · exact zv_sub [2] rfl (b_X3_tokenEnd_63 hX hT v3 s4)
        · exact b_X3_tokenEnd_57 hX hT ih v0 v2 v3 v4 s4
      · refine zv_aload_n hX dX3_tokenEnd_36 0 rfl ?_
        refine zv_iload_n hX dX3_tokenEnd_37 2 rfl ?_
        refine zv_bald hX dX3_tokenEnd_38 (fun x5 => ?_)
        refine zv_cSI [.int x5] (rest := []) hX hT.2.2.2.2 (c_X3_isLetter (zx_Y X) x5 s) wv_X3_isLetter wm_X3_66 rfl (Nat.le_of_ble_eq_true rfl) (Nat.le_of_ble_eq_true rfl) rfl (Nat.le_of_ble_eq_true rfl) dX3_tokenEnd_39 (fun r6 s7 => ?_)
        refine zv_if_eq (tgt := 63) hX dX3_tokenEnd_42 rfl ?_ ?_
        · exact zv_sub [2] rfl (b_X3_tokenEnd_63 hX hT v3 s7)
        · refine zv_goto (tgt := 57) hX dX3_tokenEnd_45 rfl ?_
          exact b_X3_tokenEnd_57 hX hT ih v0 v2 v3 v4 s7
def f_X3_tokenEnd (v0 : Nat) (v1 : Int32) (v2 : Int32) (s : zS) : Option (Int32 × zS) :=
  zb (v1 + (1 : Int32)) fun x8 =>
  (zr_b s v0 v1).bind fun x9 =>
  zbd (f_X3_isLetter x9 s) fun r10 s11 =>
  if ¬ r10 = 0 then
  (f_X3_tokenEnd_26 zFU v0 v2 x8 r10 s11)
  else
  (zr_b s11 v0 v1).bind fun x12 =>
  zbd (f_X3_isDigit x12 s11) fun r13 s14 =>
  if r13 = 0 then
  (f_X3_tokenEnd_63 x8 s14)
  else
  f_X3_tokenEnd_26 zFU v0 v2 x8 r10 s14
set_option maxRecDepth 20000 in
theorem c_X3_tokenEnd (Y : zG) (v0 : Nat) (v1 : Int32) (v2 : Int32) (s : zS) : zM Y yX3_tokenEnd cX3_tokenEnd 5 (some .int) (zR 1 20) [.ref (zy_a Y v0), .int v1, .int v2] s zrI (f_X3_tokenEnd v0 v1 v2 s) := by
  refine zm_start (by decide +kernel) (Nat.le_of_ble_eq_true rfl) ?_
  intro X hY hT hX
  subst hY
  have hX : zx_ok X cX3_tokenEnd RX3 5 := hX
  show zV X (zq X zrI) 5 0 [(0, .ref (zx_ad X v0)), (1, .int v1), (2, .int v2)] [] s _
  unfold f_X3_tokenEnd
  refine zv_iload_n hX dX3_tokenEnd_0 1 rfl ?_
  refine zv_iconst (v := (1 : Int32)) hX dX3_tokenEnd_1 zi_i_1 ?_
  refine zv_iadd hX dX3_tokenEnd_2 ?_
  refine zv_istB_n (lw := fun x8 => [(3, .int x8), (0, .ref (zx_ad X v0)), (1, .int v1), (2, .int v2)]) hX dX3_tokenEnd_3 (by decide) (fun _ => rfl) (fun x8 => ?_)
  refine zv_aload_n hX dX3_tokenEnd_4 1 rfl ?_
  refine zv_iload_n hX dX3_tokenEnd_5 2 rfl ?_
  refine zv_bald hX dX3_tokenEnd_6 (fun x9 => ?_)
  refine zv_cSI [.int x9] (rest := []) hX hT.2.2.2.2 (c_X3_isLetter (zx_Y X) x9 s) wv_X3_isLetter wm_X3_66 rfl (Nat.le_of_ble_eq_true rfl) (Nat.le_of_ble_eq_true rfl) rfl (Nat.le_of_ble_eq_true rfl) dX3_tokenEnd_7 (fun r10 s11 => ?_)
  refine zv_istore (lv' := [(4, .int r10), (3, .int x8), (0, .ref (zx_ad X v0)), (1, .int v1), (2, .int v2)]) hX dX3_tokenEnd_10 (by decide) rfl ?_
  refine zv_iload hX dX3_tokenEnd_12 0 rfl ?_
  refine zv_if_ne (tgt := 26) hX dX3_tokenEnd_14 rfl ?_ ?_
  · exact zv_sub [2, 4, 1, 0] rfl (b_X3_tokenEnd_26 hX hT zFU v0 v2 x8 r10 s11)
  · refine zv_aload_n hX dX3_tokenEnd_17 2 rfl ?_
    refine zv_iload_n hX dX3_tokenEnd_18 3 rfl ?_
    refine zv_bald hX dX3_tokenEnd_19 (fun x12 => ?_)
    refine zv_cSI [.int x12] (rest := []) hX hT.2.2.2.2 (c_X3_isDigit (zx_Y X) x12 s11) wv_X3_isDigit wm_X3_70 rfl (Nat.le_of_ble_eq_true rfl) (Nat.le_of_ble_eq_true rfl) rfl (Nat.le_of_ble_eq_true rfl) dX3_tokenEnd_20 (fun r13 s14 => ?_)
    refine zv_if_eq (tgt := 63) hX dX3_tokenEnd_23 rfl ?_ ?_
    · exact zv_sub [1] rfl (b_X3_tokenEnd_63 hX hT x8 s14)
    · exact zv_sub [2, 4, 1, 0] rfl (b_X3_tokenEnd_26 hX hT zFU v0 v2 x8 r10 s14)
theorem dJ0_isLatin1_aae02_0 : decode cJ0_isLatin1_aae02 0 = .ok (.getstatic 38, 3) := by decide +kernel
theorem dJ0_isLatin1_aae02_3 : decode cJ0_isLatin1_aae02 3 = .ok (.ifCond .eq 14, 3) := by decide +kernel
theorem dJ0_isLatin1_aae02_6 : decode cJ0_isLatin1_aae02 6 = .ok (.aload_n 0, 1) := by decide +kernel
theorem dJ0_isLatin1_aae02_7 : decode cJ0_isLatin1_aae02 7 = .ok (.getfield 15, 3) := by decide +kernel
theorem dJ0_isLatin1_aae02_10 : decode cJ0_isLatin1_aae02 10 = .ok (.ifCond .ne 7, 3) := by decide +kernel
theorem dJ0_isLatin1_aae02_13 : decode cJ0_isLatin1_aae02 13 = .ok (.iconst 1, 1) := by decide +kernel
theorem dJ0_isLatin1_aae02_14 : decode cJ0_isLatin1_aae02 14 = .ok (.goto 4, 3) := by decide +kernel
theorem dJ0_isLatin1_aae02_17 : decode cJ0_isLatin1_aae02 17 = .ok (.iconst 0, 1) := by decide +kernel
theorem dJ0_isLatin1_aae02_18 : decode cJ0_isLatin1_aae02 18 = .ok (.ireturn, 1) := by decide +kernel
def f_J0_isLatin1_aae02_18 (w0 : Int32) (s : zS) : Option (Int32 × zS) :=
  if w0 = 0 ∨ w0 = 1 then some (w0, s) else none
set_option maxRecDepth 20000 in
theorem b_J0_isLatin1_aae02_18 {X : zX} (hX : zx_ok X cJ0_isLatin1_aae02 RJ0 1) (hT : zx_rt X (some .boolean) (zR 0 0)) : ∀ (w0 : Int32) (s : zS), zV X (zq X zrI) 1 18 [] [.int w0] s (f_J0_isLatin1_aae02_18 w0 s) := by
  intro w0 s
  unfold f_J0_isLatin1_aae02_18
  exact zv_iretzB hX hT dJ0_isLatin1_aae02_18
def f_J0_isLatin1_aae02_17  (s : zS) : Option (Int32 × zS) :=
  f_J0_isLatin1_aae02_18 (0 : Int32) s
set_option maxRecDepth 20000 in
theorem b_J0_isLatin1_aae02_17 {X : zX} (hX : zx_ok X cJ0_isLatin1_aae02 RJ0 1) (hT : zx_rt X (some .boolean) (zR 0 0)) : ∀  (s : zS), zV X (zq X zrI) 1 17 [] [] s (f_J0_isLatin1_aae02_17  s) := by
  intro  s
  unfold f_J0_isLatin1_aae02_17
  refine zv_iconst (v := (0 : Int32)) hX dJ0_isLatin1_aae02_17 zi_i_0 ?_
  exact b_J0_isLatin1_aae02_18 hX hT (0 : Int32) s
def f_J0_isLatin1_aae02 (i0 : Nat) (s : zS) : Option (Int32 × zS) :=
  if (1 : Int32) = 0 then
  (f_J0_isLatin1_aae02_17 s)
  else
  if i0 < 3 then
  (if ¬ (0 : Int32) = 0 then
  (f_J0_isLatin1_aae02_17 s)
  else
  f_J0_isLatin1_aae02_18 (1 : Int32) s)
  else none
set_option maxRecDepth 20000 in
theorem c_J0_isLatin1_aae02 (Y : zG) (i0 : Nat) (s : zS) : zM Y yJ0_isLatin1_aae02 cJ0_isLatin1_aae02 1 (some .boolean) (zR 0 0) [.ref (zy_t Y (10 + i0))] s zrI (f_J0_isLatin1_aae02 i0 s) := by
  refine zm_startJ (by decide +kernel) (Nat.le_of_ble_eq_true rfl) ?_
  intro X hY hT hX
  subst hY
  have hX : zx_ok X cJ0_isLatin1_aae02 RJ0 1 := hX
  show zV X (zq X zrI) 1 0 [(0, .ref (zx_tv X (10 + i0)))] [] s _
  unfold f_J0_isLatin1_aae02
  refine zv_gsC hX ws_J0_38 dJ0_isLatin1_aae02_0 ?_
  refine zv_if_eq (tgt := 17) hX dJ0_isLatin1_aae02_3 rfl ?_ ?_
  · exact zv_sub [] rfl (b_J0_isLatin1_aae02_17 hX hT  s)
  · refine zv_aload_n hX dJ0_isLatin1_aae02_6 0 rfl ?_
    refine zv_ite (fun h3 => ?_) (fun _ => zv_none)
    refine zv_scod (i := i0) hX h3 ws_J0_15 dJ0_isLatin1_aae02_7 ?_
    refine zv_if_ne (tgt := 17) hX dJ0_isLatin1_aae02_10 rfl ?_ ?_
    · exact zv_sub [] rfl (b_J0_isLatin1_aae02_17 hX hT  s)
    · refine zv_iconst (v := (1 : Int32)) hX dJ0_isLatin1_aae02_13 zi_i_1 ?_
      refine zv_goto (tgt := 18) hX dJ0_isLatin1_aae02_14 rfl ?_
      exact zv_sub [] rfl (b_J0_isLatin1_aae02_18 hX hT (1 : Int32) s)
theorem dJ3_checkIndex_8e157_0 : decode cJ3_checkIndex_8e157 0 = .ok (.iload_n 0, 1) := by decide +kernel
theorem dJ3_checkIndex_8e157_1 : decode cJ3_checkIndex_8e157 1 = .ok (.ifCond .lt 8, 3) := by decide +kernel
theorem dJ3_checkIndex_8e157_4 : decode cJ3_checkIndex_8e157 4 = .ok (.iload_n 0, 1) := by decide +kernel
theorem dJ3_checkIndex_8e157_5 : decode cJ3_checkIndex_8e157 5 = .ok (.iload_n 1, 1) := by decide +kernel
theorem dJ3_checkIndex_8e157_6 : decode cJ3_checkIndex_8e157 6 = .ok (.if_icmp .lt 10, 3) := by decide +kernel
theorem dJ3_checkIndex_8e157_9 : decode cJ3_checkIndex_8e157 9 = .ok (.aload_n 2, 1) := by decide +kernel
theorem dJ3_checkIndex_8e157_10 : decode cJ3_checkIndex_8e157 10 = .ok (.iload_n 0, 1) := by decide +kernel
theorem dJ3_checkIndex_8e157_11 : decode cJ3_checkIndex_8e157 11 = .ok (.iload_n 1, 1) := by decide +kernel
theorem dJ3_checkIndex_8e157_16 : decode cJ3_checkIndex_8e157 16 = .ok (.iload_n 0, 1) := by decide +kernel
theorem dJ3_checkIndex_8e157_17 : decode cJ3_checkIndex_8e157 17 = .ok (.ireturn, 1) := by decide +kernel
def f_J3_checkIndex_8e157_9 (v0 : Int32) (v1 : Int32) (s : zS) : Option (Int32 × zS) :=
  none
def f_J3_checkIndex_8e157 (v0 : Int32) (v1 : Int32) (s : zS) : Option (Int32 × zS) :=
  if v0 < 0 then
  (f_J3_checkIndex_8e157_9 v0 v1 s)
  else
  if v0 < v1 then
  (some (v0, s))
  else
  f_J3_checkIndex_8e157_9 v0 v1 s
set_option maxRecDepth 20000 in
theorem c_J3_checkIndex_8e157 (Y : zG) (v0 : Int32) (v1 : Int32) (s : zS) : zM Y yJ3_checkIndex_8e157 cJ3_checkIndex_8e157 3 (some .int) (zR 0 0) [.int v0, .int v1, .ref (zy_t Y 30)] s zrI (f_J3_checkIndex_8e157 v0 v1 s) := by
  refine zm_startJ (by decide +kernel) (Nat.le_of_ble_eq_true rfl) ?_
  intro X hY hT hX
  subst hY
  have hX : zx_ok X cJ3_checkIndex_8e157 RJ3 3 := hX
  show zV X (zq X zrI) 3 0 [(0, .int v0), (1, .int v1), (2, .ref (zx_tv X 30))] [] s _
  unfold f_J3_checkIndex_8e157 f_J3_checkIndex_8e157_9
  refine zv_iload_n hX dJ3_checkIndex_8e157_0 0 rfl ?_
  refine zv_if_lt (tgt := 9) hX dJ3_checkIndex_8e157_1 rfl ?_ ?_
  · exact zv_none
  · refine zv_iload_n hX dJ3_checkIndex_8e157_4 0 rfl ?_
    refine zv_iload_n hX dJ3_checkIndex_8e157_5 1 rfl ?_
    refine zv_icmp_lt (tgt := 16) hX dJ3_checkIndex_8e157_6 rfl ?_ ?_
    · refine zv_iload_n hX dJ3_checkIndex_8e157_16 0 rfl ?_
      exact zv_ireti hX hT dJ3_checkIndex_8e157_17
    · exact zv_none
set_option maxRecDepth 20000 in
theorem c_J3_checkIndex_8e157N (Y : zG) (v0 : Int32) (v1 : Int32) (s : zS) : zM Y yJ3_checkIndex_8e157 cJ3_checkIndex_8e157 3 (some .int) (zR 0 0) [.int v0, .int v1, .null] s zrI (f_J3_checkIndex_8e157 v0 v1 s) := by
  refine zm_startJ (by decide +kernel) (Nat.le_of_ble_eq_true rfl) ?_
  intro X hY hT hX
  subst hY
  have hX : zx_ok X cJ3_checkIndex_8e157 RJ3 3 := hX
  show zV X (zq X zrI) 3 0 [(0, .int v0), (1, .int v1), (2, .null)] [] s _
  unfold f_J3_checkIndex_8e157 f_J3_checkIndex_8e157_9
  refine zv_iload_n hX dJ3_checkIndex_8e157_0 0 rfl ?_
  refine zv_if_lt (tgt := 9) hX dJ3_checkIndex_8e157_1 rfl ?_ ?_
  · exact zv_none
  · refine zv_iload_n hX dJ3_checkIndex_8e157_4 0 rfl ?_
    refine zv_iload_n hX dJ3_checkIndex_8e157_5 1 rfl ?_
    refine zv_icmp_lt (tgt := 16) hX dJ3_checkIndex_8e157_6 rfl ?_ ?_
    · refine zv_iload_n hX dJ3_checkIndex_8e157_16 0 rfl ?_
      exact zv_ireti hX hT dJ3_checkIndex_8e157_17
    · exact zv_none
theorem dJ0_checkIndex_df160_0 : decode cJ0_checkIndex_df160 0 = .ok (.iload_n 0, 1) := by decide +kernel
theorem dJ0_checkIndex_df160_1 : decode cJ0_checkIndex_df160 1 = .ok (.iload_n 1, 1) := by decide +kernel
theorem dJ0_checkIndex_df160_2 : decode cJ0_checkIndex_df160 2 = .ok (.getstatic 1053, 3) := by decide +kernel
theorem dJ0_checkIndex_df160_5 : decode cJ0_checkIndex_df160 5 = .ok (.invokestatic 1059, 3) := by decide +kernel
theorem dJ0_checkIndex_df160_8 : decode cJ0_checkIndex_df160 8 = .ok (.pop, 1) := by decide +kernel
theorem dJ0_checkIndex_df160_9 : decode cJ0_checkIndex_df160 9 = .ok (.return_, 1) := by decide +kernel
def f_J0_checkIndex_df160 (v0 : Int32) (v1 : Int32) (s : zS) : Option (Unit × zS) :=
  zbd (f_J3_checkIndex_8e157 v0 v1 s) fun r1 s2 =>
  some ((), s2)
set_option maxRecDepth 20000 in
theorem c_J0_checkIndex_df160 (Y : zG) (v0 : Int32) (v1 : Int32) (s : zS) : zM Y yJ0_checkIndex_df160 cJ0_checkIndex_df160 2 none (zR 1 22) [.int v0, .int v1] s zrV (f_J0_checkIndex_df160 v0 v1 s) := by
  refine zm_startJ (by decide +kernel) (Nat.le_of_ble_eq_true rfl) ?_
  intro X hY hT hX
  subst hY
  have hX : zx_ok X cJ0_checkIndex_df160 RJ0 2 := hX
  show zV X (zq X zrV) 2 0 [(0, .int v0), (1, .int v1)] [] s _
  unfold f_J0_checkIndex_df160
  refine zv_iload_n hX dJ0_checkIndex_df160_0 0 rfl ?_
  refine zv_iload_n hX dJ0_checkIndex_df160_1 1 rfl ?_
  refine zv_gsF hX ws_J0_1053 dJ0_checkIndex_df160_2 ?_ ?_
  · refine zv_cSI [.int v0, .int v1, .null] (rest := []) hX hT.2.2.2.2 (c_J3_checkIndex_8e157N (zx_Y X) v0 v1 s) wv_J3_checkIndex_8e157 wm_J0_1059 rfl (Nat.le_of_ble_eq_true rfl) (Nat.le_of_ble_eq_true rfl) rfl (Nat.le_of_ble_eq_true rfl) dJ0_checkIndex_df160_5 (fun r1 s2 => ?_)
    refine zv_pop hX dJ0_checkIndex_df160_8 rfl ?_
    exact zv_vret hX hT dJ0_checkIndex_df160_9
  · refine zv_cSI [.int v0, .int v1, .ref (zx_tv X 30)] (rest := []) hX hT.2.2.2.2 (c_J3_checkIndex_8e157 (zx_Y X) v0 v1 s) wv_J3_checkIndex_8e157 wm_J0_1059 rfl (Nat.le_of_ble_eq_true rfl) (Nat.le_of_ble_eq_true rfl) rfl (Nat.le_of_ble_eq_true rfl) dJ0_checkIndex_df160_5 (fun r1 s2 => ?_)
    refine zv_pop hX dJ0_checkIndex_df160_8 rfl ?_
    exact zv_vret hX hT dJ0_checkIndex_df160_9
theorem dJ1_charAt_3b067_0 : decode cJ1_charAt_3b067 0 = .ok (.iload_n 1, 1) := by decide +kernel
theorem dJ1_charAt_3b067_1 : decode cJ1_charAt_3b067 1 = .ok (.aload_n 0, 1) := by decide +kernel
theorem dJ1_charAt_3b067_2 : decode cJ1_charAt_3b067 2 = .ok (.arraylength, 1) := by decide +kernel
theorem dJ1_charAt_3b067_3 : decode cJ1_charAt_3b067 3 = .ok (.invokestatic 9, 3) := by decide +kernel
theorem dJ1_charAt_3b067_6 : decode cJ1_charAt_3b067 6 = .ok (.aload_n 0, 1) := by decide +kernel
theorem dJ1_charAt_3b067_7 : decode cJ1_charAt_3b067 7 = .ok (.iload_n 1, 1) := by decide +kernel
theorem dJ1_charAt_3b067_8 : decode cJ1_charAt_3b067 8 = .ok (.baload, 1) := by decide +kernel
theorem dJ1_charAt_3b067_9 : decode cJ1_charAt_3b067 9 = .ok (.sipush 255, 3) := by decide +kernel
theorem dJ1_charAt_3b067_12 : decode cJ1_charAt_3b067 12 = .ok (.iand, 1) := by decide +kernel
theorem dJ1_charAt_3b067_13 : decode cJ1_charAt_3b067 13 = .ok (.i2c, 1) := by decide +kernel
theorem dJ1_charAt_3b067_14 : decode cJ1_charAt_3b067 14 = .ok (.ireturn, 1) := by decide +kernel
def f_J1_charAt_3b067 (v0 : Nat) (v1 : Int32) (s : zS) : Option (Int32 × zS) :=
  if v0 < 3 then
  (zbd (f_J0_checkIndex_df160 v1 (nI (zt_len.getD v0 0)) s) fun _ s1 =>
  (zr_y v0 v1).bind fun x2 =>
  if ((((x2 &&& (nI 255)).toUInt32 % 65536).toInt32).toUInt32 % 65536).toInt32 = (((x2 &&& (nI 255)).toUInt32 % 65536).toInt32) then some (((x2 &&& (nI 255)).toUInt32 % 65536).toInt32, s1) else none)
  else none
set_option maxRecDepth 20000 in
theorem c_J1_charAt_3b067 (Y : zG) (v0 : Nat) (v1 : Int32) (s : zS) : zM Y yJ1_charAt_3b067 cJ1_charAt_3b067 2 (some .char) (zR 2 43) [.ref (zy_t Y (20 + v0)), .int v1] s zrI (f_J1_charAt_3b067 v0 v1 s) := by
  refine zm_startJ (by decide +kernel) (Nat.le_of_ble_eq_true rfl) ?_
  intro X hY hT hX
  subst hY
  have hX : zx_ok X cJ1_charAt_3b067 RJ1 2 := hX
  show zV X (zq X zrI) 2 0 [(0, .ref (zx_tv X (20 + v0))), (1, .int v1)] [] s _
  unfold f_J1_charAt_3b067
  refine zv_iload_n hX dJ1_charAt_3b067_0 1 rfl ?_
  refine zv_aload_n hX dJ1_charAt_3b067_1 0 rfl ?_
  refine zv_ite (fun h3 => ?_) (fun _ => zv_none)
  refine zv_sylen (j := v0) hX h3 dJ1_charAt_3b067_2 ?_
  refine zv_cSV [.int v1, .int (nI (zt_len.getD v0 0))] (rest := []) hX hT.2.2.2.2 (c_J0_checkIndex_df160 (zx_Y X) v1 (nI (zt_len.getD v0 0)) s) wv_J0_checkIndex_df160 wm_J1_9 rfl (Nat.le_of_ble_eq_true rfl) (Nat.le_of_ble_eq_true rfl) rfl (Nat.le_of_ble_eq_true rfl) dJ1_charAt_3b067_3 (fun _ s1 => ?_)
  refine zv_aload_n hX dJ1_charAt_3b067_6 0 rfl ?_
  refine zv_iload_n hX dJ1_charAt_3b067_7 1 rfl ?_
  refine zv_syld hX dJ1_charAt_3b067_8 (fun x2 => ?_)
  refine zv_sipush (v := (nI 255)) hX dJ1_charAt_3b067_9 zi_s_255 ?_
  refine zv_iand hX dJ1_charAt_3b067_12 ?_
  refine zv_i2c hX dJ1_charAt_3b067_13 ?_
  exact zv_iretcB hX hT dJ1_charAt_3b067_14
theorem dJ0_charAt_5068e_0 : decode cJ0_charAt_5068e 0 = .ok (.aload_n 0, 1) := by decide +kernel
theorem dJ0_charAt_5068e_1 : decode cJ0_charAt_5068e 1 = .ok (.invokevirtual 492, 3) := by decide +kernel
theorem dJ0_charAt_5068e_4 : decode cJ0_charAt_5068e 4 = .ok (.ifCond .eq 12, 3) := by decide +kernel
theorem dJ0_charAt_5068e_7 : decode cJ0_charAt_5068e 7 = .ok (.aload_n 0, 1) := by decide +kernel
theorem dJ0_charAt_5068e_8 : decode cJ0_charAt_5068e 8 = .ok (.getfield 9, 3) := by decide +kernel
theorem dJ0_charAt_5068e_11 : decode cJ0_charAt_5068e 11 = .ok (.iload_n 1, 1) := by decide +kernel
theorem dJ0_charAt_5068e_12 : decode cJ0_charAt_5068e 12 = .ok (.invokestatic 495, 3) := by decide +kernel
theorem dJ0_charAt_5068e_15 : decode cJ0_charAt_5068e 15 = .ok (.ireturn, 1) := by decide +kernel
theorem dJ0_charAt_5068e_16 : decode cJ0_charAt_5068e 16 = .ok (.aload_n 0, 1) := by decide +kernel
theorem dJ0_charAt_5068e_17 : decode cJ0_charAt_5068e 17 = .ok (.getfield 9, 3) := by decide +kernel
theorem dJ0_charAt_5068e_20 : decode cJ0_charAt_5068e 20 = .ok (.iload_n 1, 1) := by decide +kernel
theorem dJ0_charAt_5068e_21 : decode cJ0_charAt_5068e 21 = .ok (.invokestatic 498, 3) := by decide +kernel
def f_J0_charAt_5068e (i0 : Nat) (v1 : Int32) (s : zS) : Option (Int32 × zS) :=
  if i0 < 3 then
  (zbd (f_J0_isLatin1_aae02 i0 s) fun r1 s2 =>
  if r1 = 0 then
  (if i0 < 3 then
  (none)
  else none)
  else
  if i0 < 3 then
  (zbd (f_J1_charAt_3b067 i0 v1 s2) fun r3 s4 =>
  if (r3.toUInt32 % 65536).toInt32 = r3 then some (r3, s4) else none)
  else none)
  else none
set_option maxRecDepth 20000 in
theorem c_J0_charAt_5068e (Y : zG) (i0 : Nat) (v1 : Int32) (s : zS) : zM Y yJ0_charAt_5068e cJ0_charAt_5068e 2 (some .char) (zR 3 64) [.ref (zy_t Y (10 + i0)), .int v1] s zrI (f_J0_charAt_5068e i0 v1 s) := by
  refine zm_startJ (by decide +kernel) (Nat.le_of_ble_eq_true rfl) ?_
  intro X hY hT hX
  subst hY
  have hX : zx_ok X cJ0_charAt_5068e RJ0 2 := hX
  show zV X (zq X zrI) 2 0 [(0, .ref (zx_tv X (10 + i0))), (1, .int v1)] [] s _
  unfold f_J0_charAt_5068e
  refine zv_aload_n hX dJ0_charAt_5068e_0 0 rfl ?_
  refine zv_ite (fun h3 => ?_) (fun _ => zv_none)
  refine zv_cTI [] (i := i0) (rest := []) hX hT.2.2.2.2 h3 (c_J0_isLatin1_aae02 (zx_Y X) i0 s) wb_J0_isLatin1_aae02 wi_J0_isLatin1_aae02 wq_J0_isLatin1_aae02 rfl wm_J0_492 rfl (Nat.le_of_ble_eq_true rfl) (Nat.le_of_ble_eq_true rfl) rfl (Nat.le_of_ble_eq_true rfl) dJ0_charAt_5068e_1 (fun r1 s2 => ?_)
  refine zv_if_eq (tgt := 16) hX dJ0_charAt_5068e_4 rfl ?_ ?_
  · refine zv_aload_n hX dJ0_charAt_5068e_16 0 rfl ?_
    refine zv_ite (fun h3 => ?_) (fun _ => zv_none)
    refine zv_sval (i := i0) hX h3 ws_J0_9 dJ0_charAt_5068e_17 ?_
    refine zv_iload_n hX dJ0_charAt_5068e_20 1 rfl ?_
    exact zv_none
  · refine zv_aload_n hX dJ0_charAt_5068e_7 0 rfl ?_
    refine zv_ite (fun h3 => ?_) (fun _ => zv_none)
    refine zv_sval (i := i0) hX h3 ws_J0_9 dJ0_charAt_5068e_8 ?_
    refine zv_iload_n hX dJ0_charAt_5068e_11 1 rfl ?_
    refine zv_cSI [.ref (zx_tv X (20 + i0)), .int v1] (rest := []) hX hT.2.2.2.2 (c_J1_charAt_3b067 (zx_Y X) i0 v1 s2) wv_J1_charAt_3b067 wm_J0_495 rfl (Nat.le_of_ble_eq_true rfl) (Nat.le_of_ble_eq_true rfl) rfl (Nat.le_of_ble_eq_true rfl) dJ0_charAt_5068e_12 (fun r3 s4 => ?_)
    exact zv_iretcB hX hT dJ0_charAt_5068e_15
theorem dJ0_coder_7d493_0 : decode cJ0_coder_7d493 0 = .ok (.getstatic 38, 3) := by decide +kernel
theorem dJ0_coder_7d493_3 : decode cJ0_coder_7d493 3 = .ok (.ifCond .eq 10, 3) := by decide +kernel
theorem dJ0_coder_7d493_6 : decode cJ0_coder_7d493 6 = .ok (.aload_n 0, 1) := by decide +kernel
theorem dJ0_coder_7d493_7 : decode cJ0_coder_7d493 7 = .ok (.getfield 15, 3) := by decide +kernel
theorem dJ0_coder_7d493_10 : decode cJ0_coder_7d493 10 = .ok (.goto 4, 3) := by decide +kernel
theorem dJ0_coder_7d493_13 : decode cJ0_coder_7d493 13 = .ok (.iconst 1, 1) := by decide +kernel
theorem dJ0_coder_7d493_14 : decode cJ0_coder_7d493 14 = .ok (.ireturn, 1) := by decide +kernel
def f_J0_coder_7d493_14 (w0 : Int32) (s : zS) : Option (Int32 × zS) :=
  if w0.toInt8.toInt32 = w0 then some (w0, s) else none
set_option maxRecDepth 20000 in
theorem b_J0_coder_7d493_14 {X : zX} (hX : zx_ok X cJ0_coder_7d493 RJ0 1) (hT : zx_rt X (some .byte) (zR 0 0)) : ∀ (w0 : Int32) (s : zS), zV X (zq X zrI) 1 14 [] [.int w0] s (f_J0_coder_7d493_14 w0 s) := by
  intro w0 s
  unfold f_J0_coder_7d493_14
  exact zv_iretbB hX hT dJ0_coder_7d493_14
def f_J0_coder_7d493 (i0 : Nat) (s : zS) : Option (Int32 × zS) :=
  if (1 : Int32) = 0 then
  (f_J0_coder_7d493_14 (1 : Int32) s)
  else
  if i0 < 3 then
  (f_J0_coder_7d493_14 (0 : Int32) s)
  else none
set_option maxRecDepth 20000 in
theorem c_J0_coder_7d493 (Y : zG) (i0 : Nat) (s : zS) : zM Y yJ0_coder_7d493 cJ0_coder_7d493 1 (some .byte) (zR 0 0) [.ref (zy_t Y (10 + i0))] s zrI (f_J0_coder_7d493 i0 s) := by
  refine zm_startJ (by decide +kernel) (Nat.le_of_ble_eq_true rfl) ?_
  intro X hY hT hX
  subst hY
  have hX : zx_ok X cJ0_coder_7d493 RJ0 1 := hX
  show zV X (zq X zrI) 1 0 [(0, .ref (zx_tv X (10 + i0)))] [] s _
  unfold f_J0_coder_7d493
  refine zv_gsC hX ws_J0_38 dJ0_coder_7d493_0 ?_
  refine zv_if_eq (tgt := 13) hX dJ0_coder_7d493_3 rfl ?_ ?_
  · refine zv_iconst (v := (1 : Int32)) hX dJ0_coder_7d493_13 zi_i_1 ?_
    exact zv_sub [] rfl (b_J0_coder_7d493_14 hX hT (1 : Int32) s)
  · refine zv_aload_n hX dJ0_coder_7d493_6 0 rfl ?_
    refine zv_ite (fun h3 => ?_) (fun _ => zv_none)
    refine zv_scod (i := i0) hX h3 ws_J0_15 dJ0_coder_7d493_7 ?_
    refine zv_goto (tgt := 14) hX dJ0_coder_7d493_10 rfl ?_
    exact zv_sub [] rfl (b_J0_coder_7d493_14 hX hT (0 : Int32) s)
theorem dJ0_length_8abf5_0 : decode cJ0_length_8abf5 0 = .ok (.aload_n 0, 1) := by decide +kernel
theorem dJ0_length_8abf5_1 : decode cJ0_length_8abf5 1 = .ok (.getfield 9, 3) := by decide +kernel
theorem dJ0_length_8abf5_4 : decode cJ0_length_8abf5 4 = .ok (.arraylength, 1) := by decide +kernel
theorem dJ0_length_8abf5_5 : decode cJ0_length_8abf5 5 = .ok (.aload_n 0, 1) := by decide +kernel
theorem dJ0_length_8abf5_6 : decode cJ0_length_8abf5 6 = .ok (.invokevirtual 335, 3) := by decide +kernel
theorem dJ0_length_8abf5_9 : decode cJ0_length_8abf5 9 = .ok (.ishr, 1) := by decide +kernel
theorem dJ0_length_8abf5_10 : decode cJ0_length_8abf5 10 = .ok (.ireturn, 1) := by decide +kernel
def f_J0_length_8abf5 (i0 : Nat) (s : zS) : Option (Int32 × zS) :=
  if i0 < 3 then
  (if i0 < 3 then
  (if i0 < 3 then
  (zbd (f_J0_coder_7d493 i0 s) fun r1 s2 =>
  some (zo_shr (nI (zt_len.getD i0 0)) r1, s2))
  else none)
  else none)
  else none
set_option maxRecDepth 20000 in
theorem c_J0_length_8abf5 (Y : zG) (i0 : Nat) (s : zS) : zM Y yJ0_length_8abf5 cJ0_length_8abf5 1 (some .int) (zR 1 20) [.ref (zy_t Y (10 + i0))] s zrI (f_J0_length_8abf5 i0 s) := by
  refine zm_startJ (by decide +kernel) (Nat.le_of_ble_eq_true rfl) ?_
  intro X hY hT hX
  subst hY
  have hX : zx_ok X cJ0_length_8abf5 RJ0 1 := hX
  show zV X (zq X zrI) 1 0 [(0, .ref (zx_tv X (10 + i0)))] [] s _
  unfold f_J0_length_8abf5
  refine zv_aload_n hX dJ0_length_8abf5_0 0 rfl ?_
  refine zv_ite (fun h3 => ?_) (fun _ => zv_none)
  refine zv_sval (i := i0) hX h3 ws_J0_9 dJ0_length_8abf5_1 ?_
  refine zv_ite (fun h3 => ?_) (fun _ => zv_none)
  refine zv_sylen (j := i0) hX h3 dJ0_length_8abf5_4 ?_
  refine zv_aload_n hX dJ0_length_8abf5_5 0 rfl ?_
  refine zv_ite (fun h3 => ?_) (fun _ => zv_none)
  refine zv_cTI [] (i := i0) (rest := [.int (nI (zt_len.getD i0 0))]) hX hT.2.2.2.2 h3 (c_J0_coder_7d493 (zx_Y X) i0 s) wb_J0_coder_7d493 wi_J0_coder_7d493 wq_J0_coder_7d493 rfl wm_J0_335 rfl (Nat.le_of_ble_eq_true rfl) (Nat.le_of_ble_eq_true rfl) rfl (Nat.le_of_ble_eq_true rfl) dJ0_length_8abf5_6 (fun r1 s2 => ?_)
  refine zv_ishr hX dJ0_length_8abf5_9 ?_
  exact zv_ireti hX hT dJ0_length_8abf5_10
theorem dX3_wordOf_0 : decode cX3_wordOf 0 = .ok (.iconst 0, 1) := by decide +kernel
theorem dX3_wordOf_1 : decode cX3_wordOf 1 = .ok (.istore_n 3, 1) := by decide +kernel
theorem dX3_wordOf_2 : decode cX3_wordOf 2 = .ok (.iconst 0, 1) := by decide +kernel
theorem dX3_wordOf_3 : decode cX3_wordOf 3 = .ok (.istore 4, 2) := by decide +kernel
theorem dX3_wordOf_5 : decode cX3_wordOf 5 = .ok (.iconst 0, 1) := by decide +kernel
theorem dX3_wordOf_6 : decode cX3_wordOf 6 = .ok (.istore 5, 2) := by decide +kernel
theorem dX3_wordOf_8 : decode cX3_wordOf 8 = .ok (.iload 5, 2) := by decide +kernel
theorem dX3_wordOf_10 : decode cX3_wordOf 10 = .ok (.ldc 84, 2) := by decide +kernel
theorem dX3_wordOf_12 : decode cX3_wordOf 12 = .ok (.invokevirtual 86, 3) := by decide +kernel
theorem dX3_wordOf_15 : decode cX3_wordOf 15 = .ok (.if_icmp .ge 81, 3) := by decide +kernel
theorem dX3_wordOf_18 : decode cX3_wordOf 18 = .ok (.ldc 84, 2) := by decide +kernel
theorem dX3_wordOf_20 : decode cX3_wordOf 20 = .ok (.iload 5, 2) := by decide +kernel
theorem dX3_wordOf_22 : decode cX3_wordOf 22 = .ok (.invokevirtual 90, 3) := by decide +kernel
theorem dX3_wordOf_25 : decode cX3_wordOf 25 = .ok (.istore 6, 2) := by decide +kernel
theorem dX3_wordOf_27 : decode cX3_wordOf 27 = .ok (.iload 6, 2) := by decide +kernel
theorem dX3_wordOf_29 : decode cX3_wordOf 29 = .ok (.bipush 32, 2) := by decide +kernel
theorem dX3_wordOf_31 : decode cX3_wordOf 31 = .ok (.if_icmp .ne 26, 3) := by decide +kernel
theorem dX3_wordOf_34 : decode cX3_wordOf 34 = .ok (.iload 4, 2) := by decide +kernel
theorem dX3_wordOf_36 : decode cX3_wordOf 36 = .ok (.iload_n 2, 1) := by decide +kernel
theorem dX3_wordOf_37 : decode cX3_wordOf 37 = .ok (.iload_n 1, 1) := by decide +kernel
theorem dX3_wordOf_38 : decode cX3_wordOf 38 = .ok (.isub, 1) := by decide +kernel
theorem dX3_wordOf_39 : decode cX3_wordOf 39 = .ok (.if_icmp .ne 9, 3) := by decide +kernel
theorem dX3_wordOf_42 : decode cX3_wordOf 42 = .ok (.sipush 1200, 3) := by decide +kernel
theorem dX3_wordOf_45 : decode cX3_wordOf 45 = .ok (.iload_n 3, 1) := by decide +kernel
theorem dX3_wordOf_46 : decode cX3_wordOf 46 = .ok (.iadd, 1) := by decide +kernel
theorem dX3_wordOf_47 : decode cX3_wordOf 47 = .ok (.ireturn, 1) := by decide +kernel
theorem dX3_wordOf_48 : decode cX3_wordOf 48 = .ok (.iinc 3 1, 3) := by decide +kernel
theorem dX3_wordOf_51 : decode cX3_wordOf 51 = .ok (.iconst 0, 1) := by decide +kernel
theorem dX3_wordOf_52 : decode cX3_wordOf 52 = .ok (.istore 4, 2) := by decide +kernel
theorem dX3_wordOf_54 : decode cX3_wordOf 54 = .ok (.goto 36, 3) := by decide +kernel
theorem dX3_wordOf_57 : decode cX3_wordOf 57 = .ok (.iload 4, 2) := by decide +kernel
theorem dX3_wordOf_59 : decode cX3_wordOf 59 = .ok (.ifCond .lt 28, 3) := by decide +kernel
theorem dX3_wordOf_62 : decode cX3_wordOf 62 = .ok (.iload_n 1, 1) := by decide +kernel
theorem dX3_wordOf_63 : decode cX3_wordOf 63 = .ok (.iload 4, 2) := by decide +kernel
theorem dX3_wordOf_65 : decode cX3_wordOf 65 = .ok (.iadd, 1) := by decide +kernel
theorem dX3_wordOf_66 : decode cX3_wordOf 66 = .ok (.iload_n 2, 1) := by decide +kernel
theorem dX3_wordOf_67 : decode cX3_wordOf 67 = .ok (.if_icmp .ge 20, 3) := by decide +kernel
theorem dX3_wordOf_70 : decode cX3_wordOf 70 = .ok (.aload_n 0, 1) := by decide +kernel
theorem dX3_wordOf_71 : decode cX3_wordOf 71 = .ok (.iload_n 1, 1) := by decide +kernel
theorem dX3_wordOf_72 : decode cX3_wordOf 72 = .ok (.iload 4, 2) := by decide +kernel
theorem dX3_wordOf_74 : decode cX3_wordOf 74 = .ok (.iadd, 1) := by decide +kernel
theorem dX3_wordOf_75 : decode cX3_wordOf 75 = .ok (.baload, 1) := by decide +kernel
theorem dX3_wordOf_76 : decode cX3_wordOf 76 = .ok (.iload 6, 2) := by decide +kernel
theorem dX3_wordOf_78 : decode cX3_wordOf 78 = .ok (.if_icmp .ne 9, 3) := by decide +kernel
theorem dX3_wordOf_81 : decode cX3_wordOf 81 = .ok (.iinc 4 1, 3) := by decide +kernel
theorem dX3_wordOf_84 : decode cX3_wordOf 84 = .ok (.goto 6, 3) := by decide +kernel
theorem dX3_wordOf_87 : decode cX3_wordOf 87 = .ok (.iconst (-1), 1) := by decide +kernel
theorem dX3_wordOf_88 : decode cX3_wordOf 88 = .ok (.istore 4, 2) := by decide +kernel
theorem dX3_wordOf_90 : decode cX3_wordOf 90 = .ok (.iinc 5 1, 3) := by decide +kernel
theorem dX3_wordOf_93 : decode cX3_wordOf 93 = .ok (.goto (-85), 3) := by decide +kernel
theorem dX3_wordOf_96 : decode cX3_wordOf 96 = .ok (.sipush 1002, 3) := by decide +kernel
theorem dX3_wordOf_99 : decode cX3_wordOf 99 = .ok (.ireturn, 1) := by decide +kernel
def f_X3_wordOf_90 (kb_8 : Nat → Int32 → Int32 → Int32 → Int32 → Int32 → zS → Option (Int32 × zS)) (v0 : Nat) (v1 : Int32) (v2 : Int32) (v3 : Int32) (v4 : Int32) (v5 : Int32) (s : zS) : Option (Int32 × zS) :=
  zb (v5 + (1 : Int32)) fun x1 =>
  kb_8 v0 v1 v2 v3 v4 x1 s
set_option maxRecDepth 20000 in
theorem b_X3_wordOf_90 {X : zX} {kb_8 : Nat → Int32 → Int32 → Int32 → Int32 → Int32 → zS → Option (Int32 × zS)} (hX : zx_ok X cX3_wordOf RX3 7) (hT : zx_rt X (some .int) (zR 4 85)) (hk_8 : ∀ (v0 : Nat) (v1 : Int32) (v2 : Int32) (v3 : Int32) (v4 : Int32) (v5 : Int32) (s : zS), zV X (zq X zrI) 7 8 [(0, .ref (zx_ad X v0)), (1, .int v1), (2, .int v2), (3, .int v3), (4, .int v4), (5, .int v5)] [] s (kb_8 v0 v1 v2 v3 v4 v5 s)) : ∀ (v0 : Nat) (v1 : Int32) (v2 : Int32) (v3 : Int32) (v4 : Int32) (v5 : Int32) (s : zS), zV X (zq X zrI) 7 90 [(0, .ref (zx_ad X v0)), (1, .int v1), (2, .int v2), (3, .int v3), (4, .int v4), (5, .int v5)] [] s (f_X3_wordOf_90 kb_8 v0 v1 v2 v3 v4 v5 s) := by
  intro v0 v1 v2 v3 v4 v5 s
  unfold f_X3_wordOf_90
  refine zv_iincB (lw := fun x1 => [(5, .int x1), (0, .ref (zx_ad X v0)), (1, .int v1), (2, .int v2), (3, .int v3), (4, .int v4)]) hX dX3_wordOf_90 5 rfl zi_i_1 (by decide) (fun _ => rfl) (fun x1 => ?_)
  refine zv_goto (tgt := 8) hX dX3_wordOf_93 rfl ?_
  exact zv_sub [1, 2, 3, 4, 5, 0] rfl (hk_8 v0 v1 v2 v3 v4 x1 s)
def f_X3_wordOf_87 (kb_8 : Nat → Int32 → Int32 → Int32 → Int32 → Int32 → zS → Option (Int32 × zS)) (v0 : Nat) (v1 : Int32) (v2 : Int32) (v3 : Int32) (v5 : Int32) (s : zS) : Option (Int32 × zS) :=
  f_X3_wordOf_90 kb_8 v0 v1 v2 v3 (-1 : Int32) v5 s
set_option maxRecDepth 20000 in
theorem b_X3_wordOf_87 {X : zX} {kb_8 : Nat → Int32 → Int32 → Int32 → Int32 → Int32 → zS → Option (Int32 × zS)} (hX : zx_ok X cX3_wordOf RX3 7) (hT : zx_rt X (some .int) (zR 4 85)) (hk_8 : ∀ (v0 : Nat) (v1 : Int32) (v2 : Int32) (v3 : Int32) (v4 : Int32) (v5 : Int32) (s : zS), zV X (zq X zrI) 7 8 [(0, .ref (zx_ad X v0)), (1, .int v1), (2, .int v2), (3, .int v3), (4, .int v4), (5, .int v5)] [] s (kb_8 v0 v1 v2 v3 v4 v5 s)) : ∀ (v0 : Nat) (v1 : Int32) (v2 : Int32) (v3 : Int32) (v5 : Int32) (s : zS), zV X (zq X zrI) 7 87 [(0, .ref (zx_ad X v0)), (1, .int v1), (2, .int v2), (3, .int v3), (5, .int v5)] [] s (f_X3_wordOf_87 kb_8 v0 v1 v2 v3 v5 s) := by
  intro v0 v1 v2 v3 v5 s
  unfold f_X3_wordOf_87
  refine zv_iconst (v := (-1 : Int32)) hX dX3_wordOf_87 zi_i_m1 ?_
  refine zv_istore (lv' := [(4, .int (-1 : Int32)), (0, .ref (zx_ad X v0)), (1, .int v1), (2, .int v2), (3, .int v3), (5, .int v5)]) hX dX3_wordOf_88 (by decide) rfl ?_
  exact zv_sub [1, 2, 3, 4, 0, 5] rfl (b_X3_wordOf_90 hX hT hk_8 v0 v1 v2 v3 (-1 : Int32) v5 s)
def f_X3_wordOf_8 : Nat → Nat → Int32 → Int32 → Int32 → Int32 → Int32 → zS → Option (Int32 × zS)
  | 0, _, _, _, _, _, _, _ => none
  | n + 1, v0, v1, v2, v3, v4, v5, s =>
    zbd (f_J0_length_8abf5 0 s) fun r2 s3 =>
    if r2 ≤ v5 then
    (some ((nI 1002), s3))
    else
    zbd (f_J0_charAt_5068e 0 v5 s3) fun r4 s5 =>
    if ¬ r4 = (nI 32) then
    (if v4 < 0 then
    (f_X3_wordOf_87 (f_X3_wordOf_8 n) v0 v1 v2 v3 v5 s5)
    else
    if v2 ≤ (v1 + v4) then
    (f_X3_wordOf_87 (f_X3_wordOf_8 n) v0 v1 v2 v3 v5 s5)
    else
    (zr_b s5 v0 (v1 + v4)).bind fun x6 =>
    if ¬ x6 = r4 then
    (f_X3_wordOf_87 (f_X3_wordOf_8 n) v0 v1 v2 v3 v5 s5)
    else
    zb (v4 + (1 : Int32)) fun x7 =>
    f_X3_wordOf_90 (f_X3_wordOf_8 n) v0 v1 v2 v3 x7 v5 s5)
    else
    if ¬ v4 = (v2 - v1) then
    (zb (v3 + (1 : Int32)) fun x8 =>
    f_X3_wordOf_90 (f_X3_wordOf_8 n) v0 v1 v2 x8 (0 : Int32) v5 s5)
    else
    some ((nI 1200) + v3, s5)
set_option maxRecDepth 20000 in
theorem b_X3_wordOf_8 {X : zX} (hX : zx_ok X cX3_wordOf RX3 7) (hT : zx_rt X (some .int) (zR 4 85)) : ∀ (n : Nat) (v0 : Nat) (v1 : Int32) (v2 : Int32) (v3 : Int32) (v4 : Int32) (v5 : Int32) (s : zS), zV X (zq X zrI) 7 8 [(0, .ref (zx_ad X v0)), (1, .int v1), (2, .int v2), (3, .int v3), (4, .int v4), (5, .int v5)] [] s (f_X3_wordOf_8 n v0 v1 v2 v3 v4 v5 s) := by
  intro n
  induction n with
  | zero => intro v0 v1 v2 v3 v4 v5 s; exact zv_none
  | succ n ih =>
    intro v0 v1 v2 v3 v4 v5 s
    rw [f_X3_wordOf_8]
    refine zv_iload hX dX3_wordOf_8 5 rfl ?_
    refine zv_ldcW hX dX3_wordOf_10 ?_
    refine zv_cTI [] (i := 0) (rest := [.int v5]) hX hT.2.2.2.2 (by decide) (c_J0_length_8abf5 (zx_Y X) 0 s) wb_J0_length_8abf5 wi_J0_length_8abf5 wq_J0_length_8abf5 rfl wm_X3_86 rfl (Nat.le_of_ble_eq_true rfl) (Nat.le_of_ble_eq_true rfl) rfl (Nat.le_of_ble_eq_true rfl) dX3_wordOf_12 (fun r2 s3 => ?_)
    refine zv_icmp_ge (tgt := 96) hX dX3_wordOf_15 rfl ?_ ?_
    · refine zv_sipush (v := (nI 1002)) hX dX3_wordOf_96 zi_s_1002 ?_
      exact zv_ireti hX hT dX3_wordOf_99
    · refine zv_ldcW hX dX3_wordOf_18 ?_
      refine zv_iload hX dX3_wordOf_20 5 rfl ?_
      refine zv_cTI [.int v5] (i := 0) (rest := []) hX hT.2.2.2.2 (by decide) (c_J0_charAt_5068e (zx_Y X) 0 v5 s3) wb_J0_charAt_5068e wi_J0_charAt_5068e wq_J0_charAt_5068e rfl wm_X3_90 rfl (Nat.le_of_ble_eq_true rfl) (Nat.le_of_ble_eq_true rfl) rfl (Nat.le_of_ble_eq_true rfl) dX3_wordOf_22 (fun r4 s5 => ?_)
      refine zv_istore (lv' := [(6, .int r4), (0, .ref (zx_ad X v0)), (1, .int v1), (2, .int v2), (3, .int v3), (4, .int v4), (5, .int v5)]) hX dX3_wordOf_25 (by decide) rfl ?_
      refine zv_iload hX dX3_wordOf_27 0 rfl ?_
      refine zv_bipush (v := (nI 32)) hX dX3_wordOf_29 zi_b_32 ?_
      refine zv_icmp_ne (tgt := 57) hX dX3_wordOf_31 rfl ?_ ?_
      · refine zv_iload hX dX3_wordOf_57 5 rfl ?_
        refine zv_if_lt (tgt := 87) hX dX3_wordOf_59 rfl ?_ ?_
        · exact zv_sub [1, 2, 3, 4, 6] rfl (b_X3_wordOf_87 hX hT ih v0 v1 v2 v3 v5 s5)
        · refine zv_iload_n hX dX3_wordOf_62 2 rfl ?_
          refine zv_iload hX dX3_wordOf_63 5 rfl ?_
          refine zv_iadd hX dX3_wordOf_65 ?_
          refine zv_iload_n hX dX3_wordOf_66 3 rfl ?_
          refine zv_icmp_ge (tgt := 87) hX dX3_wordOf_67 rfl ?_ ?_
          · exact zv_sub [1, 2, 3, 4, 6] rfl (b_X3_wordOf_87 hX hT ih v0 v1 v2 v3 v5 s5)
          · refine zv_aload_n hX dX3_wordOf_70 1 rfl ?_
            refine zv_iload_n hX dX3_wordOf_71 2 rfl ?_
            refine zv_iload hX dX3_wordOf_72 5 rfl ?_
            refine zv_iadd hX dX3_wordOf_74 ?_
            refine zv_bald hX dX3_wordOf_75 (fun x6 => ?_)
            refine zv_iload hX dX3_wordOf_76 0 rfl ?_
            refine zv_icmp_ne (tgt := 87) hX dX3_wordOf_78 rfl ?_ ?_
            · exact zv_sub [1, 2, 3, 4, 6] rfl (b_X3_wordOf_87 hX hT ih v0 v1 v2 v3 v5 s5)
            · refine zv_iincB (lw := fun x7 => [(4, .int x7), (6, .int r4), (0, .ref (zx_ad X v0)), (1, .int v1), (2, .int v2), (3, .int v3), (5, .int v5)]) hX dX3_wordOf_81 5 rfl zi_i_1 (by decide) (fun _ => rfl) (fun x7 => ?_)
              refine zv_goto (tgt := 90) hX dX3_wordOf_84 rfl ?_
              exact zv_sub [2, 3, 4, 5, 0, 6] rfl (b_X3_wordOf_90 hX hT ih v0 v1 v2 v3 x7 v5 s5)
      · refine zv_iload hX dX3_wordOf_34 5 rfl ?_
        refine zv_iload_n hX dX3_wordOf_36 3 rfl ?_
        refine zv_iload_n hX dX3_wordOf_37 2 rfl ?_
        refine zv_isub hX dX3_wordOf_38 ?_
        refine zv_icmp_ne (tgt := 48) hX dX3_wordOf_39 rfl ?_ ?_
        · refine zv_iincB (lw := fun x8 => [(3, .int x8), (6, .int r4), (0, .ref (zx_ad X v0)), (1, .int v1), (2, .int v2), (4, .int v4), (5, .int v5)]) hX dX3_wordOf_48 4 rfl zi_i_1 (by decide) (fun _ => rfl) (fun x8 => ?_)
          refine zv_iconst (v := (0 : Int32)) hX dX3_wordOf_51 zi_i_0 ?_
          refine zv_istore (lv' := [(4, .int (0 : Int32)), (3, .int x8), (6, .int r4), (0, .ref (zx_ad X v0)), (1, .int v1), (2, .int v2), (5, .int v5)]) hX dX3_wordOf_52 (by decide) rfl ?_
          refine zv_goto (tgt := 90) hX dX3_wordOf_54 rfl ?_
          exact zv_sub [3, 4, 5, 1, 0, 6] rfl (b_X3_wordOf_90 hX hT ih v0 v1 v2 x8 (0 : Int32) v5 s5)
        · refine zv_sipush (v := (nI 1200)) hX dX3_wordOf_42 zi_s_1200 ?_
          refine zv_iload_n hX dX3_wordOf_45 4 rfl ?_
          refine zv_iadd hX dX3_wordOf_46 ?_
          exact zv_ireti hX hT dX3_wordOf_47
def f_X3_wordOf (v0 : Nat) (v1 : Int32) (v2 : Int32) (s : zS) : Option (Int32 × zS) :=
  f_X3_wordOf_8 zFU v0 v1 v2 (0 : Int32) (0 : Int32) (0 : Int32) s
set_option maxRecDepth 20000 in
theorem c_X3_wordOf (Y : zG) (v0 : Nat) (v1 : Int32) (v2 : Int32) (s : zS) : zM Y yX3_wordOf cX3_wordOf 7 (some .int) (zR 4 85) [.ref (zy_a Y v0), .int v1, .int v2] s zrI (f_X3_wordOf v0 v1 v2 s) := by
  refine zm_start (by decide +kernel) (Nat.le_of_ble_eq_true rfl) ?_
  intro X hY hT hX
  subst hY
  have hX : zx_ok X cX3_wordOf RX3 7 := hX
  show zV X (zq X zrI) 7 0 [(0, .ref (zx_ad X v0)), (1, .int v1), (2, .int v2)] [] s _
  unfold f_X3_wordOf
  refine zv_iconst (v := (0 : Int32)) hX dX3_wordOf_0 zi_i_0 ?_
  refine zv_istore_n (lv' := [(3, .int (0 : Int32)), (0, .ref (zx_ad X v0)), (1, .int v1), (2, .int v2)]) hX dX3_wordOf_1 (by decide) rfl ?_
  refine zv_iconst (v := (0 : Int32)) hX dX3_wordOf_2 zi_i_0 ?_
  refine zv_istore (lv' := [(4, .int (0 : Int32)), (3, .int (0 : Int32)), (0, .ref (zx_ad X v0)), (1, .int v1), (2, .int v2)]) hX dX3_wordOf_3 (by decide) rfl ?_
  refine zv_iconst (v := (0 : Int32)) hX dX3_wordOf_5 zi_i_0 ?_
  refine zv_istore (lv' := [(5, .int (0 : Int32)), (4, .int (0 : Int32)), (3, .int (0 : Int32)), (0, .ref (zx_ad X v0)), (1, .int v1), (2, .int v2)]) hX dX3_wordOf_6 (by decide) rfl ?_
  exact zv_sub [3, 4, 5, 2, 1, 0] rfl (b_X3_wordOf_8 hX hT zFU v0 v1 v2 (0 : Int32) (0 : Int32) (0 : Int32) s)
theorem dJ1_canEncode_9a6ad_0 : decode cJ1_canEncode_9a6ad 0 = .ok (.iload_n 0, 1) := by decide +kernel
theorem dJ1_canEncode_9a6ad_1 : decode cJ1_canEncode_9a6ad 1 = .ok (.ifCond .lt 14, 3) := by decide +kernel
theorem dJ1_canEncode_9a6ad_4 : decode cJ1_canEncode_9a6ad 4 = .ok (.iload_n 0, 1) := by decide +kernel
theorem dJ1_canEncode_9a6ad_5 : decode cJ1_canEncode_9a6ad 5 = .ok (.sipush 255, 3) := by decide +kernel
theorem dJ1_canEncode_9a6ad_8 : decode cJ1_canEncode_9a6ad 8 = .ok (.if_icmp .gt 7, 3) := by decide +kernel
theorem dJ1_canEncode_9a6ad_11 : decode cJ1_canEncode_9a6ad 11 = .ok (.iconst 1, 1) := by decide +kernel
theorem dJ1_canEncode_9a6ad_12 : decode cJ1_canEncode_9a6ad 12 = .ok (.goto 4, 3) := by decide +kernel
theorem dJ1_canEncode_9a6ad_15 : decode cJ1_canEncode_9a6ad 15 = .ok (.iconst 0, 1) := by decide +kernel
theorem dJ1_canEncode_9a6ad_16 : decode cJ1_canEncode_9a6ad 16 = .ok (.ireturn, 1) := by decide +kernel
def f_J1_canEncode_9a6ad_16 (w0 : Int32) (s : zS) : Option (Int32 × zS) :=
  if w0 = 0 ∨ w0 = 1 then some (w0, s) else none
set_option maxRecDepth 20000 in
theorem b_J1_canEncode_9a6ad_16 {X : zX} (hX : zx_ok X cJ1_canEncode_9a6ad RJ1 1) (hT : zx_rt X (some .boolean) (zR 0 0)) : ∀ (w0 : Int32) (s : zS), zV X (zq X zrI) 1 16 [] [.int w0] s (f_J1_canEncode_9a6ad_16 w0 s) := by
  intro w0 s
  unfold f_J1_canEncode_9a6ad_16
  exact zv_iretzB hX hT dJ1_canEncode_9a6ad_16
def f_J1_canEncode_9a6ad_15  (s : zS) : Option (Int32 × zS) :=
  f_J1_canEncode_9a6ad_16 (0 : Int32) s
set_option maxRecDepth 20000 in
theorem b_J1_canEncode_9a6ad_15 {X : zX} (hX : zx_ok X cJ1_canEncode_9a6ad RJ1 1) (hT : zx_rt X (some .boolean) (zR 0 0)) : ∀  (s : zS), zV X (zq X zrI) 1 15 [] [] s (f_J1_canEncode_9a6ad_15  s) := by
  intro  s
  unfold f_J1_canEncode_9a6ad_15
  refine zv_iconst (v := (0 : Int32)) hX dJ1_canEncode_9a6ad_15 zi_i_0 ?_
  exact b_J1_canEncode_9a6ad_16 hX hT (0 : Int32) s
def f_J1_canEncode_9a6ad (v0 : Int32) (s : zS) : Option (Int32 × zS) :=
  if v0 < 0 then
  (f_J1_canEncode_9a6ad_15 s)
  else
  if (nI 255) < v0 then
  (f_J1_canEncode_9a6ad_15 s)
  else
  f_J1_canEncode_9a6ad_16 (1 : Int32) s
set_option maxRecDepth 20000 in
theorem c_J1_canEncode_9a6ad (Y : zG) (v0 : Int32) (s : zS) : zM Y yJ1_canEncode_9a6ad cJ1_canEncode_9a6ad 1 (some .boolean) (zR 0 0) [.int v0] s zrI (f_J1_canEncode_9a6ad v0 s) := by
  refine zm_startJ (by decide +kernel) (Nat.le_of_ble_eq_true rfl) ?_
  intro X hY hT hX
  subst hY
  have hX : zx_ok X cJ1_canEncode_9a6ad RJ1 1 := hX
  show zV X (zq X zrI) 1 0 [(0, .int v0)] [] s _
  unfold f_J1_canEncode_9a6ad
  refine zv_iload_n hX dJ1_canEncode_9a6ad_0 0 rfl ?_
  refine zv_if_lt (tgt := 15) hX dJ1_canEncode_9a6ad_1 rfl ?_ ?_
  · exact zv_sub [] rfl (b_J1_canEncode_9a6ad_15 hX hT  s)
  · refine zv_iload_n hX dJ1_canEncode_9a6ad_4 0 rfl ?_
    refine zv_sipush (v := (nI 255)) hX dJ1_canEncode_9a6ad_5 zi_s_255 ?_
    refine zv_icmp_gt (tgt := 15) hX dJ1_canEncode_9a6ad_8 rfl ?_ ?_
    · exact zv_sub [] rfl (b_J1_canEncode_9a6ad_15 hX hT  s)
    · refine zv_iconst (v := (1 : Int32)) hX dJ1_canEncode_9a6ad_11 zi_i_1 ?_
      refine zv_goto (tgt := 16) hX dJ1_canEncode_9a6ad_12 rfl ?_
      exact zv_sub [] rfl (b_J1_canEncode_9a6ad_16 hX hT (1 : Int32) s)
theorem dJ1_indexOfChar_4cfef_0 : decode cJ1_indexOfChar_4cfef 0 = .ok (.iload_n 1, 1) := by decide +kernel
theorem dJ1_indexOfChar_4cfef_1 : decode cJ1_indexOfChar_4cfef 1 = .ok (.i2b, 1) := by decide +kernel
theorem dJ1_indexOfChar_4cfef_2 : decode cJ1_indexOfChar_4cfef 2 = .ok (.istore 4, 2) := by decide +kernel
theorem dJ1_indexOfChar_4cfef_4 : decode cJ1_indexOfChar_4cfef 4 = .ok (.iload_n 2, 1) := by decide +kernel
theorem dJ1_indexOfChar_4cfef_5 : decode cJ1_indexOfChar_4cfef 5 = .ok (.istore 5, 2) := by decide +kernel
theorem dJ1_indexOfChar_4cfef_7 : decode cJ1_indexOfChar_4cfef 7 = .ok (.iload 5, 2) := by decide +kernel
theorem dJ1_indexOfChar_4cfef_9 : decode cJ1_indexOfChar_4cfef 9 = .ok (.iload_n 3, 1) := by decide +kernel
theorem dJ1_indexOfChar_4cfef_10 : decode cJ1_indexOfChar_4cfef 10 = .ok (.if_icmp .ge 21, 3) := by decide +kernel
theorem dJ1_indexOfChar_4cfef_13 : decode cJ1_indexOfChar_4cfef 13 = .ok (.aload_n 0, 1) := by decide +kernel
theorem dJ1_indexOfChar_4cfef_14 : decode cJ1_indexOfChar_4cfef 14 = .ok (.iload 5, 2) := by decide +kernel
theorem dJ1_indexOfChar_4cfef_16 : decode cJ1_indexOfChar_4cfef 16 = .ok (.baload, 1) := by decide +kernel
theorem dJ1_indexOfChar_4cfef_17 : decode cJ1_indexOfChar_4cfef 17 = .ok (.iload 4, 2) := by decide +kernel
theorem dJ1_indexOfChar_4cfef_19 : decode cJ1_indexOfChar_4cfef 19 = .ok (.if_icmp .ne 6, 3) := by decide +kernel
theorem dJ1_indexOfChar_4cfef_22 : decode cJ1_indexOfChar_4cfef 22 = .ok (.iload 5, 2) := by decide +kernel
theorem dJ1_indexOfChar_4cfef_24 : decode cJ1_indexOfChar_4cfef 24 = .ok (.ireturn, 1) := by decide +kernel
theorem dJ1_indexOfChar_4cfef_25 : decode cJ1_indexOfChar_4cfef 25 = .ok (.iinc 5 1, 3) := by decide +kernel
theorem dJ1_indexOfChar_4cfef_28 : decode cJ1_indexOfChar_4cfef 28 = .ok (.goto (-21), 3) := by decide +kernel
theorem dJ1_indexOfChar_4cfef_31 : decode cJ1_indexOfChar_4cfef 31 = .ok (.iconst (-1), 1) := by decide +kernel
theorem dJ1_indexOfChar_4cfef_32 : decode cJ1_indexOfChar_4cfef 32 = .ok (.ireturn, 1) := by decide +kernel
def f_J1_indexOfChar_4cfef_7 : Nat → Nat → Int32 → Int32 → Int32 → zS → Option (Int32 × zS)
  | 0, _, _, _, _, _ => none
  | n + 1, i0, v3, v4, v5, s =>
    if v3 ≤ v5 then
    (some ((-1 : Int32), s))
    else
    (zr_y i0 v5).bind fun x1 =>
    if ¬ x1 = v4 then
    (zb (v5 + (1 : Int32)) fun x2 =>
    f_J1_indexOfChar_4cfef_7 n i0 v3 v4 x2 s)
    else
    some (v5, s)
set_option maxRecDepth 20000 in
theorem b_J1_indexOfChar_4cfef_7 {X : zX} (hX : zx_ok X cJ1_indexOfChar_4cfef RJ1 6) (hT : zx_rt X (some .int) (zR 0 0)) : ∀ (n : Nat) (i0 : Nat) (v3 : Int32) (v4 : Int32) (v5 : Int32) (s : zS), zV X (zq X zrI) 6 7 [(0, .ref (zx_tv X (20 + i0))), (3, .int v3), (4, .int v4), (5, .int v5)] [] s (f_J1_indexOfChar_4cfef_7 n i0 v3 v4 v5 s) := by
  intro n
  induction n with
  | zero => intro i0 v3 v4 v5 s; exact zv_none
  | succ n ih =>
    intro i0 v3 v4 v5 s
    rw [f_J1_indexOfChar_4cfef_7]
    refine zv_iload hX dJ1_indexOfChar_4cfef_7 3 rfl ?_
    refine zv_iload_n hX dJ1_indexOfChar_4cfef_9 1 rfl ?_
    refine zv_icmp_ge (tgt := 31) hX dJ1_indexOfChar_4cfef_10 rfl ?_ ?_
    · refine zv_iconst (v := (-1 : Int32)) hX dJ1_indexOfChar_4cfef_31 zi_i_m1 ?_
      exact zv_ireti hX hT dJ1_indexOfChar_4cfef_32
    · refine zv_aload_n hX dJ1_indexOfChar_4cfef_13 0 rfl ?_
      refine zv_iload hX dJ1_indexOfChar_4cfef_14 3 rfl ?_
      refine zv_syld hX dJ1_indexOfChar_4cfef_16 (fun x1 => ?_)
      refine zv_iload hX dJ1_indexOfChar_4cfef_17 2 rfl ?_
      refine zv_icmp_ne (tgt := 25) hX dJ1_indexOfChar_4cfef_19 rfl ?_ ?_
      · refine zv_iincB (lw := fun x2 => [(5, .int x2), (0, .ref (zx_tv X (20 + i0))), (3, .int v3), (4, .int v4)]) hX dJ1_indexOfChar_4cfef_25 3 rfl zi_i_1 (by decide) (fun _ => rfl) (fun x2 => ?_)
        refine zv_goto (tgt := 7) hX dJ1_indexOfChar_4cfef_28 rfl ?_
        exact zv_sub [1, 2, 3, 0] rfl (ih i0 v3 v4 x2 s)
      · refine zv_iload hX dJ1_indexOfChar_4cfef_22 3 rfl ?_
        exact zv_ireti hX hT dJ1_indexOfChar_4cfef_24
def f_J1_indexOfChar_4cfef (v0 : Nat) (v1 : Int32) (v2 : Int32) (v3 : Int32) (s : zS) : Option (Int32 × zS) :=
  zb (v1.toInt8.toInt32) fun x3 =>
  f_J1_indexOfChar_4cfef_7 zFU v0 v3 x3 v2 s
set_option maxRecDepth 20000 in
theorem c_J1_indexOfChar_4cfef (Y : zG) (v0 : Nat) (v1 : Int32) (v2 : Int32) (v3 : Int32) (s : zS) : zM Y yJ1_indexOfChar_4cfef cJ1_indexOfChar_4cfef 6 (some .int) (zR 0 0) [.ref (zy_t Y (20 + v0)), .int v1, .int v2, .int v3] s zrI (f_J1_indexOfChar_4cfef v0 v1 v2 v3 s) := by
  refine zm_startJ (by decide +kernel) (Nat.le_of_ble_eq_true rfl) ?_
  intro X hY hT hX
  subst hY
  have hX : zx_ok X cJ1_indexOfChar_4cfef RJ1 6 := hX
  show zV X (zq X zrI) 6 0 [(0, .ref (zx_tv X (20 + v0))), (1, .int v1), (2, .int v2), (3, .int v3)] [] s _
  unfold f_J1_indexOfChar_4cfef
  refine zv_iload_n hX dJ1_indexOfChar_4cfef_0 1 rfl ?_
  refine zv_i2b hX dJ1_indexOfChar_4cfef_1 ?_
  refine zv_istB (lw := fun x3 => [(4, .int x3), (0, .ref (zx_tv X (20 + v0))), (1, .int v1), (2, .int v2), (3, .int v3)]) hX dJ1_indexOfChar_4cfef_2 (by decide) (fun _ => rfl) (fun x3 => ?_)
  refine zv_iload_n hX dJ1_indexOfChar_4cfef_4 3 rfl ?_
  refine zv_istore (lv' := [(5, .int v2), (4, .int x3), (0, .ref (zx_tv X (20 + v0))), (1, .int v1), (2, .int v2), (3, .int v3)]) hX dJ1_indexOfChar_4cfef_5 (by decide) rfl ?_
  exact zv_sub [2, 5, 1, 0] rfl (b_J1_indexOfChar_4cfef_7 hX hT zFU v0 v3 x3 v2 s)
theorem dJ1_indexOf_4cfef_0 : decode cJ1_indexOf_4cfef 0 = .ok (.iload_n 1, 1) := by decide +kernel
theorem dJ1_indexOf_4cfef_1 : decode cJ1_indexOf_4cfef 1 = .ok (.invokestatic 88, 3) := by decide +kernel
theorem dJ1_indexOf_4cfef_4 : decode cJ1_indexOf_4cfef 4 = .ok (.ifCond .ne 5, 3) := by decide +kernel
theorem dJ1_indexOf_4cfef_7 : decode cJ1_indexOf_4cfef 7 = .ok (.iconst (-1), 1) := by decide +kernel
theorem dJ1_indexOf_4cfef_8 : decode cJ1_indexOf_4cfef 8 = .ok (.ireturn, 1) := by decide +kernel
theorem dJ1_indexOf_4cfef_9 : decode cJ1_indexOf_4cfef 9 = .ok (.iload_n 2, 1) := by decide +kernel
theorem dJ1_indexOf_4cfef_10 : decode cJ1_indexOf_4cfef 10 = .ok (.iconst 0, 1) := by decide +kernel
theorem dJ1_indexOf_4cfef_11 : decode cJ1_indexOf_4cfef 11 = .ok (.invokestatic 92, 3) := by decide +kernel
theorem dJ1_indexOf_4cfef_14 : decode cJ1_indexOf_4cfef 14 = .ok (.istore_n 2, 1) := by decide +kernel
theorem dJ1_indexOf_4cfef_15 : decode cJ1_indexOf_4cfef 15 = .ok (.iload_n 3, 1) := by decide +kernel
theorem dJ1_indexOf_4cfef_16 : decode cJ1_indexOf_4cfef 16 = .ok (.aload_n 0, 1) := by decide +kernel
theorem dJ1_indexOf_4cfef_17 : decode cJ1_indexOf_4cfef 17 = .ok (.arraylength, 1) := by decide +kernel
theorem dJ1_indexOf_4cfef_18 : decode cJ1_indexOf_4cfef 18 = .ok (.invokestatic 38, 3) := by decide +kernel
theorem dJ1_indexOf_4cfef_21 : decode cJ1_indexOf_4cfef 21 = .ok (.istore_n 3, 1) := by decide +kernel
theorem dJ1_indexOf_4cfef_22 : decode cJ1_indexOf_4cfef 22 = .ok (.iload_n 2, 1) := by decide +kernel
theorem dJ1_indexOf_4cfef_23 : decode cJ1_indexOf_4cfef 23 = .ok (.iload_n 3, 1) := by decide +kernel
theorem dJ1_indexOf_4cfef_24 : decode cJ1_indexOf_4cfef 24 = .ok (.if_icmp .lt 5, 3) := by decide +kernel
theorem dJ1_indexOf_4cfef_27 : decode cJ1_indexOf_4cfef 27 = .ok (.iconst (-1), 1) := by decide +kernel
theorem dJ1_indexOf_4cfef_28 : decode cJ1_indexOf_4cfef 28 = .ok (.ireturn, 1) := by decide +kernel
theorem dJ1_indexOf_4cfef_29 : decode cJ1_indexOf_4cfef 29 = .ok (.aload_n 0, 1) := by decide +kernel
theorem dJ1_indexOf_4cfef_30 : decode cJ1_indexOf_4cfef 30 = .ok (.iload_n 1, 1) := by decide +kernel
theorem dJ1_indexOf_4cfef_31 : decode cJ1_indexOf_4cfef 31 = .ok (.iload_n 2, 1) := by decide +kernel
theorem dJ1_indexOf_4cfef_32 : decode cJ1_indexOf_4cfef 32 = .ok (.iload_n 3, 1) := by decide +kernel
theorem dJ1_indexOf_4cfef_33 : decode cJ1_indexOf_4cfef 33 = .ok (.invokestatic 95, 3) := by decide +kernel
theorem dJ1_indexOf_4cfef_36 : decode cJ1_indexOf_4cfef 36 = .ok (.ireturn, 1) := by decide +kernel
def f_J1_indexOf_4cfef (v0 : Nat) (v1 : Int32) (v2 : Int32) (v3 : Int32) (s : zS) : Option (Int32 × zS) :=
  zbd (f_J1_canEncode_9a6ad v1 s) fun r1 s2 =>
  if ¬ r1 = 0 then
  (zbd (f_J9_max_7cf53 v2 (0 : Int32) s2) fun r3 s4 =>
  if v0 < 3 then
  (zbd (f_J9_min_7cf53 v3 (nI (zt_len.getD v0 0)) s4) fun r5 s6 =>
  if r3 < r5 then
  (zbd (f_J1_indexOfChar_4cfef v0 v1 r3 r5 s6) fun r7 s8 =>
  some (r7, s8))
  else
  some ((-1 : Int32), s6))
  else none)
  else
  some ((-1 : Int32), s2)
set_option maxRecDepth 20000 in
theorem c_J1_indexOf_4cfef (Y : zG) (v0 : Nat) (v1 : Int32) (v2 : Int32) (v3 : Int32) (s : zS) : zM Y yJ1_indexOf_4cfef cJ1_indexOf_4cfef 4 (some .int) (zR 1 25) [.ref (zy_t Y (20 + v0)), .int v1, .int v2, .int v3] s zrI (f_J1_indexOf_4cfef v0 v1 v2 v3 s) := by
  refine zm_startJ (by decide +kernel) (Nat.le_of_ble_eq_true rfl) ?_
  intro X hY hT hX
  subst hY
  have hX : zx_ok X cJ1_indexOf_4cfef RJ1 4 := hX
  show zV X (zq X zrI) 4 0 [(0, .ref (zx_tv X (20 + v0))), (1, .int v1), (2, .int v2), (3, .int v3)] [] s _
  unfold f_J1_indexOf_4cfef
  refine zv_iload_n hX dJ1_indexOf_4cfef_0 1 rfl ?_
  refine zv_cSI [.int v1] (rest := []) hX hT.2.2.2.2 (c_J1_canEncode_9a6ad (zx_Y X) v1 s) wv_J1_canEncode_9a6ad wm_J1_88 rfl (Nat.le_of_ble_eq_true rfl) (Nat.le_of_ble_eq_true rfl) rfl (Nat.le_of_ble_eq_true rfl) dJ1_indexOf_4cfef_1 (fun r1 s2 => ?_)
  refine zv_if_ne (tgt := 9) hX dJ1_indexOf_4cfef_4 rfl ?_ ?_
  · refine zv_iload_n hX dJ1_indexOf_4cfef_9 2 rfl ?_
    refine zv_iconst (v := (0 : Int32)) hX dJ1_indexOf_4cfef_10 zi_i_0 ?_
    refine zv_cSI [.int v2, .int (0 : Int32)] (rest := []) hX hT.2.2.2.2 (c_J9_max_7cf53 (zx_Y X) v2 (0 : Int32) s2) wv_J9_max_7cf53 wm_J1_92 rfl (Nat.le_of_ble_eq_true rfl) (Nat.le_of_ble_eq_true rfl) rfl (Nat.le_of_ble_eq_true rfl) dJ1_indexOf_4cfef_11 (fun r3 s4 => ?_)
    refine zv_istore_n (lv' := [(2, .int r3), (0, .ref (zx_tv X (20 + v0))), (1, .int v1), (3, .int v3)]) hX dJ1_indexOf_4cfef_14 (by decide) rfl ?_
    refine zv_iload_n hX dJ1_indexOf_4cfef_15 3 rfl ?_
    refine zv_aload_n hX dJ1_indexOf_4cfef_16 1 rfl ?_
    refine zv_ite (fun h3 => ?_) (fun _ => zv_none)
    refine zv_sylen (j := v0) hX h3 dJ1_indexOf_4cfef_17 ?_
    refine zv_cSI [.int v3, .int (nI (zt_len.getD v0 0))] (rest := []) hX hT.2.2.2.2 (c_J9_min_7cf53 (zx_Y X) v3 (nI (zt_len.getD v0 0)) s4) wv_J9_min_7cf53 wm_J1_38 rfl (Nat.le_of_ble_eq_true rfl) (Nat.le_of_ble_eq_true rfl) rfl (Nat.le_of_ble_eq_true rfl) dJ1_indexOf_4cfef_18 (fun r5 s6 => ?_)
    refine zv_istore_n (lv' := [(3, .int r5), (2, .int r3), (0, .ref (zx_tv X (20 + v0))), (1, .int v1)]) hX dJ1_indexOf_4cfef_21 (by decide) rfl ?_
    refine zv_iload_n hX dJ1_indexOf_4cfef_22 1 rfl ?_
    refine zv_iload_n hX dJ1_indexOf_4cfef_23 0 rfl ?_
    refine zv_icmp_lt (tgt := 29) hX dJ1_indexOf_4cfef_24 rfl ?_ ?_
    · refine zv_aload_n hX dJ1_indexOf_4cfef_29 2 rfl ?_
      refine zv_iload_n hX dJ1_indexOf_4cfef_30 3 rfl ?_
      refine zv_iload_n hX dJ1_indexOf_4cfef_31 1 rfl ?_
      refine zv_iload_n hX dJ1_indexOf_4cfef_32 0 rfl ?_
      refine zv_cSI [.ref (zx_tv X (20 + v0)), .int v1, .int r3, .int r5] (rest := []) hX hT.2.2.2.2 (c_J1_indexOfChar_4cfef (zx_Y X) v0 v1 r3 r5 s6) wv_J1_indexOfChar_4cfef wm_J1_95 rfl (Nat.le_of_ble_eq_true rfl) (Nat.le_of_ble_eq_true rfl) rfl (Nat.le_of_ble_eq_true rfl) dJ1_indexOf_4cfef_33 (fun r7 s8 => ?_)
      exact zv_ireti hX hT dJ1_indexOf_4cfef_36
    · refine zv_iconst (v := (-1 : Int32)) hX dJ1_indexOf_4cfef_27 zi_i_m1 ?_
      exact zv_ireti hX hT dJ1_indexOf_4cfef_28
  · refine zv_iconst (v := (-1 : Int32)) hX dJ1_indexOf_4cfef_7 zi_i_m1 ?_
    exact zv_ireti hX hT dJ1_indexOf_4cfef_8
