theorem dX8_within_0 : decode cX8_within 0 = .ok (.lload_n 0, 1) := by decide +kernel
theorem dX8_within_1 : decode cX8_within 1 = .ok (.lload_n 2, 1) := by decide +kernel
theorem dX8_within_2 : decode cX8_within 2 = .ok (.lcmp, 1) := by decide +kernel
theorem dX8_within_3 : decode cX8_within 3 = .ok (.ifCond .lt 14, 3) := by decide +kernel
theorem dX8_within_6 : decode cX8_within 6 = .ok (.lload_n 0, 1) := by decide +kernel
theorem dX8_within_7 : decode cX8_within 7 = .ok (.lload 4, 2) := by decide +kernel
theorem dX8_within_9 : decode cX8_within 9 = .ok (.lcmp, 1) := by decide +kernel
theorem dX8_within_10 : decode cX8_within 10 = .ok (.ifCond .gt 7, 3) := by decide +kernel
theorem dX8_within_13 : decode cX8_within 13 = .ok (.iconst 1, 1) := by decide +kernel
theorem dX8_within_14 : decode cX8_within 14 = .ok (.goto 4, 3) := by decide +kernel
theorem dX8_within_17 : decode cX8_within 17 = .ok (.iconst 0, 1) := by decide +kernel
theorem dX8_within_18 : decode cX8_within 18 = .ok (.ireturn, 1) := by decide +kernel
def f_X8_within_18 (w0 : Int32) (s : zS) : Option (Int32 × zS) :=
  if w0 = 0 ∨ w0 = 1 then some (w0, s) else none
set_option maxRecDepth 20000 in
theorem b_X8_within_18 {X : zX} (hX : zx_ok X cX8_within RX8 6) (hT : zx_rt X (some .boolean) (zR 0 0)) : ∀ (w0 : Int32) (s : zS), zV X (zq X zrI) 6 18 [] [.int w0] s (f_X8_within_18 w0 s) := by
  intro w0 s
  unfold f_X8_within_18
  exact zv_iretzB hX hT dX8_within_18
def f_X8_within_17  (s : zS) : Option (Int32 × zS) :=
  f_X8_within_18 (0 : Int32) s
set_option maxRecDepth 20000 in
theorem b_X8_within_17 {X : zX} (hX : zx_ok X cX8_within RX8 6) (hT : zx_rt X (some .boolean) (zR 0 0)) : ∀  (s : zS), zV X (zq X zrI) 6 17 [] [] s (f_X8_within_17  s) := by
  intro  s
  unfold f_X8_within_17
  refine zv_iconst (v := (0 : Int32)) hX dX8_within_17 zi_i_0 ?_
  exact b_X8_within_18 hX hT (0 : Int32) s
def f_X8_within (v0 : Int64) (v2 : Int64) (v4 : Int64) (s : zS) : Option (Int32 × zS) :=
  if (lg_cmp v0 v2) < 0 then
  (f_X8_within_17 s)
  else
  if 0 < (lg_cmp v0 v4) then
  (f_X8_within_17 s)
  else
  f_X8_within_18 (1 : Int32) s
set_option maxRecDepth 20000 in
theorem c_X8_within (Y : zG) (v0 : Int64) (v2 : Int64) (v4 : Int64) (s : zS) : zM Y yX8_within cX8_within 6 (some .boolean) (zR 0 0) [.long v0, .long v2, .long v4] s zrI (f_X8_within v0 v2 v4 s) := by
  refine zm_start (by decide +kernel) (Nat.le_of_ble_eq_true rfl) ?_
  intro X hY hT hX
  subst hY
  have hX : zx_ok X cX8_within RX8 6 := hX
  show zV X (zq X zrI) 6 0 [(0, .long v0), (2, .long v2), (4, .long v4)] [] s _
  unfold f_X8_within
  refine zv_lload_n hX dX8_within_0 0 rfl ?_
  refine zv_lload_n hX dX8_within_1 1 rfl ?_
  refine zv_lcmp hX dX8_within_2 ?_
  refine zv_if_lt (tgt := 17) hX dX8_within_3 rfl ?_ ?_
  · exact zv_sub [] rfl (b_X8_within_17 hX hT  s)
  · refine zv_lload_n hX dX8_within_6 0 rfl ?_
    refine zv_lload hX dX8_within_7 2 rfl ?_
    refine zv_lcmp hX dX8_within_9 ?_
    refine zv_if_gt (tgt := 17) hX dX8_within_10 rfl ?_ ?_
    · exact zv_sub [] rfl (b_X8_within_17 hX hT  s)
    · refine zv_iconst (v := (1 : Int32)) hX dX8_within_13 zi_i_1 ?_
      refine zv_goto (tgt := 18) hX dX8_within_14 rfl ?_
      exact zv_sub [] rfl (b_X8_within_18 hX hT (1 : Int32) s)
theorem dX8_isPerson_0 : decode cX8_isPerson 0 = .ok (.lload_n 1, 1) := by decide +kernel
theorem dX8_isPerson_1 : decode cX8_isPerson 1 = .ok (.lconst 0, 1) := by decide +kernel
theorem dX8_isPerson_2 : decode cX8_isPerson 2 = .ok (.aload_n 0, 1) := by decide +kernel
theorem dX8_isPerson_3 : decode cX8_isPerson 3 = .ok (.getfield 13, 3) := by decide +kernel
theorem dX8_isPerson_6 : decode cX8_isPerson 6 = .ok (.iconst 1, 1) := by decide +kernel
theorem dX8_isPerson_7 : decode cX8_isPerson 7 = .ok (.iaload, 1) := by decide +kernel
theorem dX8_isPerson_8 : decode cX8_isPerson 8 = .ok (.iconst 1, 1) := by decide +kernel
theorem dX8_isPerson_9 : decode cX8_isPerson 9 = .ok (.isub, 1) := by decide +kernel
theorem dX8_isPerson_10 : decode cX8_isPerson 10 = .ok (.i2l, 1) := by decide +kernel
theorem dX8_isPerson_11 : decode cX8_isPerson 11 = .ok (.invokestatic 154, 3) := by decide +kernel
theorem dX8_isPerson_14 : decode cX8_isPerson 14 = .ok (.ireturn, 1) := by decide +kernel
def f_X8_isPerson (v1 : Int64) (s : zS) : Option (Int32 × zS) :=
  (zr_i s 77 (1 : Int32)).bind fun x1 =>
  zbd (f_X8_within v1 (0 : Int64) ((x1 - (1 : Int32)).toInt64) s) fun r2 s3 =>
  if r2 = 0 ∨ r2 = 1 then some (r2, s3) else none
set_option maxRecDepth 20000 in
theorem c_X8_isPerson (Y : zG) (v1 : Int64) (s : zS) : zM Y yX8_isPerson cX8_isPerson 3 (some .boolean) (zR 1 25) [.ref (zy_a Y 76), .long v1] s zrI (f_X8_isPerson v1 s) := by
  refine zm_start (by decide +kernel) (Nat.le_of_ble_eq_true rfl) ?_
  intro X hY hT hX
  subst hY
  have hX : zx_ok X cX8_isPerson RX8 3 := hX
  show zV X (zq X zrI) 3 0 [(0, .ref (zx_ad X 76)), (1, .long v1)] [] s _
  unfold f_X8_isPerson
  refine zv_lload_n hX dX8_isPerson_0 1 rfl ?_
  refine zv_lconst (v := (0 : Int64)) hX dX8_isPerson_1 zi_l_0 ?_
  refine zv_aload_n hX dX8_isPerson_2 0 rfl ?_
  refine zv_geta hX wf_X8_13 wc_8 zd_76 zj_76_1 c9_8 zr_76_1 (by decide) dX8_isPerson_3 ?_
  refine zv_iconst (v := (1 : Int32)) hX dX8_isPerson_6 zi_i_1 ?_
  refine zv_iald hX dX8_isPerson_7 (fun x1 => ?_)
  refine zv_iconst (v := (1 : Int32)) hX dX8_isPerson_8 zi_i_1 ?_
  refine zv_isub hX dX8_isPerson_9 ?_
  refine zv_i2l hX dX8_isPerson_10 ?_
  refine zv_cSI [.long v1, .long (0 : Int64), .long ((x1 - (1 : Int32)).toInt64)] (rest := []) hX hT.2.2.2.2 (c_X8_within (zx_Y X) v1 (0 : Int64) ((x1 - (1 : Int32)).toInt64) s) wv_X8_within wm_X8_154 rfl (Nat.le_of_ble_eq_true rfl) (Nat.le_of_ble_eq_true rfl) rfl (Nat.le_of_ble_eq_true rfl) dX8_isPerson_11 (fun r2 s3 => ?_)
  exact zv_iretzB hX hT dX8_isPerson_14
theorem dX8_areTwo_0 : decode cX8_areTwo 0 = .ok (.aload_n 0, 1) := by decide +kernel
theorem dX8_areTwo_1 : decode cX8_areTwo 1 = .ok (.lload_n 1, 1) := by decide +kernel
theorem dX8_areTwo_2 : decode cX8_areTwo 2 = .ok (.invokevirtual 219, 3) := by decide +kernel
theorem dX8_areTwo_5 : decode cX8_areTwo 5 = .ok (.ifCond .eq 21, 3) := by decide +kernel
theorem dX8_areTwo_8 : decode cX8_areTwo 8 = .ok (.aload_n 0, 1) := by decide +kernel
theorem dX8_areTwo_9 : decode cX8_areTwo 9 = .ok (.lload_n 3, 1) := by decide +kernel
theorem dX8_areTwo_10 : decode cX8_areTwo 10 = .ok (.invokevirtual 219, 3) := by decide +kernel
theorem dX8_areTwo_13 : decode cX8_areTwo 13 = .ok (.ifCond .eq 13, 3) := by decide +kernel
theorem dX8_areTwo_16 : decode cX8_areTwo 16 = .ok (.lload_n 1, 1) := by decide +kernel
theorem dX8_areTwo_17 : decode cX8_areTwo 17 = .ok (.lload_n 3, 1) := by decide +kernel
theorem dX8_areTwo_18 : decode cX8_areTwo 18 = .ok (.lcmp, 1) := by decide +kernel
theorem dX8_areTwo_19 : decode cX8_areTwo 19 = .ok (.ifCond .eq 7, 3) := by decide +kernel
theorem dX8_areTwo_22 : decode cX8_areTwo 22 = .ok (.iconst 1, 1) := by decide +kernel
theorem dX8_areTwo_23 : decode cX8_areTwo 23 = .ok (.goto 4, 3) := by decide +kernel
theorem dX8_areTwo_26 : decode cX8_areTwo 26 = .ok (.iconst 0, 1) := by decide +kernel
theorem dX8_areTwo_27 : decode cX8_areTwo 27 = .ok (.ireturn, 1) := by decide +kernel
def f_X8_areTwo_27 (w0 : Int32) (s : zS) : Option (Int32 × zS) :=
  if w0 = 0 ∨ w0 = 1 then some (w0, s) else none
set_option maxRecDepth 20000 in
theorem b_X8_areTwo_27 {X : zX} (hX : zx_ok X cX8_areTwo RX8 5) (hT : zx_rt X (some .boolean) (zR 2 47)) : ∀ (w0 : Int32) (s : zS), zV X (zq X zrI) 5 27 [] [.int w0] s (f_X8_areTwo_27 w0 s) := by
  intro w0 s
  unfold f_X8_areTwo_27
  exact zv_iretzB hX hT dX8_areTwo_27
def f_X8_areTwo_26  (s : zS) : Option (Int32 × zS) :=
  f_X8_areTwo_27 (0 : Int32) s
set_option maxRecDepth 20000 in
theorem b_X8_areTwo_26 {X : zX} (hX : zx_ok X cX8_areTwo RX8 5) (hT : zx_rt X (some .boolean) (zR 2 47)) : ∀  (s : zS), zV X (zq X zrI) 5 26 [] [] s (f_X8_areTwo_26  s) := by
  intro  s
  unfold f_X8_areTwo_26
  refine zv_iconst (v := (0 : Int32)) hX dX8_areTwo_26 zi_i_0 ?_
  exact b_X8_areTwo_27 hX hT (0 : Int32) s
def f_X8_areTwo (v1 : Int64) (v3 : Int64) (s : zS) : Option (Int32 × zS) :=
  zbd (f_X8_isPerson v1 s) fun r1 s2 =>
  if r1 = 0 then
  (f_X8_areTwo_26 s2)
  else
  zbd (f_X8_isPerson v3 s2) fun r3 s4 =>
  if r3 = 0 then
  (f_X8_areTwo_26 s4)
  else
  if (lg_cmp v1 v3) = 0 then
  (f_X8_areTwo_26 s4)
  else
  f_X8_areTwo_27 (1 : Int32) s4
set_option maxRecDepth 20000 in
theorem c_X8_areTwo (Y : zG) (v1 : Int64) (v3 : Int64) (s : zS) : zM Y yX8_areTwo cX8_areTwo 5 (some .boolean) (zR 2 47) [.ref (zy_a Y 76), .long v1, .long v3] s zrI (f_X8_areTwo v1 v3 s) := by
  refine zm_start (by decide +kernel) (Nat.le_of_ble_eq_true rfl) ?_
  intro X hY hT hX
  subst hY
  have hX : zx_ok X cX8_areTwo RX8 5 := hX
  show zV X (zq X zrI) 5 0 [(0, .ref (zx_ad X 76)), (1, .long v1), (3, .long v3)] [] s _
  unfold f_X8_areTwo
  refine zv_aload_n hX dX8_areTwo_0 0 rfl ?_
  refine zv_lload_n hX dX8_areTwo_1 1 rfl ?_
  refine zv_cVI [.long v1] (rest := []) hX hT.2.2.2.2 (c_X8_isPerson (zx_Y X) v1 s) wv_X8_isPerson c9_8 zd_76 wm_X8_219 rfl (Nat.le_of_ble_eq_true rfl) (Nat.le_of_ble_eq_true rfl) rfl (Nat.le_of_ble_eq_true rfl) dX8_areTwo_2 (fun r1 s2 => ?_)
  refine zv_if_eq (tgt := 26) hX dX8_areTwo_5 rfl ?_ ?_
  · exact zv_sub [] rfl (b_X8_areTwo_26 hX hT  s2)
  · refine zv_aload_n hX dX8_areTwo_8 0 rfl ?_
    refine zv_lload_n hX dX8_areTwo_9 2 rfl ?_
    refine zv_cVI [.long v3] (rest := []) hX hT.2.2.2.2 (c_X8_isPerson (zx_Y X) v3 s2) wv_X8_isPerson c9_8 zd_76 wm_X8_219 rfl (Nat.le_of_ble_eq_true rfl) (Nat.le_of_ble_eq_true rfl) rfl (Nat.le_of_ble_eq_true rfl) dX8_areTwo_10 (fun r3 s4 => ?_)
    refine zv_if_eq (tgt := 26) hX dX8_areTwo_13 rfl ?_ ?_
    · exact zv_sub [] rfl (b_X8_areTwo_26 hX hT  s4)
    · refine zv_lload_n hX dX8_areTwo_16 1 rfl ?_
      refine zv_lload_n hX dX8_areTwo_17 2 rfl ?_
      refine zv_lcmp hX dX8_areTwo_18 ?_
      refine zv_if_eq (tgt := 26) hX dX8_areTwo_19 rfl ?_ ?_
      · exact zv_sub [] rfl (b_X8_areTwo_26 hX hT  s4)
      · refine zv_iconst (v := (1 : Int32)) hX dX8_areTwo_22 zi_i_1 ?_
        refine zv_goto (tgt := 27) hX dX8_areTwo_23 rfl ?_
        exact zv_sub [] rfl (b_X8_areTwo_27 hX hT (1 : Int32) s4)
theorem dX8_bitsOf_0 : decode cX8_bitsOf 0 = .ok (.iconst 0, 1) := by decide +kernel
theorem dX8_bitsOf_1 : decode cX8_bitsOf 1 = .ok (.istore_n 1, 1) := by decide +kernel
theorem dX8_bitsOf_2 : decode cX8_bitsOf 2 = .ok (.iconst 0, 1) := by decide +kernel
theorem dX8_bitsOf_3 : decode cX8_bitsOf 3 = .ok (.istore_n 2, 1) := by decide +kernel
theorem dX8_bitsOf_4 : decode cX8_bitsOf 4 = .ok (.iload_n 2, 1) := by decide +kernel
theorem dX8_bitsOf_5 : decode cX8_bitsOf 5 = .ok (.bipush 25, 2) := by decide +kernel
theorem dX8_bitsOf_7 : decode cX8_bitsOf 7 = .ok (.if_icmp .ge 17, 3) := by decide +kernel
theorem dX8_bitsOf_10 : decode cX8_bitsOf 10 = .ok (.iload_n 1, 1) := by decide +kernel
theorem dX8_bitsOf_11 : decode cX8_bitsOf 11 = .ok (.iload_n 0, 1) := by decide +kernel
theorem dX8_bitsOf_12 : decode cX8_bitsOf 12 = .ok (.iload_n 2, 1) := by decide +kernel
theorem dX8_bitsOf_13 : decode cX8_bitsOf 13 = .ok (.ishr, 1) := by decide +kernel
theorem dX8_bitsOf_14 : decode cX8_bitsOf 14 = .ok (.iconst 1, 1) := by decide +kernel
theorem dX8_bitsOf_15 : decode cX8_bitsOf 15 = .ok (.iand, 1) := by decide +kernel
theorem dX8_bitsOf_16 : decode cX8_bitsOf 16 = .ok (.iadd, 1) := by decide +kernel
theorem dX8_bitsOf_17 : decode cX8_bitsOf 17 = .ok (.istore_n 1, 1) := by decide +kernel
theorem dX8_bitsOf_18 : decode cX8_bitsOf 18 = .ok (.iinc 2 1, 3) := by decide +kernel
theorem dX8_bitsOf_21 : decode cX8_bitsOf 21 = .ok (.goto (-17), 3) := by decide +kernel
theorem dX8_bitsOf_24 : decode cX8_bitsOf 24 = .ok (.iload_n 1, 1) := by decide +kernel
theorem dX8_bitsOf_25 : decode cX8_bitsOf 25 = .ok (.ireturn, 1) := by decide +kernel
def f_X8_bitsOf_4 : Nat → Int32 → Int32 → Int32 → zS → Option (Int32 × zS)
  | 0, _, _, _, _ => none
  | n + 1, v0, v1, v2, s =>
    if (nI 25) ≤ v2 then
    (some (v1, s))
    else
    zb (v1 + ((zo_shr v0 v2) &&& (1 : Int32))) fun x1 =>
    zb (v2 + (1 : Int32)) fun x2 =>
    f_X8_bitsOf_4 n v0 x1 x2 s
set_option maxRecDepth 20000 in
theorem b_X8_bitsOf_4 {X : zX} (hX : zx_ok X cX8_bitsOf RX8 3) (hT : zx_rt X (some .int) (zR 0 0)) : ∀ (n : Nat) (v0 : Int32) (v1 : Int32) (v2 : Int32) (s : zS), zV X (zq X zrI) 3 4 [(0, .int v0), (1, .int v1), (2, .int v2)] [] s (f_X8_bitsOf_4 n v0 v1 v2 s) := by
  intro n
  induction n with
  | zero => intro v0 v1 v2 s; exact zv_none
  | succ n ih =>
    intro v0 v1 v2 s
    rw [f_X8_bitsOf_4]
    refine zv_iload_n hX dX8_bitsOf_4 2 rfl ?_
    refine zv_bipush (v := (nI 25)) hX dX8_bitsOf_5 zi_b_25 ?_
    refine zv_icmp_ge (tgt := 24) hX dX8_bitsOf_7 rfl ?_ ?_
    · refine zv_iload_n hX dX8_bitsOf_24 1 rfl ?_
      exact zv_ireti hX hT dX8_bitsOf_25
    · refine zv_iload_n hX dX8_bitsOf_10 1 rfl ?_
      refine zv_iload_n hX dX8_bitsOf_11 0 rfl ?_
      refine zv_iload_n hX dX8_bitsOf_12 2 rfl ?_
      refine zv_ishr hX dX8_bitsOf_13 ?_
      refine zv_iconst (v := (1 : Int32)) hX dX8_bitsOf_14 zi_i_1 ?_
      refine zv_iand hX dX8_bitsOf_15 ?_
      refine zv_iadd hX dX8_bitsOf_16 ?_
      refine zv_istB_n (lw := fun x1 => [(1, .int x1), (0, .int v0), (2, .int v2)]) hX dX8_bitsOf_17 (by decide) (fun _ => rfl) (fun x1 => ?_)
      refine zv_iincB (lw := fun x2 => [(2, .int x2), (1, .int x1), (0, .int v0)]) hX dX8_bitsOf_18 2 rfl zi_i_1 (by decide) (fun _ => rfl) (fun x2 => ?_)
      refine zv_goto (tgt := 4) hX dX8_bitsOf_21 rfl ?_
      exact zv_sub [2, 1, 0] rfl (ih v0 x1 x2 s)
def f_X8_bitsOf (v0 : Int32) (s : zS) : Option (Int32 × zS) :=
  f_X8_bitsOf_4 zFU v0 (0 : Int32) (0 : Int32) s
set_option maxRecDepth 20000 in
theorem c_X8_bitsOf (Y : zG) (v0 : Int32) (s : zS) : zM Y yX8_bitsOf cX8_bitsOf 3 (some .int) (zR 0 0) [.int v0] s zrI (f_X8_bitsOf v0 s) := by
  refine zm_start (by decide +kernel) (Nat.le_of_ble_eq_true rfl) ?_
  intro X hY hT hX
  subst hY
  have hX : zx_ok X cX8_bitsOf RX8 3 := hX
  show zV X (zq X zrI) 3 0 [(0, .int v0)] [] s _
  unfold f_X8_bitsOf
  refine zv_iconst (v := (0 : Int32)) hX dX8_bitsOf_0 zi_i_0 ?_
  refine zv_istore_n (lv' := [(1, .int (0 : Int32)), (0, .int v0)]) hX dX8_bitsOf_1 (by decide) rfl ?_
  refine zv_iconst (v := (0 : Int32)) hX dX8_bitsOf_2 zi_i_0 ?_
  refine zv_istore_n (lv' := [(2, .int (0 : Int32)), (1, .int (0 : Int32)), (0, .int v0)]) hX dX8_bitsOf_3 (by decide) rfl ?_
  exact zv_sub [2, 1, 0] rfl (b_X8_bitsOf_4 hX hT zFU v0 (0 : Int32) (0 : Int32) s)
theorem dX8_everybody_0 : decode cX8_everybody 0 = .ok (.iconst 1, 1) := by decide +kernel
theorem dX8_everybody_1 : decode cX8_everybody 1 = .ok (.aload_n 0, 1) := by decide +kernel
theorem dX8_everybody_2 : decode cX8_everybody 2 = .ok (.getfield 13, 3) := by decide +kernel
theorem dX8_everybody_5 : decode cX8_everybody 5 = .ok (.iconst 1, 1) := by decide +kernel
theorem dX8_everybody_6 : decode cX8_everybody 6 = .ok (.iaload, 1) := by decide +kernel
theorem dX8_everybody_7 : decode cX8_everybody 7 = .ok (.ishl, 1) := by decide +kernel
theorem dX8_everybody_8 : decode cX8_everybody 8 = .ok (.iconst 1, 1) := by decide +kernel
theorem dX8_everybody_9 : decode cX8_everybody 9 = .ok (.isub, 1) := by decide +kernel
theorem dX8_everybody_10 : decode cX8_everybody 10 = .ok (.ireturn, 1) := by decide +kernel
def f_X8_everybody  (s : zS) : Option (Int32 × zS) :=
  (zr_i s 77 (1 : Int32)).bind fun x1 =>
  some ((zo_shl (1 : Int32) x1) - (1 : Int32), s)
set_option maxRecDepth 20000 in
theorem c_X8_everybody (Y : zG)  (s : zS) : zM Y yX8_everybody cX8_everybody 1 (some .int) (zR 0 0) [.ref (zy_a Y 76)] s zrI (f_X8_everybody  s) := by
  refine zm_start (by decide +kernel) (Nat.le_of_ble_eq_true rfl) ?_
  intro X hY hT hX
  subst hY
  have hX : zx_ok X cX8_everybody RX8 1 := hX
  show zV X (zq X zrI) 1 0 [(0, .ref (zx_ad X 76))] [] s _
  unfold f_X8_everybody
  refine zv_iconst (v := (1 : Int32)) hX dX8_everybody_0 zi_i_1 ?_
  refine zv_aload_n hX dX8_everybody_1 0 rfl ?_
  refine zv_geta hX wf_X8_13 wc_8 zd_76 zj_76_1 c9_8 zr_76_1 (by decide) dX8_everybody_2 ?_
  refine zv_iconst (v := (1 : Int32)) hX dX8_everybody_5 zi_i_1 ?_
  refine zv_iald hX dX8_everybody_6 (fun x1 => ?_)
  refine zv_ishl hX dX8_everybody_7 ?_
  refine zv_iconst (v := (1 : Int32)) hX dX8_everybody_8 zi_i_1 ?_
  refine zv_isub hX dX8_everybody_9 ?_
  exact zv_ireti hX hT dX8_everybody_10
theorem dX8_likesMore_0 : decode cX8_likesMore 0 = .ok (.iload_n 3, 1) := by decide +kernel
theorem dX8_likesMore_1 : decode cX8_likesMore 1 = .ok (.iconst (-1), 1) := by decide +kernel
theorem dX8_likesMore_2 : decode cX8_likesMore 2 = .ok (.if_icmp .ne 5, 3) := by decide +kernel
theorem dX8_likesMore_5 : decode cX8_likesMore 5 = .ok (.iconst 1, 1) := by decide +kernel
theorem dX8_likesMore_6 : decode cX8_likesMore 6 = .ok (.ireturn, 1) := by decide +kernel
theorem dX8_likesMore_7 : decode cX8_likesMore 7 = .ok (.aload_n 0, 1) := by decide +kernel
theorem dX8_likesMore_8 : decode cX8_likesMore 8 = .ok (.getfield 51, 3) := by decide +kernel
theorem dX8_likesMore_11 : decode cX8_likesMore 11 = .ok (.bipush 7, 2) := by decide +kernel
theorem dX8_likesMore_13 : decode cX8_likesMore 13 = .ok (.iload_n 1, 1) := by decide +kernel
theorem dX8_likesMore_14 : decode cX8_likesMore 14 = .ok (.imul, 1) := by decide +kernel
theorem dX8_likesMore_15 : decode cX8_likesMore 15 = .ok (.iload_n 2, 1) := by decide +kernel
theorem dX8_likesMore_16 : decode cX8_likesMore 16 = .ok (.iadd, 1) := by decide +kernel
theorem dX8_likesMore_17 : decode cX8_likesMore 17 = .ok (.iaload, 1) := by decide +kernel
theorem dX8_likesMore_18 : decode cX8_likesMore 18 = .ok (.aload_n 0, 1) := by decide +kernel
theorem dX8_likesMore_19 : decode cX8_likesMore 19 = .ok (.getfield 51, 3) := by decide +kernel
theorem dX8_likesMore_22 : decode cX8_likesMore 22 = .ok (.bipush 7, 2) := by decide +kernel
theorem dX8_likesMore_24 : decode cX8_likesMore 24 = .ok (.iload_n 1, 1) := by decide +kernel
theorem dX8_likesMore_25 : decode cX8_likesMore 25 = .ok (.imul, 1) := by decide +kernel
theorem dX8_likesMore_26 : decode cX8_likesMore 26 = .ok (.iload_n 3, 1) := by decide +kernel
theorem dX8_likesMore_27 : decode cX8_likesMore 27 = .ok (.iadd, 1) := by decide +kernel
theorem dX8_likesMore_28 : decode cX8_likesMore 28 = .ok (.iaload, 1) := by decide +kernel
theorem dX8_likesMore_29 : decode cX8_likesMore 29 = .ok (.isub, 1) := by decide +kernel
theorem dX8_likesMore_30 : decode cX8_likesMore 30 = .ok (.istore 4, 2) := by decide +kernel
theorem dX8_likesMore_32 : decode cX8_likesMore 32 = .ok (.iload 4, 2) := by decide +kernel
theorem dX8_likesMore_34 : decode cX8_likesMore 34 = .ok (.ifCond .gt 13, 3) := by decide +kernel
theorem dX8_likesMore_37 : decode cX8_likesMore 37 = .ok (.iload 4, 2) := by decide +kernel
theorem dX8_likesMore_39 : decode cX8_likesMore 39 = .ok (.ifCond .ne 12, 3) := by decide +kernel
theorem dX8_likesMore_42 : decode cX8_likesMore 42 = .ok (.iload_n 2, 1) := by decide +kernel
theorem dX8_likesMore_43 : decode cX8_likesMore 43 = .ok (.iload_n 3, 1) := by decide +kernel
theorem dX8_likesMore_44 : decode cX8_likesMore 44 = .ok (.if_icmp .ge 7, 3) := by decide +kernel
theorem dX8_likesMore_47 : decode cX8_likesMore 47 = .ok (.iconst 1, 1) := by decide +kernel
theorem dX8_likesMore_48 : decode cX8_likesMore 48 = .ok (.goto 4, 3) := by decide +kernel
theorem dX8_likesMore_51 : decode cX8_likesMore 51 = .ok (.iconst 0, 1) := by decide +kernel
theorem dX8_likesMore_52 : decode cX8_likesMore 52 = .ok (.ireturn, 1) := by decide +kernel
def f_X8_likesMore_52 (w0 : Int32) (s : zS) : Option (Int32 × zS) :=
  if w0 = 0 ∨ w0 = 1 then some (w0, s) else none
set_option maxRecDepth 20000 in
theorem b_X8_likesMore_52 {X : zX} (hX : zx_ok X cX8_likesMore RX8 5) (hT : zx_rt X (some .boolean) (zR 0 0)) : ∀ (w0 : Int32) (s : zS), zV X (zq X zrI) 5 52 [] [.int w0] s (f_X8_likesMore_52 w0 s) := by
  intro w0 s
  unfold f_X8_likesMore_52
  exact zv_iretzB hX hT dX8_likesMore_52
def f_X8_likesMore_47  (s : zS) : Option (Int32 × zS) :=
  f_X8_likesMore_52 (1 : Int32) s
set_option maxRecDepth 20000 in
theorem b_X8_likesMore_47 {X : zX} (hX : zx_ok X cX8_likesMore RX8 5) (hT : zx_rt X (some .boolean) (zR 0 0)) : ∀  (s : zS), zV X (zq X zrI) 5 47 [] [] s (f_X8_likesMore_47  s) := by
  intro  s
  unfold f_X8_likesMore_47
  refine zv_iconst (v := (1 : Int32)) hX dX8_likesMore_47 zi_i_1 ?_
  refine zv_goto (tgt := 52) hX dX8_likesMore_48 rfl ?_
  exact b_X8_likesMore_52 hX hT (1 : Int32) s
def f_X8_likesMore_51  (s : zS) : Option (Int32 × zS) :=
  f_X8_likesMore_52 (0 : Int32) s
set_option maxRecDepth 20000 in
theorem b_X8_likesMore_51 {X : zX} (hX : zx_ok X cX8_likesMore RX8 5) (hT : zx_rt X (some .boolean) (zR 0 0)) : ∀  (s : zS), zV X (zq X zrI) 5 51 [] [] s (f_X8_likesMore_51  s) := by
  intro  s
  unfold f_X8_likesMore_51
  refine zv_iconst (v := (0 : Int32)) hX dX8_likesMore_51 zi_i_0 ?_
  exact b_X8_likesMore_52 hX hT (0 : Int32) s
def f_X8_likesMore (v1 : Int32) (v2 : Int32) (v3 : Int32) (s : zS) : Option (Int32 × zS) :=
  if ¬ v3 = (-1 : Int32) then
  ((zr_i s 88 (((nI 7) * v1) + v2)).bind fun x1 =>
  (zr_i s 88 (((nI 7) * v1) + v3)).bind fun x2 =>
  zb (x1 - x2) fun x3 =>
  if 0 < x3 then
  (f_X8_likesMore_47 s)
  else
  if ¬ x3 = 0 then
  (f_X8_likesMore_51 s)
  else
  if v3 ≤ v2 then
  (f_X8_likesMore_51 s)
  else
  f_X8_likesMore_47 s)
  else
  some ((1 : Int32), s)
set_option maxRecDepth 20000 in
theorem c_X8_likesMore (Y : zG) (v1 : Int32) (v2 : Int32) (v3 : Int32) (s : zS) : zM Y yX8_likesMore cX8_likesMore 5 (some .boolean) (zR 0 0) [.ref (zy_a Y 76), .int v1, .int v2, .int v3] s zrI (f_X8_likesMore v1 v2 v3 s) := by
  refine zm_start (by decide +kernel) (Nat.le_of_ble_eq_true rfl) ?_
  intro X hY hT hX
  subst hY
  have hX : zx_ok X cX8_likesMore RX8 5 := hX
  show zV X (zq X zrI) 5 0 [(0, .ref (zx_ad X 76)), (1, .int v1), (2, .int v2), (3, .int v3)] [] s _
  unfold f_X8_likesMore
  refine zv_iload_n hX dX8_likesMore_0 3 rfl ?_
  refine zv_iconst (v := (-1 : Int32)) hX dX8_likesMore_1 zi_i_m1 ?_
  refine zv_icmp_ne (tgt := 7) hX dX8_likesMore_2 rfl ?_ ?_
  · refine zv_aload_n hX dX8_likesMore_7 0 rfl ?_
    refine zv_geta hX wf_X8_51 wc_8 zd_76 zj_76_25 c9_8 zr_76_25 (by decide) dX8_likesMore_8 ?_
    refine zv_bipush (v := (nI 7)) hX dX8_likesMore_11 zi_b_7 ?_
    refine zv_iload_n hX dX8_likesMore_13 1 rfl ?_
    refine zv_imul hX dX8_likesMore_14 ?_
    refine zv_iload_n hX dX8_likesMore_15 2 rfl ?_
    refine zv_iadd hX dX8_likesMore_16 ?_
    refine zv_iald hX dX8_likesMore_17 (fun x1 => ?_)
    refine zv_aload_n hX dX8_likesMore_18 0 rfl ?_
    refine zv_geta hX wf_X8_51 wc_8 zd_76 zj_76_25 c9_8 zr_76_25 (by decide) dX8_likesMore_19 ?_
    refine zv_bipush (v := (nI 7)) hX dX8_likesMore_22 zi_b_7 ?_
    refine zv_iload_n hX dX8_likesMore_24 1 rfl ?_
    refine zv_imul hX dX8_likesMore_25 ?_
    refine zv_iload_n hX dX8_likesMore_26 3 rfl ?_
    refine zv_iadd hX dX8_likesMore_27 ?_
    refine zv_iald hX dX8_likesMore_28 (fun x2 => ?_)
    refine zv_isub hX dX8_likesMore_29 ?_
    refine zv_istB (lw := fun x3 => [(4, .int x3), (0, .ref (zx_ad X 76)), (1, .int v1), (2, .int v2), (3, .int v3)]) hX dX8_likesMore_30 (by decide) (fun _ => rfl) (fun x3 => ?_)
    refine zv_iload hX dX8_likesMore_32 0 rfl ?_
    refine zv_if_gt (tgt := 47) hX dX8_likesMore_34 rfl ?_ ?_
    · exact zv_sub [] rfl (b_X8_likesMore_47 hX hT  s)
    · refine zv_iload hX dX8_likesMore_37 0 rfl ?_
      refine zv_if_ne (tgt := 51) hX dX8_likesMore_39 rfl ?_ ?_
      · exact zv_sub [] rfl (b_X8_likesMore_51 hX hT  s)
      · refine zv_iload_n hX dX8_likesMore_42 3 rfl ?_
        refine zv_iload_n hX dX8_likesMore_43 4 rfl ?_
        refine zv_icmp_ge (tgt := 51) hX dX8_likesMore_44 rfl ?_ ?_
        · exact zv_sub [] rfl (b_X8_likesMore_51 hX hT  s)
        · exact zv_sub [] rfl (b_X8_likesMore_47 hX hT  s)
  · refine zv_iconst (v := (1 : Int32)) hX dX8_likesMore_5 zi_i_1 ?_
    exact zv_iretz hX hT (by decide) dX8_likesMore_6
theorem dX8_breaksIt_0 : decode cX8_breaksIt 0 = .ok (.aload_n 0, 1) := by decide +kernel
theorem dX8_breaksIt_1 : decode cX8_breaksIt 1 = .ok (.iload_n 1, 1) := by decide +kernel
theorem dX8_breaksIt_2 : decode cX8_breaksIt 2 = .ok (.iload_n 2, 1) := by decide +kernel
theorem dX8_breaksIt_3 : decode cX8_breaksIt 3 = .ok (.invokevirtual 280, 3) := by decide +kernel
theorem dX8_breaksIt_6 : decode cX8_breaksIt 6 = .ok (.ifCond .eq 47, 3) := by decide +kernel
theorem dX8_breaksIt_9 : decode cX8_breaksIt 9 = .ok (.aload_n 0, 1) := by decide +kernel
theorem dX8_breaksIt_10 : decode cX8_breaksIt 10 = .ok (.getfield 60, 3) := by decide +kernel
theorem dX8_breaksIt_13 : decode cX8_breaksIt 13 = .ok (.iload_n 1, 1) := by decide +kernel
theorem dX8_breaksIt_14 : decode cX8_breaksIt 14 = .ok (.iaload, 1) := by decide +kernel
theorem dX8_breaksIt_15 : decode cX8_breaksIt 15 = .ok (.iload_n 2, 1) := by decide +kernel
theorem dX8_breaksIt_16 : decode cX8_breaksIt 16 = .ok (.if_icmp .eq 37, 3) := by decide +kernel
theorem dX8_breaksIt_19 : decode cX8_breaksIt 19 = .ok (.aload_n 0, 1) := by decide +kernel
theorem dX8_breaksIt_20 : decode cX8_breaksIt 20 = .ok (.iload_n 1, 1) := by decide +kernel
theorem dX8_breaksIt_21 : decode cX8_breaksIt 21 = .ok (.iload_n 2, 1) := by decide +kernel
theorem dX8_breaksIt_22 : decode cX8_breaksIt 22 = .ok (.aload_n 0, 1) := by decide +kernel
theorem dX8_breaksIt_23 : decode cX8_breaksIt 23 = .ok (.getfield 60, 3) := by decide +kernel
theorem dX8_breaksIt_26 : decode cX8_breaksIt 26 = .ok (.iload_n 1, 1) := by decide +kernel
theorem dX8_breaksIt_27 : decode cX8_breaksIt 27 = .ok (.iaload, 1) := by decide +kernel
theorem dX8_breaksIt_28 : decode cX8_breaksIt 28 = .ok (.invokevirtual 295, 3) := by decide +kernel
theorem dX8_breaksIt_31 : decode cX8_breaksIt 31 = .ok (.ifCond .eq 22, 3) := by decide +kernel
theorem dX8_breaksIt_34 : decode cX8_breaksIt 34 = .ok (.aload_n 0, 1) := by decide +kernel
theorem dX8_breaksIt_35 : decode cX8_breaksIt 35 = .ok (.iload_n 2, 1) := by decide +kernel
theorem dX8_breaksIt_36 : decode cX8_breaksIt 36 = .ok (.iload_n 1, 1) := by decide +kernel
theorem dX8_breaksIt_37 : decode cX8_breaksIt 37 = .ok (.aload_n 0, 1) := by decide +kernel
theorem dX8_breaksIt_38 : decode cX8_breaksIt 38 = .ok (.getfield 60, 3) := by decide +kernel
theorem dX8_breaksIt_41 : decode cX8_breaksIt 41 = .ok (.iload_n 2, 1) := by decide +kernel
theorem dX8_breaksIt_42 : decode cX8_breaksIt 42 = .ok (.iaload, 1) := by decide +kernel
theorem dX8_breaksIt_43 : decode cX8_breaksIt 43 = .ok (.invokevirtual 295, 3) := by decide +kernel
theorem dX8_breaksIt_46 : decode cX8_breaksIt 46 = .ok (.ifCond .eq 7, 3) := by decide +kernel
theorem dX8_breaksIt_49 : decode cX8_breaksIt 49 = .ok (.iconst 1, 1) := by decide +kernel
theorem dX8_breaksIt_50 : decode cX8_breaksIt 50 = .ok (.goto 4, 3) := by decide +kernel
theorem dX8_breaksIt_53 : decode cX8_breaksIt 53 = .ok (.iconst 0, 1) := by decide +kernel
theorem dX8_breaksIt_54 : decode cX8_breaksIt 54 = .ok (.ireturn, 1) := by decide +kernel
def f_X8_breaksIt_54 (w0 : Int32) (s : zS) : Option (Int32 × zS) :=
  if w0 = 0 ∨ w0 = 1 then some (w0, s) else none
set_option maxRecDepth 20000 in
theorem b_X8_breaksIt_54 {X : zX} (hX : zx_ok X cX8_breaksIt RX8 3) (hT : zx_rt X (some .boolean) (zR 1 24)) : ∀ (w0 : Int32) (s : zS), zV X (zq X zrI) 3 54 [] [.int w0] s (f_X8_breaksIt_54 w0 s) := by
  intro w0 s
  unfold f_X8_breaksIt_54
  exact zv_iretzB hX hT dX8_breaksIt_54
def f_X8_breaksIt_53  (s : zS) : Option (Int32 × zS) :=
  f_X8_breaksIt_54 (0 : Int32) s
set_option maxRecDepth 20000 in
theorem b_X8_breaksIt_53 {X : zX} (hX : zx_ok X cX8_breaksIt RX8 3) (hT : zx_rt X (some .boolean) (zR 1 24)) : ∀  (s : zS), zV X (zq X zrI) 3 53 [] [] s (f_X8_breaksIt_53  s) := by
  intro  s
  unfold f_X8_breaksIt_53
  refine zv_iconst (v := (0 : Int32)) hX dX8_breaksIt_53 zi_i_0 ?_
  exact b_X8_breaksIt_54 hX hT (0 : Int32) s
def f_X8_breaksIt (v1 : Int32) (v2 : Int32) (s : zS) : Option (Int32 × zS) :=
  zbd (f_X8_areMatch v1 v2 s) fun r1 s2 =>
  if r1 = 0 then
  (f_X8_breaksIt_53 s2)
  else
  (zr_i s2 91 v1).bind fun x3 =>
  if x3 = v2 then
  (f_X8_breaksIt_53 s2)
  else
  (zr_i s2 91 v1).bind fun x4 =>
  zbd (f_X8_likesMore v1 v2 x4 s2) fun r5 s6 =>
  if r5 = 0 then
  (f_X8_breaksIt_53 s6)
  else
  (zr_i s6 91 v2).bind fun x7 =>
  zbd (f_X8_likesMore v2 v1 x7 s6) fun r8 s9 =>
  if r8 = 0 then
  (f_X8_breaksIt_53 s9)
  else
  f_X8_breaksIt_54 (1 : Int32) s9
set_option maxRecDepth 20000 in
theorem c_X8_breaksIt (Y : zG) (v1 : Int32) (v2 : Int32) (s : zS) : zM Y yX8_breaksIt cX8_breaksIt 3 (some .boolean) (zR 1 24) [.ref (zy_a Y 76), .int v1, .int v2] s zrI (f_X8_breaksIt v1 v2 s) := by
  refine zm_start (by decide +kernel) (Nat.le_of_ble_eq_true rfl) ?_
  intro X hY hT hX
  subst hY
  have hX : zx_ok X cX8_breaksIt RX8 3 := hX
  show zV X (zq X zrI) 3 0 [(0, .ref (zx_ad X 76)), (1, .int v1), (2, .int v2)] [] s _
  unfold f_X8_breaksIt
  refine zv_aload_n hX dX8_breaksIt_0 0 rfl ?_
  refine zv_iload_n hX dX8_breaksIt_1 1 rfl ?_
  refine zv_iload_n hX dX8_breaksIt_2 2 rfl ?_
  refine zv_cVI [.int v1, .int v2] (rest := []) hX hT.2.2.2.2 (c_X8_areMatch (zx_Y X) v1 v2 s) wv_X8_areMatch c9_8 zd_76 wm_X8_280 rfl (Nat.le_of_ble_eq_true rfl) (Nat.le_of_ble_eq_true rfl) rfl (Nat.le_of_ble_eq_true rfl) dX8_breaksIt_3 (fun r1 s2 => ?_)
  refine zv_if_eq (tgt := 53) hX dX8_breaksIt_6 rfl ?_ ?_
  · exact zv_sub [] rfl (b_X8_breaksIt_53 hX hT  s2)
  · refine zv_aload_n hX dX8_breaksIt_9 0 rfl ?_
    refine zv_geta hX wf_X8_60 wc_8 zd_76 zj_76_30 c9_8 zr_76_30 (by decide) dX8_breaksIt_10 ?_
    refine zv_iload_n hX dX8_breaksIt_13 1 rfl ?_
    refine zv_iald hX dX8_breaksIt_14 (fun x3 => ?_)
    refine zv_iload_n hX dX8_breaksIt_15 2 rfl ?_
    refine zv_icmp_eq (tgt := 53) hX dX8_breaksIt_16 rfl ?_ ?_
    · exact zv_sub [] rfl (b_X8_breaksIt_53 hX hT  s2)
    · refine zv_aload_n hX dX8_breaksIt_19 0 rfl ?_
      refine zv_iload_n hX dX8_breaksIt_20 1 rfl ?_
      refine zv_iload_n hX dX8_breaksIt_21 2 rfl ?_
      refine zv_aload_n hX dX8_breaksIt_22 0 rfl ?_
      refine zv_geta hX wf_X8_60 wc_8 zd_76 zj_76_30 c9_8 zr_76_30 (by decide) dX8_breaksIt_23 ?_
      refine zv_iload_n hX dX8_breaksIt_26 1 rfl ?_
      refine zv_iald hX dX8_breaksIt_27 (fun x4 => ?_)
      refine zv_cVI [.int v1, .int v2, .int x4] (rest := []) hX hT.2.2.2.2 (c_X8_likesMore (zx_Y X) v1 v2 x4 s2) wv_X8_likesMore c9_8 zd_76 wm_X8_295 rfl (Nat.le_of_ble_eq_true rfl) (Nat.le_of_ble_eq_true rfl) rfl (Nat.le_of_ble_eq_true rfl) dX8_breaksIt_28 (fun r5 s6 => ?_)
      refine zv_if_eq (tgt := 53) hX dX8_breaksIt_31 rfl ?_ ?_
      · exact zv_sub [] rfl (b_X8_breaksIt_53 hX hT  s6)
      · refine zv_aload_n hX dX8_breaksIt_34 0 rfl ?_
        refine zv_iload_n hX dX8_breaksIt_35 2 rfl ?_
        refine zv_iload_n hX dX8_breaksIt_36 1 rfl ?_
        refine zv_aload_n hX dX8_breaksIt_37 0 rfl ?_
        refine zv_geta hX wf_X8_60 wc_8 zd_76 zj_76_30 c9_8 zr_76_30 (by decide) dX8_breaksIt_38 ?_
        refine zv_iload_n hX dX8_breaksIt_41 2 rfl ?_
        refine zv_iald hX dX8_breaksIt_42 (fun x7 => ?_)
        refine zv_cVI [.int v2, .int v1, .int x7] (rest := []) hX hT.2.2.2.2 (c_X8_likesMore (zx_Y X) v2 v1 x7 s6) wv_X8_likesMore c9_8 zd_76 wm_X8_295 rfl (Nat.le_of_ble_eq_true rfl) (Nat.le_of_ble_eq_true rfl) rfl (Nat.le_of_ble_eq_true rfl) dX8_breaksIt_43 (fun r8 s9 => ?_)
        refine zv_if_eq (tgt := 53) hX dX8_breaksIt_46 rfl ?_ ?_
        · exact zv_sub [] rfl (b_X8_breaksIt_53 hX hT  s9)
        · refine zv_iconst (v := (1 : Int32)) hX dX8_breaksIt_49 zi_i_1 ?_
          refine zv_goto (tgt := 54) hX dX8_breaksIt_50 rfl ?_
          exact zv_sub [] rfl (b_X8_breaksIt_54 hX hT (1 : Int32) s9)
theorem dX8_isIn_0 : decode cX8_isIn 0 = .ok (.lload_n 0, 1) := by decide +kernel
theorem dX8_isIn_1 : decode cX8_isIn 1 = .ok (.iload_n 2, 1) := by decide +kernel
theorem dX8_isIn_2 : decode cX8_isIn 2 = .ok (.lshr, 1) := by decide +kernel
theorem dX8_isIn_3 : decode cX8_isIn 3 = .ok (.lconst 1, 1) := by decide +kernel
theorem dX8_isIn_4 : decode cX8_isIn 4 = .ok (.land, 1) := by decide +kernel
theorem dX8_isIn_5 : decode cX8_isIn 5 = .ok (.lconst 1, 1) := by decide +kernel
theorem dX8_isIn_6 : decode cX8_isIn 6 = .ok (.lcmp, 1) := by decide +kernel
theorem dX8_isIn_7 : decode cX8_isIn 7 = .ok (.ifCond .ne 7, 3) := by decide +kernel
theorem dX8_isIn_10 : decode cX8_isIn 10 = .ok (.iconst 1, 1) := by decide +kernel
theorem dX8_isIn_11 : decode cX8_isIn 11 = .ok (.goto 4, 3) := by decide +kernel
theorem dX8_isIn_14 : decode cX8_isIn 14 = .ok (.iconst 0, 1) := by decide +kernel
theorem dX8_isIn_15 : decode cX8_isIn 15 = .ok (.ireturn, 1) := by decide +kernel
def f_X8_isIn_15 (w0 : Int32) (s : zS) : Option (Int32 × zS) :=
  if w0 = 0 ∨ w0 = 1 then some (w0, s) else none
set_option maxRecDepth 20000 in
theorem b_X8_isIn_15 {X : zX} (hX : zx_ok X cX8_isIn RX8 3) (hT : zx_rt X (some .boolean) (zR 0 0)) : ∀ (w0 : Int32) (s : zS), zV X (zq X zrI) 3 15 [] [.int w0] s (f_X8_isIn_15 w0 s) := by
  intro w0 s
  unfold f_X8_isIn_15
  exact zv_iretzB hX hT dX8_isIn_15
def f_X8_isIn (v0 : Int64) (v2 : Int32) (s : zS) : Option (Int32 × zS) :=
  if ¬ (lg_cmp ((zo_lshr v0 v2) &&& (1 : Int64)) (1 : Int64)) = 0 then
  (f_X8_isIn_15 (0 : Int32) s)
  else
  f_X8_isIn_15 (1 : Int32) s
set_option maxRecDepth 20000 in
theorem c_X8_isIn (Y : zG) (v0 : Int64) (v2 : Int32) (s : zS) : zM Y yX8_isIn cX8_isIn 3 (some .boolean) (zR 0 0) [.long v0, .int v2] s zrI (f_X8_isIn v0 v2 s) := by
  refine zm_start (by decide +kernel) (Nat.le_of_ble_eq_true rfl) ?_
  intro X hY hT hX
  subst hY
  have hX : zx_ok X cX8_isIn RX8 3 := hX
  show zV X (zq X zrI) 3 0 [(0, .long v0), (2, .int v2)] [] s _
  unfold f_X8_isIn
  refine zv_lload_n hX dX8_isIn_0 0 rfl ?_
  refine zv_iload_n hX dX8_isIn_1 1 rfl ?_
  refine zv_lshr hX dX8_isIn_2 ?_
  refine zv_lconst (v := (1 : Int64)) hX dX8_isIn_3 zi_l_1 ?_
  refine zv_land hX dX8_isIn_4 ?_
  refine zv_lconst (v := (1 : Int64)) hX dX8_isIn_5 zi_l_1 ?_
  refine zv_lcmp hX dX8_isIn_6 ?_
  refine zv_if_ne (tgt := 14) hX dX8_isIn_7 rfl ?_ ?_
  · refine zv_iconst (v := (0 : Int32)) hX dX8_isIn_14 zi_i_0 ?_
    exact zv_sub [] rfl (b_X8_isIn_15 hX hT (0 : Int32) s)
  · refine zv_iconst (v := (1 : Int32)) hX dX8_isIn_10 zi_i_1 ?_
    refine zv_goto (tgt := 15) hX dX8_isIn_11 rfl ?_
    exact zv_sub [] rfl (b_X8_isIn_15 hX hT (1 : Int32) s)
theorem dX8_isHeld_0 : decode cX8_isHeld 0 = .ok (.iconst 0, 1) := by decide +kernel
theorem dX8_isHeld_1 : decode cX8_isHeld 1 = .ok (.istore_n 2, 1) := by decide +kernel
theorem dX8_isHeld_2 : decode cX8_isHeld 2 = .ok (.iload_n 2, 1) := by decide +kernel
theorem dX8_isHeld_3 : decode cX8_isHeld 3 = .ok (.aload_n 0, 1) := by decide +kernel
theorem dX8_isHeld_4 : decode cX8_isHeld 4 = .ok (.getfield 13, 3) := by decide +kernel
theorem dX8_isHeld_7 : decode cX8_isHeld 7 = .ok (.iconst 1, 1) := by decide +kernel
theorem dX8_isHeld_8 : decode cX8_isHeld 8 = .ok (.iaload, 1) := by decide +kernel
theorem dX8_isHeld_9 : decode cX8_isHeld 9 = .ok (.if_icmp .ge 87, 3) := by decide +kernel
theorem dX8_isHeld_12 : decode cX8_isHeld 12 = .ok (.iload_n 1, 1) := by decide +kernel
theorem dX8_isHeld_13 : decode cX8_isHeld 13 = .ok (.i2l, 1) := by decide +kernel
theorem dX8_isHeld_14 : decode cX8_isHeld 14 = .ok (.iload_n 2, 1) := by decide +kernel
theorem dX8_isHeld_15 : decode cX8_isHeld 15 = .ok (.invokestatic 223, 3) := by decide +kernel
theorem dX8_isHeld_18 : decode cX8_isHeld 18 = .ok (.ifCond .ne 6, 3) := by decide +kernel
theorem dX8_isHeld_21 : decode cX8_isHeld 21 = .ok (.goto 69, 3) := by decide +kernel
theorem dX8_isHeld_24 : decode cX8_isHeld 24 = .ok (.aload_n 0, 1) := by decide +kernel
theorem dX8_isHeld_25 : decode cX8_isHeld 25 = .ok (.getfield 60, 3) := by decide +kernel
theorem dX8_isHeld_28 : decode cX8_isHeld 28 = .ok (.iload_n 2, 1) := by decide +kernel
theorem dX8_isHeld_29 : decode cX8_isHeld 29 = .ok (.iaload, 1) := by decide +kernel
theorem dX8_isHeld_30 : decode cX8_isHeld 30 = .ok (.iconst (-1), 1) := by decide +kernel
theorem dX8_isHeld_31 : decode cX8_isHeld 31 = .ok (.if_icmp .eq 19, 3) := by decide +kernel
theorem dX8_isHeld_34 : decode cX8_isHeld 34 = .ok (.aload_n 0, 1) := by decide +kernel
theorem dX8_isHeld_35 : decode cX8_isHeld 35 = .ok (.iload_n 2, 1) := by decide +kernel
theorem dX8_isHeld_36 : decode cX8_isHeld 36 = .ok (.aload_n 0, 1) := by decide +kernel
theorem dX8_isHeld_37 : decode cX8_isHeld 37 = .ok (.getfield 60, 3) := by decide +kernel
theorem dX8_isHeld_40 : decode cX8_isHeld 40 = .ok (.iload_n 2, 1) := by decide +kernel
theorem dX8_isHeld_41 : decode cX8_isHeld 41 = .ok (.iaload, 1) := by decide +kernel
theorem dX8_isHeld_42 : decode cX8_isHeld 42 = .ok (.invokevirtual 280, 3) := by decide +kernel
theorem dX8_isHeld_45 : decode cX8_isHeld 45 = .ok (.ifCond .ne 5, 3) := by decide +kernel
theorem dX8_isHeld_48 : decode cX8_isHeld 48 = .ok (.iconst 0, 1) := by decide +kernel
theorem dX8_isHeld_49 : decode cX8_isHeld 49 = .ok (.ireturn, 1) := by decide +kernel
theorem dX8_isHeld_50 : decode cX8_isHeld 50 = .ok (.iload_n 2, 1) := by decide +kernel
theorem dX8_isHeld_51 : decode cX8_isHeld 51 = .ok (.iconst 1, 1) := by decide +kernel
theorem dX8_isHeld_52 : decode cX8_isHeld 52 = .ok (.iadd, 1) := by decide +kernel
theorem dX8_isHeld_53 : decode cX8_isHeld 53 = .ok (.istore_n 3, 1) := by decide +kernel
theorem dX8_isHeld_54 : decode cX8_isHeld 54 = .ok (.iload_n 3, 1) := by decide +kernel
theorem dX8_isHeld_55 : decode cX8_isHeld 55 = .ok (.aload_n 0, 1) := by decide +kernel
theorem dX8_isHeld_56 : decode cX8_isHeld 56 = .ok (.getfield 13, 3) := by decide +kernel
theorem dX8_isHeld_59 : decode cX8_isHeld 59 = .ok (.iconst 1, 1) := by decide +kernel
theorem dX8_isHeld_60 : decode cX8_isHeld 60 = .ok (.iaload, 1) := by decide +kernel
theorem dX8_isHeld_61 : decode cX8_isHeld 61 = .ok (.if_icmp .ge 29, 3) := by decide +kernel
theorem dX8_isHeld_64 : decode cX8_isHeld 64 = .ok (.iload_n 1, 1) := by decide +kernel
theorem dX8_isHeld_65 : decode cX8_isHeld 65 = .ok (.i2l, 1) := by decide +kernel
theorem dX8_isHeld_66 : decode cX8_isHeld 66 = .ok (.iload_n 3, 1) := by decide +kernel
theorem dX8_isHeld_67 : decode cX8_isHeld 67 = .ok (.invokestatic 223, 3) := by decide +kernel
theorem dX8_isHeld_70 : decode cX8_isHeld 70 = .ok (.ifCond .eq 14, 3) := by decide +kernel
theorem dX8_isHeld_73 : decode cX8_isHeld 73 = .ok (.aload_n 0, 1) := by decide +kernel
theorem dX8_isHeld_74 : decode cX8_isHeld 74 = .ok (.iload_n 2, 1) := by decide +kernel
theorem dX8_isHeld_75 : decode cX8_isHeld 75 = .ok (.iload_n 3, 1) := by decide +kernel
theorem dX8_isHeld_76 : decode cX8_isHeld 76 = .ok (.invokevirtual 376, 3) := by decide +kernel
theorem dX8_isHeld_79 : decode cX8_isHeld 79 = .ok (.ifCond .eq 5, 3) := by decide +kernel
theorem dX8_isHeld_82 : decode cX8_isHeld 82 = .ok (.iconst 0, 1) := by decide +kernel
theorem dX8_isHeld_83 : decode cX8_isHeld 83 = .ok (.ireturn, 1) := by decide +kernel
theorem dX8_isHeld_84 : decode cX8_isHeld 84 = .ok (.iinc 3 1, 3) := by decide +kernel
theorem dX8_isHeld_87 : decode cX8_isHeld 87 = .ok (.goto (-33), 3) := by decide +kernel
theorem dX8_isHeld_90 : decode cX8_isHeld 90 = .ok (.iinc 2 1, 3) := by decide +kernel
theorem dX8_isHeld_93 : decode cX8_isHeld 93 = .ok (.goto (-91), 3) := by decide +kernel
theorem dX8_isHeld_96 : decode cX8_isHeld 96 = .ok (.iconst 1, 1) := by decide +kernel
theorem dX8_isHeld_97 : decode cX8_isHeld 97 = .ok (.ireturn, 1) := by decide +kernel
def f_X8_isHeld_90 (kb_2 : Int32 → Int32 → zS → Option (Int32 × zS)) (v1 : Int32) (v2 : Int32) (s : zS) : Option (Int32 × zS) :=
  zb (v2 + (1 : Int32)) fun x1 =>
  kb_2 v1 x1 s
set_option maxRecDepth 20000 in
theorem b_X8_isHeld_90 {X : zX} {kb_2 : Int32 → Int32 → zS → Option (Int32 × zS)} (hX : zx_ok X cX8_isHeld RX8 4) (hT : zx_rt X (some .boolean) (zR 2 46)) (hk_2 : ∀ (v1 : Int32) (v2 : Int32) (s : zS), zV X (zq X zrI) 4 2 [(0, .ref (zx_ad X 76)), (1, .int v1), (2, .int v2)] [] s (kb_2 v1 v2 s)) : ∀ (v1 : Int32) (v2 : Int32) (s : zS), zV X (zq X zrI) 4 90 [(0, .ref (zx_ad X 76)), (1, .int v1), (2, .int v2)] [] s (f_X8_isHeld_90 kb_2 v1 v2 s) := by
  intro v1 v2 s
  unfold f_X8_isHeld_90
  refine zv_iincB (lw := fun x1 => [(2, .int x1), (0, .ref (zx_ad X 76)), (1, .int v1)]) hX dX8_isHeld_90 2 rfl zi_i_1 (by decide) (fun _ => rfl) (fun x1 => ?_)
  refine zv_goto (tgt := 2) hX dX8_isHeld_93 rfl ?_
  exact zv_sub [1, 2, 0] rfl (hk_2 v1 x1 s)
def f_X8_isHeld_84 (kb_2 : Int32 → Int32 → zS → Option (Int32 × zS)) (kb_54 : Int32 → Int32 → Int32 → zS → Option (Int32 × zS)) (v1 : Int32) (v2 : Int32) (v3 : Int32) (s : zS) : Option (Int32 × zS) :=
  zb (v3 + (1 : Int32)) fun x2 =>
  kb_54 v1 v2 x2 s
set_option maxRecDepth 20000 in
theorem b_X8_isHeld_84 {X : zX} {kb_2 : Int32 → Int32 → zS → Option (Int32 × zS)} {kb_54 : Int32 → Int32 → Int32 → zS → Option (Int32 × zS)} (hX : zx_ok X cX8_isHeld RX8 4) (hT : zx_rt X (some .boolean) (zR 2 46)) (hk_2 : ∀ (v1 : Int32) (v2 : Int32) (s : zS), zV X (zq X zrI) 4 2 [(0, .ref (zx_ad X 76)), (1, .int v1), (2, .int v2)] [] s (kb_2 v1 v2 s)) (hk_54 : ∀ (v1 : Int32) (v2 : Int32) (v3 : Int32) (s : zS), zV X (zq X zrI) 4 54 [(0, .ref (zx_ad X 76)), (1, .int v1), (2, .int v2), (3, .int v3)] [] s (kb_54 v1 v2 v3 s)) : ∀ (v1 : Int32) (v2 : Int32) (v3 : Int32) (s : zS), zV X (zq X zrI) 4 84 [(0, .ref (zx_ad X 76)), (1, .int v1), (2, .int v2), (3, .int v3)] [] s (f_X8_isHeld_84 kb_2 kb_54 v1 v2 v3 s) := by
  intro v1 v2 v3 s
  unfold f_X8_isHeld_84
  refine zv_iincB (lw := fun x2 => [(3, .int x2), (0, .ref (zx_ad X 76)), (1, .int v1), (2, .int v2)]) hX dX8_isHeld_84 3 rfl zi_i_1 (by decide) (fun _ => rfl) (fun x2 => ?_)
  refine zv_goto (tgt := 54) hX dX8_isHeld_87 rfl ?_
  exact zv_sub [1, 2, 3, 0] rfl (hk_54 v1 v2 x2 s)
def f_X8_isHeld_54 (kb_2 : Int32 → Int32 → zS → Option (Int32 × zS)) : Nat → Int32 → Int32 → Int32 → zS → Option (Int32 × zS)
  | 0, _, _, _, _ => none
  | n + 1, v1, v2, v3, s =>
    (zr_i s 77 (1 : Int32)).bind fun x3 =>
    if x3 ≤ v3 then
    (f_X8_isHeld_90 kb_2 v1 v2 s)
    else
    zbd (f_X8_isIn (v1.toInt64) v3 s) fun r4 s5 =>
    if r4 = 0 then
    (f_X8_isHeld_84 kb_2 (f_X8_isHeld_54 kb_2 n) v1 v2 v3 s5)
    else
    zbd (f_X8_breaksIt v2 v3 s5) fun r6 s7 =>
    if r6 = 0 then
    (f_X8_isHeld_84 kb_2 (f_X8_isHeld_54 kb_2 n) v1 v2 v3 s7)
    else
    some ((0 : Int32), s7)
set_option maxRecDepth 20000 in
theorem b_X8_isHeld_54 {X : zX} {kb_2 : Int32 → Int32 → zS → Option (Int32 × zS)} (hX : zx_ok X cX8_isHeld RX8 4) (hT : zx_rt X (some .boolean) (zR 2 46)) (hk_2 : ∀ (v1 : Int32) (v2 : Int32) (s : zS), zV X (zq X zrI) 4 2 [(0, .ref (zx_ad X 76)), (1, .int v1), (2, .int v2)] [] s (kb_2 v1 v2 s)) : ∀ (n : Nat) (v1 : Int32) (v2 : Int32) (v3 : Int32) (s : zS), zV X (zq X zrI) 4 54 [(0, .ref (zx_ad X 76)), (1, .int v1), (2, .int v2), (3, .int v3)] [] s (f_X8_isHeld_54 kb_2 n v1 v2 v3 s) := by
  intro n
  induction n with
  | zero => intro v1 v2 v3 s; exact zv_none
  | succ n ih =>
    intro v1 v2 v3 s
    rw [f_X8_isHeld_54]
    refine zv_iload_n hX dX8_isHeld_54 3 rfl ?_
    refine zv_aload_n hX dX8_isHeld_55 0 rfl ?_
    refine zv_geta hX wf_X8_13 wc_8 zd_76 zj_76_1 c9_8 zr_76_1 (by decide) dX8_isHeld_56 ?_
    refine zv_iconst (v := (1 : Int32)) hX dX8_isHeld_59 zi_i_1 ?_
    refine zv_iald hX dX8_isHeld_60 (fun x3 => ?_)
    refine zv_icmp_ge (tgt := 90) hX dX8_isHeld_61 rfl ?_ ?_
    · exact zv_sub [0, 1, 2] rfl (b_X8_isHeld_90 hX hT hk_2 v1 v2 s)
    · refine zv_iload_n hX dX8_isHeld_64 1 rfl ?_
      refine zv_i2l hX dX8_isHeld_65 ?_
      refine zv_iload_n hX dX8_isHeld_66 3 rfl ?_
      refine zv_cSI [.long (v1.toInt64), .int v3] (rest := []) hX hT.2.2.2.2 (c_X8_isIn (zx_Y X) (v1.toInt64) v3 s) wv_X8_isIn wm_X8_223 rfl (Nat.le_of_ble_eq_true rfl) (Nat.le_of_ble_eq_true rfl) rfl (Nat.le_of_ble_eq_true rfl) dX8_isHeld_67 (fun r4 s5 => ?_)
      refine zv_if_eq (tgt := 84) hX dX8_isHeld_70 rfl ?_ ?_
      · exact b_X8_isHeld_84 hX hT hk_2 ih v1 v2 v3 s5
      · refine zv_aload_n hX dX8_isHeld_73 0 rfl ?_
        refine zv_iload_n hX dX8_isHeld_74 2 rfl ?_
        refine zv_iload_n hX dX8_isHeld_75 3 rfl ?_
        refine zv_cVI [.int v2, .int v3] (rest := []) hX hT.2.2.2.2 (c_X8_breaksIt (zx_Y X) v2 v3 s5) wv_X8_breaksIt c9_8 zd_76 wm_X8_376 rfl (Nat.le_of_ble_eq_true rfl) (Nat.le_of_ble_eq_true rfl) rfl (Nat.le_of_ble_eq_true rfl) dX8_isHeld_76 (fun r6 s7 => ?_)
        refine zv_if_eq (tgt := 84) hX dX8_isHeld_79 rfl ?_ ?_
        · exact b_X8_isHeld_84 hX hT hk_2 ih v1 v2 v3 s7
        · refine zv_iconst (v := (0 : Int32)) hX dX8_isHeld_82 zi_i_0 ?_
          exact zv_iretz hX hT (by decide) dX8_isHeld_83
def f_X8_isHeld_50 (kb_2 : Int32 → Int32 → zS → Option (Int32 × zS)) (v1 : Int32) (v2 : Int32) (s : zS) : Option (Int32 × zS) :=
  zb (v2 + (1 : Int32)) fun x8 =>
  f_X8_isHeld_54 kb_2 zFU v1 v2 x8 s
set_option maxRecDepth 20000 in
theorem b_X8_isHeld_50 {X : zX} {kb_2 : Int32 → Int32 → zS → Option (Int32 × zS)} (hX : zx_ok X cX8_isHeld RX8 4) (hT : zx_rt X (some .boolean) (zR 2 46)) (hk_2 : ∀ (v1 : Int32) (v2 : Int32) (s : zS), zV X (zq X zrI) 4 2 [(0, .ref (zx_ad X 76)), (1, .int v1), (2, .int v2)] [] s (kb_2 v1 v2 s)) : ∀ (v1 : Int32) (v2 : Int32) (s : zS), zV X (zq X zrI) 4 50 [(0, .ref (zx_ad X 76)), (1, .int v1), (2, .int v2)] [] s (f_X8_isHeld_50 kb_2 v1 v2 s) := by
  intro v1 v2 s
  unfold f_X8_isHeld_50
  refine zv_iload_n hX dX8_isHeld_50 2 rfl ?_
  refine zv_iconst (v := (1 : Int32)) hX dX8_isHeld_51 zi_i_1 ?_
  refine zv_iadd hX dX8_isHeld_52 ?_
  refine zv_istB_n (lw := fun x8 => [(3, .int x8), (0, .ref (zx_ad X 76)), (1, .int v1), (2, .int v2)]) hX dX8_isHeld_53 (by decide) (fun _ => rfl) (fun x8 => ?_)
  exact zv_sub [1, 2, 3, 0] rfl (b_X8_isHeld_54 hX hT hk_2 zFU v1 v2 x8 s)
def f_X8_isHeld_2 : Nat → Int32 → Int32 → zS → Option (Int32 × zS)
  | 0, _, _, _ => none
  | n + 1, v1, v2, s =>
    (zr_i s 77 (1 : Int32)).bind fun x9 =>
    if x9 ≤ v2 then
    (some ((1 : Int32), s))
    else
    zbd (f_X8_isIn (v1.toInt64) v2 s) fun r10 s11 =>
    if ¬ r10 = 0 then
    ((zr_i s11 91 v2).bind fun x12 =>
    if x12 = (-1 : Int32) then
    (f_X8_isHeld_50 (f_X8_isHeld_2 n) v1 v2 s11)
    else
    (zr_i s11 91 v2).bind fun x13 =>
    zbd (f_X8_areMatch v2 x13 s11) fun r14 s15 =>
    if ¬ r14 = 0 then
    (f_X8_isHeld_50 (f_X8_isHeld_2 n) v1 v2 s15)
    else
    some ((0 : Int32), s15))
    else
    f_X8_isHeld_90 (f_X8_isHeld_2 n) v1 v2 s11
set_option maxRecDepth 20000 in
theorem b_X8_isHeld_2 {X : zX} (hX : zx_ok X cX8_isHeld RX8 4) (hT : zx_rt X (some .boolean) (zR 2 46)) : ∀ (n : Nat) (v1 : Int32) (v2 : Int32) (s : zS), zV X (zq X zrI) 4 2 [(0, .ref (zx_ad X 76)), (1, .int v1), (2, .int v2)] [] s (f_X8_isHeld_2 n v1 v2 s) := by
  intro n
  induction n with
  | zero => intro v1 v2 s; exact zv_none
  | succ n ih =>
    intro v1 v2 s
    rw [f_X8_isHeld_2]
    refine zv_iload_n hX dX8_isHeld_2 2 rfl ?_
    refine zv_aload_n hX dX8_isHeld_3 0 rfl ?_
    refine zv_geta hX wf_X8_13 wc_8 zd_76 zj_76_1 c9_8 zr_76_1 (by decide) dX8_isHeld_4 ?_
    refine zv_iconst (v := (1 : Int32)) hX dX8_isHeld_7 zi_i_1 ?_
    refine zv_iald hX dX8_isHeld_8 (fun x9 => ?_)
    refine zv_icmp_ge (tgt := 96) hX dX8_isHeld_9 rfl ?_ ?_
    · refine zv_iconst (v := (1 : Int32)) hX dX8_isHeld_96 zi_i_1 ?_
      exact zv_iretz hX hT (by decide) dX8_isHeld_97
    · refine zv_iload_n hX dX8_isHeld_12 1 rfl ?_
      refine zv_i2l hX dX8_isHeld_13 ?_
      refine zv_iload_n hX dX8_isHeld_14 2 rfl ?_
      refine zv_cSI [.long (v1.toInt64), .int v2] (rest := []) hX hT.2.2.2.2 (c_X8_isIn (zx_Y X) (v1.toInt64) v2 s) wv_X8_isIn wm_X8_223 rfl (Nat.le_of_ble_eq_true rfl) (Nat.le_of_ble_eq_true rfl) rfl (Nat.le_of_ble_eq_true rfl) dX8_isHeld_15 (fun r10 s11 => ?_)
      refine zv_if_ne (tgt := 24) hX dX8_isHeld_18 rfl ?_ ?_
      · refine zv_aload_n hX dX8_isHeld_24 0 rfl ?_
        refine zv_geta hX wf_X8_60 wc_8 zd_76 zj_76_30 c9_8 zr_76_30 (by decide) dX8_isHeld_25 ?_
        refine zv_iload_n hX dX8_isHeld_28 2 rfl ?_
        refine zv_iald hX dX8_isHeld_29 (fun x12 => ?_)
        refine zv_iconst (v := (-1 : Int32)) hX dX8_isHeld_30 zi_i_m1 ?_
        refine zv_icmp_eq (tgt := 50) hX dX8_isHeld_31 rfl ?_ ?_
        · exact b_X8_isHeld_50 hX hT ih v1 v2 s11
        · refine zv_aload_n hX dX8_isHeld_34 0 rfl ?_
          refine zv_iload_n hX dX8_isHeld_35 2 rfl ?_
          refine zv_aload_n hX dX8_isHeld_36 0 rfl ?_
          refine zv_geta hX wf_X8_60 wc_8 zd_76 zj_76_30 c9_8 zr_76_30 (by decide) dX8_isHeld_37 ?_
          refine zv_iload_n hX dX8_isHeld_40 2 rfl ?_
          refine zv_iald hX dX8_isHeld_41 (fun x13 => ?_)
          refine zv_cVI [.int v2, .int x13] (rest := []) hX hT.2.2.2.2 (c_X8_areMatch (zx_Y X) v2 x13 s11) wv_X8_areMatch c9_8 zd_76 wm_X8_280 rfl (Nat.le_of_ble_eq_true rfl) (Nat.le_of_ble_eq_true rfl) rfl (Nat.le_of_ble_eq_true rfl) dX8_isHeld_42 (fun r14 s15 => ?_)
          refine zv_if_ne (tgt := 50) hX dX8_isHeld_45 rfl ?_ ?_
          · exact b_X8_isHeld_50 hX hT ih v1 v2 s15
          · refine zv_iconst (v := (0 : Int32)) hX dX8_isHeld_48 zi_i_0 ?_
            exact zv_iretz hX hT (by decide) dX8_isHeld_49
      · refine zv_goto (tgt := 90) hX dX8_isHeld_21 rfl ?_
        exact b_X8_isHeld_90 hX hT ih v1 v2 s11
def f_X8_isHeld (v1 : Int32) (s : zS) : Option (Int32 × zS) :=
  f_X8_isHeld_2 zFU v1 (0 : Int32) s
set_option maxRecDepth 20000 in
theorem c_X8_isHeld (Y : zG) (v1 : Int32) (s : zS) : zM Y yX8_isHeld cX8_isHeld 4 (some .boolean) (zR 2 46) [.ref (zy_a Y 76), .int v1] s zrI (f_X8_isHeld v1 s) := by
  refine zm_start (by decide +kernel) (Nat.le_of_ble_eq_true rfl) ?_
  intro X hY hT hX
  subst hY
  have hX : zx_ok X cX8_isHeld RX8 4 := hX
  show zV X (zq X zrI) 4 0 [(0, .ref (zx_ad X 76)), (1, .int v1)] [] s _
  unfold f_X8_isHeld
  refine zv_iconst (v := (0 : Int32)) hX dX8_isHeld_0 zi_i_0 ?_
  refine zv_istore_n (lv' := [(2, .int (0 : Int32)), (0, .ref (zx_ad X 76)), (1, .int v1)]) hX dX8_isHeld_1 (by decide) rfl ?_
  exact zv_sub [1, 2, 0] rfl (b_X8_isHeld_2 hX hT zFU v1 (0 : Int32) s)
