theorem dX8_isInkCell_0 : decode cX8_isInkCell 0 = .ok (.lload_n 0, 1) := by decide +kernel
theorem dX8_isInkCell_1 : decode cX8_isInkCell 1 = .ok (.lconst 0, 1) := by decide +kernel
theorem dX8_isInkCell_2 : decode cX8_isInkCell 2 = .ok (.ldc2_w 301, 3) := by decide +kernel
theorem dX8_isInkCell_5 : decode cX8_isInkCell 5 = .ok (.invokestatic 154, 3) := by decide +kernel
theorem dX8_isInkCell_8 : decode cX8_isInkCell 8 = .ok (.ireturn, 1) := by decide +kernel
def f_X8_isInkCell (v0 : Int64) (s : zS) : Option (Int32 × zS) :=
  zbd (f_X8_within v0 (0 : Int64) (8 : Int64) s) fun r1 s2 =>
  if r1 = 0 ∨ r1 = 1 then some (r1, s2) else none
set_option maxRecDepth 20000 in
theorem c_X8_isInkCell (Y : zG) (v0 : Int64) (s : zS) : zM Y yX8_isInkCell cX8_isInkCell 2 (some .boolean) (zR 1 25) [.long v0] s zrI (f_X8_isInkCell v0 s) := by
  refine zm_start (by decide +kernel) (Nat.le_of_ble_eq_true rfl) ?_
  intro X hY hT hX
  subst hY
  have hX : zx_ok X cX8_isInkCell RX8 2 := hX
  show zV X (zq X zrI) 2 0 [(0, .long v0)] [] s _
  unfold f_X8_isInkCell
  refine zv_lload_n hX dX8_isInkCell_0 0 rfl ?_
  refine zv_lconst (v := (0 : Int64)) hX dX8_isInkCell_1 zi_l_0 ?_
  refine zv_ldc2 hX wn_X8_301 dX8_isInkCell_2 ?_
  refine zv_cSI [.long v0, .long (0 : Int64), .long (8 : Int64)] (rest := []) hX hT.2.2.2.2 (c_X8_within (zx_Y X) v0 (0 : Int64) (8 : Int64) s) wv_X8_within wm_X8_154 rfl (Nat.le_of_ble_eq_true rfl) (Nat.le_of_ble_eq_true rfl) rfl (Nat.le_of_ble_eq_true rfl) dX8_isInkCell_5 (fun r1 s2 => ?_)
  exact zv_iretzB hX hT dX8_isInkCell_8
theorem dX8_isTriangle_0 : decode cX8_isTriangle 0 = .ok (.aload_n 0, 1) := by decide +kernel
theorem dX8_isTriangle_1 : decode cX8_isTriangle 1 = .ok (.iload_n 1, 1) := by decide +kernel
theorem dX8_isTriangle_2 : decode cX8_isTriangle 2 = .ok (.iload_n 2, 1) := by decide +kernel
theorem dX8_isTriangle_3 : decode cX8_isTriangle 3 = .ok (.invokevirtual 280, 3) := by decide +kernel
theorem dX8_isTriangle_6 : decode cX8_isTriangle 6 = .ok (.ifCond .eq 55, 3) := by decide +kernel
theorem dX8_isTriangle_9 : decode cX8_isTriangle 9 = .ok (.aload_n 0, 1) := by decide +kernel
theorem dX8_isTriangle_10 : decode cX8_isTriangle 10 = .ok (.iload_n 2, 1) := by decide +kernel
theorem dX8_isTriangle_11 : decode cX8_isTriangle 11 = .ok (.iload_n 3, 1) := by decide +kernel
theorem dX8_isTriangle_12 : decode cX8_isTriangle 12 = .ok (.invokevirtual 280, 3) := by decide +kernel
theorem dX8_isTriangle_15 : decode cX8_isTriangle 15 = .ok (.ifCond .eq 46, 3) := by decide +kernel
theorem dX8_isTriangle_18 : decode cX8_isTriangle 18 = .ok (.aload_n 0, 1) := by decide +kernel
theorem dX8_isTriangle_19 : decode cX8_isTriangle 19 = .ok (.iload_n 1, 1) := by decide +kernel
theorem dX8_isTriangle_20 : decode cX8_isTriangle 20 = .ok (.iload_n 3, 1) := by decide +kernel
theorem dX8_isTriangle_21 : decode cX8_isTriangle 21 = .ok (.invokevirtual 280, 3) := by decide +kernel
theorem dX8_isTriangle_24 : decode cX8_isTriangle 24 = .ok (.ifCond .eq 37, 3) := by decide +kernel
theorem dX8_isTriangle_27 : decode cX8_isTriangle 27 = .ok (.aload_n 0, 1) := by decide +kernel
theorem dX8_isTriangle_28 : decode cX8_isTriangle 28 = .ok (.iload_n 1, 1) := by decide +kernel
theorem dX8_isTriangle_29 : decode cX8_isTriangle 29 = .ok (.iload_n 2, 1) := by decide +kernel
theorem dX8_isTriangle_30 : decode cX8_isTriangle 30 = .ok (.iload_n 3, 1) := by decide +kernel
theorem dX8_isTriangle_31 : decode cX8_isTriangle 31 = .ok (.invokevirtual 295, 3) := by decide +kernel
theorem dX8_isTriangle_34 : decode cX8_isTriangle 34 = .ok (.ifCond .eq 27, 3) := by decide +kernel
theorem dX8_isTriangle_37 : decode cX8_isTriangle 37 = .ok (.aload_n 0, 1) := by decide +kernel
theorem dX8_isTriangle_38 : decode cX8_isTriangle 38 = .ok (.iload_n 2, 1) := by decide +kernel
theorem dX8_isTriangle_39 : decode cX8_isTriangle 39 = .ok (.iload_n 3, 1) := by decide +kernel
theorem dX8_isTriangle_40 : decode cX8_isTriangle 40 = .ok (.iload_n 1, 1) := by decide +kernel
theorem dX8_isTriangle_41 : decode cX8_isTriangle 41 = .ok (.invokevirtual 295, 3) := by decide +kernel
theorem dX8_isTriangle_44 : decode cX8_isTriangle 44 = .ok (.ifCond .eq 17, 3) := by decide +kernel
theorem dX8_isTriangle_47 : decode cX8_isTriangle 47 = .ok (.aload_n 0, 1) := by decide +kernel
theorem dX8_isTriangle_48 : decode cX8_isTriangle 48 = .ok (.iload_n 3, 1) := by decide +kernel
theorem dX8_isTriangle_49 : decode cX8_isTriangle 49 = .ok (.iload_n 1, 1) := by decide +kernel
theorem dX8_isTriangle_50 : decode cX8_isTriangle 50 = .ok (.iload_n 2, 1) := by decide +kernel
theorem dX8_isTriangle_51 : decode cX8_isTriangle 51 = .ok (.invokevirtual 295, 3) := by decide +kernel
theorem dX8_isTriangle_54 : decode cX8_isTriangle 54 = .ok (.ifCond .eq 7, 3) := by decide +kernel
theorem dX8_isTriangle_57 : decode cX8_isTriangle 57 = .ok (.iconst 1, 1) := by decide +kernel
theorem dX8_isTriangle_58 : decode cX8_isTriangle 58 = .ok (.goto 4, 3) := by decide +kernel
theorem dX8_isTriangle_61 : decode cX8_isTriangle 61 = .ok (.iconst 0, 1) := by decide +kernel
theorem dX8_isTriangle_62 : decode cX8_isTriangle 62 = .ok (.ireturn, 1) := by decide +kernel
def f_X8_isTriangle_62 (w0 : Int32) (s : zS) : Option (Int32 × zS) :=
  if w0 = 0 ∨ w0 = 1 then some (w0, s) else none
set_option maxRecDepth 20000 in
theorem b_X8_isTriangle_62 {X : zX} (hX : zx_ok X cX8_isTriangle RX8 4) (hT : zx_rt X (some .boolean) (zR 1 24)) : ∀ (w0 : Int32) (s : zS), zV X (zq X zrI) 4 62 [] [.int w0] s (f_X8_isTriangle_62 w0 s) := by
  intro w0 s
  unfold f_X8_isTriangle_62
  exact zv_iretzB hX hT dX8_isTriangle_62
def f_X8_isTriangle_61  (s : zS) : Option (Int32 × zS) :=
  f_X8_isTriangle_62 (0 : Int32) s
set_option maxRecDepth 20000 in
theorem b_X8_isTriangle_61 {X : zX} (hX : zx_ok X cX8_isTriangle RX8 4) (hT : zx_rt X (some .boolean) (zR 1 24)) : ∀  (s : zS), zV X (zq X zrI) 4 61 [] [] s (f_X8_isTriangle_61  s) := by
  intro  s
  unfold f_X8_isTriangle_61
  refine zv_iconst (v := (0 : Int32)) hX dX8_isTriangle_61 zi_i_0 ?_
  exact b_X8_isTriangle_62 hX hT (0 : Int32) s
def f_X8_isTriangle (v1 : Int32) (v2 : Int32) (v3 : Int32) (s : zS) : Option (Int32 × zS) :=
  zbd (f_X8_areMatch v1 v2 s) fun r1 s2 =>
  if r1 = 0 then
  (f_X8_isTriangle_61 s2)
  else
  zbd (f_X8_areMatch v2 v3 s2) fun r3 s4 =>
  if r3 = 0 then
  (f_X8_isTriangle_61 s4)
  else
  zbd (f_X8_areMatch v1 v3 s4) fun r5 s6 =>
  if r5 = 0 then
  (f_X8_isTriangle_61 s6)
  else
  zbd (f_X8_likesMore v1 v2 v3 s6) fun r7 s8 =>
  if r7 = 0 then
  (f_X8_isTriangle_61 s8)
  else
  zbd (f_X8_likesMore v2 v3 v1 s8) fun r9 s10 =>
  if r9 = 0 then
  (f_X8_isTriangle_61 s10)
  else
  zbd (f_X8_likesMore v3 v1 v2 s10) fun r11 s12 =>
  if r11 = 0 then
  (f_X8_isTriangle_61 s12)
  else
  f_X8_isTriangle_62 (1 : Int32) s12
set_option maxRecDepth 20000 in
theorem c_X8_isTriangle (Y : zG) (v1 : Int32) (v2 : Int32) (v3 : Int32) (s : zS) : zM Y yX8_isTriangle cX8_isTriangle 4 (some .boolean) (zR 1 24) [.ref (zy_a Y 76), .int v1, .int v2, .int v3] s zrI (f_X8_isTriangle v1 v2 v3 s) := by
  refine zm_start (by decide +kernel) (Nat.le_of_ble_eq_true rfl) ?_
  intro X hY hT hX
  subst hY
  have hX : zx_ok X cX8_isTriangle RX8 4 := hX
  show zV X (zq X zrI) 4 0 [(0, .ref (zx_ad X 76)), (1, .int v1), (2, .int v2), (3, .int v3)] [] s _
  unfold f_X8_isTriangle
  refine zv_aload_n hX dX8_isTriangle_0 0 rfl ?_
  refine zv_iload_n hX dX8_isTriangle_1 1 rfl ?_
  refine zv_iload_n hX dX8_isTriangle_2 2 rfl ?_
  refine zv_cVI [.int v1, .int v2] (rest := []) hX hT.2.2.2.2 (c_X8_areMatch (zx_Y X) v1 v2 s) wv_X8_areMatch c9_8 zd_76 wm_X8_280 rfl (Nat.le_of_ble_eq_true rfl) (Nat.le_of_ble_eq_true rfl) rfl (Nat.le_of_ble_eq_true rfl) dX8_isTriangle_3 (fun r1 s2 => ?_)
  refine zv_if_eq (tgt := 61) hX dX8_isTriangle_6 rfl ?_ ?_
  · exact zv_sub [] rfl (b_X8_isTriangle_61 hX hT  s2)
  · refine zv_aload_n hX dX8_isTriangle_9 0 rfl ?_
    refine zv_iload_n hX dX8_isTriangle_10 2 rfl ?_
    refine zv_iload_n hX dX8_isTriangle_11 3 rfl ?_
    refine zv_cVI [.int v2, .int v3] (rest := []) hX hT.2.2.2.2 (c_X8_areMatch (zx_Y X) v2 v3 s2) wv_X8_areMatch c9_8 zd_76 wm_X8_280 rfl (Nat.le_of_ble_eq_true rfl) (Nat.le_of_ble_eq_true rfl) rfl (Nat.le_of_ble_eq_true rfl) dX8_isTriangle_12 (fun r3 s4 => ?_)
    refine zv_if_eq (tgt := 61) hX dX8_isTriangle_15 rfl ?_ ?_
    · exact zv_sub [] rfl (b_X8_isTriangle_61 hX hT  s4)
    · refine zv_aload_n hX dX8_isTriangle_18 0 rfl ?_
      refine zv_iload_n hX dX8_isTriangle_19 1 rfl ?_
      refine zv_iload_n hX dX8_isTriangle_20 3 rfl ?_
      refine zv_cVI [.int v1, .int v3] (rest := []) hX hT.2.2.2.2 (c_X8_areMatch (zx_Y X) v1 v3 s4) wv_X8_areMatch c9_8 zd_76 wm_X8_280 rfl (Nat.le_of_ble_eq_true rfl) (Nat.le_of_ble_eq_true rfl) rfl (Nat.le_of_ble_eq_true rfl) dX8_isTriangle_21 (fun r5 s6 => ?_)
      refine zv_if_eq (tgt := 61) hX dX8_isTriangle_24 rfl ?_ ?_
      · exact zv_sub [] rfl (b_X8_isTriangle_61 hX hT  s6)
      · refine zv_aload_n hX dX8_isTriangle_27 0 rfl ?_
        refine zv_iload_n hX dX8_isTriangle_28 1 rfl ?_
        refine zv_iload_n hX dX8_isTriangle_29 2 rfl ?_
        refine zv_iload_n hX dX8_isTriangle_30 3 rfl ?_
        refine zv_cVI [.int v1, .int v2, .int v3] (rest := []) hX hT.2.2.2.2 (c_X8_likesMore (zx_Y X) v1 v2 v3 s6) wv_X8_likesMore c9_8 zd_76 wm_X8_295 rfl (Nat.le_of_ble_eq_true rfl) (Nat.le_of_ble_eq_true rfl) rfl (Nat.le_of_ble_eq_true rfl) dX8_isTriangle_31 (fun r7 s8 => ?_)
        refine zv_if_eq (tgt := 61) hX dX8_isTriangle_34 rfl ?_ ?_
        · exact zv_sub [] rfl (b_X8_isTriangle_61 hX hT  s8)
        · refine zv_aload_n hX dX8_isTriangle_37 0 rfl ?_
          refine zv_iload_n hX dX8_isTriangle_38 2 rfl ?_
          refine zv_iload_n hX dX8_isTriangle_39 3 rfl ?_
          refine zv_iload_n hX dX8_isTriangle_40 1 rfl ?_
          refine zv_cVI [.int v2, .int v3, .int v1] (rest := []) hX hT.2.2.2.2 (c_X8_likesMore (zx_Y X) v2 v3 v1 s8) wv_X8_likesMore c9_8 zd_76 wm_X8_295 rfl (Nat.le_of_ble_eq_true rfl) (Nat.le_of_ble_eq_true rfl) rfl (Nat.le_of_ble_eq_true rfl) dX8_isTriangle_41 (fun r9 s10 => ?_)
          refine zv_if_eq (tgt := 61) hX dX8_isTriangle_44 rfl ?_ ?_
          · exact zv_sub [] rfl (b_X8_isTriangle_61 hX hT  s10)
          · refine zv_aload_n hX dX8_isTriangle_47 0 rfl ?_
            refine zv_iload_n hX dX8_isTriangle_48 3 rfl ?_
            refine zv_iload_n hX dX8_isTriangle_49 1 rfl ?_
            refine zv_iload_n hX dX8_isTriangle_50 2 rfl ?_
            refine zv_cVI [.int v3, .int v1, .int v2] (rest := []) hX hT.2.2.2.2 (c_X8_likesMore (zx_Y X) v3 v1 v2 s10) wv_X8_likesMore c9_8 zd_76 wm_X8_295 rfl (Nat.le_of_ble_eq_true rfl) (Nat.le_of_ble_eq_true rfl) rfl (Nat.le_of_ble_eq_true rfl) dX8_isTriangle_51 (fun r11 s12 => ?_)
            refine zv_if_eq (tgt := 61) hX dX8_isTriangle_54 rfl ?_ ?_
            · exact zv_sub [] rfl (b_X8_isTriangle_61 hX hT  s12)
            · refine zv_iconst (v := (1 : Int32)) hX dX8_isTriangle_57 zi_i_1 ?_
              refine zv_goto (tgt := 62) hX dX8_isTriangle_58 rfl ?_
              exact zv_sub [] rfl (b_X8_isTriangle_62 hX hT (1 : Int32) s12)
theorem dX8_isWithSome_0 : decode cX8_isWithSome 0 = .ok (.iload_n 1, 1) := by decide +kernel
theorem dX8_isWithSome_1 : decode cX8_isWithSome 1 = .ok (.aload_n 0, 1) := by decide +kernel
theorem dX8_isWithSome_2 : decode cX8_isWithSome 2 = .ok (.getfield 24, 3) := by decide +kernel
theorem dX8_isWithSome_5 : decode cX8_isWithSome 5 = .ok (.iconst 1, 1) := by decide +kernel
theorem dX8_isWithSome_6 : decode cX8_isWithSome 6 = .ok (.iaload, 1) := by decide +kernel
theorem dX8_isWithSome_7 : decode cX8_isWithSome 7 = .ok (.if_icmp .ge 20, 3) := by decide +kernel
theorem dX8_isWithSome_10 : decode cX8_isWithSome 10 = .ok (.aload_n 0, 1) := by decide +kernel
theorem dX8_isWithSome_11 : decode cX8_isWithSome 11 = .ok (.getfield 24, 3) := by decide +kernel
theorem dX8_isWithSome_14 : decode cX8_isWithSome 14 = .ok (.bipush 22, 2) := by decide +kernel
theorem dX8_isWithSome_16 : decode cX8_isWithSome 16 = .ok (.iload_n 1, 1) := by decide +kernel
theorem dX8_isWithSome_17 : decode cX8_isWithSome 17 = .ok (.iadd, 1) := by decide +kernel
theorem dX8_isWithSome_18 : decode cX8_isWithSome 18 = .ok (.iaload, 1) := by decide +kernel
theorem dX8_isWithSome_19 : decode cX8_isWithSome 19 = .ok (.iconst (-1), 1) := by decide +kernel
theorem dX8_isWithSome_20 : decode cX8_isWithSome 20 = .ok (.if_icmp .eq 7, 3) := by decide +kernel
theorem dX8_isWithSome_23 : decode cX8_isWithSome 23 = .ok (.iconst 1, 1) := by decide +kernel
theorem dX8_isWithSome_24 : decode cX8_isWithSome 24 = .ok (.goto 4, 3) := by decide +kernel
theorem dX8_isWithSome_27 : decode cX8_isWithSome 27 = .ok (.iconst 0, 1) := by decide +kernel
theorem dX8_isWithSome_28 : decode cX8_isWithSome 28 = .ok (.ireturn, 1) := by decide +kernel
def f_X8_isWithSome_28 (w0 : Int32) (s : zS) : Option (Int32 × zS) :=
  if w0 = 0 ∨ w0 = 1 then some (w0, s) else none
set_option maxRecDepth 20000 in
theorem b_X8_isWithSome_28 {X : zX} (hX : zx_ok X cX8_isWithSome RX8 2) (hT : zx_rt X (some .boolean) (zR 0 0)) : ∀ (w0 : Int32) (s : zS), zV X (zq X zrI) 2 28 [] [.int w0] s (f_X8_isWithSome_28 w0 s) := by
  intro w0 s
  unfold f_X8_isWithSome_28
  exact zv_iretzB hX hT dX8_isWithSome_28
def f_X8_isWithSome_27  (s : zS) : Option (Int32 × zS) :=
  f_X8_isWithSome_28 (0 : Int32) s
set_option maxRecDepth 20000 in
theorem b_X8_isWithSome_27 {X : zX} (hX : zx_ok X cX8_isWithSome RX8 2) (hT : zx_rt X (some .boolean) (zR 0 0)) : ∀  (s : zS), zV X (zq X zrI) 2 27 [] [] s (f_X8_isWithSome_27  s) := by
  intro  s
  unfold f_X8_isWithSome_27
  refine zv_iconst (v := (0 : Int32)) hX dX8_isWithSome_27 zi_i_0 ?_
  exact b_X8_isWithSome_28 hX hT (0 : Int32) s
def f_X8_isWithSome (v1 : Int32) (s : zS) : Option (Int32 × zS) :=
  (zr_i s 80 (1 : Int32)).bind fun x1 =>
  if x1 ≤ v1 then
  (f_X8_isWithSome_27 s)
  else
  (zr_i s 80 ((nI 22) + v1)).bind fun x2 =>
  if x2 = (-1 : Int32) then
  (f_X8_isWithSome_27 s)
  else
  f_X8_isWithSome_28 (1 : Int32) s
set_option maxRecDepth 20000 in
theorem c_X8_isWithSome (Y : zG) (v1 : Int32) (s : zS) : zM Y yX8_isWithSome cX8_isWithSome 2 (some .boolean) (zR 0 0) [.ref (zy_a Y 76), .int v1] s zrI (f_X8_isWithSome v1 s) := by
  refine zm_start (by decide +kernel) (Nat.le_of_ble_eq_true rfl) ?_
  intro X hY hT hX
  subst hY
  have hX : zx_ok X cX8_isWithSome RX8 2 := hX
  show zV X (zq X zrI) 2 0 [(0, .ref (zx_ad X 76)), (1, .int v1)] [] s _
  unfold f_X8_isWithSome
  refine zv_iload_n hX dX8_isWithSome_0 1 rfl ?_
  refine zv_aload_n hX dX8_isWithSome_1 0 rfl ?_
  refine zv_geta hX wf_X8_24 wc_8 zd_76 zj_76_4 c9_8 zr_76_4 (by decide) dX8_isWithSome_2 ?_
  refine zv_iconst (v := (1 : Int32)) hX dX8_isWithSome_5 zi_i_1 ?_
  refine zv_iald hX dX8_isWithSome_6 (fun x1 => ?_)
  refine zv_icmp_ge (tgt := 27) hX dX8_isWithSome_7 rfl ?_ ?_
  · exact zv_sub [] rfl (b_X8_isWithSome_27 hX hT  s)
  · refine zv_aload_n hX dX8_isWithSome_10 0 rfl ?_
    refine zv_geta hX wf_X8_24 wc_8 zd_76 zj_76_4 c9_8 zr_76_4 (by decide) dX8_isWithSome_11 ?_
    refine zv_bipush (v := (nI 22)) hX dX8_isWithSome_14 zi_b_22 ?_
    refine zv_iload_n hX dX8_isWithSome_16 1 rfl ?_
    refine zv_iadd hX dX8_isWithSome_17 ?_
    refine zv_iald hX dX8_isWithSome_18 (fun x2 => ?_)
    refine zv_iconst (v := (-1 : Int32)) hX dX8_isWithSome_19 zi_i_m1 ?_
    refine zv_icmp_eq (tgt := 27) hX dX8_isWithSome_20 rfl ?_ ?_
    · exact zv_sub [] rfl (b_X8_isWithSome_27 hX hT  s)
    · refine zv_iconst (v := (1 : Int32)) hX dX8_isWithSome_23 zi_i_1 ?_
      refine zv_goto (tgt := 28) hX dX8_isWithSome_24 rfl ?_
      exact zv_sub [] rfl (b_X8_isWithSome_28 hX hT (1 : Int32) s)
theorem dX8_whyPart_0 : decode cX8_whyPart 0 = .ok (.aload_n 0, 1) := by decide +kernel
theorem dX8_whyPart_1 : decode cX8_whyPart 1 = .ok (.lload_n 1, 1) := by decide +kernel
theorem dX8_whyPart_2 : decode cX8_whyPart 2 = .ok (.invokevirtual 219, 3) := by decide +kernel
theorem dX8_whyPart_5 : decode cX8_whyPart 5 = .ok (.ifCond .ne 7, 3) := by decide +kernel
theorem dX8_whyPart_8 : decode cX8_whyPart 8 = .ok (.iconst 1, 1) := by decide +kernel
theorem dX8_whyPart_9 : decode cX8_whyPart 9 = .ok (.goto 22, 3) := by decide +kernel
theorem dX8_whyPart_12 : decode cX8_whyPart 12 = .ok (.aload_n 0, 1) := by decide +kernel
theorem dX8_whyPart_13 : decode cX8_whyPart 13 = .ok (.getfield 13, 3) := by decide +kernel
theorem dX8_whyPart_16 : decode cX8_whyPart 16 = .ok (.bipush 22, 2) := by decide +kernel
theorem dX8_whyPart_18 : decode cX8_whyPart 18 = .ok (.lload_n 1, 1) := by decide +kernel
theorem dX8_whyPart_19 : decode cX8_whyPart 19 = .ok (.l2i, 1) := by decide +kernel
theorem dX8_whyPart_20 : decode cX8_whyPart 20 = .ok (.iadd, 1) := by decide +kernel
theorem dX8_whyPart_21 : decode cX8_whyPart 21 = .ok (.iaload, 1) := by decide +kernel
theorem dX8_whyPart_22 : decode cX8_whyPart 22 = .ok (.iconst (-1), 1) := by decide +kernel
theorem dX8_whyPart_23 : decode cX8_whyPart 23 = .ok (.if_icmp .ne 7, 3) := by decide +kernel
theorem dX8_whyPart_26 : decode cX8_whyPart 26 = .ok (.iconst 2, 1) := by decide +kernel
theorem dX8_whyPart_27 : decode cX8_whyPart 27 = .ok (.goto 4, 3) := by decide +kernel
theorem dX8_whyPart_30 : decode cX8_whyPart 30 = .ok (.iconst 0, 1) := by decide +kernel
theorem dX8_whyPart_31 : decode cX8_whyPart 31 = .ok (.ireturn, 1) := by decide +kernel
def f_X8_whyPart_31 (w0 : Int32) (s : zS) : Option (Int32 × zS) :=
  some (w0, s)
set_option maxRecDepth 20000 in
theorem b_X8_whyPart_31 {X : zX} (hX : zx_ok X cX8_whyPart RX8 3) (hT : zx_rt X (some .int) (zR 2 47)) : ∀ (w0 : Int32) (s : zS), zV X (zq X zrI) 3 31 [] [.int w0] s (f_X8_whyPart_31 w0 s) := by
  intro w0 s
  unfold f_X8_whyPart_31
  exact zv_ireti hX hT dX8_whyPart_31
def f_X8_whyPart (v1 : Int64) (s : zS) : Option (Int32 × zS) :=
  zbd (f_X8_isPerson v1 s) fun r1 s2 =>
  if ¬ r1 = 0 then
  ((zr_i s2 77 ((nI 22) + (v1.toInt32))).bind fun x3 =>
  if ¬ x3 = (-1 : Int32) then
  (f_X8_whyPart_31 (0 : Int32) s2)
  else
  f_X8_whyPart_31 (nI 2) s2)
  else
  f_X8_whyPart_31 (1 : Int32) s2
set_option maxRecDepth 20000 in
theorem c_X8_whyPart (Y : zG) (v1 : Int64) (s : zS) : zM Y yX8_whyPart cX8_whyPart 3 (some .int) (zR 2 47) [.ref (zy_a Y 76), .long v1] s zrI (f_X8_whyPart v1 s) := by
  refine zm_start (by decide +kernel) (Nat.le_of_ble_eq_true rfl) ?_
  intro X hY hT hX
  subst hY
  have hX : zx_ok X cX8_whyPart RX8 3 := hX
  show zV X (zq X zrI) 3 0 [(0, .ref (zx_ad X 76)), (1, .long v1)] [] s _
  unfold f_X8_whyPart
  refine zv_aload_n hX dX8_whyPart_0 0 rfl ?_
  refine zv_lload_n hX dX8_whyPart_1 1 rfl ?_
  refine zv_cVI [.long v1] (rest := []) hX hT.2.2.2.2 (c_X8_isPerson (zx_Y X) v1 s) wv_X8_isPerson c9_8 zd_76 wm_X8_219 rfl (Nat.le_of_ble_eq_true rfl) (Nat.le_of_ble_eq_true rfl) rfl (Nat.le_of_ble_eq_true rfl) dX8_whyPart_2 (fun r1 s2 => ?_)
  refine zv_if_ne (tgt := 12) hX dX8_whyPart_5 rfl ?_ ?_
  · refine zv_aload_n hX dX8_whyPart_12 0 rfl ?_
    refine zv_geta hX wf_X8_13 wc_8 zd_76 zj_76_1 c9_8 zr_76_1 (by decide) dX8_whyPart_13 ?_
    refine zv_bipush (v := (nI 22)) hX dX8_whyPart_16 zi_b_22 ?_
    refine zv_lload_n hX dX8_whyPart_18 1 rfl ?_
    refine zv_l2i hX dX8_whyPart_19 ?_
    refine zv_iadd hX dX8_whyPart_20 ?_
    refine zv_iald hX dX8_whyPart_21 (fun x3 => ?_)
    refine zv_iconst (v := (-1 : Int32)) hX dX8_whyPart_22 zi_i_m1 ?_
    refine zv_icmp_ne (tgt := 30) hX dX8_whyPart_23 rfl ?_ ?_
    · refine zv_iconst (v := (0 : Int32)) hX dX8_whyPart_30 zi_i_0 ?_
      exact zv_sub [] rfl (b_X8_whyPart_31 hX hT (0 : Int32) s2)
    · refine zv_iconst (v := (nI 2)) hX dX8_whyPart_26 zi_i_2 ?_
      refine zv_goto (tgt := 31) hX dX8_whyPart_27 rfl ?_
      exact zv_sub [] rfl (b_X8_whyPart_31 hX hT (nI 2) s2)
  · refine zv_iconst (v := (1 : Int32)) hX dX8_whyPart_8 zi_i_1 ?_
    refine zv_goto (tgt := 31) hX dX8_whyPart_9 rfl ?_
    exact zv_sub [] rfl (b_X8_whyPart_31 hX hT (1 : Int32) s2)
theorem dX8_whyNot_0 : decode cX8_whyNot 0 = .ok (.lload_n 1, 1) := by decide +kernel
theorem dX8_whyNot_1 : decode cX8_whyNot 1 = .ok (.ldc2_w 327, 3) := by decide +kernel
theorem dX8_whyNot_4 : decode cX8_whyNot 4 = .ok (.lrem, 1) := by decide +kernel
theorem dX8_whyNot_5 : decode cX8_whyNot 5 = .ok (.ldc2_w 325, 3) := by decide +kernel
theorem dX8_whyNot_8 : decode cX8_whyNot 8 = .ok (.ldiv, 1) := by decide +kernel
theorem dX8_whyNot_9 : decode cX8_whyNot 9 = .ok (.lstore_n 3, 1) := by decide +kernel
theorem dX8_whyNot_10 : decode cX8_whyNot 10 = .ok (.lload_n 1, 1) := by decide +kernel
theorem dX8_whyNot_11 : decode cX8_whyNot 11 = .ok (.ldc2_w 325, 3) := by decide +kernel
theorem dX8_whyNot_14 : decode cX8_whyNot 14 = .ok (.lrem, 1) := by decide +kernel
theorem dX8_whyNot_15 : decode cX8_whyNot 15 = .ok (.lstore 5, 2) := by decide +kernel
theorem dX8_whyNot_17 : decode cX8_whyNot 17 = .ok (.lload_n 1, 1) := by decide +kernel
theorem dX8_whyNot_18 : decode cX8_whyNot 18 = .ok (.lconst 0, 1) := by decide +kernel
theorem dX8_whyNot_19 : decode cX8_whyNot 19 = .ok (.ldc2_w 329, 3) := by decide +kernel
theorem dX8_whyNot_22 : decode cX8_whyNot 22 = .ok (.invokestatic 154, 3) := by decide +kernel
theorem dX8_whyNot_25 : decode cX8_whyNot 25 = .ok (.ifCond .eq 11, 3) := by decide +kernel
theorem dX8_whyNot_28 : decode cX8_whyNot 28 = .ok (.aload_n 0, 1) := by decide +kernel
theorem dX8_whyNot_29 : decode cX8_whyNot 29 = .ok (.lload_n 3, 1) := by decide +kernel
theorem dX8_whyNot_30 : decode cX8_whyNot 30 = .ok (.lload 5, 2) := by decide +kernel
theorem dX8_whyNot_32 : decode cX8_whyNot 32 = .ok (.invokevirtual 303, 3) := by decide +kernel
theorem dX8_whyNot_35 : decode cX8_whyNot 35 = .ok (.ireturn, 1) := by decide +kernel
theorem dX8_whyNot_36 : decode cX8_whyNot 36 = .ok (.lload_n 1, 1) := by decide +kernel
theorem dX8_whyNot_37 : decode cX8_whyNot 37 = .ok (.ldc2_w 327, 3) := by decide +kernel
theorem dX8_whyNot_40 : decode cX8_whyNot 40 = .ok (.ldc2_w 331, 3) := by decide +kernel
theorem dX8_whyNot_43 : decode cX8_whyNot 43 = .ok (.invokestatic 154, 3) := by decide +kernel
theorem dX8_whyNot_46 : decode cX8_whyNot 46 = .ok (.ifCond .eq 10, 3) := by decide +kernel
theorem dX8_whyNot_49 : decode cX8_whyNot 49 = .ok (.aload_n 0, 1) := by decide +kernel
theorem dX8_whyNot_50 : decode cX8_whyNot 50 = .ok (.lload 5, 2) := by decide +kernel
theorem dX8_whyNot_52 : decode cX8_whyNot 52 = .ok (.invokevirtual 316, 3) := by decide +kernel
theorem dX8_whyNot_55 : decode cX8_whyNot 55 = .ok (.ireturn, 1) := by decide +kernel
theorem dX8_whyNot_56 : decode cX8_whyNot 56 = .ok (.lload_n 1, 1) := by decide +kernel
theorem dX8_whyNot_57 : decode cX8_whyNot 57 = .ok (.ldc2_w 333, 3) := by decide +kernel
theorem dX8_whyNot_60 : decode cX8_whyNot 60 = .ok (.ldc2_w 335, 3) := by decide +kernel
theorem dX8_whyNot_63 : decode cX8_whyNot 63 = .ok (.invokestatic 154, 3) := by decide +kernel
theorem dX8_whyNot_66 : decode cX8_whyNot 66 = .ok (.ifCond .eq 25, 3) := by decide +kernel
theorem dX8_whyNot_69 : decode cX8_whyNot 69 = .ok (.aload_n 0, 1) := by decide +kernel
theorem dX8_whyNot_70 : decode cX8_whyNot 70 = .ok (.lload_n 3, 1) := by decide +kernel
theorem dX8_whyNot_71 : decode cX8_whyNot 71 = .ok (.invokevirtual 219, 3) := by decide +kernel
theorem dX8_whyNot_74 : decode cX8_whyNot 74 = .ok (.ifCond .eq 15, 3) := by decide +kernel
theorem dX8_whyNot_77 : decode cX8_whyNot 77 = .ok (.lload 5, 2) := by decide +kernel
theorem dX8_whyNot_79 : decode cX8_whyNot 79 = .ok (.invokestatic 320, 3) := by decide +kernel
theorem dX8_whyNot_82 : decode cX8_whyNot 82 = .ok (.ifCond .eq 7, 3) := by decide +kernel
theorem dX8_whyNot_85 : decode cX8_whyNot 85 = .ok (.iconst 0, 1) := by decide +kernel
theorem dX8_whyNot_86 : decode cX8_whyNot 86 = .ok (.goto 4, 3) := by decide +kernel
theorem dX8_whyNot_89 : decode cX8_whyNot 89 = .ok (.iconst 1, 1) := by decide +kernel
theorem dX8_whyNot_90 : decode cX8_whyNot 90 = .ok (.ireturn, 1) := by decide +kernel
theorem dX8_whyNot_91 : decode cX8_whyNot 91 = .ok (.lload_n 1, 1) := by decide +kernel
theorem dX8_whyNot_92 : decode cX8_whyNot 92 = .ok (.ldc2_w 337, 3) := by decide +kernel
theorem dX8_whyNot_95 : decode cX8_whyNot 95 = .ok (.ldc2_w 339, 3) := by decide +kernel
theorem dX8_whyNot_98 : decode cX8_whyNot 98 = .ok (.invokestatic 154, 3) := by decide +kernel
theorem dX8_whyNot_101 : decode cX8_whyNot 101 = .ok (.ifCond .eq 15, 3) := by decide +kernel
theorem dX8_whyNot_104 : decode cX8_whyNot 104 = .ok (.aload_n 0, 1) := by decide +kernel
theorem dX8_whyNot_105 : decode cX8_whyNot 105 = .ok (.lload_n 3, 1) := by decide +kernel
theorem dX8_whyNot_106 : decode cX8_whyNot 106 = .ok (.invokevirtual 219, 3) := by decide +kernel
theorem dX8_whyNot_109 : decode cX8_whyNot 109 = .ok (.ifCond .eq 7, 3) := by decide +kernel
theorem dX8_whyNot_112 : decode cX8_whyNot 112 = .ok (.iconst 0, 1) := by decide +kernel
theorem dX8_whyNot_113 : decode cX8_whyNot 113 = .ok (.goto 4, 3) := by decide +kernel
theorem dX8_whyNot_116 : decode cX8_whyNot 116 = .ok (.iconst 1, 1) := by decide +kernel
theorem dX8_whyNot_117 : decode cX8_whyNot 117 = .ok (.ireturn, 1) := by decide +kernel
def f_X8_whyNot_117 (w0 : Int32) (s : zS) : Option (Int32 × zS) :=
  some (w0, s)
set_option maxRecDepth 20000 in
theorem b_X8_whyNot_117 {X : zX} (hX : zx_ok X cX8_whyNot RX8 7) (hT : zx_rt X (some .int) (zR 72 1781)) : ∀ (w0 : Int32) (s : zS), zV X (zq X zrI) 7 117 [] [.int w0] s (f_X8_whyNot_117 w0 s) := by
  intro w0 s
  unfold f_X8_whyNot_117
  exact zv_ireti hX hT dX8_whyNot_117
def f_X8_whyNot_116  (s : zS) : Option (Int32 × zS) :=
  f_X8_whyNot_117 (1 : Int32) s
set_option maxRecDepth 20000 in
theorem b_X8_whyNot_116 {X : zX} (hX : zx_ok X cX8_whyNot RX8 7) (hT : zx_rt X (some .int) (zR 72 1781)) : ∀  (s : zS), zV X (zq X zrI) 7 116 [] [] s (f_X8_whyNot_116  s) := by
  intro  s
  unfold f_X8_whyNot_116
  refine zv_iconst (v := (1 : Int32)) hX dX8_whyNot_116 zi_i_1 ?_
  exact b_X8_whyNot_117 hX hT (1 : Int32) s
def f_X8_whyNot_90 (w0 : Int32) (s : zS) : Option (Int32 × zS) :=
  some (w0, s)
set_option maxRecDepth 20000 in
theorem b_X8_whyNot_90 {X : zX} (hX : zx_ok X cX8_whyNot RX8 7) (hT : zx_rt X (some .int) (zR 72 1781)) : ∀ (w0 : Int32) (s : zS), zV X (zq X zrI) 7 90 [] [.int w0] s (f_X8_whyNot_90 w0 s) := by
  intro w0 s
  unfold f_X8_whyNot_90
  exact zv_ireti hX hT dX8_whyNot_90
def f_X8_whyNot_89  (s : zS) : Option (Int32 × zS) :=
  f_X8_whyNot_90 (1 : Int32) s
set_option maxRecDepth 20000 in
theorem b_X8_whyNot_89 {X : zX} (hX : zx_ok X cX8_whyNot RX8 7) (hT : zx_rt X (some .int) (zR 72 1781)) : ∀  (s : zS), zV X (zq X zrI) 7 89 [] [] s (f_X8_whyNot_89  s) := by
  intro  s
  unfold f_X8_whyNot_89
  refine zv_iconst (v := (1 : Int32)) hX dX8_whyNot_89 zi_i_1 ?_
  exact b_X8_whyNot_90 hX hT (1 : Int32) s
def f_X8_whyNot (v1 : Int64) (s : zS) : Option (Int32 × zS) :=
  zb ((zo_lrem v1 (100 : Int64)) / (10 : Int64)) fun x1 =>
  zb (zo_lrem v1 (10 : Int64)) fun x2 =>
  zbd (f_X8_within v1 (0 : Int64) (99 : Int64) s) fun r3 s4 =>
  if r3 = 0 then
  (zbd (f_X8_within v1 (100 : Int64) (109 : Int64) s4) fun r5 s6 =>
  if r5 = 0 then
  (zbd (f_X8_within v1 (200 : Int64) (299 : Int64) s6) fun r7 s8 =>
  if r7 = 0 then
  (zbd (f_X8_within v1 (300 : Int64) (399 : Int64) s8) fun r9 s10 =>
  if r9 = 0 then
  (f_X8_whyNot_116 s10)
  else
  zbd (f_X8_isPerson x1 s10) fun r11 s12 =>
  if r11 = 0 then
  (f_X8_whyNot_116 s12)
  else
  f_X8_whyNot_117 (0 : Int32) s12)
  else
  zbd (f_X8_isPerson x1 s8) fun r13 s14 =>
  if r13 = 0 then
  (f_X8_whyNot_89 s14)
  else
  zbd (f_X8_isInkCell x2 s14) fun r15 s16 =>
  if r15 = 0 then
  (f_X8_whyNot_89 s16)
  else
  f_X8_whyNot_90 (0 : Int32) s16)
  else
  zbd (f_X8_whyPart x2 s6) fun r17 s18 =>
  some (r17, s18))
  else
  zbd (f_X8_whyEngage x1 x2 s4) fun r19 s20 =>
  some (r19, s20)
set_option maxRecDepth 20000 in
theorem c_X8_whyNot (Y : zG) (v1 : Int64) (s : zS) : zM Y yX8_whyNot cX8_whyNot 7 (some .int) (zR 72 1781) [.ref (zy_a Y 76), .long v1] s zrI (f_X8_whyNot v1 s) := by
  refine zm_start (by decide +kernel) (Nat.le_of_ble_eq_true rfl) ?_
  intro X hY hT hX
  subst hY
  have hX : zx_ok X cX8_whyNot RX8 7 := hX
  show zV X (zq X zrI) 7 0 [(0, .ref (zx_ad X 76)), (1, .long v1)] [] s _
  unfold f_X8_whyNot
  refine zv_lload_n hX dX8_whyNot_0 1 rfl ?_
  refine zv_ldc2 hX wn_X8_327 dX8_whyNot_1 ?_
  refine zv_lrem hX dX8_whyNot_4 (by decide) ?_
  refine zv_ldc2 hX wn_X8_325 dX8_whyNot_5 ?_
  refine zv_ldiv hX dX8_whyNot_8 (by decide) ?_
  refine zv_lstB_n (lw := fun x1 => [(3, .long x1), (0, .ref (zx_ad X 76)), (1, .long v1)]) hX dX8_whyNot_9 (by decide) (fun _ => rfl) (fun x1 => ?_)
  refine zv_lload_n hX dX8_whyNot_10 2 rfl ?_
  refine zv_ldc2 hX wn_X8_325 dX8_whyNot_11 ?_
  refine zv_lrem hX dX8_whyNot_14 (by decide) ?_
  refine zv_lstB (lw := fun x2 => [(5, .long x2), (3, .long x1), (0, .ref (zx_ad X 76)), (1, .long v1)]) hX dX8_whyNot_15 (by decide) (fun _ => rfl) (fun x2 => ?_)
  refine zv_lload_n hX dX8_whyNot_17 3 rfl ?_
  refine zv_lconst (v := (0 : Int64)) hX dX8_whyNot_18 zi_l_0 ?_
  refine zv_ldc2 hX wn_X8_329 dX8_whyNot_19 ?_
  refine zv_cSI [.long v1, .long (0 : Int64), .long (99 : Int64)] (rest := []) hX hT.2.2.2.2 (c_X8_within (zx_Y X) v1 (0 : Int64) (99 : Int64) s) wv_X8_within wm_X8_154 rfl (Nat.le_of_ble_eq_true rfl) (Nat.le_of_ble_eq_true rfl) rfl (Nat.le_of_ble_eq_true rfl) dX8_whyNot_22 (fun r3 s4 => ?_)
  refine zv_if_eq (tgt := 36) hX dX8_whyNot_25 rfl ?_ ?_
  · refine zv_lload_n hX dX8_whyNot_36 3 rfl ?_
    refine zv_ldc2 hX wn_X8_327 dX8_whyNot_37 ?_
    refine zv_ldc2 hX wn_X8_331 dX8_whyNot_40 ?_
    refine zv_cSI [.long v1, .long (100 : Int64), .long (109 : Int64)] (rest := []) hX hT.2.2.2.2 (c_X8_within (zx_Y X) v1 (100 : Int64) (109 : Int64) s4) wv_X8_within wm_X8_154 rfl (Nat.le_of_ble_eq_true rfl) (Nat.le_of_ble_eq_true rfl) rfl (Nat.le_of_ble_eq_true rfl) dX8_whyNot_43 (fun r5 s6 => ?_)
    refine zv_if_eq (tgt := 56) hX dX8_whyNot_46 rfl ?_ ?_
    · refine zv_lload_n hX dX8_whyNot_56 3 rfl ?_
      refine zv_ldc2 hX wn_X8_333 dX8_whyNot_57 ?_
      refine zv_ldc2 hX wn_X8_335 dX8_whyNot_60 ?_
      refine zv_cSI [.long v1, .long (200 : Int64), .long (299 : Int64)] (rest := []) hX hT.2.2.2.2 (c_X8_within (zx_Y X) v1 (200 : Int64) (299 : Int64) s6) wv_X8_within wm_X8_154 rfl (Nat.le_of_ble_eq_true rfl) (Nat.le_of_ble_eq_true rfl) rfl (Nat.le_of_ble_eq_true rfl) dX8_whyNot_63 (fun r7 s8 => ?_)
      refine zv_if_eq (tgt := 91) hX dX8_whyNot_66 rfl ?_ ?_
      · refine zv_lload_n hX dX8_whyNot_91 3 rfl ?_
        refine zv_ldc2 hX wn_X8_337 dX8_whyNot_92 ?_
        refine zv_ldc2 hX wn_X8_339 dX8_whyNot_95 ?_
        refine zv_cSI [.long v1, .long (300 : Int64), .long (399 : Int64)] (rest := []) hX hT.2.2.2.2 (c_X8_within (zx_Y X) v1 (300 : Int64) (399 : Int64) s8) wv_X8_within wm_X8_154 rfl (Nat.le_of_ble_eq_true rfl) (Nat.le_of_ble_eq_true rfl) rfl (Nat.le_of_ble_eq_true rfl) dX8_whyNot_98 (fun r9 s10 => ?_)
        refine zv_if_eq (tgt := 116) hX dX8_whyNot_101 rfl ?_ ?_
        · exact zv_sub [] rfl (b_X8_whyNot_116 hX hT  s10)
        · refine zv_aload_n hX dX8_whyNot_104 2 rfl ?_
          refine zv_lload_n hX dX8_whyNot_105 1 rfl ?_
          refine zv_cVI [.long x1] (rest := []) hX hT.2.2.2.2 (c_X8_isPerson (zx_Y X) x1 s10) wv_X8_isPerson c9_8 zd_76 wm_X8_219 rfl (Nat.le_of_ble_eq_true rfl) (Nat.le_of_ble_eq_true rfl) rfl (Nat.le_of_ble_eq_true rfl) dX8_whyNot_106 (fun r11 s12 => ?_)
          refine zv_if_eq (tgt := 116) hX dX8_whyNot_109 rfl ?_ ?_
          · exact zv_sub [] rfl (b_X8_whyNot_116 hX hT  s12)
          · refine zv_iconst (v := (0 : Int32)) hX dX8_whyNot_112 zi_i_0 ?_
            refine zv_goto (tgt := 117) hX dX8_whyNot_113 rfl ?_
            exact zv_sub [] rfl (b_X8_whyNot_117 hX hT (0 : Int32) s12)
      · refine zv_aload_n hX dX8_whyNot_69 2 rfl ?_
        refine zv_lload_n hX dX8_whyNot_70 1 rfl ?_
        refine zv_cVI [.long x1] (rest := []) hX hT.2.2.2.2 (c_X8_isPerson (zx_Y X) x1 s8) wv_X8_isPerson c9_8 zd_76 wm_X8_219 rfl (Nat.le_of_ble_eq_true rfl) (Nat.le_of_ble_eq_true rfl) rfl (Nat.le_of_ble_eq_true rfl) dX8_whyNot_71 (fun r13 s14 => ?_)
        refine zv_if_eq (tgt := 89) hX dX8_whyNot_74 rfl ?_ ?_
        · exact zv_sub [] rfl (b_X8_whyNot_89 hX hT  s14)
        · refine zv_lload hX dX8_whyNot_77 0 rfl ?_
          refine zv_cSI [.long x2] (rest := []) hX hT.2.2.2.2 (c_X8_isInkCell (zx_Y X) x2 s14) wv_X8_isInkCell wm_X8_320 rfl (Nat.le_of_ble_eq_true rfl) (Nat.le_of_ble_eq_true rfl) rfl (Nat.le_of_ble_eq_true rfl) dX8_whyNot_79 (fun r15 s16 => ?_)
          refine zv_if_eq (tgt := 89) hX dX8_whyNot_82 rfl ?_ ?_
          · exact zv_sub [] rfl (b_X8_whyNot_89 hX hT  s16)
          · refine zv_iconst (v := (0 : Int32)) hX dX8_whyNot_85 zi_i_0 ?_
            refine zv_goto (tgt := 90) hX dX8_whyNot_86 rfl ?_
            exact zv_sub [] rfl (b_X8_whyNot_90 hX hT (0 : Int32) s16)
    · refine zv_aload_n hX dX8_whyNot_49 2 rfl ?_
      refine zv_lload hX dX8_whyNot_50 0 rfl ?_
      refine zv_cVI [.long x2] (rest := []) hX hT.2.2.2.2 (c_X8_whyPart (zx_Y X) x2 s6) wv_X8_whyPart c9_8 zd_76 wm_X8_316 rfl (Nat.le_of_ble_eq_true rfl) (Nat.le_of_ble_eq_true rfl) rfl (Nat.le_of_ble_eq_true rfl) dX8_whyNot_52 (fun r17 s18 => ?_)
      exact zv_ireti hX hT dX8_whyNot_55
  · refine zv_aload_n hX dX8_whyNot_28 2 rfl ?_
    refine zv_lload_n hX dX8_whyNot_29 1 rfl ?_
    refine zv_lload hX dX8_whyNot_30 0 rfl ?_
    refine zv_cVI [.long x1, .long x2] (rest := []) hX hT.2.2.2.2 (c_X8_whyEngage (zx_Y X) x1 x2 s4) wv_X8_whyEngage c9_8 zd_76 wm_X8_303 rfl (Nat.le_of_ble_eq_true rfl) (Nat.le_of_ble_eq_true rfl) rfl (Nat.le_of_ble_eq_true rfl) dX8_whyNot_32 (fun r19 s20 => ?_)
    exact zv_ireti hX hT dX8_whyNot_35
theorem dX8_tells_0 : decode cX8_tells 0 = .ok (.aload_n 0, 1) := by decide +kernel
theorem dX8_tells_1 : decode cX8_tells 1 = .ok (.iconst 0, 1) := by decide +kernel
theorem dX8_tells_2 : decode cX8_tells 2 = .ok (.putfield 341, 3) := by decide +kernel
theorem dX8_tells_5 : decode cX8_tells 5 = .ok (.iconst 0, 1) := by decide +kernel
theorem dX8_tells_6 : decode cX8_tells 6 = .ok (.istore_n 2, 1) := by decide +kernel
theorem dX8_tells_7 : decode cX8_tells 7 = .ok (.iload_n 2, 1) := by decide +kernel
theorem dX8_tells_8 : decode cX8_tells 8 = .ok (.aload_n 0, 1) := by decide +kernel
theorem dX8_tells_9 : decode cX8_tells 9 = .ok (.getfield 81, 3) := by decide +kernel
theorem dX8_tells_12 : decode cX8_tells 12 = .ok (.iload_n 1, 1) := by decide +kernel
theorem dX8_tells_13 : decode cX8_tells 13 = .ok (.iaload, 1) := by decide +kernel
theorem dX8_tells_14 : decode cX8_tells 14 = .ok (.if_icmp .ge 53, 3) := by decide +kernel
theorem dX8_tells_17 : decode cX8_tells 17 = .ok (.aload_n 0, 1) := by decide +kernel
theorem dX8_tells_18 : decode cX8_tells 18 = .ok (.aload_n 0, 1) := by decide +kernel
theorem dX8_tells_19 : decode cX8_tells 19 = .ok (.aload_n 0, 1) := by decide +kernel
theorem dX8_tells_20 : decode cX8_tells 20 = .ok (.getfield 84, 3) := by decide +kernel
theorem dX8_tells_23 : decode cX8_tells 23 = .ok (.bipush 40, 2) := by decide +kernel
theorem dX8_tells_25 : decode cX8_tells 25 = .ok (.iload_n 1, 1) := by decide +kernel
theorem dX8_tells_26 : decode cX8_tells 26 = .ok (.imul, 1) := by decide +kernel
theorem dX8_tells_27 : decode cX8_tells 27 = .ok (.iload_n 2, 1) := by decide +kernel
theorem dX8_tells_28 : decode cX8_tells 28 = .ok (.iadd, 1) := by decide +kernel
theorem dX8_tells_29 : decode cX8_tells 29 = .ok (.laload, 1) := by decide +kernel
theorem dX8_tells_30 : decode cX8_tells 30 = .ok (.invokevirtual 344, 3) := by decide +kernel
theorem dX8_tells_33 : decode cX8_tells 33 = .ok (.putfield 341, 3) := by decide +kernel
theorem dX8_tells_36 : decode cX8_tells 36 = .ok (.aload_n 0, 1) := by decide +kernel
theorem dX8_tells_37 : decode cX8_tells 37 = .ok (.getfield 341, 3) := by decide +kernel
theorem dX8_tells_40 : decode cX8_tells 40 = .ok (.ifCond .eq 5, 3) := by decide +kernel
theorem dX8_tells_43 : decode cX8_tells 43 = .ok (.iload_n 2, 1) := by decide +kernel
theorem dX8_tells_44 : decode cX8_tells 44 = .ok (.ireturn, 1) := by decide +kernel
theorem dX8_tells_45 : decode cX8_tells 45 = .ok (.aload_n 0, 1) := by decide +kernel
theorem dX8_tells_46 : decode cX8_tells 46 = .ok (.aload_n 0, 1) := by decide +kernel
theorem dX8_tells_47 : decode cX8_tells 47 = .ok (.getfield 84, 3) := by decide +kernel
theorem dX8_tells_50 : decode cX8_tells 50 = .ok (.bipush 40, 2) := by decide +kernel
theorem dX8_tells_52 : decode cX8_tells 52 = .ok (.iload_n 1, 1) := by decide +kernel
theorem dX8_tells_53 : decode cX8_tells 53 = .ok (.imul, 1) := by decide +kernel
theorem dX8_tells_54 : decode cX8_tells 54 = .ok (.iload_n 2, 1) := by decide +kernel
theorem dX8_tells_55 : decode cX8_tells 55 = .ok (.iadd, 1) := by decide +kernel
theorem dX8_tells_56 : decode cX8_tells 56 = .ok (.laload, 1) := by decide +kernel
theorem dX8_tells_57 : decode cX8_tells 57 = .ok (.l2i, 1) := by decide +kernel
theorem dX8_tells_58 : decode cX8_tells 58 = .ok (.invokevirtual 347, 3) := by decide +kernel
theorem dX8_tells_61 : decode cX8_tells 61 = .ok (.iinc 2 1, 3) := by decide +kernel
theorem dX8_tells_64 : decode cX8_tells 64 = .ok (.goto (-57), 3) := by decide +kernel
theorem dX8_tells_67 : decode cX8_tells 67 = .ok (.aload_n 0, 1) := by decide +kernel
theorem dX8_tells_68 : decode cX8_tells 68 = .ok (.getfield 81, 3) := by decide +kernel
theorem dX8_tells_71 : decode cX8_tells 71 = .ok (.iload_n 1, 1) := by decide +kernel
theorem dX8_tells_72 : decode cX8_tells 72 = .ok (.iaload, 1) := by decide +kernel
theorem dX8_tells_73 : decode cX8_tells 73 = .ok (.ireturn, 1) := by decide +kernel
def f_X8_tells_7 : Nat → Int32 → Int32 → zS → Option (Int32 × zS)
  | 0, _, _, _ => none
  | n + 1, v1, v2, s =>
    (zr_i s 98 v1).bind fun x1 =>
    if x1 ≤ v2 then
    ((zr_i s 98 v1).bind fun x2 =>
    some (x2, s))
    else
    (zr_l s 99 (((nI 40) * v1) + v2)).bind fun x3 =>
    zbd (f_X8_whyNot x3 s) fun r4 s5 =>
    zb (zs_i s5 76 28 r4) fun s6 =>
    if (s6.1 76 28) = 0 then
    ((zr_l s6 99 (((nI 40) * v1) + v2)).bind fun x7 =>
    zbd (f_X8_does (x7.toInt32) s6) fun _ s8 =>
    zb (v2 + (1 : Int32)) fun x9 =>
    f_X8_tells_7 n v1 x9 s8)
    else
    some (v2, s6)
set_option maxRecDepth 20000 in
theorem b_X8_tells_7 {X : zX} (hX : zx_ok X cX8_tells RX8 3) (hT : zx_rt X (some .int) (zR 73 1807)) : ∀ (n : Nat) (v1 : Int32) (v2 : Int32) (s : zS), zV X (zq X zrI) 3 7 [(0, .ref (zx_ad X 76)), (1, .int v1), (2, .int v2)] [] s (f_X8_tells_7 n v1 v2 s) := by
  intro n
  induction n with
  | zero => intro v1 v2 s; exact zv_none
  | succ n ih =>
    intro v1 v2 s
    rw [f_X8_tells_7]
    refine zv_iload_n hX dX8_tells_7 2 rfl ?_
    refine zv_aload_n hX dX8_tells_8 0 rfl ?_
    refine zv_geta hX wf_X8_81 wc_8 zd_76 zj_76_39 c9_8 zr_76_39 (by decide) dX8_tells_9 ?_
    refine zv_iload_n hX dX8_tells_12 1 rfl ?_
    refine zv_iald hX dX8_tells_13 (fun x1 => ?_)
    refine zv_icmp_ge (tgt := 67) hX dX8_tells_14 rfl ?_ ?_
    · refine zv_aload_n hX dX8_tells_67 0 rfl ?_
      refine zv_geta hX wf_X8_81 wc_8 zd_76 zj_76_39 c9_8 zr_76_39 (by decide) dX8_tells_68 ?_
      refine zv_iload_n hX dX8_tells_71 1 rfl ?_
      refine zv_iald hX dX8_tells_72 (fun x2 => ?_)
      exact zv_ireti hX hT dX8_tells_73
    · refine zv_aload_n hX dX8_tells_17 0 rfl ?_
      refine zv_aload_n hX dX8_tells_18 0 rfl ?_
      refine zv_aload_n hX dX8_tells_19 0 rfl ?_
      refine zv_geta hX wf_X8_84 wc_8 zd_76 zj_76_40 c9_8 zr_76_40 (by decide) dX8_tells_20 ?_
      refine zv_bipush (v := (nI 40)) hX dX8_tells_23 zi_b_40 ?_
      refine zv_iload_n hX dX8_tells_25 1 rfl ?_
      refine zv_imul hX dX8_tells_26 ?_
      refine zv_iload_n hX dX8_tells_27 2 rfl ?_
      refine zv_iadd hX dX8_tells_28 ?_
      refine zv_lald hX dX8_tells_29 (fun x3 => ?_)
      refine zv_cVI [.long x3] (rest := [.ref (zx_ad X 76)]) hX hT.2.2.2.2 (c_X8_whyNot (zx_Y X) x3 s) wv_X8_whyNot c9_8 zd_76 wm_X8_344 rfl (Nat.le_of_ble_eq_true rfl) (Nat.le_of_ble_eq_true rfl) rfl (Nat.le_of_ble_eq_true rfl) dX8_tells_30 (fun r4 s5 => ?_)
      refine zv_puti hX wf_X8_341 wc_8 wk_8_28 zd_76 zj_76_28 c9_8 zr_76_28 dX8_tells_33 (fun s6 => ?_)
      refine zv_aload_n hX dX8_tells_36 0 rfl ?_
      refine zv_geti hX wf_X8_341 wc_8 zd_76 zj_76_28 c9_8 zr_76_28 dX8_tells_37 ?_
      refine zv_if_eq (tgt := 45) hX dX8_tells_40 rfl ?_ ?_
      · refine zv_aload_n hX dX8_tells_45 0 rfl ?_
        refine zv_aload_n hX dX8_tells_46 0 rfl ?_
        refine zv_geta hX wf_X8_84 wc_8 zd_76 zj_76_40 c9_8 zr_76_40 (by decide) dX8_tells_47 ?_
        refine zv_bipush (v := (nI 40)) hX dX8_tells_50 zi_b_40 ?_
        refine zv_iload_n hX dX8_tells_52 1 rfl ?_
        refine zv_imul hX dX8_tells_53 ?_
        refine zv_iload_n hX dX8_tells_54 2 rfl ?_
        refine zv_iadd hX dX8_tells_55 ?_
        refine zv_lald hX dX8_tells_56 (fun x7 => ?_)
        refine zv_l2i hX dX8_tells_57 ?_
        refine zv_cVV [.int (x7.toInt32)] (rest := []) hX hT.2.2.2.2 (c_X8_does (zx_Y X) (x7.toInt32) s6) wv_X8_does c9_8 zd_76 wm_X8_347 rfl (Nat.le_of_ble_eq_true rfl) (Nat.le_of_ble_eq_true rfl) rfl (Nat.le_of_ble_eq_true rfl) dX8_tells_58 (fun _ s8 => ?_)
        refine zv_iincB (lw := fun x9 => [(2, .int x9), (0, .ref (zx_ad X 76)), (1, .int v1)]) hX dX8_tells_61 2 rfl zi_i_1 (by decide) (fun _ => rfl) (fun x9 => ?_)
        refine zv_goto (tgt := 7) hX dX8_tells_64 rfl ?_
        exact zv_sub [1, 2, 0] rfl (ih v1 x9 s8)
      · refine zv_iload_n hX dX8_tells_43 2 rfl ?_
        exact zv_ireti hX hT dX8_tells_44
def f_X8_tells (v1 : Int32) (s : zS) : Option (Int32 × zS) :=
  zb (zs_i s 76 28 (0 : Int32)) fun s10 =>
  f_X8_tells_7 zFU v1 (0 : Int32) s10
set_option maxRecDepth 20000 in
theorem c_X8_tells (Y : zG) (v1 : Int32) (s : zS) : zM Y yX8_tells cX8_tells 3 (some .int) (zR 73 1807) [.ref (zy_a Y 76), .int v1] s zrI (f_X8_tells v1 s) := by
  refine zm_start (by decide +kernel) (Nat.le_of_ble_eq_true rfl) ?_
  intro X hY hT hX
  subst hY
  have hX : zx_ok X cX8_tells RX8 3 := hX
  show zV X (zq X zrI) 3 0 [(0, .ref (zx_ad X 76)), (1, .int v1)] [] s _
  unfold f_X8_tells
  refine zv_aload_n hX dX8_tells_0 0 rfl ?_
  refine zv_iconst (v := (0 : Int32)) hX dX8_tells_1 zi_i_0 ?_
  refine zv_puti hX wf_X8_341 wc_8 wk_8_28 zd_76 zj_76_28 c9_8 zr_76_28 dX8_tells_2 (fun s10 => ?_)
  refine zv_iconst (v := (0 : Int32)) hX dX8_tells_5 zi_i_0 ?_
  refine zv_istore_n (lv' := [(2, .int (0 : Int32)), (0, .ref (zx_ad X 76)), (1, .int v1)]) hX dX8_tells_6 (by decide) rfl ?_
  exact zv_sub [1, 2, 0] rfl (b_X8_tells_7 hX hT zFU v1 (0 : Int32) s10)
theorem dX8_judge_0 : decode cX8_judge 0 = .ok (.aload_n 0, 1) := by decide +kernel
theorem dX8_judge_1 : decode cX8_judge 1 = .ok (.iconst 0, 1) := by decide +kernel
theorem dX8_judge_2 : decode cX8_judge 2 = .ok (.putfield 1, 3) := by decide +kernel
theorem dX8_judge_5 : decode cX8_judge 5 = .ok (.iload_n 2, 1) := by decide +kernel
theorem dX8_judge_6 : decode cX8_judge 6 = .ok (.i2l, 1) := by decide +kernel
theorem dX8_judge_7 : decode cX8_judge 7 = .ok (.lconst 0, 1) := by decide +kernel
theorem dX8_judge_8 : decode cX8_judge 8 = .ok (.ldc2_w 350, 3) := by decide +kernel
theorem dX8_judge_11 : decode cX8_judge 11 = .ok (.invokestatic 154, 3) := by decide +kernel
theorem dX8_judge_14 : decode cX8_judge 14 = .ok (.ifCond .ne 6, 3) := by decide +kernel
theorem dX8_judge_17 : decode cX8_judge 17 = .ok (.bipush (-2), 2) := by decide +kernel
theorem dX8_judge_19 : decode cX8_judge 19 = .ok (.ireturn, 1) := by decide +kernel
theorem dX8_judge_20 : decode cX8_judge 20 = .ok (.aload_n 0, 1) := by decide +kernel
theorem dX8_judge_21 : decode cX8_judge 21 = .ok (.iload_n 1, 1) := by decide +kernel
theorem dX8_judge_22 : decode cX8_judge 22 = .ok (.invokevirtual 352, 3) := by decide +kernel
theorem dX8_judge_25 : decode cX8_judge 25 = .ok (.istore_n 3, 1) := by decide +kernel
theorem dX8_judge_26 : decode cX8_judge 26 = .ok (.iload_n 3, 1) := by decide +kernel
theorem dX8_judge_27 : decode cX8_judge 27 = .ok (.ifCond .eq 5, 3) := by decide +kernel
theorem dX8_judge_30 : decode cX8_judge 30 = .ok (.iload_n 3, 1) := by decide +kernel
theorem dX8_judge_31 : decode cX8_judge 31 = .ok (.ireturn, 1) := by decide +kernel
theorem dX8_judge_32 : decode cX8_judge 32 = .ok (.aload_n 0, 1) := by decide +kernel
theorem dX8_judge_33 : decode cX8_judge 33 = .ok (.invokevirtual 307, 3) := by decide +kernel
theorem dX8_judge_36 : decode cX8_judge 36 = .ok (.aload_n 0, 1) := by decide +kernel
theorem dX8_judge_37 : decode cX8_judge 37 = .ok (.iload_n 1, 1) := by decide +kernel
theorem dX8_judge_38 : decode cX8_judge 38 = .ok (.invokevirtual 355, 3) := by decide +kernel
theorem dX8_judge_41 : decode cX8_judge 41 = .ok (.istore 4, 2) := by decide +kernel
theorem dX8_judge_43 : decode cX8_judge 43 = .ok (.aload_n 0, 1) := by decide +kernel
theorem dX8_judge_44 : decode cX8_judge 44 = .ok (.invokevirtual 358, 3) := by decide +kernel
theorem dX8_judge_47 : decode cX8_judge 47 = .ok (.istore 5, 2) := by decide +kernel
theorem dX8_judge_49 : decode cX8_judge 49 = .ok (.aload_n 0, 1) := by decide +kernel
theorem dX8_judge_50 : decode cX8_judge 50 = .ok (.bipush 127, 2) := by decide +kernel
theorem dX8_judge_52 : decode cX8_judge 52 = .ok (.invokevirtual 261, 3) := by decide +kernel
theorem dX8_judge_55 : decode cX8_judge 55 = .ok (.istore 6, 2) := by decide +kernel
theorem dX8_judge_57 : decode cX8_judge 57 = .ok (.aload_n 0, 1) := by decide +kernel
theorem dX8_judge_58 : decode cX8_judge 58 = .ok (.invokevirtual 361, 3) := by decide +kernel
theorem dX8_judge_61 : decode cX8_judge 61 = .ok (.iload_n 2, 1) := by decide +kernel
theorem dX8_judge_62 : decode cX8_judge 62 = .ok (.ifCond .ne 19, 3) := by decide +kernel
theorem dX8_judge_65 : decode cX8_judge 65 = .ok (.aload_n 0, 1) := by decide +kernel
theorem dX8_judge_66 : decode cX8_judge 66 = .ok (.getfield 341, 3) := by decide +kernel
theorem dX8_judge_69 : decode cX8_judge 69 = .ok (.ifCond .ne 7, 3) := by decide +kernel
theorem dX8_judge_72 : decode cX8_judge 72 = .ok (.iconst (-1), 1) := by decide +kernel
theorem dX8_judge_73 : decode cX8_judge 73 = .ok (.goto 32, 3) := by decide +kernel
theorem dX8_judge_76 : decode cX8_judge 76 = .ok (.iload 4, 2) := by decide +kernel
theorem dX8_judge_78 : decode cX8_judge 78 = .ok (.goto 27, 3) := by decide +kernel
theorem dX8_judge_81 : decode cX8_judge 81 = .ok (.iload_n 2, 1) := by decide +kernel
theorem dX8_judge_82 : decode cX8_judge 82 = .ok (.iconst 1, 1) := by decide +kernel
theorem dX8_judge_83 : decode cX8_judge 83 = .ok (.if_icmp .ne 10, 3) := by decide +kernel
theorem dX8_judge_86 : decode cX8_judge 86 = .ok (.aload_n 0, 1) := by decide +kernel
theorem dX8_judge_87 : decode cX8_judge 87 = .ok (.getfield 341, 3) := by decide +kernel
theorem dX8_judge_90 : decode cX8_judge 90 = .ok (.goto 15, 3) := by decide +kernel
theorem dX8_judge_93 : decode cX8_judge 93 = .ok (.iload_n 2, 1) := by decide +kernel
theorem dX8_judge_94 : decode cX8_judge 94 = .ok (.iconst 2, 1) := by decide +kernel
theorem dX8_judge_95 : decode cX8_judge 95 = .ok (.if_icmp .ne 8, 3) := by decide +kernel
theorem dX8_judge_98 : decode cX8_judge 98 = .ok (.iload 5, 2) := by decide +kernel
theorem dX8_judge_100 : decode cX8_judge 100 = .ok (.goto 5, 3) := by decide +kernel
theorem dX8_judge_103 : decode cX8_judge 103 = .ok (.iload 6, 2) := by decide +kernel
theorem dX8_judge_105 : decode cX8_judge 105 = .ok (.ireturn, 1) := by decide +kernel
def f_X8_judge_105 (w0 : Int32) (s : zS) : Option (Int32 × zS) :=
  some (w0, s)
set_option maxRecDepth 20000 in
theorem b_X8_judge_105 {X : zX} (hX : zx_ok X cX8_judge RX8 7) (hT : zx_rt X (some .int) (zR 74 1829)) : ∀ (w0 : Int32) (s : zS), zV X (zq X zrI) 7 105 [] [.int w0] s (f_X8_judge_105 w0 s) := by
  intro w0 s
  unfold f_X8_judge_105
  exact zv_ireti hX hT dX8_judge_105
def f_X8_judge (v1 : Int32) (v2 : Int32) (s : zS) : Option (Int32 × zS) :=
  zb (zs_i s 76 0 (0 : Int32)) fun s1 =>
  zbd (f_X8_within (v2.toInt64) (0 : Int64) (3 : Int64) s1) fun r2 s3 =>
  if ¬ r2 = 0 then
  (zbd (f_X8_noTray v1 s3) fun r4 s5 =>
  if r4 = 0 then
  (zbd (f_X8_keeps s5) fun _ s6 =>
  zbd (f_X8_tells v1 s6) fun r7 s8 =>
  zbd (f_X8_engagedSet s8) fun r9 s10 =>
  zbd (f_X8_inkOf (nI 127) s10) fun r11 s12 =>
  zbd (f_X8_isAgain s12) fun _ s13 =>
  if ¬ v2 = 0 then
  (if ¬ v2 = (1 : Int32) then
  (if ¬ v2 = (nI 2) then
  (f_X8_judge_105 r11 s13)
  else
  f_X8_judge_105 r9 s13)
  else
  f_X8_judge_105 (s13.1 76 28) s13)
  else
  if ¬ (s13.1 76 28) = 0 then
  (f_X8_judge_105 r7 s13)
  else
  f_X8_judge_105 (-1 : Int32) s13)
  else
  some (r4, s5))
  else
  some ((-2 : Int32), s3)
set_option maxRecDepth 20000 in
theorem c_X8_judge (Y : zG) (v1 : Int32) (v2 : Int32) (s : zS) : zM Y yX8_judge cX8_judge 7 (some .int) (zR 74 1829) [.ref (zy_a Y 76), .int v1, .int v2] s zrI (f_X8_judge v1 v2 s) := by
  refine zm_start (by decide +kernel) (Nat.le_of_ble_eq_true rfl) ?_
  intro X hY hT hX
  subst hY
  have hX : zx_ok X cX8_judge RX8 7 := hX
  show zV X (zq X zrI) 7 0 [(0, .ref (zx_ad X 76)), (1, .int v1), (2, .int v2)] [] s _
  unfold f_X8_judge
  refine zv_aload_n hX dX8_judge_0 0 rfl ?_
  refine zv_iconst (v := (0 : Int32)) hX dX8_judge_1 zi_i_0 ?_
  refine zv_puti hX wf_X8_1 wc_8 wk_8_0 zd_76 zj_76_0 c9_8 zr_76_0 dX8_judge_2 (fun s1 => ?_)
  refine zv_iload_n hX dX8_judge_5 2 rfl ?_
  refine zv_i2l hX dX8_judge_6 ?_
  refine zv_lconst (v := (0 : Int64)) hX dX8_judge_7 zi_l_0 ?_
  refine zv_ldc2 hX wn_X8_350 dX8_judge_8 ?_
  refine zv_cSI [.long (v2.toInt64), .long (0 : Int64), .long (3 : Int64)] (rest := []) hX hT.2.2.2.2 (c_X8_within (zx_Y X) (v2.toInt64) (0 : Int64) (3 : Int64) s1) wv_X8_within wm_X8_154 rfl (Nat.le_of_ble_eq_true rfl) (Nat.le_of_ble_eq_true rfl) rfl (Nat.le_of_ble_eq_true rfl) dX8_judge_11 (fun r2 s3 => ?_)
  refine zv_if_ne (tgt := 20) hX dX8_judge_14 rfl ?_ ?_
  · refine zv_aload_n hX dX8_judge_20 0 rfl ?_
    refine zv_iload_n hX dX8_judge_21 1 rfl ?_
    refine zv_cVI [.int v1] (rest := []) hX hT.2.2.2.2 (c_X8_noTray (zx_Y X) v1 s3) wv_X8_noTray c9_8 zd_76 wm_X8_352 rfl (Nat.le_of_ble_eq_true rfl) (Nat.le_of_ble_eq_true rfl) rfl (Nat.le_of_ble_eq_true rfl) dX8_judge_22 (fun r4 s5 => ?_)
    refine zv_istore_n (lv' := [(3, .int r4), (0, .ref (zx_ad X 76)), (1, .int v1), (2, .int v2)]) hX dX8_judge_25 (by decide) rfl ?_
    refine zv_iload_n hX dX8_judge_26 0 rfl ?_
    refine zv_if_eq (tgt := 32) hX dX8_judge_27 rfl ?_ ?_
    · refine zv_aload_n hX dX8_judge_32 1 rfl ?_
      refine zv_cVV [] (rest := []) hX hT.2.2.2.2 (c_X8_keeps (zx_Y X) s5) wv_X8_keeps c9_8 zd_76 wm_X8_307 rfl (Nat.le_of_ble_eq_true rfl) (Nat.le_of_ble_eq_true rfl) rfl (Nat.le_of_ble_eq_true rfl) dX8_judge_33 (fun _ s6 => ?_)
      refine zv_aload_n hX dX8_judge_36 1 rfl ?_
      refine zv_iload_n hX dX8_judge_37 2 rfl ?_
      refine zv_cVI [.int v1] (rest := []) hX hT.2.2.2.2 (c_X8_tells (zx_Y X) v1 s6) wv_X8_tells c9_8 zd_76 wm_X8_355 rfl (Nat.le_of_ble_eq_true rfl) (Nat.le_of_ble_eq_true rfl) rfl (Nat.le_of_ble_eq_true rfl) dX8_judge_38 (fun r7 s8 => ?_)
      refine zv_istore (lv' := [(4, .int r7), (3, .int r4), (0, .ref (zx_ad X 76)), (1, .int v1), (2, .int v2)]) hX dX8_judge_41 (by decide) rfl ?_
      refine zv_aload_n hX dX8_judge_43 2 rfl ?_
      refine zv_cVI [] (rest := []) hX hT.2.2.2.2 (c_X8_engagedSet (zx_Y X) s8) wv_X8_engagedSet c9_8 zd_76 wm_X8_358 rfl (Nat.le_of_ble_eq_true rfl) (Nat.le_of_ble_eq_true rfl) rfl (Nat.le_of_ble_eq_true rfl) dX8_judge_44 (fun r9 s10 => ?_)
      refine zv_istore (lv' := [(5, .int r9), (4, .int r7), (3, .int r4), (0, .ref (zx_ad X 76)), (1, .int v1), (2, .int v2)]) hX dX8_judge_47 (by decide) rfl ?_
      refine zv_aload_n hX dX8_judge_49 3 rfl ?_
      refine zv_bipush (v := (nI 127)) hX dX8_judge_50 zi_b_127 ?_
      refine zv_cVI [.int (nI 127)] (rest := []) hX hT.2.2.2.2 (c_X8_inkOf (zx_Y X) (nI 127) s10) wv_X8_inkOf c9_8 zd_76 wm_X8_261 rfl (Nat.le_of_ble_eq_true rfl) (Nat.le_of_ble_eq_true rfl) rfl (Nat.le_of_ble_eq_true rfl) dX8_judge_52 (fun r11 s12 => ?_)
      refine zv_istore (lv' := [(6, .int r11), (5, .int r9), (4, .int r7), (3, .int r4), (0, .ref (zx_ad X 76)), (1, .int v1), (2, .int v2)]) hX dX8_judge_55 (by decide) rfl ?_
      refine zv_aload_n hX dX8_judge_57 4 rfl ?_
      refine zv_cVV [] (rest := []) hX hT.2.2.2.2 (c_X8_isAgain (zx_Y X) s12) wv_X8_isAgain c9_8 zd_76 wm_X8_361 rfl (Nat.le_of_ble_eq_true rfl) (Nat.le_of_ble_eq_true rfl) rfl (Nat.le_of_ble_eq_true rfl) dX8_judge_58 (fun _ s13 => ?_)
      refine zv_iload_n hX dX8_judge_61 6 rfl ?_
      refine zv_if_ne (tgt := 81) hX dX8_judge_62 rfl ?_ ?_
      · refine zv_iload_n hX dX8_judge_81 6 rfl ?_
        refine zv_iconst (v := (1 : Int32)) hX dX8_judge_82 zi_i_1 ?_
        refine zv_icmp_ne (tgt := 93) hX dX8_judge_83 rfl ?_ ?_
        · refine zv_iload_n hX dX8_judge_93 6 rfl ?_
          refine zv_iconst (v := (nI 2)) hX dX8_judge_94 zi_i_2 ?_
          refine zv_icmp_ne (tgt := 103) hX dX8_judge_95 rfl ?_ ?_
          · refine zv_iload hX dX8_judge_103 0 rfl ?_
            exact zv_sub [] rfl (b_X8_judge_105 hX hT r11 s13)
          · refine zv_iload hX dX8_judge_98 1 rfl ?_
            refine zv_goto (tgt := 105) hX dX8_judge_100 rfl ?_
            exact zv_sub [] rfl (b_X8_judge_105 hX hT r9 s13)
        · refine zv_aload_n hX dX8_judge_86 4 rfl ?_
          refine zv_geti hX wf_X8_341 wc_8 zd_76 zj_76_28 c9_8 zr_76_28 dX8_judge_87 ?_
          refine zv_goto (tgt := 105) hX dX8_judge_90 rfl ?_
          exact zv_sub [] rfl (b_X8_judge_105 hX hT (s13.1 76 28) s13)
      · refine zv_aload_n hX dX8_judge_65 4 rfl ?_
        refine zv_geti hX wf_X8_341 wc_8 zd_76 zj_76_28 c9_8 zr_76_28 dX8_judge_66 ?_
        refine zv_if_ne (tgt := 76) hX dX8_judge_69 rfl ?_ ?_
        · refine zv_iload hX dX8_judge_76 2 rfl ?_
          refine zv_goto (tgt := 105) hX dX8_judge_78 rfl ?_
          exact zv_sub [] rfl (b_X8_judge_105 hX hT r7 s13)
        · refine zv_iconst (v := (-1 : Int32)) hX dX8_judge_72 zi_i_m1 ?_
          refine zv_goto (tgt := 105) hX dX8_judge_73 rfl ?_
          exact zv_sub [] rfl (b_X8_judge_105 hX hT (-1 : Int32) s13)
    · refine zv_iload_n hX dX8_judge_30 0 rfl ?_
      exact zv_ireti hX hT dX8_judge_31
  · refine zv_bipush (v := (-2 : Int32)) hX dX8_judge_17 zi_b_m2 ?_
    exact zv_ireti hX hT dX8_judge_19
