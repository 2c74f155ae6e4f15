theorem dX3_takeNumber_0 : decode cX3_takeNumber 0 = .ok (.aload_n 0, 1) := by decide +kernel
theorem dX3_takeNumber_1 : decode cX3_takeNumber 1 = .ok (.getfield 22, 3) := by decide +kernel
theorem dX3_takeNumber_4 : decode cX3_takeNumber 4 = .ok (.aload_n 0, 1) := by decide +kernel
theorem dX3_takeNumber_5 : decode cX3_takeNumber 5 = .ok (.getfield 39, 3) := by decide +kernel
theorem dX3_takeNumber_8 : decode cX3_takeNumber 8 = .ok (.iaload, 1) := by decide +kernel
theorem dX3_takeNumber_9 : decode cX3_takeNumber 9 = .ok (.istore_n 2, 1) := by decide +kernel
theorem dX3_takeNumber_10 : decode cX3_takeNumber 10 = .ok (.iload_n 2, 1) := by decide +kernel
theorem dX3_takeNumber_11 : decode cX3_takeNumber 11 = .ok (.sipush 1000, 3) := by decide +kernel
theorem dX3_takeNumber_14 : decode cX3_takeNumber 14 = .ok (.if_icmp .ge 8, 3) := by decide +kernel
theorem dX3_takeNumber_17 : decode cX3_takeNumber 17 = .ok (.iload_n 2, 1) := by decide +kernel
theorem dX3_takeNumber_18 : decode cX3_takeNumber 18 = .ok (.iload_n 1, 1) := by decide +kernel
theorem dX3_takeNumber_19 : decode cX3_takeNumber 19 = .ok (.if_icmp .le 22, 3) := by decide +kernel
theorem dX3_takeNumber_22 : decode cX3_takeNumber 22 = .ok (.aload_n 0, 1) := by decide +kernel
theorem dX3_takeNumber_23 : decode cX3_takeNumber 23 = .ok (.iload_n 2, 1) := by decide +kernel
theorem dX3_takeNumber_24 : decode cX3_takeNumber 24 = .ok (.sipush 1000, 3) := by decide +kernel
theorem dX3_takeNumber_27 : decode cX3_takeNumber 27 = .ok (.if_icmp .lt 7, 3) := by decide +kernel
theorem dX3_takeNumber_30 : decode cX3_takeNumber 30 = .ok (.iconst 2, 1) := by decide +kernel
theorem dX3_takeNumber_31 : decode cX3_takeNumber 31 = .ok (.goto 4, 3) := by decide +kernel
theorem dX3_takeNumber_34 : decode cX3_takeNumber 34 = .ok (.iconst 3, 1) := by decide +kernel
theorem dX3_takeNumber_35 : decode cX3_takeNumber 35 = .ok (.invokevirtual 94, 3) := by decide +kernel
theorem dX3_takeNumber_38 : decode cX3_takeNumber 38 = .ok (.pop, 1) := by decide +kernel
theorem dX3_takeNumber_39 : decode cX3_takeNumber 39 = .ok (.iconst (-1), 1) := by decide +kernel
theorem dX3_takeNumber_40 : decode cX3_takeNumber 40 = .ok (.ireturn, 1) := by decide +kernel
theorem dX3_takeNumber_41 : decode cX3_takeNumber 41 = .ok (.aload_n 0, 1) := by decide +kernel
theorem dX3_takeNumber_42 : decode cX3_takeNumber 42 = .ok (.invokevirtual 97, 3) := by decide +kernel
theorem dX3_takeNumber_45 : decode cX3_takeNumber 45 = .ok (.iload_n 2, 1) := by decide +kernel
theorem dX3_takeNumber_46 : decode cX3_takeNumber 46 = .ok (.ireturn, 1) := by decide +kernel
def f_X3_takeNumber_35 (w0 : Int32) (s : zS) : Option (Int32 × zS) :=
  zbd (f_X3_refuse w0 s) fun r1 s2 =>
  some ((-1 : Int32), s2)
set_option maxRecDepth 20000 in
theorem b_X3_takeNumber_35 {X : zX} (hX : zx_ok X cX3_takeNumber RX3 3) (hT : zx_rt X (some .int) (zR 1 21)) : ∀ (w0 : Int32) (s : zS), zV X (zq X zrI) 3 35 [] [.int w0, .ref (zx_ad X 30)] s (f_X3_takeNumber_35 w0 s) := by
  intro w0 s
  unfold f_X3_takeNumber_35
  refine zv_cVI [.int w0] (rest := []) hX hT.2.2.2.2 (c_X3_refuse (zx_Y X) w0 s) wv_X3_refuse c9_3 zd_30 wm_X3_94 rfl (Nat.le_of_ble_eq_true rfl) (Nat.le_of_ble_eq_true rfl) rfl (Nat.le_of_ble_eq_true rfl) dX3_takeNumber_35 (fun r1 s2 => ?_)
  refine zv_pop hX dX3_takeNumber_38 rfl ?_
  refine zv_iconst (v := (-1 : Int32)) hX dX3_takeNumber_39 zi_i_m1 ?_
  exact zv_ireti hX hT dX3_takeNumber_40
def f_X3_takeNumber_22 (v2 : Int32) (s : zS) : Option (Int32 × zS) :=
  if v2 < (nI 1000) then
  (f_X3_takeNumber_35 (nI 3) s)
  else
  f_X3_takeNumber_35 (nI 2) s
set_option maxRecDepth 20000 in
theorem b_X3_takeNumber_22 {X : zX} (hX : zx_ok X cX3_takeNumber RX3 3) (hT : zx_rt X (some .int) (zR 1 21)) : ∀ (v2 : Int32) (s : zS), zV X (zq X zrI) 3 22 [(0, .ref (zx_ad X 30)), (2, .int v2)] [] s (f_X3_takeNumber_22 v2 s) := by
  intro v2 s
  unfold f_X3_takeNumber_22
  refine zv_aload_n hX dX3_takeNumber_22 0 rfl ?_
  refine zv_iload_n hX dX3_takeNumber_23 1 rfl ?_
  refine zv_sipush (v := (nI 1000)) hX dX3_takeNumber_24 zi_s_1000 ?_
  refine zv_icmp_lt (tgt := 34) hX dX3_takeNumber_27 rfl ?_ ?_
  · refine zv_iconst (v := (nI 3)) hX dX3_takeNumber_34 zi_i_3 ?_
    exact zv_sub [] rfl (b_X3_takeNumber_35 hX hT (nI 3) s)
  · refine zv_iconst (v := (nI 2)) hX dX3_takeNumber_30 zi_i_2 ?_
    refine zv_goto (tgt := 35) hX dX3_takeNumber_31 rfl ?_
    exact zv_sub [] rfl (b_X3_takeNumber_35 hX hT (nI 2) s)
def f_X3_takeNumber (v1 : Int32) (s : zS) : Option (Int32 × zS) :=
  (zr_i s 40 (s.1 30 5)).bind fun x3 =>
  if (nI 1000) ≤ x3 then
  (f_X3_takeNumber_22 x3 s)
  else
  if x3 ≤ v1 then
  (zbd (f_X3_step s) fun _ s4 =>
  some (x3, s4))
  else
  f_X3_takeNumber_22 x3 s
set_option maxRecDepth 20000 in
theorem c_X3_takeNumber (Y : zG) (v1 : Int32) (s : zS) : zM Y yX3_takeNumber cX3_takeNumber 3 (some .int) (zR 1 21) [.ref (zy_a Y 30), .int v1] s zrI (f_X3_takeNumber v1 s) := by
  refine zm_start (by decide +kernel) (Nat.le_of_ble_eq_true rfl) ?_
  intro X hY hT hX
  subst hY
  have hX : zx_ok X cX3_takeNumber RX3 3 := hX
  show zV X (zq X zrI) 3 0 [(0, .ref (zx_ad X 30)), (1, .int v1)] [] s _
  unfold f_X3_takeNumber
  refine zv_aload_n hX dX3_takeNumber_0 0 rfl ?_
  refine zv_geta hX wf_X3_22 wc_3 zd_30 zj_30_3 c9_3 zr_30_3 (by decide) dX3_takeNumber_1 ?_
  refine zv_aload_n hX dX3_takeNumber_4 0 rfl ?_
  refine zv_geti hX wf_X3_39 wc_3 zd_30 zj_30_5 c9_3 zr_30_5 dX3_takeNumber_5 ?_
  refine zv_iald hX dX3_takeNumber_8 (fun x3 => ?_)
  refine zv_istore_n (lv' := [(2, .int x3), (0, .ref (zx_ad X 30)), (1, .int v1)]) hX dX3_takeNumber_9 (by decide) rfl ?_
  refine zv_iload_n hX dX3_takeNumber_10 0 rfl ?_
  refine zv_sipush (v := (nI 1000)) hX dX3_takeNumber_11 zi_s_1000 ?_
  refine zv_icmp_ge (tgt := 22) hX dX3_takeNumber_14 rfl ?_ ?_
  · exact zv_sub [1, 0] rfl (b_X3_takeNumber_22 hX hT x3 s)
  · refine zv_iload_n hX dX3_takeNumber_17 0 rfl ?_
    refine zv_iload_n hX dX3_takeNumber_18 2 rfl ?_
    refine zv_icmp_le (tgt := 41) hX dX3_takeNumber_19 rfl ?_ ?_
    · refine zv_aload_n hX dX3_takeNumber_41 1 rfl ?_
      refine zv_cVV [] (rest := []) hX hT.2.2.2.2 (c_X3_step (zx_Y X) s) wv_X3_step c9_3 zd_30 wm_X3_97 rfl (Nat.le_of_ble_eq_true rfl) (Nat.le_of_ble_eq_true rfl) rfl (Nat.le_of_ble_eq_true rfl) dX3_takeNumber_42 (fun _ s4 => ?_)
      refine zv_iload_n hX dX3_takeNumber_45 0 rfl ?_
      exact zv_ireti hX hT dX3_takeNumber_46
    · exact zv_sub [1, 0] rfl (b_X3_takeNumber_22 hX hT x3 s)
theorem dX3_readFlags_0 : decode cX3_readFlags 0 = .ok (.iconst 0, 1) := by decide +kernel
theorem dX3_readFlags_1 : decode cX3_readFlags 1 = .ok (.istore_n 2, 1) := by decide +kernel
theorem dX3_readFlags_2 : decode cX3_readFlags 2 = .ok (.iload_n 2, 1) := by decide +kernel
theorem dX3_readFlags_3 : decode cX3_readFlags 3 = .ok (.sipush 900, 3) := by decide +kernel
theorem dX3_readFlags_6 : decode cX3_readFlags 6 = .ok (.if_icmp .ge 122, 3) := by decide +kernel
theorem dX3_readFlags_9 : decode cX3_readFlags 9 = .ok (.aload_n 0, 1) := by decide +kernel
theorem dX3_readFlags_10 : decode cX3_readFlags 10 = .ok (.getfield 22, 3) := by decide +kernel
theorem dX3_readFlags_13 : decode cX3_readFlags 13 = .ok (.aload_n 0, 1) := by decide +kernel
theorem dX3_readFlags_14 : decode cX3_readFlags 14 = .ok (.getfield 39, 3) := by decide +kernel
theorem dX3_readFlags_17 : decode cX3_readFlags 17 = .ok (.iaload, 1) := by decide +kernel
theorem dX3_readFlags_18 : decode cX3_readFlags 18 = .ok (.istore_n 3, 1) := by decide +kernel
theorem dX3_readFlags_19 : decode cX3_readFlags 19 = .ok (.iload_n 3, 1) := by decide +kernel
theorem dX3_readFlags_20 : decode cX3_readFlags 20 = .ok (.sipush 1215, 3) := by decide +kernel
theorem dX3_readFlags_23 : decode cX3_readFlags 23 = .ok (.if_icmp .eq 19, 3) := by decide +kernel
theorem dX3_readFlags_26 : decode cX3_readFlags 26 = .ok (.iload_n 3, 1) := by decide +kernel
theorem dX3_readFlags_27 : decode cX3_readFlags 27 = .ok (.sipush 1205, 3) := by decide +kernel
theorem dX3_readFlags_30 : decode cX3_readFlags 30 = .ok (.if_icmp .eq 12, 3) := by decide +kernel
theorem dX3_readFlags_33 : decode cX3_readFlags 33 = .ok (.iload_n 3, 1) := by decide +kernel
theorem dX3_readFlags_34 : decode cX3_readFlags 34 = .ok (.sipush 1206, 3) := by decide +kernel
theorem dX3_readFlags_37 : decode cX3_readFlags 37 = .ok (.if_icmp .eq 5, 3) := by decide +kernel
theorem dX3_readFlags_40 : decode cX3_readFlags 40 = .ok (.iconst 1, 1) := by decide +kernel
theorem dX3_readFlags_41 : decode cX3_readFlags 41 = .ok (.ireturn, 1) := by decide +kernel
theorem dX3_readFlags_42 : decode cX3_readFlags 42 = .ok (.aload_n 0, 1) := by decide +kernel
theorem dX3_readFlags_43 : decode cX3_readFlags 43 = .ok (.invokevirtual 97, 3) := by decide +kernel
theorem dX3_readFlags_46 : decode cX3_readFlags 46 = .ok (.aload_n 0, 1) := by decide +kernel
theorem dX3_readFlags_47 : decode cX3_readFlags 47 = .ok (.iload_n 3, 1) := by decide +kernel
theorem dX3_readFlags_48 : decode cX3_readFlags 48 = .ok (.sipush 1205, 3) := by decide +kernel
theorem dX3_readFlags_51 : decode cX3_readFlags 51 = .ok (.if_icmp .ne 8, 3) := by decide +kernel
theorem dX3_readFlags_54 : decode cX3_readFlags 54 = .ok (.bipush 10, 2) := by decide +kernel
theorem dX3_readFlags_56 : decode cX3_readFlags 56 = .ok (.goto 5, 3) := by decide +kernel
theorem dX3_readFlags_59 : decode cX3_readFlags 59 = .ok (.bipush 9, 2) := by decide +kernel
theorem dX3_readFlags_61 : decode cX3_readFlags 61 = .ok (.invokevirtual 126, 3) := by decide +kernel
theorem dX3_readFlags_64 : decode cX3_readFlags 64 = .ok (.istore 4, 2) := by decide +kernel
theorem dX3_readFlags_66 : decode cX3_readFlags 66 = .ok (.iload 4, 2) := by decide +kernel
theorem dX3_readFlags_68 : decode cX3_readFlags 68 = .ok (.ifCond .ge 5, 3) := by decide +kernel
theorem dX3_readFlags_71 : decode cX3_readFlags 71 = .ok (.iconst 0, 1) := by decide +kernel
theorem dX3_readFlags_72 : decode cX3_readFlags 72 = .ok (.ireturn, 1) := by decide +kernel
theorem dX3_readFlags_73 : decode cX3_readFlags 73 = .ok (.iload_n 3, 1) := by decide +kernel
theorem dX3_readFlags_74 : decode cX3_readFlags 74 = .ok (.sipush 1215, 3) := by decide +kernel
theorem dX3_readFlags_77 : decode cX3_readFlags 77 = .ok (.if_icmp .ne 13, 3) := by decide +kernel
theorem dX3_readFlags_80 : decode cX3_readFlags 80 = .ok (.aload_n 0, 1) := by decide +kernel
theorem dX3_readFlags_81 : decode cX3_readFlags 81 = .ok (.getfield 12, 3) := by decide +kernel
theorem dX3_readFlags_84 : decode cX3_readFlags 84 = .ok (.getfield 135, 3) := by decide +kernel
theorem dX3_readFlags_87 : decode cX3_readFlags 87 = .ok (.goto 27, 3) := by decide +kernel
theorem dX3_readFlags_90 : decode cX3_readFlags 90 = .ok (.iload_n 3, 1) := by decide +kernel
theorem dX3_readFlags_91 : decode cX3_readFlags 91 = .ok (.sipush 1205, 3) := by decide +kernel
theorem dX3_readFlags_94 : decode cX3_readFlags 94 = .ok (.if_icmp .ne 13, 3) := by decide +kernel
theorem dX3_readFlags_97 : decode cX3_readFlags 97 = .ok (.aload_n 0, 1) := by decide +kernel
theorem dX3_readFlags_98 : decode cX3_readFlags 98 = .ok (.getfield 12, 3) := by decide +kernel
theorem dX3_readFlags_101 : decode cX3_readFlags 101 = .ok (.getfield 138, 3) := by decide +kernel
theorem dX3_readFlags_104 : decode cX3_readFlags 104 = .ok (.goto 10, 3) := by decide +kernel
theorem dX3_readFlags_107 : decode cX3_readFlags 107 = .ok (.aload_n 0, 1) := by decide +kernel
theorem dX3_readFlags_108 : decode cX3_readFlags 108 = .ok (.getfield 12, 3) := by decide +kernel
theorem dX3_readFlags_111 : decode cX3_readFlags 111 = .ok (.getfield 141, 3) := by decide +kernel
theorem dX3_readFlags_114 : decode cX3_readFlags 114 = .ok (.astore 5, 2) := by decide +kernel
theorem dX3_readFlags_116 : decode cX3_readFlags 116 = .ok (.aload 5, 2) := by decide +kernel
theorem dX3_readFlags_118 : decode cX3_readFlags 118 = .ok (.iload_n 1, 1) := by decide +kernel
theorem dX3_readFlags_119 : decode cX3_readFlags 119 = .ok (.iload 4, 2) := by decide +kernel
theorem dX3_readFlags_121 : decode cX3_readFlags 121 = .ok (.iastore, 1) := by decide +kernel
theorem dX3_readFlags_122 : decode cX3_readFlags 122 = .ok (.iinc 2 1, 3) := by decide +kernel
theorem dX3_readFlags_125 : decode cX3_readFlags 125 = .ok (.goto (-123), 3) := by decide +kernel
theorem dX3_readFlags_128 : decode cX3_readFlags 128 = .ok (.aload_n 0, 1) := by decide +kernel
theorem dX3_readFlags_129 : decode cX3_readFlags 129 = .ok (.iconst 2, 1) := by decide +kernel
theorem dX3_readFlags_130 : decode cX3_readFlags 130 = .ok (.invokevirtual 94, 3) := by decide +kernel
theorem dX3_readFlags_133 : decode cX3_readFlags 133 = .ok (.ireturn, 1) := by decide +kernel
def f_X3_readFlags_114 (kb_2 : Int32 → Int32 → zS → Option (Int32 × zS)) (v1 : Int32) (v2 : Int32) (v4 : Int32) (w0 : Nat) (s : zS) : Option (Int32 × zS) :=
  (zw_i s w0 v1 v4).bind fun s1 =>
  zb (v2 + (1 : Int32)) fun x2 =>
  kb_2 v1 x2 s1
set_option maxRecDepth 20000 in
theorem b_X3_readFlags_114 {X : zX} {kb_2 : Int32 → Int32 → zS → Option (Int32 × zS)} (hX : zx_ok X cX3_readFlags RX3 6) (hT : zx_rt X (some .boolean) (zR 2 43)) (hk_2 : ∀ (v1 : Int32) (v2 : Int32) (s : zS), zV X (zq X zrI) 6 2 [(0, .ref (zx_ad X 30)), (1, .int v1), (2, .int v2)] [] s (kb_2 v1 v2 s)) : ∀ (v1 : Int32) (v2 : Int32) (v4 : Int32) (w0 : Nat) (s : zS), zV X (zq X zrI) 6 114 [(0, .ref (zx_ad X 30)), (1, .int v1), (2, .int v2), (4, .int v4)] [.ref (zx_ad X w0)] s (f_X3_readFlags_114 kb_2 v1 v2 v4 w0 s) := by
  intro v1 v2 v4 w0 s
  unfold f_X3_readFlags_114
  refine zv_astore (lv' := [(5, .ref (zx_ad X w0)), (0, .ref (zx_ad X 30)), (1, .int v1), (2, .int v2), (4, .int v4)]) hX dX3_readFlags_114 (by decide) rfl ?_
  refine zv_aload hX dX3_readFlags_116 0 rfl ?_
  refine zv_iload_n hX dX3_readFlags_118 2 rfl ?_
  refine zv_iload hX dX3_readFlags_119 4 rfl ?_
  refine zv_iast hX dX3_readFlags_121 (fun s1 => ?_)
  refine zv_iincB (lw := fun x2 => [(2, .int x2), (5, .ref (zx_ad X w0)), (0, .ref (zx_ad X 30)), (1, .int v1), (4, .int v4)]) hX dX3_readFlags_122 3 rfl zi_i_1 (by decide) (fun _ => rfl) (fun x2 => ?_)
  refine zv_goto (tgt := 2) hX dX3_readFlags_125 rfl ?_
  exact zv_sub [2, 3, 0] rfl (hk_2 v1 x2 s1)
def f_X3_readFlags_61 (kb_2 : Int32 → Int32 → zS → Option (Int32 × zS)) (v1 : Int32) (v2 : Int32) (v3 : Int32) (w0 : Int32) (s : zS) : Option (Int32 × zS) :=
  zbd (f_X3_takeNumber w0 s) fun r3 s4 =>
  if 0 ≤ r3 then
  (if ¬ v3 = (nI 1215) then
  (if ¬ v3 = (nI 1205) then
  (f_X3_readFlags_114 kb_2 v1 v2 r3 35 s4)
  else
  f_X3_readFlags_114 kb_2 v1 v2 r3 34 s4)
  else
  f_X3_readFlags_114 kb_2 v1 v2 r3 33 s4)
  else
  some ((0 : Int32), s4)
set_option maxRecDepth 20000 in
theorem b_X3_readFlags_61 {X : zX} {kb_2 : Int32 → Int32 → zS → Option (Int32 × zS)} (hX : zx_ok X cX3_readFlags RX3 6) (hT : zx_rt X (some .boolean) (zR 2 43)) (hk_2 : ∀ (v1 : Int32) (v2 : Int32) (s : zS), zV X (zq X zrI) 6 2 [(0, .ref (zx_ad X 30)), (1, .int v1), (2, .int v2)] [] s (kb_2 v1 v2 s)) : ∀ (v1 : Int32) (v2 : Int32) (v3 : Int32) (w0 : Int32) (s : zS), zV X (zq X zrI) 6 61 [(0, .ref (zx_ad X 30)), (1, .int v1), (2, .int v2), (3, .int v3)] [.int w0, .ref (zx_ad X 30)] s (f_X3_readFlags_61 kb_2 v1 v2 v3 w0 s) := by
  intro v1 v2 v3 w0 s
  unfold f_X3_readFlags_61
  refine zv_cVI [.int w0] (rest := []) hX hT.2.2.2.2 (c_X3_takeNumber (zx_Y X) w0 s) wv_X3_takeNumber c9_3 zd_30 wm_X3_126 rfl (Nat.le_of_ble_eq_true rfl) (Nat.le_of_ble_eq_true rfl) rfl (Nat.le_of_ble_eq_true rfl) dX3_readFlags_61 (fun r3 s4 => ?_)
  refine zv_istore (lv' := [(4, .int r3), (0, .ref (zx_ad X 30)), (1, .int v1), (2, .int v2), (3, .int v3)]) hX dX3_readFlags_64 (by decide) rfl ?_
  refine zv_iload hX dX3_readFlags_66 0 rfl ?_
  refine zv_if_ge (tgt := 73) hX dX3_readFlags_68 rfl ?_ ?_
  · refine zv_iload_n hX dX3_readFlags_73 4 rfl ?_
    refine zv_sipush (v := (nI 1215)) hX dX3_readFlags_74 zi_s_1215 ?_
    refine zv_icmp_ne (tgt := 90) hX dX3_readFlags_77 rfl ?_ ?_
    · refine zv_iload_n hX dX3_readFlags_90 4 rfl ?_
      refine zv_sipush (v := (nI 1205)) hX dX3_readFlags_91 zi_s_1205 ?_
      refine zv_icmp_ne (tgt := 107) hX dX3_readFlags_94 rfl ?_ ?_
      · refine zv_aload_n hX dX3_readFlags_107 1 rfl ?_
        refine zv_geta hX wf_X3_12 wc_3 zd_30 zj_30_0 c9_3 zr_30_0 (by decide) dX3_readFlags_108 ?_
        refine zv_geta hX wf_X3_141 wc_5 zd_31 zj_31_5 c9_5 zr_31_5 (by decide) dX3_readFlags_111 ?_
        exact zv_sub [1, 2, 3, 0] rfl (b_X3_readFlags_114 hX hT hk_2 v1 v2 r3 35 s4)
      · refine zv_aload_n hX dX3_readFlags_97 1 rfl ?_
        refine zv_geta hX wf_X3_12 wc_3 zd_30 zj_30_0 c9_3 zr_30_0 (by decide) dX3_readFlags_98 ?_
        refine zv_geta hX wf_X3_138 wc_5 zd_31 zj_31_4 c9_5 zr_31_4 (by decide) dX3_readFlags_101 ?_
        refine zv_goto (tgt := 114) hX dX3_readFlags_104 rfl ?_
        exact zv_sub [1, 2, 3, 0] rfl (b_X3_readFlags_114 hX hT hk_2 v1 v2 r3 34 s4)
    · refine zv_aload_n hX dX3_readFlags_80 1 rfl ?_
      refine zv_geta hX wf_X3_12 wc_3 zd_30 zj_30_0 c9_3 zr_30_0 (by decide) dX3_readFlags_81 ?_
      refine zv_geta hX wf_X3_135 wc_5 zd_31 zj_31_3 c9_5 zr_31_3 (by decide) dX3_readFlags_84 ?_
      refine zv_goto (tgt := 114) hX dX3_readFlags_87 rfl ?_
      exact zv_sub [1, 2, 3, 0] rfl (b_X3_readFlags_114 hX hT hk_2 v1 v2 r3 33 s4)
  · refine zv_iconst (v := (0 : Int32)) hX dX3_readFlags_71 zi_i_0 ?_
    exact zv_iretz hX hT (by decide) dX3_readFlags_72
def f_X3_readFlags_42 (kb_2 : Int32 → Int32 → zS → Option (Int32 × zS)) (v1 : Int32) (v2 : Int32) (v3 : Int32) (s : zS) : Option (Int32 × zS) :=
  zbd (f_X3_step s) fun _ s5 =>
  if ¬ v3 = (nI 1205) then
  (f_X3_readFlags_61 kb_2 v1 v2 v3 (nI 9) s5)
  else
  f_X3_readFlags_61 kb_2 v1 v2 v3 (nI 10) s5
set_option maxRecDepth 20000 in
theorem b_X3_readFlags_42 {X : zX} {kb_2 : Int32 → Int32 → zS → Option (Int32 × zS)} (hX : zx_ok X cX3_readFlags RX3 6) (hT : zx_rt X (some .boolean) (zR 2 43)) (hk_2 : ∀ (v1 : Int32) (v2 : Int32) (s : zS), zV X (zq X zrI) 6 2 [(0, .ref (zx_ad X 30)), (1, .int v1), (2, .int v2)] [] s (kb_2 v1 v2 s)) : ∀ (v1 : Int32) (v2 : Int32) (v3 : Int32) (s : zS), zV X (zq X zrI) 6 42 [(0, .ref (zx_ad X 30)), (1, .int v1), (2, .int v2), (3, .int v3)] [] s (f_X3_readFlags_42 kb_2 v1 v2 v3 s) := by
  intro v1 v2 v3 s
  unfold f_X3_readFlags_42
  refine zv_aload_n hX dX3_readFlags_42 0 rfl ?_
  refine zv_cVV [] (rest := []) hX hT.2.2.2.2 (c_X3_step (zx_Y X) s) wv_X3_step c9_3 zd_30 wm_X3_97 rfl (Nat.le_of_ble_eq_true rfl) (Nat.le_of_ble_eq_true rfl) rfl (Nat.le_of_ble_eq_true rfl) dX3_readFlags_43 (fun _ s5 => ?_)
  refine zv_aload_n hX dX3_readFlags_46 0 rfl ?_
  refine zv_iload_n hX dX3_readFlags_47 3 rfl ?_
  refine zv_sipush (v := (nI 1205)) hX dX3_readFlags_48 zi_s_1205 ?_
  refine zv_icmp_ne (tgt := 59) hX dX3_readFlags_51 rfl ?_ ?_
  · refine zv_bipush (v := (nI 9)) hX dX3_readFlags_59 zi_b_9 ?_
    exact b_X3_readFlags_61 hX hT hk_2 v1 v2 v3 (nI 9) s5
  · refine zv_bipush (v := (nI 10)) hX dX3_readFlags_54 zi_b_10 ?_
    refine zv_goto (tgt := 61) hX dX3_readFlags_56 rfl ?_
    exact b_X3_readFlags_61 hX hT hk_2 v1 v2 v3 (nI 10) s5
def f_X3_readFlags_2 : Nat → Int32 → Int32 → zS → Option (Int32 × zS)
  | 0, _, _, _ => none
  | n + 1, v1, v2, s =>
    if (nI 900) ≤ v2 then
    (zbd (f_X3_refuse (nI 2) s) fun r6 s7 =>
    if r6 = 0 ∨ r6 = 1 then some (r6, s7) else none)
    else
    (zr_i s 40 (s.1 30 5)).bind fun x8 =>
    if x8 = (nI 1215) then
    (f_X3_readFlags_42 (f_X3_readFlags_2 n) v1 v2 x8 s)
    else
    if x8 = (nI 1205) then
    (f_X3_readFlags_42 (f_X3_readFlags_2 n) v1 v2 x8 s)
    else
    if x8 = (nI 1206) then
    (f_X3_readFlags_42 (f_X3_readFlags_2 n) v1 v2 x8 s)
    else
    some ((1 : Int32), s)
set_option maxRecDepth 20000 in
theorem b_X3_readFlags_2 {X : zX} (hX : zx_ok X cX3_readFlags RX3 6) (hT : zx_rt X (some .boolean) (zR 2 43)) : ∀ (n : Nat) (v1 : Int32) (v2 : Int32) (s : zS), zV X (zq X zrI) 6 2 [(0, .ref (zx_ad X 30)), (1, .int v1), (2, .int v2)] [] s (f_X3_readFlags_2 n v1 v2 s) := by
  intro n
  induction n with
  | zero => intro v1 v2 s; exact zv_none
  | succ n ih =>
    intro v1 v2 s
    rw [f_X3_readFlags_2]
    refine zv_iload_n hX dX3_readFlags_2 2 rfl ?_
    refine zv_sipush (v := (nI 900)) hX dX3_readFlags_3 zi_s_900 ?_
    refine zv_icmp_ge (tgt := 128) hX dX3_readFlags_6 rfl ?_ ?_
    · refine zv_aload_n hX dX3_readFlags_128 0 rfl ?_
      refine zv_iconst (v := (nI 2)) hX dX3_readFlags_129 zi_i_2 ?_
      refine zv_cVI [.int (nI 2)] (rest := []) hX hT.2.2.2.2 (c_X3_refuse (zx_Y X) (nI 2) s) wv_X3_refuse c9_3 zd_30 wm_X3_94 rfl (Nat.le_of_ble_eq_true rfl) (Nat.le_of_ble_eq_true rfl) rfl (Nat.le_of_ble_eq_true rfl) dX3_readFlags_130 (fun r6 s7 => ?_)
      exact zv_iretzB hX hT dX3_readFlags_133
    · refine zv_aload_n hX dX3_readFlags_9 0 rfl ?_
      refine zv_geta hX wf_X3_22 wc_3 zd_30 zj_30_3 c9_3 zr_30_3 (by decide) dX3_readFlags_10 ?_
      refine zv_aload_n hX dX3_readFlags_13 0 rfl ?_
      refine zv_geti hX wf_X3_39 wc_3 zd_30 zj_30_5 c9_3 zr_30_5 dX3_readFlags_14 ?_
      refine zv_iald hX dX3_readFlags_17 (fun x8 => ?_)
      refine zv_istore_n (lv' := [(3, .int x8), (0, .ref (zx_ad X 30)), (1, .int v1), (2, .int v2)]) hX dX3_readFlags_18 (by decide) rfl ?_
      refine zv_iload_n hX dX3_readFlags_19 0 rfl ?_
      refine zv_sipush (v := (nI 1215)) hX dX3_readFlags_20 zi_s_1215 ?_
      refine zv_icmp_eq (tgt := 42) hX dX3_readFlags_23 rfl ?_ ?_
      · exact zv_sub [1, 2, 3, 0] rfl (b_X3_readFlags_42 hX hT ih v1 v2 x8 s)
      · refine zv_iload_n hX dX3_readFlags_26 0 rfl ?_
        refine zv_sipush (v := (nI 1205)) hX dX3_readFlags_27 zi_s_1205 ?_
        refine zv_icmp_eq (tgt := 42) hX dX3_readFlags_30 rfl ?_ ?_
        · exact zv_sub [1, 2, 3, 0] rfl (b_X3_readFlags_42 hX hT ih v1 v2 x8 s)
        · refine zv_iload_n hX dX3_readFlags_33 0 rfl ?_
          refine zv_sipush (v := (nI 1206)) hX dX3_readFlags_34 zi_s_1206 ?_
          refine zv_icmp_eq (tgt := 42) hX dX3_readFlags_37 rfl ?_ ?_
          · exact zv_sub [1, 2, 3, 0] rfl (b_X3_readFlags_42 hX hT ih v1 v2 x8 s)
          · refine zv_iconst (v := (1 : Int32)) hX dX3_readFlags_40 zi_i_1 ?_
            exact zv_iretz hX hT (by decide) dX3_readFlags_41
def f_X3_readFlags (v1 : Int32) (s : zS) : Option (Int32 × zS) :=
  f_X3_readFlags_2 zFU v1 (0 : Int32) s
set_option maxRecDepth 20000 in
theorem c_X3_readFlags (Y : zG) (v1 : Int32) (s : zS) : zM Y yX3_readFlags cX3_readFlags 6 (some .boolean) (zR 2 43) [.ref (zy_a Y 30), .int v1] s zrI (f_X3_readFlags v1 s) := by
  refine zm_start (by decide +kernel) (Nat.le_of_ble_eq_true rfl) ?_
  intro X hY hT hX
  subst hY
  have hX : zx_ok X cX3_readFlags RX3 6 := hX
  show zV X (zq X zrI) 6 0 [(0, .ref (zx_ad X 30)), (1, .int v1)] [] s _
  unfold f_X3_readFlags
  refine zv_iconst (v := (0 : Int32)) hX dX3_readFlags_0 zi_i_0 ?_
  refine zv_istore_n (lv' := [(2, .int (0 : Int32)), (0, .ref (zx_ad X 30)), (1, .int v1)]) hX dX3_readFlags_1 (by decide) rfl ?_
  exact zv_sub [1, 2, 0] rfl (b_X3_readFlags_2 hX hT zFU v1 (0 : Int32) s)
theorem dX3_readPerson_0 : decode cX3_readPerson 0 = .ok (.iconst 0, 1) := by decide +kernel
theorem dX3_readPerson_1 : decode cX3_readPerson 1 = .ok (.istore_n 2, 1) := by decide +kernel
theorem dX3_readPerson_2 : decode cX3_readPerson 2 = .ok (.iconst 0, 1) := by decide +kernel
theorem dX3_readPerson_3 : decode cX3_readPerson 3 = .ok (.istore_n 3, 1) := by decide +kernel
theorem dX3_readPerson_4 : decode cX3_readPerson 4 = .ok (.iload_n 3, 1) := by decide +kernel
theorem dX3_readPerson_5 : decode cX3_readPerson 5 = .ok (.iconst 3, 1) := by decide +kernel
theorem dX3_readPerson_6 : decode cX3_readPerson 6 = .ok (.if_icmp .ge 44, 3) := by decide +kernel
theorem dX3_readPerson_9 : decode cX3_readPerson 9 = .ok (.aload_n 0, 1) := by decide +kernel
theorem dX3_readPerson_10 : decode cX3_readPerson 10 = .ok (.bipush 7, 2) := by decide +kernel
theorem dX3_readPerson_12 : decode cX3_readPerson 12 = .ok (.invokevirtual 126, 3) := by decide +kernel
theorem dX3_readPerson_15 : decode cX3_readPerson 15 = .ok (.istore 4, 2) := by decide +kernel
theorem dX3_readPerson_17 : decode cX3_readPerson 17 = .ok (.iload 4, 2) := by decide +kernel
theorem dX3_readPerson_19 : decode cX3_readPerson 19 = .ok (.ifCond .lt 10, 3) := by decide +kernel
theorem dX3_readPerson_22 : decode cX3_readPerson 22 = .ok (.iload 4, 2) := by decide +kernel
theorem dX3_readPerson_24 : decode cX3_readPerson 24 = .ok (.bipush 7, 2) := by decide +kernel
theorem dX3_readPerson_26 : decode cX3_readPerson 26 = .ok (.if_icmp .le 5, 3) := by decide +kernel
theorem dX3_readPerson_29 : decode cX3_readPerson 29 = .ok (.iconst 0, 1) := by decide +kernel
theorem dX3_readPerson_30 : decode cX3_readPerson 30 = .ok (.ireturn, 1) := by decide +kernel
theorem dX3_readPerson_31 : decode cX3_readPerson 31 = .ok (.iload_n 2, 1) := by decide +kernel
theorem dX3_readPerson_32 : decode cX3_readPerson 32 = .ok (.getstatic 129, 3) := by decide +kernel
theorem dX3_readPerson_35 : decode cX3_readPerson 35 = .ok (.iload 4, 2) := by decide +kernel
theorem dX3_readPerson_37 : decode cX3_readPerson 37 = .ok (.iaload, 1) := by decide +kernel
theorem dX3_readPerson_38 : decode cX3_readPerson 38 = .ok (.iconst 3, 1) := by decide +kernel
theorem dX3_readPerson_39 : decode cX3_readPerson 39 = .ok (.iload_n 3, 1) := by decide +kernel
theorem dX3_readPerson_40 : decode cX3_readPerson 40 = .ok (.imul, 1) := by decide +kernel
theorem dX3_readPerson_41 : decode cX3_readPerson 41 = .ok (.ishl, 1) := by decide +kernel
theorem dX3_readPerson_42 : decode cX3_readPerson 42 = .ok (.ior, 1) := by decide +kernel
theorem dX3_readPerson_43 : decode cX3_readPerson 43 = .ok (.istore_n 2, 1) := by decide +kernel
theorem dX3_readPerson_44 : decode cX3_readPerson 44 = .ok (.iinc 3 1, 3) := by decide +kernel
theorem dX3_readPerson_47 : decode cX3_readPerson 47 = .ok (.goto (-43), 3) := by decide +kernel
theorem dX3_readPerson_50 : decode cX3_readPerson 50 = .ok (.iload_n 1, 1) := by decide +kernel
theorem dX3_readPerson_51 : decode cX3_readPerson 51 = .ok (.bipush 7, 2) := by decide +kernel
theorem dX3_readPerson_53 : decode cX3_readPerson 53 = .ok (.if_icmp .lt 5, 3) := by decide +kernel
theorem dX3_readPerson_56 : decode cX3_readPerson 56 = .ok (.iconst 0, 1) := by decide +kernel
theorem dX3_readPerson_57 : decode cX3_readPerson 57 = .ok (.ireturn, 1) := by decide +kernel
theorem dX3_readPerson_58 : decode cX3_readPerson 58 = .ok (.aload_n 0, 1) := by decide +kernel
theorem dX3_readPerson_59 : decode cX3_readPerson 59 = .ok (.getfield 12, 3) := by decide +kernel
theorem dX3_readPerson_62 : decode cX3_readPerson 62 = .ok (.getfield 132, 3) := by decide +kernel
theorem dX3_readPerson_65 : decode cX3_readPerson 65 = .ok (.iload_n 1, 1) := by decide +kernel
theorem dX3_readPerson_66 : decode cX3_readPerson 66 = .ok (.iload_n 2, 1) := by decide +kernel
theorem dX3_readPerson_67 : decode cX3_readPerson 67 = .ok (.iastore, 1) := by decide +kernel
theorem dX3_readPerson_68 : decode cX3_readPerson 68 = .ok (.aload_n 0, 1) := by decide +kernel
theorem dX3_readPerson_69 : decode cX3_readPerson 69 = .ok (.getfield 12, 3) := by decide +kernel
theorem dX3_readPerson_72 : decode cX3_readPerson 72 = .ok (.getfield 135, 3) := by decide +kernel
theorem dX3_readPerson_75 : decode cX3_readPerson 75 = .ok (.iload_n 1, 1) := by decide +kernel
theorem dX3_readPerson_76 : decode cX3_readPerson 76 = .ok (.iconst 0, 1) := by decide +kernel
theorem dX3_readPerson_77 : decode cX3_readPerson 77 = .ok (.iastore, 1) := by decide +kernel
theorem dX3_readPerson_78 : decode cX3_readPerson 78 = .ok (.aload_n 0, 1) := by decide +kernel
theorem dX3_readPerson_79 : decode cX3_readPerson 79 = .ok (.getfield 12, 3) := by decide +kernel
theorem dX3_readPerson_82 : decode cX3_readPerson 82 = .ok (.getfield 138, 3) := by decide +kernel
theorem dX3_readPerson_85 : decode cX3_readPerson 85 = .ok (.iload_n 1, 1) := by decide +kernel
theorem dX3_readPerson_86 : decode cX3_readPerson 86 = .ok (.iconst 0, 1) := by decide +kernel
theorem dX3_readPerson_87 : decode cX3_readPerson 87 = .ok (.iastore, 1) := by decide +kernel
theorem dX3_readPerson_88 : decode cX3_readPerson 88 = .ok (.aload_n 0, 1) := by decide +kernel
theorem dX3_readPerson_89 : decode cX3_readPerson 89 = .ok (.getfield 12, 3) := by decide +kernel
theorem dX3_readPerson_92 : decode cX3_readPerson 92 = .ok (.getfield 141, 3) := by decide +kernel
theorem dX3_readPerson_95 : decode cX3_readPerson 95 = .ok (.iload_n 1, 1) := by decide +kernel
theorem dX3_readPerson_96 : decode cX3_readPerson 96 = .ok (.iconst 1, 1) := by decide +kernel
theorem dX3_readPerson_97 : decode cX3_readPerson 97 = .ok (.iastore, 1) := by decide +kernel
theorem dX3_readPerson_98 : decode cX3_readPerson 98 = .ok (.aload_n 0, 1) := by decide +kernel
theorem dX3_readPerson_99 : decode cX3_readPerson 99 = .ok (.getfield 12, 3) := by decide +kernel
theorem dX3_readPerson_102 : decode cX3_readPerson 102 = .ok (.iload_n 1, 1) := by decide +kernel
theorem dX3_readPerson_103 : decode cX3_readPerson 103 = .ok (.iconst 1, 1) := by decide +kernel
theorem dX3_readPerson_104 : decode cX3_readPerson 104 = .ok (.iadd, 1) := by decide +kernel
theorem dX3_readPerson_105 : decode cX3_readPerson 105 = .ok (.putfield 100, 3) := by decide +kernel
theorem dX3_readPerson_108 : decode cX3_readPerson 108 = .ok (.aload_n 0, 1) := by decide +kernel
theorem dX3_readPerson_109 : decode cX3_readPerson 109 = .ok (.iload_n 1, 1) := by decide +kernel
theorem dX3_readPerson_110 : decode cX3_readPerson 110 = .ok (.invokevirtual 144, 3) := by decide +kernel
theorem dX3_readPerson_113 : decode cX3_readPerson 113 = .ok (.ireturn, 1) := by decide +kernel
def f_X3_readPerson_29  (s : zS) : Option (Int32 × zS) :=
  some ((0 : Int32), s)
set_option maxRecDepth 20000 in
theorem b_X3_readPerson_29 {X : zX} (hX : zx_ok X cX3_readPerson RX3 5) (hT : zx_rt X (some .boolean) (zR 3 68)) : ∀  (s : zS), zV X (zq X zrI) 5 29 [] [] s (f_X3_readPerson_29  s) := by
  intro  s
  unfold f_X3_readPerson_29
  refine zv_iconst (v := (0 : Int32)) hX dX3_readPerson_29 zi_i_0 ?_
  exact zv_iretz hX hT (by decide) dX3_readPerson_30
def f_X3_readPerson_4 : Nat → Int32 → Int32 → Int32 → zS → Option (Int32 × zS)
  | 0, _, _, _, _ => none
  | n + 1, v1, v2, v3, s =>
    if (nI 3) ≤ v3 then
    (if v1 < (nI 7) then
    ((zw_i s 32 v1 v2).bind fun s1 =>
    (zw_i s1 33 v1 (0 : Int32)).bind fun s2 =>
    (zw_i s2 34 v1 (0 : Int32)).bind fun s3 =>
    (zw_i s3 35 v1 (1 : Int32)).bind fun s4 =>
    zb (zs_i s4 31 0 (v1 + (1 : Int32))) fun s5 =>
    zbd (f_X3_readFlags v1 s5) fun r6 s7 =>
    if r6 = 0 ∨ r6 = 1 then some (r6, s7) else none)
    else
    some ((0 : Int32), s))
    else
    zbd (f_X3_takeNumber (nI 7) s) fun r8 s9 =>
    if r8 < 0 then
    (f_X3_readPerson_29 s9)
    else
    if r8 ≤ (nI 7) then
    ((zr_t 0 r8).bind fun x10 =>
    zb (v2 ||| (zo_shl x10 ((nI 3) * v3))) fun x11 =>
    zb (v3 + (1 : Int32)) fun x12 =>
    f_X3_readPerson_4 n v1 x11 x12 s9)
    else
    f_X3_readPerson_29 s9
set_option maxRecDepth 20000 in
theorem b_X3_readPerson_4 {X : zX} (hX : zx_ok X cX3_readPerson RX3 5) (hT : zx_rt X (some .boolean) (zR 3 68)) : ∀ (n : Nat) (v1 : Int32) (v2 : Int32) (v3 : Int32) (s : zS), zV X (zq X zrI) 5 4 [(0, .ref (zx_ad X 30)), (1, .int v1), (2, .int v2), (3, .int v3)] [] s (f_X3_readPerson_4 n v1 v2 v3 s) := by
  intro n
  induction n with
  | zero => intro v1 v2 v3 s; exact zv_none
  | succ n ih =>
    intro v1 v2 v3 s
    rw [f_X3_readPerson_4]
    refine zv_iload_n hX dX3_readPerson_4 3 rfl ?_
    refine zv_iconst (v := (nI 3)) hX dX3_readPerson_5 zi_i_3 ?_
    refine zv_icmp_ge (tgt := 50) hX dX3_readPerson_6 rfl ?_ ?_
    · refine zv_iload_n hX dX3_readPerson_50 1 rfl ?_
      refine zv_bipush (v := (nI 7)) hX dX3_readPerson_51 zi_b_7 ?_
      refine zv_icmp_lt (tgt := 58) hX dX3_readPerson_53 rfl ?_ ?_
      · refine zv_aload_n hX dX3_readPerson_58 0 rfl ?_
        refine zv_geta hX wf_X3_12 wc_3 zd_30 zj_30_0 c9_3 zr_30_0 (by decide) dX3_readPerson_59 ?_
        refine zv_geta hX wf_X3_132 wc_5 zd_31 zj_31_2 c9_5 zr_31_2 (by decide) dX3_readPerson_62 ?_
        refine zv_iload_n hX dX3_readPerson_65 1 rfl ?_
        refine zv_iload_n hX dX3_readPerson_66 2 rfl ?_
        refine zv_iast hX dX3_readPerson_67 (fun s1 => ?_)
        refine zv_aload_n hX dX3_readPerson_68 0 rfl ?_
        refine zv_geta hX wf_X3_12 wc_3 zd_30 zj_30_0 c9_3 zr_30_0 (by decide) dX3_readPerson_69 ?_
        refine zv_geta hX wf_X3_135 wc_5 zd_31 zj_31_3 c9_5 zr_31_3 (by decide) dX3_readPerson_72 ?_
        refine zv_iload_n hX dX3_readPerson_75 1 rfl ?_
        refine zv_iconst (v := (0 : Int32)) hX dX3_readPerson_76 zi_i_0 ?_
        refine zv_iast hX dX3_readPerson_77 (fun s2 => ?_)
        refine zv_aload_n hX dX3_readPerson_78 0 rfl ?_
        refine zv_geta hX wf_X3_12 wc_3 zd_30 zj_30_0 c9_3 zr_30_0 (by decide) dX3_readPerson_79 ?_
        refine zv_geta hX wf_X3_138 wc_5 zd_31 zj_31_4 c9_5 zr_31_4 (by decide) dX3_readPerson_82 ?_
        refine zv_iload_n hX dX3_readPerson_85 1 rfl ?_
        refine zv_iconst (v := (0 : Int32)) hX dX3_readPerson_86 zi_i_0 ?_
        refine zv_iast hX dX3_readPerson_87 (fun s3 => ?_)
        refine zv_aload_n hX dX3_readPerson_88 0 rfl ?_
        refine zv_geta hX wf_X3_12 wc_3 zd_30 zj_30_0 c9_3 zr_30_0 (by decide) dX3_readPerson_89 ?_
        refine zv_geta hX wf_X3_141 wc_5 zd_31 zj_31_5 c9_5 zr_31_5 (by decide) dX3_readPerson_92 ?_
        refine zv_iload_n hX dX3_readPerson_95 1 rfl ?_
        refine zv_iconst (v := (1 : Int32)) hX dX3_readPerson_96 zi_i_1 ?_
        refine zv_iast hX dX3_readPerson_97 (fun s4 => ?_)
        refine zv_aload_n hX dX3_readPerson_98 0 rfl ?_
        refine zv_geta hX wf_X3_12 wc_3 zd_30 zj_30_0 c9_3 zr_30_0 (by decide) dX3_readPerson_99 ?_
        refine zv_iload_n hX dX3_readPerson_102 1 rfl ?_
        refine zv_iconst (v := (1 : Int32)) hX dX3_readPerson_103 zi_i_1 ?_
        refine zv_iadd hX dX3_readPerson_104 ?_
        refine zv_puti hX wf_X3_100 wc_5 wk_5_0 zd_31 zj_31_0 c9_5 zr_31_0 dX3_readPerson_105 (fun s5 => ?_)
        refine zv_aload_n hX dX3_readPerson_108 0 rfl ?_
        refine zv_iload_n hX dX3_readPerson_109 1 rfl ?_
        refine zv_cVI [.int v1] (rest := []) hX hT.2.2.2.2 (c_X3_readFlags (zx_Y X) v1 s5) wv_X3_readFlags c9_3 zd_30 wm_X3_144 rfl (Nat.le_of_ble_eq_true rfl) (Nat.le_of_ble_eq_true rfl) rfl (Nat.le_of_ble_eq_true rfl) dX3_readPerson_110 (fun r6 s7 => ?_)
        exact zv_iretzB hX hT dX3_readPerson_113
      · refine zv_iconst (v := (0 : Int32)) hX dX3_readPerson_56 zi_i_0 ?_
        exact zv_iretz hX hT (by decide) dX3_readPerson_57
    · refine zv_aload_n hX dX3_readPerson_9 0 rfl ?_
      refine zv_bipush (v := (nI 7)) hX dX3_readPerson_10 zi_b_7 ?_
      refine zv_cVI [.int (nI 7)] (rest := []) hX hT.2.2.2.2 (c_X3_takeNumber (zx_Y X) (nI 7) s) wv_X3_takeNumber c9_3 zd_30 wm_X3_126 rfl (Nat.le_of_ble_eq_true rfl) (Nat.le_of_ble_eq_true rfl) rfl (Nat.le_of_ble_eq_true rfl) dX3_readPerson_12 (fun r8 s9 => ?_)
      refine zv_istore (lv' := [(4, .int r8), (0, .ref (zx_ad X 30)), (1, .int v1), (2, .int v2), (3, .int v3)]) hX dX3_readPerson_15 (by decide) rfl ?_
      refine zv_iload hX dX3_readPerson_17 0 rfl ?_
      refine zv_if_lt (tgt := 29) hX dX3_readPerson_19 rfl ?_ ?_
      · exact zv_sub [] rfl (b_X3_readPerson_29 hX hT  s9)
      · refine zv_iload hX dX3_readPerson_22 0 rfl ?_
        refine zv_bipush (v := (nI 7)) hX dX3_readPerson_24 zi_b_7 ?_
        refine zv_icmp_le (tgt := 31) hX dX3_readPerson_26 rfl ?_ ?_
        · refine zv_iload_n hX dX3_readPerson_31 3 rfl ?_
          refine zv_gsR hX dX3_readPerson_32 ?_
          refine zv_iload hX dX3_readPerson_35 0 rfl ?_
          refine zv_taldR hX dX3_readPerson_37 (fun x10 => ?_)
          refine zv_iconst (v := (nI 3)) hX dX3_readPerson_38 zi_i_3 ?_
          refine zv_iload_n hX dX3_readPerson_39 4 rfl ?_
          refine zv_imul hX dX3_readPerson_40 ?_
          refine zv_ishl hX dX3_readPerson_41 ?_
          refine zv_ior hX dX3_readPerson_42 ?_
          refine zv_istB_n (lw := fun x11 => [(2, .int x11), (4, .int r8), (0, .ref (zx_ad X 30)), (1, .int v1), (3, .int v3)]) hX dX3_readPerson_43 (by decide) (fun _ => rfl) (fun x11 => ?_)
          refine zv_iincB (lw := fun x12 => [(3, .int x12), (2, .int x11), (4, .int r8), (0, .ref (zx_ad X 30)), (1, .int v1)]) hX dX3_readPerson_44 4 rfl zi_i_1 (by decide) (fun _ => rfl) (fun x12 => ?_)
          refine zv_goto (tgt := 4) hX dX3_readPerson_47 rfl ?_
          exact zv_sub [3, 4, 1, 0] rfl (ih v1 x11 x12 s9)
        · exact zv_sub [] rfl (b_X3_readPerson_29 hX hT  s9)
def f_X3_readPerson (v1 : Int32) (s : zS) : Option (Int32 × zS) :=
  f_X3_readPerson_4 zFU v1 (0 : Int32) (0 : Int32) s
set_option maxRecDepth 20000 in
theorem c_X3_readPerson (Y : zG) (v1 : Int32) (s : zS) : zM Y yX3_readPerson cX3_readPerson 5 (some .boolean) (zR 3 68) [.ref (zy_a Y 30), .int v1] s zrI (f_X3_readPerson v1 s) := by
  refine zm_start (by decide +kernel) (Nat.le_of_ble_eq_true rfl) ?_
  intro X hY hT hX
  subst hY
  have hX : zx_ok X cX3_readPerson RX3 5 := hX
  show zV X (zq X zrI) 5 0 [(0, .ref (zx_ad X 30)), (1, .int v1)] [] s _
  unfold f_X3_readPerson
  refine zv_iconst (v := (0 : Int32)) hX dX3_readPerson_0 zi_i_0 ?_
  refine zv_istore_n (lv' := [(2, .int (0 : Int32)), (0, .ref (zx_ad X 30)), (1, .int v1)]) hX dX3_readPerson_1 (by decide) rfl ?_
  refine zv_iconst (v := (0 : Int32)) hX dX3_readPerson_2 zi_i_0 ?_
  refine zv_istore_n (lv' := [(3, .int (0 : Int32)), (2, .int (0 : Int32)), (0, .ref (zx_ad X 30)), (1, .int v1)]) hX dX3_readPerson_3 (by decide) rfl ?_
  exact zv_sub [2, 3, 1, 0] rfl (b_X3_readPerson_4 hX hT zFU v1 (0 : Int32) (0 : Int32) s)
theorem dX3_readLine_0 : decode cX3_readLine 0 = .ok (.aload_n 0, 1) := by decide +kernel
theorem dX3_readLine_1 : decode cX3_readLine 1 = .ok (.getfield 22, 3) := by decide +kernel
theorem dX3_readLine_4 : decode cX3_readLine 4 = .ok (.aload_n 0, 1) := by decide +kernel
theorem dX3_readLine_5 : decode cX3_readLine 5 = .ok (.getfield 39, 3) := by decide +kernel
theorem dX3_readLine_8 : decode cX3_readLine 8 = .ok (.iaload, 1) := by decide +kernel
theorem dX3_readLine_9 : decode cX3_readLine 9 = .ok (.istore_n 1, 1) := by decide +kernel
theorem dX3_readLine_10 : decode cX3_readLine 10 = .ok (.iload_n 1, 1) := by decide +kernel
theorem dX3_readLine_11 : decode cX3_readLine 11 = .ok (.sipush 1201, 3) := by decide +kernel
theorem dX3_readLine_14 : decode cX3_readLine 14 = .ok (.if_icmp .ne 21, 3) := by decide +kernel
theorem dX3_readLine_17 : decode cX3_readLine 17 = .ok (.aload_n 0, 1) := by decide +kernel
theorem dX3_readLine_18 : decode cX3_readLine 18 = .ok (.getfield 12, 3) := by decide +kernel
theorem dX3_readLine_21 : decode cX3_readLine 21 = .ok (.getfield 100, 3) := by decide +kernel
theorem dX3_readLine_24 : decode cX3_readLine 24 = .ok (.bipush 7, 2) := by decide +kernel
theorem dX3_readLine_26 : decode cX3_readLine 26 = .ok (.if_icmp .lt 9, 3) := by decide +kernel
theorem dX3_readLine_29 : decode cX3_readLine 29 = .ok (.aload_n 0, 1) := by decide +kernel
theorem dX3_readLine_30 : decode cX3_readLine 30 = .ok (.iconst 4, 1) := by decide +kernel
theorem dX3_readLine_31 : decode cX3_readLine 31 = .ok (.invokevirtual 94, 3) := by decide +kernel
theorem dX3_readLine_34 : decode cX3_readLine 34 = .ok (.ireturn, 1) := by decide +kernel
theorem dX3_readLine_35 : decode cX3_readLine 35 = .ok (.iload_n 1, 1) := by decide +kernel
theorem dX3_readLine_36 : decode cX3_readLine 36 = .ok (.sipush 1201, 3) := by decide +kernel
theorem dX3_readLine_39 : decode cX3_readLine 39 = .ok (.if_icmp .eq 30, 3) := by decide +kernel
theorem dX3_readLine_42 : decode cX3_readLine 42 = .ok (.iload_n 1, 1) := by decide +kernel
theorem dX3_readLine_43 : decode cX3_readLine 43 = .ok (.sipush 1202, 3) := by decide +kernel
theorem dX3_readLine_46 : decode cX3_readLine 46 = .ok (.if_icmp .eq 23, 3) := by decide +kernel
theorem dX3_readLine_49 : decode cX3_readLine 49 = .ok (.iload_n 1, 1) := by decide +kernel
theorem dX3_readLine_50 : decode cX3_readLine 50 = .ok (.sipush 1203, 3) := by decide +kernel
theorem dX3_readLine_53 : decode cX3_readLine 53 = .ok (.if_icmp .eq 16, 3) := by decide +kernel
theorem dX3_readLine_56 : decode cX3_readLine 56 = .ok (.iload_n 1, 1) := by decide +kernel
theorem dX3_readLine_57 : decode cX3_readLine 57 = .ok (.sipush 1204, 3) := by decide +kernel
theorem dX3_readLine_60 : decode cX3_readLine 60 = .ok (.if_icmp .eq 9, 3) := by decide +kernel
theorem dX3_readLine_63 : decode cX3_readLine 63 = .ok (.aload_n 0, 1) := by decide +kernel
theorem dX3_readLine_64 : decode cX3_readLine 64 = .ok (.iconst 2, 1) := by decide +kernel
theorem dX3_readLine_65 : decode cX3_readLine 65 = .ok (.invokevirtual 94, 3) := by decide +kernel
theorem dX3_readLine_68 : decode cX3_readLine 68 = .ok (.ireturn, 1) := by decide +kernel
theorem dX3_readLine_69 : decode cX3_readLine 69 = .ok (.aload_n 0, 1) := by decide +kernel
theorem dX3_readLine_70 : decode cX3_readLine 70 = .ok (.invokevirtual 97, 3) := by decide +kernel
theorem dX3_readLine_73 : decode cX3_readLine 73 = .ok (.iload_n 1, 1) := by decide +kernel
theorem dX3_readLine_74 : decode cX3_readLine 74 = .ok (.sipush 1201, 3) := by decide +kernel
theorem dX3_readLine_77 : decode cX3_readLine 77 = .ok (.if_icmp .ne 15, 3) := by decide +kernel
theorem dX3_readLine_80 : decode cX3_readLine 80 = .ok (.aload_n 0, 1) := by decide +kernel
theorem dX3_readLine_81 : decode cX3_readLine 81 = .ok (.aload_n 0, 1) := by decide +kernel
theorem dX3_readLine_82 : decode cX3_readLine 82 = .ok (.getfield 12, 3) := by decide +kernel
theorem dX3_readLine_85 : decode cX3_readLine 85 = .ok (.getfield 100, 3) := by decide +kernel
theorem dX3_readLine_88 : decode cX3_readLine 88 = .ok (.invokevirtual 103, 3) := by decide +kernel
theorem dX3_readLine_91 : decode cX3_readLine 91 = .ok (.ireturn, 1) := by decide +kernel
theorem dX3_readLine_92 : decode cX3_readLine 92 = .ok (.iload_n 1, 1) := by decide +kernel
theorem dX3_readLine_93 : decode cX3_readLine 93 = .ok (.sipush 1202, 3) := by decide +kernel
theorem dX3_readLine_96 : decode cX3_readLine 96 = .ok (.if_icmp .ne 8, 3) := by decide +kernel
theorem dX3_readLine_99 : decode cX3_readLine 99 = .ok (.aload_n 0, 1) := by decide +kernel
theorem dX3_readLine_100 : decode cX3_readLine 100 = .ok (.invokevirtual 106, 3) := by decide +kernel
theorem dX3_readLine_103 : decode cX3_readLine 103 = .ok (.ireturn, 1) := by decide +kernel
theorem dX3_readLine_104 : decode cX3_readLine 104 = .ok (.aload_n 0, 1) := by decide +kernel
theorem dX3_readLine_105 : decode cX3_readLine 105 = .ok (.iload_n 1, 1) := by decide +kernel
theorem dX3_readLine_106 : decode cX3_readLine 106 = .ok (.sipush 1204, 3) := by decide +kernel
theorem dX3_readLine_109 : decode cX3_readLine 109 = .ok (.if_icmp .ne 7, 3) := by decide +kernel
theorem dX3_readLine_112 : decode cX3_readLine 112 = .ok (.iconst 1, 1) := by decide +kernel
theorem dX3_readLine_113 : decode cX3_readLine 113 = .ok (.goto 4, 3) := by decide +kernel
theorem dX3_readLine_116 : decode cX3_readLine 116 = .ok (.iconst 0, 1) := by decide +kernel
theorem dX3_readLine_117 : decode cX3_readLine 117 = .ok (.putfield 109, 3) := by decide +kernel
theorem dX3_readLine_120 : decode cX3_readLine 120 = .ok (.aload_n 0, 1) := by decide +kernel
theorem dX3_readLine_121 : decode cX3_readLine 121 = .ok (.getfield 12, 3) := by decide +kernel
theorem dX3_readLine_124 : decode cX3_readLine 124 = .ok (.getfield 113, 3) := by decide +kernel
theorem dX3_readLine_127 : decode cX3_readLine 127 = .ok (.istore_n 2, 1) := by decide +kernel
theorem dX3_readLine_128 : decode cX3_readLine 128 = .ok (.aload_n 0, 1) := by decide +kernel
theorem dX3_readLine_129 : decode cX3_readLine 129 = .ok (.sipush 1101, 3) := by decide +kernel
theorem dX3_readLine_132 : decode cX3_readLine 132 = .ok (.invokevirtual 42, 3) := by decide +kernel
theorem dX3_readLine_135 : decode cX3_readLine 135 = .ok (.ifCond .eq 29, 3) := by decide +kernel
theorem dX3_readLine_138 : decode cX3_readLine 138 = .ok (.aload_n 0, 1) := by decide +kernel
theorem dX3_readLine_139 : decode cX3_readLine 139 = .ok (.getfield 109, 3) := by decide +kernel
theorem dX3_readLine_142 : decode cX3_readLine 142 = .ok (.ifCond .eq 14, 3) := by decide +kernel
theorem dX3_readLine_145 : decode cX3_readLine 145 = .ok (.aload_n 0, 1) := by decide +kernel
theorem dX3_readLine_146 : decode cX3_readLine 146 = .ok (.iconst 0, 1) := by decide +kernel
theorem dX3_readLine_147 : decode cX3_readLine 147 = .ok (.invokevirtual 116, 3) := by decide +kernel
theorem dX3_readLine_150 : decode cX3_readLine 150 = .ok (.ifCond .eq 14, 3) := by decide +kernel
theorem dX3_readLine_153 : decode cX3_readLine 153 = .ok (.goto 13, 3) := by decide +kernel
theorem dX3_readLine_156 : decode cX3_readLine 156 = .ok (.aload_n 0, 1) := by decide +kernel
theorem dX3_readLine_157 : decode cX3_readLine 157 = .ok (.iconst 0, 1) := by decide +kernel
theorem dX3_readLine_158 : decode cX3_readLine 158 = .ok (.invokevirtual 119, 3) := by decide +kernel
theorem dX3_readLine_161 : decode cX3_readLine 161 = .ok (.ifCond .ne 5, 3) := by decide +kernel
theorem dX3_readLine_164 : decode cX3_readLine 164 = .ok (.iconst 0, 1) := by decide +kernel
theorem dX3_readLine_165 : decode cX3_readLine 165 = .ok (.ireturn, 1) := by decide +kernel
theorem dX3_readLine_166 : decode cX3_readLine 166 = .ok (.aload_n 0, 1) := by decide +kernel
theorem dX3_readLine_167 : decode cX3_readLine 167 = .ok (.iload_n 2, 1) := by decide +kernel
theorem dX3_readLine_168 : decode cX3_readLine 168 = .ok (.invokevirtual 122, 3) := by decide +kernel
theorem dX3_readLine_171 : decode cX3_readLine 171 = .ok (.iconst 1, 1) := by decide +kernel
theorem dX3_readLine_172 : decode cX3_readLine 172 = .ok (.ireturn, 1) := by decide +kernel
def f_X3_readLine_164  (s : zS) : Option (Int32 × zS) :=
  some ((0 : Int32), s)
set_option maxRecDepth 20000 in
theorem b_X3_readLine_164 {X : zX} (hX : zx_ok X cX3_readLine RX3 3) (hT : zx_rt X (some .boolean) (zR 131 3141)) : ∀  (s : zS), zV X (zq X zrI) 3 164 [] [] s (f_X3_readLine_164  s) := by
  intro  s
  unfold f_X3_readLine_164
  refine zv_iconst (v := (0 : Int32)) hX dX3_readLine_164 zi_i_0 ?_
  exact zv_iretz hX hT (by decide) dX3_readLine_165
def f_X3_readLine_166 (v2 : Int32) (s : zS) : Option (Int32 × zS) :=
  zbd (f_X3_keepLaw v2 s) fun _ s1 =>
  some ((1 : Int32), s1)
set_option maxRecDepth 20000 in
theorem b_X3_readLine_166 {X : zX} (hX : zx_ok X cX3_readLine RX3 3) (hT : zx_rt X (some .boolean) (zR 131 3141)) : ∀ (v2 : Int32) (s : zS), zV X (zq X zrI) 3 166 [(0, .ref (zx_ad X 30)), (2, .int v2)] [] s (f_X3_readLine_166 v2 s) := by
  intro v2 s
  unfold f_X3_readLine_166
  refine zv_aload_n hX dX3_readLine_166 0 rfl ?_
  refine zv_iload_n hX dX3_readLine_167 1 rfl ?_
  refine zv_cVV [.int v2] (rest := []) hX hT.2.2.2.2 (c_X3_keepLaw (zx_Y X) v2 s) wv_X3_keepLaw c9_3 zd_30 wm_X3_122 rfl (Nat.le_of_ble_eq_true rfl) (Nat.le_of_ble_eq_true rfl) rfl (Nat.le_of_ble_eq_true rfl) dX3_readLine_168 (fun _ s1 => ?_)
  refine zv_iconst (v := (1 : Int32)) hX dX3_readLine_171 zi_i_1 ?_
  exact zv_iretz hX hT (by decide) dX3_readLine_172
def f_X3_readLine_117 (w0 : Int32) (s : zS) : Option (Int32 × zS) :=
  if w0 = 0 ∨ w0 = 1 then
  (zb (zs_i s 30 6 w0) fun s2 =>
  zb (s2.1 31 8) fun x3 =>
  zbd (f_X3_take (nI 1101) s2) fun r4 s5 =>
  if r4 = 0 then
  (f_X3_readLine_164 s5)
  else
  if (s5.1 30 6) = 0 then
  (zbd (f_X3_readTruth zDP (0 : Int32) s5) fun r6 s7 =>
  if ¬ r6 = 0 then
  (f_X3_readLine_166 x3 s7)
  else
  f_X3_readLine_164 s7)
  else
  zbd (f_X3_readSum zDP (0 : Int32) s5) fun r8 s9 =>
  if r8 = 0 then
  (f_X3_readLine_164 s9)
  else
  f_X3_readLine_166 x3 s9)
  else none
set_option maxRecDepth 20000 in
theorem b_X3_readLine_117 {X : zX} (hX : zx_ok X cX3_readLine RX3 3) (hT : zx_rt X (some .boolean) (zR 131 3141)) : ∀ (w0 : Int32) (s : zS), zV X (zq X zrI) 3 117 [(0, .ref (zx_ad X 30))] [.int w0, .ref (zx_ad X 30)] s (f_X3_readLine_117 w0 s) := by
  intro w0 s
  unfold f_X3_readLine_117
  refine zv_putz hX wf_X3_109 wc_3 wk_3_6 zd_30 zj_30_6 c9_3 zr_30_6 dX3_readLine_117 (fun s2 => ?_)
  refine zv_aload_n hX dX3_readLine_120 0 rfl ?_
  refine zv_geta hX wf_X3_12 wc_3 zd_30 zj_30_0 c9_3 zr_30_0 (by decide) dX3_readLine_121 ?_
  refine zv_geti hX wf_X3_113 wc_5 zd_31 zj_31_8 c9_5 zr_31_8 dX3_readLine_124 ?_
  refine zv_istB_n (lw := fun x3 => [(2, .int x3), (0, .ref (zx_ad X 30))]) hX dX3_readLine_127 (by decide) (fun _ => rfl) (fun x3 => ?_)
  refine zv_aload_n hX dX3_readLine_128 1 rfl ?_
  refine zv_sipush (v := (nI 1101)) hX dX3_readLine_129 zi_s_1101 ?_
  refine zv_cVI [.int (nI 1101)] (rest := []) hX hT.2.2.2.2 (c_X3_take (zx_Y X) (nI 1101) s2) wv_X3_take c9_3 zd_30 wm_X3_42 rfl (Nat.le_of_ble_eq_true rfl) (Nat.le_of_ble_eq_true rfl) rfl (Nat.le_of_ble_eq_true rfl) dX3_readLine_132 (fun r4 s5 => ?_)
  refine zv_if_eq (tgt := 164) hX dX3_readLine_135 rfl ?_ ?_
  · exact zv_sub [] rfl (b_X3_readLine_164 hX hT  s5)
  · refine zv_aload_n hX dX3_readLine_138 1 rfl ?_
    refine zv_geti hX wf_X3_109 wc_3 zd_30 zj_30_6 c9_3 zr_30_6 dX3_readLine_139 ?_
    refine zv_if_eq (tgt := 156) hX dX3_readLine_142 rfl ?_ ?_
    · refine zv_aload_n hX dX3_readLine_156 1 rfl ?_
      refine zv_iconst (v := (0 : Int32)) hX dX3_readLine_157 zi_i_0 ?_
      refine zv_cVI [.int (0 : Int32)] (rest := []) hX hT.2.2.2.2 (c_X3_readTruth (zx_Y X) zDP (0 : Int32) s5) wv_X3_readTruth c9_3 zd_30 wm_X3_119 rfl (Nat.le_of_ble_eq_true rfl) (Nat.le_of_ble_eq_true rfl) rfl (Nat.le_of_ble_eq_true rfl) dX3_readLine_158 (fun r6 s7 => ?_)
      refine zv_if_ne (tgt := 166) hX dX3_readLine_161 rfl ?_ ?_
      · exact zv_sub [1, 0] rfl (b_X3_readLine_166 hX hT x3 s7)
      · exact zv_sub [] rfl (b_X3_readLine_164 hX hT  s7)
    · refine zv_aload_n hX dX3_readLine_145 1 rfl ?_
      refine zv_iconst (v := (0 : Int32)) hX dX3_readLine_146 zi_i_0 ?_
      refine zv_cVI [.int (0 : Int32)] (rest := []) hX hT.2.2.2.2 (c_X3_readSum (zx_Y X) zDP (0 : Int32) s5) wv_X3_readSum c9_3 zd_30 wm_X3_116 rfl (Nat.le_of_ble_eq_true rfl) (Nat.le_of_ble_eq_true rfl) rfl (Nat.le_of_ble_eq_true rfl) dX3_readLine_147 (fun r8 s9 => ?_)
      refine zv_if_eq (tgt := 164) hX dX3_readLine_150 rfl ?_ ?_
      · exact zv_sub [] rfl (b_X3_readLine_164 hX hT  s9)
      · refine zv_goto (tgt := 166) hX dX3_readLine_153 rfl ?_
        exact zv_sub [1, 0] rfl (b_X3_readLine_166 hX hT x3 s9)
def f_X3_readLine_69 (v1 : Int32) (s : zS) : Option (Int32 × zS) :=
  zbd (f_X3_step s) fun _ s10 =>
  if ¬ v1 = (nI 1201) then
  (if ¬ v1 = (nI 1202) then
  (if ¬ v1 = (nI 1204) then
  (f_X3_readLine_117 (0 : Int32) s10)
  else
  f_X3_readLine_117 (1 : Int32) s10)
  else
  zbd (f_X3_readEngaged s10) fun r11 s12 =>
  if r11 = 0 ∨ r11 = 1 then some (r11, s12) else none)
  else
  zbd (f_X3_readPerson (s10.1 31 0) s10) fun r13 s14 =>
  if r13 = 0 ∨ r13 = 1 then some (r13, s14) else none
set_option maxRecDepth 20000 in
theorem b_X3_readLine_69 {X : zX} (hX : zx_ok X cX3_readLine RX3 3) (hT : zx_rt X (some .boolean) (zR 131 3141)) : ∀ (v1 : Int32) (s : zS), zV X (zq X zrI) 3 69 [(0, .ref (zx_ad X 30)), (1, .int v1)] [] s (f_X3_readLine_69 v1 s) := by
  intro v1 s
  unfold f_X3_readLine_69
  refine zv_aload_n hX dX3_readLine_69 0 rfl ?_
  refine zv_cVV [] (rest := []) hX hT.2.2.2.2 (c_X3_step (zx_Y X) s) wv_X3_step c9_3 zd_30 wm_X3_97 rfl (Nat.le_of_ble_eq_true rfl) (Nat.le_of_ble_eq_true rfl) rfl (Nat.le_of_ble_eq_true rfl) dX3_readLine_70 (fun _ s10 => ?_)
  refine zv_iload_n hX dX3_readLine_73 1 rfl ?_
  refine zv_sipush (v := (nI 1201)) hX dX3_readLine_74 zi_s_1201 ?_
  refine zv_icmp_ne (tgt := 92) hX dX3_readLine_77 rfl ?_ ?_
  · refine zv_iload_n hX dX3_readLine_92 1 rfl ?_
    refine zv_sipush (v := (nI 1202)) hX dX3_readLine_93 zi_s_1202 ?_
    refine zv_icmp_ne (tgt := 104) hX dX3_readLine_96 rfl ?_ ?_
    · refine zv_aload_n hX dX3_readLine_104 0 rfl ?_
      refine zv_iload_n hX dX3_readLine_105 1 rfl ?_
      refine zv_sipush (v := (nI 1204)) hX dX3_readLine_106 zi_s_1204 ?_
      refine zv_icmp_ne (tgt := 116) hX dX3_readLine_109 rfl ?_ ?_
      · refine zv_iconst (v := (0 : Int32)) hX dX3_readLine_116 zi_i_0 ?_
        exact zv_sub [0] rfl (b_X3_readLine_117 hX hT (0 : Int32) s10)
      · refine zv_iconst (v := (1 : Int32)) hX dX3_readLine_112 zi_i_1 ?_
        refine zv_goto (tgt := 117) hX dX3_readLine_113 rfl ?_
        exact zv_sub [0] rfl (b_X3_readLine_117 hX hT (1 : Int32) s10)
    · refine zv_aload_n hX dX3_readLine_99 0 rfl ?_
      refine zv_cVI [] (rest := []) hX hT.2.2.2.2 (c_X3_readEngaged (zx_Y X) s10) wv_X3_readEngaged c9_3 zd_30 wm_X3_106 rfl (Nat.le_of_ble_eq_true rfl) (Nat.le_of_ble_eq_true rfl) rfl (Nat.le_of_ble_eq_true rfl) dX3_readLine_100 (fun r11 s12 => ?_)
      exact zv_iretzB hX hT dX3_readLine_103
  · refine zv_aload_n hX dX3_readLine_80 0 rfl ?_
    refine zv_aload_n hX dX3_readLine_81 0 rfl ?_
    refine zv_geta hX wf_X3_12 wc_3 zd_30 zj_30_0 c9_3 zr_30_0 (by decide) dX3_readLine_82 ?_
    refine zv_geti hX wf_X3_100 wc_5 zd_31 zj_31_0 c9_5 zr_31_0 dX3_readLine_85 ?_
    refine zv_cVI [.int (s10.1 31 0)] (rest := []) hX hT.2.2.2.2 (c_X3_readPerson (zx_Y X) (s10.1 31 0) s10) wv_X3_readPerson c9_3 zd_30 wm_X3_103 rfl (Nat.le_of_ble_eq_true rfl) (Nat.le_of_ble_eq_true rfl) rfl (Nat.le_of_ble_eq_true rfl) dX3_readLine_88 (fun r13 s14 => ?_)
    exact zv_iretzB hX hT dX3_readLine_91
def f_X3_readLine_35 (v1 : Int32) (s : zS) : Option (Int32 × zS) :=
  if v1 = (nI 1201) then
  (f_X3_readLine_69 v1 s)
  else
  if v1 = (nI 1202) then
  (f_X3_readLine_69 v1 s)
  else
  if v1 = (nI 1203) then
  (f_X3_readLine_69 v1 s)
  else
  if v1 = (nI 1204) then
  (f_X3_readLine_69 v1 s)
  else
  zbd (f_X3_refuse (nI 2) s) fun r15 s16 =>
  if r15 = 0 ∨ r15 = 1 then some (r15, s16) else none
set_option maxRecDepth 20000 in
theorem b_X3_readLine_35 {X : zX} (hX : zx_ok X cX3_readLine RX3 3) (hT : zx_rt X (some .boolean) (zR 131 3141)) : ∀ (v1 : Int32) (s : zS), zV X (zq X zrI) 3 35 [(0, .ref (zx_ad X 30)), (1, .int v1)] [] s (f_X3_readLine_35 v1 s) := by
  intro v1 s
  unfold f_X3_readLine_35
  refine zv_iload_n hX dX3_readLine_35 1 rfl ?_
  refine zv_sipush (v := (nI 1201)) hX dX3_readLine_36 zi_s_1201 ?_
  refine zv_icmp_eq (tgt := 69) hX dX3_readLine_39 rfl ?_ ?_
  · exact b_X3_readLine_69 hX hT v1 s
  · refine zv_iload_n hX dX3_readLine_42 1 rfl ?_
    refine zv_sipush (v := (nI 1202)) hX dX3_readLine_43 zi_s_1202 ?_
    refine zv_icmp_eq (tgt := 69) hX dX3_readLine_46 rfl ?_ ?_
    · exact b_X3_readLine_69 hX hT v1 s
    · refine zv_iload_n hX dX3_readLine_49 1 rfl ?_
      refine zv_sipush (v := (nI 1203)) hX dX3_readLine_50 zi_s_1203 ?_
      refine zv_icmp_eq (tgt := 69) hX dX3_readLine_53 rfl ?_ ?_
      · exact b_X3_readLine_69 hX hT v1 s
      · refine zv_iload_n hX dX3_readLine_56 1 rfl ?_
        refine zv_sipush (v := (nI 1204)) hX dX3_readLine_57 zi_s_1204 ?_
        refine zv_icmp_eq (tgt := 69) hX dX3_readLine_60 rfl ?_ ?_
        · exact b_X3_readLine_69 hX hT v1 s
        · refine zv_aload_n hX dX3_readLine_63 0 rfl ?_
          refine zv_iconst (v := (nI 2)) hX dX3_readLine_64 zi_i_2 ?_
          refine zv_cVI [.int (nI 2)] (rest := []) hX hT.2.2.2.2 (c_X3_refuse (zx_Y X) (nI 2) s) wv_X3_refuse c9_3 zd_30 wm_X3_94 rfl (Nat.le_of_ble_eq_true rfl) (Nat.le_of_ble_eq_true rfl) rfl (Nat.le_of_ble_eq_true rfl) dX3_readLine_65 (fun r15 s16 => ?_)
          exact zv_iretzB hX hT dX3_readLine_68
def f_X3_readLine  (s : zS) : Option (Int32 × zS) :=
  (zr_i s 40 (s.1 30 5)).bind fun x17 =>
  if ¬ x17 = (nI 1201) then
  (f_X3_readLine_35 x17 s)
  else
  if (s.1 31 0) < (nI 7) then
  (f_X3_readLine_35 x17 s)
  else
  zbd (f_X3_refuse (nI 4) s) fun r18 s19 =>
  if r18 = 0 ∨ r18 = 1 then some (r18, s19) else none
set_option maxRecDepth 20000 in
theorem c_X3_readLine (Y : zG)  (s : zS) : zM Y yX3_readLine cX3_readLine 3 (some .boolean) (zR 131 3141) [.ref (zy_a Y 30)] s zrI (f_X3_readLine  s) := by
  refine zm_start (by decide +kernel) (Nat.le_of_ble_eq_true rfl) ?_
  intro X hY hT hX
  subst hY
  have hX : zx_ok X cX3_readLine RX3 3 := hX
  show zV X (zq X zrI) 3 0 [(0, .ref (zx_ad X 30))] [] s _
  unfold f_X3_readLine
  refine zv_aload_n hX dX3_readLine_0 0 rfl ?_
  refine zv_geta hX wf_X3_22 wc_3 zd_30 zj_30_3 c9_3 zr_30_3 (by decide) dX3_readLine_1 ?_
  refine zv_aload_n hX dX3_readLine_4 0 rfl ?_
  refine zv_geti hX wf_X3_39 wc_3 zd_30 zj_30_5 c9_3 zr_30_5 dX3_readLine_5 ?_
  refine zv_iald hX dX3_readLine_8 (fun x17 => ?_)
  refine zv_istore_n (lv' := [(1, .int x17), (0, .ref (zx_ad X 30))]) hX dX3_readLine_9 (by decide) rfl ?_
  refine zv_iload_n hX dX3_readLine_10 0 rfl ?_
  refine zv_sipush (v := (nI 1201)) hX dX3_readLine_11 zi_s_1201 ?_
  refine zv_icmp_ne (tgt := 35) hX dX3_readLine_14 rfl ?_ ?_
  · exact zv_sub [1, 0] rfl (b_X3_readLine_35 hX hT x17 s)
  · refine zv_aload_n hX dX3_readLine_17 1 rfl ?_
    refine zv_geta hX wf_X3_12 wc_3 zd_30 zj_30_0 c9_3 zr_30_0 (by decide) dX3_readLine_18 ?_
    refine zv_geti hX wf_X3_100 wc_5 zd_31 zj_31_0 c9_5 zr_31_0 dX3_readLine_21 ?_
    refine zv_bipush (v := (nI 7)) hX dX3_readLine_24 zi_b_7 ?_
    refine zv_icmp_lt (tgt := 35) hX dX3_readLine_26 rfl ?_ ?_
    · exact zv_sub [1, 0] rfl (b_X3_readLine_35 hX hT x17 s)
    · refine zv_aload_n hX dX3_readLine_29 1 rfl ?_
      refine zv_iconst (v := (nI 4)) hX dX3_readLine_30 zi_i_4 ?_
      refine zv_cVI [.int (nI 4)] (rest := []) hX hT.2.2.2.2 (c_X3_refuse (zx_Y X) (nI 4) s) wv_X3_refuse c9_3 zd_30 wm_X3_94 rfl (Nat.le_of_ble_eq_true rfl) (Nat.le_of_ble_eq_true rfl) rfl (Nat.le_of_ble_eq_true rfl) dX3_readLine_31 (fun r18 s19 => ?_)
      exact zv_iretzB hX hT dX3_readLine_34
