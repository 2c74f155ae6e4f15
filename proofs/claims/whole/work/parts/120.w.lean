theorem dX7_marksByWhichWould_0 : decode cX7_marksByWhichWould 0 = .ok (.aload_n 0, 1) := by decide +kernel
theorem dX7_marksByWhichWould_1 : decode cX7_marksByWhichWould 1 = .ok (.getfield 20, 3) := by decide +kernel
theorem dX7_marksByWhichWould_4 : decode cX7_marksByWhichWould 4 = .ok (.getfield 122, 3) := by decide +kernel
theorem dX7_marksByWhichWould_7 : decode cX7_marksByWhichWould 7 = .ok (.iload_n 2, 1) := by decide +kernel
theorem dX7_marksByWhichWould_8 : decode cX7_marksByWhichWould 8 = .ok (.iaload, 1) := by decide +kernel
theorem dX7_marksByWhichWould_9 : decode cX7_marksByWhichWould 9 = .ok (.istore 4, 2) := by decide +kernel
theorem dX7_marksByWhichWould_11 : decode cX7_marksByWhichWould 11 = .ok (.iconst 0, 1) := by decide +kernel
theorem dX7_marksByWhichWould_12 : decode cX7_marksByWhichWould 12 = .ok (.istore 5, 2) := by decide +kernel
theorem dX7_marksByWhichWould_14 : decode cX7_marksByWhichWould 14 = .ok (.iconst 0, 1) := by decide +kernel
theorem dX7_marksByWhichWould_15 : decode cX7_marksByWhichWould 15 = .ok (.istore 6, 2) := by decide +kernel
theorem dX7_marksByWhichWould_17 : decode cX7_marksByWhichWould 17 = .ok (.iload 6, 2) := by decide +kernel
theorem dX7_marksByWhichWould_19 : decode cX7_marksByWhichWould 19 = .ok (.bipush 10, 2) := by decide +kernel
theorem dX7_marksByWhichWould_21 : decode cX7_marksByWhichWould 21 = .ok (.if_icmp .ge 44, 3) := by decide +kernel
theorem dX7_marksByWhichWould_24 : decode cX7_marksByWhichWould 24 = .ok (.iload_n 1, 1) := by decide +kernel
theorem dX7_marksByWhichWould_25 : decode cX7_marksByWhichWould 25 = .ok (.iload 6, 2) := by decide +kernel
theorem dX7_marksByWhichWould_27 : decode cX7_marksByWhichWould 27 = .ok (.iushr, 1) := by decide +kernel
theorem dX7_marksByWhichWould_28 : decode cX7_marksByWhichWould 28 = .ok (.iconst 1, 1) := by decide +kernel
theorem dX7_marksByWhichWould_29 : decode cX7_marksByWhichWould 29 = .ok (.iand, 1) := by decide +kernel
theorem dX7_marksByWhichWould_30 : decode cX7_marksByWhichWould 30 = .ok (.iconst 1, 1) := by decide +kernel
theorem dX7_marksByWhichWould_31 : decode cX7_marksByWhichWould 31 = .ok (.if_icmp .ne 28, 3) := by decide +kernel
theorem dX7_marksByWhichWould_34 : decode cX7_marksByWhichWould 34 = .ok (.aload_n 0, 1) := by decide +kernel
theorem dX7_marksByWhichWould_35 : decode cX7_marksByWhichWould 35 = .ok (.getfield 20, 3) := by decide +kernel
theorem dX7_marksByWhichWould_38 : decode cX7_marksByWhichWould 38 = .ok (.iload_n 2, 1) := by decide +kernel
theorem dX7_marksByWhichWould_39 : decode cX7_marksByWhichWould 39 = .ok (.iload 6, 2) := by decide +kernel
theorem dX7_marksByWhichWould_41 : decode cX7_marksByWhichWould 41 = .ok (.invokevirtual 289, 3) := by decide +kernel
theorem dX7_marksByWhichWould_44 : decode cX7_marksByWhichWould 44 = .ok (.aload_n 0, 1) := by decide +kernel
theorem dX7_marksByWhichWould_45 : decode cX7_marksByWhichWould 45 = .ok (.getfield 36, 3) := by decide +kernel
theorem dX7_marksByWhichWould_48 : decode cX7_marksByWhichWould 48 = .ok (.iload_n 2, 1) := by decide +kernel
theorem dX7_marksByWhichWould_49 : decode cX7_marksByWhichWould 49 = .ok (.iload_n 3, 1) := by decide +kernel
theorem dX7_marksByWhichWould_50 : decode cX7_marksByWhichWould 50 = .ok (.invokevirtual 145, 3) := by decide +kernel
theorem dX7_marksByWhichWould_53 : decode cX7_marksByWhichWould 53 = .ok (.ifCond .le 6, 3) := by decide +kernel
theorem dX7_marksByWhichWould_56 : decode cX7_marksByWhichWould 56 = .ok (.iinc 5 1, 3) := by decide +kernel
theorem dX7_marksByWhichWould_59 : decode cX7_marksByWhichWould 59 = .ok (.iinc 6 1, 3) := by decide +kernel
theorem dX7_marksByWhichWould_62 : decode cX7_marksByWhichWould 62 = .ok (.goto (-45), 3) := by decide +kernel
theorem dX7_marksByWhichWould_65 : decode cX7_marksByWhichWould 65 = .ok (.aload_n 0, 1) := by decide +kernel
theorem dX7_marksByWhichWould_66 : decode cX7_marksByWhichWould 66 = .ok (.getfield 20, 3) := by decide +kernel
theorem dX7_marksByWhichWould_69 : decode cX7_marksByWhichWould 69 = .ok (.iload_n 2, 1) := by decide +kernel
theorem dX7_marksByWhichWould_70 : decode cX7_marksByWhichWould 70 = .ok (.iload 4, 2) := by decide +kernel
theorem dX7_marksByWhichWould_72 : decode cX7_marksByWhichWould 72 = .ok (.invokevirtual 289, 3) := by decide +kernel
theorem dX7_marksByWhichWould_75 : decode cX7_marksByWhichWould 75 = .ok (.iload 5, 2) := by decide +kernel
theorem dX7_marksByWhichWould_77 : decode cX7_marksByWhichWould 77 = .ok (.ireturn, 1) := by decide +kernel
def f_X7_marksByWhichWould_59 (kb_17 : Int32 → Int32 → Int32 → Int32 → Int32 → Int32 → zS → Option (Int32 × zS)) (v1 : Int32) (v2 : Int32) (v3 : Int32) (v4 : Int32) (v5 : Int32) (v6 : Int32) (s : zS) : Option (Int32 × zS) :=
  zb (v6 + (1 : Int32)) fun x1 =>
  kb_17 v1 v2 v3 v4 v5 x1 s
set_option maxRecDepth 20000 in
theorem b_X7_marksByWhichWould_59 {X : zX} {kb_17 : Int32 → Int32 → Int32 → Int32 → Int32 → Int32 → zS → Option (Int32 × zS)} (hX : zx_ok X cX7_marksByWhichWould RX7 7) (hT : zx_rt X (some .int) (zR 3 75)) (hk_17 : ∀ (v1 : Int32) (v2 : Int32) (v3 : Int32) (v4 : Int32) (v5 : Int32) (v6 : Int32) (s : zS), zV X (zq X zrI) 7 17 [(0, .ref (zx_ad X 0)), (1, .int v1), (2, .int v2), (3, .int v3), (4, .int v4), (5, .int v5), (6, .int v6)] [] s (kb_17 v1 v2 v3 v4 v5 v6 s)) : ∀ (v1 : Int32) (v2 : Int32) (v3 : Int32) (v4 : Int32) (v5 : Int32) (v6 : Int32) (s : zS), zV X (zq X zrI) 7 59 [(0, .ref (zx_ad X 0)), (1, .int v1), (2, .int v2), (3, .int v3), (4, .int v4), (5, .int v5), (6, .int v6)] [] s (f_X7_marksByWhichWould_59 kb_17 v1 v2 v3 v4 v5 v6 s) := by
  intro v1 v2 v3 v4 v5 v6 s
  unfold f_X7_marksByWhichWould_59
  refine zv_iincB (lw := fun x1 => [(6, .int x1), (0, .ref (zx_ad X 0)), (1, .int v1), (2, .int v2), (3, .int v3), (4, .int v4), (5, .int v5)]) hX dX7_marksByWhichWould_59 6 rfl zi_i_1 (by decide) (fun _ => rfl) (fun x1 => ?_)
  refine zv_goto (tgt := 17) hX dX7_marksByWhichWould_62 rfl ?_
  exact zv_sub [1, 2, 3, 4, 5, 6, 0] rfl (hk_17 v1 v2 v3 v4 v5 x1 s)
def f_X7_marksByWhichWould_17 : Nat → Int32 → Int32 → Int32 → Int32 → Int32 → Int32 → zS → Option (Int32 × zS)
  | 0, _, _, _, _, _, _, _ => none
  | n + 1, v1, v2, v3, v4, v5, v6, s =>
    if (nI 10) ≤ v6 then
    (zbd (f_X5_setMark_3 v2 v4 s) fun _ s2 =>
    some (v5, s2))
    else
    if ¬ ((zo_ush v1 v6) &&& (1 : Int32)) = (1 : Int32) then
    (f_X7_marksByWhichWould_59 (f_X7_marksByWhichWould_17 n) v1 v2 v3 v4 v5 v6 s)
    else
    zbd (f_X5_setMark_3 v2 v6 s) fun _ s3 =>
    zbd (f_X4_liking v2 v3 s3) fun r4 s5 =>
    if r4 ≤ 0 then
    (f_X7_marksByWhichWould_59 (f_X7_marksByWhichWould_17 n) v1 v2 v3 v4 v5 v6 s5)
    else
    zb (v5 + (1 : Int32)) fun x6 =>
    f_X7_marksByWhichWould_59 (f_X7_marksByWhichWould_17 n) v1 v2 v3 v4 x6 v6 s5
set_option maxRecDepth 20000 in
theorem b_X7_marksByWhichWould_17 {X : zX} (hX : zx_ok X cX7_marksByWhichWould RX7 7) (hT : zx_rt X (some .int) (zR 3 75)) : ∀ (n : Nat) (v1 : Int32) (v2 : Int32) (v3 : Int32) (v4 : Int32) (v5 : Int32) (v6 : Int32) (s : zS), zV X (zq X zrI) 7 17 [(0, .ref (zx_ad X 0)), (1, .int v1), (2, .int v2), (3, .int v3), (4, .int v4), (5, .int v5), (6, .int v6)] [] s (f_X7_marksByWhichWould_17 n v1 v2 v3 v4 v5 v6 s) := by
  intro n
  induction n with
  | zero => intro v1 v2 v3 v4 v5 v6 s; exact zv_none
  | succ n ih =>
    intro v1 v2 v3 v4 v5 v6 s
    rw [f_X7_marksByWhichWould_17]
    refine zv_iload hX dX7_marksByWhichWould_17 6 rfl ?_
    refine zv_bipush (v := (nI 10)) hX dX7_marksByWhichWould_19 zi_b_10 ?_
    refine zv_icmp_ge (tgt := 65) hX dX7_marksByWhichWould_21 rfl ?_ ?_
    · refine zv_aload_n hX dX7_marksByWhichWould_65 0 rfl ?_
      refine zv_geta hX wf_X7_20 wc_7 zd_0 zj_0_2 c9_7 zr_0_2 (by decide) dX7_marksByWhichWould_66 ?_
      refine zv_iload_n hX dX7_marksByWhichWould_69 2 rfl ?_
      refine zv_iload hX dX7_marksByWhichWould_70 4 rfl ?_
      refine zv_cVV [.int v2, .int v4] (rest := []) hX hT.2.2.2.2 (c_X5_setMark_3 (zx_Y X) v2 v4 s) wv_X5_setMark c9_5 zd_3 wm_X7_289 rfl (Nat.le_of_ble_eq_true rfl) (Nat.le_of_ble_eq_true rfl) rfl (Nat.le_of_ble_eq_true rfl) dX7_marksByWhichWould_72 (fun _ s2 => ?_)
      refine zv_iload hX dX7_marksByWhichWould_75 5 rfl ?_
      exact zv_ireti hX hT dX7_marksByWhichWould_77
    · refine zv_iload_n hX dX7_marksByWhichWould_24 1 rfl ?_
      refine zv_iload hX dX7_marksByWhichWould_25 6 rfl ?_
      refine zv_iushr hX dX7_marksByWhichWould_27 ?_
      refine zv_iconst (v := (1 : Int32)) hX dX7_marksByWhichWould_28 zi_i_1 ?_
      refine zv_iand hX dX7_marksByWhichWould_29 ?_
      refine zv_iconst (v := (1 : Int32)) hX dX7_marksByWhichWould_30 zi_i_1 ?_
      refine zv_icmp_ne (tgt := 59) hX dX7_marksByWhichWould_31 rfl ?_ ?_
      · exact b_X7_marksByWhichWould_59 hX hT ih v1 v2 v3 v4 v5 v6 s
      · refine zv_aload_n hX dX7_marksByWhichWould_34 0 rfl ?_
        refine zv_geta hX wf_X7_20 wc_7 zd_0 zj_0_2 c9_7 zr_0_2 (by decide) dX7_marksByWhichWould_35 ?_
        refine zv_iload_n hX dX7_marksByWhichWould_38 2 rfl ?_
        refine zv_iload hX dX7_marksByWhichWould_39 6 rfl ?_
        refine zv_cVV [.int v2, .int v6] (rest := []) hX hT.2.2.2.2 (c_X5_setMark_3 (zx_Y X) v2 v6 s) wv_X5_setMark c9_5 zd_3 wm_X7_289 rfl (Nat.le_of_ble_eq_true rfl) (Nat.le_of_ble_eq_true rfl) rfl (Nat.le_of_ble_eq_true rfl) dX7_marksByWhichWould_41 (fun _ s3 => ?_)
        refine zv_aload_n hX dX7_marksByWhichWould_44 0 rfl ?_
        refine zv_geta hX wf_X7_36 wc_7 zd_0 zj_0_4 c9_7 zr_0_4 (by decide) dX7_marksByWhichWould_45 ?_
        refine zv_iload_n hX dX7_marksByWhichWould_48 2 rfl ?_
        refine zv_iload_n hX dX7_marksByWhichWould_49 3 rfl ?_
        refine zv_cVI [.int v2, .int v3] (rest := []) hX hT.2.2.2.2 (c_X4_liking (zx_Y X) v2 v3 s3) wv_X4_liking c9_4 zd_42 wm_X7_145 rfl (Nat.le_of_ble_eq_true rfl) (Nat.le_of_ble_eq_true rfl) rfl (Nat.le_of_ble_eq_true rfl) dX7_marksByWhichWould_50 (fun r4 s5 => ?_)
        refine zv_if_le (tgt := 59) hX dX7_marksByWhichWould_53 rfl ?_ ?_
        · exact b_X7_marksByWhichWould_59 hX hT ih v1 v2 v3 v4 v5 v6 s5
        · refine zv_iincB (lw := fun x6 => [(5, .int x6), (0, .ref (zx_ad X 0)), (1, .int v1), (2, .int v2), (3, .int v3), (4, .int v4), (6, .int v6)]) hX dX7_marksByWhichWould_56 5 rfl zi_i_1 (by decide) (fun _ => rfl) (fun x6 => ?_)
          exact zv_sub [1, 2, 3, 4, 5, 0, 6] rfl (b_X7_marksByWhichWould_59 hX hT ih v1 v2 v3 v4 x6 v6 s5)
def f_X7_marksByWhichWould (v1 : Int32) (v2 : Int32) (v3 : Int32) (s : zS) : Option (Int32 × zS) :=
  (zr_i s 5 v2).bind fun x7 =>
  f_X7_marksByWhichWould_17 zFU v1 v2 v3 x7 (0 : Int32) (0 : Int32) s
set_option maxRecDepth 20000 in
theorem c_X7_marksByWhichWould (Y : zG) (v1 : Int32) (v2 : Int32) (v3 : Int32) (s : zS) : zM Y yX7_marksByWhichWould cX7_marksByWhichWould 7 (some .int) (zR 3 75) [.ref (zy_a Y 0), .int v1, .int v2, .int v3] s zrI (f_X7_marksByWhichWould v1 v2 v3 s) := by
  refine zm_start (by decide +kernel) (Nat.le_of_ble_eq_true rfl) ?_
  intro X hY hT hX
  subst hY
  have hX : zx_ok X cX7_marksByWhichWould RX7 7 := hX
  show zV X (zq X zrI) 7 0 [(0, .ref (zx_ad X 0)), (1, .int v1), (2, .int v2), (3, .int v3)] [] s _
  unfold f_X7_marksByWhichWould
  refine zv_aload_n hX dX7_marksByWhichWould_0 0 rfl ?_
  refine zv_geta hX wf_X7_20 wc_7 zd_0 zj_0_2 c9_7 zr_0_2 (by decide) dX7_marksByWhichWould_1 ?_
  refine zv_geta hX wf_X7_122 wc_5 zd_3 zj_3_3 c9_5 zr_3_3 (by decide) dX7_marksByWhichWould_4 ?_
  refine zv_iload_n hX dX7_marksByWhichWould_7 2 rfl ?_
  refine zv_iald hX dX7_marksByWhichWould_8 (fun x7 => ?_)
  refine zv_istore (lv' := [(4, .int x7), (0, .ref (zx_ad X 0)), (1, .int v1), (2, .int v2), (3, .int v3)]) hX dX7_marksByWhichWould_9 (by decide) rfl ?_
  refine zv_iconst (v := (0 : Int32)) hX dX7_marksByWhichWould_11 zi_i_0 ?_
  refine zv_istore (lv' := [(5, .int (0 : Int32)), (4, .int x7), (0, .ref (zx_ad X 0)), (1, .int v1), (2, .int v2), (3, .int v3)]) hX dX7_marksByWhichWould_12 (by decide) rfl ?_
  refine zv_iconst (v := (0 : Int32)) hX dX7_marksByWhichWould_14 zi_i_0 ?_
  refine zv_istore (lv' := [(6, .int (0 : Int32)), (5, .int (0 : Int32)), (4, .int x7), (0, .ref (zx_ad X 0)), (1, .int v1), (2, .int v2), (3, .int v3)]) hX dX7_marksByWhichWould_15 (by decide) rfl ?_
  exact zv_sub [3, 4, 5, 6, 2, 1, 0] rfl (b_X7_marksByWhichWould_17 hX hT zFU v1 v2 v3 x7 (0 : Int32) (0 : Int32) s)
theorem dX7_ask_0 : decode cX7_ask 0 = .ok (.aload_n 0, 1) := by decide +kernel
theorem dX7_ask_1 : decode cX7_ask 1 = .ok (.getfield 52, 3) := by decide +kernel
theorem dX7_ask_4 : decode cX7_ask 4 = .ok (.iload_n 1, 1) := by decide +kernel
theorem dX7_ask_5 : decode cX7_ask 5 = .ok (.invokevirtual 177, 3) := by decide +kernel
theorem dX7_ask_8 : decode cX7_ask 8 = .ok (.ifCond .eq 14, 3) := by decide +kernel
theorem dX7_ask_11 : decode cX7_ask 11 = .ok (.aload_n 0, 1) := by decide +kernel
theorem dX7_ask_12 : decode cX7_ask 12 = .ok (.getfield 20, 3) := by decide +kernel
theorem dX7_ask_15 : decode cX7_ask 15 = .ok (.iload_n 2, 1) := by decide +kernel
theorem dX7_ask_16 : decode cX7_ask 16 = .ok (.invokevirtual 108, 3) := by decide +kernel
theorem dX7_ask_19 : decode cX7_ask 19 = .ok (.ifCond .ne 6, 3) := by decide +kernel
theorem dX7_ask_22 : decode cX7_ask 22 = .ok (.bipush (-2), 2) := by decide +kernel
theorem dX7_ask_24 : decode cX7_ask 24 = .ok (.ireturn, 1) := by decide +kernel
theorem dX7_ask_25 : decode cX7_ask 25 = .ok (.aload_n 0, 1) := by decide +kernel
theorem dX7_ask_26 : decode cX7_ask 26 = .ok (.iload_n 1, 1) := by decide +kernel
theorem dX7_ask_27 : decode cX7_ask 27 = .ok (.iload_n 2, 1) := by decide +kernel
theorem dX7_ask_28 : decode cX7_ask 28 = .ok (.invokevirtual 283, 3) := by decide +kernel
theorem dX7_ask_31 : decode cX7_ask 31 = .ok (.istore_n 3, 1) := by decide +kernel
theorem dX7_ask_32 : decode cX7_ask 32 = .ok (.iload_n 3, 1) := by decide +kernel
theorem dX7_ask_33 : decode cX7_ask 33 = .ok (.ifCond .ge 5, 3) := by decide +kernel
theorem dX7_ask_36 : decode cX7_ask 36 = .ok (.iload_n 3, 1) := by decide +kernel
theorem dX7_ask_37 : decode cX7_ask 37 = .ok (.ireturn, 1) := by decide +kernel
theorem dX7_ask_38 : decode cX7_ask 38 = .ok (.iload_n 3, 1) := by decide +kernel
theorem dX7_ask_39 : decode cX7_ask 39 = .ok (.invokestatic 116, 3) := by decide +kernel
theorem dX7_ask_42 : decode cX7_ask 42 = .ok (.istore 4, 2) := by decide +kernel
theorem dX7_ask_44 : decode cX7_ask 44 = .ok (.iconst (-1), 1) := by decide +kernel
theorem dX7_ask_45 : decode cX7_ask 45 = .ok (.istore 5, 2) := by decide +kernel
theorem dX7_ask_47 : decode cX7_ask 47 = .ok (.iconst (-1), 1) := by decide +kernel
theorem dX7_ask_48 : decode cX7_ask 48 = .ok (.istore 6, 2) := by decide +kernel
theorem dX7_ask_50 : decode cX7_ask 50 = .ok (.iconst 0, 1) := by decide +kernel
theorem dX7_ask_51 : decode cX7_ask 51 = .ok (.istore 7, 2) := by decide +kernel
theorem dX7_ask_53 : decode cX7_ask 53 = .ok (.iload 7, 2) := by decide +kernel
theorem dX7_ask_55 : decode cX7_ask 55 = .ok (.aload_n 0, 1) := by decide +kernel
theorem dX7_ask_56 : decode cX7_ask 56 = .ok (.getfield 20, 3) := by decide +kernel
theorem dX7_ask_59 : decode cX7_ask 59 = .ok (.getfield 215, 3) := by decide +kernel
theorem dX7_ask_62 : decode cX7_ask 62 = .ok (.if_icmp .ge 60, 3) := by decide +kernel
theorem dX7_ask_65 : decode cX7_ask 65 = .ok (.iload 4, 2) := by decide +kernel
theorem dX7_ask_67 : decode cX7_ask 67 = .ok (.ifCond .le 55, 3) := by decide +kernel
theorem dX7_ask_70 : decode cX7_ask 70 = .ok (.iload 7, 2) := by decide +kernel
theorem dX7_ask_72 : decode cX7_ask 72 = .ok (.iload_n 2, 1) := by decide +kernel
theorem dX7_ask_73 : decode cX7_ask 73 = .ok (.if_icmp .ne 6, 3) := by decide +kernel
theorem dX7_ask_76 : decode cX7_ask 76 = .ok (.goto 40, 3) := by decide +kernel
theorem dX7_ask_79 : decode cX7_ask 79 = .ok (.aload_n 0, 1) := by decide +kernel
theorem dX7_ask_80 : decode cX7_ask 80 = .ok (.iload_n 3, 1) := by decide +kernel
theorem dX7_ask_81 : decode cX7_ask 81 = .ok (.iload_n 2, 1) := by decide +kernel
theorem dX7_ask_82 : decode cX7_ask 82 = .ok (.iload 7, 2) := by decide +kernel
theorem dX7_ask_84 : decode cX7_ask 84 = .ok (.invokevirtual 297, 3) := by decide +kernel
theorem dX7_ask_87 : decode cX7_ask 87 = .ok (.istore 8, 2) := by decide +kernel
theorem dX7_ask_89 : decode cX7_ask 89 = .ok (.iload 8, 2) := by decide +kernel
theorem dX7_ask_91 : decode cX7_ask 91 = .ok (.iload 4, 2) := by decide +kernel
theorem dX7_ask_93 : decode cX7_ask 93 = .ok (.iload 8, 2) := by decide +kernel
theorem dX7_ask_95 : decode cX7_ask 95 = .ok (.isub, 1) := by decide +kernel
theorem dX7_ask_96 : decode cX7_ask 96 = .ok (.invokestatic 278, 3) := by decide +kernel
theorem dX7_ask_99 : decode cX7_ask 99 = .ok (.istore 9, 2) := by decide +kernel
theorem dX7_ask_101 : decode cX7_ask 101 = .ok (.iload 9, 2) := by decide +kernel
theorem dX7_ask_103 : decode cX7_ask 103 = .ok (.iload 6, 2) := by decide +kernel
theorem dX7_ask_105 : decode cX7_ask 105 = .ok (.if_icmp .le 11, 3) := by decide +kernel
theorem dX7_ask_108 : decode cX7_ask 108 = .ok (.iload 9, 2) := by decide +kernel
theorem dX7_ask_110 : decode cX7_ask 110 = .ok (.istore 6, 2) := by decide +kernel
theorem dX7_ask_112 : decode cX7_ask 112 = .ok (.iload 7, 2) := by decide +kernel
theorem dX7_ask_114 : decode cX7_ask 114 = .ok (.istore 5, 2) := by decide +kernel
theorem dX7_ask_116 : decode cX7_ask 116 = .ok (.iinc 7 1, 3) := by decide +kernel
theorem dX7_ask_119 : decode cX7_ask 119 = .ok (.goto (-66), 3) := by decide +kernel
theorem dX7_ask_122 : decode cX7_ask 122 = .ok (.iload 5, 2) := by decide +kernel
theorem dX7_ask_124 : decode cX7_ask 124 = .ok (.ireturn, 1) := by decide +kernel
def f_X7_ask_22  (s : zS) : Option (Int32 × zS) :=
  some ((-2 : Int32), s)
set_option maxRecDepth 20000 in
theorem b_X7_ask_22 {X : zX} (hX : zx_ok X cX7_ask RX7 10) (hT : zx_rt X (some .int) (zR 7 172)) : ∀  (s : zS), zV X (zq X zrI) 10 22 [] [] s (f_X7_ask_22  s) := by
  intro  s
  unfold f_X7_ask_22
  refine zv_bipush (v := (-2 : Int32)) hX dX7_ask_22 zi_b_m2 ?_
  exact zv_ireti hX hT dX7_ask_24
def f_X7_ask_122 (v5 : Int32) (s : zS) : Option (Int32 × zS) :=
  some (v5, s)
set_option maxRecDepth 20000 in
theorem b_X7_ask_122 {X : zX} (hX : zx_ok X cX7_ask RX7 10) (hT : zx_rt X (some .int) (zR 7 172)) : ∀ (v5 : Int32) (s : zS), zV X (zq X zrI) 10 122 [(5, .int v5)] [] s (f_X7_ask_122 v5 s) := by
  intro v5 s
  unfold f_X7_ask_122
  refine zv_iload hX dX7_ask_122 0 rfl ?_
  exact zv_ireti hX hT dX7_ask_124
def f_X7_ask_116 (kb_53 : Int32 → Int32 → Int32 → Int32 → Int32 → Int32 → zS → Option (Int32 × zS)) (v2 : Int32) (v3 : Int32) (v4 : Int32) (v5 : Int32) (v6 : Int32) (v7 : Int32) (s : zS) : Option (Int32 × zS) :=
  zb (v7 + (1 : Int32)) fun x1 =>
  kb_53 v2 v3 v4 v5 v6 x1 s
set_option maxRecDepth 20000 in
theorem b_X7_ask_116 {X : zX} {kb_53 : Int32 → Int32 → Int32 → Int32 → Int32 → Int32 → zS → Option (Int32 × zS)} (hX : zx_ok X cX7_ask RX7 10) (hT : zx_rt X (some .int) (zR 7 172)) (hk_53 : ∀ (v2 : Int32) (v3 : Int32) (v4 : Int32) (v5 : Int32) (v6 : Int32) (v7 : Int32) (s : zS), zV X (zq X zrI) 10 53 [(0, .ref (zx_ad X 0)), (2, .int v2), (3, .int v3), (4, .int v4), (5, .int v5), (6, .int v6), (7, .int v7)] [] s (kb_53 v2 v3 v4 v5 v6 v7 s)) : ∀ (v2 : Int32) (v3 : Int32) (v4 : Int32) (v5 : Int32) (v6 : Int32) (v7 : Int32) (s : zS), zV X (zq X zrI) 10 116 [(0, .ref (zx_ad X 0)), (2, .int v2), (3, .int v3), (4, .int v4), (5, .int v5), (6, .int v6), (7, .int v7)] [] s (f_X7_ask_116 kb_53 v2 v3 v4 v5 v6 v7 s) := by
  intro v2 v3 v4 v5 v6 v7 s
  unfold f_X7_ask_116
  refine zv_iincB (lw := fun x1 => [(7, .int x1), (0, .ref (zx_ad X 0)), (2, .int v2), (3, .int v3), (4, .int v4), (5, .int v5), (6, .int v6)]) hX dX7_ask_116 6 rfl zi_i_1 (by decide) (fun _ => rfl) (fun x1 => ?_)
  refine zv_goto (tgt := 53) hX dX7_ask_119 rfl ?_
  exact zv_sub [1, 2, 3, 4, 5, 6, 0] rfl (hk_53 v2 v3 v4 v5 v6 x1 s)
def f_X7_ask_53 : Nat → Int32 → Int32 → Int32 → Int32 → Int32 → Int32 → zS → Option (Int32 × zS)
  | 0, _, _, _, _, _, _, _ => none
  | n + 1, v2, v3, v4, v5, v6, v7, s =>
    if (s.1 3 0) ≤ v7 then
    (f_X7_ask_122 v5 s)
    else
    if v4 ≤ 0 then
    (f_X7_ask_122 v5 s)
    else
    if ¬ v7 = v2 then
    (zbd (f_X7_marksByWhichWould v3 v2 v7 s) fun r2 s3 =>
    zbd (f_J9_min_7cf53 r2 (v4 - r2) s3) fun r4 s5 =>
    if r4 ≤ v6 then
    (f_X7_ask_116 (f_X7_ask_53 n) v2 v3 v4 v5 v6 v7 s5)
    else
    f_X7_ask_116 (f_X7_ask_53 n) v2 v3 v4 v7 r4 v7 s5)
    else
    f_X7_ask_116 (f_X7_ask_53 n) v2 v3 v4 v5 v6 v7 s
set_option maxRecDepth 20000 in
theorem b_X7_ask_53 {X : zX} (hX : zx_ok X cX7_ask RX7 10) (hT : zx_rt X (some .int) (zR 7 172)) : ∀ (n : Nat) (v2 : Int32) (v3 : Int32) (v4 : Int32) (v5 : Int32) (v6 : Int32) (v7 : Int32) (s : zS), zV X (zq X zrI) 10 53 [(0, .ref (zx_ad X 0)), (2, .int v2), (3, .int v3), (4, .int v4), (5, .int v5), (6, .int v6), (7, .int v7)] [] s (f_X7_ask_53 n v2 v3 v4 v5 v6 v7 s) := by
  intro n
  induction n with
  | zero => intro v2 v3 v4 v5 v6 v7 s; exact zv_none
  | succ n ih =>
    intro v2 v3 v4 v5 v6 v7 s
    rw [f_X7_ask_53]
    refine zv_iload hX dX7_ask_53 6 rfl ?_
    refine zv_aload_n hX dX7_ask_55 0 rfl ?_
    refine zv_geta hX wf_X7_20 wc_7 zd_0 zj_0_2 c9_7 zr_0_2 (by decide) dX7_ask_56 ?_
    refine zv_geti hX wf_X7_215 wc_5 zd_3 zj_3_0 c9_5 zr_3_0 dX7_ask_59 ?_
    refine zv_icmp_ge (tgt := 122) hX dX7_ask_62 rfl ?_ ?_
    · exact zv_sub [4] rfl (b_X7_ask_122 hX hT v5 s)
    · refine zv_iload hX dX7_ask_65 3 rfl ?_
      refine zv_if_le (tgt := 122) hX dX7_ask_67 rfl ?_ ?_
      · exact zv_sub [4] rfl (b_X7_ask_122 hX hT v5 s)
      · refine zv_iload hX dX7_ask_70 6 rfl ?_
        refine zv_iload_n hX dX7_ask_72 1 rfl ?_
        refine zv_icmp_ne (tgt := 79) hX dX7_ask_73 rfl ?_ ?_
        · refine zv_aload_n hX dX7_ask_79 0 rfl ?_
          refine zv_iload_n hX dX7_ask_80 2 rfl ?_
          refine zv_iload_n hX dX7_ask_81 1 rfl ?_
          refine zv_iload hX dX7_ask_82 6 rfl ?_
          refine zv_cVI [.int v3, .int v2, .int v7] (rest := []) hX hT.2.2.2.2 (c_X7_marksByWhichWould (zx_Y X) v3 v2 v7 s) wv_X7_marksByWhichWould c9_7 zd_0 wm_X7_297 rfl (Nat.le_of_ble_eq_true rfl) (Nat.le_of_ble_eq_true rfl) rfl (Nat.le_of_ble_eq_true rfl) dX7_ask_84 (fun r2 s3 => ?_)
          refine zv_istore (lv' := [(8, .int r2), (0, .ref (zx_ad X 0)), (2, .int v2), (3, .int v3), (4, .int v4), (5, .int v5), (6, .int v6), (7, .int v7)]) hX dX7_ask_87 (by decide) rfl ?_
          refine zv_iload hX dX7_ask_89 0 rfl ?_
          refine zv_iload hX dX7_ask_91 4 rfl ?_
          refine zv_iload hX dX7_ask_93 0 rfl ?_
          refine zv_isub hX dX7_ask_95 ?_
          refine zv_cSI [.int r2, .int (v4 - r2)] (rest := []) hX hT.2.2.2.2 (c_J9_min_7cf53 (zx_Y X) r2 (v4 - r2) s3) wv_J9_min_7cf53 wm_X7_278 rfl (Nat.le_of_ble_eq_true rfl) (Nat.le_of_ble_eq_true rfl) rfl (Nat.le_of_ble_eq_true rfl) dX7_ask_96 (fun r4 s5 => ?_)
          refine zv_istore (lv' := [(9, .int r4), (8, .int r2), (0, .ref (zx_ad X 0)), (2, .int v2), (3, .int v3), (4, .int v4), (5, .int v5), (6, .int v6), (7, .int v7)]) hX dX7_ask_99 (by decide) rfl ?_
          refine zv_iload hX dX7_ask_101 0 rfl ?_
          refine zv_iload hX dX7_ask_103 7 rfl ?_
          refine zv_icmp_le (tgt := 116) hX dX7_ask_105 rfl ?_ ?_
          · exact zv_sub [2, 3, 4, 5, 6, 7, 8] rfl (b_X7_ask_116 hX hT ih v2 v3 v4 v5 v6 v7 s5)
          · refine zv_iload hX dX7_ask_108 0 rfl ?_
            refine zv_istore (lv' := [(6, .int r4), (9, .int r4), (8, .int r2), (0, .ref (zx_ad X 0)), (2, .int v2), (3, .int v3), (4, .int v4), (5, .int v5), (7, .int v7)]) hX dX7_ask_110 (by decide) rfl ?_
            refine zv_iload hX dX7_ask_112 8 rfl ?_
            refine zv_istore (lv' := [(5, .int v7), (6, .int r4), (9, .int r4), (8, .int r2), (0, .ref (zx_ad X 0)), (2, .int v2), (3, .int v3), (4, .int v4), (7, .int v7)]) hX dX7_ask_114 (by decide) rfl ?_
            exact zv_sub [4, 5, 6, 7, 0, 1, 8] rfl (b_X7_ask_116 hX hT ih v2 v3 v4 v7 r4 v7 s5)
        · refine zv_goto (tgt := 116) hX dX7_ask_76 rfl ?_
          exact b_X7_ask_116 hX hT ih v2 v3 v4 v5 v6 v7 s
def f_X7_ask (v1 : Int32) (v2 : Int32) (s : zS) : Option (Int32 × zS) :=
  zbd (f_X6_isOne v1 s) fun r6 s7 =>
  if r6 = 0 then
  (f_X7_ask_22 s7)
  else
  zbd (f_X5_has_3 v2 s7) fun r8 s9 =>
  if ¬ r8 = 0 then
  (zbd (f_X7_marksBy v1 v2 s9) fun r10 s11 =>
  if 0 ≤ r10 then
  (zbd (f_J6_bitCount_0f7a4 r10 s11) fun r12 s13 =>
  f_X7_ask_53 zFU v2 r10 r12 (-1 : Int32) (-1 : Int32) (0 : Int32) s13)
  else
  some (r10, s11))
  else
  f_X7_ask_22 s9
set_option maxRecDepth 20000 in
theorem c_X7_ask (Y : zG) (v1 : Int32) (v2 : Int32) (s : zS) : zM Y yX7_ask cX7_ask 10 (some .int) (zR 7 172) [.ref (zy_a Y 0), .int v1, .int v2] s zrI (f_X7_ask v1 v2 s) := by
  refine zm_start (by decide +kernel) (Nat.le_of_ble_eq_true rfl) ?_
  intro X hY hT hX
  subst hY
  have hX : zx_ok X cX7_ask RX7 10 := hX
  show zV X (zq X zrI) 10 0 [(0, .ref (zx_ad X 0)), (1, .int v1), (2, .int v2)] [] s _
  unfold f_X7_ask
  refine zv_aload_n hX dX7_ask_0 0 rfl ?_
  refine zv_geta hX wf_X7_52 wc_7 zd_0 zj_0_8 c9_7 zr_0_8 (by decide) dX7_ask_1 ?_
  refine zv_iload_n hX dX7_ask_4 1 rfl ?_
  refine zv_cVI [.int v1] (rest := []) hX hT.2.2.2.2 (c_X6_isOne (zx_Y X) v1 s) wv_X6_isOne c9_6 zd_68 wm_X7_177 rfl (Nat.le_of_ble_eq_true rfl) (Nat.le_of_ble_eq_true rfl) rfl (Nat.le_of_ble_eq_true rfl) dX7_ask_5 (fun r6 s7 => ?_)
  refine zv_if_eq (tgt := 22) hX dX7_ask_8 rfl ?_ ?_
  · exact zv_sub [] rfl (b_X7_ask_22 hX hT  s7)
  · refine zv_aload_n hX dX7_ask_11 0 rfl ?_
    refine zv_geta hX wf_X7_20 wc_7 zd_0 zj_0_2 c9_7 zr_0_2 (by decide) dX7_ask_12 ?_
    refine zv_iload_n hX dX7_ask_15 2 rfl ?_
    refine zv_cVI [.int v2] (rest := []) hX hT.2.2.2.2 (c_X5_has_3 (zx_Y X) v2 s7) wv_X5_has c9_5 zd_3 wm_X7_108 rfl (Nat.le_of_ble_eq_true rfl) (Nat.le_of_ble_eq_true rfl) rfl (Nat.le_of_ble_eq_true rfl) dX7_ask_16 (fun r8 s9 => ?_)
    refine zv_if_ne (tgt := 25) hX dX7_ask_19 rfl ?_ ?_
    · refine zv_aload_n hX dX7_ask_25 0 rfl ?_
      refine zv_iload_n hX dX7_ask_26 1 rfl ?_
      refine zv_iload_n hX dX7_ask_27 2 rfl ?_
      refine zv_cVI [.int v1, .int v2] (rest := []) hX hT.2.2.2.2 (c_X7_marksBy (zx_Y X) v1 v2 s9) wv_X7_marksBy c9_7 zd_0 wm_X7_283 rfl (Nat.le_of_ble_eq_true rfl) (Nat.le_of_ble_eq_true rfl) rfl (Nat.le_of_ble_eq_true rfl) dX7_ask_28 (fun r10 s11 => ?_)
      refine zv_istore_n (lv' := [(3, .int r10), (0, .ref (zx_ad X 0)), (1, .int v1), (2, .int v2)]) hX dX7_ask_31 (by decide) rfl ?_
      refine zv_iload_n hX dX7_ask_32 0 rfl ?_
      refine zv_if_ge (tgt := 38) hX dX7_ask_33 rfl ?_ ?_
      · refine zv_iload_n hX dX7_ask_38 0 rfl ?_
        refine zv_cSI [.int r10] (rest := []) hX hT.2.2.2.2 (c_J6_bitCount_0f7a4 (zx_Y X) r10 s11) wv_J6_bitCount_0f7a4 wm_X7_116 rfl (Nat.le_of_ble_eq_true rfl) (Nat.le_of_ble_eq_true rfl) rfl (Nat.le_of_ble_eq_true rfl) dX7_ask_39 (fun r12 s13 => ?_)
        refine zv_istore (lv' := [(4, .int r12), (3, .int r10), (0, .ref (zx_ad X 0)), (1, .int v1), (2, .int v2)]) hX dX7_ask_42 (by decide) rfl ?_
        refine zv_iconst (v := (-1 : Int32)) hX dX7_ask_44 zi_i_m1 ?_
        refine zv_istore (lv' := [(5, .int (-1 : Int32)), (4, .int r12), (3, .int r10), (0, .ref (zx_ad X 0)), (1, .int v1), (2, .int v2)]) hX dX7_ask_45 (by decide) rfl ?_
        refine zv_iconst (v := (-1 : Int32)) hX dX7_ask_47 zi_i_m1 ?_
        refine zv_istore (lv' := [(6, .int (-1 : Int32)), (5, .int (-1 : Int32)), (4, .int r12), (3, .int r10), (0, .ref (zx_ad X 0)), (1, .int v1), (2, .int v2)]) hX dX7_ask_48 (by decide) rfl ?_
        refine zv_iconst (v := (0 : Int32)) hX dX7_ask_50 zi_i_0 ?_
        refine zv_istore (lv' := [(7, .int (0 : Int32)), (6, .int (-1 : Int32)), (5, .int (-1 : Int32)), (4, .int r12), (3, .int r10), (0, .ref (zx_ad X 0)), (1, .int v1), (2, .int v2)]) hX dX7_ask_51 (by decide) rfl ?_
        exact zv_sub [5, 7, 4, 3, 2, 1, 0] rfl (b_X7_ask_53 hX hT zFU v2 r10 r12 (-1 : Int32) (-1 : Int32) (0 : Int32) s13)
      · refine zv_iload_n hX dX7_ask_36 0 rfl ?_
        exact zv_ireti hX hT dX7_ask_37
    · exact zv_sub [] rfl (b_X7_ask_22 hX hT  s9)
theorem dX7_best_0 : decode cX7_best 0 = .ok (.aload_n 0, 1) := by decide +kernel
theorem dX7_best_1 : decode cX7_best 1 = .ok (.getfield 20, 3) := by decide +kernel
theorem dX7_best_4 : decode cX7_best 4 = .ok (.iload_n 1, 1) := by decide +kernel
theorem dX7_best_5 : decode cX7_best 5 = .ok (.invokevirtual 238, 3) := by decide +kernel
theorem dX7_best_8 : decode cX7_best 8 = .ok (.ifCond .ne 6, 3) := by decide +kernel
theorem dX7_best_11 : decode cX7_best 11 = .ok (.bipush (-3), 2) := by decide +kernel
theorem dX7_best_13 : decode cX7_best 13 = .ok (.ireturn, 1) := by decide +kernel
theorem dX7_best_14 : decode cX7_best 14 = .ok (.aload_n 0, 1) := by decide +kernel
theorem dX7_best_15 : decode cX7_best 15 = .ok (.getfield 36, 3) := by decide +kernel
theorem dX7_best_18 : decode cX7_best 18 = .ok (.iload_n 1, 1) := by decide +kernel
theorem dX7_best_19 : decode cX7_best 19 = .ok (.invokevirtual 300, 3) := by decide +kernel
theorem dX7_best_22 : decode cX7_best 22 = .ok (.iconst 0, 1) := by decide +kernel
theorem dX7_best_23 : decode cX7_best 23 = .ok (.istore_n 2, 1) := by decide +kernel
theorem dX7_best_24 : decode cX7_best 24 = .ok (.iload_n 2, 1) := by decide +kernel
theorem dX7_best_25 : decode cX7_best 25 = .ok (.aload_n 0, 1) := by decide +kernel
theorem dX7_best_26 : decode cX7_best 26 = .ok (.getfield 20, 3) := by decide +kernel
theorem dX7_best_29 : decode cX7_best 29 = .ok (.getfield 215, 3) := by decide +kernel
theorem dX7_best_32 : decode cX7_best 32 = .ok (.if_icmp .ge 47, 3) := by decide +kernel
theorem dX7_best_35 : decode cX7_best 35 = .ok (.iload_n 1, 1) := by decide +kernel
theorem dX7_best_36 : decode cX7_best 36 = .ok (.iconst 1, 1) := by decide +kernel
theorem dX7_best_37 : decode cX7_best 37 = .ok (.iload_n 2, 1) := by decide +kernel
theorem dX7_best_38 : decode cX7_best 38 = .ok (.ishl, 1) := by decide +kernel
theorem dX7_best_39 : decode cX7_best 39 = .ok (.ior, 1) := by decide +kernel
theorem dX7_best_40 : decode cX7_best 40 = .ok (.istore_n 3, 1) := by decide +kernel
theorem dX7_best_41 : decode cX7_best 41 = .ok (.iload_n 3, 1) := by decide +kernel
theorem dX7_best_42 : decode cX7_best 42 = .ok (.iload_n 1, 1) := by decide +kernel
theorem dX7_best_43 : decode cX7_best 43 = .ok (.if_icmp .eq 30, 3) := by decide +kernel
theorem dX7_best_46 : decode cX7_best 46 = .ok (.aload_n 0, 1) := by decide +kernel
theorem dX7_best_47 : decode cX7_best 47 = .ok (.getfield 36, 3) := by decide +kernel
theorem dX7_best_50 : decode cX7_best 50 = .ok (.iload_n 3, 1) := by decide +kernel
theorem dX7_best_51 : decode cX7_best 51 = .ok (.invokevirtual 247, 3) := by decide +kernel
theorem dX7_best_54 : decode cX7_best 54 = .ok (.ifCond .eq 19, 3) := by decide +kernel
theorem dX7_best_57 : decode cX7_best 57 = .ok (.aload_n 0, 1) := by decide +kernel
theorem dX7_best_58 : decode cX7_best 58 = .ok (.getfield 36, 3) := by decide +kernel
theorem dX7_best_61 : decode cX7_best 61 = .ok (.getfield 303, 3) := by decide +kernel
theorem dX7_best_64 : decode cX7_best 64 = .ok (.iload_n 3, 1) := by decide +kernel
theorem dX7_best_65 : decode cX7_best 65 = .ok (.iaload, 1) := by decide +kernel
theorem dX7_best_66 : decode cX7_best 66 = .ok (.iconst 1, 1) := by decide +kernel
theorem dX7_best_67 : decode cX7_best 67 = .ok (.iand, 1) := by decide +kernel
theorem dX7_best_68 : decode cX7_best 68 = .ok (.ifCond .ne 5, 3) := by decide +kernel
theorem dX7_best_71 : decode cX7_best 71 = .ok (.iload_n 2, 1) := by decide +kernel
theorem dX7_best_72 : decode cX7_best 72 = .ok (.ireturn, 1) := by decide +kernel
theorem dX7_best_73 : decode cX7_best 73 = .ok (.iinc 2 1, 3) := by decide +kernel
theorem dX7_best_76 : decode cX7_best 76 = .ok (.goto (-52), 3) := by decide +kernel
theorem dX7_best_79 : decode cX7_best 79 = .ok (.iconst (-1), 1) := by decide +kernel
theorem dX7_best_80 : decode cX7_best 80 = .ok (.ireturn, 1) := by decide +kernel
def f_X7_best_73 (kb_24 : Int32 → Int32 → zS → Option (Int32 × zS)) (v1 : Int32) (v2 : Int32) (s : zS) : Option (Int32 × zS) :=
  zb (v2 + (1 : Int32)) fun x1 =>
  kb_24 v1 x1 s
set_option maxRecDepth 20000 in
theorem b_X7_best_73 {X : zX} {kb_24 : Int32 → Int32 → zS → Option (Int32 × zS)} (hX : zx_ok X cX7_best RX7 4) (hT : zx_rt X (some .int) (zR 70 1797)) (hk_24 : ∀ (v1 : Int32) (v2 : Int32) (s : zS), zV X (zq X zrI) 4 24 [(0, .ref (zx_ad X 0)), (1, .int v1), (2, .int v2)] [] s (kb_24 v1 v2 s)) : ∀ (v1 : Int32) (v2 : Int32) (s : zS), zV X (zq X zrI) 4 73 [(0, .ref (zx_ad X 0)), (1, .int v1), (2, .int v2)] [] s (f_X7_best_73 kb_24 v1 v2 s) := by
  intro v1 v2 s
  unfold f_X7_best_73
  refine zv_iincB (lw := fun x1 => [(2, .int x1), (0, .ref (zx_ad X 0)), (1, .int v1)]) hX dX7_best_73 2 rfl zi_i_1 (by decide) (fun _ => rfl) (fun x1 => ?_)
  refine zv_goto (tgt := 24) hX dX7_best_76 rfl ?_
  exact zv_sub [1, 2, 0] rfl (hk_24 v1 x1 s)
def f_X7_best_24 : Nat → Int32 → Int32 → zS → Option (Int32 × zS)
  | 0, _, _, _ => none
  | n + 1, v1, v2, s =>
    if (s.1 3 0) ≤ v2 then
    (some ((-1 : Int32), s))
    else
    zb (v1 ||| (zo_shl (1 : Int32) v2)) fun x2 =>
    if x2 = v1 then
    (f_X7_best_73 (f_X7_best_24 n) v1 v2 s)
    else
    zbd (f_X4_isFitting x2 s) fun r3 s4 =>
    if r3 = 0 then
    (f_X7_best_73 (f_X7_best_24 n) v1 v2 s4)
    else
    (zr_i s4 52 x2).bind fun x5 =>
    if ¬ (x5 &&& (1 : Int32)) = 0 then
    (f_X7_best_73 (f_X7_best_24 n) v1 v2 s4)
    else
    some (v2, s4)
set_option maxRecDepth 20000 in
theorem b_X7_best_24 {X : zX} (hX : zx_ok X cX7_best RX7 4) (hT : zx_rt X (some .int) (zR 70 1797)) : ∀ (n : Nat) (v1 : Int32) (v2 : Int32) (s : zS), zV X (zq X zrI) 4 24 [(0, .ref (zx_ad X 0)), (1, .int v1), (2, .int v2)] [] s (f_X7_best_24 n v1 v2 s) := by
  intro n
  induction n with
  | zero => intro v1 v2 s; exact zv_none
  | succ n ih =>
    intro v1 v2 s
    rw [f_X7_best_24]
    refine zv_iload_n hX dX7_best_24 2 rfl ?_
    refine zv_aload_n hX dX7_best_25 0 rfl ?_
    refine zv_geta hX wf_X7_20 wc_7 zd_0 zj_0_2 c9_7 zr_0_2 (by decide) dX7_best_26 ?_
    refine zv_geti hX wf_X7_215 wc_5 zd_3 zj_3_0 c9_5 zr_3_0 dX7_best_29 ?_
    refine zv_icmp_ge (tgt := 79) hX dX7_best_32 rfl ?_ ?_
    · refine zv_iconst (v := (-1 : Int32)) hX dX7_best_79 zi_i_m1 ?_
      exact zv_ireti hX hT dX7_best_80
    · refine zv_iload_n hX dX7_best_35 1 rfl ?_
      refine zv_iconst (v := (1 : Int32)) hX dX7_best_36 zi_i_1 ?_
      refine zv_iload_n hX dX7_best_37 2 rfl ?_
      refine zv_ishl hX dX7_best_38 ?_
      refine zv_ior hX dX7_best_39 ?_
      refine zv_istB_n (lw := fun x2 => [(3, .int x2), (0, .ref (zx_ad X 0)), (1, .int v1), (2, .int v2)]) hX dX7_best_40 (by decide) (fun _ => rfl) (fun x2 => ?_)
      refine zv_iload_n hX dX7_best_41 0 rfl ?_
      refine zv_iload_n hX dX7_best_42 2 rfl ?_
      refine zv_icmp_eq (tgt := 73) hX dX7_best_43 rfl ?_ ?_
      · exact zv_sub [1, 2, 3] rfl (b_X7_best_73 hX hT ih v1 v2 s)
      · refine zv_aload_n hX dX7_best_46 1 rfl ?_
        refine zv_geta hX wf_X7_36 wc_7 zd_0 zj_0_4 c9_7 zr_0_4 (by decide) dX7_best_47 ?_
        refine zv_iload_n hX dX7_best_50 0 rfl ?_
        refine zv_cVI [.int x2] (rest := []) hX hT.2.2.2.2 (c_X4_isFitting (zx_Y X) x2 s) wv_X4_isFitting c9_4 zd_42 wm_X7_247 rfl (Nat.le_of_ble_eq_true rfl) (Nat.le_of_ble_eq_true rfl) rfl (Nat.le_of_ble_eq_true rfl) dX7_best_51 (fun r3 s4 => ?_)
        refine zv_if_eq (tgt := 73) hX dX7_best_54 rfl ?_ ?_
        · exact zv_sub [1, 2, 3] rfl (b_X7_best_73 hX hT ih v1 v2 s4)
        · refine zv_aload_n hX dX7_best_57 1 rfl ?_
          refine zv_geta hX wf_X7_36 wc_7 zd_0 zj_0_4 c9_7 zr_0_4 (by decide) dX7_best_58 ?_
          refine zv_geta hX wf_X7_303 wc_4 zd_42 zj_42_10 c9_4 zr_42_10 (by decide) dX7_best_61 ?_
          refine zv_iload_n hX dX7_best_64 0 rfl ?_
          refine zv_iald hX dX7_best_65 (fun x5 => ?_)
          refine zv_iconst (v := (1 : Int32)) hX dX7_best_66 zi_i_1 ?_
          refine zv_iand hX dX7_best_67 ?_
          refine zv_if_ne (tgt := 73) hX dX7_best_68 rfl ?_ ?_
          · exact zv_sub [1, 2, 3] rfl (b_X7_best_73 hX hT ih v1 v2 s4)
          · refine zv_iload_n hX dX7_best_71 3 rfl ?_
            exact zv_ireti hX hT dX7_best_72
def f_X7_best (v1 : Int32) (s : zS) : Option (Int32 × zS) :=
  zbd (f_X5_hasAll_3 v1 s) fun r6 s7 =>
  if ¬ r6 = 0 then
  (zbd (f_X4_learnTurns v1 s7) fun _ s8 =>
  f_X7_best_24 zFU v1 (0 : Int32) s8)
  else
  some ((-3 : Int32), s7)
set_option maxRecDepth 20000 in
theorem c_X7_best (Y : zG) (v1 : Int32) (s : zS) : zM Y yX7_best cX7_best 4 (some .int) (zR 70 1797) [.ref (zy_a Y 0), .int v1] s zrI (f_X7_best v1 s) := by
  refine zm_start (by decide +kernel) (Nat.le_of_ble_eq_true rfl) ?_
  intro X hY hT hX
  subst hY
  have hX : zx_ok X cX7_best RX7 4 := hX
  show zV X (zq X zrI) 4 0 [(0, .ref (zx_ad X 0)), (1, .int v1)] [] s _
  unfold f_X7_best
  refine zv_aload_n hX dX7_best_0 0 rfl ?_
  refine zv_geta hX wf_X7_20 wc_7 zd_0 zj_0_2 c9_7 zr_0_2 (by decide) dX7_best_1 ?_
  refine zv_iload_n hX dX7_best_4 1 rfl ?_
  refine zv_cVI [.int v1] (rest := []) hX hT.2.2.2.2 (c_X5_hasAll_3 (zx_Y X) v1 s) wv_X5_hasAll c9_5 zd_3 wm_X7_238 rfl (Nat.le_of_ble_eq_true rfl) (Nat.le_of_ble_eq_true rfl) rfl (Nat.le_of_ble_eq_true rfl) dX7_best_5 (fun r6 s7 => ?_)
  refine zv_if_ne (tgt := 14) hX dX7_best_8 rfl ?_ ?_
  · refine zv_aload_n hX dX7_best_14 0 rfl ?_
    refine zv_geta hX wf_X7_36 wc_7 zd_0 zj_0_4 c9_7 zr_0_4 (by decide) dX7_best_15 ?_
    refine zv_iload_n hX dX7_best_18 1 rfl ?_
    refine zv_cVV [.int v1] (rest := []) hX hT.2.2.2.2 (c_X4_learnTurns (zx_Y X) v1 s7) wv_X4_learnTurns c9_4 zd_42 wm_X7_300 rfl (Nat.le_of_ble_eq_true rfl) (Nat.le_of_ble_eq_true rfl) rfl (Nat.le_of_ble_eq_true rfl) dX7_best_19 (fun _ s8 => ?_)
    refine zv_iconst (v := (0 : Int32)) hX dX7_best_22 zi_i_0 ?_
    refine zv_istore_n (lv' := [(2, .int (0 : Int32)), (0, .ref (zx_ad X 0)), (1, .int v1)]) hX dX7_best_23 (by decide) rfl ?_
    exact zv_sub [1, 2, 0] rfl (b_X7_best_24 hX hT zFU v1 (0 : Int32) s8)
  · refine zv_bipush (v := (-3 : Int32)) hX dX7_best_11 zi_b_m3 ?_
    exact zv_ireti hX hT dX7_best_13
theorem dX7_blotted_0 : decode cX7_blotted 0 = .ok (.aload_n 0, 1) := by decide +kernel
theorem dX7_blotted_1 : decode cX7_blotted 1 = .ok (.getfield 52, 3) := by decide +kernel
theorem dX7_blotted_4 : decode cX7_blotted 4 = .ok (.iload_n 1, 1) := by decide +kernel
theorem dX7_blotted_5 : decode cX7_blotted 5 = .ok (.invokevirtual 180, 3) := by decide +kernel
theorem dX7_blotted_8 : decode cX7_blotted 8 = .ok (.ifCond .eq 6, 3) := by decide +kernel
theorem dX7_blotted_11 : decode cX7_blotted 11 = .ok (.bipush (-6), 2) := by decide +kernel
theorem dX7_blotted_13 : decode cX7_blotted 13 = .ok (.ireturn, 1) := by decide +kernel
theorem dX7_blotted_14 : decode cX7_blotted 14 = .ok (.aload_n 0, 1) := by decide +kernel
theorem dX7_blotted_15 : decode cX7_blotted 15 = .ok (.getfield 52, 3) := by decide +kernel
theorem dX7_blotted_18 : decode cX7_blotted 18 = .ok (.iload_n 1, 1) := by decide +kernel
theorem dX7_blotted_19 : decode cX7_blotted 19 = .ok (.invokevirtual 259, 3) := by decide +kernel
theorem dX7_blotted_22 : decode cX7_blotted 22 = .ok (.istore_n 2, 1) := by decide +kernel
theorem dX7_blotted_23 : decode cX7_blotted 23 = .ok (.iload_n 2, 1) := by decide +kernel
theorem dX7_blotted_24 : decode cX7_blotted 24 = .ok (.iconst 1, 1) := by decide +kernel
theorem dX7_blotted_25 : decode cX7_blotted 25 = .ok (.if_icmp .lt 9, 3) := by decide +kernel
theorem dX7_blotted_28 : decode cX7_blotted 28 = .ok (.iload_n 2, 1) := by decide +kernel
theorem dX7_blotted_29 : decode cX7_blotted 29 = .ok (.bipush 18, 2) := by decide +kernel
theorem dX7_blotted_31 : decode cX7_blotted 31 = .ok (.if_icmp .le 6, 3) := by decide +kernel
theorem dX7_blotted_34 : decode cX7_blotted 34 = .ok (.bipush (-4), 2) := by decide +kernel
theorem dX7_blotted_36 : decode cX7_blotted 36 = .ok (.ireturn, 1) := by decide +kernel
theorem dX7_blotted_37 : decode cX7_blotted 37 = .ok (.iconst 0, 1) := by decide +kernel
theorem dX7_blotted_38 : decode cX7_blotted 38 = .ok (.istore_n 3, 1) := by decide +kernel
theorem dX7_blotted_39 : decode cX7_blotted 39 = .ok (.iconst 0, 1) := by decide +kernel
theorem dX7_blotted_40 : decode cX7_blotted 40 = .ok (.istore 4, 2) := by decide +kernel
theorem dX7_blotted_42 : decode cX7_blotted 42 = .ok (.iconst 0, 1) := by decide +kernel
theorem dX7_blotted_43 : decode cX7_blotted 43 = .ok (.istore 5, 2) := by decide +kernel
theorem dX7_blotted_45 : decode cX7_blotted 45 = .ok (.iload 5, 2) := by decide +kernel
theorem dX7_blotted_47 : decode cX7_blotted 47 = .ok (.iload_n 2, 1) := by decide +kernel
theorem dX7_blotted_48 : decode cX7_blotted 48 = .ok (.if_icmp .ge 73, 3) := by decide +kernel
theorem dX7_blotted_51 : decode cX7_blotted 51 = .ok (.aload_n 0, 1) := by decide +kernel
theorem dX7_blotted_52 : decode cX7_blotted 52 = .ok (.getfield 52, 3) := by decide +kernel
theorem dX7_blotted_55 : decode cX7_blotted 55 = .ok (.iload_n 1, 1) := by decide +kernel
theorem dX7_blotted_56 : decode cX7_blotted 56 = .ok (.iload 5, 2) := by decide +kernel
theorem dX7_blotted_58 : decode cX7_blotted 58 = .ok (.invokevirtual 262, 3) := by decide +kernel
theorem dX7_blotted_61 : decode cX7_blotted 61 = .ok (.lstore 6, 2) := by decide +kernel
theorem dX7_blotted_63 : decode cX7_blotted 63 = .ok (.lload 6, 2) := by decide +kernel
theorem dX7_blotted_65 : decode cX7_blotted 65 = .ok (.lconst 0, 1) := by decide +kernel
theorem dX7_blotted_66 : decode cX7_blotted 66 = .ok (.lcmp, 1) := by decide +kernel
theorem dX7_blotted_67 : decode cX7_blotted 67 = .ok (.ifCond .lt 12, 3) := by decide +kernel
theorem dX7_blotted_70 : decode cX7_blotted 70 = .ok (.lload 6, 2) := by decide +kernel
theorem dX7_blotted_72 : decode cX7_blotted 72 = .ok (.ldc2_w 266, 3) := by decide +kernel
theorem dX7_blotted_75 : decode cX7_blotted 75 = .ok (.lcmp, 1) := by decide +kernel
theorem dX7_blotted_76 : decode cX7_blotted 76 = .ok (.ifCond .lt 6, 3) := by decide +kernel
theorem dX7_blotted_79 : decode cX7_blotted 79 = .ok (.bipush (-3), 2) := by decide +kernel
theorem dX7_blotted_81 : decode cX7_blotted 81 = .ok (.ireturn, 1) := by decide +kernel
theorem dX7_blotted_82 : decode cX7_blotted 82 = .ok (.iconst 1, 1) := by decide +kernel
theorem dX7_blotted_83 : decode cX7_blotted 83 = .ok (.lload 6, 2) := by decide +kernel
theorem dX7_blotted_85 : decode cX7_blotted 85 = .ok (.iconst 1, 1) := by decide +kernel
theorem dX7_blotted_86 : decode cX7_blotted 86 = .ok (.lshr, 1) := by decide +kernel
theorem dX7_blotted_87 : decode cX7_blotted 87 = .ok (.l2i, 1) := by decide +kernel
theorem dX7_blotted_88 : decode cX7_blotted 88 = .ok (.ishl, 1) := by decide +kernel
theorem dX7_blotted_89 : decode cX7_blotted 89 = .ok (.istore 8, 2) := by decide +kernel
theorem dX7_blotted_91 : decode cX7_blotted 91 = .ok (.lload 6, 2) := by decide +kernel
theorem dX7_blotted_93 : decode cX7_blotted 93 = .ok (.lconst 1, 1) := by decide +kernel
theorem dX7_blotted_94 : decode cX7_blotted 94 = .ok (.land, 1) := by decide +kernel
theorem dX7_blotted_95 : decode cX7_blotted 95 = .ok (.lconst 1, 1) := by decide +kernel
theorem dX7_blotted_96 : decode cX7_blotted 96 = .ok (.lcmp, 1) := by decide +kernel
theorem dX7_blotted_97 : decode cX7_blotted 97 = .ok (.ifCond .ne 11, 3) := by decide +kernel
theorem dX7_blotted_100 : decode cX7_blotted 100 = .ok (.iload_n 3, 1) := by decide +kernel
theorem dX7_blotted_101 : decode cX7_blotted 101 = .ok (.iload 8, 2) := by decide +kernel
theorem dX7_blotted_103 : decode cX7_blotted 103 = .ok (.ior, 1) := by decide +kernel
theorem dX7_blotted_104 : decode cX7_blotted 104 = .ok (.istore_n 3, 1) := by decide +kernel
theorem dX7_blotted_105 : decode cX7_blotted 105 = .ok (.goto 10, 3) := by decide +kernel
theorem dX7_blotted_108 : decode cX7_blotted 108 = .ok (.iload 4, 2) := by decide +kernel
theorem dX7_blotted_110 : decode cX7_blotted 110 = .ok (.iload 8, 2) := by decide +kernel
theorem dX7_blotted_112 : decode cX7_blotted 112 = .ok (.ior, 1) := by decide +kernel
theorem dX7_blotted_113 : decode cX7_blotted 113 = .ok (.istore 4, 2) := by decide +kernel
theorem dX7_blotted_115 : decode cX7_blotted 115 = .ok (.iinc 5 1, 3) := by decide +kernel
theorem dX7_blotted_118 : decode cX7_blotted 118 = .ok (.goto (-73), 3) := by decide +kernel
theorem dX7_blotted_121 : decode cX7_blotted 121 = .ok (.aload_n 0, 1) := by decide +kernel
theorem dX7_blotted_122 : decode cX7_blotted 122 = .ok (.getfield 20, 3) := by decide +kernel
theorem dX7_blotted_125 : decode cX7_blotted 125 = .ok (.iload_n 3, 1) := by decide +kernel
theorem dX7_blotted_126 : decode cX7_blotted 126 = .ok (.iload 4, 2) := by decide +kernel
theorem dX7_blotted_128 : decode cX7_blotted 128 = .ok (.invokevirtual 268, 3) := by decide +kernel
theorem dX7_blotted_131 : decode cX7_blotted 131 = .ok (.ireturn, 1) := by decide +kernel
def f_X7_blotted_34  (s : zS) : Option (Int32 × zS) :=
  some ((-4 : Int32), s)
set_option maxRecDepth 20000 in
theorem b_X7_blotted_34 {X : zX} (hX : zx_ok X cX7_blotted RX7 9) (hT : zx_rt X (some .int) (zR 4 85)) : ∀  (s : zS), zV X (zq X zrI) 9 34 [] [] s (f_X7_blotted_34  s) := by
  intro  s
  unfold f_X7_blotted_34
  refine zv_bipush (v := (-4 : Int32)) hX dX7_blotted_34 zi_b_m4 ?_
  exact zv_ireti hX hT dX7_blotted_36
def f_X7_blotted_79  (s : zS) : Option (Int32 × zS) :=
  some ((-3 : Int32), s)
set_option maxRecDepth 20000 in
theorem b_X7_blotted_79 {X : zX} (hX : zx_ok X cX7_blotted RX7 9) (hT : zx_rt X (some .int) (zR 4 85)) : ∀  (s : zS), zV X (zq X zrI) 9 79 [] [] s (f_X7_blotted_79  s) := by
  intro  s
  unfold f_X7_blotted_79
  refine zv_bipush (v := (-3 : Int32)) hX dX7_blotted_79 zi_b_m3 ?_
  exact zv_ireti hX hT dX7_blotted_81
def f_X7_blotted_115 (kb_45 : Int32 → Int32 → Int32 → Int32 → Int32 → zS → Option (Int32 × zS)) (v1 : Int32) (v2 : Int32) (v3 : Int32) (v4 : Int32) (v5 : Int32) (s : zS) : Option (Int32 × zS) :=
  zb (v5 + (1 : Int32)) fun x1 =>
  kb_45 v1 v2 v3 v4 x1 s
set_option maxRecDepth 20000 in
theorem b_X7_blotted_115 {X : zX} {kb_45 : Int32 → Int32 → Int32 → Int32 → Int32 → zS → Option (Int32 × zS)} (hX : zx_ok X cX7_blotted RX7 9) (hT : zx_rt X (some .int) (zR 4 85)) (hk_45 : ∀ (v1 : Int32) (v2 : Int32) (v3 : Int32) (v4 : Int32) (v5 : Int32) (s : zS), zV X (zq X zrI) 9 45 [(0, .ref (zx_ad X 0)), (1, .int v1), (2, .int v2), (3, .int v3), (4, .int v4), (5, .int v5)] [] s (kb_45 v1 v2 v3 v4 v5 s)) : ∀ (v1 : Int32) (v2 : Int32) (v3 : Int32) (v4 : Int32) (v5 : Int32) (s : zS), zV X (zq X zrI) 9 115 [(0, .ref (zx_ad X 0)), (1, .int v1), (2, .int v2), (3, .int v3), (4, .int v4), (5, .int v5)] [] s (f_X7_blotted_115 kb_45 v1 v2 v3 v4 v5 s) := by
  intro v1 v2 v3 v4 v5 s
  unfold f_X7_blotted_115
  refine zv_iincB (lw := fun x1 => [(5, .int x1), (0, .ref (zx_ad X 0)), (1, .int v1), (2, .int v2), (3, .int v3), (4, .int v4)]) hX dX7_blotted_115 5 rfl zi_i_1 (by decide) (fun _ => rfl) (fun x1 => ?_)
  refine zv_goto (tgt := 45) hX dX7_blotted_118 rfl ?_
  exact zv_sub [1, 2, 3, 4, 5, 0] rfl (hk_45 v1 v2 v3 v4 x1 s)
def f_X7_blotted_45 : Nat → Int32 → Int32 → Int32 → Int32 → Int32 → zS → Option (Int32 × zS)
  | 0, _, _, _, _, _, _ => none
  | n + 1, v1, v2, v3, v4, v5, s =>
    if v2 ≤ v5 then
    (zbd (f_X5_withSignsSo_3 v3 v4 s) fun r2 s3 =>
    some (r2, s3))
    else
    zbd (f_X6_numberAt v1 v5 s) fun r4 s5 =>
    if (lg_cmp r4 (0 : Int64)) < 0 then
    (f_X7_blotted_79 s5)
    else
    if (lg_cmp r4 (18 : Int64)) < 0 then
    (zb (zo_shl (1 : Int32) ((zo_lshr r4 (1 : Int32)).toInt32)) fun x6 =>
    if ¬ (lg_cmp (r4 &&& (1 : Int64)) (1 : Int64)) = 0 then
    (zb (v4 ||| x6) fun x7 =>
    f_X7_blotted_115 (f_X7_blotted_45 n) v1 v2 v3 x7 v5 s5)
    else
    zb (v3 ||| x6) fun x8 =>
    f_X7_blotted_115 (f_X7_blotted_45 n) v1 v2 x8 v4 v5 s5)
    else
    f_X7_blotted_79 s5
set_option maxRecDepth 20000 in
theorem b_X7_blotted_45 {X : zX} (hX : zx_ok X cX7_blotted RX7 9) (hT : zx_rt X (some .int) (zR 4 85)) : ∀ (n : Nat) (v1 : Int32) (v2 : Int32) (v3 : Int32) (v4 : Int32) (v5 : Int32) (s : zS), zV X (zq X zrI) 9 45 [(0, .ref (zx_ad X 0)), (1, .int v1), (2, .int v2), (3, .int v3), (4, .int v4), (5, .int v5)] [] s (f_X7_blotted_45 n v1 v2 v3 v4 v5 s) := by
  intro n
  induction n with
  | zero => intro v1 v2 v3 v4 v5 s; exact zv_none
  | succ n ih =>
    intro v1 v2 v3 v4 v5 s
    rw [f_X7_blotted_45]
    refine zv_iload hX dX7_blotted_45 5 rfl ?_
    refine zv_iload_n hX dX7_blotted_47 2 rfl ?_
    refine zv_icmp_ge (tgt := 121) hX dX7_blotted_48 rfl ?_ ?_
    · refine zv_aload_n hX dX7_blotted_121 0 rfl ?_
      refine zv_geta hX wf_X7_20 wc_7 zd_0 zj_0_2 c9_7 zr_0_2 (by decide) dX7_blotted_122 ?_
      refine zv_iload_n hX dX7_blotted_125 3 rfl ?_
      refine zv_iload hX dX7_blotted_126 4 rfl ?_
      refine zv_cVI [.int v3, .int v4] (rest := []) hX hT.2.2.2.2 (c_X5_withSignsSo_3 (zx_Y X) v3 v4 s) wv_X5_withSignsSo c9_5 zd_3 wm_X7_268 rfl (Nat.le_of_ble_eq_true rfl) (Nat.le_of_ble_eq_true rfl) rfl (Nat.le_of_ble_eq_true rfl) dX7_blotted_128 (fun r2 s3 => ?_)
      exact zv_ireti hX hT dX7_blotted_131
    · refine zv_aload_n hX dX7_blotted_51 0 rfl ?_
      refine zv_geta hX wf_X7_52 wc_7 zd_0 zj_0_8 c9_7 zr_0_8 (by decide) dX7_blotted_52 ?_
      refine zv_iload_n hX dX7_blotted_55 1 rfl ?_
      refine zv_iload hX dX7_blotted_56 5 rfl ?_
      refine zv_cVJ [.int v1, .int v5] (rest := []) hX hT.2.2.2.2 (c_X6_numberAt (zx_Y X) v1 v5 s) wv_X6_numberAt c9_6 zd_68 wm_X7_262 rfl (Nat.le_of_ble_eq_true rfl) (Nat.le_of_ble_eq_true rfl) rfl (Nat.le_of_ble_eq_true rfl) dX7_blotted_58 (fun r4 s5 => ?_)
      refine zv_lstore (lv' := [(6, .long r4), (0, .ref (zx_ad X 0)), (1, .int v1), (2, .int v2), (3, .int v3), (4, .int v4), (5, .int v5)]) hX dX7_blotted_61 (by decide) rfl ?_
      refine zv_lload hX dX7_blotted_63 0 rfl ?_
      refine zv_lconst (v := (0 : Int64)) hX dX7_blotted_65 zi_l_0 ?_
      refine zv_lcmp hX dX7_blotted_66 ?_
      refine zv_if_lt (tgt := 79) hX dX7_blotted_67 rfl ?_ ?_
      · exact zv_sub [] rfl (b_X7_blotted_79 hX hT  s5)
      · refine zv_lload hX dX7_blotted_70 0 rfl ?_
        refine zv_ldc2 hX wn_X7_266 dX7_blotted_72 ?_
        refine zv_lcmp hX dX7_blotted_75 ?_
        refine zv_if_lt (tgt := 82) hX dX7_blotted_76 rfl ?_ ?_
        · refine zv_iconst (v := (1 : Int32)) hX dX7_blotted_82 zi_i_1 ?_
          refine zv_lload hX dX7_blotted_83 0 rfl ?_
          refine zv_iconst (v := (1 : Int32)) hX dX7_blotted_85 zi_i_1 ?_
          refine zv_lshr hX dX7_blotted_86 ?_
          refine zv_l2i hX dX7_blotted_87 ?_
          refine zv_ishl hX dX7_blotted_88 ?_
          refine zv_istB (lw := fun x6 => [(8, .int x6), (6, .long r4), (0, .ref (zx_ad X 0)), (1, .int v1), (2, .int v2), (3, .int v3), (4, .int v4), (5, .int v5)]) hX dX7_blotted_89 (by decide) (fun _ => rfl) (fun x6 => ?_)
          refine zv_lload hX dX7_blotted_91 1 rfl ?_
          refine zv_lconst (v := (1 : Int64)) hX dX7_blotted_93 zi_l_1 ?_
          refine zv_land hX dX7_blotted_94 ?_
          refine zv_lconst (v := (1 : Int64)) hX dX7_blotted_95 zi_l_1 ?_
          refine zv_lcmp hX dX7_blotted_96 ?_
          refine zv_if_ne (tgt := 108) hX dX7_blotted_97 rfl ?_ ?_
          · refine zv_iload hX dX7_blotted_108 6 rfl ?_
            refine zv_iload hX dX7_blotted_110 0 rfl ?_
            refine zv_ior hX dX7_blotted_112 ?_
            refine zv_istB (lw := fun x7 => [(4, .int x7), (8, .int x6), (6, .long r4), (0, .ref (zx_ad X 0)), (1, .int v1), (2, .int v2), (3, .int v3), (5, .int v5)]) hX dX7_blotted_113 (by decide) (fun _ => rfl) (fun x7 => ?_)
            exact zv_sub [3, 4, 5, 6, 0, 7] rfl (b_X7_blotted_115 hX hT ih v1 v2 v3 x7 v5 s5)
          · refine zv_iload_n hX dX7_blotted_100 5 rfl ?_
            refine zv_iload hX dX7_blotted_101 0 rfl ?_
            refine zv_ior hX dX7_blotted_103 ?_
            refine zv_istB_n (lw := fun x8 => [(3, .int x8), (8, .int x6), (6, .long r4), (0, .ref (zx_ad X 0)), (1, .int v1), (2, .int v2), (4, .int v4), (5, .int v5)]) hX dX7_blotted_104 (by decide) (fun _ => rfl) (fun x8 => ?_)
            refine zv_goto (tgt := 115) hX dX7_blotted_105 rfl ?_
            exact zv_sub [3, 4, 5, 0, 6, 7] rfl (b_X7_blotted_115 hX hT ih v1 v2 x8 v4 v5 s5)
        · exact zv_sub [] rfl (b_X7_blotted_79 hX hT  s5)
def f_X7_blotted (v1 : Int32) (s : zS) : Option (Int32 × zS) :=
  zbd (f_X6_isMissing v1 s) fun r9 s10 =>
  if r9 = 0 then
  (zbd (f_X6_sizeOf v1 s10) fun r11 s12 =>
  if r11 < (1 : Int32) then
  (f_X7_blotted_34 s12)
  else
  if r11 ≤ (nI 18) then
  (f_X7_blotted_45 zFU v1 r11 (0 : Int32) (0 : Int32) (0 : Int32) s12)
  else
  f_X7_blotted_34 s12)
  else
  some ((-6 : Int32), s10)
set_option maxRecDepth 20000 in
theorem c_X7_blotted (Y : zG) (v1 : Int32) (s : zS) : zM Y yX7_blotted cX7_blotted 9 (some .int) (zR 4 85) [.ref (zy_a Y 0), .int v1] s zrI (f_X7_blotted v1 s) := by
  refine zm_start (by decide +kernel) (Nat.le_of_ble_eq_true rfl) ?_
  intro X hY hT hX
  subst hY
  have hX : zx_ok X cX7_blotted RX7 9 := hX
  show zV X (zq X zrI) 9 0 [(0, .ref (zx_ad X 0)), (1, .int v1)] [] s _
  unfold f_X7_blotted
  refine zv_aload_n hX dX7_blotted_0 0 rfl ?_
  refine zv_geta hX wf_X7_52 wc_7 zd_0 zj_0_8 c9_7 zr_0_8 (by decide) dX7_blotted_1 ?_
  refine zv_iload_n hX dX7_blotted_4 1 rfl ?_
  refine zv_cVI [.int v1] (rest := []) hX hT.2.2.2.2 (c_X6_isMissing (zx_Y X) v1 s) wv_X6_isMissing c9_6 zd_68 wm_X7_180 rfl (Nat.le_of_ble_eq_true rfl) (Nat.le_of_ble_eq_true rfl) rfl (Nat.le_of_ble_eq_true rfl) dX7_blotted_5 (fun r9 s10 => ?_)
  refine zv_if_eq (tgt := 14) hX dX7_blotted_8 rfl ?_ ?_
  · refine zv_aload_n hX dX7_blotted_14 0 rfl ?_
    refine zv_geta hX wf_X7_52 wc_7 zd_0 zj_0_8 c9_7 zr_0_8 (by decide) dX7_blotted_15 ?_
    refine zv_iload_n hX dX7_blotted_18 1 rfl ?_
    refine zv_cVI [.int v1] (rest := []) hX hT.2.2.2.2 (c_X6_sizeOf (zx_Y X) v1 s10) wv_X6_sizeOf c9_6 zd_68 wm_X7_259 rfl (Nat.le_of_ble_eq_true rfl) (Nat.le_of_ble_eq_true rfl) rfl (Nat.le_of_ble_eq_true rfl) dX7_blotted_19 (fun r11 s12 => ?_)
    refine zv_istore_n (lv' := [(2, .int r11), (0, .ref (zx_ad X 0)), (1, .int v1)]) hX dX7_blotted_22 (by decide) rfl ?_
    refine zv_iload_n hX dX7_blotted_23 0 rfl ?_
    refine zv_iconst (v := (1 : Int32)) hX dX7_blotted_24 zi_i_1 ?_
    refine zv_icmp_lt (tgt := 34) hX dX7_blotted_25 rfl ?_ ?_
    · exact zv_sub [] rfl (b_X7_blotted_34 hX hT  s12)
    · refine zv_iload_n hX dX7_blotted_28 0 rfl ?_
      refine zv_bipush (v := (nI 18)) hX dX7_blotted_29 zi_b_18 ?_
      refine zv_icmp_le (tgt := 37) hX dX7_blotted_31 rfl ?_ ?_
      · refine zv_iconst (v := (0 : Int32)) hX dX7_blotted_37 zi_i_0 ?_
        refine zv_istore_n (lv' := [(3, .int (0 : Int32)), (2, .int r11), (0, .ref (zx_ad X 0)), (1, .int v1)]) hX dX7_blotted_38 (by decide) rfl ?_
        refine zv_iconst (v := (0 : Int32)) hX dX7_blotted_39 zi_i_0 ?_
        refine zv_istore (lv' := [(4, .int (0 : Int32)), (3, .int (0 : Int32)), (2, .int r11), (0, .ref (zx_ad X 0)), (1, .int v1)]) hX dX7_blotted_40 (by decide) rfl ?_
        refine zv_iconst (v := (0 : Int32)) hX dX7_blotted_42 zi_i_0 ?_
        refine zv_istore (lv' := [(5, .int (0 : Int32)), (4, .int (0 : Int32)), (3, .int (0 : Int32)), (2, .int r11), (0, .ref (zx_ad X 0)), (1, .int v1)]) hX dX7_blotted_43 (by decide) rfl ?_
        exact zv_sub [4, 5, 3, 2, 1, 0] rfl (b_X7_blotted_45 hX hT zFU v1 r11 (0 : Int32) (0 : Int32) (0 : Int32) s12)
      · exact zv_sub [] rfl (b_X7_blotted_34 hX hT  s12)
  · refine zv_bipush (v := (-6 : Int32)) hX dX7_blotted_11 zi_b_m6 ?_
    exact zv_ireti hX hT dX7_blotted_13
theorem dX7_blot_0 : decode cX7_blot 0 = .ok (.aload_n 0, 1) := by decide +kernel
theorem dX7_blot_1 : decode cX7_blot 1 = .ok (.getfield 52, 3) := by decide +kernel
theorem dX7_blot_4 : decode cX7_blot 4 = .ok (.iload_n 1, 1) := by decide +kernel
theorem dX7_blot_5 : decode cX7_blot 5 = .ok (.invokevirtual 177, 3) := by decide +kernel
theorem dX7_blot_8 : decode cX7_blot 8 = .ok (.ifCond .eq 11, 3) := by decide +kernel
theorem dX7_blot_11 : decode cX7_blot 11 = .ok (.aload_n 0, 1) := by decide +kernel
theorem dX7_blot_12 : decode cX7_blot 12 = .ok (.iload_n 1, 1) := by decide +kernel
theorem dX7_blot_13 : decode cX7_blot 13 = .ok (.invokevirtual 256, 3) := by decide +kernel
theorem dX7_blot_16 : decode cX7_blot 16 = .ok (.goto 5, 3) := by decide +kernel
theorem dX7_blot_19 : decode cX7_blot 19 = .ok (.bipush (-2), 2) := by decide +kernel
theorem dX7_blot_21 : decode cX7_blot 21 = .ok (.ireturn, 1) := by decide +kernel
def f_X7_blot_21 (w0 : Int32) (s : zS) : Option (Int32 × zS) :=
  some (w0, s)
set_option maxRecDepth 20000 in
theorem b_X7_blot_21 {X : zX} (hX : zx_ok X cX7_blot RX7 2) (hT : zx_rt X (some .int) (zR 5 113)) : ∀ (w0 : Int32) (s : zS), zV X (zq X zrI) 2 21 [] [.int w0] s (f_X7_blot_21 w0 s) := by
  intro w0 s
  unfold f_X7_blot_21
  exact zv_ireti hX hT dX7_blot_21
def f_X7_blot (v1 : Int32) (s : zS) : Option (Int32 × zS) :=
  zbd (f_X6_isOne v1 s) fun r1 s2 =>
  if r1 = 0 then
  (f_X7_blot_21 (-2 : Int32) s2)
  else
  zbd (f_X7_blotted v1 s2) fun r3 s4 =>
  f_X7_blot_21 r3 s4
set_option maxRecDepth 20000 in
theorem c_X7_blot (Y : zG) (v1 : Int32) (s : zS) : zM Y yX7_blot cX7_blot 2 (some .int) (zR 5 113) [.ref (zy_a Y 0), .int v1] s zrI (f_X7_blot v1 s) := by
  refine zm_start (by decide +kernel) (Nat.le_of_ble_eq_true rfl) ?_
  intro X hY hT hX
  subst hY
  have hX : zx_ok X cX7_blot RX7 2 := hX
  show zV X (zq X zrI) 2 0 [(0, .ref (zx_ad X 0)), (1, .int v1)] [] s _
  unfold f_X7_blot
  refine zv_aload_n hX dX7_blot_0 0 rfl ?_
  refine zv_geta hX wf_X7_52 wc_7 zd_0 zj_0_8 c9_7 zr_0_8 (by decide) dX7_blot_1 ?_
  refine zv_iload_n hX dX7_blot_4 1 rfl ?_
  refine zv_cVI [.int v1] (rest := []) hX hT.2.2.2.2 (c_X6_isOne (zx_Y X) v1 s) wv_X6_isOne c9_6 zd_68 wm_X7_177 rfl (Nat.le_of_ble_eq_true rfl) (Nat.le_of_ble_eq_true rfl) rfl (Nat.le_of_ble_eq_true rfl) dX7_blot_5 (fun r1 s2 => ?_)
  refine zv_if_eq (tgt := 19) hX dX7_blot_8 rfl ?_ ?_
  · refine zv_bipush (v := (-2 : Int32)) hX dX7_blot_19 zi_b_m2 ?_
    exact zv_sub [] rfl (b_X7_blot_21 hX hT (-2 : Int32) s2)
  · refine zv_aload_n hX dX7_blot_11 0 rfl ?_
    refine zv_iload_n hX dX7_blot_12 1 rfl ?_
    refine zv_cVI [.int v1] (rest := []) hX hT.2.2.2.2 (c_X7_blotted (zx_Y X) v1 s2) wv_X7_blotted c9_7 zd_0 wm_X7_256 rfl (Nat.le_of_ble_eq_true rfl) (Nat.le_of_ble_eq_true rfl) rfl (Nat.le_of_ble_eq_true rfl) dX7_blot_13 (fun r3 s4 => ?_)
    refine zv_goto (tgt := 21) hX dX7_blot_16 rfl ?_
    exact zv_sub [] rfl (b_X7_blot_21 hX hT r3 s4)
