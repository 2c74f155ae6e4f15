theorem dX0_mostTwosOf_0 : decode cX0_mostTwosOf 0 = .ok (.iload_n 1, 1) := by decide +kernel
theorem dX0_mostTwosOf_1 : decode cX0_mostTwosOf 1 = .ok (.ifCond .ne 5, 3) := by decide +kernel
theorem dX0_mostTwosOf_4 : decode cX0_mostTwosOf 4 = .ok (.iconst 0, 1) := by decide +kernel
theorem dX0_mostTwosOf_5 : decode cX0_mostTwosOf 5 = .ok (.ireturn, 1) := by decide +kernel
theorem dX0_mostTwosOf_6 : decode cX0_mostTwosOf 6 = .ok (.iconst 0, 1) := by decide +kernel
theorem dX0_mostTwosOf_7 : decode cX0_mostTwosOf 7 = .ok (.istore_n 2, 1) := by decide +kernel
theorem dX0_mostTwosOf_8 : decode cX0_mostTwosOf 8 = .ok (.iconst 0, 1) := by decide +kernel
theorem dX0_mostTwosOf_9 : decode cX0_mostTwosOf 9 = .ok (.istore_n 3, 1) := by decide +kernel
theorem dX0_mostTwosOf_10 : decode cX0_mostTwosOf 10 = .ok (.iload_n 3, 1) := by decide +kernel
theorem dX0_mostTwosOf_11 : decode cX0_mostTwosOf 11 = .ok (.aload_n 0, 1) := by decide +kernel
theorem dX0_mostTwosOf_12 : decode cX0_mostTwosOf 12 = .ok (.getfield 33, 3) := by decide +kernel
theorem dX0_mostTwosOf_15 : decode cX0_mostTwosOf 15 = .ok (.getfield 65, 3) := by decide +kernel
theorem dX0_mostTwosOf_18 : decode cX0_mostTwosOf 18 = .ok (.if_icmp .ge 24, 3) := by decide +kernel
theorem dX0_mostTwosOf_21 : decode cX0_mostTwosOf 21 = .ok (.iload_n 1, 1) := by decide +kernel
theorem dX0_mostTwosOf_22 : decode cX0_mostTwosOf 22 = .ok (.iload_n 3, 1) := by decide +kernel
theorem dX0_mostTwosOf_23 : decode cX0_mostTwosOf 23 = .ok (.iushr, 1) := by decide +kernel
theorem dX0_mostTwosOf_24 : decode cX0_mostTwosOf 24 = .ok (.iconst 1, 1) := by decide +kernel
theorem dX0_mostTwosOf_25 : decode cX0_mostTwosOf 25 = .ok (.iand, 1) := by decide +kernel
theorem dX0_mostTwosOf_26 : decode cX0_mostTwosOf 26 = .ok (.iconst 1, 1) := by decide +kernel
theorem dX0_mostTwosOf_27 : decode cX0_mostTwosOf 27 = .ok (.if_icmp .ne 7, 3) := by decide +kernel
theorem dX0_mostTwosOf_30 : decode cX0_mostTwosOf 30 = .ok (.iload_n 3, 1) := by decide +kernel
theorem dX0_mostTwosOf_31 : decode cX0_mostTwosOf 31 = .ok (.goto 4, 3) := by decide +kernel
theorem dX0_mostTwosOf_34 : decode cX0_mostTwosOf 34 = .ok (.iload_n 2, 1) := by decide +kernel
theorem dX0_mostTwosOf_35 : decode cX0_mostTwosOf 35 = .ok (.istore_n 2, 1) := by decide +kernel
theorem dX0_mostTwosOf_36 : decode cX0_mostTwosOf 36 = .ok (.iinc 3 1, 3) := by decide +kernel
theorem dX0_mostTwosOf_39 : decode cX0_mostTwosOf 39 = .ok (.goto (-29), 3) := by decide +kernel
theorem dX0_mostTwosOf_42 : decode cX0_mostTwosOf 42 = .ok (.iload_n 1, 1) := by decide +kernel
theorem dX0_mostTwosOf_43 : decode cX0_mostTwosOf 43 = .ok (.iconst 1, 1) := by decide +kernel
theorem dX0_mostTwosOf_44 : decode cX0_mostTwosOf 44 = .ok (.iload_n 2, 1) := by decide +kernel
theorem dX0_mostTwosOf_45 : decode cX0_mostTwosOf 45 = .ok (.ishl, 1) := by decide +kernel
theorem dX0_mostTwosOf_46 : decode cX0_mostTwosOf 46 = .ok (.iconst (-1), 1) := by decide +kernel
theorem dX0_mostTwosOf_47 : decode cX0_mostTwosOf 47 = .ok (.ixor, 1) := by decide +kernel
theorem dX0_mostTwosOf_48 : decode cX0_mostTwosOf 48 = .ok (.iand, 1) := by decide +kernel
theorem dX0_mostTwosOf_49 : decode cX0_mostTwosOf 49 = .ok (.istore_n 3, 1) := by decide +kernel
theorem dX0_mostTwosOf_50 : decode cX0_mostTwosOf 50 = .ok (.aload_n 0, 1) := by decide +kernel
theorem dX0_mostTwosOf_51 : decode cX0_mostTwosOf 51 = .ok (.getfield 30, 3) := by decide +kernel
theorem dX0_mostTwosOf_54 : decode cX0_mostTwosOf 54 = .ok (.iload_n 3, 1) := by decide +kernel
theorem dX0_mostTwosOf_55 : decode cX0_mostTwosOf 55 = .ok (.iaload, 1) := by decide +kernel
theorem dX0_mostTwosOf_56 : decode cX0_mostTwosOf 56 = .ok (.istore 4, 2) := by decide +kernel
theorem dX0_mostTwosOf_58 : decode cX0_mostTwosOf 58 = .ok (.iconst 0, 1) := by decide +kernel
theorem dX0_mostTwosOf_59 : decode cX0_mostTwosOf 59 = .ok (.istore 5, 2) := by decide +kernel
theorem dX0_mostTwosOf_61 : decode cX0_mostTwosOf 61 = .ok (.iload 5, 2) := by decide +kernel
theorem dX0_mostTwosOf_63 : decode cX0_mostTwosOf 63 = .ok (.iload_n 2, 1) := by decide +kernel
theorem dX0_mostTwosOf_64 : decode cX0_mostTwosOf 64 = .ok (.if_icmp .ge 51, 3) := by decide +kernel
theorem dX0_mostTwosOf_67 : decode cX0_mostTwosOf 67 = .ok (.iload_n 3, 1) := by decide +kernel
theorem dX0_mostTwosOf_68 : decode cX0_mostTwosOf 68 = .ok (.iload 5, 2) := by decide +kernel
theorem dX0_mostTwosOf_70 : decode cX0_mostTwosOf 70 = .ok (.iushr, 1) := by decide +kernel
theorem dX0_mostTwosOf_71 : decode cX0_mostTwosOf 71 = .ok (.iconst 1, 1) := by decide +kernel
theorem dX0_mostTwosOf_72 : decode cX0_mostTwosOf 72 = .ok (.iand, 1) := by decide +kernel
theorem dX0_mostTwosOf_73 : decode cX0_mostTwosOf 73 = .ok (.iconst 1, 1) := by decide +kernel
theorem dX0_mostTwosOf_74 : decode cX0_mostTwosOf 74 = .ok (.if_icmp .ne 35, 3) := by decide +kernel
theorem dX0_mostTwosOf_77 : decode cX0_mostTwosOf 77 = .ok (.aload_n 0, 1) := by decide +kernel
theorem dX0_mostTwosOf_78 : decode cX0_mostTwosOf 78 = .ok (.iload_n 2, 1) := by decide +kernel
theorem dX0_mostTwosOf_79 : decode cX0_mostTwosOf 79 = .ok (.iload 5, 2) := by decide +kernel
theorem dX0_mostTwosOf_81 : decode cX0_mostTwosOf 81 = .ok (.invokevirtual 82, 3) := by decide +kernel
theorem dX0_mostTwosOf_84 : decode cX0_mostTwosOf 84 = .ok (.ifCond .eq 25, 3) := by decide +kernel
theorem dX0_mostTwosOf_87 : decode cX0_mostTwosOf 87 = .ok (.iload 4, 2) := by decide +kernel
theorem dX0_mostTwosOf_89 : decode cX0_mostTwosOf 89 = .ok (.iconst 1, 1) := by decide +kernel
theorem dX0_mostTwosOf_90 : decode cX0_mostTwosOf 90 = .ok (.aload_n 0, 1) := by decide +kernel
theorem dX0_mostTwosOf_91 : decode cX0_mostTwosOf 91 = .ok (.getfield 30, 3) := by decide +kernel
theorem dX0_mostTwosOf_94 : decode cX0_mostTwosOf 94 = .ok (.iload_n 3, 1) := by decide +kernel
theorem dX0_mostTwosOf_95 : decode cX0_mostTwosOf 95 = .ok (.iconst 1, 1) := by decide +kernel
theorem dX0_mostTwosOf_96 : decode cX0_mostTwosOf 96 = .ok (.iload 5, 2) := by decide +kernel
theorem dX0_mostTwosOf_98 : decode cX0_mostTwosOf 98 = .ok (.ishl, 1) := by decide +kernel
theorem dX0_mostTwosOf_99 : decode cX0_mostTwosOf 99 = .ok (.iconst (-1), 1) := by decide +kernel
theorem dX0_mostTwosOf_100 : decode cX0_mostTwosOf 100 = .ok (.ixor, 1) := by decide +kernel
theorem dX0_mostTwosOf_101 : decode cX0_mostTwosOf 101 = .ok (.iand, 1) := by decide +kernel
theorem dX0_mostTwosOf_102 : decode cX0_mostTwosOf 102 = .ok (.iaload, 1) := by decide +kernel
theorem dX0_mostTwosOf_103 : decode cX0_mostTwosOf 103 = .ok (.iadd, 1) := by decide +kernel
theorem dX0_mostTwosOf_104 : decode cX0_mostTwosOf 104 = .ok (.invokestatic 143, 3) := by decide +kernel
theorem dX0_mostTwosOf_107 : decode cX0_mostTwosOf 107 = .ok (.istore 4, 2) := by decide +kernel
theorem dX0_mostTwosOf_109 : decode cX0_mostTwosOf 109 = .ok (.iinc 5 1, 3) := by decide +kernel
theorem dX0_mostTwosOf_112 : decode cX0_mostTwosOf 112 = .ok (.goto (-51), 3) := by decide +kernel
theorem dX0_mostTwosOf_115 : decode cX0_mostTwosOf 115 = .ok (.iload 4, 2) := by decide +kernel
theorem dX0_mostTwosOf_117 : decode cX0_mostTwosOf 117 = .ok (.ireturn, 1) := by decide +kernel
def f_X0_mostTwosOf_109 (kb_61 : Int32 → Int32 → Int32 → Int32 → zS → Option (Int32 × zS)) (v2 : Int32) (v3 : Int32) (v4 : Int32) (v5 : Int32) (s : zS) : Option (Int32 × zS) :=
  zb (v5 + (1 : Int32)) fun x1 =>
  kb_61 v2 v3 v4 x1 s
set_option maxRecDepth 20000 in
theorem b_X0_mostTwosOf_109 {X : zX} {kb_61 : Int32 → Int32 → Int32 → Int32 → zS → Option (Int32 × zS)} (hX : zx_ok X cX0_mostTwosOf RX0 6) (hT : zx_rt X (some .int) (zR 1 22)) (hk_61 : ∀ (v2 : Int32) (v3 : Int32) (v4 : Int32) (v5 : Int32) (s : zS), zV X (zq X zrI) 6 61 [(0, .ref (zx_ad X 60)), (2, .int v2), (3, .int v3), (4, .int v4), (5, .int v5)] [] s (kb_61 v2 v3 v4 v5 s)) : ∀ (v2 : Int32) (v3 : Int32) (v4 : Int32) (v5 : Int32) (s : zS), zV X (zq X zrI) 6 109 [(0, .ref (zx_ad X 60)), (2, .int v2), (3, .int v3), (4, .int v4), (5, .int v5)] [] s (f_X0_mostTwosOf_109 kb_61 v2 v3 v4 v5 s) := by
  intro v2 v3 v4 v5 s
  unfold f_X0_mostTwosOf_109
  refine zv_iincB (lw := fun x1 => [(5, .int x1), (0, .ref (zx_ad X 60)), (2, .int v2), (3, .int v3), (4, .int v4)]) hX dX0_mostTwosOf_109 4 rfl zi_i_1 (by decide) (fun _ => rfl) (fun x1 => ?_)
  refine zv_goto (tgt := 61) hX dX0_mostTwosOf_112 rfl ?_
  exact zv_sub [1, 2, 3, 4, 0] rfl (hk_61 v2 v3 v4 x1 s)
def f_X0_mostTwosOf_61 : Nat → Int32 → Int32 → Int32 → Int32 → zS → Option (Int32 × zS)
  | 0, _, _, _, _, _ => none
  | n + 1, v2, v3, v4, v5, s =>
    if v2 ≤ v5 then
    (some (v4, s))
    else
    if ¬ ((zo_ush v3 v5) &&& (1 : Int32)) = (1 : Int32) then
    (f_X0_mostTwosOf_109 (f_X0_mostTwosOf_61 n) v2 v3 v4 v5 s)
    else
    zbd (f_X0_areKnownToMatch v2 v5 s) fun r2 s3 =>
    if r2 = 0 then
    (f_X0_mostTwosOf_109 (f_X0_mostTwosOf_61 n) v2 v3 v4 v5 s3)
    else
    (zr_i s3 67 (v3 &&& ((zo_shl (1 : Int32) v5) ^^^ (-1 : Int32)))).bind fun x4 =>
    zbd (f_J9_max_7cf53 v4 ((1 : Int32) + x4) s3) fun r5 s6 =>
    f_X0_mostTwosOf_109 (f_X0_mostTwosOf_61 n) v2 v3 r5 v5 s6
set_option maxRecDepth 20000 in
theorem b_X0_mostTwosOf_61 {X : zX} (hX : zx_ok X cX0_mostTwosOf RX0 6) (hT : zx_rt X (some .int) (zR 1 22)) : ∀ (n : Nat) (v2 : Int32) (v3 : Int32) (v4 : Int32) (v5 : Int32) (s : zS), zV X (zq X zrI) 6 61 [(0, .ref (zx_ad X 60)), (2, .int v2), (3, .int v3), (4, .int v4), (5, .int v5)] [] s (f_X0_mostTwosOf_61 n v2 v3 v4 v5 s) := by
  intro n
  induction n with
  | zero => intro v2 v3 v4 v5 s; exact zv_none
  | succ n ih =>
    intro v2 v3 v4 v5 s
    rw [f_X0_mostTwosOf_61]
    refine zv_iload hX dX0_mostTwosOf_61 4 rfl ?_
    refine zv_iload_n hX dX0_mostTwosOf_63 1 rfl ?_
    refine zv_icmp_ge (tgt := 115) hX dX0_mostTwosOf_64 rfl ?_ ?_
    · refine zv_iload hX dX0_mostTwosOf_115 3 rfl ?_
      exact zv_ireti hX hT dX0_mostTwosOf_117
    · refine zv_iload_n hX dX0_mostTwosOf_67 2 rfl ?_
      refine zv_iload hX dX0_mostTwosOf_68 4 rfl ?_
      refine zv_iushr hX dX0_mostTwosOf_70 ?_
      refine zv_iconst (v := (1 : Int32)) hX dX0_mostTwosOf_71 zi_i_1 ?_
      refine zv_iand hX dX0_mostTwosOf_72 ?_
      refine zv_iconst (v := (1 : Int32)) hX dX0_mostTwosOf_73 zi_i_1 ?_
      refine zv_icmp_ne (tgt := 109) hX dX0_mostTwosOf_74 rfl ?_ ?_
      · exact b_X0_mostTwosOf_109 hX hT ih v2 v3 v4 v5 s
      · refine zv_aload_n hX dX0_mostTwosOf_77 0 rfl ?_
        refine zv_iload_n hX dX0_mostTwosOf_78 1 rfl ?_
        refine zv_iload hX dX0_mostTwosOf_79 4 rfl ?_
        refine zv_cVI [.int v2, .int v5] (rest := []) hX hT.2.2.2.2 (c_X0_areKnownToMatch (zx_Y X) v2 v5 s) wv_X0_areKnownToMatch c9_0 zd_60 wm_X0_82 rfl (Nat.le_of_ble_eq_true rfl) (Nat.le_of_ble_eq_true rfl) rfl (Nat.le_of_ble_eq_true rfl) dX0_mostTwosOf_81 (fun r2 s3 => ?_)
        refine zv_if_eq (tgt := 109) hX dX0_mostTwosOf_84 rfl ?_ ?_
        · exact b_X0_mostTwosOf_109 hX hT ih v2 v3 v4 v5 s3
        · refine zv_iload hX dX0_mostTwosOf_87 3 rfl ?_
          refine zv_iconst (v := (1 : Int32)) hX dX0_mostTwosOf_89 zi_i_1 ?_
          refine zv_aload_n hX dX0_mostTwosOf_90 0 rfl ?_
          refine zv_geta hX wf_X0_30 wc_0 zd_60 zj_60_13 c9_0 zr_60_13 (by decide) dX0_mostTwosOf_91 ?_
          refine zv_iload_n hX dX0_mostTwosOf_94 2 rfl ?_
          refine zv_iconst (v := (1 : Int32)) hX dX0_mostTwosOf_95 zi_i_1 ?_
          refine zv_iload hX dX0_mostTwosOf_96 4 rfl ?_
          refine zv_ishl hX dX0_mostTwosOf_98 ?_
          refine zv_iconst (v := (-1 : Int32)) hX dX0_mostTwosOf_99 zi_i_m1 ?_
          refine zv_ixor hX dX0_mostTwosOf_100 ?_
          refine zv_iand hX dX0_mostTwosOf_101 ?_
          refine zv_iald hX dX0_mostTwosOf_102 (fun x4 => ?_)
          refine zv_iadd hX dX0_mostTwosOf_103 ?_
          refine zv_cSI [.int v4, .int ((1 : Int32) + x4)] (rest := []) hX hT.2.2.2.2 (c_J9_max_7cf53 (zx_Y X) v4 ((1 : Int32) + x4) s3) wv_J9_max_7cf53 wm_X0_143 rfl (Nat.le_of_ble_eq_true rfl) (Nat.le_of_ble_eq_true rfl) rfl (Nat.le_of_ble_eq_true rfl) dX0_mostTwosOf_104 (fun r5 s6 => ?_)
          refine zv_istore (lv' := [(4, .int r5), (0, .ref (zx_ad X 60)), (2, .int v2), (3, .int v3), (5, .int v5)]) hX dX0_mostTwosOf_107 (by decide) rfl ?_
          exact zv_sub [1, 2, 3, 0, 4] rfl (b_X0_mostTwosOf_109 hX hT ih v2 v3 r5 v5 s6)
def f_X0_mostTwosOf_35 (kb_10 : Int32 → Int32 → Int32 → zS → Option (Int32 × zS)) (v1 : Int32) (v3 : Int32) (w0 : Int32) (s : zS) : Option (Int32 × zS) :=
  zb (v3 + (1 : Int32)) fun x7 =>
  kb_10 v1 w0 x7 s
set_option maxRecDepth 20000 in
theorem b_X0_mostTwosOf_35 {X : zX} {kb_10 : Int32 → Int32 → Int32 → zS → Option (Int32 × zS)} (hX : zx_ok X cX0_mostTwosOf RX0 6) (hT : zx_rt X (some .int) (zR 1 22)) (hk_10 : ∀ (v1 : Int32) (v2 : Int32) (v3 : Int32) (s : zS), zV X (zq X zrI) 6 10 [(0, .ref (zx_ad X 60)), (1, .int v1), (2, .int v2), (3, .int v3)] [] s (kb_10 v1 v2 v3 s)) : ∀ (v1 : Int32) (v3 : Int32) (w0 : Int32) (s : zS), zV X (zq X zrI) 6 35 [(0, .ref (zx_ad X 60)), (1, .int v1), (3, .int v3)] [.int w0] s (f_X0_mostTwosOf_35 kb_10 v1 v3 w0 s) := by
  intro v1 v3 w0 s
  unfold f_X0_mostTwosOf_35
  refine zv_istore_n (lv' := [(2, .int w0), (0, .ref (zx_ad X 60)), (1, .int v1), (3, .int v3)]) hX dX0_mostTwosOf_35 (by decide) rfl ?_
  refine zv_iincB (lw := fun x7 => [(3, .int x7), (2, .int w0), (0, .ref (zx_ad X 60)), (1, .int v1)]) hX dX0_mostTwosOf_36 3 rfl zi_i_1 (by decide) (fun _ => rfl) (fun x7 => ?_)
  refine zv_goto (tgt := 10) hX dX0_mostTwosOf_39 rfl ?_
  exact zv_sub [2, 3, 1, 0] rfl (hk_10 v1 w0 x7 s)
def f_X0_mostTwosOf_10 : Nat → Int32 → Int32 → Int32 → zS → Option (Int32 × zS)
  | 0, _, _, _, _ => none
  | n + 1, v1, v2, v3, s =>
    if (s.1 3 0) ≤ v3 then
    (zb (v1 &&& ((zo_shl (1 : Int32) v2) ^^^ (-1 : Int32))) fun x8 =>
    (zr_i s 67 x8).bind fun x9 =>
    f_X0_mostTwosOf_61 zFU v2 x8 x9 (0 : Int32) s)
    else
    if ¬ ((zo_ush v1 v3) &&& (1 : Int32)) = (1 : Int32) then
    (f_X0_mostTwosOf_35 (f_X0_mostTwosOf_10 n) v1 v3 v2 s)
    else
    f_X0_mostTwosOf_35 (f_X0_mostTwosOf_10 n) v1 v3 v3 s
set_option maxRecDepth 20000 in
theorem b_X0_mostTwosOf_10 {X : zX} (hX : zx_ok X cX0_mostTwosOf RX0 6) (hT : zx_rt X (some .int) (zR 1 22)) : ∀ (n : Nat) (v1 : Int32) (v2 : Int32) (v3 : Int32) (s : zS), zV X (zq X zrI) 6 10 [(0, .ref (zx_ad X 60)), (1, .int v1), (2, .int v2), (3, .int v3)] [] s (f_X0_mostTwosOf_10 n v1 v2 v3 s) := by
  intro n
  induction n with
  | zero => intro v1 v2 v3 s; exact zv_none
  | succ n ih =>
    intro v1 v2 v3 s
    rw [f_X0_mostTwosOf_10]
    refine zv_iload_n hX dX0_mostTwosOf_10 3 rfl ?_
    refine zv_aload_n hX dX0_mostTwosOf_11 0 rfl ?_
    refine zv_geta hX wf_X0_33 wc_0 zd_60 zj_60_0 c9_0 zr_60_0 (by decide) dX0_mostTwosOf_12 ?_
    refine zv_geti hX wf_X0_65 wc_5 zd_3 zj_3_0 c9_5 zr_3_0 dX0_mostTwosOf_15 ?_
    refine zv_icmp_ge (tgt := 42) hX dX0_mostTwosOf_18 rfl ?_ ?_
    · refine zv_iload_n hX dX0_mostTwosOf_42 1 rfl ?_
      refine zv_iconst (v := (1 : Int32)) hX dX0_mostTwosOf_43 zi_i_1 ?_
      refine zv_iload_n hX dX0_mostTwosOf_44 2 rfl ?_
      refine zv_ishl hX dX0_mostTwosOf_45 ?_
      refine zv_iconst (v := (-1 : Int32)) hX dX0_mostTwosOf_46 zi_i_m1 ?_
      refine zv_ixor hX dX0_mostTwosOf_47 ?_
      refine zv_iand hX dX0_mostTwosOf_48 ?_
      refine zv_istB_n (lw := fun x8 => [(3, .int x8), (0, .ref (zx_ad X 60)), (1, .int v1), (2, .int v2)]) hX dX0_mostTwosOf_49 (by decide) (fun _ => rfl) (fun x8 => ?_)
      refine zv_aload_n hX dX0_mostTwosOf_50 1 rfl ?_
      refine zv_geta hX wf_X0_30 wc_0 zd_60 zj_60_13 c9_0 zr_60_13 (by decide) dX0_mostTwosOf_51 ?_
      refine zv_iload_n hX dX0_mostTwosOf_54 0 rfl ?_
      refine zv_iald hX dX0_mostTwosOf_55 (fun x9 => ?_)
      refine zv_istore (lv' := [(4, .int x9), (3, .int x8), (0, .ref (zx_ad X 60)), (1, .int v1), (2, .int v2)]) hX dX0_mostTwosOf_56 (by decide) rfl ?_
      refine zv_iconst (v := (0 : Int32)) hX dX0_mostTwosOf_58 zi_i_0 ?_
      refine zv_istore (lv' := [(5, .int (0 : Int32)), (4, .int x9), (3, .int x8), (0, .ref (zx_ad X 60)), (1, .int v1), (2, .int v2)]) hX dX0_mostTwosOf_59 (by decide) rfl ?_
      exact zv_sub [3, 5, 2, 1, 0] rfl (b_X0_mostTwosOf_61 hX hT zFU v2 x8 x9 (0 : Int32) s)
    · refine zv_iload_n hX dX0_mostTwosOf_21 1 rfl ?_
      refine zv_iload_n hX dX0_mostTwosOf_22 3 rfl ?_
      refine zv_iushr hX dX0_mostTwosOf_23 ?_
      refine zv_iconst (v := (1 : Int32)) hX dX0_mostTwosOf_24 zi_i_1 ?_
      refine zv_iand hX dX0_mostTwosOf_25 ?_
      refine zv_iconst (v := (1 : Int32)) hX dX0_mostTwosOf_26 zi_i_1 ?_
      refine zv_icmp_ne (tgt := 34) hX dX0_mostTwosOf_27 rfl ?_ ?_
      · refine zv_iload_n hX dX0_mostTwosOf_34 2 rfl ?_
        exact zv_sub [0, 1, 3] rfl (b_X0_mostTwosOf_35 hX hT ih v1 v3 v2 s)
      · refine zv_iload_n hX dX0_mostTwosOf_30 3 rfl ?_
        refine zv_goto (tgt := 35) hX dX0_mostTwosOf_31 rfl ?_
        exact zv_sub [0, 1, 3] rfl (b_X0_mostTwosOf_35 hX hT ih v1 v3 v3 s)
def f_X0_mostTwosOf (v1 : Int32) (s : zS) : Option (Int32 × zS) :=
  if ¬ v1 = 0 then
  (f_X0_mostTwosOf_10 zFU v1 (0 : Int32) (0 : Int32) s)
  else
  some ((0 : Int32), s)
set_option maxRecDepth 20000 in
theorem c_X0_mostTwosOf (Y : zG) (v1 : Int32) (s : zS) : zM Y yX0_mostTwosOf cX0_mostTwosOf 6 (some .int) (zR 1 22) [.ref (zy_a Y 60), .int v1] s zrI (f_X0_mostTwosOf v1 s) := by
  refine zm_start (by decide +kernel) (Nat.le_of_ble_eq_true rfl) ?_
  intro X hY hT hX
  subst hY
  have hX : zx_ok X cX0_mostTwosOf RX0 6 := hX
  show zV X (zq X zrI) 6 0 [(0, .ref (zx_ad X 60)), (1, .int v1)] [] s _
  unfold f_X0_mostTwosOf
  refine zv_iload_n hX dX0_mostTwosOf_0 1 rfl ?_
  refine zv_if_ne (tgt := 6) hX dX0_mostTwosOf_1 rfl ?_ ?_
  · refine zv_iconst (v := (0 : Int32)) hX dX0_mostTwosOf_6 zi_i_0 ?_
    refine zv_istore_n (lv' := [(2, .int (0 : Int32)), (0, .ref (zx_ad X 60)), (1, .int v1)]) hX dX0_mostTwosOf_7 (by decide) rfl ?_
    refine zv_iconst (v := (0 : Int32)) hX dX0_mostTwosOf_8 zi_i_0 ?_
    refine zv_istore_n (lv' := [(3, .int (0 : Int32)), (2, .int (0 : Int32)), (0, .ref (zx_ad X 60)), (1, .int v1)]) hX dX0_mostTwosOf_9 (by decide) rfl ?_
    exact zv_sub [2, 3, 1, 0] rfl (b_X0_mostTwosOf_10 hX hT zFU v1 (0 : Int32) (0 : Int32) s)
  · refine zv_iconst (v := (0 : Int32)) hX dX0_mostTwosOf_4 zi_i_0 ?_
    exact zv_ireti hX hT dX0_mostTwosOf_5
theorem dX0_mostTwos_0 : decode cX0_mostTwos 0 = .ok (.aload_n 0, 1) := by decide +kernel
theorem dX0_mostTwos_1 : decode cX0_mostTwos 1 = .ok (.invokevirtual 79, 3) := by decide +kernel
theorem dX0_mostTwos_4 : decode cX0_mostTwos 4 = .ok (.iconst 0, 1) := by decide +kernel
theorem dX0_mostTwos_5 : decode cX0_mostTwos 5 = .ok (.istore_n 1, 1) := by decide +kernel
theorem dX0_mostTwos_6 : decode cX0_mostTwos 6 = .ok (.iload_n 1, 1) := by decide +kernel
theorem dX0_mostTwos_7 : decode cX0_mostTwos 7 = .ok (.aload_n 0, 1) := by decide +kernel
theorem dX0_mostTwos_8 : decode cX0_mostTwos 8 = .ok (.getfield 33, 3) := by decide +kernel
theorem dX0_mostTwos_11 : decode cX0_mostTwos 11 = .ok (.invokevirtual 95, 3) := by decide +kernel
theorem dX0_mostTwos_14 : decode cX0_mostTwos 14 = .ok (.if_icmp .gt 20, 3) := by decide +kernel
theorem dX0_mostTwos_17 : decode cX0_mostTwos 17 = .ok (.aload_n 0, 1) := by decide +kernel
theorem dX0_mostTwos_18 : decode cX0_mostTwos 18 = .ok (.getfield 30, 3) := by decide +kernel
theorem dX0_mostTwos_21 : decode cX0_mostTwos 21 = .ok (.iload_n 1, 1) := by decide +kernel
theorem dX0_mostTwos_22 : decode cX0_mostTwos 22 = .ok (.aload_n 0, 1) := by decide +kernel
theorem dX0_mostTwos_23 : decode cX0_mostTwos 23 = .ok (.iload_n 1, 1) := by decide +kernel
theorem dX0_mostTwos_24 : decode cX0_mostTwos 24 = .ok (.invokevirtual 140, 3) := by decide +kernel
theorem dX0_mostTwos_27 : decode cX0_mostTwos 27 = .ok (.iastore, 1) := by decide +kernel
theorem dX0_mostTwos_28 : decode cX0_mostTwos 28 = .ok (.iinc 1 1, 3) := by decide +kernel
theorem dX0_mostTwos_31 : decode cX0_mostTwos 31 = .ok (.goto (-25), 3) := by decide +kernel
theorem dX0_mostTwos_34 : decode cX0_mostTwos 34 = .ok (.aload_n 0, 1) := by decide +kernel
theorem dX0_mostTwos_35 : decode cX0_mostTwos 35 = .ok (.getfield 30, 3) := by decide +kernel
theorem dX0_mostTwos_38 : decode cX0_mostTwos 38 = .ok (.aload_n 0, 1) := by decide +kernel
theorem dX0_mostTwos_39 : decode cX0_mostTwos 39 = .ok (.getfield 33, 3) := by decide +kernel
theorem dX0_mostTwos_42 : decode cX0_mostTwos 42 = .ok (.invokevirtual 95, 3) := by decide +kernel
theorem dX0_mostTwos_45 : decode cX0_mostTwos 45 = .ok (.iaload, 1) := by decide +kernel
theorem dX0_mostTwos_46 : decode cX0_mostTwos 46 = .ok (.ireturn, 1) := by decide +kernel
def f_X0_mostTwos_6 : Nat → Int32 → zS → Option (Int32 × zS)
  | 0, _, _ => none
  | n + 1, v1, s =>
    zbd (f_X5_everybody_3 s) fun r1 s2 =>
    if r1 < v1 then
    (zbd (f_X5_everybody_3 s2) fun r3 s4 =>
    (zr_i s4 67 r3).bind fun x5 =>
    some (x5, s4))
    else
    zbd (f_X0_mostTwosOf v1 s2) fun r6 s7 =>
    (zw_i s7 67 v1 r6).bind fun s8 =>
    zb (v1 + (1 : Int32)) fun x9 =>
    f_X0_mostTwos_6 n x9 s8
set_option maxRecDepth 20000 in
theorem b_X0_mostTwos_6 {X : zX} (hX : zx_ok X cX0_mostTwos RX0 2) (hT : zx_rt X (some .int) (zR 6 147)) : ∀ (n : Nat) (v1 : Int32) (s : zS), zV X (zq X zrI) 2 6 [(0, .ref (zx_ad X 60)), (1, .int v1)] [] s (f_X0_mostTwos_6 n v1 s) := by
  intro n
  induction n with
  | zero => intro v1 s; exact zv_none
  | succ n ih =>
    intro v1 s
    rw [f_X0_mostTwos_6]
    refine zv_iload_n hX dX0_mostTwos_6 1 rfl ?_
    refine zv_aload_n hX dX0_mostTwos_7 0 rfl ?_
    refine zv_geta hX wf_X0_33 wc_0 zd_60 zj_60_0 c9_0 zr_60_0 (by decide) dX0_mostTwos_8 ?_
    refine zv_cVI [] (rest := [.int v1]) hX hT.2.2.2.2 (c_X5_everybody_3 (zx_Y X) s) wv_X5_everybody c9_5 zd_3 wm_X0_95 rfl (Nat.le_of_ble_eq_true rfl) (Nat.le_of_ble_eq_true rfl) rfl (Nat.le_of_ble_eq_true rfl) dX0_mostTwos_11 (fun r1 s2 => ?_)
    refine zv_icmp_gt (tgt := 34) hX dX0_mostTwos_14 rfl ?_ ?_
    · refine zv_aload_n hX dX0_mostTwos_34 0 rfl ?_
      refine zv_geta hX wf_X0_30 wc_0 zd_60 zj_60_13 c9_0 zr_60_13 (by decide) dX0_mostTwos_35 ?_
      refine zv_aload_n hX dX0_mostTwos_38 0 rfl ?_
      refine zv_geta hX wf_X0_33 wc_0 zd_60 zj_60_0 c9_0 zr_60_0 (by decide) dX0_mostTwos_39 ?_
      refine zv_cVI [] (rest := [.ref (zx_ad X 67)]) hX hT.2.2.2.2 (c_X5_everybody_3 (zx_Y X) s2) wv_X5_everybody c9_5 zd_3 wm_X0_95 rfl (Nat.le_of_ble_eq_true rfl) (Nat.le_of_ble_eq_true rfl) rfl (Nat.le_of_ble_eq_true rfl) dX0_mostTwos_42 (fun r3 s4 => ?_)
      refine zv_iald hX dX0_mostTwos_45 (fun x5 => ?_)
      exact zv_ireti hX hT dX0_mostTwos_46
    · refine zv_aload_n hX dX0_mostTwos_17 0 rfl ?_
      refine zv_geta hX wf_X0_30 wc_0 zd_60 zj_60_13 c9_0 zr_60_13 (by decide) dX0_mostTwos_18 ?_
      refine zv_iload_n hX dX0_mostTwos_21 1 rfl ?_
      refine zv_aload_n hX dX0_mostTwos_22 0 rfl ?_
      refine zv_iload_n hX dX0_mostTwos_23 1 rfl ?_
      refine zv_cVI [.int v1] (rest := [.int v1, .ref (zx_ad X 67)]) hX hT.2.2.2.2 (c_X0_mostTwosOf (zx_Y X) v1 s2) wv_X0_mostTwosOf c9_0 zd_60 wm_X0_140 rfl (Nat.le_of_ble_eq_true rfl) (Nat.le_of_ble_eq_true rfl) rfl (Nat.le_of_ble_eq_true rfl) dX0_mostTwos_24 (fun r6 s7 => ?_)
      refine zv_iast hX dX0_mostTwos_27 (fun s8 => ?_)
      refine zv_iincB (lw := fun x9 => [(1, .int x9), (0, .ref (zx_ad X 60))]) hX dX0_mostTwos_28 1 rfl zi_i_1 (by decide) (fun _ => rfl) (fun x9 => ?_)
      refine zv_goto (tgt := 6) hX dX0_mostTwos_31 rfl ?_
      exact zv_sub [1, 0] rfl (ih x9 s8)
def f_X0_mostTwos  (s : zS) : Option (Int32 × zS) :=
  zbd (f_X0_learnMatches s) fun _ s10 =>
  f_X0_mostTwos_6 zFU (0 : Int32) s10
set_option maxRecDepth 20000 in
theorem c_X0_mostTwos (Y : zG)  (s : zS) : zM Y yX0_mostTwos cX0_mostTwos 2 (some .int) (zR 6 147) [.ref (zy_a Y 60)] s zrI (f_X0_mostTwos  s) := by
  refine zm_start (by decide +kernel) (Nat.le_of_ble_eq_true rfl) ?_
  intro X hY hT hX
  subst hY
  have hX : zx_ok X cX0_mostTwos RX0 2 := hX
  show zV X (zq X zrI) 2 0 [(0, .ref (zx_ad X 60))] [] s _
  unfold f_X0_mostTwos
  refine zv_aload_n hX dX0_mostTwos_0 0 rfl ?_
  refine zv_cVV [] (rest := []) hX hT.2.2.2.2 (c_X0_learnMatches (zx_Y X) s) wv_X0_learnMatches c9_0 zd_60 wm_X0_79 rfl (Nat.le_of_ble_eq_true rfl) (Nat.le_of_ble_eq_true rfl) rfl (Nat.le_of_ble_eq_true rfl) dX0_mostTwos_1 (fun _ s10 => ?_)
  refine zv_iconst (v := (0 : Int32)) hX dX0_mostTwos_4 zi_i_0 ?_
  refine zv_istore_n (lv' := [(1, .int (0 : Int32)), (0, .ref (zx_ad X 60))]) hX dX0_mostTwos_5 (by decide) rfl ?_
  exact zv_sub [1, 0] rfl (b_X0_mostTwos_6 hX hT zFU (0 : Int32) s10)
theorem dX5_has_0 : decode cX5_has 0 = .ok (.iload_n 1, 1) := by decide +kernel
theorem dX5_has_1 : decode cX5_has 1 = .ok (.ifCond .lt 21, 3) := by decide +kernel
theorem dX5_has_4 : decode cX5_has 4 = .ok (.iload_n 1, 1) := by decide +kernel
theorem dX5_has_5 : decode cX5_has 5 = .ok (.aload_n 0, 1) := by decide +kernel
theorem dX5_has_6 : decode cX5_has 6 = .ok (.getfield 42, 3) := by decide +kernel
theorem dX5_has_9 : decode cX5_has 9 = .ok (.if_icmp .ge 13, 3) := by decide +kernel
theorem dX5_has_12 : decode cX5_has 12 = .ok (.iload_n 1, 1) := by decide +kernel
theorem dX5_has_13 : decode cX5_has 13 = .ok (.bipush 7, 2) := by decide +kernel
theorem dX5_has_15 : decode cX5_has 15 = .ok (.if_icmp .ge 7, 3) := by decide +kernel
theorem dX5_has_18 : decode cX5_has 18 = .ok (.iconst 1, 1) := by decide +kernel
theorem dX5_has_19 : decode cX5_has 19 = .ok (.goto 4, 3) := by decide +kernel
theorem dX5_has_22 : decode cX5_has 22 = .ok (.iconst 0, 1) := by decide +kernel
theorem dX5_has_23 : decode cX5_has 23 = .ok (.ireturn, 1) := by decide +kernel
def f_X5_has_3_23 (w0 : Int32) (s : zS) : Option (Int32 × zS) :=
  if w0 = 0 ∨ w0 = 1 then some (w0, s) else none
set_option maxRecDepth 20000 in
theorem b_X5_has_3_23 {X : zX} (hX : zx_ok X cX5_has RX5 2) (hT : zx_rt X (some .boolean) (zR 0 0)) : ∀ (w0 : Int32) (s : zS), zV X (zq X zrI) 2 23 [] [.int w0] s (f_X5_has_3_23 w0 s) := by
  intro w0 s
  unfold f_X5_has_3_23
  exact zv_iretzB hX hT dX5_has_23
def f_X5_has_3_22  (s : zS) : Option (Int32 × zS) :=
  f_X5_has_3_23 (0 : Int32) s
set_option maxRecDepth 20000 in
theorem b_X5_has_3_22 {X : zX} (hX : zx_ok X cX5_has RX5 2) (hT : zx_rt X (some .boolean) (zR 0 0)) : ∀  (s : zS), zV X (zq X zrI) 2 22 [] [] s (f_X5_has_3_22  s) := by
  intro  s
  unfold f_X5_has_3_22
  refine zv_iconst (v := (0 : Int32)) hX dX5_has_22 zi_i_0 ?_
  exact b_X5_has_3_23 hX hT (0 : Int32) s
def f_X5_has_3 (v1 : Int32) (s : zS) : Option (Int32 × zS) :=
  if v1 < 0 then
  (f_X5_has_3_22 s)
  else
  if (s.1 3 0) ≤ v1 then
  (f_X5_has_3_22 s)
  else
  if (nI 7) ≤ v1 then
  (f_X5_has_3_22 s)
  else
  f_X5_has_3_23 (1 : Int32) s
set_option maxRecDepth 20000 in
theorem c_X5_has_3 (Y : zG) (v1 : Int32) (s : zS) : zM Y yX5_has cX5_has 2 (some .boolean) (zR 0 0) [.ref (zy_a Y 3), .int v1] s zrI (f_X5_has_3 v1 s) := by
  refine zm_start (by decide +kernel) (Nat.le_of_ble_eq_true rfl) ?_
  intro X hY hT hX
  subst hY
  have hX : zx_ok X cX5_has RX5 2 := hX
  show zV X (zq X zrI) 2 0 [(0, .ref (zx_ad X 3)), (1, .int v1)] [] s _
  unfold f_X5_has_3
  refine zv_iload_n hX dX5_has_0 1 rfl ?_
  refine zv_if_lt (tgt := 22) hX dX5_has_1 rfl ?_ ?_
  · exact zv_sub [] rfl (b_X5_has_3_22 hX hT  s)
  · refine zv_iload_n hX dX5_has_4 1 rfl ?_
    refine zv_aload_n hX dX5_has_5 0 rfl ?_
    refine zv_geti hX wf_X5_42 wc_5 zd_3 zj_3_0 c9_5 zr_3_0 dX5_has_6 ?_
    refine zv_icmp_ge (tgt := 22) hX dX5_has_9 rfl ?_ ?_
    · exact zv_sub [] rfl (b_X5_has_3_22 hX hT  s)
    · refine zv_iload_n hX dX5_has_12 1 rfl ?_
      refine zv_bipush (v := (nI 7)) hX dX5_has_13 zi_b_7 ?_
      refine zv_icmp_ge (tgt := 22) hX dX5_has_15 rfl ?_ ?_
      · exact zv_sub [] rfl (b_X5_has_3_22 hX hT  s)
      · refine zv_iconst (v := (1 : Int32)) hX dX5_has_18 zi_i_1 ?_
        refine zv_goto (tgt := 23) hX dX5_has_19 rfl ?_
        exact zv_sub [] rfl (b_X5_has_3_23 hX hT (1 : Int32) s)
theorem dX1_leave_0 : decode cX1_leave 0 = .ok (.aload_n 0, 1) := by decide +kernel
theorem dX1_leave_1 : decode cX1_leave 1 = .ok (.getfield 9, 3) := by decide +kernel
theorem dX1_leave_4 : decode cX1_leave 4 = .ok (.getfield 33, 3) := by decide +kernel
theorem dX1_leave_7 : decode cX1_leave 7 = .ok (.iload_n 1, 1) := by decide +kernel
theorem dX1_leave_8 : decode cX1_leave 8 = .ok (.iaload, 1) := by decide +kernel
theorem dX1_leave_9 : decode cX1_leave 9 = .ok (.istore_n 2, 1) := by decide +kernel
theorem dX1_leave_10 : decode cX1_leave 10 = .ok (.aload_n 0, 1) := by decide +kernel
theorem dX1_leave_11 : decode cX1_leave 11 = .ok (.getfield 9, 3) := by decide +kernel
theorem dX1_leave_14 : decode cX1_leave 14 = .ok (.iload_n 2, 1) := by decide +kernel
theorem dX1_leave_15 : decode cX1_leave 15 = .ok (.invokevirtual 50, 3) := by decide +kernel
theorem dX1_leave_18 : decode cX1_leave 18 = .ok (.ifCond .ne 5, 3) := by decide +kernel
theorem dX1_leave_21 : decode cX1_leave 21 = .ok (.iconst 0, 1) := by decide +kernel
theorem dX1_leave_22 : decode cX1_leave 22 = .ok (.ireturn, 1) := by decide +kernel
theorem dX1_leave_23 : decode cX1_leave 23 = .ok (.aload_n 0, 1) := by decide +kernel
theorem dX1_leave_24 : decode cX1_leave 24 = .ok (.getfield 9, 3) := by decide +kernel
theorem dX1_leave_27 : decode cX1_leave 27 = .ok (.getfield 33, 3) := by decide +kernel
theorem dX1_leave_30 : decode cX1_leave 30 = .ok (.iload_n 2, 1) := by decide +kernel
theorem dX1_leave_31 : decode cX1_leave 31 = .ok (.iconst (-1), 1) := by decide +kernel
theorem dX1_leave_32 : decode cX1_leave 32 = .ok (.iastore, 1) := by decide +kernel
theorem dX1_leave_33 : decode cX1_leave 33 = .ok (.aload_n 0, 1) := by decide +kernel
theorem dX1_leave_34 : decode cX1_leave 34 = .ok (.getfield 9, 3) := by decide +kernel
theorem dX1_leave_37 : decode cX1_leave 37 = .ok (.getfield 33, 3) := by decide +kernel
theorem dX1_leave_40 : decode cX1_leave 40 = .ok (.iload_n 1, 1) := by decide +kernel
theorem dX1_leave_41 : decode cX1_leave 41 = .ok (.iconst (-1), 1) := by decide +kernel
theorem dX1_leave_42 : decode cX1_leave 42 = .ok (.iastore, 1) := by decide +kernel
theorem dX1_leave_43 : decode cX1_leave 43 = .ok (.iconst 1, 1) := by decide +kernel
theorem dX1_leave_44 : decode cX1_leave 44 = .ok (.ireturn, 1) := by decide +kernel
def f_X1_leave (v1 : Int32) (s : zS) : Option (Int32 × zS) :=
  (zr_i s 8 v1).bind fun x1 =>
  zbd (f_X5_has_3 x1 s) fun r2 s3 =>
  if ¬ r2 = 0 then
  ((zw_i s3 8 x1 (-1 : Int32)).bind fun s4 =>
  (zw_i s4 8 v1 (-1 : Int32)).bind fun s5 =>
  some ((1 : Int32), s5))
  else
  some ((0 : Int32), s3)
set_option maxRecDepth 20000 in
theorem c_X1_leave (Y : zG) (v1 : Int32) (s : zS) : zM Y yX1_leave cX1_leave 3 (some .int) (zR 1 21) [.ref (zy_a Y 72), .int v1] s zrI (f_X1_leave v1 s) := by
  refine zm_start (by decide +kernel) (Nat.le_of_ble_eq_true rfl) ?_
  intro X hY hT hX
  subst hY
  have hX : zx_ok X cX1_leave RX1 3 := hX
  show zV X (zq X zrI) 3 0 [(0, .ref (zx_ad X 72)), (1, .int v1)] [] s _
  unfold f_X1_leave
  refine zv_aload_n hX dX1_leave_0 0 rfl ?_
  refine zv_geta hX wf_X1_9 wc_1 zd_72 zj_72_0 c9_1 zr_72_0 (by decide) dX1_leave_1 ?_
  refine zv_geta hX wf_X1_33 wc_5 zd_3 zj_3_6 c9_5 zr_3_6 (by decide) dX1_leave_4 ?_
  refine zv_iload_n hX dX1_leave_7 1 rfl ?_
  refine zv_iald hX dX1_leave_8 (fun x1 => ?_)
  refine zv_istore_n (lv' := [(2, .int x1), (0, .ref (zx_ad X 72)), (1, .int v1)]) hX dX1_leave_9 (by decide) rfl ?_
  refine zv_aload_n hX dX1_leave_10 1 rfl ?_
  refine zv_geta hX wf_X1_9 wc_1 zd_72 zj_72_0 c9_1 zr_72_0 (by decide) dX1_leave_11 ?_
  refine zv_iload_n hX dX1_leave_14 0 rfl ?_
  refine zv_cVI [.int x1] (rest := []) hX hT.2.2.2.2 (c_X5_has_3 (zx_Y X) x1 s) wv_X5_has c9_5 zd_3 wm_X1_50 rfl (Nat.le_of_ble_eq_true rfl) (Nat.le_of_ble_eq_true rfl) rfl (Nat.le_of_ble_eq_true rfl) dX1_leave_15 (fun r2 s3 => ?_)
  refine zv_if_ne (tgt := 23) hX dX1_leave_18 rfl ?_ ?_
  · refine zv_aload_n hX dX1_leave_23 1 rfl ?_
    refine zv_geta hX wf_X1_9 wc_1 zd_72 zj_72_0 c9_1 zr_72_0 (by decide) dX1_leave_24 ?_
    refine zv_geta hX wf_X1_33 wc_5 zd_3 zj_3_6 c9_5 zr_3_6 (by decide) dX1_leave_27 ?_
    refine zv_iload_n hX dX1_leave_30 0 rfl ?_
    refine zv_iconst (v := (-1 : Int32)) hX dX1_leave_31 zi_i_m1 ?_
    refine zv_iast hX dX1_leave_32 (fun s4 => ?_)
    refine zv_aload_n hX dX1_leave_33 1 rfl ?_
    refine zv_geta hX wf_X1_9 wc_1 zd_72 zj_72_0 c9_1 zr_72_0 (by decide) dX1_leave_34 ?_
    refine zv_geta hX wf_X1_33 wc_5 zd_3 zj_3_6 c9_5 zr_3_6 (by decide) dX1_leave_37 ?_
    refine zv_iload_n hX dX1_leave_40 2 rfl ?_
    refine zv_iconst (v := (-1 : Int32)) hX dX1_leave_41 zi_i_m1 ?_
    refine zv_iast hX dX1_leave_42 (fun s5 => ?_)
    refine zv_iconst (v := (1 : Int32)) hX dX1_leave_43 zi_i_1 ?_
    exact zv_ireti hX hT dX1_leave_44
  · refine zv_iconst (v := (0 : Int32)) hX dX1_leave_21 zi_i_0 ?_
    exact zv_ireti hX hT dX1_leave_22
theorem dX5_areTwo_0 : decode cX5_areTwo 0 = .ok (.aload_n 0, 1) := by decide +kernel
theorem dX5_areTwo_1 : decode cX5_areTwo 1 = .ok (.iload_n 1, 1) := by decide +kernel
theorem dX5_areTwo_2 : decode cX5_areTwo 2 = .ok (.invokevirtual 46, 3) := by decide +kernel
theorem dX5_areTwo_5 : decode cX5_areTwo 5 = .ok (.ifCond .eq 20, 3) := by decide +kernel
theorem dX5_areTwo_8 : decode cX5_areTwo 8 = .ok (.aload_n 0, 1) := by decide +kernel
theorem dX5_areTwo_9 : decode cX5_areTwo 9 = .ok (.iload_n 2, 1) := by decide +kernel
theorem dX5_areTwo_10 : decode cX5_areTwo 10 = .ok (.invokevirtual 46, 3) := by decide +kernel
theorem dX5_areTwo_13 : decode cX5_areTwo 13 = .ok (.ifCond .eq 12, 3) := by decide +kernel
theorem dX5_areTwo_16 : decode cX5_areTwo 16 = .ok (.iload_n 1, 1) := by decide +kernel
theorem dX5_areTwo_17 : decode cX5_areTwo 17 = .ok (.iload_n 2, 1) := by decide +kernel
theorem dX5_areTwo_18 : decode cX5_areTwo 18 = .ok (.if_icmp .eq 7, 3) := by decide +kernel
theorem dX5_areTwo_21 : decode cX5_areTwo 21 = .ok (.iconst 1, 1) := by decide +kernel
theorem dX5_areTwo_22 : decode cX5_areTwo 22 = .ok (.goto 4, 3) := by decide +kernel
theorem dX5_areTwo_25 : decode cX5_areTwo 25 = .ok (.iconst 0, 1) := by decide +kernel
theorem dX5_areTwo_26 : decode cX5_areTwo 26 = .ok (.ireturn, 1) := by decide +kernel
def f_X5_areTwo_3_26 (w0 : Int32) (s : zS) : Option (Int32 × zS) :=
  if w0 = 0 ∨ w0 = 1 then some (w0, s) else none
set_option maxRecDepth 20000 in
theorem b_X5_areTwo_3_26 {X : zX} (hX : zx_ok X cX5_areTwo RX5 3) (hT : zx_rt X (some .boolean) (zR 1 21)) : ∀ (w0 : Int32) (s : zS), zV X (zq X zrI) 3 26 [] [.int w0] s (f_X5_areTwo_3_26 w0 s) := by
  intro w0 s
  unfold f_X5_areTwo_3_26
  exact zv_iretzB hX hT dX5_areTwo_26
def f_X5_areTwo_3_25  (s : zS) : Option (Int32 × zS) :=
  f_X5_areTwo_3_26 (0 : Int32) s
set_option maxRecDepth 20000 in
theorem b_X5_areTwo_3_25 {X : zX} (hX : zx_ok X cX5_areTwo RX5 3) (hT : zx_rt X (some .boolean) (zR 1 21)) : ∀  (s : zS), zV X (zq X zrI) 3 25 [] [] s (f_X5_areTwo_3_25  s) := by
  intro  s
  unfold f_X5_areTwo_3_25
  refine zv_iconst (v := (0 : Int32)) hX dX5_areTwo_25 zi_i_0 ?_
  exact b_X5_areTwo_3_26 hX hT (0 : Int32) s
def f_X5_areTwo_3 (v1 : Int32) (v2 : Int32) (s : zS) : Option (Int32 × zS) :=
  zbd (f_X5_has_3 v1 s) fun r1 s2 =>
  if r1 = 0 then
  (f_X5_areTwo_3_25 s2)
  else
  zbd (f_X5_has_3 v2 s2) fun r3 s4 =>
  if r3 = 0 then
  (f_X5_areTwo_3_25 s4)
  else
  if v1 = v2 then
  (f_X5_areTwo_3_25 s4)
  else
  f_X5_areTwo_3_26 (1 : Int32) s4
set_option maxRecDepth 20000 in
theorem c_X5_areTwo_3 (Y : zG) (v1 : Int32) (v2 : Int32) (s : zS) : zM Y yX5_areTwo cX5_areTwo 3 (some .boolean) (zR 1 21) [.ref (zy_a Y 3), .int v1, .int v2] s zrI (f_X5_areTwo_3 v1 v2 s) := by
  refine zm_start (by decide +kernel) (Nat.le_of_ble_eq_true rfl) ?_
  intro X hY hT hX
  subst hY
  have hX : zx_ok X cX5_areTwo RX5 3 := hX
  show zV X (zq X zrI) 3 0 [(0, .ref (zx_ad X 3)), (1, .int v1), (2, .int v2)] [] s _
  unfold f_X5_areTwo_3
  refine zv_aload_n hX dX5_areTwo_0 0 rfl ?_
  refine zv_iload_n hX dX5_areTwo_1 1 rfl ?_
  refine zv_cVI [.int v1] (rest := []) hX hT.2.2.2.2 (c_X5_has_3 (zx_Y X) v1 s) wv_X5_has c9_5 zd_3 wm_X5_46 rfl (Nat.le_of_ble_eq_true rfl) (Nat.le_of_ble_eq_true rfl) rfl (Nat.le_of_ble_eq_true rfl) dX5_areTwo_2 (fun r1 s2 => ?_)
  refine zv_if_eq (tgt := 25) hX dX5_areTwo_5 rfl ?_ ?_
  · exact zv_sub [] rfl (b_X5_areTwo_3_25 hX hT  s2)
  · refine zv_aload_n hX dX5_areTwo_8 0 rfl ?_
    refine zv_iload_n hX dX5_areTwo_9 2 rfl ?_
    refine zv_cVI [.int v2] (rest := []) hX hT.2.2.2.2 (c_X5_has_3 (zx_Y X) v2 s2) wv_X5_has c9_5 zd_3 wm_X5_46 rfl (Nat.le_of_ble_eq_true rfl) (Nat.le_of_ble_eq_true rfl) rfl (Nat.le_of_ble_eq_true rfl) dX5_areTwo_10 (fun r3 s4 => ?_)
    refine zv_if_eq (tgt := 25) hX dX5_areTwo_13 rfl ?_ ?_
    · exact zv_sub [] rfl (b_X5_areTwo_3_25 hX hT  s4)
    · refine zv_iload_n hX dX5_areTwo_16 1 rfl ?_
      refine zv_iload_n hX dX5_areTwo_17 2 rfl ?_
      refine zv_icmp_eq (tgt := 25) hX dX5_areTwo_18 rfl ?_ ?_
      · exact zv_sub [] rfl (b_X5_areTwo_3_25 hX hT  s4)
      · refine zv_iconst (v := (1 : Int32)) hX dX5_areTwo_21 zi_i_1 ?_
        refine zv_goto (tgt := 26) hX dX5_areTwo_22 rfl ?_
        exact zv_sub [] rfl (b_X5_areTwo_3_26 hX hT (1 : Int32) s4)
theorem dX1_tryEngage_0 : decode cX1_tryEngage 0 = .ok (.aload_n 0, 1) := by decide +kernel
theorem dX1_tryEngage_1 : decode cX1_tryEngage 1 = .ok (.iconst 0, 1) := by decide +kernel
theorem dX1_tryEngage_2 : decode cX1_tryEngage 2 = .ok (.putfield 23, 3) := by decide +kernel
theorem dX1_tryEngage_5 : decode cX1_tryEngage 5 = .ok (.aload_n 0, 1) := by decide +kernel
theorem dX1_tryEngage_6 : decode cX1_tryEngage 6 = .ok (.getfield 9, 3) := by decide +kernel
theorem dX1_tryEngage_9 : decode cX1_tryEngage 9 = .ok (.iload_n 1, 1) := by decide +kernel
theorem dX1_tryEngage_10 : decode cX1_tryEngage 10 = .ok (.iload_n 2, 1) := by decide +kernel
theorem dX1_tryEngage_11 : decode cX1_tryEngage 11 = .ok (.invokevirtual 27, 3) := by decide +kernel
theorem dX1_tryEngage_14 : decode cX1_tryEngage 14 = .ok (.ifCond .ne 5, 3) := by decide +kernel
theorem dX1_tryEngage_17 : decode cX1_tryEngage 17 = .ok (.iconst 1, 1) := by decide +kernel
theorem dX1_tryEngage_18 : decode cX1_tryEngage 18 = .ok (.ireturn, 1) := by decide +kernel
theorem dX1_tryEngage_19 : decode cX1_tryEngage 19 = .ok (.aload_n 0, 1) := by decide +kernel
theorem dX1_tryEngage_20 : decode cX1_tryEngage 20 = .ok (.getfield 9, 3) := by decide +kernel
theorem dX1_tryEngage_23 : decode cX1_tryEngage 23 = .ok (.getfield 33, 3) := by decide +kernel
theorem dX1_tryEngage_26 : decode cX1_tryEngage 26 = .ok (.iload_n 1, 1) := by decide +kernel
theorem dX1_tryEngage_27 : decode cX1_tryEngage 27 = .ok (.iaload, 1) := by decide +kernel
theorem dX1_tryEngage_28 : decode cX1_tryEngage 28 = .ok (.iload_n 2, 1) := by decide +kernel
theorem dX1_tryEngage_29 : decode cX1_tryEngage 29 = .ok (.if_icmp .ne 5, 3) := by decide +kernel
theorem dX1_tryEngage_32 : decode cX1_tryEngage 32 = .ok (.iconst 2, 1) := by decide +kernel
theorem dX1_tryEngage_33 : decode cX1_tryEngage 33 = .ok (.ireturn, 1) := by decide +kernel
theorem dX1_tryEngage_34 : decode cX1_tryEngage 34 = .ok (.aload_n 0, 1) := by decide +kernel
theorem dX1_tryEngage_35 : decode cX1_tryEngage 35 = .ok (.getfield 15, 3) := by decide +kernel
theorem dX1_tryEngage_38 : decode cX1_tryEngage 38 = .ok (.iload_n 1, 1) := by decide +kernel
theorem dX1_tryEngage_39 : decode cX1_tryEngage 39 = .ok (.iload_n 2, 1) := by decide +kernel
theorem dX1_tryEngage_40 : decode cX1_tryEngage 40 = .ok (.invokevirtual 37, 3) := by decide +kernel
theorem dX1_tryEngage_43 : decode cX1_tryEngage 43 = .ok (.ifCond .ne 5, 3) := by decide +kernel
theorem dX1_tryEngage_46 : decode cX1_tryEngage 46 = .ok (.iconst 3, 1) := by decide +kernel
theorem dX1_tryEngage_47 : decode cX1_tryEngage 47 = .ok (.ireturn, 1) := by decide +kernel
theorem dX1_tryEngage_48 : decode cX1_tryEngage 48 = .ok (.aload_n 0, 1) := by decide +kernel
theorem dX1_tryEngage_49 : decode cX1_tryEngage 49 = .ok (.getfield 15, 3) := by decide +kernel
theorem dX1_tryEngage_52 : decode cX1_tryEngage 52 = .ok (.iload_n 1, 1) := by decide +kernel
theorem dX1_tryEngage_53 : decode cX1_tryEngage 53 = .ok (.iload_n 2, 1) := by decide +kernel
theorem dX1_tryEngage_54 : decode cX1_tryEngage 54 = .ok (.aload_n 0, 1) := by decide +kernel
theorem dX1_tryEngage_55 : decode cX1_tryEngage 55 = .ok (.getfield 9, 3) := by decide +kernel
theorem dX1_tryEngage_58 : decode cX1_tryEngage 58 = .ok (.getfield 33, 3) := by decide +kernel
theorem dX1_tryEngage_61 : decode cX1_tryEngage 61 = .ok (.iload_n 1, 1) := by decide +kernel
theorem dX1_tryEngage_62 : decode cX1_tryEngage 62 = .ok (.iaload, 1) := by decide +kernel
theorem dX1_tryEngage_63 : decode cX1_tryEngage 63 = .ok (.invokevirtual 42, 3) := by decide +kernel
theorem dX1_tryEngage_66 : decode cX1_tryEngage 66 = .ok (.ifCond .eq 24, 3) := by decide +kernel
theorem dX1_tryEngage_69 : decode cX1_tryEngage 69 = .ok (.aload_n 0, 1) := by decide +kernel
theorem dX1_tryEngage_70 : decode cX1_tryEngage 70 = .ok (.getfield 15, 3) := by decide +kernel
theorem dX1_tryEngage_73 : decode cX1_tryEngage 73 = .ok (.iload_n 2, 1) := by decide +kernel
theorem dX1_tryEngage_74 : decode cX1_tryEngage 74 = .ok (.iload_n 1, 1) := by decide +kernel
theorem dX1_tryEngage_75 : decode cX1_tryEngage 75 = .ok (.aload_n 0, 1) := by decide +kernel
theorem dX1_tryEngage_76 : decode cX1_tryEngage 76 = .ok (.getfield 9, 3) := by decide +kernel
theorem dX1_tryEngage_79 : decode cX1_tryEngage 79 = .ok (.getfield 33, 3) := by decide +kernel
theorem dX1_tryEngage_82 : decode cX1_tryEngage 82 = .ok (.iload_n 2, 1) := by decide +kernel
theorem dX1_tryEngage_83 : decode cX1_tryEngage 83 = .ok (.iaload, 1) := by decide +kernel
theorem dX1_tryEngage_84 : decode cX1_tryEngage 84 = .ok (.invokevirtual 42, 3) := by decide +kernel
theorem dX1_tryEngage_87 : decode cX1_tryEngage 87 = .ok (.ifCond .ne 5, 3) := by decide +kernel
theorem dX1_tryEngage_90 : decode cX1_tryEngage 90 = .ok (.iconst 4, 1) := by decide +kernel
theorem dX1_tryEngage_91 : decode cX1_tryEngage 91 = .ok (.ireturn, 1) := by decide +kernel
theorem dX1_tryEngage_92 : decode cX1_tryEngage 92 = .ok (.aload_n 0, 1) := by decide +kernel
theorem dX1_tryEngage_93 : decode cX1_tryEngage 93 = .ok (.aload_n 0, 1) := by decide +kernel
theorem dX1_tryEngage_94 : decode cX1_tryEngage 94 = .ok (.iload_n 1, 1) := by decide +kernel
theorem dX1_tryEngage_95 : decode cX1_tryEngage 95 = .ok (.invokevirtual 46, 3) := by decide +kernel
theorem dX1_tryEngage_98 : decode cX1_tryEngage 98 = .ok (.aload_n 0, 1) := by decide +kernel
theorem dX1_tryEngage_99 : decode cX1_tryEngage 99 = .ok (.iload_n 2, 1) := by decide +kernel
theorem dX1_tryEngage_100 : decode cX1_tryEngage 100 = .ok (.invokevirtual 46, 3) := by decide +kernel
theorem dX1_tryEngage_103 : decode cX1_tryEngage 103 = .ok (.iadd, 1) := by decide +kernel
theorem dX1_tryEngage_104 : decode cX1_tryEngage 104 = .ok (.putfield 23, 3) := by decide +kernel
theorem dX1_tryEngage_107 : decode cX1_tryEngage 107 = .ok (.aload_n 0, 1) := by decide +kernel
theorem dX1_tryEngage_108 : decode cX1_tryEngage 108 = .ok (.getfield 9, 3) := by decide +kernel
theorem dX1_tryEngage_111 : decode cX1_tryEngage 111 = .ok (.getfield 33, 3) := by decide +kernel
theorem dX1_tryEngage_114 : decode cX1_tryEngage 114 = .ok (.iload_n 1, 1) := by decide +kernel
theorem dX1_tryEngage_115 : decode cX1_tryEngage 115 = .ok (.iload_n 2, 1) := by decide +kernel
theorem dX1_tryEngage_116 : decode cX1_tryEngage 116 = .ok (.iastore, 1) := by decide +kernel
theorem dX1_tryEngage_117 : decode cX1_tryEngage 117 = .ok (.aload_n 0, 1) := by decide +kernel
theorem dX1_tryEngage_118 : decode cX1_tryEngage 118 = .ok (.getfield 9, 3) := by decide +kernel
theorem dX1_tryEngage_121 : decode cX1_tryEngage 121 = .ok (.getfield 33, 3) := by decide +kernel
theorem dX1_tryEngage_124 : decode cX1_tryEngage 124 = .ok (.iload_n 2, 1) := by decide +kernel
theorem dX1_tryEngage_125 : decode cX1_tryEngage 125 = .ok (.iload_n 1, 1) := by decide +kernel
theorem dX1_tryEngage_126 : decode cX1_tryEngage 126 = .ok (.iastore, 1) := by decide +kernel
theorem dX1_tryEngage_127 : decode cX1_tryEngage 127 = .ok (.iconst 0, 1) := by decide +kernel
theorem dX1_tryEngage_128 : decode cX1_tryEngage 128 = .ok (.ireturn, 1) := by decide +kernel
def f_X1_tryEngage_90  (s : zS) : Option (Int32 × zS) :=
  some ((nI 4), s)
set_option maxRecDepth 20000 in
theorem b_X1_tryEngage_90 {X : zX} (hX : zx_ok X cX1_tryEngage RX1 3) (hT : zx_rt X (some .int) (zR 4 100)) : ∀  (s : zS), zV X (zq X zrI) 3 90 [] [] s (f_X1_tryEngage_90  s) := by
  intro  s
  unfold f_X1_tryEngage_90
  refine zv_iconst (v := (nI 4)) hX dX1_tryEngage_90 zi_i_4 ?_
  exact zv_ireti hX hT dX1_tryEngage_91
def f_X1_tryEngage (v1 : Int32) (v2 : Int32) (s : zS) : Option (Int32 × zS) :=
  zb (zs_i s 72 3 (0 : Int32)) fun s1 =>
  zbd (f_X5_areTwo_3 v1 v2 s1) fun r2 s3 =>
  if ¬ r2 = 0 then
  ((zr_i s3 8 v1).bind fun x4 =>
  if ¬ x4 = v2 then
  (zbd (f_X0_areMatching v1 v2 s3) fun r5 s6 =>
  if ¬ r5 = 0 then
  ((zr_i s6 8 v1).bind fun x7 =>
  zbd (f_X0_likesMore v1 v2 x7 s6) fun r8 s9 =>
  if r8 = 0 then
  (f_X1_tryEngage_90 s9)
  else
  (zr_i s9 8 v2).bind fun x10 =>
  zbd (f_X0_likesMore v2 v1 x10 s9) fun r11 s12 =>
  if ¬ r11 = 0 then
  (zbd (f_X1_leave v1 s12) fun r13 s14 =>
  zbd (f_X1_leave v2 s14) fun r15 s16 =>
  zb (zs_i s16 72 3 (r13 + r15)) fun s17 =>
  (zw_i s17 8 v1 v2).bind fun s18 =>
  (zw_i s18 8 v2 v1).bind fun s19 =>
  some ((0 : Int32), s19))
  else
  f_X1_tryEngage_90 s12)
  else
  some ((nI 3), s6))
  else
  some ((nI 2), s3))
  else
  some ((1 : Int32), s3)
set_option maxRecDepth 20000 in
theorem c_X1_tryEngage (Y : zG) (v1 : Int32) (v2 : Int32) (s : zS) : zM Y yX1_tryEngage cX1_tryEngage 3 (some .int) (zR 4 100) [.ref (zy_a Y 72), .int v1, .int v2] s zrI (f_X1_tryEngage v1 v2 s) := by
  refine zm_start (by decide +kernel) (Nat.le_of_ble_eq_true rfl) ?_
  intro X hY hT hX
  subst hY
  have hX : zx_ok X cX1_tryEngage RX1 3 := hX
  show zV X (zq X zrI) 3 0 [(0, .ref (zx_ad X 72)), (1, .int v1), (2, .int v2)] [] s _
  unfold f_X1_tryEngage
  refine zv_aload_n hX dX1_tryEngage_0 0 rfl ?_
  refine zv_iconst (v := (0 : Int32)) hX dX1_tryEngage_1 zi_i_0 ?_
  refine zv_puti hX wf_X1_23 wc_1 wk_1_3 zd_72 zj_72_3 c9_1 zr_72_3 dX1_tryEngage_2 (fun s1 => ?_)
  refine zv_aload_n hX dX1_tryEngage_5 0 rfl ?_
  refine zv_geta hX wf_X1_9 wc_1 zd_72 zj_72_0 c9_1 zr_72_0 (by decide) dX1_tryEngage_6 ?_
  refine zv_iload_n hX dX1_tryEngage_9 1 rfl ?_
  refine zv_iload_n hX dX1_tryEngage_10 2 rfl ?_
  refine zv_cVI [.int v1, .int v2] (rest := []) hX hT.2.2.2.2 (c_X5_areTwo_3 (zx_Y X) v1 v2 s1) wv_X5_areTwo c9_5 zd_3 wm_X1_27 rfl (Nat.le_of_ble_eq_true rfl) (Nat.le_of_ble_eq_true rfl) rfl (Nat.le_of_ble_eq_true rfl) dX1_tryEngage_11 (fun r2 s3 => ?_)
  refine zv_if_ne (tgt := 19) hX dX1_tryEngage_14 rfl ?_ ?_
  · refine zv_aload_n hX dX1_tryEngage_19 0 rfl ?_
    refine zv_geta hX wf_X1_9 wc_1 zd_72 zj_72_0 c9_1 zr_72_0 (by decide) dX1_tryEngage_20 ?_
    refine zv_geta hX wf_X1_33 wc_5 zd_3 zj_3_6 c9_5 zr_3_6 (by decide) dX1_tryEngage_23 ?_
    refine zv_iload_n hX dX1_tryEngage_26 1 rfl ?_
    refine zv_iald hX dX1_tryEngage_27 (fun x4 => ?_)
    refine zv_iload_n hX dX1_tryEngage_28 2 rfl ?_
    refine zv_icmp_ne (tgt := 34) hX dX1_tryEngage_29 rfl ?_ ?_
    · refine zv_aload_n hX dX1_tryEngage_34 0 rfl ?_
      refine zv_geta hX wf_X1_15 wc_1 zd_72 zj_72_1 c9_1 zr_72_1 (by decide) dX1_tryEngage_35 ?_
      refine zv_iload_n hX dX1_tryEngage_38 1 rfl ?_
      refine zv_iload_n hX dX1_tryEngage_39 2 rfl ?_
      refine zv_cVI [.int v1, .int v2] (rest := []) hX hT.2.2.2.2 (c_X0_areMatching (zx_Y X) v1 v2 s3) wv_X0_areMatching c9_0 zd_60 wm_X1_37 rfl (Nat.le_of_ble_eq_true rfl) (Nat.le_of_ble_eq_true rfl) rfl (Nat.le_of_ble_eq_true rfl) dX1_tryEngage_40 (fun r5 s6 => ?_)
      refine zv_if_ne (tgt := 48) hX dX1_tryEngage_43 rfl ?_ ?_
      · refine zv_aload_n hX dX1_tryEngage_48 0 rfl ?_
        refine zv_geta hX wf_X1_15 wc_1 zd_72 zj_72_1 c9_1 zr_72_1 (by decide) dX1_tryEngage_49 ?_
        refine zv_iload_n hX dX1_tryEngage_52 1 rfl ?_
        refine zv_iload_n hX dX1_tryEngage_53 2 rfl ?_
        refine zv_aload_n hX dX1_tryEngage_54 0 rfl ?_
        refine zv_geta hX wf_X1_9 wc_1 zd_72 zj_72_0 c9_1 zr_72_0 (by decide) dX1_tryEngage_55 ?_
        refine zv_geta hX wf_X1_33 wc_5 zd_3 zj_3_6 c9_5 zr_3_6 (by decide) dX1_tryEngage_58 ?_
        refine zv_iload_n hX dX1_tryEngage_61 1 rfl ?_
        refine zv_iald hX dX1_tryEngage_62 (fun x7 => ?_)
        refine zv_cVI [.int v1, .int v2, .int x7] (rest := []) hX hT.2.2.2.2 (c_X0_likesMore (zx_Y X) v1 v2 x7 s6) wv_X0_likesMore c9_0 zd_60 wm_X1_42 rfl (Nat.le_of_ble_eq_true rfl) (Nat.le_of_ble_eq_true rfl) rfl (Nat.le_of_ble_eq_true rfl) dX1_tryEngage_63 (fun r8 s9 => ?_)
        refine zv_if_eq (tgt := 90) hX dX1_tryEngage_66 rfl ?_ ?_
        · exact zv_sub [] rfl (b_X1_tryEngage_90 hX hT  s9)
        · refine zv_aload_n hX dX1_tryEngage_69 0 rfl ?_
          refine zv_geta hX wf_X1_15 wc_1 zd_72 zj_72_1 c9_1 zr_72_1 (by decide) dX1_tryEngage_70 ?_
          refine zv_iload_n hX dX1_tryEngage_73 2 rfl ?_
          refine zv_iload_n hX dX1_tryEngage_74 1 rfl ?_
          refine zv_aload_n hX dX1_tryEngage_75 0 rfl ?_
          refine zv_geta hX wf_X1_9 wc_1 zd_72 zj_72_0 c9_1 zr_72_0 (by decide) dX1_tryEngage_76 ?_
          refine zv_geta hX wf_X1_33 wc_5 zd_3 zj_3_6 c9_5 zr_3_6 (by decide) dX1_tryEngage_79 ?_
          refine zv_iload_n hX dX1_tryEngage_82 2 rfl ?_
          refine zv_iald hX dX1_tryEngage_83 (fun x10 => ?_)
          refine zv_cVI [.int v2, .int v1, .int x10] (rest := []) hX hT.2.2.2.2 (c_X0_likesMore (zx_Y X) v2 v1 x10 s9) wv_X0_likesMore c9_0 zd_60 wm_X1_42 rfl (Nat.le_of_ble_eq_true rfl) (Nat.le_of_ble_eq_true rfl) rfl (Nat.le_of_ble_eq_true rfl) dX1_tryEngage_84 (fun r11 s12 => ?_)
          refine zv_if_ne (tgt := 92) hX dX1_tryEngage_87 rfl ?_ ?_
          · refine zv_aload_n hX dX1_tryEngage_92 0 rfl ?_
            refine zv_aload_n hX dX1_tryEngage_93 0 rfl ?_
            refine zv_iload_n hX dX1_tryEngage_94 1 rfl ?_
            refine zv_cVI [.int v1] (rest := [.ref (zx_ad X 72)]) hX hT.2.2.2.2 (c_X1_leave (zx_Y X) v1 s12) wv_X1_leave c9_1 zd_72 wm_X1_46 rfl (Nat.le_of_ble_eq_true rfl) (Nat.le_of_ble_eq_true rfl) rfl (Nat.le_of_ble_eq_true rfl) dX1_tryEngage_95 (fun r13 s14 => ?_)
            refine zv_aload_n hX dX1_tryEngage_98 0 rfl ?_
            refine zv_iload_n hX dX1_tryEngage_99 2 rfl ?_
            refine zv_cVI [.int v2] (rest := [.int r13, .ref (zx_ad X 72)]) hX hT.2.2.2.2 (c_X1_leave (zx_Y X) v2 s14) wv_X1_leave c9_1 zd_72 wm_X1_46 rfl (Nat.le_of_ble_eq_true rfl) (Nat.le_of_ble_eq_true rfl) rfl (Nat.le_of_ble_eq_true rfl) dX1_tryEngage_100 (fun r15 s16 => ?_)
            refine zv_iadd hX dX1_tryEngage_103 ?_
            refine zv_puti hX wf_X1_23 wc_1 wk_1_3 zd_72 zj_72_3 c9_1 zr_72_3 dX1_tryEngage_104 (fun s17 => ?_)
            refine zv_aload_n hX dX1_tryEngage_107 0 rfl ?_
            refine zv_geta hX wf_X1_9 wc_1 zd_72 zj_72_0 c9_1 zr_72_0 (by decide) dX1_tryEngage_108 ?_
            refine zv_geta hX wf_X1_33 wc_5 zd_3 zj_3_6 c9_5 zr_3_6 (by decide) dX1_tryEngage_111 ?_
            refine zv_iload_n hX dX1_tryEngage_114 1 rfl ?_
            refine zv_iload_n hX dX1_tryEngage_115 2 rfl ?_
            refine zv_iast hX dX1_tryEngage_116 (fun s18 => ?_)
            refine zv_aload_n hX dX1_tryEngage_117 0 rfl ?_
            refine zv_geta hX wf_X1_9 wc_1 zd_72 zj_72_0 c9_1 zr_72_0 (by decide) dX1_tryEngage_118 ?_
            refine zv_geta hX wf_X1_33 wc_5 zd_3 zj_3_6 c9_5 zr_3_6 (by decide) dX1_tryEngage_121 ?_
            refine zv_iload_n hX dX1_tryEngage_124 2 rfl ?_
            refine zv_iload_n hX dX1_tryEngage_125 1 rfl ?_
            refine zv_iast hX dX1_tryEngage_126 (fun s19 => ?_)
            refine zv_iconst (v := (0 : Int32)) hX dX1_tryEngage_127 zi_i_0 ?_
            exact zv_ireti hX hT dX1_tryEngage_128
          · exact zv_sub [] rfl (b_X1_tryEngage_90 hX hT  s12)
      · refine zv_iconst (v := (nI 3)) hX dX1_tryEngage_46 zi_i_3 ?_
        exact zv_ireti hX hT dX1_tryEngage_47
    · refine zv_iconst (v := (nI 2)) hX dX1_tryEngage_32 zi_i_2 ?_
      exact zv_ireti hX hT dX1_tryEngage_33
  · refine zv_iconst (v := (1 : Int32)) hX dX1_tryEngage_17 zi_i_1 ?_
    exact zv_ireti hX hT dX1_tryEngage_18
theorem dX5_setMark_0 : decode cX5_setMark 0 = .ok (.aload_n 0, 1) := by decide +kernel
theorem dX5_setMark_1 : decode cX5_setMark 1 = .ok (.getfield 15, 3) := by decide +kernel
theorem dX5_setMark_4 : decode cX5_setMark 4 = .ok (.iload_n 1, 1) := by decide +kernel
theorem dX5_setMark_5 : decode cX5_setMark 5 = .ok (.iaload, 1) := by decide +kernel
theorem dX5_setMark_6 : decode cX5_setMark 6 = .ok (.iload_n 2, 1) := by decide +kernel
theorem dX5_setMark_7 : decode cX5_setMark 7 = .ok (.if_icmp .eq 20, 3) := by decide +kernel
theorem dX5_setMark_10 : decode cX5_setMark 10 = .ok (.aload_n 0, 1) := by decide +kernel
theorem dX5_setMark_11 : decode cX5_setMark 11 = .ok (.getfield 15, 3) := by decide +kernel
theorem dX5_setMark_14 : decode cX5_setMark 14 = .ok (.iload_n 1, 1) := by decide +kernel
theorem dX5_setMark_15 : decode cX5_setMark 15 = .ok (.iload_n 2, 1) := by decide +kernel
theorem dX5_setMark_16 : decode cX5_setMark 16 = .ok (.iastore, 1) := by decide +kernel
theorem dX5_setMark_17 : decode cX5_setMark 17 = .ok (.aload_n 0, 1) := by decide +kernel
theorem dX5_setMark_18 : decode cX5_setMark 18 = .ok (.getfield 33, 3) := by decide +kernel
theorem dX5_setMark_21 : decode cX5_setMark 21 = .ok (.iload_n 1, 1) := by decide +kernel
theorem dX5_setMark_22 : decode cX5_setMark 22 = .ok (.dup2, 1) := by decide +kernel
theorem dX5_setMark_23 : decode cX5_setMark 23 = .ok (.iaload, 1) := by decide +kernel
theorem dX5_setMark_24 : decode cX5_setMark 24 = .ok (.iconst 1, 1) := by decide +kernel
theorem dX5_setMark_25 : decode cX5_setMark 25 = .ok (.iadd, 1) := by decide +kernel
theorem dX5_setMark_26 : decode cX5_setMark 26 = .ok (.iastore, 1) := by decide +kernel
theorem dX5_setMark_27 : decode cX5_setMark 27 = .ok (.return_, 1) := by decide +kernel
def f_X5_setMark_3_27  (s : zS) : Option (Unit × zS) :=
  some ((), s)
set_option maxRecDepth 20000 in
theorem b_X5_setMark_3_27 {X : zX} (hX : zx_ok X cX5_setMark RX5 3) (hT : zx_rt X none (zR 0 0)) : ∀  (s : zS), zV X (zq X zrV) 3 27 [] [] s (f_X5_setMark_3_27  s) := by
  intro  s
  unfold f_X5_setMark_3_27
  exact zv_vret hX hT dX5_setMark_27
def f_X5_setMark_3 (v1 : Int32) (v2 : Int32) (s : zS) : Option (Unit × zS) :=
  (zr_i s 5 v1).bind fun x1 =>
  if x1 = v2 then
  (f_X5_setMark_3_27 s)
  else
  (zw_i s 5 v1 v2).bind fun s2 =>
  (zr_i s2 11 v1).bind fun x3 =>
  (zw_i s2 11 v1 (x3 + (1 : Int32))).bind fun s4 =>
  f_X5_setMark_3_27 s4
set_option maxRecDepth 20000 in
theorem c_X5_setMark_3 (Y : zG) (v1 : Int32) (v2 : Int32) (s : zS) : zM Y yX5_setMark cX5_setMark 3 none (zR 0 0) [.ref (zy_a Y 3), .int v1, .int v2] s zrV (f_X5_setMark_3 v1 v2 s) := by
  refine zm_start (by decide +kernel) (Nat.le_of_ble_eq_true rfl) ?_
  intro X hY hT hX
  subst hY
  have hX : zx_ok X cX5_setMark RX5 3 := hX
  show zV X (zq X zrV) 3 0 [(0, .ref (zx_ad X 3)), (1, .int v1), (2, .int v2)] [] s _
  unfold f_X5_setMark_3
  refine zv_aload_n hX dX5_setMark_0 0 rfl ?_
  refine zv_geta hX wf_X5_15 wc_5 zd_3 zj_3_3 c9_5 zr_3_3 (by decide) dX5_setMark_1 ?_
  refine zv_iload_n hX dX5_setMark_4 1 rfl ?_
  refine zv_iald hX dX5_setMark_5 (fun x1 => ?_)
  refine zv_iload_n hX dX5_setMark_6 2 rfl ?_
  refine zv_icmp_eq (tgt := 27) hX dX5_setMark_7 rfl ?_ ?_
  · exact zv_sub [] rfl (b_X5_setMark_3_27 hX hT  s)
  · refine zv_aload_n hX dX5_setMark_10 0 rfl ?_
    refine zv_geta hX wf_X5_15 wc_5 zd_3 zj_3_3 c9_5 zr_3_3 (by decide) dX5_setMark_11 ?_
    refine zv_iload_n hX dX5_setMark_14 1 rfl ?_
    refine zv_iload_n hX dX5_setMark_15 2 rfl ?_
    refine zv_iast hX dX5_setMark_16 (fun s2 => ?_)
    refine zv_aload_n hX dX5_setMark_17 0 rfl ?_
    refine zv_geta hX wf_X5_33 wc_5 zd_3 zj_3_14 c9_5 zr_3_14 (by decide) dX5_setMark_18 ?_
    refine zv_iload_n hX dX5_setMark_21 1 rfl ?_
    refine zv_dup2 hX dX5_setMark_22 rfl rfl ?_
    refine zv_iald hX dX5_setMark_23 (fun x3 => ?_)
    refine zv_iconst (v := (1 : Int32)) hX dX5_setMark_24 zi_i_1 ?_
    refine zv_iadd hX dX5_setMark_25 ?_
    refine zv_iast hX dX5_setMark_26 (fun s4 => ?_)
    exact zv_sub [] rfl (b_X5_setMark_3_27 hX hT  s4)
