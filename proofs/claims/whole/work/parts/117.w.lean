theorem dX4_turnsBehind_0 : decode cX4_turnsBehind 0 = .ok (.ldc 96, 2) := by decide +kernel
theorem dX4_turnsBehind_2 : decode cX4_turnsBehind 2 = .ok (.istore_n 2, 1) := by decide +kernel
theorem dX4_turnsBehind_3 : decode cX4_turnsBehind 3 = .ok (.iconst (-1), 1) := by decide +kernel
theorem dX4_turnsBehind_4 : decode cX4_turnsBehind 4 = .ok (.istore_n 3, 1) := by decide +kernel
theorem dX4_turnsBehind_5 : decode cX4_turnsBehind 5 = .ok (.iconst 0, 1) := by decide +kernel
theorem dX4_turnsBehind_6 : decode cX4_turnsBehind 6 = .ok (.istore 4, 2) := by decide +kernel
theorem dX4_turnsBehind_8 : decode cX4_turnsBehind 8 = .ok (.iload 4, 2) := by decide +kernel
theorem dX4_turnsBehind_10 : decode cX4_turnsBehind 10 = .ok (.aload_n 0, 1) := by decide +kernel
theorem dX4_turnsBehind_11 : decode cX4_turnsBehind 11 = .ok (.getfield 64, 3) := by decide +kernel
theorem dX4_turnsBehind_14 : decode cX4_turnsBehind 14 = .ok (.getfield 137, 3) := by decide +kernel
theorem dX4_turnsBehind_17 : decode cX4_turnsBehind 17 = .ok (.if_icmp .ge 68, 3) := by decide +kernel
theorem dX4_turnsBehind_20 : decode cX4_turnsBehind 20 = .ok (.iload_n 1, 1) := by decide +kernel
theorem dX4_turnsBehind_21 : decode cX4_turnsBehind 21 = .ok (.iconst 1, 1) := by decide +kernel
theorem dX4_turnsBehind_22 : decode cX4_turnsBehind 22 = .ok (.iload 4, 2) := by decide +kernel
theorem dX4_turnsBehind_24 : decode cX4_turnsBehind 24 = .ok (.ishl, 1) := by decide +kernel
theorem dX4_turnsBehind_25 : decode cX4_turnsBehind 25 = .ok (.ior, 1) := by decide +kernel
theorem dX4_turnsBehind_26 : decode cX4_turnsBehind 26 = .ok (.istore 5, 2) := by decide +kernel
theorem dX4_turnsBehind_28 : decode cX4_turnsBehind 28 = .ok (.iload 5, 2) := by decide +kernel
theorem dX4_turnsBehind_30 : decode cX4_turnsBehind 30 = .ok (.iload_n 1, 1) := by decide +kernel
theorem dX4_turnsBehind_31 : decode cX4_turnsBehind 31 = .ok (.if_icmp .eq 48, 3) := by decide +kernel
theorem dX4_turnsBehind_34 : decode cX4_turnsBehind 34 = .ok (.aload_n 0, 1) := by decide +kernel
theorem dX4_turnsBehind_35 : decode cX4_turnsBehind 35 = .ok (.iload 5, 2) := by decide +kernel
theorem dX4_turnsBehind_37 : decode cX4_turnsBehind 37 = .ok (.invokevirtual 179, 3) := by decide +kernel
theorem dX4_turnsBehind_40 : decode cX4_turnsBehind 40 = .ok (.ifCond .eq 39, 3) := by decide +kernel
theorem dX4_turnsBehind_43 : decode cX4_turnsBehind 43 = .ok (.aload_n 0, 1) := by decide +kernel
theorem dX4_turnsBehind_44 : decode cX4_turnsBehind 44 = .ok (.getfield 40, 3) := by decide +kernel
theorem dX4_turnsBehind_47 : decode cX4_turnsBehind 47 = .ok (.iload 5, 2) := by decide +kernel
theorem dX4_turnsBehind_49 : decode cX4_turnsBehind 49 = .ok (.iaload, 1) := by decide +kernel
theorem dX4_turnsBehind_50 : decode cX4_turnsBehind 50 = .ok (.iconst 1, 1) := by decide +kernel
theorem dX4_turnsBehind_51 : decode cX4_turnsBehind 51 = .ok (.iand, 1) := by decide +kernel
theorem dX4_turnsBehind_52 : decode cX4_turnsBehind 52 = .ok (.ifCond .ne 15, 3) := by decide +kernel
theorem dX4_turnsBehind_55 : decode cX4_turnsBehind 55 = .ok (.iload_n 2, 1) := by decide +kernel
theorem dX4_turnsBehind_56 : decode cX4_turnsBehind 56 = .ok (.aload_n 0, 1) := by decide +kernel
theorem dX4_turnsBehind_57 : decode cX4_turnsBehind 57 = .ok (.getfield 40, 3) := by decide +kernel
theorem dX4_turnsBehind_60 : decode cX4_turnsBehind 60 = .ok (.iload 5, 2) := by decide +kernel
theorem dX4_turnsBehind_62 : decode cX4_turnsBehind 62 = .ok (.iaload, 1) := by decide +kernel
theorem dX4_turnsBehind_63 : decode cX4_turnsBehind 63 = .ok (.invokestatic 68, 3) := by decide +kernel
theorem dX4_turnsBehind_66 : decode cX4_turnsBehind 66 = .ok (.istore_n 2, 1) := by decide +kernel
theorem dX4_turnsBehind_67 : decode cX4_turnsBehind 67 = .ok (.iload_n 3, 1) := by decide +kernel
theorem dX4_turnsBehind_68 : decode cX4_turnsBehind 68 = .ok (.aload_n 0, 1) := by decide +kernel
theorem dX4_turnsBehind_69 : decode cX4_turnsBehind 69 = .ok (.getfield 40, 3) := by decide +kernel
theorem dX4_turnsBehind_72 : decode cX4_turnsBehind 72 = .ok (.iload 5, 2) := by decide +kernel
theorem dX4_turnsBehind_74 : decode cX4_turnsBehind 74 = .ok (.iaload, 1) := by decide +kernel
theorem dX4_turnsBehind_75 : decode cX4_turnsBehind 75 = .ok (.invokestatic 74, 3) := by decide +kernel
theorem dX4_turnsBehind_78 : decode cX4_turnsBehind 78 = .ok (.istore_n 3, 1) := by decide +kernel
theorem dX4_turnsBehind_79 : decode cX4_turnsBehind 79 = .ok (.iinc 4 1, 3) := by decide +kernel
theorem dX4_turnsBehind_82 : decode cX4_turnsBehind 82 = .ok (.goto (-74), 3) := by decide +kernel
theorem dX4_turnsBehind_85 : decode cX4_turnsBehind 85 = .ok (.iconst 1, 1) := by decide +kernel
theorem dX4_turnsBehind_86 : decode cX4_turnsBehind 86 = .ok (.iload_n 2, 1) := by decide +kernel
theorem dX4_turnsBehind_87 : decode cX4_turnsBehind 87 = .ok (.ldc 96, 2) := by decide +kernel
theorem dX4_turnsBehind_89 : decode cX4_turnsBehind 89 = .ok (.if_icmp .ge 7, 3) := by decide +kernel
theorem dX4_turnsBehind_92 : decode cX4_turnsBehind 92 = .ok (.iload_n 2, 1) := by decide +kernel
theorem dX4_turnsBehind_93 : decode cX4_turnsBehind 93 = .ok (.goto 4, 3) := by decide +kernel
theorem dX4_turnsBehind_96 : decode cX4_turnsBehind 96 = .ok (.iload_n 3, 1) := by decide +kernel
theorem dX4_turnsBehind_97 : decode cX4_turnsBehind 97 = .ok (.iadd, 1) := by decide +kernel
theorem dX4_turnsBehind_98 : decode cX4_turnsBehind 98 = .ok (.ireturn, 1) := by decide +kernel
def f_X4_turnsBehind_97 (w0 : Int32) (w1 : Int32) (s : zS) : Option (Int32 × zS) :=
  some (w1 + w0, s)
set_option maxRecDepth 20000 in
theorem b_X4_turnsBehind_97 {X : zX} (hX : zx_ok X cX4_turnsBehind RX4 6) (hT : zx_rt X (some .int) (zR 68 1750)) : ∀ (w0 : Int32) (w1 : Int32) (s : zS), zV X (zq X zrI) 6 97 [] [.int w0, .int w1] s (f_X4_turnsBehind_97 w0 w1 s) := by
  intro w0 w1 s
  unfold f_X4_turnsBehind_97
  refine zv_iadd hX dX4_turnsBehind_97 ?_
  exact zv_ireti hX hT dX4_turnsBehind_98
def f_X4_turnsBehind_79 (kb_8 : Int32 → Int32 → Int32 → Int32 → zS → Option (Int32 × zS)) (v1 : Int32) (v2 : Int32) (v3 : Int32) (v4 : Int32) (s : zS) : Option (Int32 × zS) :=
  zb (v4 + (1 : Int32)) fun x1 =>
  kb_8 v1 v2 v3 x1 s
set_option maxRecDepth 20000 in
theorem b_X4_turnsBehind_79 {X : zX} {kb_8 : Int32 → Int32 → Int32 → Int32 → zS → Option (Int32 × zS)} (hX : zx_ok X cX4_turnsBehind RX4 6) (hT : zx_rt X (some .int) (zR 68 1750)) (hk_8 : ∀ (v1 : Int32) (v2 : Int32) (v3 : Int32) (v4 : Int32) (s : zS), zV X (zq X zrI) 6 8 [(0, .ref (zx_ad X 42)), (1, .int v1), (2, .int v2), (3, .int v3), (4, .int v4)] [] s (kb_8 v1 v2 v3 v4 s)) : ∀ (v1 : Int32) (v2 : Int32) (v3 : Int32) (v4 : Int32) (s : zS), zV X (zq X zrI) 6 79 [(0, .ref (zx_ad X 42)), (1, .int v1), (2, .int v2), (3, .int v3), (4, .int v4)] [] s (f_X4_turnsBehind_79 kb_8 v1 v2 v3 v4 s) := by
  intro v1 v2 v3 v4 s
  unfold f_X4_turnsBehind_79
  refine zv_iincB (lw := fun x1 => [(4, .int x1), (0, .ref (zx_ad X 42)), (1, .int v1), (2, .int v2), (3, .int v3)]) hX dX4_turnsBehind_79 4 rfl zi_i_1 (by decide) (fun _ => rfl) (fun x1 => ?_)
  refine zv_goto (tgt := 8) hX dX4_turnsBehind_82 rfl ?_
  exact zv_sub [1, 2, 3, 4, 0] rfl (hk_8 v1 v2 v3 x1 s)
def f_X4_turnsBehind_67 (kb_8 : Int32 → Int32 → Int32 → Int32 → zS → Option (Int32 × zS)) (v1 : Int32) (v2 : Int32) (v3 : Int32) (v4 : Int32) (v5 : Int32) (s : zS) : Option (Int32 × zS) :=
  (zr_i s 52 v5).bind fun x2 =>
  zbd (f_J9_max_7cf53 v3 x2 s) fun r3 s4 =>
  f_X4_turnsBehind_79 kb_8 v1 v2 r3 v4 s4
set_option maxRecDepth 20000 in
theorem b_X4_turnsBehind_67 {X : zX} {kb_8 : Int32 → Int32 → Int32 → Int32 → zS → Option (Int32 × zS)} (hX : zx_ok X cX4_turnsBehind RX4 6) (hT : zx_rt X (some .int) (zR 68 1750)) (hk_8 : ∀ (v1 : Int32) (v2 : Int32) (v3 : Int32) (v4 : Int32) (s : zS), zV X (zq X zrI) 6 8 [(0, .ref (zx_ad X 42)), (1, .int v1), (2, .int v2), (3, .int v3), (4, .int v4)] [] s (kb_8 v1 v2 v3 v4 s)) : ∀ (v1 : Int32) (v2 : Int32) (v3 : Int32) (v4 : Int32) (v5 : Int32) (s : zS), zV X (zq X zrI) 6 67 [(0, .ref (zx_ad X 42)), (1, .int v1), (2, .int v2), (3, .int v3), (4, .int v4), (5, .int v5)] [] s (f_X4_turnsBehind_67 kb_8 v1 v2 v3 v4 v5 s) := by
  intro v1 v2 v3 v4 v5 s
  unfold f_X4_turnsBehind_67
  refine zv_iload_n hX dX4_turnsBehind_67 3 rfl ?_
  refine zv_aload_n hX dX4_turnsBehind_68 0 rfl ?_
  refine zv_geta hX wf_X4_40 wc_4 zd_42 zj_42_10 c9_4 zr_42_10 (by decide) dX4_turnsBehind_69 ?_
  refine zv_iload hX dX4_turnsBehind_72 5 rfl ?_
  refine zv_iald hX dX4_turnsBehind_74 (fun x2 => ?_)
  refine zv_cSI [.int v3, .int x2] (rest := []) hX hT.2.2.2.2 (c_J9_max_7cf53 (zx_Y X) v3 x2 s) wv_J9_max_7cf53 wm_X4_74 rfl (Nat.le_of_ble_eq_true rfl) (Nat.le_of_ble_eq_true rfl) rfl (Nat.le_of_ble_eq_true rfl) dX4_turnsBehind_75 (fun r3 s4 => ?_)
  refine zv_istore_n (lv' := [(3, .int r3), (0, .ref (zx_ad X 42)), (1, .int v1), (2, .int v2), (4, .int v4), (5, .int v5)]) hX dX4_turnsBehind_78 (by decide) rfl ?_
  exact zv_sub [1, 2, 3, 0, 4] rfl (b_X4_turnsBehind_79 hX hT hk_8 v1 v2 r3 v4 s4)
def f_X4_turnsBehind_8 : Nat → Int32 → Int32 → Int32 → Int32 → zS → Option (Int32 × zS)
  | 0, _, _, _, _, _ => none
  | n + 1, v1, v2, v3, v4, s =>
    if (s.1 3 0) ≤ v4 then
    (if (1000000 : Int32) ≤ v2 then
    (f_X4_turnsBehind_97 v3 (1 : Int32) s)
    else
    f_X4_turnsBehind_97 v2 (1 : Int32) s)
    else
    zb (v1 ||| (zo_shl (1 : Int32) v4)) fun x5 =>
    if x5 = v1 then
    (f_X4_turnsBehind_79 (f_X4_turnsBehind_8 n) v1 v2 v3 v4 s)
    else
    zbd (f_X4_isFitting x5 s) fun r6 s7 =>
    if r6 = 0 then
    (f_X4_turnsBehind_79 (f_X4_turnsBehind_8 n) v1 v2 v3 v4 s7)
    else
    (zr_i s7 52 x5).bind fun x8 =>
    if ¬ (x8 &&& (1 : Int32)) = 0 then
    (f_X4_turnsBehind_67 (f_X4_turnsBehind_8 n) v1 v2 v3 v4 x5 s7)
    else
    (zr_i s7 52 x5).bind fun x9 =>
    zbd (f_J9_min_7cf53 v2 x9 s7) fun r10 s11 =>
    f_X4_turnsBehind_67 (f_X4_turnsBehind_8 n) v1 r10 v3 v4 x5 s11
set_option maxRecDepth 20000 in
theorem b_X4_turnsBehind_8 {X : zX} (hX : zx_ok X cX4_turnsBehind RX4 6) (hT : zx_rt X (some .int) (zR 68 1750)) : ∀ (n : Nat) (v1 : Int32) (v2 : Int32) (v3 : Int32) (v4 : Int32) (s : zS), zV X (zq X zrI) 6 8 [(0, .ref (zx_ad X 42)), (1, .int v1), (2, .int v2), (3, .int v3), (4, .int v4)] [] s (f_X4_turnsBehind_8 n v1 v2 v3 v4 s) := by
  intro n
  induction n with
  | zero => intro v1 v2 v3 v4 s; exact zv_none
  | succ n ih =>
    intro v1 v2 v3 v4 s
    rw [f_X4_turnsBehind_8]
    refine zv_iload hX dX4_turnsBehind_8 4 rfl ?_
    refine zv_aload_n hX dX4_turnsBehind_10 0 rfl ?_
    refine zv_geta hX wf_X4_64 wc_4 zd_42 zj_42_0 c9_4 zr_42_0 (by decide) dX4_turnsBehind_11 ?_
    refine zv_geti hX wf_X4_137 wc_5 zd_3 zj_3_0 c9_5 zr_3_0 dX4_turnsBehind_14 ?_
    refine zv_icmp_ge (tgt := 85) hX dX4_turnsBehind_17 rfl ?_ ?_
    · refine zv_iconst (v := (1 : Int32)) hX dX4_turnsBehind_85 zi_i_1 ?_
      refine zv_iload_n hX dX4_turnsBehind_86 2 rfl ?_
      refine zv_ldc hX wn_X4_96 dX4_turnsBehind_87 ?_
      refine zv_icmp_ge (tgt := 96) hX dX4_turnsBehind_89 rfl ?_ ?_
      · refine zv_iload_n hX dX4_turnsBehind_96 3 rfl ?_
        exact zv_sub [] rfl (b_X4_turnsBehind_97 hX hT v3 (1 : Int32) s)
      · refine zv_iload_n hX dX4_turnsBehind_92 2 rfl ?_
        refine zv_goto (tgt := 97) hX dX4_turnsBehind_93 rfl ?_
        exact zv_sub [] rfl (b_X4_turnsBehind_97 hX hT v2 (1 : Int32) s)
    · refine zv_iload_n hX dX4_turnsBehind_20 1 rfl ?_
      refine zv_iconst (v := (1 : Int32)) hX dX4_turnsBehind_21 zi_i_1 ?_
      refine zv_iload hX dX4_turnsBehind_22 4 rfl ?_
      refine zv_ishl hX dX4_turnsBehind_24 ?_
      refine zv_ior hX dX4_turnsBehind_25 ?_
      refine zv_istB (lw := fun x5 => [(5, .int x5), (0, .ref (zx_ad X 42)), (1, .int v1), (2, .int v2), (3, .int v3), (4, .int v4)]) hX dX4_turnsBehind_26 (by decide) (fun _ => rfl) (fun x5 => ?_)
      refine zv_iload hX dX4_turnsBehind_28 0 rfl ?_
      refine zv_iload_n hX dX4_turnsBehind_30 2 rfl ?_
      refine zv_icmp_eq (tgt := 79) hX dX4_turnsBehind_31 rfl ?_ ?_
      · exact zv_sub [1, 2, 3, 4, 5] rfl (b_X4_turnsBehind_79 hX hT ih v1 v2 v3 v4 s)
      · refine zv_aload_n hX dX4_turnsBehind_34 1 rfl ?_
        refine zv_iload hX dX4_turnsBehind_35 0 rfl ?_
        refine zv_cVI [.int x5] (rest := []) hX hT.2.2.2.2 (c_X4_isFitting (zx_Y X) x5 s) wv_X4_isFitting c9_4 zd_42 wm_X4_179 rfl (Nat.le_of_ble_eq_true rfl) (Nat.le_of_ble_eq_true rfl) rfl (Nat.le_of_ble_eq_true rfl) dX4_turnsBehind_37 (fun r6 s7 => ?_)
        refine zv_if_eq (tgt := 79) hX dX4_turnsBehind_40 rfl ?_ ?_
        · exact zv_sub [1, 2, 3, 4, 5] rfl (b_X4_turnsBehind_79 hX hT ih v1 v2 v3 v4 s7)
        · refine zv_aload_n hX dX4_turnsBehind_43 1 rfl ?_
          refine zv_geta hX wf_X4_40 wc_4 zd_42 zj_42_10 c9_4 zr_42_10 (by decide) dX4_turnsBehind_44 ?_
          refine zv_iload hX dX4_turnsBehind_47 0 rfl ?_
          refine zv_iald hX dX4_turnsBehind_49 (fun x8 => ?_)
          refine zv_iconst (v := (1 : Int32)) hX dX4_turnsBehind_50 zi_i_1 ?_
          refine zv_iand hX dX4_turnsBehind_51 ?_
          refine zv_if_ne (tgt := 67) hX dX4_turnsBehind_52 rfl ?_ ?_
          · exact zv_sub [1, 2, 3, 4, 5, 0] rfl (b_X4_turnsBehind_67 hX hT ih v1 v2 v3 v4 x5 s7)
          · refine zv_iload_n hX dX4_turnsBehind_55 3 rfl ?_
            refine zv_aload_n hX dX4_turnsBehind_56 1 rfl ?_
            refine zv_geta hX wf_X4_40 wc_4 zd_42 zj_42_10 c9_4 zr_42_10 (by decide) dX4_turnsBehind_57 ?_
            refine zv_iload hX dX4_turnsBehind_60 0 rfl ?_
            refine zv_iald hX dX4_turnsBehind_62 (fun x9 => ?_)
            refine zv_cSI [.int v2, .int x9] (rest := []) hX hT.2.2.2.2 (c_J9_min_7cf53 (zx_Y X) v2 x9 s7) wv_J9_min_7cf53 wm_X4_68 rfl (Nat.le_of_ble_eq_true rfl) (Nat.le_of_ble_eq_true rfl) rfl (Nat.le_of_ble_eq_true rfl) dX4_turnsBehind_63 (fun r10 s11 => ?_)
            refine zv_istore_n (lv' := [(2, .int r10), (5, .int x5), (0, .ref (zx_ad X 42)), (1, .int v1), (3, .int v3), (4, .int v4)]) hX dX4_turnsBehind_66 (by decide) rfl ?_
            exact zv_sub [2, 3, 0, 4, 5, 1] rfl (b_X4_turnsBehind_67 hX hT ih v1 r10 v3 v4 x5 s11)
def f_X4_turnsBehind (v1 : Int32) (s : zS) : Option (Int32 × zS) :=
  f_X4_turnsBehind_8 zFU v1 (1000000 : Int32) (-1 : Int32) (0 : Int32) s
set_option maxRecDepth 20000 in
theorem c_X4_turnsBehind (Y : zG) (v1 : Int32) (s : zS) : zM Y yX4_turnsBehind cX4_turnsBehind 6 (some .int) (zR 68 1750) [.ref (zy_a Y 42), .int v1] s zrI (f_X4_turnsBehind v1 s) := by
  refine zm_start (by decide +kernel) (Nat.le_of_ble_eq_true rfl) ?_
  intro X hY hT hX
  subst hY
  have hX : zx_ok X cX4_turnsBehind RX4 6 := hX
  show zV X (zq X zrI) 6 0 [(0, .ref (zx_ad X 42)), (1, .int v1)] [] s _
  unfold f_X4_turnsBehind
  refine zv_ldc hX wn_X4_96 dX4_turnsBehind_0 ?_
  refine zv_istore_n (lv' := [(2, .int (1000000 : Int32)), (0, .ref (zx_ad X 42)), (1, .int v1)]) hX dX4_turnsBehind_2 (by decide) rfl ?_
  refine zv_iconst (v := (-1 : Int32)) hX dX4_turnsBehind_3 zi_i_m1 ?_
  refine zv_istore_n (lv' := [(3, .int (-1 : Int32)), (2, .int (1000000 : Int32)), (0, .ref (zx_ad X 42)), (1, .int v1)]) hX dX4_turnsBehind_4 (by decide) rfl ?_
  refine zv_iconst (v := (0 : Int32)) hX dX4_turnsBehind_5 zi_i_0 ?_
  refine zv_istore (lv' := [(4, .int (0 : Int32)), (3, .int (-1 : Int32)), (2, .int (1000000 : Int32)), (0, .ref (zx_ad X 42)), (1, .int v1)]) hX dX4_turnsBehind_6 (by decide) rfl ?_
  exact zv_sub [3, 4, 2, 1, 0] rfl (b_X4_turnsBehind_8 hX hT zFU v1 (1000000 : Int32) (-1 : Int32) (0 : Int32) s)
theorem dX4_learnTurns_0 : decode cX4_learnTurns 0 = .ok (.aload_n 0, 1) := by decide +kernel
theorem dX4_learnTurns_1 : decode cX4_learnTurns 1 = .ok (.getfield 64, 3) := by decide +kernel
theorem dX4_learnTurns_4 : decode cX4_learnTurns 4 = .ok (.invokevirtual 172, 3) := by decide +kernel
theorem dX4_learnTurns_7 : decode cX4_learnTurns 7 = .ok (.istore_n 2, 1) := by decide +kernel
theorem dX4_learnTurns_8 : decode cX4_learnTurns 8 = .ok (.iload_n 2, 1) := by decide +kernel
theorem dX4_learnTurns_9 : decode cX4_learnTurns 9 = .ok (.iload_n 1, 1) := by decide +kernel
theorem dX4_learnTurns_10 : decode cX4_learnTurns 10 = .ok (.if_icmp .lt 31, 3) := by decide +kernel
theorem dX4_learnTurns_13 : decode cX4_learnTurns 13 = .ok (.iload_n 2, 1) := by decide +kernel
theorem dX4_learnTurns_14 : decode cX4_learnTurns 14 = .ok (.ifCond .lt 27, 3) := by decide +kernel
theorem dX4_learnTurns_17 : decode cX4_learnTurns 17 = .ok (.iload_n 2, 1) := by decide +kernel
theorem dX4_learnTurns_18 : decode cX4_learnTurns 18 = .ok (.iload_n 1, 1) := by decide +kernel
theorem dX4_learnTurns_19 : decode cX4_learnTurns 19 = .ok (.iand, 1) := by decide +kernel
theorem dX4_learnTurns_20 : decode cX4_learnTurns 20 = .ok (.iload_n 1, 1) := by decide +kernel
theorem dX4_learnTurns_21 : decode cX4_learnTurns 21 = .ok (.if_icmp .ne 14, 3) := by decide +kernel
theorem dX4_learnTurns_24 : decode cX4_learnTurns 24 = .ok (.aload_n 0, 1) := by decide +kernel
theorem dX4_learnTurns_25 : decode cX4_learnTurns 25 = .ok (.getfield 40, 3) := by decide +kernel
theorem dX4_learnTurns_28 : decode cX4_learnTurns 28 = .ok (.iload_n 2, 1) := by decide +kernel
theorem dX4_learnTurns_29 : decode cX4_learnTurns 29 = .ok (.aload_n 0, 1) := by decide +kernel
theorem dX4_learnTurns_30 : decode cX4_learnTurns 30 = .ok (.iload_n 2, 1) := by decide +kernel
theorem dX4_learnTurns_31 : decode cX4_learnTurns 31 = .ok (.invokevirtual 176, 3) := by decide +kernel
theorem dX4_learnTurns_34 : decode cX4_learnTurns 34 = .ok (.iastore, 1) := by decide +kernel
theorem dX4_learnTurns_35 : decode cX4_learnTurns 35 = .ok (.iinc 2 (-1), 3) := by decide +kernel
theorem dX4_learnTurns_38 : decode cX4_learnTurns 38 = .ok (.goto (-30), 3) := by decide +kernel
theorem dX4_learnTurns_41 : decode cX4_learnTurns 41 = .ok (.return_, 1) := by decide +kernel
def f_X4_learnTurns_41  (s : zS) : Option (Unit × zS) :=
  some ((), s)
set_option maxRecDepth 20000 in
theorem b_X4_learnTurns_41 {X : zX} (hX : zx_ok X cX4_learnTurns RX4 3) (hT : zx_rt X none (zR 69 1775)) : ∀  (s : zS), zV X (zq X zrV) 3 41 [] [] s (f_X4_learnTurns_41  s) := by
  intro  s
  unfold f_X4_learnTurns_41
  exact zv_vret hX hT dX4_learnTurns_41
def f_X4_learnTurns_35 (kb_8 : Int32 → Int32 → zS → Option (Unit × zS)) (v1 : Int32) (v2 : Int32) (s : zS) : Option (Unit × zS) :=
  zb (v2 + (-1 : Int32)) fun x1 =>
  kb_8 v1 x1 s
set_option maxRecDepth 20000 in
theorem b_X4_learnTurns_35 {X : zX} {kb_8 : Int32 → Int32 → zS → Option (Unit × zS)} (hX : zx_ok X cX4_learnTurns RX4 3) (hT : zx_rt X none (zR 69 1775)) (hk_8 : ∀ (v1 : Int32) (v2 : Int32) (s : zS), zV X (zq X zrV) 3 8 [(0, .ref (zx_ad X 42)), (1, .int v1), (2, .int v2)] [] s (kb_8 v1 v2 s)) : ∀ (v1 : Int32) (v2 : Int32) (s : zS), zV X (zq X zrV) 3 35 [(0, .ref (zx_ad X 42)), (1, .int v1), (2, .int v2)] [] s (f_X4_learnTurns_35 kb_8 v1 v2 s) := by
  intro v1 v2 s
  unfold f_X4_learnTurns_35
  refine zv_iincB (lw := fun x1 => [(2, .int x1), (0, .ref (zx_ad X 42)), (1, .int v1)]) hX dX4_learnTurns_35 2 rfl zi_i_m1 (by decide) (fun _ => rfl) (fun x1 => ?_)
  refine zv_goto (tgt := 8) hX dX4_learnTurns_38 rfl ?_
  exact zv_sub [1, 2, 0] rfl (hk_8 v1 x1 s)
def f_X4_learnTurns_8 : Nat → Int32 → Int32 → zS → Option (Unit × zS)
  | 0, _, _, _ => none
  | n + 1, v1, v2, s =>
    if v2 < v1 then
    (f_X4_learnTurns_41 s)
    else
    if v2 < 0 then
    (f_X4_learnTurns_41 s)
    else
    if ¬ (v2 &&& v1) = v1 then
    (f_X4_learnTurns_35 (f_X4_learnTurns_8 n) v1 v2 s)
    else
    zbd (f_X4_turnsBehind v2 s) fun r2 s3 =>
    (zw_i s3 52 v2 r2).bind fun s4 =>
    f_X4_learnTurns_35 (f_X4_learnTurns_8 n) v1 v2 s4
set_option maxRecDepth 20000 in
theorem b_X4_learnTurns_8 {X : zX} (hX : zx_ok X cX4_learnTurns RX4 3) (hT : zx_rt X none (zR 69 1775)) : ∀ (n : Nat) (v1 : Int32) (v2 : Int32) (s : zS), zV X (zq X zrV) 3 8 [(0, .ref (zx_ad X 42)), (1, .int v1), (2, .int v2)] [] s (f_X4_learnTurns_8 n v1 v2 s) := by
  intro n
  induction n with
  | zero => intro v1 v2 s; exact zv_none
  | succ n ih =>
    intro v1 v2 s
    rw [f_X4_learnTurns_8]
    refine zv_iload_n hX dX4_learnTurns_8 2 rfl ?_
    refine zv_iload_n hX dX4_learnTurns_9 1 rfl ?_
    refine zv_icmp_lt (tgt := 41) hX dX4_learnTurns_10 rfl ?_ ?_
    · exact zv_sub [] rfl (b_X4_learnTurns_41 hX hT  s)
    · refine zv_iload_n hX dX4_learnTurns_13 2 rfl ?_
      refine zv_if_lt (tgt := 41) hX dX4_learnTurns_14 rfl ?_ ?_
      · exact zv_sub [] rfl (b_X4_learnTurns_41 hX hT  s)
      · refine zv_iload_n hX dX4_learnTurns_17 2 rfl ?_
        refine zv_iload_n hX dX4_learnTurns_18 1 rfl ?_
        refine zv_iand hX dX4_learnTurns_19 ?_
        refine zv_iload_n hX dX4_learnTurns_20 1 rfl ?_
        refine zv_icmp_ne (tgt := 35) hX dX4_learnTurns_21 rfl ?_ ?_
        · exact b_X4_learnTurns_35 hX hT ih v1 v2 s
        · refine zv_aload_n hX dX4_learnTurns_24 0 rfl ?_
          refine zv_geta hX wf_X4_40 wc_4 zd_42 zj_42_10 c9_4 zr_42_10 (by decide) dX4_learnTurns_25 ?_
          refine zv_iload_n hX dX4_learnTurns_28 2 rfl ?_
          refine zv_aload_n hX dX4_learnTurns_29 0 rfl ?_
          refine zv_iload_n hX dX4_learnTurns_30 2 rfl ?_
          refine zv_cVI [.int v2] (rest := [.int v2, .ref (zx_ad X 52)]) hX hT.2.2.2.2 (c_X4_turnsBehind (zx_Y X) v2 s) wv_X4_turnsBehind c9_4 zd_42 wm_X4_176 rfl (Nat.le_of_ble_eq_true rfl) (Nat.le_of_ble_eq_true rfl) rfl (Nat.le_of_ble_eq_true rfl) dX4_learnTurns_31 (fun r2 s3 => ?_)
          refine zv_iast hX dX4_learnTurns_34 (fun s4 => ?_)
          exact b_X4_learnTurns_35 hX hT ih v1 v2 s4
def f_X4_learnTurns (v1 : Int32) (s : zS) : Option (Unit × zS) :=
  zbd (f_X5_everybody_3 s) fun r5 s6 =>
  f_X4_learnTurns_8 zFU v1 r5 s6
set_option maxRecDepth 20000 in
theorem c_X4_learnTurns (Y : zG) (v1 : Int32) (s : zS) : zM Y yX4_learnTurns cX4_learnTurns 3 none (zR 69 1775) [.ref (zy_a Y 42), .int v1] s zrV (f_X4_learnTurns v1 s) := by
  refine zm_start (by decide +kernel) (Nat.le_of_ble_eq_true rfl) ?_
  intro X hY hT hX
  subst hY
  have hX : zx_ok X cX4_learnTurns RX4 3 := hX
  show zV X (zq X zrV) 3 0 [(0, .ref (zx_ad X 42)), (1, .int v1)] [] s _
  unfold f_X4_learnTurns
  refine zv_aload_n hX dX4_learnTurns_0 0 rfl ?_
  refine zv_geta hX wf_X4_64 wc_4 zd_42 zj_42_0 c9_4 zr_42_0 (by decide) dX4_learnTurns_1 ?_
  refine zv_cVI [] (rest := []) hX hT.2.2.2.2 (c_X5_everybody_3 (zx_Y X) s) wv_X5_everybody c9_5 zd_3 wm_X4_172 rfl (Nat.le_of_ble_eq_true rfl) (Nat.le_of_ble_eq_true rfl) rfl (Nat.le_of_ble_eq_true rfl) dX4_learnTurns_4 (fun r5 s6 => ?_)
  refine zv_istore_n (lv' := [(2, .int r5), (0, .ref (zx_ad X 42)), (1, .int v1)]) hX dX4_learnTurns_7 (by decide) rfl ?_
  exact zv_sub [1, 2, 0] rfl (b_X4_learnTurns_8 hX hT zFU v1 r5 s6)
theorem dX4_nearestFitting_0 : decode cX4_nearestFitting 0 = .ok (.iconst 0, 1) := by decide +kernel
theorem dX4_nearestFitting_1 : decode cX4_nearestFitting 1 = .ok (.istore_n 3, 1) := by decide +kernel
theorem dX4_nearestFitting_2 : decode cX4_nearestFitting 2 = .ok (.iload_n 3, 1) := by decide +kernel
theorem dX4_nearestFitting_3 : decode cX4_nearestFitting 3 = .ok (.bipush 9, 2) := by decide +kernel
theorem dX4_nearestFitting_5 : decode cX4_nearestFitting 5 = .ok (.if_icmp .gt 73, 3) := by decide +kernel
theorem dX4_nearestFitting_8 : decode cX4_nearestFitting 8 = .ok (.iconst 0, 1) := by decide +kernel
theorem dX4_nearestFitting_9 : decode cX4_nearestFitting 9 = .ok (.istore 4, 2) := by decide +kernel
theorem dX4_nearestFitting_11 : decode cX4_nearestFitting 11 = .ok (.iload 4, 2) := by decide +kernel
theorem dX4_nearestFitting_13 : decode cX4_nearestFitting 13 = .ok (.sipush 512, 3) := by decide +kernel
theorem dX4_nearestFitting_16 : decode cX4_nearestFitting 16 = .ok (.if_icmp .ge 56, 3) := by decide +kernel
theorem dX4_nearestFitting_19 : decode cX4_nearestFitting 19 = .ok (.iload 4, 2) := by decide +kernel
theorem dX4_nearestFitting_21 : decode cX4_nearestFitting 21 = .ok (.iload_n 1, 1) := by decide +kernel
theorem dX4_nearestFitting_22 : decode cX4_nearestFitting 22 = .ok (.ixor, 1) := by decide +kernel
theorem dX4_nearestFitting_23 : decode cX4_nearestFitting 23 = .ok (.invokestatic 125, 3) := by decide +kernel
theorem dX4_nearestFitting_26 : decode cX4_nearestFitting 26 = .ok (.iload_n 3, 1) := by decide +kernel
theorem dX4_nearestFitting_27 : decode cX4_nearestFitting 27 = .ok (.if_icmp .ne 39, 3) := by decide +kernel
theorem dX4_nearestFitting_30 : decode cX4_nearestFitting 30 = .ok (.iload 4, 2) := by decide +kernel
theorem dX4_nearestFitting_32 : decode cX4_nearestFitting 32 = .ok (.invokestatic 125, 3) := by decide +kernel
theorem dX4_nearestFitting_35 : decode cX4_nearestFitting 35 = .ok (.iload_n 2, 1) := by decide +kernel
theorem dX4_nearestFitting_36 : decode cX4_nearestFitting 36 = .ok (.invokestatic 125, 3) := by decide +kernel
theorem dX4_nearestFitting_39 : decode cX4_nearestFitting 39 = .ok (.iadd, 1) := by decide +kernel
theorem dX4_nearestFitting_40 : decode cX4_nearestFitting 40 = .ok (.istore 5, 2) := by decide +kernel
theorem dX4_nearestFitting_42 : decode cX4_nearestFitting 42 = .ok (.aload_n 0, 1) := by decide +kernel
theorem dX4_nearestFitting_43 : decode cX4_nearestFitting 43 = .ok (.aload_n 0, 1) := by decide +kernel
theorem dX4_nearestFitting_44 : decode cX4_nearestFitting 44 = .ok (.getfield 21, 3) := by decide +kernel
theorem dX4_nearestFitting_47 : decode cX4_nearestFitting 47 = .ok (.iconst 0, 1) := by decide +kernel
theorem dX4_nearestFitting_48 : decode cX4_nearestFitting 48 = .ok (.iload 4, 2) := by decide +kernel
theorem dX4_nearestFitting_50 : decode cX4_nearestFitting 50 = .ok (.iload_n 2, 1) := by decide +kernel
theorem dX4_nearestFitting_51 : decode cX4_nearestFitting 51 = .ok (.invokestatic 85, 3) := by decide +kernel
theorem dX4_nearestFitting_54 : decode cX4_nearestFitting 54 = .ok (.iload 5, 2) := by decide +kernel
theorem dX4_nearestFitting_56 : decode cX4_nearestFitting 56 = .ok (.iconst 2, 1) := by decide +kernel
theorem dX4_nearestFitting_57 : decode cX4_nearestFitting 57 = .ok (.invokevirtual 133, 3) := by decide +kernel
theorem dX4_nearestFitting_60 : decode cX4_nearestFitting 60 = .ok (.ifCond .eq 6, 3) := by decide +kernel
theorem dX4_nearestFitting_63 : decode cX4_nearestFitting 63 = .ok (.iload 4, 2) := by decide +kernel
theorem dX4_nearestFitting_65 : decode cX4_nearestFitting 65 = .ok (.ireturn, 1) := by decide +kernel
theorem dX4_nearestFitting_66 : decode cX4_nearestFitting 66 = .ok (.iinc 4 1, 3) := by decide +kernel
theorem dX4_nearestFitting_69 : decode cX4_nearestFitting 69 = .ok (.goto (-58), 3) := by decide +kernel
theorem dX4_nearestFitting_72 : decode cX4_nearestFitting 72 = .ok (.iinc 3 1, 3) := by decide +kernel
theorem dX4_nearestFitting_75 : decode cX4_nearestFitting 75 = .ok (.goto (-73), 3) := by decide +kernel
theorem dX4_nearestFitting_78 : decode cX4_nearestFitting 78 = .ok (.iconst (-1), 1) := by decide +kernel
theorem dX4_nearestFitting_79 : decode cX4_nearestFitting 79 = .ok (.ireturn, 1) := by decide +kernel
def f_X4_nearestFitting_66 (kb_2 : Int32 → Int32 → Int32 → zS → Option (Int32 × zS)) (kb_11 : Int32 → Int32 → Int32 → Int32 → zS → Option (Int32 × zS)) (v1 : Int32) (v2 : Int32) (v3 : Int32) (v4 : Int32) (s : zS) : Option (Int32 × zS) :=
  zb (v4 + (1 : Int32)) fun x1 =>
  kb_11 v1 v2 v3 x1 s
set_option maxRecDepth 20000 in
theorem b_X4_nearestFitting_66 {X : zX} {kb_2 : Int32 → Int32 → Int32 → zS → Option (Int32 × zS)} {kb_11 : Int32 → Int32 → Int32 → Int32 → zS → Option (Int32 × zS)} (hX : zx_ok X cX4_nearestFitting RX4 6) (hT : zx_rt X (some .int) (zR 2 54)) (hk_2 : ∀ (v1 : Int32) (v2 : Int32) (v3 : Int32) (s : zS), zV X (zq X zrI) 6 2 [(0, .ref (zx_ad X 42)), (1, .int v1), (2, .int v2), (3, .int v3)] [] s (kb_2 v1 v2 v3 s)) (hk_11 : ∀ (v1 : Int32) (v2 : Int32) (v3 : Int32) (v4 : Int32) (s : zS), zV X (zq X zrI) 6 11 [(0, .ref (zx_ad X 42)), (1, .int v1), (2, .int v2), (3, .int v3), (4, .int v4)] [] s (kb_11 v1 v2 v3 v4 s)) : ∀ (v1 : Int32) (v2 : Int32) (v3 : Int32) (v4 : Int32) (s : zS), zV X (zq X zrI) 6 66 [(0, .ref (zx_ad X 42)), (1, .int v1), (2, .int v2), (3, .int v3), (4, .int v4)] [] s (f_X4_nearestFitting_66 kb_2 kb_11 v1 v2 v3 v4 s) := by
  intro v1 v2 v3 v4 s
  unfold f_X4_nearestFitting_66
  refine zv_iincB (lw := fun x1 => [(4, .int x1), (0, .ref (zx_ad X 42)), (1, .int v1), (2, .int v2), (3, .int v3)]) hX dX4_nearestFitting_66 4 rfl zi_i_1 (by decide) (fun _ => rfl) (fun x1 => ?_)
  refine zv_goto (tgt := 11) hX dX4_nearestFitting_69 rfl ?_
  exact zv_sub [1, 2, 3, 4, 0] rfl (hk_11 v1 v2 v3 x1 s)
def f_X4_nearestFitting_11 (kb_2 : Int32 → Int32 → Int32 → zS → Option (Int32 × zS)) : Nat → Int32 → Int32 → Int32 → Int32 → zS → Option (Int32 × zS)
  | 0, _, _, _, _, _ => none
  | n + 1, v1, v2, v3, v4, s =>
    if (nI 512) ≤ v4 then
    (zb (v3 + (1 : Int32)) fun x2 =>
    kb_2 v1 v2 x2 s)
    else
    zbd (f_J6_bitCount_0f7a4 (v4 ^^^ v1) s) fun r3 s4 =>
    if ¬ r3 = v3 then
    (f_X4_nearestFitting_66 kb_2 (f_X4_nearestFitting_11 kb_2 n) v1 v2 v3 v4 s4)
    else
    zbd (f_J6_bitCount_0f7a4 v4 s4) fun r5 s6 =>
    zbd (f_J6_bitCount_0f7a4 v2 s6) fun r7 s8 =>
    zb (r5 + r7) fun x9 =>
    zbd (f_X4_learnApart 46 (0 : Int32) v4 v2 s8) fun r10 s11 =>
    zbd (f_X4_lawFits r10 x9 (nI 2) s11) fun r12 s13 =>
    if r12 = 0 then
    (f_X4_nearestFitting_66 kb_2 (f_X4_nearestFitting_11 kb_2 n) v1 v2 v3 v4 s13)
    else
    some (v4, s13)
set_option maxRecDepth 20000 in
theorem b_X4_nearestFitting_11 {X : zX} {kb_2 : Int32 → Int32 → Int32 → zS → Option (Int32 × zS)} (hX : zx_ok X cX4_nearestFitting RX4 6) (hT : zx_rt X (some .int) (zR 2 54)) (hk_2 : ∀ (v1 : Int32) (v2 : Int32) (v3 : Int32) (s : zS), zV X (zq X zrI) 6 2 [(0, .ref (zx_ad X 42)), (1, .int v1), (2, .int v2), (3, .int v3)] [] s (kb_2 v1 v2 v3 s)) : ∀ (n : Nat) (v1 : Int32) (v2 : Int32) (v3 : Int32) (v4 : Int32) (s : zS), zV X (zq X zrI) 6 11 [(0, .ref (zx_ad X 42)), (1, .int v1), (2, .int v2), (3, .int v3), (4, .int v4)] [] s (f_X4_nearestFitting_11 kb_2 n v1 v2 v3 v4 s) := by
  intro n
  induction n with
  | zero => intro v1 v2 v3 v4 s; exact zv_none
  | succ n ih =>
    intro v1 v2 v3 v4 s
    rw [f_X4_nearestFitting_11]
    refine zv_iload hX dX4_nearestFitting_11 4 rfl ?_
    refine zv_sipush (v := (nI 512)) hX dX4_nearestFitting_13 zi_s_512 ?_
    refine zv_icmp_ge (tgt := 72) hX dX4_nearestFitting_16 rfl ?_ ?_
    · refine zv_iincB (lw := fun x2 => [(3, .int x2), (0, .ref (zx_ad X 42)), (1, .int v1), (2, .int v2), (4, .int v4)]) hX dX4_nearestFitting_72 3 rfl zi_i_1 (by decide) (fun _ => rfl) (fun x2 => ?_)
      refine zv_goto (tgt := 2) hX dX4_nearestFitting_75 rfl ?_
      exact zv_sub [1, 2, 3, 0] rfl (hk_2 v1 v2 x2 s)
    · refine zv_iload hX dX4_nearestFitting_19 4 rfl ?_
      refine zv_iload_n hX dX4_nearestFitting_21 1 rfl ?_
      refine zv_ixor hX dX4_nearestFitting_22 ?_
      refine zv_cSI [.int (v4 ^^^ v1)] (rest := []) hX hT.2.2.2.2 (c_J6_bitCount_0f7a4 (zx_Y X) (v4 ^^^ v1) s) wv_J6_bitCount_0f7a4 wm_X4_125 rfl (Nat.le_of_ble_eq_true rfl) (Nat.le_of_ble_eq_true rfl) rfl (Nat.le_of_ble_eq_true rfl) dX4_nearestFitting_23 (fun r3 s4 => ?_)
      refine zv_iload_n hX dX4_nearestFitting_26 3 rfl ?_
      refine zv_icmp_ne (tgt := 66) hX dX4_nearestFitting_27 rfl ?_ ?_
      · exact b_X4_nearestFitting_66 hX hT hk_2 ih v1 v2 v3 v4 s4
      · refine zv_iload hX dX4_nearestFitting_30 4 rfl ?_
        refine zv_cSI [.int v4] (rest := []) hX hT.2.2.2.2 (c_J6_bitCount_0f7a4 (zx_Y X) v4 s4) wv_J6_bitCount_0f7a4 wm_X4_125 rfl (Nat.le_of_ble_eq_true rfl) (Nat.le_of_ble_eq_true rfl) rfl (Nat.le_of_ble_eq_true rfl) dX4_nearestFitting_32 (fun r5 s6 => ?_)
        refine zv_iload_n hX dX4_nearestFitting_35 2 rfl ?_
        refine zv_cSI [.int v2] (rest := [.int r5]) hX hT.2.2.2.2 (c_J6_bitCount_0f7a4 (zx_Y X) v2 s6) wv_J6_bitCount_0f7a4 wm_X4_125 rfl (Nat.le_of_ble_eq_true rfl) (Nat.le_of_ble_eq_true rfl) rfl (Nat.le_of_ble_eq_true rfl) dX4_nearestFitting_36 (fun r7 s8 => ?_)
        refine zv_iadd hX dX4_nearestFitting_39 ?_
        refine zv_istB (lw := fun x9 => [(5, .int x9), (0, .ref (zx_ad X 42)), (1, .int v1), (2, .int v2), (3, .int v3), (4, .int v4)]) hX dX4_nearestFitting_40 (by decide) (fun _ => rfl) (fun x9 => ?_)
        refine zv_aload_n hX dX4_nearestFitting_42 1 rfl ?_
        refine zv_aload_n hX dX4_nearestFitting_43 1 rfl ?_
        refine zv_geta hX wf_X4_21 wc_4 zd_42 zj_42_4 c9_4 zr_42_4 (by decide) dX4_nearestFitting_44 ?_
        refine zv_iconst (v := (0 : Int32)) hX dX4_nearestFitting_47 zi_i_0 ?_
        refine zv_iload hX dX4_nearestFitting_48 5 rfl ?_
        refine zv_iload_n hX dX4_nearestFitting_50 3 rfl ?_
        refine zv_cSI [.ref (zx_ad X 46), .int (0 : Int32), .int v4, .int v2] (rest := [.ref (zx_ad X 42)]) hX hT.2.2.2.2 (c_X4_learnApart (zx_Y X) 46 (0 : Int32) v4 v2 s8) wv_X4_learnApart wm_X4_85 rfl (Nat.le_of_ble_eq_true rfl) (Nat.le_of_ble_eq_true rfl) rfl (Nat.le_of_ble_eq_true rfl) dX4_nearestFitting_51 (fun r10 s11 => ?_)
        refine zv_iload hX dX4_nearestFitting_54 0 rfl ?_
        refine zv_iconst (v := (nI 2)) hX dX4_nearestFitting_56 zi_i_2 ?_
        refine zv_cVI [.int r10, .int x9, .int (nI 2)] (rest := []) hX hT.2.2.2.2 (c_X4_lawFits (zx_Y X) r10 x9 (nI 2) s11) wv_X4_lawFits c9_4 zd_42 wm_X4_133 rfl (Nat.le_of_ble_eq_true rfl) (Nat.le_of_ble_eq_true rfl) rfl (Nat.le_of_ble_eq_true rfl) dX4_nearestFitting_57 (fun r12 s13 => ?_)
        refine zv_if_eq (tgt := 66) hX dX4_nearestFitting_60 rfl ?_ ?_
        · exact zv_sub [1, 2, 3, 4, 5] rfl (b_X4_nearestFitting_66 hX hT hk_2 ih v1 v2 v3 v4 s13)
        · refine zv_iload hX dX4_nearestFitting_63 5 rfl ?_
          exact zv_ireti hX hT dX4_nearestFitting_65
def f_X4_nearestFitting_2 : Nat → Int32 → Int32 → Int32 → zS → Option (Int32 × zS)
  | 0, _, _, _, _ => none
  | n + 1, v1, v2, v3, s =>
    if (nI 9) < v3 then
    (some ((-1 : Int32), s))
    else
    f_X4_nearestFitting_11 (f_X4_nearestFitting_2 n) zFU v1 v2 v3 (0 : Int32) s
set_option maxRecDepth 20000 in
theorem b_X4_nearestFitting_2 {X : zX} (hX : zx_ok X cX4_nearestFitting RX4 6) (hT : zx_rt X (some .int) (zR 2 54)) : ∀ (n : Nat) (v1 : Int32) (v2 : Int32) (v3 : Int32) (s : zS), zV X (zq X zrI) 6 2 [(0, .ref (zx_ad X 42)), (1, .int v1), (2, .int v2), (3, .int v3)] [] s (f_X4_nearestFitting_2 n v1 v2 v3 s) := by
  intro n
  induction n with
  | zero => intro v1 v2 v3 s; exact zv_none
  | succ n ih =>
    intro v1 v2 v3 s
    rw [f_X4_nearestFitting_2]
    refine zv_iload_n hX dX4_nearestFitting_2 3 rfl ?_
    refine zv_bipush (v := (nI 9)) hX dX4_nearestFitting_3 zi_b_9 ?_
    refine zv_icmp_gt (tgt := 78) hX dX4_nearestFitting_5 rfl ?_ ?_
    · refine zv_iconst (v := (-1 : Int32)) hX dX4_nearestFitting_78 zi_i_m1 ?_
      exact zv_ireti hX hT dX4_nearestFitting_79
    · refine zv_iconst (v := (0 : Int32)) hX dX4_nearestFitting_8 zi_i_0 ?_
      refine zv_istore (lv' := [(4, .int (0 : Int32)), (0, .ref (zx_ad X 42)), (1, .int v1), (2, .int v2), (3, .int v3)]) hX dX4_nearestFitting_9 (by decide) rfl ?_
      exact zv_sub [1, 2, 3, 4, 0] rfl (b_X4_nearestFitting_11 hX hT ih zFU v1 v2 v3 (0 : Int32) s)
def f_X4_nearestFitting (v1 : Int32) (v2 : Int32) (s : zS) : Option (Int32 × zS) :=
  f_X4_nearestFitting_2 zFU v1 v2 (0 : Int32) s
set_option maxRecDepth 20000 in
theorem c_X4_nearestFitting (Y : zG) (v1 : Int32) (v2 : Int32) (s : zS) : zM Y yX4_nearestFitting cX4_nearestFitting 6 (some .int) (zR 2 54) [.ref (zy_a Y 42), .int v1, .int v2] s zrI (f_X4_nearestFitting v1 v2 s) := by
  refine zm_start (by decide +kernel) (Nat.le_of_ble_eq_true rfl) ?_
  intro X hY hT hX
  subst hY
  have hX : zx_ok X cX4_nearestFitting RX4 6 := hX
  show zV X (zq X zrI) 6 0 [(0, .ref (zx_ad X 42)), (1, .int v1), (2, .int v2)] [] s _
  unfold f_X4_nearestFitting
  refine zv_iconst (v := (0 : Int32)) hX dX4_nearestFitting_0 zi_i_0 ?_
  refine zv_istore_n (lv' := [(3, .int (0 : Int32)), (0, .ref (zx_ad X 42)), (1, .int v1), (2, .int v2)]) hX dX4_nearestFitting_1 (by decide) rfl ?_
  exact zv_sub [1, 2, 3, 0] rfl (b_X4_nearestFitting_2 hX hT zFU v1 v2 (0 : Int32) s)
theorem dX4_shiftOf_0 : decode cX4_shiftOf 0 = .ok (.iload_n 1, 1) := by decide +kernel
theorem dX4_shiftOf_1 : decode cX4_shiftOf 1 = .ok (.iload_n 2, 1) := by decide +kernel
theorem dX4_shiftOf_2 : decode cX4_shiftOf 2 = .ok (.iushr, 1) := by decide +kernel
theorem dX4_shiftOf_3 : decode cX4_shiftOf 3 = .ok (.iconst 1, 1) := by decide +kernel
theorem dX4_shiftOf_4 : decode cX4_shiftOf 4 = .ok (.iand, 1) := by decide +kernel
theorem dX4_shiftOf_5 : decode cX4_shiftOf 5 = .ok (.ifCond .ne 5, 3) := by decide +kernel
theorem dX4_shiftOf_8 : decode cX4_shiftOf 8 = .ok (.iconst (-1), 1) := by decide +kernel
theorem dX4_shiftOf_9 : decode cX4_shiftOf 9 = .ok (.ireturn, 1) := by decide +kernel
theorem dX4_shiftOf_10 : decode cX4_shiftOf 10 = .ok (.aload_n 0, 1) := by decide +kernel
theorem dX4_shiftOf_11 : decode cX4_shiftOf 11 = .ok (.iload_n 1, 1) := by decide +kernel
theorem dX4_shiftOf_12 : decode cX4_shiftOf 12 = .ok (.invokevirtual 122, 3) := by decide +kernel
theorem dX4_shiftOf_15 : decode cX4_shiftOf 15 = .ok (.pop, 1) := by decide +kernel
theorem dX4_shiftOf_16 : decode cX4_shiftOf 16 = .ok (.aload_n 0, 1) := by decide +kernel
theorem dX4_shiftOf_17 : decode cX4_shiftOf 17 = .ok (.getfield 30, 3) := by decide +kernel
theorem dX4_shiftOf_20 : decode cX4_shiftOf 20 = .ok (.iload_n 1, 1) := by decide +kernel
theorem dX4_shiftOf_21 : decode cX4_shiftOf 21 = .ok (.iconst 4, 1) := by decide +kernel
theorem dX4_shiftOf_22 : decode cX4_shiftOf 22 = .ok (.imul, 1) := by decide +kernel
theorem dX4_shiftOf_23 : decode cX4_shiftOf 23 = .ok (.iload_n 1, 1) := by decide +kernel
theorem dX4_shiftOf_24 : decode cX4_shiftOf 24 = .ok (.iconst 1, 1) := by decide +kernel
theorem dX4_shiftOf_25 : decode cX4_shiftOf 25 = .ok (.iload_n 2, 1) := by decide +kernel
theorem dX4_shiftOf_26 : decode cX4_shiftOf 26 = .ok (.ishl, 1) := by decide +kernel
theorem dX4_shiftOf_27 : decode cX4_shiftOf 27 = .ok (.iconst 1, 1) := by decide +kernel
theorem dX4_shiftOf_28 : decode cX4_shiftOf 28 = .ok (.isub, 1) := by decide +kernel
theorem dX4_shiftOf_29 : decode cX4_shiftOf 29 = .ok (.iand, 1) := by decide +kernel
theorem dX4_shiftOf_30 : decode cX4_shiftOf 30 = .ok (.invokestatic 125, 3) := by decide +kernel
theorem dX4_shiftOf_33 : decode cX4_shiftOf 33 = .ok (.iadd, 1) := by decide +kernel
theorem dX4_shiftOf_34 : decode cX4_shiftOf 34 = .ok (.iaload, 1) := by decide +kernel
theorem dX4_shiftOf_35 : decode cX4_shiftOf 35 = .ok (.ireturn, 1) := by decide +kernel
def f_X4_shiftOf (v1 : Int32) (v2 : Int32) (s : zS) : Option (Int32 × zS) :=
  if ¬ ((zo_ush v1 v2) &&& (1 : Int32)) = 0 then
  (zbd (f_X4_crossingsOf v1 s) fun r1 s2 =>
  zbd (f_J6_bitCount_0f7a4 (v1 &&& ((zo_shl (1 : Int32) v2) - (1 : Int32))) s2) fun r3 s4 =>
  (zr_i s4 49 ((v1 * (nI 4)) + r3)).bind fun x5 =>
  some (x5, s4))
  else
  some ((-1 : Int32), s)
set_option maxRecDepth 20000 in
theorem c_X4_shiftOf (Y : zG) (v1 : Int32) (v2 : Int32) (s : zS) : zM Y yX4_shiftOf cX4_shiftOf 3 (some .int) (zR 67 1727) [.ref (zy_a Y 42), .int v1, .int v2] s zrI (f_X4_shiftOf v1 v2 s) := by
  refine zm_start (by decide +kernel) (Nat.le_of_ble_eq_true rfl) ?_
  intro X hY hT hX
  subst hY
  have hX : zx_ok X cX4_shiftOf RX4 3 := hX
  show zV X (zq X zrI) 3 0 [(0, .ref (zx_ad X 42)), (1, .int v1), (2, .int v2)] [] s _
  unfold f_X4_shiftOf
  refine zv_iload_n hX dX4_shiftOf_0 1 rfl ?_
  refine zv_iload_n hX dX4_shiftOf_1 2 rfl ?_
  refine zv_iushr hX dX4_shiftOf_2 ?_
  refine zv_iconst (v := (1 : Int32)) hX dX4_shiftOf_3 zi_i_1 ?_
  refine zv_iand hX dX4_shiftOf_4 ?_
  refine zv_if_ne (tgt := 10) hX dX4_shiftOf_5 rfl ?_ ?_
  · refine zv_aload_n hX dX4_shiftOf_10 0 rfl ?_
    refine zv_iload_n hX dX4_shiftOf_11 1 rfl ?_
    refine zv_cVI [.int v1] (rest := []) hX hT.2.2.2.2 (c_X4_crossingsOf (zx_Y X) v1 s) wv_X4_crossingsOf c9_4 zd_42 wm_X4_122 rfl (Nat.le_of_ble_eq_true rfl) (Nat.le_of_ble_eq_true rfl) rfl (Nat.le_of_ble_eq_true rfl) dX4_shiftOf_12 (fun r1 s2 => ?_)
    refine zv_pop hX dX4_shiftOf_15 rfl ?_
    refine zv_aload_n hX dX4_shiftOf_16 0 rfl ?_
    refine zv_geta hX wf_X4_30 wc_4 zd_42 zj_42_7 c9_4 zr_42_7 (by decide) dX4_shiftOf_17 ?_
    refine zv_iload_n hX dX4_shiftOf_20 1 rfl ?_
    refine zv_iconst (v := (nI 4)) hX dX4_shiftOf_21 zi_i_4 ?_
    refine zv_imul hX dX4_shiftOf_22 ?_
    refine zv_iload_n hX dX4_shiftOf_23 1 rfl ?_
    refine zv_iconst (v := (1 : Int32)) hX dX4_shiftOf_24 zi_i_1 ?_
    refine zv_iload_n hX dX4_shiftOf_25 2 rfl ?_
    refine zv_ishl hX dX4_shiftOf_26 ?_
    refine zv_iconst (v := (1 : Int32)) hX dX4_shiftOf_27 zi_i_1 ?_
    refine zv_isub hX dX4_shiftOf_28 ?_
    refine zv_iand hX dX4_shiftOf_29 ?_
    refine zv_cSI [.int (v1 &&& ((zo_shl (1 : Int32) v2) - (1 : Int32)))] (rest := [.int (v1 * (nI 4)), .ref (zx_ad X 49)]) hX hT.2.2.2.2 (c_J6_bitCount_0f7a4 (zx_Y X) (v1 &&& ((zo_shl (1 : Int32) v2) - (1 : Int32))) s2) wv_J6_bitCount_0f7a4 wm_X4_125 rfl (Nat.le_of_ble_eq_true rfl) (Nat.le_of_ble_eq_true rfl) rfl (Nat.le_of_ble_eq_true rfl) dX4_shiftOf_30 (fun r3 s4 => ?_)
    refine zv_iadd hX dX4_shiftOf_33 ?_
    refine zv_iald hX dX4_shiftOf_34 (fun x5 => ?_)
    exact zv_ireti hX hT dX4_shiftOf_35
  · refine zv_iconst (v := (-1 : Int32)) hX dX4_shiftOf_8 zi_i_m1 ?_
    exact zv_ireti hX hT dX4_shiftOf_9
theorem dX5_copyPeople_0 : decode cX5_copyPeople 0 = .ok (.aload_n 0, 1) := by decide +kernel
theorem dX5_copyPeople_1 : decode cX5_copyPeople 1 = .ok (.iconst 0, 1) := by decide +kernel
theorem dX5_copyPeople_2 : decode cX5_copyPeople 2 = .ok (.aload_n 1, 1) := by decide +kernel
theorem dX5_copyPeople_3 : decode cX5_copyPeople 3 = .ok (.iconst 0, 1) := by decide +kernel
theorem dX5_copyPeople_4 : decode cX5_copyPeople 4 = .ok (.bipush 7, 2) := by decide +kernel
theorem dX5_copyPeople_6 : decode cX5_copyPeople 6 = .ok (.invokestatic 76, 3) := by decide +kernel
theorem dX5_copyPeople_9 : decode cX5_copyPeople 9 = .ok (.return_, 1) := by decide +kernel
def f_X5_copyPeople (v0 : Nat) (v1 : Nat) (s : zS) : Option (Unit × zS) :=
  (zw_c s v0 (0 : Int32) v1 (0 : Int32) (nI 7)).bind fun s1 =>
  some ((), s1)
set_option maxRecDepth 20000 in
theorem c_X5_copyPeople (Y : zG) (v0 : Nat) (v1 : Nat) (s : zS) : zM Y yX5_copyPeople cX5_copyPeople 2 none (zR 1 80) [.ref (zy_a Y v0), .ref (zy_a Y v1)] s zrV (f_X5_copyPeople v0 v1 s) := by
  refine zm_start (by decide +kernel) (Nat.le_of_ble_eq_true rfl) ?_
  intro X hY hT hX
  subst hY
  have hX : zx_ok X cX5_copyPeople RX5 2 := hX
  show zV X (zq X zrV) 2 0 [(0, .ref (zx_ad X v0)), (1, .ref (zx_ad X v1))] [] s _
  unfold f_X5_copyPeople
  refine zv_aload_n hX dX5_copyPeople_0 0 rfl ?_
  refine zv_iconst (v := (0 : Int32)) hX dX5_copyPeople_1 zi_i_0 ?_
  refine zv_aload_n hX dX5_copyPeople_2 1 rfl ?_
  refine zv_iconst (v := (0 : Int32)) hX dX5_copyPeople_3 zi_i_0 ?_
  refine zv_bipush (v := (nI 7)) hX dX5_copyPeople_4 zi_b_7 ?_
  refine zv_copy hX wm_X5_76 wa_native wa_static wa_init (by rw [hT.2.2.2.2]; exact Nat.le_of_ble_eq_true rfl) (by rw [hT.2.2.2.2]; exact Nat.le_of_ble_eq_true rfl) dX5_copyPeople_6 (fun s1 => ?_)
  exact zv_vret hX hT dX5_copyPeople_9
theorem dX5_copyFrom_0 : decode cX5_copyFrom 0 = .ok (.aload_n 0, 1) := by decide +kernel
theorem dX5_copyFrom_1 : decode cX5_copyFrom 1 = .ok (.aload_n 1, 1) := by decide +kernel
theorem dX5_copyFrom_2 : decode cX5_copyFrom 2 = .ok (.getfield 42, 3) := by decide +kernel
theorem dX5_copyFrom_5 : decode cX5_copyFrom 5 = .ok (.putfield 42, 3) := by decide +kernel
theorem dX5_copyFrom_8 : decode cX5_copyFrom 8 = .ok (.aload_n 0, 1) := by decide +kernel
theorem dX5_copyFrom_9 : decode cX5_copyFrom 9 = .ok (.aload_n 1, 1) := by decide +kernel
theorem dX5_copyFrom_10 : decode cX5_copyFrom 10 = .ok (.getfield 54, 3) := by decide +kernel
theorem dX5_copyFrom_13 : decode cX5_copyFrom 13 = .ok (.putfield 54, 3) := by decide +kernel
theorem dX5_copyFrom_16 : decode cX5_copyFrom 16 = .ok (.aload_n 1, 1) := by decide +kernel
theorem dX5_copyFrom_17 : decode cX5_copyFrom 17 = .ok (.getfield 9, 3) := by decide +kernel
theorem dX5_copyFrom_20 : decode cX5_copyFrom 20 = .ok (.aload_n 0, 1) := by decide +kernel
theorem dX5_copyFrom_21 : decode cX5_copyFrom 21 = .ok (.getfield 9, 3) := by decide +kernel
theorem dX5_copyFrom_24 : decode cX5_copyFrom 24 = .ok (.invokestatic 72, 3) := by decide +kernel
theorem dX5_copyFrom_27 : decode cX5_copyFrom 27 = .ok (.aload_n 1, 1) := by decide +kernel
theorem dX5_copyFrom_28 : decode cX5_copyFrom 28 = .ok (.getfield 15, 3) := by decide +kernel
theorem dX5_copyFrom_31 : decode cX5_copyFrom 31 = .ok (.aload_n 0, 1) := by decide +kernel
theorem dX5_copyFrom_32 : decode cX5_copyFrom 32 = .ok (.getfield 15, 3) := by decide +kernel
theorem dX5_copyFrom_35 : decode cX5_copyFrom 35 = .ok (.invokestatic 72, 3) := by decide +kernel
theorem dX5_copyFrom_38 : decode cX5_copyFrom 38 = .ok (.aload_n 1, 1) := by decide +kernel
theorem dX5_copyFrom_39 : decode cX5_copyFrom 39 = .ok (.getfield 18, 3) := by decide +kernel
theorem dX5_copyFrom_42 : decode cX5_copyFrom 42 = .ok (.aload_n 0, 1) := by decide +kernel
theorem dX5_copyFrom_43 : decode cX5_copyFrom 43 = .ok (.getfield 18, 3) := by decide +kernel
theorem dX5_copyFrom_46 : decode cX5_copyFrom 46 = .ok (.invokestatic 72, 3) := by decide +kernel
theorem dX5_copyFrom_49 : decode cX5_copyFrom 49 = .ok (.aload_n 1, 1) := by decide +kernel
theorem dX5_copyFrom_50 : decode cX5_copyFrom 50 = .ok (.getfield 21, 3) := by decide +kernel
theorem dX5_copyFrom_53 : decode cX5_copyFrom 53 = .ok (.aload_n 0, 1) := by decide +kernel
theorem dX5_copyFrom_54 : decode cX5_copyFrom 54 = .ok (.getfield 21, 3) := by decide +kernel
theorem dX5_copyFrom_57 : decode cX5_copyFrom 57 = .ok (.invokestatic 72, 3) := by decide +kernel
theorem dX5_copyFrom_60 : decode cX5_copyFrom 60 = .ok (.aload_n 1, 1) := by decide +kernel
theorem dX5_copyFrom_61 : decode cX5_copyFrom 61 = .ok (.getfield 24, 3) := by decide +kernel
theorem dX5_copyFrom_64 : decode cX5_copyFrom 64 = .ok (.aload_n 0, 1) := by decide +kernel
theorem dX5_copyFrom_65 : decode cX5_copyFrom 65 = .ok (.getfield 24, 3) := by decide +kernel
theorem dX5_copyFrom_68 : decode cX5_copyFrom 68 = .ok (.invokestatic 72, 3) := by decide +kernel
theorem dX5_copyFrom_71 : decode cX5_copyFrom 71 = .ok (.aload_n 1, 1) := by decide +kernel
theorem dX5_copyFrom_72 : decode cX5_copyFrom 72 = .ok (.getfield 27, 3) := by decide +kernel
theorem dX5_copyFrom_75 : decode cX5_copyFrom 75 = .ok (.iconst 0, 1) := by decide +kernel
theorem dX5_copyFrom_76 : decode cX5_copyFrom 76 = .ok (.aload_n 0, 1) := by decide +kernel
theorem dX5_copyFrom_77 : decode cX5_copyFrom 77 = .ok (.getfield 27, 3) := by decide +kernel
theorem dX5_copyFrom_80 : decode cX5_copyFrom 80 = .ok (.iconst 0, 1) := by decide +kernel
theorem dX5_copyFrom_81 : decode cX5_copyFrom 81 = .ok (.sipush 900, 3) := by decide +kernel
theorem dX5_copyFrom_84 : decode cX5_copyFrom 84 = .ok (.invokestatic 76, 3) := by decide +kernel
theorem dX5_copyFrom_87 : decode cX5_copyFrom 87 = .ok (.aload_n 0, 1) := by decide +kernel
theorem dX5_copyFrom_88 : decode cX5_copyFrom 88 = .ok (.aload_n 1, 1) := by decide +kernel
theorem dX5_copyFrom_89 : decode cX5_copyFrom 89 = .ok (.getfield 57, 3) := by decide +kernel
theorem dX5_copyFrom_92 : decode cX5_copyFrom 92 = .ok (.putfield 57, 3) := by decide +kernel
theorem dX5_copyFrom_95 : decode cX5_copyFrom 95 = .ok (.aload_n 0, 1) := by decide +kernel
theorem dX5_copyFrom_96 : decode cX5_copyFrom 96 = .ok (.aload_n 1, 1) := by decide +kernel
theorem dX5_copyFrom_97 : decode cX5_copyFrom 97 = .ok (.getfield 60, 3) := by decide +kernel
theorem dX5_copyFrom_100 : decode cX5_copyFrom 100 = .ok (.putfield 60, 3) := by decide +kernel
theorem dX5_copyFrom_103 : decode cX5_copyFrom 103 = .ok (.aload_n 0, 1) := by decide +kernel
theorem dX5_copyFrom_104 : decode cX5_copyFrom 104 = .ok (.aload_n 1, 1) := by decide +kernel
theorem dX5_copyFrom_105 : decode cX5_copyFrom 105 = .ok (.getfield 63, 3) := by decide +kernel
theorem dX5_copyFrom_108 : decode cX5_copyFrom 108 = .ok (.putfield 63, 3) := by decide +kernel
theorem dX5_copyFrom_111 : decode cX5_copyFrom 111 = .ok (.aload_n 0, 1) := by decide +kernel
theorem dX5_copyFrom_112 : decode cX5_copyFrom 112 = .ok (.aload_n 1, 1) := by decide +kernel
theorem dX5_copyFrom_113 : decode cX5_copyFrom 113 = .ok (.getfield 66, 3) := by decide +kernel
theorem dX5_copyFrom_116 : decode cX5_copyFrom 116 = .ok (.putfield 66, 3) := by decide +kernel
theorem dX5_copyFrom_119 : decode cX5_copyFrom 119 = .ok (.aload_n 0, 1) := by decide +kernel
theorem dX5_copyFrom_120 : decode cX5_copyFrom 120 = .ok (.aload_n 1, 1) := by decide +kernel
theorem dX5_copyFrom_121 : decode cX5_copyFrom 121 = .ok (.getfield 69, 3) := by decide +kernel
theorem dX5_copyFrom_124 : decode cX5_copyFrom 124 = .ok (.putfield 69, 3) := by decide +kernel
theorem dX5_copyFrom_127 : decode cX5_copyFrom 127 = .ok (.iconst 0, 1) := by decide +kernel
theorem dX5_copyFrom_128 : decode cX5_copyFrom 128 = .ok (.istore_n 2, 1) := by decide +kernel
theorem dX5_copyFrom_129 : decode cX5_copyFrom 129 = .ok (.iload_n 2, 1) := by decide +kernel
theorem dX5_copyFrom_130 : decode cX5_copyFrom 130 = .ok (.bipush 7, 2) := by decide +kernel
theorem dX5_copyFrom_132 : decode cX5_copyFrom 132 = .ok (.if_icmp .ge 19, 3) := by decide +kernel
theorem dX5_copyFrom_135 : decode cX5_copyFrom 135 = .ok (.aload_n 0, 1) := by decide +kernel
theorem dX5_copyFrom_136 : decode cX5_copyFrom 136 = .ok (.getfield 30, 3) := by decide +kernel
theorem dX5_copyFrom_139 : decode cX5_copyFrom 139 = .ok (.iload_n 2, 1) := by decide +kernel
theorem dX5_copyFrom_140 : decode cX5_copyFrom 140 = .ok (.dup2, 1) := by decide +kernel
theorem dX5_copyFrom_141 : decode cX5_copyFrom 141 = .ok (.iaload, 1) := by decide +kernel
theorem dX5_copyFrom_142 : decode cX5_copyFrom 142 = .ok (.iconst 1, 1) := by decide +kernel
theorem dX5_copyFrom_143 : decode cX5_copyFrom 143 = .ok (.iadd, 1) := by decide +kernel
theorem dX5_copyFrom_144 : decode cX5_copyFrom 144 = .ok (.iastore, 1) := by decide +kernel
theorem dX5_copyFrom_145 : decode cX5_copyFrom 145 = .ok (.iinc 2 1, 3) := by decide +kernel
theorem dX5_copyFrom_148 : decode cX5_copyFrom 148 = .ok (.goto (-19), 3) := by decide +kernel
theorem dX5_copyFrom_151 : decode cX5_copyFrom 151 = .ok (.return_, 1) := by decide +kernel
def f_X5_copyFrom_12_3_129 : Nat → Int32 → zS → Option (Unit × zS)
  | 0, _, _ => none
  | n + 1, v2, s =>
    if (nI 7) ≤ v2 then
    (some ((), s))
    else
    (zr_i s 19 v2).bind fun x1 =>
    (zw_i s 19 v2 (x1 + (1 : Int32))).bind fun s2 =>
    zb (v2 + (1 : Int32)) fun x3 =>
    f_X5_copyFrom_12_3_129 n x3 s2
set_option maxRecDepth 20000 in
theorem b_X5_copyFrom_12_3_129 {X : zX} (hX : zx_ok X cX5_copyFrom RX5 3) (hT : zx_rt X none (zR 2 101)) : ∀ (n : Nat) (v2 : Int32) (s : zS), zV X (zq X zrV) 3 129 [(0, .ref (zx_ad X 12)), (2, .int v2)] [] s (f_X5_copyFrom_12_3_129 n v2 s) := by
  intro n
  induction n with
  | zero => intro v2 s; exact zv_none
  | succ n ih =>
    intro v2 s
    rw [f_X5_copyFrom_12_3_129]
    refine zv_iload_n hX dX5_copyFrom_129 1 rfl ?_
    refine zv_bipush (v := (nI 7)) hX dX5_copyFrom_130 zi_b_7 ?_
    refine zv_icmp_ge (tgt := 151) hX dX5_copyFrom_132 rfl ?_ ?_
    · exact zv_vret hX hT dX5_copyFrom_151
    · refine zv_aload_n hX dX5_copyFrom_135 0 rfl ?_
      refine zv_geta hX wf_X5_30 wc_5 zd_12 zj_12_13 c9_5 zr_12_13 (by decide) dX5_copyFrom_136 ?_
      refine zv_iload_n hX dX5_copyFrom_139 1 rfl ?_
      refine zv_dup2 hX dX5_copyFrom_140 rfl rfl ?_
      refine zv_iald hX dX5_copyFrom_141 (fun x1 => ?_)
      refine zv_iconst (v := (1 : Int32)) hX dX5_copyFrom_142 zi_i_1 ?_
      refine zv_iadd hX dX5_copyFrom_143 ?_
      refine zv_iast hX dX5_copyFrom_144 (fun s2 => ?_)
      refine zv_iincB (lw := fun x3 => [(2, .int x3), (0, .ref (zx_ad X 12))]) hX dX5_copyFrom_145 1 rfl zi_i_1 (by decide) (fun _ => rfl) (fun x3 => ?_)
      refine zv_goto (tgt := 129) hX dX5_copyFrom_148 rfl ?_
      exact zv_sub [1, 0] rfl (ih x3 s2)
def f_X5_copyFrom_12_3  (s : zS) : Option (Unit × zS) :=
  zb (zs_i s 12 0 (s.1 3 0)) fun s4 =>
  zb (zs_i s4 12 1 (s4.1 3 1)) fun s5 =>
  zbd (f_X5_copyPeople 4 13 s5) fun _ s6 =>
  zbd (f_X5_copyPeople 5 14 s6) fun _ s7 =>
  zbd (f_X5_copyPeople 6 15 s7) fun _ s8 =>
  zbd (f_X5_copyPeople 7 16 s8) fun _ s9 =>
  zbd (f_X5_copyPeople 8 17 s9) fun _ s10 =>
  (zw_c s10 9 (0 : Int32) 18 (0 : Int32) (nI 900)).bind fun s11 =>
  zb (zs_i s11 12 8 (s11.1 3 8)) fun s12 =>
  zb (zs_i s12 12 9 (s12.1 3 9)) fun s13 =>
  zb (zs_i s13 12 10 (s13.1 3 10)) fun s14 =>
  zb (zs_i s14 12 11 (s14.1 3 11)) fun s15 =>
  zb (zs_i s15 12 12 (s15.1 3 12)) fun s16 =>
  f_X5_copyFrom_12_3_129 zFU (0 : Int32) s16
set_option maxRecDepth 20000 in
theorem c_X5_copyFrom_12_3 (Y : zG)  (s : zS) : zM Y yX5_copyFrom cX5_copyFrom 3 none (zR 2 101) [.ref (zy_a Y 12), .ref (zy_a Y 3)] s zrV (f_X5_copyFrom_12_3  s) := by
  refine zm_start (by decide +kernel) (Nat.le_of_ble_eq_true rfl) ?_
  intro X hY hT hX
  subst hY
  have hX : zx_ok X cX5_copyFrom RX5 3 := hX
  show zV X (zq X zrV) 3 0 [(0, .ref (zx_ad X 12)), (1, .ref (zx_ad X 3))] [] s _
  unfold f_X5_copyFrom_12_3
  refine zv_aload_n hX dX5_copyFrom_0 0 rfl ?_
  refine zv_aload_n hX dX5_copyFrom_1 1 rfl ?_
  refine zv_geti hX wf_X5_42 wc_5 zd_3 zj_3_0 c9_5 zr_3_0 dX5_copyFrom_2 ?_
  refine zv_puti hX wf_X5_42 wc_5 wk_5_0 zd_12 zj_12_0 c9_5 zr_12_0 dX5_copyFrom_5 (fun s4 => ?_)
  refine zv_aload_n hX dX5_copyFrom_8 0 rfl ?_
  refine zv_aload_n hX dX5_copyFrom_9 1 rfl ?_
  refine zv_geti hX wf_X5_54 wc_5 zd_3 zj_3_1 c9_5 zr_3_1 dX5_copyFrom_10 ?_
  refine zv_puti hX wf_X5_54 wc_5 wk_5_1 zd_12 zj_12_1 c9_5 zr_12_1 dX5_copyFrom_13 (fun s5 => ?_)
  refine zv_aload_n hX dX5_copyFrom_16 1 rfl ?_
  refine zv_geta hX wf_X5_9 wc_5 zd_3 zj_3_2 c9_5 zr_3_2 (by decide) dX5_copyFrom_17 ?_
  refine zv_aload_n hX dX5_copyFrom_20 0 rfl ?_
  refine zv_geta hX wf_X5_9 wc_5 zd_12 zj_12_2 c9_5 zr_12_2 (by decide) dX5_copyFrom_21 ?_
  refine zv_cSV [.ref (zx_ad X 4), .ref (zx_ad X 13)] (rest := []) hX hT.2.2.2.2 (c_X5_copyPeople (zx_Y X) 4 13 s5) wv_X5_copyPeople wm_X5_72 rfl (Nat.le_of_ble_eq_true rfl) (Nat.le_of_ble_eq_true rfl) rfl (Nat.le_of_ble_eq_true rfl) dX5_copyFrom_24 (fun _ s6 => ?_)
  refine zv_aload_n hX dX5_copyFrom_27 1 rfl ?_
  refine zv_geta hX wf_X5_15 wc_5 zd_3 zj_3_3 c9_5 zr_3_3 (by decide) dX5_copyFrom_28 ?_
  refine zv_aload_n hX dX5_copyFrom_31 0 rfl ?_
  refine zv_geta hX wf_X5_15 wc_5 zd_12 zj_12_3 c9_5 zr_12_3 (by decide) dX5_copyFrom_32 ?_
  refine zv_cSV [.ref (zx_ad X 5), .ref (zx_ad X 14)] (rest := []) hX hT.2.2.2.2 (c_X5_copyPeople (zx_Y X) 5 14 s6) wv_X5_copyPeople wm_X5_72 rfl (Nat.le_of_ble_eq_true rfl) (Nat.le_of_ble_eq_true rfl) rfl (Nat.le_of_ble_eq_true rfl) dX5_copyFrom_35 (fun _ s7 => ?_)
  refine zv_aload_n hX dX5_copyFrom_38 1 rfl ?_
  refine zv_geta hX wf_X5_18 wc_5 zd_3 zj_3_4 c9_5 zr_3_4 (by decide) dX5_copyFrom_39 ?_
  refine zv_aload_n hX dX5_copyFrom_42 0 rfl ?_
  refine zv_geta hX wf_X5_18 wc_5 zd_12 zj_12_4 c9_5 zr_12_4 (by decide) dX5_copyFrom_43 ?_
  refine zv_cSV [.ref (zx_ad X 6), .ref (zx_ad X 15)] (rest := []) hX hT.2.2.2.2 (c_X5_copyPeople (zx_Y X) 6 15 s7) wv_X5_copyPeople wm_X5_72 rfl (Nat.le_of_ble_eq_true rfl) (Nat.le_of_ble_eq_true rfl) rfl (Nat.le_of_ble_eq_true rfl) dX5_copyFrom_46 (fun _ s8 => ?_)
  refine zv_aload_n hX dX5_copyFrom_49 1 rfl ?_
  refine zv_geta hX wf_X5_21 wc_5 zd_3 zj_3_5 c9_5 zr_3_5 (by decide) dX5_copyFrom_50 ?_
  refine zv_aload_n hX dX5_copyFrom_53 0 rfl ?_
  refine zv_geta hX wf_X5_21 wc_5 zd_12 zj_12_5 c9_5 zr_12_5 (by decide) dX5_copyFrom_54 ?_
  refine zv_cSV [.ref (zx_ad X 7), .ref (zx_ad X 16)] (rest := []) hX hT.2.2.2.2 (c_X5_copyPeople (zx_Y X) 7 16 s8) wv_X5_copyPeople wm_X5_72 rfl (Nat.le_of_ble_eq_true rfl) (Nat.le_of_ble_eq_true rfl) rfl (Nat.le_of_ble_eq_true rfl) dX5_copyFrom_57 (fun _ s9 => ?_)
  refine zv_aload_n hX dX5_copyFrom_60 1 rfl ?_
  refine zv_geta hX wf_X5_24 wc_5 zd_3 zj_3_6 c9_5 zr_3_6 (by decide) dX5_copyFrom_61 ?_
  refine zv_aload_n hX dX5_copyFrom_64 0 rfl ?_
  refine zv_geta hX wf_X5_24 wc_5 zd_12 zj_12_6 c9_5 zr_12_6 (by decide) dX5_copyFrom_65 ?_
  refine zv_cSV [.ref (zx_ad X 8), .ref (zx_ad X 17)] (rest := []) hX hT.2.2.2.2 (c_X5_copyPeople (zx_Y X) 8 17 s9) wv_X5_copyPeople wm_X5_72 rfl (Nat.le_of_ble_eq_true rfl) (Nat.le_of_ble_eq_true rfl) rfl (Nat.le_of_ble_eq_true rfl) dX5_copyFrom_68 (fun _ s10 => ?_)
  refine zv_aload_n hX dX5_copyFrom_71 1 rfl ?_
  refine zv_geta hX wf_X5_27 wc_5 zd_3 zj_3_7 c9_5 zr_3_7 (by decide) dX5_copyFrom_72 ?_
  refine zv_iconst (v := (0 : Int32)) hX dX5_copyFrom_75 zi_i_0 ?_
  refine zv_aload_n hX dX5_copyFrom_76 0 rfl ?_
  refine zv_geta hX wf_X5_27 wc_5 zd_12 zj_12_7 c9_5 zr_12_7 (by decide) dX5_copyFrom_77 ?_
  refine zv_iconst (v := (0 : Int32)) hX dX5_copyFrom_80 zi_i_0 ?_
  refine zv_sipush (v := (nI 900)) hX dX5_copyFrom_81 zi_s_900 ?_
  refine zv_copy hX wm_X5_76 wa_native wa_static wa_init (by rw [hT.2.2.2.2]; exact Nat.le_of_ble_eq_true rfl) (by rw [hT.2.2.2.2]; exact Nat.le_of_ble_eq_true rfl) dX5_copyFrom_84 (fun s11 => ?_)
  refine zv_aload_n hX dX5_copyFrom_87 0 rfl ?_
  refine zv_aload_n hX dX5_copyFrom_88 1 rfl ?_
  refine zv_geti hX wf_X5_57 wc_5 zd_3 zj_3_8 c9_5 zr_3_8 dX5_copyFrom_89 ?_
  refine zv_puti hX wf_X5_57 wc_5 wk_5_8 zd_12 zj_12_8 c9_5 zr_12_8 dX5_copyFrom_92 (fun s12 => ?_)
  refine zv_aload_n hX dX5_copyFrom_95 0 rfl ?_
  refine zv_aload_n hX dX5_copyFrom_96 1 rfl ?_
  refine zv_geti hX wf_X5_60 wc_5 zd_3 zj_3_9 c9_5 zr_3_9 dX5_copyFrom_97 ?_
  refine zv_puti hX wf_X5_60 wc_5 wk_5_9 zd_12 zj_12_9 c9_5 zr_12_9 dX5_copyFrom_100 (fun s13 => ?_)
  refine zv_aload_n hX dX5_copyFrom_103 0 rfl ?_
  refine zv_aload_n hX dX5_copyFrom_104 1 rfl ?_
  refine zv_geti hX wf_X5_63 wc_5 zd_3 zj_3_10 c9_5 zr_3_10 dX5_copyFrom_105 ?_
  refine zv_puti hX wf_X5_63 wc_5 wk_5_10 zd_12 zj_12_10 c9_5 zr_12_10 dX5_copyFrom_108 (fun s14 => ?_)
  refine zv_aload_n hX dX5_copyFrom_111 0 rfl ?_
  refine zv_aload_n hX dX5_copyFrom_112 1 rfl ?_
  refine zv_geti hX wf_X5_66 wc_5 zd_3 zj_3_11 c9_5 zr_3_11 dX5_copyFrom_113 ?_
  refine zv_puti hX wf_X5_66 wc_5 wk_5_11 zd_12 zj_12_11 c9_5 zr_12_11 dX5_copyFrom_116 (fun s15 => ?_)
  refine zv_aload_n hX dX5_copyFrom_119 0 rfl ?_
  refine zv_aload_n hX dX5_copyFrom_120 1 rfl ?_
  refine zv_geti hX wf_X5_69 wc_5 zd_3 zj_3_12 c9_5 zr_3_12 dX5_copyFrom_121 ?_
  refine zv_puti hX wf_X5_69 wc_5 wk_5_12 zd_12 zj_12_12 c9_5 zr_12_12 dX5_copyFrom_124 (fun s16 => ?_)
  refine zv_iconst (v := (0 : Int32)) hX dX5_copyFrom_127 zi_i_0 ?_
  refine zv_istore_n (lv' := [(2, .int (0 : Int32)), (0, .ref (zx_ad X 12)), (1, .ref (zx_ad X 3))]) hX dX5_copyFrom_128 (by decide) rfl ?_
  exact zv_sub [1, 0] rfl (b_X5_copyFrom_12_3_129 hX hT zFU (0 : Int32) s16)
