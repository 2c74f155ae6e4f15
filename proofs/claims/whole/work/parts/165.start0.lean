theorem dL_law_0 : decode code 0 = .ok (.new 7, 3) := by decide +kernel
theorem dL_law_3 : decode code 3 = .ok (.dup, 1) := by decide +kernel
theorem dL_law_4 : decode code 4 = .ok (.invokespecial 9, 3) := by decide +kernel
theorem dL_law_7 : decode code 7 = .ok (.astore_n 1, 1) := by decide +kernel
theorem dL_law_8 : decode code 8 = .ok (.new 10, 3) := by decide +kernel
theorem dL_law_11 : decode code 11 = .ok (.dup, 1) := by decide +kernel
theorem dL_law_12 : decode code 12 = .ok (.invokespecial 12, 3) := by decide +kernel
theorem dL_law_15 : decode code 15 = .ok (.astore_n 2, 1) := by decide +kernel
def zt_tm (i : Nat) : Term := match i with
  | 0 => .string "RingSign$Reader" 84
  | 1 => .string "RingSign$Reader" 76
  | _ => .string "RingSignModel" 98
def zt_pl (i : Nat) : Nat := match i with
  | 0 => 32
  | 1 => 126
  | _ => 143
set_option maxRecDepth 40000 in
set_option maxHeartbeats 8000000 in
/-- the statics and texts, as the Statement gives them at the law's entry -/
theorem zt_start {s : State} {b : Nat} {A : Nat → Prop} (hts : ∀ w ∈ lw_tbl, w.before #[Value.ref b] s = true) (hgv : (Jvm.Cond.and given_1 narrow_1).before #[Value.ref b] s = true) (hA : ∀ a : Nat, a < s.heap.size → ¬ A a) : ∃ tv : Nat → Nat, zt_ok tv A s s.heap := by
  have hs := flat_of_before _ hgv
  obtain ⟨t0, e0, hT0⟩ := va_Tof (tm := .static "RingSign" "ROW_BITS" "[I") (ty := .int) (N := 8) (f := fun j => .int ((zt_row 0).getD j 0)) (A := A) (by decide) (hs _ (List.mem_of_getElem? (i := 10) (by decide +kernel))) (va_eqt (hs _ (List.mem_of_getElem? (i := 11) (by decide +kernel)))) (fun j hj => va_eqt (hs _ (List.mem_of_getElem? (i := 12 + j) ((by decide +kernel : ∀ j, j < 8 → (flatC (Jvm.Cond.and given_1 narrow_1))[12 + j]? = some (Cond.eq (.elem (.static "RingSign" "ROW_BITS" "[I") (.int (Int32.ofNat j))) (.int ((zt_row 0).getD j 0)))) j hj)))) hA
  obtain ⟨t1, e1, hT1⟩ := va_Tof (tm := .static "RingSign" "PLACES" "[I") (ty := .int) (N := 9) (f := fun j => .int ((zt_row 1).getD j 0)) (A := A) (by decide) (hs _ (List.mem_of_getElem? (i := 21) (by decide +kernel))) (va_eqt (hs _ (List.mem_of_getElem? (i := 22) (by decide +kernel)))) (fun j hj => va_eqt (hs _ (List.mem_of_getElem? (i := 23 + j) ((by decide +kernel : ∀ j, j < 9 → (flatC (Jvm.Cond.and given_1 narrow_1))[23 + j]? = some (Cond.eq (.elem (.static "RingSign" "PLACES" "[I") (.int (Int32.ofNat j))) (.int ((zt_row 1).getD j 0)))) j hj)))) hA
  have hZ0 := va_Zof (A := A) (hts (.laysStatic "RingSign" "ROW_BITS" "[I") (List.mem_of_getElem? (i := 664) (by decide +kernel))) (hts (.initialized "RingSign") (List.mem_of_getElem? (i := 119) (by decide +kernel))) e0 hA
  have hZ1 := va_Zof (A := A) (hts (.laysStatic "RingSign" "PLACES" "[I") (List.mem_of_getElem? (i := 773) (by decide +kernel))) (hts (.initialized "RingSign") (List.mem_of_getElem? (i := 119) (by decide +kernel))) e1 hA
  have hZc := va_Zof (A := A) (hts (.laysStatic "java/lang/String" "COMPACT_STRINGS" "Z") (List.mem_of_getElem? (i := 539) (by decide +kernel))) (hts (.initialized "java/lang/String") (List.mem_of_getElem? (i := 129) (by decide +kernel))) (va_eqi (hs _ (List.mem_of_getElem? (i := 4) (by decide +kernel)) : (Cond.eq (.static "java/lang/String" "COMPACT_STRINGS" "Z") (.int 1)).before #[Value.ref b] s = true)) hA
  obtain ⟨t9, hZ9⟩ : ∃ t9 : Nat, va_Z "jdk/internal/util/Preconditions" "SIOOBE_FORMATTER" "Ljava/util/function/BiFunction;" .null A s s.heap ∨ va_Z "jdk/internal/util/Preconditions" "SIOOBE_FORMATTER" "Ljava/util/function/BiFunction;" (.ref t9) A s s.heap := by
    rcases va_Zqof (A := A) (hts (.laysStatic "jdk/internal/util/Preconditions" "SIOOBE_FORMATTER" "Ljava/util/function/BiFunction;") (List.mem_of_getElem? (i := 555) (by decide +kernel))) (hts (.initialized "jdk/internal/util/Preconditions") (List.mem_of_getElem? (i := 131) (by decide +kernel))) (hs _ (List.mem_of_getElem? (i := 5) (by decide +kernel)) : (Cond.isRef (.static "jdk/internal/util/Preconditions" "SIOOBE_FORMATTER" "Ljava/util/function/BiFunction;")).before #[Value.ref b] s = true) hA with h | ⟨t, h⟩
    · exact ⟨0, Or.inl h⟩
    · exact ⟨t, Or.inr h⟩
  obtain ⟨aK, aV, hS, hE⟩ := vk_Sof (N := 3) (tm := zt_tm) (len := zt_len) (byt := zt_byt) (A := A)
    (by decide +kernel)
    (fun i hi => hs _ (List.mem_of_getElem? (i := zt_pl i + 0) ((by decide +kernel : ∀ i, i < 3 → (flatC (Jvm.Cond.and given_1 narrow_1))[zt_pl i + 0]? = some (Cond.exactly (zt_tm i) "java/lang/String")) i hi)))
    (fun i hi => hs _ (List.mem_of_getElem? (i := zt_pl i + 1) ((by decide +kernel : ∀ i, i < 3 → (flatC (Jvm.Cond.and given_1 narrow_1))[zt_pl i + 1]? = some (Cond.eq (.field (zt_tm i) "java/lang/String" "coder" "B") (.int 0))) i hi)))
    (fun i hi => hs _ (List.mem_of_getElem? (i := zt_pl i + 2) ((by decide +kernel : ∀ i, i < 3 → (flatC (Jvm.Cond.and given_1 narrow_1))[zt_pl i + 2]? = some (Cond.arrayOf (.field (zt_tm i) "java/lang/String" "value" "[B") .byte)) i hi)))
    (fun i hi => hs _ (List.mem_of_getElem? (i := zt_pl i + 3) ((by decide +kernel : ∀ i, i < 3 → (flatC (Jvm.Cond.and given_1 narrow_1))[zt_pl i + 3]? = some (Cond.eq (.length (.field (zt_tm i) "java/lang/String" "value" "[B")) (.int (Int32.ofNat (zt_len.getD i 0))))) i hi)))
    (fun i hi j hj => hs _ (List.mem_of_getElem? (i := zt_pl i + 4 + j) ((by decide +kernel : ∀ i, i < 3 → ∀ j, j < zt_len.getD i 0 → (flatC (Jvm.Cond.and given_1 narrow_1))[zt_pl i + 4 + j]? = some (Cond.eq (.elem (.field (zt_tm i) "java/lang/String" "value" "[B") (.int (Int32.ofNat j))) (.int ((zt_byt.getD i []).getD j 0)))) i hi j hj)))
    (fun i j hi hj hij => by
      have q : ∀ i, i < 3 → ∀ j, j < 3 → i < j → (flatC (Jvm.Cond.and given_1 narrow_1))[if i = 0 then (if j = 1 then 142 else 238) else 239]? = some (Cond.not (Cond.eq (zt_tm i) (zt_tm j))) := by decide +kernel
      rcases Nat.lt_or_ge i j with h | h
      · exact Or.inl (hs _ (List.mem_of_getElem? (q i hi j hj h)))
      · exact Or.inr (hs _ (List.mem_of_getElem? (q j hj i hi (by omega))))) hA
  have h136 : (Term.string "RingSignModel" 136).eval #[Value.ref b] s none [] s = some (.ref (aK 1)) := by
    have h1 : (Term.string "RingSign$Reader" 76).eval #[Value.ref b] s none [] s = some (.ref (aK 1)) := hE 1 (by decide)
    have h2 : (Cond.eq (.string "RingSign$Reader" 76) (.string "RingSignModel" 136)).before #[Value.ref b] s = true := hs _ (List.mem_of_getElem? (i := 257) (by decide +kernel))
    exact va_eqR h2 h1
  refine ⟨fun k => if k = 0 then t0 else if k = 1 then t1 else if k = 30 then t9 else if k < 20 then aK (k - 10) else aV (k - 20), ⟨hZ0, hT0⟩, ⟨hZ1, hT1⟩, hZc, ⟨fun i hi => ?_, fun i j hi hj e => ?_⟩, vk_R.of (hts _ (List.mem_of_getElem? (i := 529) (by decide +kernel))) (hE 0 (by decide)), vk_R.of (hts _ (List.mem_of_getElem? (i := 578) (by decide +kernel))) (hE 1 (by decide)), vk_R.of (hts _ (List.mem_of_getElem? (i := 1412) (by decide +kernel))) (hE 2 (by decide)), vk_R.of (hts _ (List.mem_of_getElem? (i := 1418) (by decide +kernel))) h136, va_Nw.of rfl (hts _ (List.mem_of_getElem? (i := 663) (by decide +kernel))), va_Nw.of rfl (hts _ (List.mem_of_getElem? (i := 772) (by decide +kernel))), hZ9⟩
  · have h := hS.1 i hi
    simp only [if_neg (show ¬ (10 + i = 0) by omega), if_neg (show ¬ (10 + i = 1) by omega), if_neg (show ¬ (10 + i = 30) by omega), if_pos (show 10 + i < 20 by omega), if_neg (show ¬ (20 + i = 0) by omega), if_neg (show ¬ (20 + i = 1) by omega), if_neg (show ¬ (20 + i = 30) by omega), if_neg (show ¬ (20 + i < 20) by omega), show 10 + i - 10 = i by omega, show 20 + i - 20 = i by omega]
    exact h
  · simp only [if_neg (show ¬ (10 + i = 0) by omega), if_neg (show ¬ (10 + i = 1) by omega), if_neg (show ¬ (10 + i = 30) by omega), if_pos (show 10 + i < 20 by omega), if_neg (show ¬ (10 + j = 0) by omega), if_neg (show ¬ (10 + j = 1) by omega), if_neg (show ¬ (10 + j = 30) by omega), if_pos (show 10 + j < 20 by omega), show 10 + i - 10 = i by omega, show 10 + j - 10 = j by omega] at e
    exact hS.2 i j hi hj e

