/-- a method's run: program, launch, environment, room, start state, method, arguments, frames below, method, code, class table, addresses, array classes, static addresses, what may change, cells and slots made so far -/
abbrev zX : Type := Program × Launch × Env × Room × State × MethodId × Array Value × List Frame × Method × Code × va_G × (Nat → Nat) × (Nat → ClassId) × (Nat → Nat) × (Nat → Prop) × Nat × Nat
abbrev zx_p (X : zX) : Program := X.1
abbrev zx_l (X : zX) : Launch := X.2.1
abbrev zx_e (X : zX) : Env := X.2.2.1
abbrev zx_R (X : zX) : Room := X.2.2.2.1
abbrev zx_s (X : zX) : State := X.2.2.2.2.1
abbrev zx_m (X : zX) : MethodId := X.2.2.2.2.2.1
abbrev zx_args (X : zX) : Array Value := X.2.2.2.2.2.2.1
abbrev zx_below (X : zX) : List Frame := X.2.2.2.2.2.2.2.1
abbrev zx_meth (X : zX) : Method := X.2.2.2.2.2.2.2.2.1
abbrev zx_c (X : zX) : Code := X.2.2.2.2.2.2.2.2.2.1
abbrev zx_D (X : zX) : va_G := X.2.2.2.2.2.2.2.2.2.2.1
abbrev zx_ad (X : zX) : Nat → Nat := X.2.2.2.2.2.2.2.2.2.2.2.1
abbrev zx_cy (X : zX) : Nat → ClassId := X.2.2.2.2.2.2.2.2.2.2.2.2.1
abbrev zx_tv (X : zX) : Nat → Nat := X.2.2.2.2.2.2.2.2.2.2.2.2.2.1
abbrev zx_A (X : zX) : Nat → Prop := X.2.2.2.2.2.2.2.2.2.2.2.2.2.2.1
abbrev zx_cells (X : zX) : Nat := X.2.2.2.2.2.2.2.2.2.2.2.2.2.2.2.1
abbrev zx_slots (X : zX) : Nat := X.2.2.2.2.2.2.2.2.2.2.2.2.2.2.2.2
abbrev zs_tys (cy : Nat → ClassId) : List (ClassId × FieldType) := [(cy 0, .int), (cy 1, .byte), (cy 2, .boolean), (cy 3, .long)]
/-- the literals of the two static rows and the three texts: their bytes -/
def zt_row (k : Nat) : List Int32 := match k with
  | 0 => [0, 4, 2, 6, 1, 5, 3, 7]
  | _ => [0, 1, 2, 5, 6, 7, 10, 11, 12]
def zt_byt : List (List Int32) := [[115, 111, 99, 105, 101, 116, 121, 32, 112, 101, 114, 115, 111, 110, 32, 101, 110, 103, 97, 103, 101, 100, 32, 102, 105, 116, 115, 32, 108, 105, 107, 101, 115, 32, 115, 104, 121, 32, 111, 100, 100, 115, 32, 111, 114, 32, 97, 110, 100, 32, 110, 111, 116, 32, 99, 114, 111, 115, 115, 32, 105, 110, 107, 32, 109, 97, 110, 121, 32, 119, 104, 111, 32, 119, 104, 111, 109, 32, 109, 97, 114, 107, 32, 116, 104, 101, 105, 114, 115, 32], [59, 58, 43, 45, 42, 40, 41, 91, 93, 61, 60, 62], [32, 115, 111, 99, 105, 101, 116, 121, 32, 112, 101, 114, 115, 111, 110, 32, 101, 110, 103, 97, 103, 101, 100, 32, 109, 97, 114, 107, 32, 115, 104, 121, 32, 111, 100, 100, 115, 32, 102, 105, 116, 115, 32, 108, 105, 107, 101, 115, 32, 99, 114, 111, 115, 115, 32, 105, 110, 107, 32, 109, 97, 110, 121, 32, 119, 104, 111, 32, 119, 104, 111, 109, 32, 116, 104, 101, 105, 114, 115, 32, 97, 110, 100, 32, 111, 114, 32, 110, 111, 116, 32]]
def zt_len : List Nat := [90, 12, 91]
/-- the statics and texts that are read only, where a world's cells lie elsewhere -/
def zt_ok (tv : Nat → Nat) (A : Nat → Prop) (U : State) (H : Heap) : Prop :=
  (va_Z "RingSign" "ROW_BITS" "[I" (.ref (tv 0)) A U H ∧ va_T .int (tv 0) 8 (fun j => .int ((zt_row 0).getD j 0)) A U H) ∧
  (va_Z "RingSign" "PLACES" "[I" (.ref (tv 1)) A U H ∧ va_T .int (tv 1) 9 (fun j => .int ((zt_row 1).getD j 0)) A U H) ∧
  va_Z "java/lang/String" "COMPACT_STRINGS" "Z" (.int 1) A U H ∧
  vk_S 3 zt_len zt_byt (fun i => tv (10 + i)) (fun i => tv (20 + i)) A U H ∧
  vk_R "RingSign$Reader" 84 "society person engaged fits likes shy odds or and not cross ink many who whom mark theirs " (tv 10) U ∧ vk_R "RingSign$Reader" 76 ";:+-*()[]=<>" (tv 11) U ∧ vk_R "RingSignModel" 98 " society person engaged mark shy odds fits likes cross ink many who whom theirs and or not " (tv 12) U ∧ vk_R "RingSignModel" 136 ";:+-*()[]=<>" (tv 11) U ∧
  va_Nw (.fieldLinkNest "RingSign$Reader" 129 "RingSign" "ROW_BITS" "[I" "RingSign") U ∧ va_Nw (.fieldLinkNest "RingSign$Rings" 89 "RingSign" "PLACES" "[I" "RingSign") U ∧
  (va_Z "jdk/internal/util/Preconditions" "SIOOBE_FORMATTER" "Ljava/util/function/BiFunction;" .null A U H ∨ va_Z "jdk/internal/util/Preconditions" "SIOOBE_FORMATTER" "Ljava/util/function/BiFunction;" (.ref (tv 30)) A U H)
theorem zt_ok.move {tv : Nat → Nat} {A B : Nat → Prop} {u U : State} {H H1 : Heap} (h : zt_ok tv A u H) (hq : ∀ a : Nat, a < H.size → ¬ A a → H1[a]? = H[a]?) (hAB : ∀ q, B q → A q) (hW : u.WarmedH U.vm) : zt_ok tv B U H1 := by
  obtain ⟨⟨a1, a2⟩, ⟨b1, b2⟩, c1, d1, e1, e2, e3, e4, n1, n2, z9⟩ := h
  have m := hW.alike
  exact ⟨⟨((a1.kept hq).narrow hAB).moved m, ((a2.kept hq).narrow hAB).moved m⟩, ⟨((b1.kept hq).narrow hAB).moved m, ((b2.kept hq).narrow hAB).moved m⟩, ((c1.kept hq).narrow hAB).moved m, ((d1.kept hq).narrow hAB).moved m, e1.warm hW, e2.warm hW, e3.warm hW, e4.warm hW, n1.warmF hW, n2.warmF hW, z9.imp (fun z => ((z.kept hq).narrow hAB).moved m) (fun z => ((z.kept hq).narrow hAB).moved m)⟩
theorem zt_ok.same {tv : Nat → Nat} {A : Nat → Prop} {u U : State} {H : Heap} (h : zt_ok tv A u H) (hv : U.vm = u.vm) : zt_ok tv A U H := by
  obtain ⟨⟨a1, a2⟩, ⟨b1, b2⟩, c1, d1, e1, e2, e3, e4, n1, n2, z9⟩ := h
  have m : u.vm.Alike U.vm := by rw [hv]; exact Vm.Alike.refl u.vm
  exact ⟨⟨a1.moved m, a2.moved m⟩, ⟨b1.moved m, b2.moved m⟩, c1.moved m, d1.moved m, e1.same hv, e2.same hv, e3.same hv, e4.same hv, n1.same rfl hv.symm, n2.same rfl hv.symm, z9.imp (fun z => z.moved m) (fun z => z.moved m)⟩

/-- the heap holds the state s -/
def zx_w (X : zX) (s : zS) (H : Heap) (locs : List Loc) : Prop :=
  va_P (zx_D X) zs_cls (zk_w (zx_cy X) (zx_ad X) s) H ∧ va_D (zx_A X) (zk_w (zx_cy X) (zx_ad X) s) ∧ va_S (zx_A X) (zx_s X).heap H locs
/-- what a run knows all along -/
def zx_ok (X : zX) (cc : ByteArray) (own : String) (nL : Nat) : Prop :=
  (zx_p X).tables.exec = Jvm.exec ∧ (zx_c X).code = cc ∧ (zx_s X).vm.findClass own = some (zx_m X).cls ∧ (zx_c X).maxLocals = nL ∧ (∀ w ∈ zw_T, w.before (zx_args X) (zx_s X) = true) ∧
  va_K (zx_D X) zs_cls (zs_tys (zx_cy X)) (zx_s X) ∧ zt_ok (zx_tv X) (zx_A X) (zx_s X) (zx_s X).heap ∧ (∀ q, (zx_s X).heap.size ≤ q → zx_A X q) ∧ zx_cells X ≤ (zx_R X).cells ∧ zx_slots X ≤ (zx_R X).slots
abbrev zx_W (X : zX) (H : Heap) (locs : List Loc) (Q : State → Prop) (g : JFrame) : Prop := W (zx_p X) (zx_l X) (zx_e X) (zx_R X) (zx_s X) (zx_m X) (zx_args X) (zx_below X) (zx_meth X) (zx_c X) H locs (zx_cells X) (zx_slots X) Q g
/-- from pc on, with these locals, this stack and this state, the machine comes to what o says (if it says something) -/
def zV {ρ : Type} (X : zX) (Q : ρ × zS → State → Prop) (nL pc : Nat) (lv : List (Nat × Value)) (st : List Value) (s : zS) (o : Option (ρ × zS)) : Prop :=
  ∀ rr : ρ × zS, o = some rr → ∀ (H : Heap) (locs : List Loc) (ls : Array Slot), lv_has ls nL lv → zx_w X s H locs → zx_W X H locs (Q rr) (F0 (zx_m X) pc ls st)
section ZV
variable {ρ : Type} {X : zX} {Q : ρ × zS → State → Prop} {cc : ByteArray} {own : String} {nL pc : Nat} {lv lv' : List (Nat × Value)} {st : List Value} {s : zS} {o o1 o2 : Option (ρ × zS)}
theorem zv_none : zV X Q nL pc lv st s none := fun _ h => by cases h
theorem zv_ite {c : Prop} {hd : Decidable c} (k1 : c → zV X Q nL pc lv st s o1) (k2 : ¬ c → zV X Q nL pc lv st s o2) : zV X Q nL pc lv st s (@ite _ c hd o1 o2) := by
  by_cases h : c
  · rw [if_pos h]; exact k1 h
  · rw [if_neg h]; exact k2 h
theorem zv_sub (ks : List Nat) (h : lv_pick lv ks = lv') (k : zV X Q nL pc lv' st s o) : zV X Q nL pc lv st s o := fun rr hr H locs ls hl hw => k rr hr H locs ls (lv_sub hl ks h) hw

theorem zv_iconst {n : Int} {v : Int32} (hX : zx_ok X cc own nL) (d : decode cc pc = .ok (.iconst n, 1)) (hv : Int32.ofInt n = v) (k : zV X Q nL (pc + 1) lv (.int v :: st) s o) : zV X Q nL pc lv st s o := fun rr hr H locs ls hl hw => lv_iconst hX.1 hX.2.1 d hv (k rr hr H locs ls hl hw)
theorem zv_bipush {n : Int} {v : Int32} (hX : zx_ok X cc own nL) (d : decode cc pc = .ok (.bipush n, 2)) (hv : (Int8.ofInt n).toInt32 = v) (k : zV X Q nL (pc + 2) lv (.int v :: st) s o) : zV X Q nL pc lv st s o := fun rr hr H locs ls hl hw => lv_bipush hX.1 hX.2.1 d hv (k rr hr H locs ls hl hw)
theorem zv_sipush {n : Int} {v : Int32} (hX : zx_ok X cc own nL) (d : decode cc pc = .ok (.sipush n, 3)) (hv : (Int16.ofInt n).toInt32 = v) (k : zV X Q nL (pc + 3) lv (.int v :: st) s o) : zV X Q nL pc lv st s o := fun rr hr H locs ls hl hw => lv_sipush hX.1 hX.2.1 d hv (k rr hr H locs ls hl hw)
theorem zv_lconst {n : Fin 2} {v : Int64} (hX : zx_ok X cc own nL) (d : decode cc pc = .ok (.lconst n, 1)) (hv : Int64.ofNat (n : Nat) = v) (k : zV X Q nL (pc + 1) lv (.long v :: st) s o) : zV X Q nL pc lv st s o := fun rr hr H locs ls hl hw => lv_lconst hX.1 hX.2.1 d hv (k rr hr H locs ls hl hw)
theorem zv_ldc {n : Nat} {v : Int32} (hX : zx_ok X cc own nL) (hc : Cond.constant own n v ∈ zw_T) (d : decode cc pc = .ok (.ldc n, 2)) (k : zV X Q nL (pc + 2) lv (.int v :: st) s o) : zV X Q nL pc lv st s o := fun rr hr H locs ls hl hw => lv_ldc hX.1 hX.2.1 hX.2.2.1 (hX.2.2.2.2.1 _ hc) d (k rr hr H locs ls hl hw)
theorem zv_ldc2 {n : Nat} {v : Int64} (hX : zx_ok X cc own nL) (hc : Cond.constantLong own n v ∈ zw_T) (d : decode cc pc = .ok (.ldc2_w n, 3)) (k : zV X Q nL (pc + 3) lv (.long v :: st) s o) : zV X Q nL pc lv st s o := fun rr hr H locs ls hl hw => lv_ldc2 hX.1 hX.2.1 hX.2.2.1 (hX.2.2.2.2.1 _ hc) d (k rr hr H locs ls hl hw)
theorem zv_ldcw {n : Nat} {v : Int32} (hX : zx_ok X cc own nL) (hc : Cond.constant own n v ∈ zw_T) (d : decode cc pc = .ok (.ldc_w n, 3)) (k : zV X Q nL (pc + 3) lv (.int v :: st) s o) : zV X Q nL pc lv st s o := fun rr hr H locs ls hl hw => lv_ldcw hX.1 hX.2.1 hX.2.2.1 (hX.2.2.2.2.1 _ hc) d (k rr hr H locs ls hl hw)
theorem zv_iload_n {n : Fin 4} {x : Int32} (hX : zx_ok X cc own nL) (d : decode cc pc = .ok (.iload_n n, 1)) (p : Nat) (hp : lv[p]? = some ((n : Nat), .int x)) (k : zV X Q nL (pc + 1) lv (.int x :: st) s o) : zV X Q nL pc lv st s o := fun rr hr H locs ls hl hw => lv_iload_n hX.1 hX.2.1 d rfl (lv_at hl p hp) (k rr hr H locs ls hl hw)
theorem zv_iload {n : Nat} {x : Int32} (hX : zx_ok X cc own nL) (d : decode cc pc = .ok (.iload n, 2)) (p : Nat) (hp : lv[p]? = some (n, .int x)) (k : zV X Q nL (pc + 2) lv (.int x :: st) s o) : zV X Q nL pc lv st s o := fun rr hr H locs ls hl hw => lv_iload hX.1 hX.2.1 d (lv_at hl p hp) (k rr hr H locs ls hl hw)
theorem zv_lload_n {n : Fin 4} {x : Int64} (hX : zx_ok X cc own nL) (d : decode cc pc = .ok (.lload_n n, 1)) (p : Nat) (hp : lv[p]? = some ((n : Nat), .long x)) (k : zV X Q nL (pc + 1) lv (.long x :: st) s o) : zV X Q nL pc lv st s o := fun rr hr H locs ls hl hw => lv_lload_n hX.1 hX.2.1 d rfl (lv_at hl p hp) (k rr hr H locs ls hl hw)
theorem zv_lload {n : Nat} {x : Int64} (hX : zx_ok X cc own nL) (d : decode cc pc = .ok (.lload n, 2)) (p : Nat) (hp : lv[p]? = some (n, .long x)) (k : zV X Q nL (pc + 2) lv (.long x :: st) s o) : zV X Q nL pc lv st s o := fun rr hr H locs ls hl hw => lv_lload hX.1 hX.2.1 d (lv_at hl p hp) (k rr hr H locs ls hl hw)
theorem zv_aload_n {n : Fin 4} {x : Nat} (hX : zx_ok X cc own nL) (d : decode cc pc = .ok (.aload_n n, 1)) (p : Nat) (hp : lv[p]? = some ((n : Nat), .ref x)) (k : zV X Q nL (pc + 1) lv (.ref x :: st) s o) : zV X Q nL pc lv st s o := fun rr hr H locs ls hl hw => lv_aload_n hX.1 hX.2.1 d rfl (lv_at hl p hp) (k rr hr H locs ls hl hw)
theorem zv_aload {n : Nat} {x : Nat} (hX : zx_ok X cc own nL) (d : decode cc pc = .ok (.aload n, 2)) (p : Nat) (hp : lv[p]? = some (n, .ref x)) (k : zV X Q nL (pc + 2) lv (.ref x :: st) s o) : zV X Q nL pc lv st s o := fun rr hr H locs ls hl hw => lv_aload hX.1 hX.2.1 d (lv_at hl p hp) (k rr hr H locs ls hl hw)
theorem zv_istore_n {n : Fin 4} {x : Int32} (hX : zx_ok X cc own nL) (d : decode cc pc = .ok (.istore_n n, 1)) (hn : (n : Nat) < nL) (hl : ((n : Nat), Value.int x) :: lv.filter (fun q => !(q.1 == (n : Nat)) && !(q.1 + 1 == (n : Nat) && q.2.category == 2)) = lv') (k : zV X Q nL (pc + 1) lv' st s o) : zV X Q nL pc lv (.int x :: st) s o := fun rr hr H locs ls hv hw => lv_istore_n hX.1 hX.2.1 d rfl hv hn hl (fun ls2 h2 => k rr hr H locs ls2 h2 hw)
theorem zv_istore {n : Nat} {x : Int32} (hX : zx_ok X cc own nL) (d : decode cc pc = .ok (.istore n, 2)) (hn : n < nL) (hl : (n, Value.int x) :: lv.filter (fun q => !(q.1 == n) && !(q.1 + 1 == n && q.2.category == 2)) = lv') (k : zV X Q nL (pc + 2) lv' st s o) : zV X Q nL pc lv (.int x :: st) s o := fun rr hr H locs ls hv hw => lv_istore hX.1 hX.2.1 d hv hn hl (fun ls2 h2 => k rr hr H locs ls2 h2 hw)
theorem zv_astore_n {n : Fin 4} {x : Nat} (hX : zx_ok X cc own nL) (d : decode cc pc = .ok (.astore_n n, 1)) (hn : (n : Nat) < nL) (hl : ((n : Nat), Value.ref x) :: lv.filter (fun q => !(q.1 == (n : Nat)) && !(q.1 + 1 == (n : Nat) && q.2.category == 2)) = lv') (k : zV X Q nL (pc + 1) lv' st s o) : zV X Q nL pc lv (.ref x :: st) s o := fun rr hr H locs ls hv hw => lv_astore_n hX.1 hX.2.1 d rfl hv hn hl (fun ls2 h2 => k rr hr H locs ls2 h2 hw)
theorem zv_astore {n : Nat} {x : Nat} (hX : zx_ok X cc own nL) (d : decode cc pc = .ok (.astore n, 2)) (hn : n < nL) (hl : (n, Value.ref x) :: lv.filter (fun q => !(q.1 == n) && !(q.1 + 1 == n && q.2.category == 2)) = lv') (k : zV X Q nL (pc + 2) lv' st s o) : zV X Q nL pc lv (.ref x :: st) s o := fun rr hr H locs ls hv hw => lv_astore hX.1 hX.2.1 d hv hn hl (fun ls2 h2 => k rr hr H locs ls2 h2 hw)
theorem zv_lstore_n {n : Fin 4} {x : Int64} (hX : zx_ok X cc own nL) (d : decode cc pc = .ok (.lstore_n n, 1)) (hn : (n : Nat) + 1 < nL) (hl : ((n : Nat), Value.long x) :: lv.filter (fun q => !(q.1 == (n : Nat)) && (!(q.1 == (n : Nat) + 1) && !(q.1 + 1 == (n : Nat) && q.2.category == 2))) = lv') (k : zV X Q nL (pc + 1) lv' st s o) : zV X Q nL pc lv (.long x :: st) s o := fun rr hr H locs ls hv hw => lv_lstore_n hX.1 hX.2.1 d rfl hv hn hl (fun ls2 h2 => k rr hr H locs ls2 h2 hw)
theorem zv_lstore {n : Nat} {x : Int64} (hX : zx_ok X cc own nL) (d : decode cc pc = .ok (.lstore n, 2)) (hn : n + 1 < nL) (hl : (n, Value.long x) :: lv.filter (fun q => !(q.1 == n) && (!(q.1 == n + 1) && !(q.1 + 1 == n && q.2.category == 2))) = lv') (k : zV X Q nL (pc + 2) lv' st s o) : zV X Q nL pc lv (.long x :: st) s o := fun rr hr H locs ls hv hw => lv_lstore hX.1 hX.2.1 d hv hn hl (fun ls2 h2 => k rr hr H locs ls2 h2 hw)
theorem zv_iinc {n : Nat} {z : Int} {x v : Int32} (hX : zx_ok X cc own nL) (d : decode cc pc = .ok (.iinc n z, 3)) (p : Nat) (hp : lv[p]? = some (n, .int x)) (hv : x + Int32.ofInt z = v) (hn : n < nL) (hl : (n, Value.int v) :: lv.filter (fun q => !(q.1 == n) && !(q.1 + 1 == n && q.2.category == 2)) = lv') (k : zV X Q nL (pc + 3) lv' st s o) : zV X Q nL pc lv st s o := fun rr hr H locs ls hq hw => lv_iinc hX.1 hX.2.1 d hq hp hv hn hl (fun ls2 h2 => k rr hr H locs ls2 h2 hw)
/-- the machine's rest, its unsigned shift -/
abbrev zo_rem (x y : Int32) : Int32 := x - x / y * y
abbrev zo_lrem (x y : Int64) : Int64 := x - x / y * y
abbrev zo_ush (x y : Int32) : Int32 := (x.toUInt32 >>> (y.toUInt32 &&& Int32.toUInt32 31)).toInt32
abbrev zo_shl (x y : Int32) : Int32 := x <<< (y &&& 31)
abbrev zo_shr (x y : Int32) : Int32 := x >>> (y &&& 31)
abbrev zo_lshl (x : Int64) (y : Int32) : Int64 := x <<< (y.toInt64 &&& 63)
abbrev zo_lshr (x : Int64) (y : Int32) : Int64 := x >>> (y.toInt64 &&& 63)
theorem zv_iadd {x y : Int32} (hX : zx_ok X cc own nL) (d : decode cc pc = .ok (.iadd, 1)) (k : zV X Q nL (pc + 1) lv (.int (x + y) :: st) s o) : zV X Q nL pc lv (.int y :: .int x :: st) s o := fun rr hr H locs ls hl hw => lv_iadd hX.1 hX.2.1 d (k rr hr H locs ls hl hw)
theorem zv_isub {x y : Int32} (hX : zx_ok X cc own nL) (d : decode cc pc = .ok (.isub, 1)) (k : zV X Q nL (pc + 1) lv (.int (x - y) :: st) s o) : zV X Q nL pc lv (.int y :: .int x :: st) s o := fun rr hr H locs ls hl hw => lv_isub hX.1 hX.2.1 d (k rr hr H locs ls hl hw)
theorem zv_imul {x y : Int32} (hX : zx_ok X cc own nL) (d : decode cc pc = .ok (.imul, 1)) (k : zV X Q nL (pc + 1) lv (.int (x * y) :: st) s o) : zV X Q nL pc lv (.int y :: .int x :: st) s o := fun rr hr H locs ls hl hw => lv_imul hX.1 hX.2.1 d (k rr hr H locs ls hl hw)
theorem zv_iand {x y : Int32} (hX : zx_ok X cc own nL) (d : decode cc pc = .ok (.iand, 1)) (k : zV X Q nL (pc + 1) lv (.int (x &&& y) :: st) s o) : zV X Q nL pc lv (.int y :: .int x :: st) s o := fun rr hr H locs ls hl hw => lv_iand hX.1 hX.2.1 d (k rr hr H locs ls hl hw)
theorem zv_ior {x y : Int32} (hX : zx_ok X cc own nL) (d : decode cc pc = .ok (.ior, 1)) (k : zV X Q nL (pc + 1) lv (.int (x ||| y) :: st) s o) : zV X Q nL pc lv (.int y :: .int x :: st) s o := fun rr hr H locs ls hl hw => lv_ior hX.1 hX.2.1 d (k rr hr H locs ls hl hw)
theorem zv_ixor {x y : Int32} (hX : zx_ok X cc own nL) (d : decode cc pc = .ok (.ixor, 1)) (k : zV X Q nL (pc + 1) lv (.int (x ^^^ y) :: st) s o) : zV X Q nL pc lv (.int y :: .int x :: st) s o := fun rr hr H locs ls hl hw => lv_ixor hX.1 hX.2.1 d (k rr hr H locs ls hl hw)
theorem zv_ishl {x y : Int32} (hX : zx_ok X cc own nL) (d : decode cc pc = .ok (.ishl, 1)) (k : zV X Q nL (pc + 1) lv (.int (zo_shl x y) :: st) s o) : zV X Q nL pc lv (.int y :: .int x :: st) s o := fun rr hr H locs ls hl hw => lv_ishl hX.1 hX.2.1 d (k rr hr H locs ls hl hw)
theorem zv_ishr {x y : Int32} (hX : zx_ok X cc own nL) (d : decode cc pc = .ok (.ishr, 1)) (k : zV X Q nL (pc + 1) lv (.int (zo_shr x y) :: st) s o) : zV X Q nL pc lv (.int y :: .int x :: st) s o := fun rr hr H locs ls hl hw => lv_ishr hX.1 hX.2.1 d (k rr hr H locs ls hl hw)
theorem zv_ladd {x y : Int64} (hX : zx_ok X cc own nL) (d : decode cc pc = .ok (.ladd, 1)) (k : zV X Q nL (pc + 1) lv (.long (x + y) :: st) s o) : zV X Q nL pc lv (.long y :: .long x :: st) s o := fun rr hr H locs ls hl hw => lv_ladd hX.1 hX.2.1 d (k rr hr H locs ls hl hw)
theorem zv_lsub {x y : Int64} (hX : zx_ok X cc own nL) (d : decode cc pc = .ok (.lsub, 1)) (k : zV X Q nL (pc + 1) lv (.long (x - y) :: st) s o) : zV X Q nL pc lv (.long y :: .long x :: st) s o := fun rr hr H locs ls hl hw => lv_lsub hX.1 hX.2.1 d (k rr hr H locs ls hl hw)
theorem zv_lmul {x y : Int64} (hX : zx_ok X cc own nL) (d : decode cc pc = .ok (.lmul, 1)) (k : zV X Q nL (pc + 1) lv (.long (x * y) :: st) s o) : zV X Q nL pc lv (.long y :: .long x :: st) s o := fun rr hr H locs ls hl hw => lv_lmul hX.1 hX.2.1 d (k rr hr H locs ls hl hw)
theorem zv_land {x y : Int64} (hX : zx_ok X cc own nL) (d : decode cc pc = .ok (.land, 1)) (k : zV X Q nL (pc + 1) lv (.long (x &&& y) :: st) s o) : zV X Q nL pc lv (.long y :: .long x :: st) s o := fun rr hr H locs ls hl hw => lv_land hX.1 hX.2.1 d (k rr hr H locs ls hl hw)
theorem zv_lor {x y : Int64} (hX : zx_ok X cc own nL) (d : decode cc pc = .ok (.lor, 1)) (k : zV X Q nL (pc + 1) lv (.long (x ||| y) :: st) s o) : zV X Q nL pc lv (.long y :: .long x :: st) s o := fun rr hr H locs ls hl hw => lv_lor hX.1 hX.2.1 d (k rr hr H locs ls hl hw)
theorem zv_lxor {x y : Int64} (hX : zx_ok X cc own nL) (d : decode cc pc = .ok (.lxor, 1)) (k : zV X Q nL (pc + 1) lv (.long (x ^^^ y) :: st) s o) : zV X Q nL pc lv (.long y :: .long x :: st) s o := fun rr hr H locs ls hl hw => lv_lxor hX.1 hX.2.1 d (k rr hr H locs ls hl hw)
theorem zv_ineg {x : Int32} (hX : zx_ok X cc own nL) (d : decode cc pc = .ok (.ineg, 1)) (k : zV X Q nL (pc + 1) lv (.int (-x) :: st) s o) : zV X Q nL pc lv (.int x :: st) s o := fun rr hr H locs ls hl hw => lv_ineg hX.1 hX.2.1 d (k rr hr H locs ls hl hw)
theorem zv_iushr {x y : Int32} (hX : zx_ok X cc own nL) (d : decode cc pc = .ok (.iushr, 1)) (k : zV X Q nL (pc + 1) lv (.int (zo_ush x y) :: st) s o) : zV X Q nL pc lv (.int y :: .int x :: st) s o := fun rr hr H locs ls hl hw => lv_iushr hX.1 hX.2.1 d rfl (k rr hr H locs ls hl hw)
theorem zv_lshl {x : Int64} {y : Int32} (hX : zx_ok X cc own nL) (d : decode cc pc = .ok (.lshl, 1)) (k : zV X Q nL (pc + 1) lv (.long (zo_lshl x y) :: st) s o) : zV X Q nL pc lv (.int y :: .long x :: st) s o := fun rr hr H locs ls hl hw => lv_lshl hX.1 hX.2.1 d rfl (k rr hr H locs ls hl hw)
theorem zv_lshr {x : Int64} {y : Int32} (hX : zx_ok X cc own nL) (d : decode cc pc = .ok (.lshr, 1)) (k : zV X Q nL (pc + 1) lv (.long (zo_lshr x y) :: st) s o) : zV X Q nL pc lv (.int y :: .long x :: st) s o := fun rr hr H locs ls hl hw => lv_lshr hX.1 hX.2.1 d rfl (k rr hr H locs ls hl hw)
theorem zv_i2l {x : Int32} (hX : zx_ok X cc own nL) (d : decode cc pc = .ok (.i2l, 1)) (k : zV X Q nL (pc + 1) lv (.long x.toInt64 :: st) s o) : zV X Q nL pc lv (.int x :: st) s o := fun rr hr H locs ls hl hw => lv_i2l hX.1 hX.2.1 d rfl (k rr hr H locs ls hl hw)
theorem zv_l2i {x : Int64} (hX : zx_ok X cc own nL) (d : decode cc pc = .ok (.l2i, 1)) (k : zV X Q nL (pc + 1) lv (.int x.toInt32 :: st) s o) : zV X Q nL pc lv (.long x :: st) s o := fun rr hr H locs ls hl hw => lv_l2i hX.1 hX.2.1 d rfl (k rr hr H locs ls hl hw)
theorem zv_i2b {x : Int32} (hX : zx_ok X cc own nL) (d : decode cc pc = .ok (.i2b, 1)) (k : zV X Q nL (pc + 1) lv (.int x.toInt8.toInt32 :: st) s o) : zV X Q nL pc lv (.int x :: st) s o := fun rr hr H locs ls hl hw => lv_i2b hX.1 hX.2.1 d rfl (k rr hr H locs ls hl hw)
theorem zv_i2s {x : Int32} (hX : zx_ok X cc own nL) (d : decode cc pc = .ok (.i2s, 1)) (k : zV X Q nL (pc + 1) lv (.int x.toInt16.toInt32 :: st) s o) : zV X Q nL pc lv (.int x :: st) s o := fun rr hr H locs ls hl hw => lv_i2s hX.1 hX.2.1 d rfl (k rr hr H locs ls hl hw)
theorem zv_i2c {x : Int32} (hX : zx_ok X cc own nL) (d : decode cc pc = .ok (.i2c, 1)) (k : zV X Q nL (pc + 1) lv (.int (x.toUInt32 % 65536).toInt32 :: st) s o) : zV X Q nL pc lv (.int x :: st) s o := fun rr hr H locs ls hl hw => lv_i2c hX.1 hX.2.1 d rfl (k rr hr H locs ls hl hw)
theorem zv_lcmp {x y : Int64} (hX : zx_ok X cc own nL) (d : decode cc pc = .ok (.lcmp, 1)) (k : zV X Q nL (pc + 1) lv (.int (lg_cmp x y) :: st) s o) : zV X Q nL pc lv (.long y :: .long x :: st) s o := fun rr hr H locs ls hl hw => W.lcmp hX.1 hX.2.1 d (k rr hr H locs ls hl hw)
theorem zv_idiv {x y : Int32} (hX : zx_ok X cc own nL) (d : decode cc pc = .ok (.idiv, 1)) (hy : ¬ y = 0) (k : zV X Q nL (pc + 1) lv (.int (x / y) :: st) s o) : zV X Q nL pc lv (.int y :: .int x :: st) s o := fun rr hr H locs ls hl hw => lv_idiv hX.1 hX.2.1 d hy (k rr hr H locs ls hl hw)
theorem zv_irem {x y : Int32} (hX : zx_ok X cc own nL) (d : decode cc pc = .ok (.irem, 1)) (hy : ¬ y = 0) (k : zV X Q nL (pc + 1) lv (.int (zo_rem x y) :: st) s o) : zV X Q nL pc lv (.int y :: .int x :: st) s o := fun rr hr H locs ls hl hw => lv_irem hX.1 hX.2.1 d hy (k rr hr H locs ls hl hw)
theorem zv_ldiv {x y : Int64} (hX : zx_ok X cc own nL) (d : decode cc pc = .ok (.ldiv, 1)) (hy : ¬ y = 0) (k : zV X Q nL (pc + 1) lv (.long (x / y) :: st) s o) : zV X Q nL pc lv (.long y :: .long x :: st) s o := fun rr hr H locs ls hl hw => lv_ldiv hX.1 hX.2.1 d hy (k rr hr H locs ls hl hw)
theorem zv_lrem {x y : Int64} (hX : zx_ok X cc own nL) (d : decode cc pc = .ok (.lrem, 1)) (hy : ¬ y = 0) (k : zV X Q nL (pc + 1) lv (.long (zo_lrem x y) :: st) s o) : zV X Q nL pc lv (.long y :: .long x :: st) s o := fun rr hr H locs ls hl hw => lv_lrem hX.1 hX.2.1 d hy (k rr hr H locs ls hl hw)
theorem zv_dup {a : Value} (hX : zx_ok X cc own nL) (d : decode cc pc = .ok (.dup, 1)) (h1 : a.category = 1) (k : zV X Q nL (pc + 1) lv (a :: a :: st) s o) : zV X Q nL pc lv (a :: st) s o := fun rr hr H locs ls hl hw => lv_dup hX.1 hX.2.1 d h1 (k rr hr H locs ls hl hw)
theorem zv_pop {a : Value} (hX : zx_ok X cc own nL) (d : decode cc pc = .ok (.pop, 1)) (h1 : a.category = 1) (k : zV X Q nL (pc + 1) lv (st) s o) : zV X Q nL pc lv (a :: st) s o := fun rr hr H locs ls hl hw => lv_pop hX.1 hX.2.1 d h1 (k rr hr H locs ls hl hw)
theorem zv_dup2 {a b : Value} (hX : zx_ok X cc own nL) (d : decode cc pc = .ok (.dup2, 1)) (h1 : a.category = 1) (h2 : b.category = 1) (k : zV X Q nL (pc + 1) lv (a :: b :: a :: b :: st) s o) : zV X Q nL pc lv (a :: b :: st) s o := fun rr hr H locs ls hl hw => lv_dup2_11 hX.1 hX.2.1 d h1 h2 (k rr hr H locs ls hl hw)
theorem zv_dup_x1 {a b : Value} (hX : zx_ok X cc own nL) (d : decode cc pc = .ok (.dup_x1, 1)) (h1 : a.category = 1) (h2 : b.category = 1) (k : zV X Q nL (pc + 1) lv (a :: b :: a :: st) s o) : zV X Q nL pc lv (a :: b :: st) s o := fun rr hr H locs ls hl hw => lv_dup_x1 hX.1 hX.2.1 d h1 h2 (k rr hr H locs ls hl hw)
theorem zv_pop2 {a : Value} (hX : zx_ok X cc own nL) (d : decode cc pc = .ok (.pop2, 1)) (h1 : a.category = 2) (k : zV X Q nL (pc + 1) lv st s o) : zV X Q nL pc lv (a :: st) s o := fun rr hr H locs ls hl hw => lv_pop2_2 hX.1 hX.2.1 d h1 (k rr hr H locs ls hl hw)
theorem zv_goto {z : Int} {tgt : Nat} (hX : zx_ok X cc own nL) (d : decode cc pc = .ok (.goto z, 3)) (ht : (pc : Int) + z = (tgt : Int)) (k : zV X Q nL tgt lv st s o) : zV X Q nL pc lv st s o := fun rr hr H locs ls hl hw => lv_goto hX.1 hX.2.1 d ht (k rr hr H locs ls hl hw)
theorem zv_if_eq {x : Int32} {z : Int} {tgt : Nat} {hd : Decidable (x = 0)} (hX : zx_ok X cc own nL) (d : decode cc pc = .ok (.ifCond .eq z, 3)) (ht : (pc : Int) + z = (tgt : Int)) (k1 : zV X Q nL tgt lv st s o1) (k2 : zV X Q nL (pc + 3) lv st s o2) : zV X Q nL pc lv (.int x :: st) s (@ite _ (x = 0) hd o1 o2) := by
  intro rr hr H locs ls hl hw
  refine lv_if_eq hX.1 hX.2.1 d ht (fun h => ?_) (fun h => ?_)
  · rw [if_pos (by first | exact h | simpa using h)] at hr; exact k1 rr hr H locs ls hl hw
  · rw [if_neg (by first | exact h | simpa using h)] at hr; exact k2 rr hr H locs ls hl hw
theorem zv_icmp_eq {x y : Int32} {z : Int} {tgt : Nat} {hd : Decidable (x = y)} (hX : zx_ok X cc own nL) (d : decode cc pc = .ok (.if_icmp .eq z, 3)) (ht : (pc : Int) + z = (tgt : Int)) (k1 : zV X Q nL tgt lv st s o1) (k2 : zV X Q nL (pc + 3) lv st s o2) : zV X Q nL pc lv (.int y :: .int x :: st) s (@ite _ (x = y) hd o1 o2) := by
  intro rr hr H locs ls hl hw
  refine lv_icmp_eq hX.1 hX.2.1 d ht (fun h => ?_) (fun h => ?_)
  · rw [if_pos (by first | exact h | simpa using h)] at hr; exact k1 rr hr H locs ls hl hw
  · rw [if_neg (by first | exact h | simpa using h)] at hr; exact k2 rr hr H locs ls hl hw
theorem zv_if_ne {x : Int32} {z : Int} {tgt : Nat} {hd : Decidable (¬ x = 0)} (hX : zx_ok X cc own nL) (d : decode cc pc = .ok (.ifCond .ne z, 3)) (ht : (pc : Int) + z = (tgt : Int)) (k1 : zV X Q nL tgt lv st s o1) (k2 : zV X Q nL (pc + 3) lv st s o2) : zV X Q nL pc lv (.int x :: st) s (@ite _ (¬ x = 0) hd o1 o2) := by
  intro rr hr H locs ls hl hw
  refine lv_if_ne hX.1 hX.2.1 d ht (fun h => ?_) (fun h => ?_)
  · rw [if_pos (by first | exact h | simpa using h)] at hr; exact k1 rr hr H locs ls hl hw
  · rw [if_neg (by first | exact h | simpa using h)] at hr; exact k2 rr hr H locs ls hl hw
theorem zv_icmp_ne {x y : Int32} {z : Int} {tgt : Nat} {hd : Decidable (¬ x = y)} (hX : zx_ok X cc own nL) (d : decode cc pc = .ok (.if_icmp .ne z, 3)) (ht : (pc : Int) + z = (tgt : Int)) (k1 : zV X Q nL tgt lv st s o1) (k2 : zV X Q nL (pc + 3) lv st s o2) : zV X Q nL pc lv (.int y :: .int x :: st) s (@ite _ (¬ x = y) hd o1 o2) := by
  intro rr hr H locs ls hl hw
  refine lv_icmp_ne hX.1 hX.2.1 d ht (fun h => ?_) (fun h => ?_)
  · rw [if_pos (by first | exact h | simpa using h)] at hr; exact k1 rr hr H locs ls hl hw
  · rw [if_neg (by first | exact h | simpa using h)] at hr; exact k2 rr hr H locs ls hl hw
theorem zv_if_lt {x : Int32} {z : Int} {tgt : Nat} {hd : Decidable (x < 0)} (hX : zx_ok X cc own nL) (d : decode cc pc = .ok (.ifCond .lt z, 3)) (ht : (pc : Int) + z = (tgt : Int)) (k1 : zV X Q nL tgt lv st s o1) (k2 : zV X Q nL (pc + 3) lv st s o2) : zV X Q nL pc lv (.int x :: st) s (@ite _ (x < 0) hd o1 o2) := by
  intro rr hr H locs ls hl hw
  refine lv_if_lt hX.1 hX.2.1 d ht (fun h => ?_) (fun h => ?_)
  · rw [if_pos (by first | exact h | simpa using h)] at hr; exact k1 rr hr H locs ls hl hw
  · rw [if_neg (by first | exact h | simpa using h)] at hr; exact k2 rr hr H locs ls hl hw
theorem zv_icmp_lt {x y : Int32} {z : Int} {tgt : Nat} {hd : Decidable (x < y)} (hX : zx_ok X cc own nL) (d : decode cc pc = .ok (.if_icmp .lt z, 3)) (ht : (pc : Int) + z = (tgt : Int)) (k1 : zV X Q nL tgt lv st s o1) (k2 : zV X Q nL (pc + 3) lv st s o2) : zV X Q nL pc lv (.int y :: .int x :: st) s (@ite _ (x < y) hd o1 o2) := by
  intro rr hr H locs ls hl hw
  refine lv_icmp_lt hX.1 hX.2.1 d ht (fun h => ?_) (fun h => ?_)
  · rw [if_pos (by first | exact h | simpa using h)] at hr; exact k1 rr hr H locs ls hl hw
  · rw [if_neg (by first | exact h | simpa using h)] at hr; exact k2 rr hr H locs ls hl hw
theorem zv_if_ge {x : Int32} {z : Int} {tgt : Nat} {hd : Decidable (0 ≤ x)} (hX : zx_ok X cc own nL) (d : decode cc pc = .ok (.ifCond .ge z, 3)) (ht : (pc : Int) + z = (tgt : Int)) (k1 : zV X Q nL tgt lv st s o1) (k2 : zV X Q nL (pc + 3) lv st s o2) : zV X Q nL pc lv (.int x :: st) s (@ite _ (0 ≤ x) hd o1 o2) := by
  intro rr hr H locs ls hl hw
  refine lv_if_ge hX.1 hX.2.1 d ht (fun h => ?_) (fun h => ?_)
  · rw [if_pos (by first | exact h | simpa using h)] at hr; exact k1 rr hr H locs ls hl hw
  · rw [if_neg (by first | exact h | simpa using h)] at hr; exact k2 rr hr H locs ls hl hw
theorem zv_icmp_ge {x y : Int32} {z : Int} {tgt : Nat} {hd : Decidable (y ≤ x)} (hX : zx_ok X cc own nL) (d : decode cc pc = .ok (.if_icmp .ge z, 3)) (ht : (pc : Int) + z = (tgt : Int)) (k1 : zV X Q nL tgt lv st s o1) (k2 : zV X Q nL (pc + 3) lv st s o2) : zV X Q nL pc lv (.int y :: .int x :: st) s (@ite _ (y ≤ x) hd o1 o2) := by
  intro rr hr H locs ls hl hw
  refine lv_icmp_ge hX.1 hX.2.1 d ht (fun h => ?_) (fun h => ?_)
  · rw [if_pos (by first | exact h | simpa using h)] at hr; exact k1 rr hr H locs ls hl hw
  · rw [if_neg (by first | exact h | simpa using h)] at hr; exact k2 rr hr H locs ls hl hw
theorem zv_if_gt {x : Int32} {z : Int} {tgt : Nat} {hd : Decidable (0 < x)} (hX : zx_ok X cc own nL) (d : decode cc pc = .ok (.ifCond .gt z, 3)) (ht : (pc : Int) + z = (tgt : Int)) (k1 : zV X Q nL tgt lv st s o1) (k2 : zV X Q nL (pc + 3) lv st s o2) : zV X Q nL pc lv (.int x :: st) s (@ite _ (0 < x) hd o1 o2) := by
  intro rr hr H locs ls hl hw
  refine lv_if_gt hX.1 hX.2.1 d ht (fun h => ?_) (fun h => ?_)
  · rw [if_pos (by first | exact h | simpa using h)] at hr; exact k1 rr hr H locs ls hl hw
  · rw [if_neg (by first | exact h | simpa using h)] at hr; exact k2 rr hr H locs ls hl hw
theorem zv_icmp_gt {x y : Int32} {z : Int} {tgt : Nat} {hd : Decidable (y < x)} (hX : zx_ok X cc own nL) (d : decode cc pc = .ok (.if_icmp .gt z, 3)) (ht : (pc : Int) + z = (tgt : Int)) (k1 : zV X Q nL tgt lv st s o1) (k2 : zV X Q nL (pc + 3) lv st s o2) : zV X Q nL pc lv (.int y :: .int x :: st) s (@ite _ (y < x) hd o1 o2) := by
  intro rr hr H locs ls hl hw
  refine lv_icmp_gt hX.1 hX.2.1 d ht (fun h => ?_) (fun h => ?_)
  · rw [if_pos (by first | exact h | simpa using h)] at hr; exact k1 rr hr H locs ls hl hw
  · rw [if_neg (by first | exact h | simpa using h)] at hr; exact k2 rr hr H locs ls hl hw
theorem zv_if_le {x : Int32} {z : Int} {tgt : Nat} {hd : Decidable (x ≤ 0)} (hX : zx_ok X cc own nL) (d : decode cc pc = .ok (.ifCond .le z, 3)) (ht : (pc : Int) + z = (tgt : Int)) (k1 : zV X Q nL tgt lv st s o1) (k2 : zV X Q nL (pc + 3) lv st s o2) : zV X Q nL pc lv (.int x :: st) s (@ite _ (x ≤ 0) hd o1 o2) := by
  intro rr hr H locs ls hl hw
  refine lv_if_le hX.1 hX.2.1 d ht (fun h => ?_) (fun h => ?_)
  · rw [if_pos (by first | exact h | simpa using h)] at hr; exact k1 rr hr H locs ls hl hw
  · rw [if_neg (by first | exact h | simpa using h)] at hr; exact k2 rr hr H locs ls hl hw
theorem zv_icmp_le {x y : Int32} {z : Int} {tgt : Nat} {hd : Decidable (x ≤ y)} (hX : zx_ok X cc own nL) (d : decode cc pc = .ok (.if_icmp .le z, 3)) (ht : (pc : Int) + z = (tgt : Int)) (k1 : zV X Q nL tgt lv st s o1) (k2 : zV X Q nL (pc + 3) lv st s o2) : zV X Q nL pc lv (.int y :: .int x :: st) s (@ite _ (x ≤ y) hd o1 o2) := by
  intro rr hr H locs ls hl hw
  refine lv_icmp_le hX.1 hX.2.1 d ht (fun h => ?_) (fun h => ?_)
  · rw [if_pos (by first | exact h | simpa using h)] at hr; exact k1 rr hr H locs ls hl hw
  · rw [if_neg (by first | exact h | simpa using h)] at hr; exact k2 rr hr H locs ls hl hw
end ZV
