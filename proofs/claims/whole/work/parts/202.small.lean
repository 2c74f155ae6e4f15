/-- a loop from i on, k times -/
def zfd {A : Type} (g : Nat → A → A) : Nat → Nat → A → A
  | 0, _, a => a
  | k + 1, i, a => zfd g k (i + 1) (g i a)
theorem loop_fold {A R : Type} (F : Nat → Nat → A → R) (N : Nat) (g : Nat → A → A) (E : A → R) (P : Nat → A → Prop) (hs : ∀ n i a, i < N → P i a → F (n + 1) i a = F n (i + 1) (g i a) ∧ P (i + 1) (g i a)) (hx : ∀ n a, P N a → F (n + 1) N a = E a) :
    ∀ (k i n : Nat) (a : A), i + k = N → k < n → P i a → F n i a = E (zfd g k i a) ∧ P N (zfd g k i a) := by
  intro k
  induction k with
  | zero =>
    intro i n a hi hn hP
    obtain ⟨n, rfl⟩ : ∃ m, n = m + 1 := ⟨n - 1, by omega⟩
    have e : i = N := by omega
    subst e
    exact ⟨hx n a hP, hP⟩
  | succ k ih =>
    intro i n a hi hn hP
    obtain ⟨n, rfl⟩ : ∃ m, n = m + 1 := ⟨n - 1, by omega⟩
    obtain ⟨h1, h2⟩ := hs n i a (by omega) hP
    rw [h1]
    exact ih (i + 1) n (g i a) (by omega) (by omega) h2
theorem zfd_congr {A : Type} {g h : Nat → A → A} : ∀ (k i : Nat) (a : A), (∀ j b, i ≤ j → j < i + k → g j b = h j b) → zfd g k i a = zfd h k i a := by
  intro k
  induction k with
  | zero => intro i a _; rfl
  | succ k ih =>
    intro i a hc
    show zfd g k (i + 1) (g i a) = zfd h k (i + 1) (h i a)
    rw [hc i a (Nat.le_refl _) (by omega)]
    exact ih (i + 1) _ (fun j b h1 h2 => hc j b (by omega) (by omega))
theorem zfd_last {A : Type} (g : Nat → A → A) : ∀ (k i : Nat) (a : A), zfd g (k + 1) i a = g (i + k) (zfd g k i a) := by
  intro k
  induction k with
  | zero => intro i a; rfl
  | succ k ih =>
    intro i a
    show zfd g (k + 1) (i + 1) (g i a) = _
    rw [ih (i + 1) (g i a), show i + 1 + k = i + (k + 1) by omega]
    rfl
/-- how many bits below n -/
def zpc : Nat → Nat → Nat
  | 0, _ => 0
  | n + 1, k => zpc n k + k / 2 ^ n % 2
theorem zpc_le : ∀ n k, zpc n k ≤ n := by
  intro n
  induction n with
  | zero => intro k; exact Nat.le_refl _
  | succ n ih =>
    intro k
    have := ih k
    show zpc n k + k / 2 ^ n % 2 ≤ n + 1
    omega
theorem zpc_more {n k : Nat} (h : k < 2 ^ n) : ∀ m, zpc (n + m) k = zpc n k := by
  intro m
  induction m with
  | zero => rfl
  | succ m ih =>
    show zpc (n + m) k + k / 2 ^ (n + m) % 2 = zpc n k
    rw [ih, Nat.div_eq_of_lt (Nat.lt_of_lt_of_le h (Nat.pow_le_pow_right (by decide) (by omega)))]
    rfl
def zbc (v0 : Int32) : Int32 :=
  let x1 := v0 - ((zo_ush v0 (1 : Int32)) &&& (1431655765 : Int32))
  let x2 := (x1 &&& (858993459 : Int32)) + ((zo_ush x1 (nI 2)) &&& (858993459 : Int32))
  let x3 := (x2 + (zo_ush x2 (nI 4))) &&& (252645135 : Int32)
  let x4 := x3 + (zo_ush x3 (nI 8))
  let x5 := x4 + (zo_ush x4 (nI 16))
  x5 &&& (nI 63)
theorem bc_all (v : Int32) (s : zS) : f_J6_bitCount_0f7a4 v s = some (zbc v, s) := rfl
set_option maxRecDepth 20000 in
theorem zbc_512 : ∀ k, k < 512 → zbc (nI k) = nI (zpc 9 k) := by decide +kernel
theorem bc_ok {k : Nat} (s : zS) (h : k < 512) : f_J6_bitCount_0f7a4 (nI k) s = some (nI (zpc 9 k), s) := by rw [bc_all, zbc_512 k h]
theorem shr_bit {m k : Nat} (hm : m < 2 ^ 31) (hk : k < 32) : (zo_shr (nI m) (nI k)) &&& (1 : Int32) = nI (m / 2 ^ k % 2) := by
  rw [show zo_shr (nI m) (nI k) = nI (m / 2 ^ k) from pk_shrN hm _ k (s_l k hk)]
  exact pk_andN (Nat.lt_of_le_of_lt (Nat.div_le_self _ _) (by omega)) 1 (by decide)
theorem bits_loop {m : Nat} (hm : m < 2 ^ 31) (s : zS) : ∀ (k i n : Nat), i + k = 25 → k < n → f_X8_bitsOf_4 n (nI m) (nI (zpc i m)) (nI i) s = some (nI (zpc 25 m), s) := by
  intro k
  induction k with
  | zero =>
    intro i n hi hn
    obtain ⟨n, rfl⟩ : ∃ q, n = q + 1 := ⟨n - 1, by omega⟩
    have e : i = 25 := by omega
    subst e
    rw [f_X8_bitsOf_4, if_pos (nI_le (by omega) (by omega))]
  | succ k ih =>
    intro i n hi hn
    obtain ⟨n, rfl⟩ : ∃ q, n = q + 1 := ⟨n - 1, by omega⟩
    rw [f_X8_bitsOf_4, if_neg (nI_ge (by omega) (by omega)), zb_eq, zb_eq, shr_bit hm (by omega), nI_add, nI_1]
    exact ih (i + 1) n (by omega) (by omega)
theorem bits_ok {m : Nat} (hm : m < 2 ^ 31) (s : zS) : f_X8_bitsOf (nI m) s = some (nI (zpc 25 m), s) := bits_loop hm s 25 0 zFU (by omega) (by decide)
theorem bits_512 {m : Nat} (hm : m < 512) (s : zS) : f_X8_bitsOf (nI m) s = some (nI (zpc 9 m), s) := by
  rw [bits_ok (by omega) s, zpc_more (n := 9) hm 16]
set_option maxRecDepth 20000 in
theorem ush_bit : ∀ k, k < 10 → ∀ m, m < 1024 → (zo_ush (nI m) (nI k)) &&& (1 : Int32) = nI (m / 2 ^ k % 2) := by decide +kernel
set_option maxRecDepth 20000 in
theorem lsh_bit : ∀ k, k < 10 → ∀ m, m < 1024 → lg_cmp ((zo_lshr (nI m).toInt64 (nI k)) &&& (1 : Int64)) (1 : Int64) = if m.testBit k then 0 else -1 := by decide +kernel
set_option maxRecDepth 20000 in
theorem tb_mod : ∀ k, k < 10 → ∀ m, m < 1024 → (m / 2 ^ k % 2 = if m.testBit k then 1 else 0) := by decide +kernel
theorem ush_tb {m k : Nat} (hk : k < 10) (hm : m < 1024) : (zo_ush (nI m) (nI k)) &&& (1 : Int32) = if m.testBit k then 1 else 0 := by
  rw [ush_bit k hk m hm, tb_mod k hk m hm]
  split <;> rfl
theorem in_ok {m k : Nat} (s : zS) (hk : k < 10) (hm : m < 1024) : f_X8_isIn (nI m).toInt64 (nI k) s = some (if m.testBit k then 1 else 0, s) := by
  unfold f_X8_isIn f_X8_isIn_15
  rw [lsh_bit k hk m hm]
  by_cases h : m.testBit k = true
  · simp [h]
  · simp [h]
theorem one_shl : ∀ k, k < 10 → zo_shl (1 : Int32) (nI k) = nI (2 ^ k) := by decide +kernel
