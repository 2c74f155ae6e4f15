/-- sums -/
def zsum : Nat → (Nat → Nat) → Nat
  | 0, _ => 0
  | n + 1, f => zsum n f + f n
theorem zsum_congr {f g : Nat → Nat} : ∀ n, (∀ i, i < n → f i = g i) → zsum n f = zsum n g := by
  intro n
  induction n with
  | zero => intro _; rfl
  | succ n ih =>
    intro h
    show zsum n f + f n = zsum n g + g n
    rw [ih (fun i hi => h i (by omega)), h n (by omega)]
theorem zsum_zero {f : Nat → Nat} : ∀ n, (∀ i, i < n → f i = 0) → zsum n f = 0 := by
  intro n
  induction n with
  | zero => intro _; rfl
  | succ n ih =>
    intro h
    show zsum n f + f n = 0
    rw [ih (fun i hi => h i (by omega)), h n (by omega)]
theorem zsum_le {f : Nat → Nat} {k : Nat} : ∀ n, (∀ i, i < n → f i ≤ k) → zsum n f ≤ n * k := by
  intro n
  induction n with
  | zero => intro _; exact Nat.zero_le _
  | succ n ih =>
    intro h
    have h1 := ih (fun i hi => h i (by omega))
    have h2 := h n (by omega)
    show zsum n f + f n ≤ (n + 1) * k
    rw [Nat.add_mul]
    omega
theorem zsum_add (f g : Nat → Nat) : ∀ n, zsum n (fun i => f i + g i) = zsum n f + zsum n g := by
  intro n
  induction n with
  | zero => rfl
  | succ n ih =>
    show zsum n (fun i => f i + g i) + (f n + g n) = zsum n f + f n + (zsum n g + g n)
    rw [ih]; omega
theorem zsum_mul (k : Nat) (f : Nat → Nat) : ∀ n, zsum n (fun i => k * f i) = k * zsum n f := by
  intro n
  induction n with
  | zero => rfl
  | succ n ih =>
    show zsum n (fun i => k * f i) + k * f n = k * (zsum n f + f n)
    rw [ih, Nat.mul_add]
theorem zsum_swap (f : Nat → Nat → Nat) (m : Nat) : ∀ n, zsum n (fun i => zsum m (fun j => f i j)) = zsum m (fun j => zsum n (fun i => f i j)) := by
  intro n
  induction n with
  | zero => exact (zsum_zero m (fun _ _ => rfl)).symm
  | succ n ih =>
    show zsum n (fun i => zsum m (fun j => f i j)) + zsum m (fun j => f n j) = zsum m (fun j => zsum n (fun i => f i j) + f n j)
    rw [ih, zsum_add]
theorem zsum_one {e : Nat} : ∀ n, e < n → zsum n (fun x => if e = x then 1 else 0) = 1 := by
  intro n
  induction n with
  | zero => intro h; omega
  | succ n ih =>
    intro h
    show zsum n (fun x => if e = x then 1 else 0) + (if e = n then 1 else 0) = 1
    by_cases h2 : e = n
    · rw [if_pos h2, zsum_zero n (fun i hi => if_neg (by omega))]
    · rw [if_neg h2, ih (by omega)]
def zbit (m k : Nat) : Nat := m / 2 ^ k % 2
theorem zbit_tb (m k : Nat) : zbit m k = (m.testBit k).toNat := (Nat.toNat_testBit m k).symm
theorem zbit_le (m k : Nat) : zbit m k ≤ 1 := by unfold zbit; omega
theorem zpc_sum (m : Nat) : ∀ n, zpc n m = zsum n (zbit m) := by
  intro n
  induction n with
  | zero => rfl
  | succ n ih =>
    show zpc n m + m / 2 ^ n % 2 = zsum n (zbit m) + zbit m n
    rw [ih]; rfl
theorem zbit_and (a b k : Nat) : zbit (a &&& b) k = zbit a k * zbit b k := by
  rw [zbit_tb, zbit_tb, zbit_tb, Nat.testBit_and]
  cases a.testBit k <;> cases b.testBit k <;> rfl
theorem zbit_or2 (a e k : Nat) : zbit (a ||| 2 ^ e) k = if e = k then 1 else zbit a k := by
  rw [zbit_tb, zbit_tb, Nat.testBit_or, Nat.testBit_two_pow]
  by_cases h : e = k
  · simp [h]
  · simp [h]
/-- places in a ring -/
def zPL (c : Nat) : Nat := 5 * (c / 3) + c % 3
theorem zPL_lt : ∀ k, k < 9 → ∀ c, c < k → zPL c < zPL k := by decide
theorem zPL_12 : ∀ k, k < 9 → zPL k ≤ 12 := by decide
def zap (a b i : Nat) : Nat := zsum 9 (fun c => zsum 9 (fun d => zbit a c * (zbit b d * (if zPL c + 12 = i + zPL d then 1 else 0))))
def zcr (a s b t : Nat) : Nat := zap a b (12 + zPL t - zPL s)
/-- a sign at a shift, its first k cells -/
def zshf (a s : Nat) : Nat → Nat
  | 0 => 0
  | k + 1 => if zbit a k = 1 then zshf a s k ||| 2 ^ (zPL k + zPL s) else zshf a s k
theorem zshf_bit (a s x : Nat) : ∀ k, k ≤ 9 → zbit (zshf a s k) x = zsum k (fun c => zbit a c * (if zPL c + zPL s = x then 1 else 0)) := by
  intro k
  induction k with
  | zero => intro _; show 0 / 2 ^ x % 2 = 0; rw [Nat.zero_div]
  | succ k ih =>
    intro hk
    have ih := ih (by omega)
    show zbit (if zbit a k = 1 then zshf a s k ||| 2 ^ (zPL k + zPL s) else zshf a s k) x = zsum k (fun c => zbit a c * (if zPL c + zPL s = x then 1 else 0)) + zbit a k * (if zPL k + zPL s = x then 1 else 0)
    have hb := zbit_le a k
    by_cases h1 : zbit a k = 1
    · rw [if_pos h1, zbit_or2, h1]
      by_cases h2 : zPL k + zPL s = x
      · rw [if_pos h2, if_pos h2, zsum_zero k (fun c hc => by
          have := zPL_lt k (by omega) c hc
          rw [if_neg (by omega), Nat.mul_zero])]
      · rw [if_neg h2, if_neg h2, ih]
        rfl
    · have h0 : zbit a k = 0 := by omega
      rw [if_neg h1, ih, h0, Nat.zero_mul, Nat.add_zero]
theorem zshf_lt (a s : Nat) (hs : s < 9) : ∀ k, k ≤ 9 → zshf a s k < 2 ^ 25 := by
  intro k
  induction k with
  | zero => intro _; show (0 : Nat) < 2 ^ 25; decide
  | succ k ih =>
    intro hk
    have ih := ih (by omega)
    show (if zbit a k = 1 then zshf a s k ||| 2 ^ (zPL k + zPL s) else zshf a s k) < 2 ^ 25
    have h1 := zPL_12 k (by omega)
    have h2 := zPL_12 s hs
    split
    · exact Nat.or_lt_two_pow ih (Nat.pow_lt_pow_right (by decide) (by omega))
    · exact ih
theorem zcr_bits (a b : Nat) {s t : Nat} (hs : s < 9) (ht : t < 9) : zpc 25 (zshf a s 9 &&& zshf b t 9) = zcr a s b t := by
  have h1 := zPL_12 s hs
  have h2 := zPL_12 t ht
  rw [zpc_sum, zsum_congr 25 (g := fun x => zsum 9 (fun c => zsum 9 (fun d => zbit a c * (zbit b d * ((if zPL c + zPL s = x then 1 else 0) * (if zPL d + zPL t = x then 1 else 0)))))) (fun x _ => by
    rw [zbit_and, zshf_bit a s x 9 (by decide), zshf_bit b t x 9 (by decide), Nat.mul_comm, ← zsum_mul]
    refine zsum_congr 9 (fun c _ => ?_)
    rw [Nat.mul_comm, ← zsum_mul]
    refine zsum_congr 9 (fun d _ => ?_)
    rw [Nat.mul_assoc]
    congr 1
    rw [Nat.mul_left_comm]), zsum_swap]
  unfold zcr zap
  refine zsum_congr 9 (fun c hc => ?_)
  rw [zsum_swap]
  refine zsum_congr 9 (fun d hd => ?_)
  rw [zsum_mul, zsum_mul]
  have h3 := zPL_12 c hc
  have h4 := zPL_12 d hd
  congr 2
  by_cases h : zPL c + zPL s = zPL d + zPL t
  · rw [if_pos (by omega), zsum_congr 25 (g := fun x => if zPL c + zPL s = x then 1 else 0) (fun x _ => by
      rw [← h]; split <;> rfl), zsum_one 25 (by omega)]
  · rw [if_neg (by omega), zsum_zero 25 (fun x _ => by
      by_cases h5 : zPL c + zPL s = x
      · rw [if_neg (show ¬ zPL d + zPL t = x by omega), Nat.mul_zero]
      · rw [if_neg h5, Nat.zero_mul])]
theorem zap_le (a b i : Nat) : zap a b i ≤ 81 := by
  refine zsum_le 9 (k := 9) (fun c _ => ?_)
  refine zsum_le 9 (k := 1) (fun d _ => ?_)
  have h1 := zbit_le a c
  have h2 := zbit_le b d
  have h3 : zbit b d * (if zPL c + 12 = i + zPL d then 1 else 0) ≤ 1 * 1 := Nat.mul_le_mul h2 (by split <;> omega)
  exact Nat.mul_le_mul h1 h3
/-- Int32 with bits -/
theorem bt_nI (x i : Nat) : bt (nI x) i = (decide (i < 32) && x.testBit i) := by
  unfold bt
  show (BitVec.ofNat 32 x).getLsbD i = _
  rw [BitVec.getLsbD_ofNat]
theorem nI_or (x y : Nat) : nI x ||| nI y = nI (x ||| y) := b_ext (fun i hi => by
  rw [b_or, bt_nI, bt_nI, bt_nI, Nat.testBit_or]; simp [hi])
theorem nI_and (x y : Nat) : nI x &&& nI y = nI (x &&& y) := b_ext (fun i hi => by
  rw [b_and, bt_nI, bt_nI, bt_nI, Nat.testBit_and]; simp [hi])
theorem nI_xor (x y : Nat) : nI x ^^^ nI y = nI (x ^^^ y) := b_ext (fun i hi => by
  rw [b_xor, bt_nI, bt_nI, bt_nI, Nat.testBit_xor]; simp [hi])
theorem one_shl30 : ∀ k, k < 31 → zo_shl (1 : Int32) (nI k) = nI (2 ^ k) := by decide +kernel
theorem zbit_eq1 (m k : Nat) : (zbit m k = 1) ↔ m.testBit k = true := by
  rw [zbit_tb]
  cases m.testBit k <;> simp
