/-- what stays: all cells but those named -/
def zk_k (S : List Nat) (s t : zS) : Prop := ∀ k, k ∉ S → t.1 k = s.1 k ∧ t.2 k = s.2 k
theorem zk_k.rf {S : List Nat} {s : zS} : zk_k S s s := fun _ _ => ⟨rfl, rfl⟩
theorem zk_k.tr {S : List Nat} {s t u : zS} (h1 : zk_k S s t) (h2 : zk_k S t u) : zk_k S s u := fun k hk => ⟨(h2 k hk).1.trans (h1 k hk).1, (h2 k hk).2.trans (h1 k hk).2⟩
theorem zk_k.mono {S S2 : List Nat} {s t : zS} (h : zk_k S s t) (hs : ∀ k ∈ S, k ∈ S2) : zk_k S2 s t := fun k hk => h k (fun z => hk (hs k z))
theorem zk_k.i {S : List Nat} {s t : zS} (h : zk_k S s t) {k j : Nat} {v : Int32} (hk : k ∈ S) : zk_k S s (zs_i t k j v) := fun q hq => ⟨by
    have : q ≠ k := fun e => hq (e ▸ hk)
    rw [(zs_i_ne t k j v).1 q this]; exact (h q hq).1, (h q hq).2⟩
theorem zk_k.l {S : List Nat} {s t : zS} (h : zk_k S s t) {k j : Nat} {v : Int64} (hk : k ∈ S) : zk_k S s (zs_l t k j v) := fun q hq => ⟨(h q hq).1, by
    have : q ≠ k := fun e => hq (e ▸ hk)
    rw [(zs_l_ne t k j v).2 q this]; exact (h q hq).2⟩
theorem zs_i_1 (s : zS) (k j q : Nat) (v : Int32) : (zs_i s k j v).1 q = if q = k then upd (s.1 k) j v else s.1 q := rfl
theorem zs_i_2 (s : zS) (k j : Nat) (v : Int32) : (zs_i s k j v).2 = s.2 := rfl
theorem zs_l_1 (s : zS) (k j : Nat) (v : Int64) : (zs_l s k j v).1 = s.1 := rfl
theorem zs_l_2 (s : zS) (k j q : Nat) (v : Int64) : (zs_l s k j v).2 q = if q = k then vp_updL (s.2 k) j v else s.2 q := rfl
theorem zs_i_v (s : zS) (k j : Nat) (v : Int32) : (zs_i s k j v).1 k j = v := by simp [zs_i, upd]
theorem zs_i_o (s : zS) (k j i : Nat) (v : Int32) (h : i ≠ j) : (zs_i s k j v).1 k i = s.1 k i := by simp [zs_i, upd, h]
theorem zs_i_n (s : zS) (k j q : Nat) (v : Int32) (h : q ≠ k) : (zs_i s k j v).1 q = s.1 q := by simp [zs_i, h]
theorem zs_l_v (s : zS) (k j : Nat) (v : Int64) : (zs_l s k j v).2 k j = v := by simp [zs_l, vp_updL]
theorem zs_l_o (s : zS) (k j i : Nat) (v : Int64) (h : i ≠ j) : (zs_l s k j v).2 k i = s.2 k i := by simp [zs_l, vp_updL, h]
theorem zs_l_n (s : zS) (k j q : Nat) (v : Int64) (h : q ≠ k) : (zs_l s k j v).2 q = s.2 q := by simp [zs_l, h]
theorem rd_i {s : zS} {k j n : Nat} {x : Int32} (hd : zk_d k = 0) (hn : zk_n k = n) (hb : n < 2 ^ 31) (hx : x = nI j) (hj : j < n) : zr_i s k x = some (s.1 k j) := by
  subst hx
  rw [zr_i, if_pos ⟨hd, by rw [hn]; exact nI_in hj hb⟩, nI_clamp (by omega)]
theorem wr_i {s : zS} {k j n : Nat} {x v : Int32} (hd : zk_d k = 0) (hn : zk_n k = n) (hb : n < 2 ^ 31) (hx : x = nI j) (hj : j < n) : zw_i s k x v = some (zs_i s k j v) := by
  subst hx
  rw [zw_i, if_pos ⟨hd, by rw [hn]; exact nI_in hj hb⟩, nI_clamp (by omega)]
theorem rd_l {s : zS} {k j n : Nat} {x : Int32} (hd : zk_d k = 3) (hn : zk_n k = n) (hb : n < 2 ^ 31) (hx : x = nI j) (hj : j < n) : zr_l s k x = some (s.2 k j) := by
  subst hx
  rw [zr_l, if_pos ⟨hd, by rw [hn]; exact nI_in hj hb⟩, nI_clamp (by omega)]
theorem wr_l {s : zS} {k j n : Nat} {x : Int32} {v : Int64} (hd : zk_d k = 3) (hn : zk_n k = n) (hb : n < 2 ^ 31) (hx : x = nI j) (hj : j < n) : zw_l s k x v = some (zs_l s k j v) := by
  subst hx
  rw [zw_l, if_pos ⟨hd, by rw [hn]; exact nI_in hj hb⟩, nI_clamp (by omega)]
theorem rd_b {s : zS} {k j n : Nat} {x : Int32} (hd : zk_d k = 1 ∨ zk_d k = 2) (hn : zk_n k = n) (hb : n < 2 ^ 31) (hx : x = nI j) (hj : j < n) : zr_b s k x = some (s.1 k j) := by
  subst hx
  rw [zr_b, if_pos ⟨hd, by rw [hn]; exact nI_in hj hb⟩, nI_clamp (by omega)]
theorem wr_b1 {s : zS} {k j n : Nat} {x v : Int32} (hd : zk_d k = 1) (hn : zk_n k = n) (hb : n < 2 ^ 31) (hx : x = nI j) (hj : j < n) : zw_b s k x v = some (zs_i s k j v.toInt8.toInt32) := by
  subst hx
  rw [zw_b, if_pos ⟨hd, by rw [hn]; exact nI_in hj hb⟩, nI_clamp (by omega), vp_nar_byte]
theorem wr_b2 {s : zS} {k j n : Nat} {x v : Int32} (hd : zk_d k = 2) (hn : zk_n k = n) (hb : n < 2 ^ 31) (hx : x = nI j) (hj : j < n) : zw_b s k x v = some (zs_i s k j (vp_nar .boolean v)) := by
  subst hx
  rw [zw_b, if_neg (by rw [hd]; simp), if_pos ⟨hd, by rw [hn]; exact nI_in hj hb⟩, nI_clamp (by omega)]
theorem nar_z0 : vp_nar .boolean 0 = 0 := by decide
theorem nar_z1 : vp_nar .boolean 1 = 1 := by decide
/-- numbers -/
theorem i_cases (x : Int32) (n : Nat) (hn : n < 2 ^ 31) : (x < 0 ∧ ¬ 0 ≤ x) ∨ (¬ x < 0 ∧ nI n ≤ x) ∨ ∃ j : Nat, j < n ∧ x = nI j := by
  rcases pk_ix x hn with h | h | h
  · exact Or.inl ⟨h, Int32.not_le.mpr h⟩
  · refine Or.inr (Or.inl ⟨fun h2 => ?_, h⟩)
    have h3 : (nI n).toInt ≤ x.toInt := Int32.le_iff_toInt_le.mp h
    have h4 : x.toInt < (0 : Int32).toInt := Int32.lt_iff_toInt_lt.mp h2
    rw [nI_toInt hn] at h3
    have h5 : (0 : Int32).toInt = 0 := rfl
    omega
  · exact Or.inr (Or.inr h)
theorem zn_0 : zk_n 0 = 12 := rfl
theorem zn_1 : zk_n 1 = 900 := rfl
theorem rd_1 (s : zS) {x : Int32} (j : Nat) (hx : x = nI j) (h : j < 900) : zr_b s 1 x = some (s.1 1 j) := rd_b (Or.inl zd_1) zn_1 (by decide) hx h
theorem wr_1 (s : zS) {x v : Int32} (j : Nat) (hx : x = nI j) (h : j < 900) : zw_b s 1 x v = some (zs_i s 1 j v.toInt8.toInt32) := wr_b1 zd_1 zn_1 (by decide) hx h
theorem zn_2 : zk_n 2 = 2 := rfl
theorem rd_2 (s : zS) {x : Int32} (j : Nat) (hx : x = nI j) (h : j < 2) : zr_b s 2 x = some (s.1 2 j) := rd_b (Or.inr zd_2) zn_2 (by decide) hx h
theorem wr_2 (s : zS) {x v : Int32} (j : Nat) (hx : x = nI j) (h : j < 2) : zw_b s 2 x v = some (zs_i s 2 j (vp_nar .boolean v)) := wr_b2 zd_2 zn_2 (by decide) hx h
theorem zn_3 : zk_n 3 = 15 := rfl
theorem zn_4 : zk_n 4 = 7 := rfl
theorem rd_4 (s : zS) {x : Int32} (j : Nat) (hx : x = nI j) (h : j < 7) : zr_i s 4 x = some (s.1 4 j) := rd_i zd_4 zn_4 (by decide) hx h
theorem wr_4 (s : zS) {x v : Int32} (j : Nat) (hx : x = nI j) (h : j < 7) : zw_i s 4 x v = some (zs_i s 4 j v) := wr_i zd_4 zn_4 (by decide) hx h
theorem zn_5 : zk_n 5 = 7 := rfl
theorem rd_5 (s : zS) {x : Int32} (j : Nat) (hx : x = nI j) (h : j < 7) : zr_i s 5 x = some (s.1 5 j) := rd_i zd_5 zn_5 (by decide) hx h
theorem wr_5 (s : zS) {x v : Int32} (j : Nat) (hx : x = nI j) (h : j < 7) : zw_i s 5 x v = some (zs_i s 5 j v) := wr_i zd_5 zn_5 (by decide) hx h
theorem zn_6 : zk_n 6 = 7 := rfl
theorem rd_6 (s : zS) {x : Int32} (j : Nat) (hx : x = nI j) (h : j < 7) : zr_i s 6 x = some (s.1 6 j) := rd_i zd_6 zn_6 (by decide) hx h
theorem wr_6 (s : zS) {x v : Int32} (j : Nat) (hx : x = nI j) (h : j < 7) : zw_i s 6 x v = some (zs_i s 6 j v) := wr_i zd_6 zn_6 (by decide) hx h
theorem zn_7 : zk_n 7 = 7 := rfl
theorem rd_7 (s : zS) {x : Int32} (j : Nat) (hx : x = nI j) (h : j < 7) : zr_i s 7 x = some (s.1 7 j) := rd_i zd_7 zn_7 (by decide) hx h
theorem wr_7 (s : zS) {x v : Int32} (j : Nat) (hx : x = nI j) (h : j < 7) : zw_i s 7 x v = some (zs_i s 7 j v) := wr_i zd_7 zn_7 (by decide) hx h
theorem zn_8 : zk_n 8 = 7 := rfl
theorem rd_8 (s : zS) {x : Int32} (j : Nat) (hx : x = nI j) (h : j < 7) : zr_i s 8 x = some (s.1 8 j) := rd_i zd_8 zn_8 (by decide) hx h
theorem wr_8 (s : zS) {x v : Int32} (j : Nat) (hx : x = nI j) (h : j < 7) : zw_i s 8 x v = some (zs_i s 8 j v) := wr_i zd_8 zn_8 (by decide) hx h
theorem zn_9 : zk_n 9 = 900 := rfl
theorem rd_9 (s : zS) {x : Int32} (j : Nat) (hx : x = nI j) (h : j < 900) : zr_i s 9 x = some (s.1 9 j) := rd_i zd_9 zn_9 (by decide) hx h
theorem wr_9 (s : zS) {x v : Int32} (j : Nat) (hx : x = nI j) (h : j < 900) : zw_i s 9 x v = some (zs_i s 9 j v) := wr_i zd_9 zn_9 (by decide) hx h
theorem zn_10 : zk_n 10 = 7 := rfl
theorem rd_10 (s : zS) {x : Int32} (j : Nat) (hx : x = nI j) (h : j < 7) : zr_i s 10 x = some (s.1 10 j) := rd_i zd_10 zn_10 (by decide) hx h
theorem wr_10 (s : zS) {x v : Int32} (j : Nat) (hx : x = nI j) (h : j < 7) : zw_i s 10 x v = some (zs_i s 10 j v) := wr_i zd_10 zn_10 (by decide) hx h
theorem zn_11 : zk_n 11 = 7 := rfl
theorem rd_11 (s : zS) {x : Int32} (j : Nat) (hx : x = nI j) (h : j < 7) : zr_i s 11 x = some (s.1 11 j) := rd_i zd_11 zn_11 (by decide) hx h
theorem wr_11 (s : zS) {x v : Int32} (j : Nat) (hx : x = nI j) (h : j < 7) : zw_i s 11 x v = some (zs_i s 11 j v) := wr_i zd_11 zn_11 (by decide) hx h
theorem zn_12 : zk_n 12 = 15 := rfl
theorem zn_13 : zk_n 13 = 7 := rfl
theorem rd_13 (s : zS) {x : Int32} (j : Nat) (hx : x = nI j) (h : j < 7) : zr_i s 13 x = some (s.1 13 j) := rd_i zd_13 zn_13 (by decide) hx h
theorem wr_13 (s : zS) {x v : Int32} (j : Nat) (hx : x = nI j) (h : j < 7) : zw_i s 13 x v = some (zs_i s 13 j v) := wr_i zd_13 zn_13 (by decide) hx h
theorem zn_14 : zk_n 14 = 7 := rfl
theorem rd_14 (s : zS) {x : Int32} (j : Nat) (hx : x = nI j) (h : j < 7) : zr_i s 14 x = some (s.1 14 j) := rd_i zd_14 zn_14 (by decide) hx h
theorem wr_14 (s : zS) {x v : Int32} (j : Nat) (hx : x = nI j) (h : j < 7) : zw_i s 14 x v = some (zs_i s 14 j v) := wr_i zd_14 zn_14 (by decide) hx h
theorem zn_15 : zk_n 15 = 7 := rfl
theorem rd_15 (s : zS) {x : Int32} (j : Nat) (hx : x = nI j) (h : j < 7) : zr_i s 15 x = some (s.1 15 j) := rd_i zd_15 zn_15 (by decide) hx h
theorem wr_15 (s : zS) {x v : Int32} (j : Nat) (hx : x = nI j) (h : j < 7) : zw_i s 15 x v = some (zs_i s 15 j v) := wr_i zd_15 zn_15 (by decide) hx h
theorem zn_16 : zk_n 16 = 7 := rfl
theorem rd_16 (s : zS) {x : Int32} (j : Nat) (hx : x = nI j) (h : j < 7) : zr_i s 16 x = some (s.1 16 j) := rd_i zd_16 zn_16 (by decide) hx h
theorem wr_16 (s : zS) {x v : Int32} (j : Nat) (hx : x = nI j) (h : j < 7) : zw_i s 16 x v = some (zs_i s 16 j v) := wr_i zd_16 zn_16 (by decide) hx h
theorem zn_17 : zk_n 17 = 7 := rfl
theorem rd_17 (s : zS) {x : Int32} (j : Nat) (hx : x = nI j) (h : j < 7) : zr_i s 17 x = some (s.1 17 j) := rd_i zd_17 zn_17 (by decide) hx h
theorem wr_17 (s : zS) {x v : Int32} (j : Nat) (hx : x = nI j) (h : j < 7) : zw_i s 17 x v = some (zs_i s 17 j v) := wr_i zd_17 zn_17 (by decide) hx h
theorem zn_18 : zk_n 18 = 900 := rfl
theorem rd_18 (s : zS) {x : Int32} (j : Nat) (hx : x = nI j) (h : j < 900) : zr_i s 18 x = some (s.1 18 j) := rd_i zd_18 zn_18 (by decide) hx h
theorem wr_18 (s : zS) {x v : Int32} (j : Nat) (hx : x = nI j) (h : j < 900) : zw_i s 18 x v = some (zs_i s 18 j v) := wr_i zd_18 zn_18 (by decide) hx h
theorem zn_19 : zk_n 19 = 7 := rfl
theorem rd_19 (s : zS) {x : Int32} (j : Nat) (hx : x = nI j) (h : j < 7) : zr_i s 19 x = some (s.1 19 j) := rd_i zd_19 zn_19 (by decide) hx h
theorem wr_19 (s : zS) {x v : Int32} (j : Nat) (hx : x = nI j) (h : j < 7) : zw_i s 19 x v = some (zs_i s 19 j v) := wr_i zd_19 zn_19 (by decide) hx h
theorem zn_20 : zk_n 20 = 7 := rfl
theorem rd_20 (s : zS) {x : Int32} (j : Nat) (hx : x = nI j) (h : j < 7) : zr_i s 20 x = some (s.1 20 j) := rd_i zd_20 zn_20 (by decide) hx h
theorem wr_20 (s : zS) {x v : Int32} (j : Nat) (hx : x = nI j) (h : j < 7) : zw_i s 20 x v = some (zs_i s 20 j v) := wr_i zd_20 zn_20 (by decide) hx h
theorem zn_21 : zk_n 21 = 15 := rfl
theorem zn_22 : zk_n 22 = 7 := rfl
theorem rd_22 (s : zS) {x : Int32} (j : Nat) (hx : x = nI j) (h : j < 7) : zr_i s 22 x = some (s.1 22 j) := rd_i zd_22 zn_22 (by decide) hx h
theorem wr_22 (s : zS) {x v : Int32} (j : Nat) (hx : x = nI j) (h : j < 7) : zw_i s 22 x v = some (zs_i s 22 j v) := wr_i zd_22 zn_22 (by decide) hx h
theorem zn_23 : zk_n 23 = 7 := rfl
theorem rd_23 (s : zS) {x : Int32} (j : Nat) (hx : x = nI j) (h : j < 7) : zr_i s 23 x = some (s.1 23 j) := rd_i zd_23 zn_23 (by decide) hx h
theorem wr_23 (s : zS) {x v : Int32} (j : Nat) (hx : x = nI j) (h : j < 7) : zw_i s 23 x v = some (zs_i s 23 j v) := wr_i zd_23 zn_23 (by decide) hx h
theorem zn_24 : zk_n 24 = 7 := rfl
theorem rd_24 (s : zS) {x : Int32} (j : Nat) (hx : x = nI j) (h : j < 7) : zr_i s 24 x = some (s.1 24 j) := rd_i zd_24 zn_24 (by decide) hx h
theorem wr_24 (s : zS) {x v : Int32} (j : Nat) (hx : x = nI j) (h : j < 7) : zw_i s 24 x v = some (zs_i s 24 j v) := wr_i zd_24 zn_24 (by decide) hx h
theorem zn_25 : zk_n 25 = 7 := rfl
theorem rd_25 (s : zS) {x : Int32} (j : Nat) (hx : x = nI j) (h : j < 7) : zr_i s 25 x = some (s.1 25 j) := rd_i zd_25 zn_25 (by decide) hx h
theorem wr_25 (s : zS) {x v : Int32} (j : Nat) (hx : x = nI j) (h : j < 7) : zw_i s 25 x v = some (zs_i s 25 j v) := wr_i zd_25 zn_25 (by decide) hx h
theorem zn_26 : zk_n 26 = 7 := rfl
theorem rd_26 (s : zS) {x : Int32} (j : Nat) (hx : x = nI j) (h : j < 7) : zr_i s 26 x = some (s.1 26 j) := rd_i zd_26 zn_26 (by decide) hx h
theorem wr_26 (s : zS) {x v : Int32} (j : Nat) (hx : x = nI j) (h : j < 7) : zw_i s 26 x v = some (zs_i s 26 j v) := wr_i zd_26 zn_26 (by decide) hx h
theorem zn_27 : zk_n 27 = 900 := rfl
theorem rd_27 (s : zS) {x : Int32} (j : Nat) (hx : x = nI j) (h : j < 900) : zr_i s 27 x = some (s.1 27 j) := rd_i zd_27 zn_27 (by decide) hx h
theorem wr_27 (s : zS) {x v : Int32} (j : Nat) (hx : x = nI j) (h : j < 900) : zw_i s 27 x v = some (zs_i s 27 j v) := wr_i zd_27 zn_27 (by decide) hx h
theorem zn_28 : zk_n 28 = 7 := rfl
theorem rd_28 (s : zS) {x : Int32} (j : Nat) (hx : x = nI j) (h : j < 7) : zr_i s 28 x = some (s.1 28 j) := rd_i zd_28 zn_28 (by decide) hx h
theorem wr_28 (s : zS) {x v : Int32} (j : Nat) (hx : x = nI j) (h : j < 7) : zw_i s 28 x v = some (zs_i s 28 j v) := wr_i zd_28 zn_28 (by decide) hx h
theorem zn_29 : zk_n 29 = 7 := rfl
theorem rd_29 (s : zS) {x : Int32} (j : Nat) (hx : x = nI j) (h : j < 7) : zr_i s 29 x = some (s.1 29 j) := rd_i zd_29 zn_29 (by decide) hx h
theorem wr_29 (s : zS) {x v : Int32} (j : Nat) (hx : x = nI j) (h : j < 7) : zw_i s 29 x v = some (zs_i s 29 j v) := wr_i zd_29 zn_29 (by decide) hx h
theorem zn_30 : zk_n 30 = 7 := rfl
theorem zn_31 : zk_n 31 = 15 := rfl
theorem zn_32 : zk_n 32 = 7 := rfl
theorem rd_32 (s : zS) {x : Int32} (j : Nat) (hx : x = nI j) (h : j < 7) : zr_i s 32 x = some (s.1 32 j) := rd_i zd_32 zn_32 (by decide) hx h
theorem wr_32 (s : zS) {x v : Int32} (j : Nat) (hx : x = nI j) (h : j < 7) : zw_i s 32 x v = some (zs_i s 32 j v) := wr_i zd_32 zn_32 (by decide) hx h
theorem zn_33 : zk_n 33 = 7 := rfl
theorem rd_33 (s : zS) {x : Int32} (j : Nat) (hx : x = nI j) (h : j < 7) : zr_i s 33 x = some (s.1 33 j) := rd_i zd_33 zn_33 (by decide) hx h
theorem wr_33 (s : zS) {x v : Int32} (j : Nat) (hx : x = nI j) (h : j < 7) : zw_i s 33 x v = some (zs_i s 33 j v) := wr_i zd_33 zn_33 (by decide) hx h
theorem zn_34 : zk_n 34 = 7 := rfl
theorem rd_34 (s : zS) {x : Int32} (j : Nat) (hx : x = nI j) (h : j < 7) : zr_i s 34 x = some (s.1 34 j) := rd_i zd_34 zn_34 (by decide) hx h
theorem wr_34 (s : zS) {x v : Int32} (j : Nat) (hx : x = nI j) (h : j < 7) : zw_i s 34 x v = some (zs_i s 34 j v) := wr_i zd_34 zn_34 (by decide) hx h
theorem zn_35 : zk_n 35 = 7 := rfl
theorem rd_35 (s : zS) {x : Int32} (j : Nat) (hx : x = nI j) (h : j < 7) : zr_i s 35 x = some (s.1 35 j) := rd_i zd_35 zn_35 (by decide) hx h
theorem wr_35 (s : zS) {x v : Int32} (j : Nat) (hx : x = nI j) (h : j < 7) : zw_i s 35 x v = some (zs_i s 35 j v) := wr_i zd_35 zn_35 (by decide) hx h
theorem zn_36 : zk_n 36 = 7 := rfl
theorem rd_36 (s : zS) {x : Int32} (j : Nat) (hx : x = nI j) (h : j < 7) : zr_i s 36 x = some (s.1 36 j) := rd_i zd_36 zn_36 (by decide) hx h
theorem wr_36 (s : zS) {x v : Int32} (j : Nat) (hx : x = nI j) (h : j < 7) : zw_i s 36 x v = some (zs_i s 36 j v) := wr_i zd_36 zn_36 (by decide) hx h
theorem zn_37 : zk_n 37 = 900 := rfl
theorem rd_37 (s : zS) {x : Int32} (j : Nat) (hx : x = nI j) (h : j < 900) : zr_i s 37 x = some (s.1 37 j) := rd_i zd_37 zn_37 (by decide) hx h
theorem wr_37 (s : zS) {x v : Int32} (j : Nat) (hx : x = nI j) (h : j < 900) : zw_i s 37 x v = some (zs_i s 37 j v) := wr_i zd_37 zn_37 (by decide) hx h
theorem zn_38 : zk_n 38 = 7 := rfl
theorem rd_38 (s : zS) {x : Int32} (j : Nat) (hx : x = nI j) (h : j < 7) : zr_i s 38 x = some (s.1 38 j) := rd_i zd_38 zn_38 (by decide) hx h
theorem wr_38 (s : zS) {x v : Int32} (j : Nat) (hx : x = nI j) (h : j < 7) : zw_i s 38 x v = some (zs_i s 38 j v) := wr_i zd_38 zn_38 (by decide) hx h
theorem zn_39 : zk_n 39 = 7 := rfl
theorem rd_39 (s : zS) {x : Int32} (j : Nat) (hx : x = nI j) (h : j < 7) : zr_i s 39 x = some (s.1 39 j) := rd_i zd_39 zn_39 (by decide) hx h
theorem wr_39 (s : zS) {x v : Int32} (j : Nat) (hx : x = nI j) (h : j < 7) : zw_i s 39 x v = some (zs_i s 39 j v) := wr_i zd_39 zn_39 (by decide) hx h
theorem zn_40 : zk_n 40 = 901 := rfl
theorem rd_40 (s : zS) {x : Int32} (j : Nat) (hx : x = nI j) (h : j < 901) : zr_i s 40 x = some (s.1 40 j) := rd_i zd_40 zn_40 (by decide) hx h
theorem wr_40 (s : zS) {x v : Int32} (j : Nat) (hx : x = nI j) (h : j < 901) : zw_i s 40 x v = some (zs_i s 40 j v) := wr_i zd_40 zn_40 (by decide) hx h
theorem zn_41 : zk_n 41 = 901 := rfl
theorem rd_41 (s : zS) {x : Int32} (j : Nat) (hx : x = nI j) (h : j < 901) : zr_i s 41 x = some (s.1 41 j) := rd_i zd_41 zn_41 (by decide) hx h
theorem wr_41 (s : zS) {x v : Int32} (j : Nat) (hx : x = nI j) (h : j < 901) : zw_i s 41 x v = some (zs_i s 41 j v) := wr_i zd_41 zn_41 (by decide) hx h
theorem zn_42 : zk_n 42 = 19 := rfl
theorem zn_43 : zk_n 43 = 1225 := rfl
theorem rd_43 (s : zS) {x : Int32} (j : Nat) (hx : x = nI j) (h : j < 1225) : zr_i s 43 x = some (s.1 43 j) := rd_i zd_43 zn_43 (by decide) hx h
theorem wr_43 (s : zS) {x v : Int32} (j : Nat) (hx : x = nI j) (h : j < 1225) : zw_i s 43 x v = some (zs_i s 43 j v) := wr_i zd_43 zn_43 (by decide) hx h
theorem zn_44 : zk_n 44 = 49 := rfl
theorem rd_44 (s : zS) {x : Int32} (j : Nat) (hx : x = nI j) (h : j < 49) : zr_i s 44 x = some (s.1 44 j) := rd_i zd_44 zn_44 (by decide) hx h
theorem wr_44 (s : zS) {x v : Int32} (j : Nat) (hx : x = nI j) (h : j < 49) : zw_i s 44 x v = some (zs_i s 44 j v) := wr_i zd_44 zn_44 (by decide) hx h
theorem zn_45 : zk_n 45 = 49 := rfl
theorem rd_45 (s : zS) {x : Int32} (j : Nat) (hx : x = nI j) (h : j < 49) : zr_i s 45 x = some (s.1 45 j) := rd_i zd_45 zn_45 (by decide) hx h
theorem wr_45 (s : zS) {x v : Int32} (j : Nat) (hx : x = nI j) (h : j < 49) : zw_i s 45 x v = some (zs_i s 45 j v) := wr_i zd_45 zn_45 (by decide) hx h
theorem zn_46 : zk_n 46 = 25 := rfl
theorem rd_46 (s : zS) {x : Int32} (j : Nat) (hx : x = nI j) (h : j < 25) : zr_i s 46 x = some (s.1 46 j) := rd_i zd_46 zn_46 (by decide) hx h
theorem wr_46 (s : zS) {x v : Int32} (j : Nat) (hx : x = nI j) (h : j < 25) : zw_i s 46 x v = some (zs_i s 46 j v) := wr_i zd_46 zn_46 (by decide) hx h
theorem zn_47 : zk_n 47 = 128 := rfl
theorem rd_47 (s : zS) {x : Int32} (j : Nat) (hx : x = nI j) (h : j < 128) : zr_i s 47 x = some (s.1 47 j) := rd_i zd_47 zn_47 (by decide) hx h
theorem wr_47 (s : zS) {x v : Int32} (j : Nat) (hx : x = nI j) (h : j < 128) : zw_i s 47 x v = some (zs_i s 47 j v) := wr_i zd_47 zn_47 (by decide) hx h
theorem zn_48 : zk_n 48 = 128 := rfl
theorem rd_48 (s : zS) {x : Int32} (j : Nat) (hx : x = nI j) (h : j < 128) : zr_i s 48 x = some (s.1 48 j) := rd_i zd_48 zn_48 (by decide) hx h
theorem wr_48 (s : zS) {x v : Int32} (j : Nat) (hx : x = nI j) (h : j < 128) : zw_i s 48 x v = some (zs_i s 48 j v) := wr_i zd_48 zn_48 (by decide) hx h
theorem zn_49 : zk_n 49 = 512 := rfl
theorem rd_49 (s : zS) {x : Int32} (j : Nat) (hx : x = nI j) (h : j < 512) : zr_i s 49 x = some (s.1 49 j) := rd_i zd_49 zn_49 (by decide) hx h
theorem wr_49 (s : zS) {x v : Int32} (j : Nat) (hx : x = nI j) (h : j < 512) : zw_i s 49 x v = some (zs_i s 49 j v) := wr_i zd_49 zn_49 (by decide) hx h
theorem zn_50 : zk_n 50 = 128 := rfl
theorem rd_50 (s : zS) {x : Int32} (j : Nat) (hx : x = nI j) (h : j < 128) : zr_b s 50 x = some (s.1 50 j) := rd_b (Or.inr zd_50) zn_50 (by decide) hx h
theorem wr_50 (s : zS) {x v : Int32} (j : Nat) (hx : x = nI j) (h : j < 128) : zw_b s 50 x v = some (zs_i s 50 j (vp_nar .boolean v)) := wr_b2 zd_50 zn_50 (by decide) hx h
theorem zn_51 : zk_n 51 = 128 := rfl
theorem rd_51 (s : zS) {x : Int32} (j : Nat) (hx : x = nI j) (h : j < 128) : zr_i s 51 x = some (s.1 51 j) := rd_i zd_51 zn_51 (by decide) hx h
theorem wr_51 (s : zS) {x v : Int32} (j : Nat) (hx : x = nI j) (h : j < 128) : zw_i s 51 x v = some (zs_i s 51 j v) := wr_i zd_51 zn_51 (by decide) hx h
theorem zn_52 : zk_n 52 = 128 := rfl
theorem rd_52 (s : zS) {x : Int32} (j : Nat) (hx : x = nI j) (h : j < 128) : zr_i s 52 x = some (s.1 52 j) := rd_i zd_52 zn_52 (by decide) hx h
theorem wr_52 (s : zS) {x v : Int32} (j : Nat) (hx : x = nI j) (h : j < 128) : zw_i s 52 x v = some (zs_i s 52 j v) := wr_i zd_52 zn_52 (by decide) hx h
theorem zn_53 : zk_n 53 = 49 := rfl
theorem rd_53 (s : zS) {x : Int32} (j : Nat) (hx : x = nI j) (h : j < 49) : zr_i s 53 x = some (s.1 53 j) := rd_i zd_53 zn_53 (by decide) hx h
theorem wr_53 (s : zS) {x v : Int32} (j : Nat) (hx : x = nI j) (h : j < 49) : zw_i s 53 x v = some (zs_i s 53 j v) := wr_i zd_53 zn_53 (by decide) hx h
theorem zn_54 : zk_n 54 = 49 := rfl
theorem rd_54 (s : zS) {x : Int32} (j : Nat) (hx : x = nI j) (h : j < 49) : zr_i s 54 x = some (s.1 54 j) := rd_i zd_54 zn_54 (by decide) hx h
theorem wr_54 (s : zS) {x v : Int32} (j : Nat) (hx : x = nI j) (h : j < 49) : zw_i s 54 x v = some (zs_i s 54 j v) := wr_i zd_54 zn_54 (by decide) hx h
theorem zn_55 : zk_n 55 = 4 := rfl
theorem rd_55 (s : zS) {x : Int32} (j : Nat) (hx : x = nI j) (h : j < 4) : zr_i s 55 x = some (s.1 55 j) := rd_i zd_55 zn_55 (by decide) hx h
theorem wr_55 (s : zS) {x v : Int32} (j : Nat) (hx : x = nI j) (h : j < 4) : zw_i s 55 x v = some (zs_i s 55 j v) := wr_i zd_55 zn_55 (by decide) hx h
theorem zn_56 : zk_n 56 = 4 := rfl
theorem rd_56 (s : zS) {x : Int32} (j : Nat) (hx : x = nI j) (h : j < 4) : zr_i s 56 x = some (s.1 56 j) := rd_i zd_56 zn_56 (by decide) hx h
theorem wr_56 (s : zS) {x v : Int32} (j : Nat) (hx : x = nI j) (h : j < 4) : zw_i s 56 x v = some (zs_i s 56 j v) := wr_i zd_56 zn_56 (by decide) hx h
theorem zn_57 : zk_n 57 = 144 := rfl
theorem rd_57 (s : zS) {x : Int32} (j : Nat) (hx : x = nI j) (h : j < 144) : zr_i s 57 x = some (s.1 57 j) := rd_i zd_57 zn_57 (by decide) hx h
theorem wr_57 (s : zS) {x v : Int32} (j : Nat) (hx : x = nI j) (h : j < 144) : zw_i s 57 x v = some (zs_i s 57 j v) := wr_i zd_57 zn_57 (by decide) hx h
theorem zn_58 : zk_n 58 = 32 := rfl
theorem rd_58 (s : zS) {x : Int32} (j : Nat) (hx : x = nI j) (h : j < 32) : zr_i s 58 x = some (s.1 58 j) := rd_i zd_58 zn_58 (by decide) hx h
theorem wr_58 (s : zS) {x v : Int32} (j : Nat) (hx : x = nI j) (h : j < 32) : zw_i s 58 x v = some (zs_i s 58 j v) := wr_i zd_58 zn_58 (by decide) hx h
theorem zn_59 : zk_n 59 = 7 := rfl
theorem rd_59 (s : zS) {x : Int32} (j : Nat) (hx : x = nI j) (h : j < 7) : zr_i s 59 x = some (s.1 59 j) := rd_i zd_59 zn_59 (by decide) hx h
theorem wr_59 (s : zS) {x v : Int32} (j : Nat) (hx : x = nI j) (h : j < 7) : zw_i s 59 x v = some (zs_i s 59 j v) := wr_i zd_59 zn_59 (by decide) hx h
theorem zn_60 : zk_n 60 = 14 := rfl
theorem zn_61 : zk_n 61 = 7 := rfl
theorem rd_61 (s : zS) {x : Int32} (j : Nat) (hx : x = nI j) (h : j < 7) : zr_i s 61 x = some (s.1 61 j) := rd_i zd_61 zn_61 (by decide) hx h
theorem wr_61 (s : zS) {x v : Int32} (j : Nat) (hx : x = nI j) (h : j < 7) : zw_i s 61 x v = some (zs_i s 61 j v) := wr_i zd_61 zn_61 (by decide) hx h
theorem zn_62 : zk_n 62 = 49 := rfl
theorem rd_62 (s : zS) {x : Int32} (j : Nat) (hx : x = nI j) (h : j < 49) : zr_i s 62 x = some (s.1 62 j) := rd_i zd_62 zn_62 (by decide) hx h
theorem wr_62 (s : zS) {x v : Int32} (j : Nat) (hx : x = nI j) (h : j < 49) : zw_i s 62 x v = some (zs_i s 62 j v) := wr_i zd_62 zn_62 (by decide) hx h
theorem zn_63 : zk_n 63 = 7 := rfl
theorem rd_63 (s : zS) {x : Int32} (j : Nat) (hx : x = nI j) (h : j < 7) : zr_i s 63 x = some (s.1 63 j) := rd_i zd_63 zn_63 (by decide) hx h
theorem wr_63 (s : zS) {x v : Int32} (j : Nat) (hx : x = nI j) (h : j < 7) : zw_i s 63 x v = some (zs_i s 63 j v) := wr_i zd_63 zn_63 (by decide) hx h
theorem zn_64 : zk_n 64 = 7 := rfl
theorem rd_64 (s : zS) {x : Int32} (j : Nat) (hx : x = nI j) (h : j < 7) : zr_i s 64 x = some (s.1 64 j) := rd_i zd_64 zn_64 (by decide) hx h
theorem wr_64 (s : zS) {x v : Int32} (j : Nat) (hx : x = nI j) (h : j < 7) : zw_i s 64 x v = some (zs_i s 64 j v) := wr_i zd_64 zn_64 (by decide) hx h
theorem zn_65 : zk_n 65 = 232 := rfl
theorem rd_65 (s : zS) {x : Int32} (j : Nat) (hx : x = nI j) (h : j < 232) : zr_i s 65 x = some (s.1 65 j) := rd_i zd_65 zn_65 (by decide) hx h
theorem wr_65 (s : zS) {x v : Int32} (j : Nat) (hx : x = nI j) (h : j < 232) : zw_i s 65 x v = some (zs_i s 65 j v) := wr_i zd_65 zn_65 (by decide) hx h
theorem zn_66 : zk_n 66 = 49 := rfl
theorem rd_66 (s : zS) {x : Int32} (j : Nat) (hx : x = nI j) (h : j < 49) : zr_i s 66 x = some (s.1 66 j) := rd_i zd_66 zn_66 (by decide) hx h
theorem wr_66 (s : zS) {x v : Int32} (j : Nat) (hx : x = nI j) (h : j < 49) : zw_i s 66 x v = some (zs_i s 66 j v) := wr_i zd_66 zn_66 (by decide) hx h
theorem zn_67 : zk_n 67 = 128 := rfl
theorem rd_67 (s : zS) {x : Int32} (j : Nat) (hx : x = nI j) (h : j < 128) : zr_i s 67 x = some (s.1 67 j) := rd_i zd_67 zn_67 (by decide) hx h
theorem wr_67 (s : zS) {x v : Int32} (j : Nat) (hx : x = nI j) (h : j < 128) : zw_i s 67 x v = some (zs_i s 67 j v) := wr_i zd_67 zn_67 (by decide) hx h
theorem zn_68 : zk_n 68 = 3 := rfl
theorem zn_69 : zk_n 69 = 4 := rfl
theorem rd_69 (s : zS) {x : Int32} (j : Nat) (hx : x = nI j) (h : j < 4) : zr_i s 69 x = some (s.1 69 j) := rd_i zd_69 zn_69 (by decide) hx h
theorem wr_69 (s : zS) {x v : Int32} (j : Nat) (hx : x = nI j) (h : j < 4) : zw_i s 69 x v = some (zs_i s 69 j v) := wr_i zd_69 zn_69 (by decide) hx h
theorem zn_70 : zk_n 70 = 4 := rfl
theorem rd_70 (s : zS) {x : Int32} (j : Nat) (hx : x = nI j) (h : j < 4) : zr_i s 70 x = some (s.1 70 j) := rd_i zd_70 zn_70 (by decide) hx h
theorem wr_70 (s : zS) {x v : Int32} (j : Nat) (hx : x = nI j) (h : j < 4) : zw_i s 70 x v = some (zs_i s 70 j v) := wr_i zd_70 zn_70 (by decide) hx h
theorem zn_71 : zk_n 71 = 160 := rfl
theorem rd_71 (s : zS) {x : Int32} (j : Nat) (hx : x = nI j) (h : j < 160) : zr_l s 71 x = some (s.2 71 j) := rd_l zd_71 zn_71 (by decide) hx h
theorem wr_71 (s : zS) {x : Int32} {v : Int64} (j : Nat) (hx : x = nI j) (h : j < 160) : zw_l s 71 x v = some (zs_l s 71 j v) := wr_l zd_71 zn_71 (by decide) hx h
theorem zn_72 : zk_n 72 = 6 := rfl
theorem zn_73 : zk_n 73 = 4 := rfl
theorem zn_74 : zk_n 74 = 210 := rfl
theorem rd_74 (s : zS) {x : Int32} (j : Nat) (hx : x = nI j) (h : j < 210) : zr_i s 74 x = some (s.1 74 j) := rd_i zd_74 zn_74 (by decide) hx h
theorem wr_74 (s : zS) {x v : Int32} (j : Nat) (hx : x = nI j) (h : j < 210) : zw_i s 74 x v = some (zs_i s 74 j v) := wr_i zd_74 zn_74 (by decide) hx h
theorem zn_75 : zk_n 75 = 21 := rfl
theorem rd_75 (s : zS) {x : Int32} (j : Nat) (hx : x = nI j) (h : j < 21) : zr_i s 75 x = some (s.1 75 j) := rd_i zd_75 zn_75 (by decide) hx h
theorem wr_75 (s : zS) {x v : Int32} (j : Nat) (hx : x = nI j) (h : j < 21) : zw_i s 75 x v = some (zs_i s 75 j v) := wr_i zd_75 zn_75 (by decide) hx h
theorem zn_76 : zk_n 76 = 41 := rfl
theorem zn_77 : zk_n 77 = 3465 := rfl
theorem rd_77 (s : zS) {x : Int32} (j : Nat) (hx : x = nI j) (h : j < 3465) : zr_i s 77 x = some (s.1 77 j) := rd_i zd_77 zn_77 (by decide) hx h
theorem wr_77 (s : zS) {x v : Int32} (j : Nat) (hx : x = nI j) (h : j < 3465) : zw_i s 77 x v = some (zs_i s 77 j v) := wr_i zd_77 zn_77 (by decide) hx h
theorem zn_78 : zk_n 78 = 2 := rfl
theorem rd_78 (s : zS) {x : Int32} (j : Nat) (hx : x = nI j) (h : j < 2) : zr_b s 78 x = some (s.1 78 j) := rd_b (Or.inr zd_78) zn_78 (by decide) hx h
theorem wr_78 (s : zS) {x v : Int32} (j : Nat) (hx : x = nI j) (h : j < 2) : zw_b s 78 x v = some (zs_i s 78 j (vp_nar .boolean v)) := wr_b2 zd_78 zn_78 (by decide) hx h
theorem zn_79 : zk_n 79 = 900 := rfl
theorem rd_79 (s : zS) {x : Int32} (j : Nat) (hx : x = nI j) (h : j < 900) : zr_i s 79 x = some (s.1 79 j) := rd_i zd_79 zn_79 (by decide) hx h
theorem wr_79 (s : zS) {x v : Int32} (j : Nat) (hx : x = nI j) (h : j < 900) : zw_i s 79 x v = some (zs_i s 79 j v) := wr_i zd_79 zn_79 (by decide) hx h
theorem zn_80 : zk_n 80 = 1155 := rfl
theorem rd_80 (s : zS) {x : Int32} (j : Nat) (hx : x = nI j) (h : j < 1155) : zr_i s 80 x = some (s.1 80 j) := rd_i zd_80 zn_80 (by decide) hx h
theorem wr_80 (s : zS) {x v : Int32} (j : Nat) (hx : x = nI j) (h : j < 1155) : zw_i s 80 x v = some (zs_i s 80 j v) := wr_i zd_80 zn_80 (by decide) hx h
theorem zn_81 : zk_n 81 = 4 := rfl
theorem rd_81 (s : zS) {x : Int32} (j : Nat) (hx : x = nI j) (h : j < 4) : zr_i s 81 x = some (s.1 81 j) := rd_i zd_81 zn_81 (by decide) hx h
theorem wr_81 (s : zS) {x v : Int32} (j : Nat) (hx : x = nI j) (h : j < 4) : zw_i s 81 x v = some (zs_i s 81 j v) := wr_i zd_81 zn_81 (by decide) hx h
theorem zn_82 : zk_n 82 = 4 := rfl
theorem rd_82 (s : zS) {x : Int32} (j : Nat) (hx : x = nI j) (h : j < 4) : zr_i s 82 x = some (s.1 82 j) := rd_i zd_82 zn_82 (by decide) hx h
theorem wr_82 (s : zS) {x v : Int32} (j : Nat) (hx : x = nI j) (h : j < 4) : zw_i s 82 x v = some (zs_i s 82 j v) := wr_i zd_82 zn_82 (by decide) hx h
theorem zn_83 : zk_n 83 = 36 := rfl
theorem rd_83 (s : zS) {x : Int32} (j : Nat) (hx : x = nI j) (h : j < 36) : zr_i s 83 x = some (s.1 83 j) := rd_i zd_83 zn_83 (by decide) hx h
theorem wr_83 (s : zS) {x v : Int32} (j : Nat) (hx : x = nI j) (h : j < 36) : zw_i s 83 x v = some (zs_i s 83 j v) := wr_i zd_83 zn_83 (by decide) hx h
theorem zn_84 : zk_n 84 = 4 := rfl
theorem rd_84 (s : zS) {x : Int32} (j : Nat) (hx : x = nI j) (h : j < 4) : zr_i s 84 x = some (s.1 84 j) := rd_i zd_84 zn_84 (by decide) hx h
theorem wr_84 (s : zS) {x v : Int32} (j : Nat) (hx : x = nI j) (h : j < 4) : zw_i s 84 x v = some (zs_i s 84 j v) := wr_i zd_84 zn_84 (by decide) hx h
theorem zn_85 : zk_n 85 = 900 := rfl
theorem rd_85 (s : zS) {x : Int32} (j : Nat) (hx : x = nI j) (h : j < 900) : zr_i s 85 x = some (s.1 85 j) := rd_i zd_85 zn_85 (by decide) hx h
theorem wr_85 (s : zS) {x v : Int32} (j : Nat) (hx : x = nI j) (h : j < 900) : zw_i s 85 x v = some (zs_i s 85 j v) := wr_i zd_85 zn_85 (by decide) hx h
theorem zn_86 : zk_n 86 = 7 := rfl
theorem rd_86 (s : zS) {x : Int32} (j : Nat) (hx : x = nI j) (h : j < 7) : zr_i s 86 x = some (s.1 86 j) := rd_i zd_86 zn_86 (by decide) hx h
theorem wr_86 (s : zS) {x v : Int32} (j : Nat) (hx : x = nI j) (h : j < 7) : zw_i s 86 x v = some (zs_i s 86 j v) := wr_i zd_86 zn_86 (by decide) hx h
theorem zn_87 : zk_n 87 = 49 := rfl
theorem rd_87 (s : zS) {x : Int32} (j : Nat) (hx : x = nI j) (h : j < 49) : zr_i s 87 x = some (s.1 87 j) := rd_i zd_87 zn_87 (by decide) hx h
theorem wr_87 (s : zS) {x v : Int32} (j : Nat) (hx : x = nI j) (h : j < 49) : zw_i s 87 x v = some (zs_i s 87 j v) := wr_i zd_87 zn_87 (by decide) hx h
theorem zn_88 : zk_n 88 = 49 := rfl
theorem rd_88 (s : zS) {x : Int32} (j : Nat) (hx : x = nI j) (h : j < 49) : zr_i s 88 x = some (s.1 88 j) := rd_i zd_88 zn_88 (by decide) hx h
theorem wr_88 (s : zS) {x v : Int32} (j : Nat) (hx : x = nI j) (h : j < 49) : zw_i s 88 x v = some (zs_i s 88 j v) := wr_i zd_88 zn_88 (by decide) hx h
theorem zn_89 : zk_n 89 = 49 := rfl
theorem rd_89 (s : zS) {x : Int32} (j : Nat) (hx : x = nI j) (h : j < 49) : zr_b s 89 x = some (s.1 89 j) := rd_b (Or.inr zd_89) zn_89 (by decide) hx h
theorem wr_89 (s : zS) {x v : Int32} (j : Nat) (hx : x = nI j) (h : j < 49) : zw_b s 89 x v = some (zs_i s 89 j (vp_nar .boolean v)) := wr_b2 zd_89 zn_89 (by decide) hx h
theorem zn_90 : zk_n 90 = 21 := rfl
theorem rd_90 (s : zS) {x : Int32} (j : Nat) (hx : x = nI j) (h : j < 21) : zr_i s 90 x = some (s.1 90 j) := rd_i zd_90 zn_90 (by decide) hx h
theorem wr_90 (s : zS) {x v : Int32} (j : Nat) (hx : x = nI j) (h : j < 21) : zw_i s 90 x v = some (zs_i s 90 j v) := wr_i zd_90 zn_90 (by decide) hx h
theorem zn_91 : zk_n 91 = 7 := rfl
theorem rd_91 (s : zS) {x : Int32} (j : Nat) (hx : x = nI j) (h : j < 7) : zr_i s 91 x = some (s.1 91 j) := rd_i zd_91 zn_91 (by decide) hx h
theorem wr_91 (s : zS) {x v : Int32} (j : Nat) (hx : x = nI j) (h : j < 7) : zw_i s 91 x v = some (zs_i s 91 j v) := wr_i zd_91 zn_91 (by decide) hx h
theorem zn_92 : zk_n 92 = 1624 := rfl
theorem rd_92 (s : zS) {x : Int32} (j : Nat) (hx : x = nI j) (h : j < 1624) : zr_i s 92 x = some (s.1 92 j) := rd_i zd_92 zn_92 (by decide) hx h
theorem wr_92 (s : zS) {x v : Int32} (j : Nat) (hx : x = nI j) (h : j < 1624) : zw_i s 92 x v = some (zs_i s 92 j v) := wr_i zd_92 zn_92 (by decide) hx h
theorem zn_93 : zk_n 93 = 128 := rfl
theorem rd_93 (s : zS) {x : Int32} (j : Nat) (hx : x = nI j) (h : j < 128) : zr_i s 93 x = some (s.1 93 j) := rd_i zd_93 zn_93 (by decide) hx h
theorem wr_93 (s : zS) {x v : Int32} (j : Nat) (hx : x = nI j) (h : j < 128) : zw_i s 93 x v = some (zs_i s 93 j v) := wr_i zd_93 zn_93 (by decide) hx h
theorem zn_94 : zk_n 94 = 128 := rfl
theorem rd_94 (s : zS) {x : Int32} (j : Nat) (hx : x = nI j) (h : j < 128) : zr_b s 94 x = some (s.1 94 j) := rd_b (Or.inr zd_94) zn_94 (by decide) hx h
theorem wr_94 (s : zS) {x v : Int32} (j : Nat) (hx : x = nI j) (h : j < 128) : zw_b s 94 x v = some (zs_i s 94 j (vp_nar .boolean v)) := wr_b2 zd_94 zn_94 (by decide) hx h
theorem zn_95 : zk_n 95 = 128 := rfl
theorem rd_95 (s : zS) {x : Int32} (j : Nat) (hx : x = nI j) (h : j < 128) : zr_i s 95 x = some (s.1 95 j) := rd_i zd_95 zn_95 (by decide) hx h
theorem wr_95 (s : zS) {x v : Int32} (j : Nat) (hx : x = nI j) (h : j < 128) : zw_i s 95 x v = some (zs_i s 95 j v) := wr_i zd_95 zn_95 (by decide) hx h
theorem zn_96 : zk_n 96 = 7 := rfl
theorem rd_96 (s : zS) {x : Int32} (j : Nat) (hx : x = nI j) (h : j < 7) : zr_i s 96 x = some (s.1 96 j) := rd_i zd_96 zn_96 (by decide) hx h
theorem wr_96 (s : zS) {x v : Int32} (j : Nat) (hx : x = nI j) (h : j < 7) : zw_i s 96 x v = some (zs_i s 96 j v) := wr_i zd_96 zn_96 (by decide) hx h
theorem zn_97 : zk_n 97 = 4 := rfl
theorem rd_97 (s : zS) {x : Int32} (j : Nat) (hx : x = nI j) (h : j < 4) : zr_i s 97 x = some (s.1 97 j) := rd_i zd_97 zn_97 (by decide) hx h
theorem wr_97 (s : zS) {x v : Int32} (j : Nat) (hx : x = nI j) (h : j < 4) : zw_i s 97 x v = some (zs_i s 97 j v) := wr_i zd_97 zn_97 (by decide) hx h
theorem zn_98 : zk_n 98 = 4 := rfl
theorem rd_98 (s : zS) {x : Int32} (j : Nat) (hx : x = nI j) (h : j < 4) : zr_i s 98 x = some (s.1 98 j) := rd_i zd_98 zn_98 (by decide) hx h
theorem wr_98 (s : zS) {x v : Int32} (j : Nat) (hx : x = nI j) (h : j < 4) : zw_i s 98 x v = some (zs_i s 98 j v) := wr_i zd_98 zn_98 (by decide) hx h
theorem zn_99 : zk_n 99 = 160 := rfl
theorem rd_99 (s : zS) {x : Int32} (j : Nat) (hx : x = nI j) (h : j < 160) : zr_l s 99 x = some (s.2 99 j) := rd_l zd_99 zn_99 (by decide) hx h
theorem wr_99 (s : zS) {x : Int32} {v : Int64} (j : Nat) (hx : x = nI j) (h : j < 160) : zw_l s 99 x v = some (zs_l s 99 j v) := wr_l zd_99 zn_99 (by decide) hx h
theorem lt_c {a : Nat} {c : Int32} (b : Nat) (hc : c = nI b) (h : a < b) (hb : b < 2 ^ 31) : nI a < c := by subst hc; exact nI_lt h hb
theorem nlt_c {a : Nat} {c : Int32} (b : Nat) (hc : c = nI b) (h : b ≤ a) (ha : a < 2 ^ 31) : ¬ nI a < c := by subst hc; exact nI_nlt h ha
theorem le_c {a : Nat} {c : Int32} (b : Nat) (hc : c = nI b) (h : a ≤ b) (hb : b < 2 ^ 31) : nI a ≤ c := by subst hc; exact nI_le h hb
theorem nle_c {a : Nat} {c : Int32} (b : Nat) (hc : c = nI b) (h : b < a) (ha : a < 2 ^ 31) : ¬ nI a ≤ c := by subst hc; exact nI_ge h ha
theorem c_le {a : Nat} {c : Int32} (b : Nat) (hc : c = nI b) (h : b ≤ a) (ha : a < 2 ^ 31) : c ≤ nI a := by subst hc; exact nI_le h ha
theorem nc_le {a : Nat} {c : Int32} (b : Nat) (hc : c = nI b) (h : a < b) (hb : b < 2 ^ 31) : ¬ c ≤ nI a := by subst hc; exact nI_ge h hb
theorem c_lt {a : Nat} {c : Int32} (b : Nat) (hc : c = nI b) (h : b < a) (ha : a < 2 ^ 31) : c < nI a := by subst hc; exact nI_lt h ha
theorem nc_lt {a : Nat} {c : Int32} (b : Nat) (hc : c = nI b) (h : a ≤ b) (hb : b < 2 ^ 31) : ¬ c < nI a := by subst hc; exact nI_nlt h hb
theorem ne_c {a : Nat} {c : Int32} (b : Nat) (hc : c = nI b) (h : a ≠ b) (ha : a < 2 ^ 31) (hb : b < 2 ^ 31) : ¬ nI a = c := by subst hc; exact fun z => h ((nI_eq ha hb).mp z)
theorem ne_m1 {a : Nat} (ha : a < 2 ^ 31) : ¬ nI a = -1 := fun z => by
  have h := nI_pos' ha
  rw [z] at h
  exact absurd h (by decide)
theorem wi_ok (v lo hi : Int64) (s : zS) : f_X8_within v lo hi s = some (if lo ≤ v ∧ v ≤ hi then 1 else 0, s) := by
  unfold f_X8_within f_X8_within_17 f_X8_within_18
  have h1 : (lg_cmp v lo < 0) ↔ ¬ lo ≤ v := by
    rw [← lg_cmp_ge v lo]
    exact Int32.not_le.symm
  have h2 : (0 < lg_cmp v hi) ↔ ¬ v ≤ hi := by
    unfold lg_cmp
    by_cases a : v > hi
    · rw [if_pos a]
      exact ⟨fun _ => Int64.not_le.mpr a, fun _ => by decide⟩
    · rw [if_neg a]
      have b : v ≤ hi := Int64.not_lt.mp a
      constructor
      · intro z
        split at z
        · exact absurd z (by decide)
        · exact absurd z (by decide)
      · intro z; exact absurd b z
  by_cases a : lo ≤ v
  · rw [if_neg (by rw [h1]; exact fun z => z a)]
    by_cases b : v ≤ hi
    · rw [if_neg (by rw [h2]; exact fun z => z b)]
      simp [a, b]
    · rw [if_pos (h2.mpr b)]
      simp [b]
  · rw [if_pos (h1.mpr a)]
    simp [a]
theorem l_le {x : Int32} {y : Int64} {n : Int} (hy : y.toInt = n) : (x.toInt64 ≤ y) ↔ x.toInt ≤ n := by
  rw [Int64.le_iff_toInt_le, hy, Int32.toInt_toInt64]
theorem l_ge {x : Int32} {y : Int64} {n : Int} (hy : y.toInt = n) : (y ≤ x.toInt64) ↔ n ≤ x.toInt := by
  rw [Int64.le_iff_toInt_le, hy, Int32.toInt_toInt64]
