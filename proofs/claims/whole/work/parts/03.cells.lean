/-- the words of the tables that a callee takes along -/
def zw_T : List Cond := lw_tbl.filter goodWord
theorem zw_in {w : Cond} (i : Nat) (h : lw_tbl[i]? = some w) (hg : goodWord w = true) : w ∈ zw_T := List.mem_filter.mpr ⟨List.mem_of_getElem? h, hg⟩
theorem zw_good {c w : Cond} (h : w ∈ zw_T) : w ∈ (c :: zw_T) ∧ ((w.onTables && w.keeps) = true ∨ ∃ ty, w = .arrayClass ty) := ⟨List.mem_cons_of_mem _ h, good_of_word (List.mem_filter.mp h).2⟩
abbrev zs_cls : List vw_C := [(RX0, TX0, 14), (RX1, TX1, 6), (RX2, TX2, 4), (RX3, TX3, 7), (RX4, TX4, 19), (RX5, TX5, 15), (RX6, TX6, 3), (RX7, TX7, 12), (RX8, TX8, 41)]
/-- the state: what the cells hold: ints, longs -/
abbrev zS : Type := (Nat → Nat → Int32) × (Nat → Nat → Int64)
def zs_i (s : zS) (k j : Nat) (v : Int32) : zS := (fun q => if q = k then upd (s.1 k) j v else s.1 q, s.2)
def zs_l (s : zS) (k j : Nat) (v : Int64) : zS := (s.1, fun q => if q = k then vp_updL (s.2 k) j v else s.2 q)
/-- kind and length of each cell; 0 int[], 1 byte[], 2 boolean[], 3 long[], 4 + c an object of the c-th of zs_cls -/
def zk_tab : List (Nat × Nat) := [(11, 12), (1, 900), (2, 2), (9, 15), (0, 7), (0, 7), (0, 7), (0, 7), (0, 7), (0, 900), (0, 7), (0, 7), (9, 15), (0, 7), (0, 7), (0, 7), (0, 7), (0, 7), (0, 900), (0, 7), (0, 7), (9, 15), (0, 7), (0, 7), (0, 7), (0, 7), (0, 7), (0, 900), (0, 7), (0, 7), (7, 7), (9, 15), (0, 7), (0, 7), (0, 7), (0, 7), (0, 7), (0, 900), (0, 7), (0, 7), (0, 901), (0, 901), (8, 19), (0, 1225), (0, 49), (0, 49), (0, 25), (0, 128), (0, 128), (0, 512), (2, 128), (0, 128), (0, 128), (0, 49), (0, 49), (0, 4), (0, 4), (0, 144), (0, 32), (0, 7), (4, 14), (0, 7), (0, 49), (0, 7), (0, 7), (0, 232), (0, 49), (0, 128), (10, 3), (0, 4), (0, 4), (3, 160), (5, 6), (6, 4), (0, 210), (0, 21), (12, 41), (0, 3465), (2, 2), (0, 900), (0, 1155), (0, 4), (0, 4), (0, 36), (0, 4), (0, 900), (0, 7), (0, 49), (0, 49), (2, 49), (0, 21), (0, 7), (0, 1624), (0, 128), (2, 128), (0, 128), (0, 7), (0, 4), (0, 4), (3, 160)]
def zk_d (k : Nat) : Nat := (zk_tab.getD k (99, 0)).1
def zk_n (k : Nat) : Nat := (zk_tab.getD k (99, 0)).2
/-- where the fields that are references point, 0 for no reference -/
def zk_l (k : Nat) : List Nat := match k with
  | 0 => [1, 0, 3, 30, 42, 60, 72, 73, 68, 12, 21, 2]
  | 3 => [0, 0, 4, 5, 6, 7, 8, 9, 0, 0, 0, 0, 0, 10, 11]
  | 12 => [0, 0, 13, 14, 15, 16, 17, 18, 0, 0, 0, 0, 0, 19, 20]
  | 21 => [0, 0, 22, 23, 24, 25, 26, 27, 0, 0, 0, 0, 0, 28, 29]
  | 30 => [31, 0, 0, 40, 41, 0, 0]
  | 31 => [0, 0, 32, 33, 34, 35, 36, 37, 0, 0, 0, 0, 0, 38, 39]
  | 42 => [3, 43, 44, 45, 46, 47, 48, 49, 50, 51, 52, 53, 54, 55, 0, 56, 57, 58, 59]
  | 60 => [3, 42, 61, 62, 0, 63, 64, 65, 0, 0, 0, 66, 0, 67]
  | 68 => [69, 70, 71]
  | 72 => [3, 60, 68, 0, 0, 0]
  | 73 => [3, 74, 75, 0]
  | 76 => [0, 77, 78, 79, 80, 0, 0, 0, 0, 0, 0, 0, 0, 0, 0, 0, 81, 82, 83, 84, 0, 0, 85, 86, 87, 88, 89, 90, 0, 0, 91, 92, 0, 0, 93, 94, 95, 96, 97, 98, 99]
  | _ => []
def zk_r (k j : Nat) : Nat := (zk_l k).getD j 0
theorem zd_0 : zk_d 0 = 11 := rfl
theorem zd_1 : zk_d 1 = 1 := rfl
theorem zd_2 : zk_d 2 = 2 := rfl
theorem zd_3 : zk_d 3 = 9 := rfl
theorem zd_4 : zk_d 4 = 0 := rfl
theorem zd_5 : zk_d 5 = 0 := rfl
theorem zd_6 : zk_d 6 = 0 := rfl
theorem zd_7 : zk_d 7 = 0 := rfl
theorem zd_8 : zk_d 8 = 0 := rfl
theorem zd_9 : zk_d 9 = 0 := rfl
theorem zd_10 : zk_d 10 = 0 := rfl
theorem zd_11 : zk_d 11 = 0 := rfl
theorem zd_12 : zk_d 12 = 9 := rfl
theorem zd_13 : zk_d 13 = 0 := rfl
theorem zd_14 : zk_d 14 = 0 := rfl
theorem zd_15 : zk_d 15 = 0 := rfl
theorem zd_16 : zk_d 16 = 0 := rfl
theorem zd_17 : zk_d 17 = 0 := rfl
theorem zd_18 : zk_d 18 = 0 := rfl
theorem zd_19 : zk_d 19 = 0 := rfl
theorem zd_20 : zk_d 20 = 0 := rfl
theorem zd_21 : zk_d 21 = 9 := rfl
theorem zd_22 : zk_d 22 = 0 := rfl
theorem zd_23 : zk_d 23 = 0 := rfl
theorem zd_24 : zk_d 24 = 0 := rfl
theorem zd_25 : zk_d 25 = 0 := rfl
theorem zd_26 : zk_d 26 = 0 := rfl
theorem zd_27 : zk_d 27 = 0 := rfl
theorem zd_28 : zk_d 28 = 0 := rfl
theorem zd_29 : zk_d 29 = 0 := rfl
theorem zd_30 : zk_d 30 = 7 := rfl
theorem zd_31 : zk_d 31 = 9 := rfl
theorem zd_32 : zk_d 32 = 0 := rfl
theorem zd_33 : zk_d 33 = 0 := rfl
theorem zd_34 : zk_d 34 = 0 := rfl
theorem zd_35 : zk_d 35 = 0 := rfl
theorem zd_36 : zk_d 36 = 0 := rfl
theorem zd_37 : zk_d 37 = 0 := rfl
theorem zd_38 : zk_d 38 = 0 := rfl
theorem zd_39 : zk_d 39 = 0 := rfl
theorem zd_40 : zk_d 40 = 0 := rfl
theorem zd_41 : zk_d 41 = 0 := rfl
theorem zd_42 : zk_d 42 = 8 := rfl
theorem zd_43 : zk_d 43 = 0 := rfl
theorem zd_44 : zk_d 44 = 0 := rfl
theorem zd_45 : zk_d 45 = 0 := rfl
theorem zd_46 : zk_d 46 = 0 := rfl
theorem zd_47 : zk_d 47 = 0 := rfl
theorem zd_48 : zk_d 48 = 0 := rfl
theorem zd_49 : zk_d 49 = 0 := rfl
theorem zd_50 : zk_d 50 = 2 := rfl
theorem zd_51 : zk_d 51 = 0 := rfl
theorem zd_52 : zk_d 52 = 0 := rfl
theorem zd_53 : zk_d 53 = 0 := rfl
theorem zd_54 : zk_d 54 = 0 := rfl
theorem zd_55 : zk_d 55 = 0 := rfl
theorem zd_56 : zk_d 56 = 0 := rfl
theorem zd_57 : zk_d 57 = 0 := rfl
theorem zd_58 : zk_d 58 = 0 := rfl
theorem zd_59 : zk_d 59 = 0 := rfl
theorem zd_60 : zk_d 60 = 4 := rfl
theorem zd_61 : zk_d 61 = 0 := rfl
theorem zd_62 : zk_d 62 = 0 := rfl
theorem zd_63 : zk_d 63 = 0 := rfl
theorem zd_64 : zk_d 64 = 0 := rfl
theorem zd_65 : zk_d 65 = 0 := rfl
theorem zd_66 : zk_d 66 = 0 := rfl
theorem zd_67 : zk_d 67 = 0 := rfl
theorem zd_68 : zk_d 68 = 10 := rfl
theorem zd_69 : zk_d 69 = 0 := rfl
theorem zd_70 : zk_d 70 = 0 := rfl
theorem zd_71 : zk_d 71 = 3 := rfl
theorem zd_72 : zk_d 72 = 5 := rfl
theorem zd_73 : zk_d 73 = 6 := rfl
theorem zd_74 : zk_d 74 = 0 := rfl
theorem zd_75 : zk_d 75 = 0 := rfl
theorem zd_76 : zk_d 76 = 12 := rfl
theorem zd_77 : zk_d 77 = 0 := rfl
theorem zd_78 : zk_d 78 = 2 := rfl
theorem zd_79 : zk_d 79 = 0 := rfl
theorem zd_80 : zk_d 80 = 0 := rfl
theorem zd_81 : zk_d 81 = 0 := rfl
theorem zd_82 : zk_d 82 = 0 := rfl
theorem zd_83 : zk_d 83 = 0 := rfl
theorem zd_84 : zk_d 84 = 0 := rfl
theorem zd_85 : zk_d 85 = 0 := rfl
theorem zd_86 : zk_d 86 = 0 := rfl
theorem zd_87 : zk_d 87 = 0 := rfl
theorem zd_88 : zk_d 88 = 0 := rfl
theorem zd_89 : zk_d 89 = 2 := rfl
theorem zd_90 : zk_d 90 = 0 := rfl
theorem zd_91 : zk_d 91 = 0 := rfl
theorem zd_92 : zk_d 92 = 0 := rfl
theorem zd_93 : zk_d 93 = 0 := rfl
theorem zd_94 : zk_d 94 = 2 := rfl
theorem zd_95 : zk_d 95 = 0 := rfl
theorem zd_96 : zk_d 96 = 0 := rfl
theorem zd_97 : zk_d 97 = 0 := rfl
theorem zd_98 : zk_d 98 = 0 := rfl
theorem zd_99 : zk_d 99 = 3 := rfl
theorem zr_0_0 : zk_r 0 0 = 1 := rfl
theorem zr_0_1 : zk_r 0 1 = 0 := rfl
theorem zr_0_2 : zk_r 0 2 = 3 := rfl
theorem zr_0_3 : zk_r 0 3 = 30 := rfl
theorem zr_0_4 : zk_r 0 4 = 42 := rfl
theorem zr_0_5 : zk_r 0 5 = 60 := rfl
theorem zr_0_6 : zk_r 0 6 = 72 := rfl
theorem zr_0_7 : zk_r 0 7 = 73 := rfl
theorem zr_0_8 : zk_r 0 8 = 68 := rfl
theorem zr_0_9 : zk_r 0 9 = 12 := rfl
theorem zr_0_10 : zk_r 0 10 = 21 := rfl
theorem zr_0_11 : zk_r 0 11 = 2 := rfl
theorem zr_3_0 : zk_r 3 0 = 0 := rfl
theorem zr_3_1 : zk_r 3 1 = 0 := rfl
theorem zr_3_2 : zk_r 3 2 = 4 := rfl
theorem zr_3_3 : zk_r 3 3 = 5 := rfl
theorem zr_3_4 : zk_r 3 4 = 6 := rfl
theorem zr_3_5 : zk_r 3 5 = 7 := rfl
theorem zr_3_6 : zk_r 3 6 = 8 := rfl
theorem zr_3_7 : zk_r 3 7 = 9 := rfl
theorem zr_3_8 : zk_r 3 8 = 0 := rfl
theorem zr_3_9 : zk_r 3 9 = 0 := rfl
theorem zr_3_10 : zk_r 3 10 = 0 := rfl
theorem zr_3_11 : zk_r 3 11 = 0 := rfl
theorem zr_3_12 : zk_r 3 12 = 0 := rfl
theorem zr_3_13 : zk_r 3 13 = 10 := rfl
theorem zr_3_14 : zk_r 3 14 = 11 := rfl
theorem zr_12_0 : zk_r 12 0 = 0 := rfl
theorem zr_12_1 : zk_r 12 1 = 0 := rfl
theorem zr_12_2 : zk_r 12 2 = 13 := rfl
theorem zr_12_3 : zk_r 12 3 = 14 := rfl
theorem zr_12_4 : zk_r 12 4 = 15 := rfl
theorem zr_12_5 : zk_r 12 5 = 16 := rfl
theorem zr_12_6 : zk_r 12 6 = 17 := rfl
theorem zr_12_7 : zk_r 12 7 = 18 := rfl
theorem zr_12_8 : zk_r 12 8 = 0 := rfl
theorem zr_12_9 : zk_r 12 9 = 0 := rfl
theorem zr_12_10 : zk_r 12 10 = 0 := rfl
theorem zr_12_11 : zk_r 12 11 = 0 := rfl
theorem zr_12_12 : zk_r 12 12 = 0 := rfl
theorem zr_12_13 : zk_r 12 13 = 19 := rfl
theorem zr_12_14 : zk_r 12 14 = 20 := rfl
theorem zr_21_0 : zk_r 21 0 = 0 := rfl
theorem zr_21_1 : zk_r 21 1 = 0 := rfl
theorem zr_21_2 : zk_r 21 2 = 22 := rfl
theorem zr_21_3 : zk_r 21 3 = 23 := rfl
theorem zr_21_4 : zk_r 21 4 = 24 := rfl
theorem zr_21_5 : zk_r 21 5 = 25 := rfl
theorem zr_21_6 : zk_r 21 6 = 26 := rfl
theorem zr_21_7 : zk_r 21 7 = 27 := rfl
theorem zr_21_8 : zk_r 21 8 = 0 := rfl
theorem zr_21_9 : zk_r 21 9 = 0 := rfl
theorem zr_21_10 : zk_r 21 10 = 0 := rfl
theorem zr_21_11 : zk_r 21 11 = 0 := rfl
theorem zr_21_12 : zk_r 21 12 = 0 := rfl
theorem zr_21_13 : zk_r 21 13 = 28 := rfl
theorem zr_21_14 : zk_r 21 14 = 29 := rfl
theorem zr_30_0 : zk_r 30 0 = 31 := rfl
theorem zr_30_1 : zk_r 30 1 = 0 := rfl
theorem zr_30_2 : zk_r 30 2 = 0 := rfl
theorem zr_30_3 : zk_r 30 3 = 40 := rfl
theorem zr_30_4 : zk_r 30 4 = 41 := rfl
theorem zr_30_5 : zk_r 30 5 = 0 := rfl
theorem zr_30_6 : zk_r 30 6 = 0 := rfl
theorem zr_31_0 : zk_r 31 0 = 0 := rfl
theorem zr_31_1 : zk_r 31 1 = 0 := rfl
theorem zr_31_2 : zk_r 31 2 = 32 := rfl
theorem zr_31_3 : zk_r 31 3 = 33 := rfl
theorem zr_31_4 : zk_r 31 4 = 34 := rfl
theorem zr_31_5 : zk_r 31 5 = 35 := rfl
theorem zr_31_6 : zk_r 31 6 = 36 := rfl
theorem zr_31_7 : zk_r 31 7 = 37 := rfl
theorem zr_31_8 : zk_r 31 8 = 0 := rfl
theorem zr_31_9 : zk_r 31 9 = 0 := rfl
theorem zr_31_10 : zk_r 31 10 = 0 := rfl
theorem zr_31_11 : zk_r 31 11 = 0 := rfl
theorem zr_31_12 : zk_r 31 12 = 0 := rfl
theorem zr_31_13 : zk_r 31 13 = 38 := rfl
theorem zr_31_14 : zk_r 31 14 = 39 := rfl
theorem zr_42_0 : zk_r 42 0 = 3 := rfl
theorem zr_42_1 : zk_r 42 1 = 43 := rfl
theorem zr_42_2 : zk_r 42 2 = 44 := rfl
theorem zr_42_3 : zk_r 42 3 = 45 := rfl
theorem zr_42_4 : zk_r 42 4 = 46 := rfl
theorem zr_42_5 : zk_r 42 5 = 47 := rfl
theorem zr_42_6 : zk_r 42 6 = 48 := rfl
theorem zr_42_7 : zk_r 42 7 = 49 := rfl
theorem zr_42_8 : zk_r 42 8 = 50 := rfl
theorem zr_42_9 : zk_r 42 9 = 51 := rfl
theorem zr_42_10 : zk_r 42 10 = 52 := rfl
theorem zr_42_11 : zk_r 42 11 = 53 := rfl
theorem zr_42_12 : zk_r 42 12 = 54 := rfl
theorem zr_42_13 : zk_r 42 13 = 55 := rfl
theorem zr_42_14 : zk_r 42 14 = 0 := rfl
theorem zr_42_15 : zk_r 42 15 = 56 := rfl
theorem zr_42_16 : zk_r 42 16 = 57 := rfl
theorem zr_42_17 : zk_r 42 17 = 58 := rfl
theorem zr_42_18 : zk_r 42 18 = 59 := rfl
theorem zr_60_0 : zk_r 60 0 = 3 := rfl
theorem zr_60_1 : zk_r 60 1 = 42 := rfl
theorem zr_60_2 : zk_r 60 2 = 61 := rfl
theorem zr_60_3 : zk_r 60 3 = 62 := rfl
theorem zr_60_4 : zk_r 60 4 = 0 := rfl
theorem zr_60_5 : zk_r 60 5 = 63 := rfl
theorem zr_60_6 : zk_r 60 6 = 64 := rfl
theorem zr_60_7 : zk_r 60 7 = 65 := rfl
theorem zr_60_8 : zk_r 60 8 = 0 := rfl
theorem zr_60_9 : zk_r 60 9 = 0 := rfl
theorem zr_60_10 : zk_r 60 10 = 0 := rfl
theorem zr_60_11 : zk_r 60 11 = 66 := rfl
theorem zr_60_12 : zk_r 60 12 = 0 := rfl
theorem zr_60_13 : zk_r 60 13 = 67 := rfl
theorem zr_68_0 : zk_r 68 0 = 69 := rfl
theorem zr_68_1 : zk_r 68 1 = 70 := rfl
theorem zr_68_2 : zk_r 68 2 = 71 := rfl
theorem zr_72_0 : zk_r 72 0 = 3 := rfl
theorem zr_72_1 : zk_r 72 1 = 60 := rfl
theorem zr_72_2 : zk_r 72 2 = 68 := rfl
theorem zr_72_3 : zk_r 72 3 = 0 := rfl
theorem zr_72_4 : zk_r 72 4 = 0 := rfl
theorem zr_72_5 : zk_r 72 5 = 0 := rfl
theorem zr_73_0 : zk_r 73 0 = 3 := rfl
theorem zr_73_1 : zk_r 73 1 = 74 := rfl
theorem zr_73_2 : zk_r 73 2 = 75 := rfl
theorem zr_73_3 : zk_r 73 3 = 0 := rfl
theorem zr_76_0 : zk_r 76 0 = 0 := rfl
theorem zr_76_1 : zk_r 76 1 = 77 := rfl
theorem zr_76_2 : zk_r 76 2 = 78 := rfl
theorem zr_76_3 : zk_r 76 3 = 79 := rfl
theorem zr_76_4 : zk_r 76 4 = 80 := rfl
theorem zr_76_5 : zk_r 76 5 = 0 := rfl
theorem zr_76_6 : zk_r 76 6 = 0 := rfl
theorem zr_76_7 : zk_r 76 7 = 0 := rfl
theorem zr_76_8 : zk_r 76 8 = 0 := rfl
theorem zr_76_9 : zk_r 76 9 = 0 := rfl
theorem zr_76_10 : zk_r 76 10 = 0 := rfl
theorem zr_76_11 : zk_r 76 11 = 0 := rfl
theorem zr_76_12 : zk_r 76 12 = 0 := rfl
theorem zr_76_13 : zk_r 76 13 = 0 := rfl
theorem zr_76_14 : zk_r 76 14 = 0 := rfl
theorem zr_76_15 : zk_r 76 15 = 0 := rfl
theorem zr_76_16 : zk_r 76 16 = 81 := rfl
theorem zr_76_17 : zk_r 76 17 = 82 := rfl
theorem zr_76_18 : zk_r 76 18 = 83 := rfl
theorem zr_76_19 : zk_r 76 19 = 84 := rfl
theorem zr_76_20 : zk_r 76 20 = 0 := rfl
theorem zr_76_21 : zk_r 76 21 = 0 := rfl
theorem zr_76_22 : zk_r 76 22 = 85 := rfl
theorem zr_76_23 : zk_r 76 23 = 86 := rfl
theorem zr_76_24 : zk_r 76 24 = 87 := rfl
theorem zr_76_25 : zk_r 76 25 = 88 := rfl
theorem zr_76_26 : zk_r 76 26 = 89 := rfl
theorem zr_76_27 : zk_r 76 27 = 90 := rfl
theorem zr_76_28 : zk_r 76 28 = 0 := rfl
theorem zr_76_29 : zk_r 76 29 = 0 := rfl
theorem zr_76_30 : zk_r 76 30 = 91 := rfl
theorem zr_76_31 : zk_r 76 31 = 92 := rfl
theorem zr_76_32 : zk_r 76 32 = 0 := rfl
theorem zr_76_33 : zk_r 76 33 = 0 := rfl
theorem zr_76_34 : zk_r 76 34 = 93 := rfl
theorem zr_76_35 : zk_r 76 35 = 94 := rfl
theorem zr_76_36 : zk_r 76 36 = 95 := rfl
theorem zr_76_37 : zk_r 76 37 = 96 := rfl
theorem zr_76_38 : zk_r 76 38 = 97 := rfl
theorem zr_76_39 : zk_r 76 39 = 98 := rfl
theorem zr_76_40 : zk_r 76 40 = 99 := rfl
def zk_f (ad : Nat → Nat) (s : zS) (k j : Nat) : Value := if zk_r k j = 0 then .int (s.1 k j) else .ref (ad (zk_r k j))
def zk_e (cy : Nat → ClassId) (ad : Nat → Nat) (s : zS) (k : Nat) : va_E := if zk_d k = 3 then .inl (cy 3, zk_n k, .inr (.inl (s.2 k))) else if zk_d k < 3 then .inl (cy (zk_d k), zk_n k, .inl (s.1 k)) else .inr (zk_d k - 4, (List.range (zk_n k)).map (zk_f ad s k))
def zk_w (cy : Nat → ClassId) (ad : Nat → Nat) (s : zS) : va_W := (List.range 100).map fun k => (ad k, zk_e cy ad s k)
theorem zk_get (cy : Nat → ClassId) (ad : Nat → Nat) (s : zS) {k : Nat} (h : k < 100) : (zk_w cy ad s)[k]? = some (ad k, zk_e cy ad s k) := by
  simp [zk_w, List.getElem?_map, List.getElem?_range h]
theorem zk_set (cy : Nat → ClassId) (ad : Nat → Nat) (s s' : zS) {k : Nat} (h : k < 100) (h1 : ∀ q, q ≠ k → s'.1 q = s.1 q) (h2 : ∀ q, q ≠ k → s'.2 q = s.2 q) {x : va_E} (hx : x = zk_e cy ad s' k) : (zk_w cy ad s).set k (ad k, x) = zk_w cy ad s' := by
  subst hx
  apply List.ext_getElem?
  intro i
  by_cases hi : i = k
  · subst hi
    rw [zk_get cy ad s' h, List.getElem?_set_self (by simp [zk_w]; exact h)]
  · rw [List.getElem?_set_ne (Ne.symm hi)]
    by_cases hl : i < 100
    · rw [zk_get cy ad s hl, zk_get cy ad s' hl]
      have e : zk_e cy ad s' i = zk_e cy ad s i := by
        unfold zk_e
        have ef : zk_f ad s' i = zk_f ad s i := by
          funext j
          unfold zk_f
          rw [h1 i hi]
        rw [h1 i hi, h2 i hi, ef]
      rw [e]
    · have a1 : (zk_w cy ad s)[i]? = none := by simp [zk_w]; omega
      have a2 : (zk_w cy ad s')[i]? = none := by simp [zk_w]; omega
      rw [a1, a2]
theorem zk_lt {k n : Nat} (h : zk_d k = n) (hn : n < 99) : k < 100 := by
  rcases Nat.lt_or_ge k 100 with q | q
  · exact q
  · exfalso
    have : zk_d k = 99 := by
      unfold zk_d
      rw [List.getD_eq_getElem?_getD, List.getElem?_eq_none (show zk_tab.length ≤ k from q)]
      rfl
    omega
theorem zk_eI (cy : Nat → ClassId) (ad : Nat → Nat) (s : zS) {k t : Nat} (h : zk_d k = t) (ht : t < 3) : zk_e cy ad s k = .inl (cy t, zk_n k, .inl (s.1 k)) := by
  unfold zk_e
  rw [h, if_neg (by omega), if_pos ht]
theorem zk_eL (cy : Nat → ClassId) (ad : Nat → Nat) (s : zS) {k : Nat} (h : zk_d k = 3) : zk_e cy ad s k = .inl (cy 3, zk_n k, .inr (.inl (s.2 k))) := by
  unfold zk_e
  rw [if_pos h]
theorem zk_eO (cy : Nat → ClassId) (ad : Nat → Nat) (s : zS) {k c : Nat} (h : zk_d k = 4 + c) : zk_e cy ad s k = .inr (c, (List.range (zk_n k)).map (zk_f ad s k)) := by
  unfold zk_e
  rw [h, if_neg (by omega), if_neg (by omega), show 4 + c - 4 = c by omega]
theorem zs_i_ne (s : zS) (k j : Nat) (v : Int32) : (∀ q, q ≠ k → (zs_i s k j v).1 q = s.1 q) ∧ (∀ q, q ≠ k → (zs_i s k j v).2 q = s.2 q) := ⟨fun q h => by simp [zs_i, h], fun q _ => rfl⟩
theorem zs_l_ne (s : zS) (k j : Nat) (v : Int64) : (∀ q, q ≠ k → (zs_l s k j v).1 q = s.1 q) ∧ (∀ q, q ≠ k → (zs_l s k j v).2 q = s.2 q) := ⟨fun q _ => rfl, fun q h => by simp [zs_l, h]⟩
/-- what the tables say of a field: own's entry n is field j of the c-th class -/
def zf_l (own : String) (n c j : Nat) : Prop := ∃ (C : String) (T : u_T) (N : Nat), zs_cls[c]? = some (C, T, N) ∧ j < N ∧ Cond.fieldLink own n (T j).1 (T j).2.1 (T j).2.2.1 ∈ zw_T
def zf_k (c j : Nat) (fin : Bool) (ty : FieldType) : Prop := ∃ (C : String) (T : u_T) (N : Nat), zs_cls[c]? = some (C, T, N) ∧ (T j).2.2.2 = fin ∧ parseFieldDescriptor (T j).2.2.1 = some ty
def zf_c (c : Nat) : Prop := ∃ (C : String) (T : u_T) (N : Nat), zs_cls[c]? = some (C, T, N) ∧ (∀ w ∈ u_ws C T N, w ∈ zw_T) ∧ (∃ ty0 : Nat → FieldType, ∀ k, k < N → parseFieldDescriptor (T k).2.2.1 = some (ty0 k)) ∧ (∀ a, a < N → ∀ b, b < N → a ≠ b → (T a).2.1 ≠ (T b).2.1)
/-- what the tables say of a method: of an object of the c-th class, or static -/
def zc_b (y : MethodName) (bb : ByteArray) (mB : Nat) (ret : Option FieldType) (n : Nat) : Prop := Cond.initialized y.cls ∈ zw_T ∧ Cond.code y bb mB ret ∈ zw_T ∧ (y.cls ≠ "java/lang/invoke/MethodHandle" ∧ y.cls ≠ "java/lang/invoke/VarHandle") ∧ (parseMethodDescriptor y.desc).map (fun d => d.parameters.length) = some n
def zc_v (y : MethodName) (bb : ByteArray) (mB : Nat) (ret : Option FieldType) (n c : Nat) : Prop := zc_b y bb mB ret n ∧ Cond.instanceMethod y ∈ zw_T ∧ Cond.selects y.cls y y ∈ zw_T ∧ ∃ (T : u_T) (N : Nat), zs_cls[c]? = some (y.cls, T, N)
def zc_s (y : MethodName) (bb : ByteArray) (mB : Nat) (ret : Option FieldType) (n : Nat) : Prop := zc_b y bb mB ret n ∧ Cond.static y ∈ zw_T
theorem zw_t1 {w : Cond} (i : Nat) (h : tables_1_1[i]? = some w) (hg : goodWord w = true) : w ∈ zw_T := List.mem_filter.mpr ⟨List.mem_append_right _ (List.mem_append_left _ (List.mem_of_getElem? h)), hg⟩
theorem zw_t2 {w : Cond} (i : Nat) (h : tables_1_2[i]? = some w) (hg : goodWord w = true) : w ∈ zw_T := List.mem_filter.mpr ⟨List.mem_append_right _ (List.mem_append_right _ (List.mem_append_left _ (List.mem_of_getElem? h))), hg⟩
theorem zw_t3 {w : Cond} (i : Nat) (h : tables_1_3[i]? = some w) (hg : goodWord w = true) : w ∈ zw_T := List.mem_filter.mpr ⟨List.mem_append_right _ (List.mem_append_right _ (List.mem_append_right _ (List.mem_append_left _ (List.mem_of_getElem? h)))), hg⟩
theorem zw_t4 {w : Cond} (i : Nat) (h : tables_1_4[i]? = some w) (hg : goodWord w = true) : w ∈ zw_T := List.mem_filter.mpr ⟨List.mem_append_right _ (List.mem_append_right _ (List.mem_append_right _ (List.mem_append_right _ (List.mem_append_left _ (List.mem_of_getElem? h))))), hg⟩
theorem zw_t5 {w : Cond} (i : Nat) (h : tables_1_5[i]? = some w) (hg : goodWord w = true) : w ∈ zw_T := List.mem_filter.mpr ⟨List.mem_append_right _ (List.mem_append_right _ (List.mem_append_right _ (List.mem_append_right _ (List.mem_append_right _ (List.mem_append_left _ (List.mem_of_getElem? h)))))), hg⟩
theorem zw_t6 {w : Cond} (i : Nat) (h : tables_1_6[i]? = some w) (hg : goodWord w = true) : w ∈ zw_T := List.mem_filter.mpr ⟨List.mem_append_right _ (List.mem_append_right _ (List.mem_append_right _ (List.mem_append_right _ (List.mem_append_right _ (List.mem_append_right _ (List.mem_append_left _ (List.mem_of_getElem? h))))))), hg⟩
theorem zw_t7 {w : Cond} (i : Nat) (h : tables_1_7[i]? = some w) (hg : goodWord w = true) : w ∈ zw_T := List.mem_filter.mpr ⟨List.mem_append_right _ (List.mem_append_right _ (List.mem_append_right _ (List.mem_append_right _ (List.mem_append_right _ (List.mem_append_right _ (List.mem_append_right _ (List.mem_append_left _ (List.mem_of_getElem? h)))))))), hg⟩
theorem zw_t8 {w : Cond} (i : Nat) (h : tables_1_8[i]? = some w) (hg : goodWord w = true) : w ∈ zw_T := List.mem_filter.mpr ⟨List.mem_append_right _ (List.mem_append_right _ (List.mem_append_right _ (List.mem_append_right _ (List.mem_append_right _ (List.mem_append_right _ (List.mem_append_right _ (List.mem_append_right _ (List.mem_of_getElem? h)))))))), hg⟩
theorem zw_tp {w : Cond} (i : Nat) (h : (k2_sels lw_privs)[i]? = some w) (hg : goodWord w = true) : w ∈ zw_T := List.mem_filter.mpr ⟨List.mem_append_left _ (List.mem_of_getElem? h), hg⟩
theorem zs_i_at (s : zS) (k j : Nat) (v : Int32) : (zs_i s k j v).1 k = upd (s.1 k) j v := by simp [zs_i]
theorem zs_l_at (s : zS) (k j : Nat) (v : Int64) : (zs_l s k j v).2 k = vp_updL (s.2 k) j v := by simp [zs_l]

