/-- the state at the start -/
def zs_0 : zS := (fun k => match k with
  | 8 => (fun j => if j < 7 then (-1) else (fun _ => 0) j)
  | 10 => (fun j => if j < 7 then (1) else (fun _ => 0) j)
  | 17 => (fun j => if j < 7 then (-1) else (fun _ => 0) j)
  | 19 => (fun j => if j < 7 then (1) else (fun _ => 0) j)
  | 26 => (fun j => if j < 7 then (-1) else (fun _ => 0) j)
  | 28 => (fun j => if j < 7 then (1) else (fun _ => 0) j)
  | 30 => fun j => if j = 2 then (-1) else 0
  | 36 => (fun j => if j < 7 then (-1) else (fun _ => 0) j)
  | 38 => (fun j => if j < 7 then (1) else (fun _ => 0) j)
  | 69 => (upd (upd (upd (upd (fun _ => 0) 0 (-1)) 1 (-1)) 2 (-1)) 3 (-1))
  | 76 => fun j => if j = 14 then (-1) else 0
  | 77 => zi_all
  | 97 => (upd (upd (upd (upd (fun _ => 0) 0 (-1)) 1 (-1)) 2 (-1)) 3 (-1))
  | _ => fun _ => 0, fun _ _ => 0)
theorem ze_0 (cy : Nat → ClassId) (ad : Nat → Nat) : (ad 0, zk_e cy ad zs_0 0) = (ad 0, .inr (7, [.ref (ad 1), .int 0, .ref (ad 3), .ref (ad 30), .ref (ad 42), .ref (ad 60), .ref (ad 72), .ref (ad 73), .ref (ad 68), .ref (ad 12), .ref (ad 21), .ref (ad 2)])) := rfl
theorem ze_1 (cy : Nat → ClassId) (ad : Nat → Nat) : (ad 1, zk_e cy ad zs_0 1) = (ad 1, .inl (cy 1, 900, .inl (fun _ => 0))) := rfl
theorem ze_2 (cy : Nat → ClassId) (ad : Nat → Nat) : (ad 2, zk_e cy ad zs_0 2) = (ad 2, .inl (cy 2, 2, .inl (fun _ => 0))) := rfl
theorem ze_3 (cy : Nat → ClassId) (ad : Nat → Nat) : (ad 3, zk_e cy ad zs_0 3) = (ad 3, .inr (5, [.int 0, .int 0, .ref (ad 4), .ref (ad 5), .ref (ad 6), .ref (ad 7), .ref (ad 8), .ref (ad 9), .int 0, .int 0, .int 0, .int 0, .int 0, .ref (ad 10), .ref (ad 11)])) := rfl
theorem ze_4 (cy : Nat → ClassId) (ad : Nat → Nat) : (ad 4, zk_e cy ad zs_0 4) = (ad 4, .inl (cy 0, 7, .inl (fun _ => 0))) := rfl
theorem ze_5 (cy : Nat → ClassId) (ad : Nat → Nat) : (ad 5, zk_e cy ad zs_0 5) = (ad 5, .inl (cy 0, 7, .inl (fun _ => 0))) := rfl
theorem ze_6 (cy : Nat → ClassId) (ad : Nat → Nat) : (ad 6, zk_e cy ad zs_0 6) = (ad 6, .inl (cy 0, 7, .inl (fun _ => 0))) := rfl
theorem ze_7 (cy : Nat → ClassId) (ad : Nat → Nat) : (ad 7, zk_e cy ad zs_0 7) = (ad 7, .inl (cy 0, 7, .inl (fun _ => 0))) := rfl
theorem ze_8 (cy : Nat → ClassId) (ad : Nat → Nat) : (ad 8, zk_e cy ad zs_0 8) = (ad 8, .inl (cy 0, 7, .inl (fun j => if j < 7 then (-1) else (fun _ => 0) j))) := rfl
theorem ze_9 (cy : Nat → ClassId) (ad : Nat → Nat) : (ad 9, zk_e cy ad zs_0 9) = (ad 9, .inl (cy 0, 900, .inl (fun _ => 0))) := rfl
theorem ze_10 (cy : Nat → ClassId) (ad : Nat → Nat) : (ad 10, zk_e cy ad zs_0 10) = (ad 10, .inl (cy 0, 7, .inl (fun j => if j < 7 then (1) else (fun _ => 0) j))) := rfl
theorem ze_11 (cy : Nat → ClassId) (ad : Nat → Nat) : (ad 11, zk_e cy ad zs_0 11) = (ad 11, .inl (cy 0, 7, .inl (fun _ => 0))) := rfl
theorem ze_12 (cy : Nat → ClassId) (ad : Nat → Nat) : (ad 12, zk_e cy ad zs_0 12) = (ad 12, .inr (5, [.int 0, .int 0, .ref (ad 13), .ref (ad 14), .ref (ad 15), .ref (ad 16), .ref (ad 17), .ref (ad 18), .int 0, .int 0, .int 0, .int 0, .int 0, .ref (ad 19), .ref (ad 20)])) := rfl
theorem ze_13 (cy : Nat → ClassId) (ad : Nat → Nat) : (ad 13, zk_e cy ad zs_0 13) = (ad 13, .inl (cy 0, 7, .inl (fun _ => 0))) := rfl
theorem ze_14 (cy : Nat → ClassId) (ad : Nat → Nat) : (ad 14, zk_e cy ad zs_0 14) = (ad 14, .inl (cy 0, 7, .inl (fun _ => 0))) := rfl
theorem ze_15 (cy : Nat → ClassId) (ad : Nat → Nat) : (ad 15, zk_e cy ad zs_0 15) = (ad 15, .inl (cy 0, 7, .inl (fun _ => 0))) := rfl
theorem ze_16 (cy : Nat → ClassId) (ad : Nat → Nat) : (ad 16, zk_e cy ad zs_0 16) = (ad 16, .inl (cy 0, 7, .inl (fun _ => 0))) := rfl
theorem ze_17 (cy : Nat → ClassId) (ad : Nat → Nat) : (ad 17, zk_e cy ad zs_0 17) = (ad 17, .inl (cy 0, 7, .inl (fun j => if j < 7 then (-1) else (fun _ => 0) j))) := rfl
theorem ze_18 (cy : Nat → ClassId) (ad : Nat → Nat) : (ad 18, zk_e cy ad zs_0 18) = (ad 18, .inl (cy 0, 900, .inl (fun _ => 0))) := rfl
theorem ze_19 (cy : Nat → ClassId) (ad : Nat → Nat) : (ad 19, zk_e cy ad zs_0 19) = (ad 19, .inl (cy 0, 7, .inl (fun j => if j < 7 then (1) else (fun _ => 0) j))) := rfl
theorem ze_20 (cy : Nat → ClassId) (ad : Nat → Nat) : (ad 20, zk_e cy ad zs_0 20) = (ad 20, .inl (cy 0, 7, .inl (fun _ => 0))) := rfl
theorem ze_21 (cy : Nat → ClassId) (ad : Nat → Nat) : (ad 21, zk_e cy ad zs_0 21) = (ad 21, .inr (5, [.int 0, .int 0, .ref (ad 22), .ref (ad 23), .ref (ad 24), .ref (ad 25), .ref (ad 26), .ref (ad 27), .int 0, .int 0, .int 0, .int 0, .int 0, .ref (ad 28), .ref (ad 29)])) := rfl
theorem ze_22 (cy : Nat → ClassId) (ad : Nat → Nat) : (ad 22, zk_e cy ad zs_0 22) = (ad 22, .inl (cy 0, 7, .inl (fun _ => 0))) := rfl
theorem ze_23 (cy : Nat → ClassId) (ad : Nat → Nat) : (ad 23, zk_e cy ad zs_0 23) = (ad 23, .inl (cy 0, 7, .inl (fun _ => 0))) := rfl
theorem ze_24 (cy : Nat → ClassId) (ad : Nat → Nat) : (ad 24, zk_e cy ad zs_0 24) = (ad 24, .inl (cy 0, 7, .inl (fun _ => 0))) := rfl
theorem ze_25 (cy : Nat → ClassId) (ad : Nat → Nat) : (ad 25, zk_e cy ad zs_0 25) = (ad 25, .inl (cy 0, 7, .inl (fun _ => 0))) := rfl
theorem ze_26 (cy : Nat → ClassId) (ad : Nat → Nat) : (ad 26, zk_e cy ad zs_0 26) = (ad 26, .inl (cy 0, 7, .inl (fun j => if j < 7 then (-1) else (fun _ => 0) j))) := rfl
theorem ze_27 (cy : Nat → ClassId) (ad : Nat → Nat) : (ad 27, zk_e cy ad zs_0 27) = (ad 27, .inl (cy 0, 900, .inl (fun _ => 0))) := rfl
theorem ze_28 (cy : Nat → ClassId) (ad : Nat → Nat) : (ad 28, zk_e cy ad zs_0 28) = (ad 28, .inl (cy 0, 7, .inl (fun j => if j < 7 then (1) else (fun _ => 0) j))) := rfl
theorem ze_29 (cy : Nat → ClassId) (ad : Nat → Nat) : (ad 29, zk_e cy ad zs_0 29) = (ad 29, .inl (cy 0, 7, .inl (fun _ => 0))) := rfl
theorem ze_30 (cy : Nat → ClassId) (ad : Nat → Nat) : (ad 30, zk_e cy ad zs_0 30) = (ad 30, .inr (3, [.ref (ad 31), .int 0, .int (-1), .ref (ad 40), .ref (ad 41), .int 0, .int 0])) := rfl
theorem ze_31 (cy : Nat → ClassId) (ad : Nat → Nat) : (ad 31, zk_e cy ad zs_0 31) = (ad 31, .inr (5, [.int 0, .int 0, .ref (ad 32), .ref (ad 33), .ref (ad 34), .ref (ad 35), .ref (ad 36), .ref (ad 37), .int 0, .int 0, .int 0, .int 0, .int 0, .ref (ad 38), .ref (ad 39)])) := rfl
theorem ze_32 (cy : Nat → ClassId) (ad : Nat → Nat) : (ad 32, zk_e cy ad zs_0 32) = (ad 32, .inl (cy 0, 7, .inl (fun _ => 0))) := rfl
theorem ze_33 (cy : Nat → ClassId) (ad : Nat → Nat) : (ad 33, zk_e cy ad zs_0 33) = (ad 33, .inl (cy 0, 7, .inl (fun _ => 0))) := rfl
theorem ze_34 (cy : Nat → ClassId) (ad : Nat → Nat) : (ad 34, zk_e cy ad zs_0 34) = (ad 34, .inl (cy 0, 7, .inl (fun _ => 0))) := rfl
theorem ze_35 (cy : Nat → ClassId) (ad : Nat → Nat) : (ad 35, zk_e cy ad zs_0 35) = (ad 35, .inl (cy 0, 7, .inl (fun _ => 0))) := rfl
theorem ze_36 (cy : Nat → ClassId) (ad : Nat → Nat) : (ad 36, zk_e cy ad zs_0 36) = (ad 36, .inl (cy 0, 7, .inl (fun j => if j < 7 then (-1) else (fun _ => 0) j))) := rfl
theorem ze_37 (cy : Nat → ClassId) (ad : Nat → Nat) : (ad 37, zk_e cy ad zs_0 37) = (ad 37, .inl (cy 0, 900, .inl (fun _ => 0))) := rfl
theorem ze_38 (cy : Nat → ClassId) (ad : Nat → Nat) : (ad 38, zk_e cy ad zs_0 38) = (ad 38, .inl (cy 0, 7, .inl (fun j => if j < 7 then (1) else (fun _ => 0) j))) := rfl
theorem ze_39 (cy : Nat → ClassId) (ad : Nat → Nat) : (ad 39, zk_e cy ad zs_0 39) = (ad 39, .inl (cy 0, 7, .inl (fun _ => 0))) := rfl
theorem ze_40 (cy : Nat → ClassId) (ad : Nat → Nat) : (ad 40, zk_e cy ad zs_0 40) = (ad 40, .inl (cy 0, 901, .inl (fun _ => 0))) := rfl
theorem ze_41 (cy : Nat → ClassId) (ad : Nat → Nat) : (ad 41, zk_e cy ad zs_0 41) = (ad 41, .inl (cy 0, 901, .inl (fun _ => 0))) := rfl
theorem ze_42 (cy : Nat → ClassId) (ad : Nat → Nat) : (ad 42, zk_e cy ad zs_0 42) = (ad 42, .inr (4, [.ref (ad 3), .ref (ad 43), .ref (ad 44), .ref (ad 45), .ref (ad 46), .ref (ad 47), .ref (ad 48), .ref (ad 49), .ref (ad 50), .ref (ad 51), .ref (ad 52), .ref (ad 53), .ref (ad 54), .ref (ad 55), .int 0, .ref (ad 56), .ref (ad 57), .ref (ad 58), .ref (ad 59)])) := rfl
theorem ze_43 (cy : Nat → ClassId) (ad : Nat → Nat) : (ad 43, zk_e cy ad zs_0 43) = (ad 43, .inl (cy 0, 1225, .inl (fun _ => 0))) := rfl
theorem ze_44 (cy : Nat → ClassId) (ad : Nat → Nat) : (ad 44, zk_e cy ad zs_0 44) = (ad 44, .inl (cy 0, 49, .inl (fun _ => 0))) := rfl
theorem ze_45 (cy : Nat → ClassId) (ad : Nat → Nat) : (ad 45, zk_e cy ad zs_0 45) = (ad 45, .inl (cy 0, 49, .inl (fun _ => 0))) := rfl
theorem ze_46 (cy : Nat → ClassId) (ad : Nat → Nat) : (ad 46, zk_e cy ad zs_0 46) = (ad 46, .inl (cy 0, 25, .inl (fun _ => 0))) := rfl
theorem ze_47 (cy : Nat → ClassId) (ad : Nat → Nat) : (ad 47, zk_e cy ad zs_0 47) = (ad 47, .inl (cy 0, 128, .inl (fun _ => 0))) := rfl
theorem ze_48 (cy : Nat → ClassId) (ad : Nat → Nat) : (ad 48, zk_e cy ad zs_0 48) = (ad 48, .inl (cy 0, 128, .inl (fun _ => 0))) := rfl
theorem ze_49 (cy : Nat → ClassId) (ad : Nat → Nat) : (ad 49, zk_e cy ad zs_0 49) = (ad 49, .inl (cy 0, 512, .inl (fun _ => 0))) := rfl
theorem ze_50 (cy : Nat → ClassId) (ad : Nat → Nat) : (ad 50, zk_e cy ad zs_0 50) = (ad 50, .inl (cy 2, 128, .inl (fun _ => 0))) := rfl
theorem ze_51 (cy : Nat → ClassId) (ad : Nat → Nat) : (ad 51, zk_e cy ad zs_0 51) = (ad 51, .inl (cy 0, 128, .inl (fun _ => 0))) := rfl
theorem ze_52 (cy : Nat → ClassId) (ad : Nat → Nat) : (ad 52, zk_e cy ad zs_0 52) = (ad 52, .inl (cy 0, 128, .inl (fun _ => 0))) := rfl
theorem ze_53 (cy : Nat → ClassId) (ad : Nat → Nat) : (ad 53, zk_e cy ad zs_0 53) = (ad 53, .inl (cy 0, 49, .inl (fun _ => 0))) := rfl
theorem ze_54 (cy : Nat → ClassId) (ad : Nat → Nat) : (ad 54, zk_e cy ad zs_0 54) = (ad 54, .inl (cy 0, 49, .inl (fun _ => 0))) := rfl
theorem ze_55 (cy : Nat → ClassId) (ad : Nat → Nat) : (ad 55, zk_e cy ad zs_0 55) = (ad 55, .inl (cy 0, 4, .inl (fun _ => 0))) := rfl
theorem ze_56 (cy : Nat → ClassId) (ad : Nat → Nat) : (ad 56, zk_e cy ad zs_0 56) = (ad 56, .inl (cy 0, 4, .inl (fun _ => 0))) := rfl
theorem ze_57 (cy : Nat → ClassId) (ad : Nat → Nat) : (ad 57, zk_e cy ad zs_0 57) = (ad 57, .inl (cy 0, 144, .inl (fun _ => 0))) := rfl
theorem ze_58 (cy : Nat → ClassId) (ad : Nat → Nat) : (ad 58, zk_e cy ad zs_0 58) = (ad 58, .inl (cy 0, 32, .inl (fun _ => 0))) := rfl
theorem ze_59 (cy : Nat → ClassId) (ad : Nat → Nat) : (ad 59, zk_e cy ad zs_0 59) = (ad 59, .inl (cy 0, 7, .inl (fun _ => 0))) := rfl
theorem ze_60 (cy : Nat → ClassId) (ad : Nat → Nat) : (ad 60, zk_e cy ad zs_0 60) = (ad 60, .inr (0, [.ref (ad 3), .ref (ad 42), .ref (ad 61), .ref (ad 62), .int 0, .ref (ad 63), .ref (ad 64), .ref (ad 65), .int 0, .int 0, .int 0, .ref (ad 66), .int 0, .ref (ad 67)])) := rfl
theorem ze_61 (cy : Nat → ClassId) (ad : Nat → Nat) : (ad 61, zk_e cy ad zs_0 61) = (ad 61, .inl (cy 0, 7, .inl (fun _ => 0))) := rfl
theorem ze_62 (cy : Nat → ClassId) (ad : Nat → Nat) : (ad 62, zk_e cy ad zs_0 62) = (ad 62, .inl (cy 0, 49, .inl (fun _ => 0))) := rfl
theorem ze_63 (cy : Nat → ClassId) (ad : Nat → Nat) : (ad 63, zk_e cy ad zs_0 63) = (ad 63, .inl (cy 0, 7, .inl (fun _ => 0))) := rfl
theorem ze_64 (cy : Nat → ClassId) (ad : Nat → Nat) : (ad 64, zk_e cy ad zs_0 64) = (ad 64, .inl (cy 0, 7, .inl (fun _ => 0))) := rfl
theorem ze_65 (cy : Nat → ClassId) (ad : Nat → Nat) : (ad 65, zk_e cy ad zs_0 65) = (ad 65, .inl (cy 0, 232, .inl (fun _ => 0))) := rfl
theorem ze_66 (cy : Nat → ClassId) (ad : Nat → Nat) : (ad 66, zk_e cy ad zs_0 66) = (ad 66, .inl (cy 0, 49, .inl (fun _ => 0))) := rfl
theorem ze_67 (cy : Nat → ClassId) (ad : Nat → Nat) : (ad 67, zk_e cy ad zs_0 67) = (ad 67, .inl (cy 0, 128, .inl (fun _ => 0))) := rfl
theorem ze_68 (cy : Nat → ClassId) (ad : Nat → Nat) : (ad 68, zk_e cy ad zs_0 68) = (ad 68, .inr (6, [.ref (ad 69), .ref (ad 70), .ref (ad 71)])) := rfl
theorem ze_69 (cy : Nat → ClassId) (ad : Nat → Nat) : (ad 69, zk_e cy ad zs_0 69) = (ad 69, .inl (cy 0, 4, .inl (upd (upd (upd (upd (fun _ => 0) 0 (-1)) 1 (-1)) 2 (-1)) 3 (-1)))) := rfl
theorem ze_70 (cy : Nat → ClassId) (ad : Nat → Nat) : (ad 70, zk_e cy ad zs_0 70) = (ad 70, .inl (cy 0, 4, .inl (fun _ => 0))) := rfl
theorem ze_71 (cy : Nat → ClassId) (ad : Nat → Nat) : (ad 71, zk_e cy ad zs_0 71) = (ad 71, .inl (cy 3, 160, .inr (.inl (fun _ => 0)))) := rfl
theorem ze_72 (cy : Nat → ClassId) (ad : Nat → Nat) : (ad 72, zk_e cy ad zs_0 72) = (ad 72, .inr (1, [.ref (ad 3), .ref (ad 60), .ref (ad 68), .int 0, .int 0, .int 0])) := rfl
theorem ze_73 (cy : Nat → ClassId) (ad : Nat → Nat) : (ad 73, zk_e cy ad zs_0 73) = (ad 73, .inr (2, [.ref (ad 3), .ref (ad 74), .ref (ad 75), .int 0])) := rfl
theorem ze_74 (cy : Nat → ClassId) (ad : Nat → Nat) : (ad 74, zk_e cy ad zs_0 74) = (ad 74, .inl (cy 0, 210, .inl (fun _ => 0))) := rfl
theorem ze_75 (cy : Nat → ClassId) (ad : Nat → Nat) : (ad 75, zk_e cy ad zs_0 75) = (ad 75, .inl (cy 0, 21, .inl (fun _ => 0))) := rfl
theorem ze_76 (cy : Nat → ClassId) (ad : Nat → Nat) : (ad 76, zk_e cy ad zs_0 76) = (ad 76, .inr (8, [.int 0, .ref (ad 77), .ref (ad 78), .ref (ad 79), .ref (ad 80), .int 0, .int 0, .int 0, .int 0, .int 0, .int 0, .int 0, .int 0, .int 0, .int (-1), .int 0, .ref (ad 81), .ref (ad 82), .ref (ad 83), .ref (ad 84), .int 0, .int 0, .ref (ad 85), .ref (ad 86), .ref (ad 87), .ref (ad 88), .ref (ad 89), .ref (ad 90), .int 0, .int 0, .ref (ad 91), .ref (ad 92), .int 0, .int 0, .ref (ad 93), .ref (ad 94), .ref (ad 95), .ref (ad 96), .ref (ad 97), .ref (ad 98), .ref (ad 99)])) := rfl
theorem ze_77 (cy : Nat → ClassId) (ad : Nat → Nat) : (ad 77, zk_e cy ad zs_0 77) = (ad 77, .inl (cy 0, 3465, .inl zi_all)) := rfl
theorem ze_78 (cy : Nat → ClassId) (ad : Nat → Nat) : (ad 78, zk_e cy ad zs_0 78) = (ad 78, .inl (cy 2, 2, .inl (fun _ => 0))) := rfl
theorem ze_79 (cy : Nat → ClassId) (ad : Nat → Nat) : (ad 79, zk_e cy ad zs_0 79) = (ad 79, .inl (cy 0, 900, .inl (fun _ => 0))) := rfl
theorem ze_80 (cy : Nat → ClassId) (ad : Nat → Nat) : (ad 80, zk_e cy ad zs_0 80) = (ad 80, .inl (cy 0, 1155, .inl (fun _ => 0))) := rfl
theorem ze_81 (cy : Nat → ClassId) (ad : Nat → Nat) : (ad 81, zk_e cy ad zs_0 81) = (ad 81, .inl (cy 0, 4, .inl (fun _ => 0))) := rfl
theorem ze_82 (cy : Nat → ClassId) (ad : Nat → Nat) : (ad 82, zk_e cy ad zs_0 82) = (ad 82, .inl (cy 0, 4, .inl (fun _ => 0))) := rfl
theorem ze_83 (cy : Nat → ClassId) (ad : Nat → Nat) : (ad 83, zk_e cy ad zs_0 83) = (ad 83, .inl (cy 0, 36, .inl (fun _ => 0))) := rfl
theorem ze_84 (cy : Nat → ClassId) (ad : Nat → Nat) : (ad 84, zk_e cy ad zs_0 84) = (ad 84, .inl (cy 0, 4, .inl (fun _ => 0))) := rfl
theorem ze_85 (cy : Nat → ClassId) (ad : Nat → Nat) : (ad 85, zk_e cy ad zs_0 85) = (ad 85, .inl (cy 0, 900, .inl (fun _ => 0))) := rfl
theorem ze_86 (cy : Nat → ClassId) (ad : Nat → Nat) : (ad 86, zk_e cy ad zs_0 86) = (ad 86, .inl (cy 0, 7, .inl (fun _ => 0))) := rfl
theorem ze_87 (cy : Nat → ClassId) (ad : Nat → Nat) : (ad 87, zk_e cy ad zs_0 87) = (ad 87, .inl (cy 0, 49, .inl (fun _ => 0))) := rfl
theorem ze_88 (cy : Nat → ClassId) (ad : Nat → Nat) : (ad 88, zk_e cy ad zs_0 88) = (ad 88, .inl (cy 0, 49, .inl (fun _ => 0))) := rfl
theorem ze_89 (cy : Nat → ClassId) (ad : Nat → Nat) : (ad 89, zk_e cy ad zs_0 89) = (ad 89, .inl (cy 2, 49, .inl (fun _ => 0))) := rfl
theorem ze_90 (cy : Nat → ClassId) (ad : Nat → Nat) : (ad 90, zk_e cy ad zs_0 90) = (ad 90, .inl (cy 0, 21, .inl (fun _ => 0))) := rfl
theorem ze_91 (cy : Nat → ClassId) (ad : Nat → Nat) : (ad 91, zk_e cy ad zs_0 91) = (ad 91, .inl (cy 0, 7, .inl (fun _ => 0))) := rfl
theorem ze_92 (cy : Nat → ClassId) (ad : Nat → Nat) : (ad 92, zk_e cy ad zs_0 92) = (ad 92, .inl (cy 0, 1624, .inl (fun _ => 0))) := rfl
theorem ze_93 (cy : Nat → ClassId) (ad : Nat → Nat) : (ad 93, zk_e cy ad zs_0 93) = (ad 93, .inl (cy 0, 128, .inl (fun _ => 0))) := rfl
theorem ze_94 (cy : Nat → ClassId) (ad : Nat → Nat) : (ad 94, zk_e cy ad zs_0 94) = (ad 94, .inl (cy 2, 128, .inl (fun _ => 0))) := rfl
theorem ze_95 (cy : Nat → ClassId) (ad : Nat → Nat) : (ad 95, zk_e cy ad zs_0 95) = (ad 95, .inl (cy 0, 128, .inl (fun _ => 0))) := rfl
theorem ze_96 (cy : Nat → ClassId) (ad : Nat → Nat) : (ad 96, zk_e cy ad zs_0 96) = (ad 96, .inl (cy 0, 7, .inl (fun _ => 0))) := rfl
theorem ze_97 (cy : Nat → ClassId) (ad : Nat → Nat) : (ad 97, zk_e cy ad zs_0 97) = (ad 97, .inl (cy 0, 4, .inl (upd (upd (upd (upd (fun _ => 0) 0 (-1)) 1 (-1)) 2 (-1)) 3 (-1)))) := rfl
theorem ze_98 (cy : Nat → ClassId) (ad : Nat → Nat) : (ad 98, zk_e cy ad zs_0 98) = (ad 98, .inl (cy 0, 4, .inl (fun _ => 0))) := rfl
theorem ze_99 (cy : Nat → ClassId) (ad : Nat → Nat) : (ad 99, zk_e cy ad zs_0 99) = (ad 99, .inl (cy 3, 160, .inr (.inl (fun _ => 0)))) := rfl
def zl_0 (cy : Nat → ClassId) (ad : Nat → Nat) : va_W := [(ad 0, .inr (7, [.ref (ad 1), .int 0, .ref (ad 3), .ref (ad 30), .ref (ad 42), .ref (ad 60), .ref (ad 72), .ref (ad 73), .ref (ad 68), .ref (ad 12), .ref (ad 21), .ref (ad 2)])), (ad 1, .inl (cy 1, 900, .inl (fun _ => 0))), (ad 2, .inl (cy 2, 2, .inl (fun _ => 0))), (ad 3, .inr (5, [.int 0, .int 0, .ref (ad 4), .ref (ad 5), .ref (ad 6), .ref (ad 7), .ref (ad 8), .ref (ad 9), .int 0, .int 0, .int 0, .int 0, .int 0, .ref (ad 10), .ref (ad 11)])), (ad 4, .inl (cy 0, 7, .inl (fun _ => 0))), (ad 5, .inl (cy 0, 7, .inl (fun _ => 0))), (ad 6, .inl (cy 0, 7, .inl (fun _ => 0))), (ad 7, .inl (cy 0, 7, .inl (fun _ => 0))), (ad 8, .inl (cy 0, 7, .inl (fun j => if j < 7 then (-1) else (fun _ => 0) j))), (ad 9, .inl (cy 0, 900, .inl (fun _ => 0))), (ad 10, .inl (cy 0, 7, .inl (fun j => if j < 7 then (1) else (fun _ => 0) j))), (ad 11, .inl (cy 0, 7, .inl (fun _ => 0))), (ad 12, .inr (5, [.int 0, .int 0, .ref (ad 13), .ref (ad 14), .ref (ad 15), .ref (ad 16), .ref (ad 17), .ref (ad 18), .int 0, .int 0, .int 0, .int 0, .int 0, .ref (ad 19), .ref (ad 20)])), (ad 13, .inl (cy 0, 7, .inl (fun _ => 0))), (ad 14, .inl (cy 0, 7, .inl (fun _ => 0))), (ad 15, .inl (cy 0, 7, .inl (fun _ => 0))), (ad 16, .inl (cy 0, 7, .inl (fun _ => 0))), (ad 17, .inl (cy 0, 7, .inl (fun j => if j < 7 then (-1) else (fun _ => 0) j))), (ad 18, .inl (cy 0, 900, .inl (fun _ => 0))), (ad 19, .inl (cy 0, 7, .inl (fun j => if j < 7 then (1) else (fun _ => 0) j))), (ad 20, .inl (cy 0, 7, .inl (fun _ => 0))), (ad 21, .inr (5, [.int 0, .int 0, .ref (ad 22), .ref (ad 23), .ref (ad 24), .ref (ad 25), .ref (ad 26), .ref (ad 27), .int 0, .int 0, .int 0, .int 0, .int 0, .ref (ad 28), .ref (ad 29)])), (ad 22, .inl (cy 0, 7, .inl (fun _ => 0))), (ad 23, .inl (cy 0, 7, .inl (fun _ => 0))), (ad 24, .inl (cy 0, 7, .inl (fun _ => 0))), (ad 25, .inl (cy 0, 7, .inl (fun _ => 0))), (ad 26, .inl (cy 0, 7, .inl (fun j => if j < 7 then (-1) else (fun _ => 0) j))), (ad 27, .inl (cy 0, 900, .inl (fun _ => 0))), (ad 28, .inl (cy 0, 7, .inl (fun j => if j < 7 then (1) else (fun _ => 0) j))), (ad 29, .inl (cy 0, 7, .inl (fun _ => 0))), (ad 30, .inr (3, [.ref (ad 31), .int 0, .int (-1), .ref (ad 40), .ref (ad 41), .int 0, .int 0])), (ad 31, .inr (5, [.int 0, .int 0, .ref (ad 32), .ref (ad 33), .ref (ad 34), .ref (ad 35), .ref (ad 36), .ref (ad 37), .int 0, .int 0, .int 0, .int 0, .int 0, .ref (ad 38), .ref (ad 39)])), (ad 32, .inl (cy 0, 7, .inl (fun _ => 0))), (ad 33, .inl (cy 0, 7, .inl (fun _ => 0))), (ad 34, .inl (cy 0, 7, .inl (fun _ => 0))), (ad 35, .inl (cy 0, 7, .inl (fun _ => 0))), (ad 36, .inl (cy 0, 7, .inl (fun j => if j < 7 then (-1) else (fun _ => 0) j))), (ad 37, .inl (cy 0, 900, .inl (fun _ => 0))), (ad 38, .inl (cy 0, 7, .inl (fun j => if j < 7 then (1) else (fun _ => 0) j))), (ad 39, .inl (cy 0, 7, .inl (fun _ => 0))), (ad 40, .inl (cy 0, 901, .inl (fun _ => 0))), (ad 41, .inl (cy 0, 901, .inl (fun _ => 0))), (ad 42, .inr (4, [.ref (ad 3), .ref (ad 43), .ref (ad 44), .ref (ad 45), .ref (ad 46), .ref (ad 47), .ref (ad 48), .ref (ad 49), .ref (ad 50), .ref (ad 51), .ref (ad 52), .ref (ad 53), .ref (ad 54), .ref (ad 55), .int 0, .ref (ad 56), .ref (ad 57), .ref (ad 58), .ref (ad 59)])), (ad 43, .inl (cy 0, 1225, .inl (fun _ => 0))), (ad 44, .inl (cy 0, 49, .inl (fun _ => 0))), (ad 45, .inl (cy 0, 49, .inl (fun _ => 0))), (ad 46, .inl (cy 0, 25, .inl (fun _ => 0))), (ad 47, .inl (cy 0, 128, .inl (fun _ => 0))), (ad 48, .inl (cy 0, 128, .inl (fun _ => 0))), (ad 49, .inl (cy 0, 512, .inl (fun _ => 0))), (ad 50, .inl (cy 2, 128, .inl (fun _ => 0))), (ad 51, .inl (cy 0, 128, .inl (fun _ => 0))), (ad 52, .inl (cy 0, 128, .inl (fun _ => 0))), (ad 53, .inl (cy 0, 49, .inl (fun _ => 0))), (ad 54, .inl (cy 0, 49, .inl (fun _ => 0))), (ad 55, .inl (cy 0, 4, .inl (fun _ => 0))), (ad 56, .inl (cy 0, 4, .inl (fun _ => 0))), (ad 57, .inl (cy 0, 144, .inl (fun _ => 0))), (ad 58, .inl (cy 0, 32, .inl (fun _ => 0))), (ad 59, .inl (cy 0, 7, .inl (fun _ => 0))), (ad 60, .inr (0, [.ref (ad 3), .ref (ad 42), .ref (ad 61), .ref (ad 62), .int 0, .ref (ad 63), .ref (ad 64), .ref (ad 65), .int 0, .int 0, .int 0, .ref (ad 66), .int 0, .ref (ad 67)])), (ad 61, .inl (cy 0, 7, .inl (fun _ => 0))), (ad 62, .inl (cy 0, 49, .inl (fun _ => 0))), (ad 63, .inl (cy 0, 7, .inl (fun _ => 0))), (ad 64, .inl (cy 0, 7, .inl (fun _ => 0))), (ad 65, .inl (cy 0, 232, .inl (fun _ => 0))), (ad 66, .inl (cy 0, 49, .inl (fun _ => 0))), (ad 67, .inl (cy 0, 128, .inl (fun _ => 0))), (ad 68, .inr (6, [.ref (ad 69), .ref (ad 70), .ref (ad 71)])), (ad 69, .inl (cy 0, 4, .inl (upd (upd (upd (upd (fun _ => 0) 0 (-1)) 1 (-1)) 2 (-1)) 3 (-1)))), (ad 70, .inl (cy 0, 4, .inl (fun _ => 0))), (ad 71, .inl (cy 3, 160, .inr (.inl (fun _ => 0)))), (ad 72, .inr (1, [.ref (ad 3), .ref (ad 60), .ref (ad 68), .int 0, .int 0, .int 0])), (ad 73, .inr (2, [.ref (ad 3), .ref (ad 74), .ref (ad 75), .int 0])), (ad 74, .inl (cy 0, 210, .inl (fun _ => 0))), (ad 75, .inl (cy 0, 21, .inl (fun _ => 0))), (ad 76, .inr (8, [.int 0, .ref (ad 77), .ref (ad 78), .ref (ad 79), .ref (ad 80), .int 0, .int 0, .int 0, .int 0, .int 0, .int 0, .int 0, .int 0, .int 0, .int (-1), .int 0, .ref (ad 81), .ref (ad 82), .ref (ad 83), .ref (ad 84), .int 0, .int 0, .ref (ad 85), .ref (ad 86), .ref (ad 87), .ref (ad 88), .ref (ad 89), .ref (ad 90), .int 0, .int 0, .ref (ad 91), .ref (ad 92), .int 0, .int 0, .ref (ad 93), .ref (ad 94), .ref (ad 95), .ref (ad 96), .ref (ad 97), .ref (ad 98), .ref (ad 99)])), (ad 77, .inl (cy 0, 3465, .inl zi_all)), (ad 78, .inl (cy 2, 2, .inl (fun _ => 0))), (ad 79, .inl (cy 0, 900, .inl (fun _ => 0))), (ad 80, .inl (cy 0, 1155, .inl (fun _ => 0))), (ad 81, .inl (cy 0, 4, .inl (fun _ => 0))), (ad 82, .inl (cy 0, 4, .inl (fun _ => 0))), (ad 83, .inl (cy 0, 36, .inl (fun _ => 0))), (ad 84, .inl (cy 0, 4, .inl (fun _ => 0))), (ad 85, .inl (cy 0, 900, .inl (fun _ => 0))), (ad 86, .inl (cy 0, 7, .inl (fun _ => 0))), (ad 87, .inl (cy 0, 49, .inl (fun _ => 0))), (ad 88, .inl (cy 0, 49, .inl (fun _ => 0))), (ad 89, .inl (cy 2, 49, .inl (fun _ => 0))), (ad 90, .inl (cy 0, 21, .inl (fun _ => 0))), (ad 91, .inl (cy 0, 7, .inl (fun _ => 0))), (ad 92, .inl (cy 0, 1624, .inl (fun _ => 0))), (ad 93, .inl (cy 0, 128, .inl (fun _ => 0))), (ad 94, .inl (cy 2, 128, .inl (fun _ => 0))), (ad 95, .inl (cy 0, 128, .inl (fun _ => 0))), (ad 96, .inl (cy 0, 7, .inl (fun _ => 0))), (ad 97, .inl (cy 0, 4, .inl (upd (upd (upd (upd (fun _ => 0) 0 (-1)) 1 (-1)) 2 (-1)) 3 (-1)))), (ad 98, .inl (cy 0, 4, .inl (fun _ => 0))), (ad 99, .inl (cy 3, 160, .inr (.inl (fun _ => 0))))]
set_option maxRecDepth 20000 in
theorem zk_w0 (cy : Nat → ClassId) (ad : Nat → Nat) : zk_w cy ad zs_0 = zl_0 cy ad := by
  unfold zk_w zl_0
  rw [show List.range 100 = [0, 1, 2, 3, 4, 5, 6, 7, 8, 9, 10, 11, 12, 13, 14, 15, 16, 17, 18, 19, 20, 21, 22, 23, 24, 25, 26, 27, 28, 29, 30, 31, 32, 33, 34, 35, 36, 37, 38, 39, 40, 41, 42, 43, 44, 45, 46, 47, 48, 49, 50, 51, 52, 53, 54, 55, 56, 57, 58, 59, 60, 61, 62, 63, 64, 65, 66, 67, 68, 69, 70, 71, 72, 73, 74, 75, 76, 77, 78, 79, 80, 81, 82, 83, 84, 85, 86, 87, 88, 89, 90, 91, 92, 93, 94, 95, 96, 97, 98, 99] from rfl]
  simp only [List.map_cons, List.map_nil, ze_0, ze_1, ze_2, ze_3, ze_4, ze_5, ze_6, ze_7, ze_8, ze_9, ze_10, ze_11, ze_12, ze_13, ze_14, ze_15, ze_16, ze_17, ze_18, ze_19, ze_20, ze_21, ze_22, ze_23, ze_24, ze_25, ze_26, ze_27, ze_28, ze_29, ze_30, ze_31, ze_32, ze_33, ze_34, ze_35, ze_36, ze_37, ze_38, ze_39, ze_40, ze_41, ze_42, ze_43, ze_44, ze_45, ze_46, ze_47, ze_48, ze_49, ze_50, ze_51, ze_52, ze_53, ze_54, ze_55, ze_56, ze_57, ze_58, ze_59, ze_60, ze_61, ze_62, ze_63, ze_64, ze_65, ze_66, ze_67, ze_68, ze_69, ze_70, ze_71, ze_72, ze_73, ze_74, ze_75, ze_76, ze_77, ze_78, ze_79, ze_80, ze_81, ze_82, ze_83, ze_84, ze_85, ze_86, ze_87, ze_88, ze_89, ze_90, ze_91, ze_92, ze_93, ze_94, ze_95, ze_96, ze_97, ze_98, ze_99]
