theorem d_101_0 : decode (mB 101) 0 = .ok (.aload_n 0, 1) := by decide +kernel
theorem s_101_0 {d : Nat} {Q : wQ} {L : List (Option Value)} {st : List Value} {w : aw} {cn sn : Nat} {v : Nat} : wp d 101 Q 0 (some (.ref v) :: L) st w cn sn = wp d 101 Q 1 (some (.ref v) :: L) (.ref v :: st) w cn sn := w_aload_n d_101_0 rfl
theorem d_101_1 : decode (mB 101) 1 = .ok (.invokespecial 1, 3) := by decide +kernel
theorem s_101_1 {d : Nat} {Q : wQ} {L : List (Option Value)} {st : List Value} {w : aw} {cn sn : Nat} {b : Nat} : wp d 101 Q 1 L (.ref b :: st) w cn sn = (catS st ≤ 8 ∧ wp d 101 Q 4 L st w cn sn) := w_objinit d_101_1 (by decide +kernel : cT (mO 101) 1 = some (3, 0))
theorem d_101_4 : decode (mB 101) 4 = .ok (.aload_n 0, 1) := by decide +kernel
theorem s_101_4 {d : Nat} {Q : wQ} {L : List (Option Value)} {st : List Value} {w : aw} {cn sn : Nat} {v : Nat} : wp d 101 Q 4 (some (.ref v) :: L) st w cn sn = wp d 101 Q 5 (some (.ref v) :: L) (.ref v :: st) w cn sn := w_aload_n d_101_4 rfl
theorem d_101_5 : decode (mB 101) 5 = .ok (.iconst 1, 1) := by decide +kernel
theorem s_101_5 {d : Nat} {Q : wQ} {L : List (Option Value)} {st : List Value} {w : aw} {cn sn : Nat}  : wp d 101 Q 5 L st w cn sn = wp d 101 Q 6 L (.int 1 :: st) w cn sn := w_iconst d_101_5 (by decide)
theorem d_101_6 : decode (mB 101) 6 = .ok (.putfield 7, 3) := by decide +kernel
theorem s_101_6 {d : Nat} {Q : wQ} {L : List (Option Value)} {st : List Value} {w : aw} {cn sn : Nat} {x : Int32} {a : Nat} : wp d 101 Q 6 L (.int x :: .ref a :: st) w cn sn = (kd w a = 9 ∧ wp d 101 Q 9 L st (uF w 519 a (.int x)) cn sn) := w_putfield d_101_6 (by decide +kernel : fT (mO 101) 7 = some (8, 7)) (by decide +kernel) ok_int
theorem d_101_9 : decode (mB 101) 9 = .ok (.aload_n 0, 1) := by decide +kernel
theorem s_101_9 {d : Nat} {Q : wQ} {L : List (Option Value)} {st : List Value} {w : aw} {cn sn : Nat} {v : Nat} : wp d 101 Q 9 (some (.ref v) :: L) st w cn sn = wp d 101 Q 10 (some (.ref v) :: L) (.ref v :: st) w cn sn := w_aload_n d_101_9 rfl
theorem d_101_10 : decode (mB 101) 10 = .ok (.iconst (-1), 1) := by decide +kernel
theorem s_101_10 {d : Nat} {Q : wQ} {L : List (Option Value)} {st : List Value} {w : aw} {cn sn : Nat}  : wp d 101 Q 10 L st w cn sn = wp d 101 Q 11 L (.int (-1) :: st) w cn sn := w_iconst d_101_10 (by decide)
theorem d_101_11 : decode (mB 101) 11 = .ok (.putfield 13, 3) := by decide +kernel
theorem s_101_11 {d : Nat} {Q : wQ} {L : List (Option Value)} {st : List Value} {w : aw} {cn sn : Nat} {x : Int32} {a : Nat} : wp d 101 Q 11 L (.int x :: .ref a :: st) w cn sn = (kd w a = 9 ∧ wp d 101 Q 14 L st (uF w 521 a (.int x)) cn sn) := w_putfield d_101_11 (by decide +kernel : fT (mO 101) 13 = some (8, 9)) (by decide +kernel) ok_int
theorem d_101_14 : decode (mB 101) 14 = .ok (.aload_n 0, 1) := by decide +kernel
theorem s_101_14 {d : Nat} {Q : wQ} {L : List (Option Value)} {st : List Value} {w : aw} {cn sn : Nat} {v : Nat} : wp d 101 Q 14 (some (.ref v) :: L) st w cn sn = wp d 101 Q 15 (some (.ref v) :: L) (.ref v :: st) w cn sn := w_aload_n d_101_14 rfl
theorem d_101_15 : decode (mB 101) 15 = .ok (.bipush 8, 2) := by decide +kernel
theorem s_101_15 {d : Nat} {Q : wQ} {L : List (Option Value)} {st : List Value} {w : aw} {cn sn : Nat}  : wp d 101 Q 15 L st w cn sn = wp d 101 Q 17 L (.int 8 :: st) w cn sn := w_bipush d_101_15 (by decide)
theorem d_101_17 : decode (mB 101) 17 = .ok (.newarray .int, 2) := by decide +kernel
theorem s_101_17 {d : Nat} {Q : wQ} {L : List (Option Value)} {st : List Value} {w : aw} {cn sn : Nat} {v : Int32} : wp d 101 Q 17 L (.int v :: st) w cn sn = (¬ v < 0 ∧ v.toNatClampNeg * 4 ≤ 536870912 ∧ cn + 1 ≤ 24 ∧ sn + v.toNatClampNeg ≤ 86736 ∧ wp d 101 Q 19 L (.ref (zs w) :: st) (nw w 20 v.toNatClampNeg) (cn + 1) (sn + v.toNatClampNeg)) := w_newarray d_101_17 rfl (by decide +kernel) (by decide +kernel)
theorem d_101_19 : decode (mB 101) 19 = .ok (.putfield 16, 3) := by decide +kernel
theorem s_101_19 {d : Nat} {Q : wQ} {L : List (Option Value)} {st : List Value} {w : aw} {cn sn : Nat} {x : Nat} {a : Nat} : wp d 101 Q 19 L (.ref x :: .ref a :: st) w cn sn = (kd w a = 9 ∧ wp d 101 Q 22 L st (uF w 523 a (.ref x)) cn sn) := w_putfield d_101_19 (by decide +kernel : fT (mO 101) 16 = some (8, 11)) (by decide +kernel) ok_arr
theorem d_101_22 : decode (mB 101) 22 = .ok (.aload_n 0, 1) := by decide +kernel
theorem s_101_22 {d : Nat} {Q : wQ} {L : List (Option Value)} {st : List Value} {w : aw} {cn sn : Nat} {v : Nat} : wp d 101 Q 22 (some (.ref v) :: L) st w cn sn = wp d 101 Q 23 (some (.ref v) :: L) (.ref v :: st) w cn sn := w_aload_n d_101_22 rfl
theorem d_101_23 : decode (mB 101) 23 = .ok (.bipush 8, 2) := by decide +kernel
theorem s_101_23 {d : Nat} {Q : wQ} {L : List (Option Value)} {st : List Value} {w : aw} {cn sn : Nat}  : wp d 101 Q 23 L st w cn sn = wp d 101 Q 25 L (.int 8 :: st) w cn sn := w_bipush d_101_23 (by decide)
theorem d_101_25 : decode (mB 101) 25 = .ok (.newarray .int, 2) := by decide +kernel
theorem s_101_25 {d : Nat} {Q : wQ} {L : List (Option Value)} {st : List Value} {w : aw} {cn sn : Nat} {v : Int32} : wp d 101 Q 25 L (.int v :: st) w cn sn = (¬ v < 0 ∧ v.toNatClampNeg * 4 ≤ 536870912 ∧ cn + 1 ≤ 24 ∧ sn + v.toNatClampNeg ≤ 86736 ∧ wp d 101 Q 27 L (.ref (zs w) :: st) (nw w 20 v.toNatClampNeg) (cn + 1) (sn + v.toNatClampNeg)) := w_newarray d_101_25 rfl (by decide +kernel) (by decide +kernel)
theorem d_101_27 : decode (mB 101) 27 = .ok (.putfield 20, 3) := by decide +kernel
theorem s_101_27 {d : Nat} {Q : wQ} {L : List (Option Value)} {st : List Value} {w : aw} {cn sn : Nat} {x : Nat} {a : Nat} : wp d 101 Q 27 L (.ref x :: .ref a :: st) w cn sn = (kd w a = 9 ∧ wp d 101 Q 30 L st (uF w 525 a (.ref x)) cn sn) := w_putfield d_101_27 (by decide +kernel : fT (mO 101) 20 = some (8, 13)) (by decide +kernel) ok_arr
theorem d_101_30 : decode (mB 101) 30 = .ok (.aload_n 0, 1) := by decide +kernel
theorem s_101_30 {d : Nat} {Q : wQ} {L : List (Option Value)} {st : List Value} {w : aw} {cn sn : Nat} {v : Nat} : wp d 101 Q 30 (some (.ref v) :: L) st w cn sn = wp d 101 Q 31 (some (.ref v) :: L) (.ref v :: st) w cn sn := w_aload_n d_101_30 rfl
theorem d_101_31 : decode (mB 101) 31 = .ok (.ldc 23, 2) := by decide +kernel
theorem s_101_31 {d : Nat} {Q : wQ} {L : List (Option Value)} {st : List Value} {w : aw} {cn sn : Nat}  : wp d 101 Q 31 L st w cn sn = wp d 101 Q 33 L (.int 32768 :: st) w cn sn := w_ldc d_101_31 (by decide +kernel : kT (mO 101) 23 = some (.int 32768))
theorem d_101_33 : decode (mB 101) 33 = .ok (.newarray .int, 2) := by decide +kernel
theorem s_101_33 {d : Nat} {Q : wQ} {L : List (Option Value)} {st : List Value} {w : aw} {cn sn : Nat} {v : Int32} : wp d 101 Q 33 L (.int v :: st) w cn sn = (¬ v < 0 ∧ v.toNatClampNeg * 4 ≤ 536870912 ∧ cn + 1 ≤ 24 ∧ sn + v.toNatClampNeg ≤ 86736 ∧ wp d 101 Q 35 L (.ref (zs w) :: st) (nw w 20 v.toNatClampNeg) (cn + 1) (sn + v.toNatClampNeg)) := w_newarray d_101_33 rfl (by decide +kernel) (by decide +kernel)
theorem d_101_35 : decode (mB 101) 35 = .ok (.putfield 24, 3) := by decide +kernel
theorem s_101_35 {d : Nat} {Q : wQ} {L : List (Option Value)} {st : List Value} {w : aw} {cn sn : Nat} {x : Nat} {a : Nat} : wp d 101 Q 35 L (.ref x :: .ref a :: st) w cn sn = (kd w a = 9 ∧ wp d 101 Q 38 L st (uF w 526 a (.ref x)) cn sn) := w_putfield d_101_35 (by decide +kernel : fT (mO 101) 24 = some (8, 14)) (by decide +kernel) ok_arr
theorem d_101_38 : decode (mB 101) 38 = .ok (.aload_n 0, 1) := by decide +kernel
theorem s_101_38 {d : Nat} {Q : wQ} {L : List (Option Value)} {st : List Value} {w : aw} {cn sn : Nat} {v : Nat} : wp d 101 Q 38 (some (.ref v) :: L) st w cn sn = wp d 101 Q 39 (some (.ref v) :: L) (.ref v :: st) w cn sn := w_aload_n d_101_38 rfl
theorem d_101_39 : decode (mB 101) 39 = .ok (.ldc 23, 2) := by decide +kernel
theorem s_101_39 {d : Nat} {Q : wQ} {L : List (Option Value)} {st : List Value} {w : aw} {cn sn : Nat}  : wp d 101 Q 39 L st w cn sn = wp d 101 Q 41 L (.int 32768 :: st) w cn sn := w_ldc d_101_39 (by decide +kernel : kT (mO 101) 23 = some (.int 32768))
theorem d_101_41 : decode (mB 101) 41 = .ok (.newarray .int, 2) := by decide +kernel
theorem s_101_41 {d : Nat} {Q : wQ} {L : List (Option Value)} {st : List Value} {w : aw} {cn sn : Nat} {v : Int32} : wp d 101 Q 41 L (.int v :: st) w cn sn = (¬ v < 0 ∧ v.toNatClampNeg * 4 ≤ 536870912 ∧ cn + 1 ≤ 24 ∧ sn + v.toNatClampNeg ≤ 86736 ∧ wp d 101 Q 43 L (.ref (zs w) :: st) (nw w 20 v.toNatClampNeg) (cn + 1) (sn + v.toNatClampNeg)) := w_newarray d_101_41 rfl (by decide +kernel) (by decide +kernel)
theorem d_101_43 : decode (mB 101) 43 = .ok (.putfield 27, 3) := by decide +kernel
theorem s_101_43 {d : Nat} {Q : wQ} {L : List (Option Value)} {st : List Value} {w : aw} {cn sn : Nat} {x : Nat} {a : Nat} : wp d 101 Q 43 L (.ref x :: .ref a :: st) w cn sn = (kd w a = 9 ∧ wp d 101 Q 46 L st (uF w 527 a (.ref x)) cn sn) := w_putfield d_101_43 (by decide +kernel : fT (mO 101) 27 = some (8, 15)) (by decide +kernel) ok_arr
theorem d_101_46 : decode (mB 101) 46 = .ok (.aload_n 0, 1) := by decide +kernel
theorem s_101_46 {d : Nat} {Q : wQ} {L : List (Option Value)} {st : List Value} {w : aw} {cn sn : Nat} {v : Nat} : wp d 101 Q 46 (some (.ref v) :: L) st w cn sn = wp d 101 Q 47 (some (.ref v) :: L) (.ref v :: st) w cn sn := w_aload_n d_101_46 rfl
theorem d_101_47 : decode (mB 101) 47 = .ok (.bipush 8, 2) := by decide +kernel
theorem s_101_47 {d : Nat} {Q : wQ} {L : List (Option Value)} {st : List Value} {w : aw} {cn sn : Nat}  : wp d 101 Q 47 L st w cn sn = wp d 101 Q 49 L (.int 8 :: st) w cn sn := w_bipush d_101_47 (by decide)
theorem d_101_49 : decode (mB 101) 49 = .ok (.newarray .int, 2) := by decide +kernel
theorem s_101_49 {d : Nat} {Q : wQ} {L : List (Option Value)} {st : List Value} {w : aw} {cn sn : Nat} {v : Int32} : wp d 101 Q 49 L (.int v :: st) w cn sn = (¬ v < 0 ∧ v.toNatClampNeg * 4 ≤ 536870912 ∧ cn + 1 ≤ 24 ∧ sn + v.toNatClampNeg ≤ 86736 ∧ wp d 101 Q 51 L (.ref (zs w) :: st) (nw w 20 v.toNatClampNeg) (cn + 1) (sn + v.toNatClampNeg)) := w_newarray d_101_49 rfl (by decide +kernel) (by decide +kernel)
theorem d_101_51 : decode (mB 101) 51 = .ok (.putfield 30, 3) := by decide +kernel
theorem s_101_51 {d : Nat} {Q : wQ} {L : List (Option Value)} {st : List Value} {w : aw} {cn sn : Nat} {x : Nat} {a : Nat} : wp d 101 Q 51 L (.ref x :: .ref a :: st) w cn sn = (kd w a = 9 ∧ wp d 101 Q 54 L st (uF w 528 a (.ref x)) cn sn) := w_putfield d_101_51 (by decide +kernel : fT (mO 101) 30 = some (8, 16)) (by decide +kernel) ok_arr
theorem d_101_54 : decode (mB 101) 54 = .ok (.aload_n 0, 1) := by decide +kernel
theorem s_101_54 {d : Nat} {Q : wQ} {L : List (Option Value)} {st : List Value} {w : aw} {cn sn : Nat} {v : Nat} : wp d 101 Q 54 (some (.ref v) :: L) st w cn sn = wp d 101 Q 55 (some (.ref v) :: L) (.ref v :: st) w cn sn := w_aload_n d_101_54 rfl
theorem d_101_55 : decode (mB 101) 55 = .ok (.bipush 8, 2) := by decide +kernel
theorem s_101_55 {d : Nat} {Q : wQ} {L : List (Option Value)} {st : List Value} {w : aw} {cn sn : Nat}  : wp d 101 Q 55 L st w cn sn = wp d 101 Q 57 L (.int 8 :: st) w cn sn := w_bipush d_101_55 (by decide)
theorem d_101_57 : decode (mB 101) 57 = .ok (.newarray .int, 2) := by decide +kernel
theorem s_101_57 {d : Nat} {Q : wQ} {L : List (Option Value)} {st : List Value} {w : aw} {cn sn : Nat} {v : Int32} : wp d 101 Q 57 L (.int v :: st) w cn sn = (¬ v < 0 ∧ v.toNatClampNeg * 4 ≤ 536870912 ∧ cn + 1 ≤ 24 ∧ sn + v.toNatClampNeg ≤ 86736 ∧ wp d 101 Q 59 L (.ref (zs w) :: st) (nw w 20 v.toNatClampNeg) (cn + 1) (sn + v.toNatClampNeg)) := w_newarray d_101_57 rfl (by decide +kernel) (by decide +kernel)
theorem d_101_59 : decode (mB 101) 59 = .ok (.putfield 33, 3) := by decide +kernel
theorem s_101_59 {d : Nat} {Q : wQ} {L : List (Option Value)} {st : List Value} {w : aw} {cn sn : Nat} {x : Nat} {a : Nat} : wp d 101 Q 59 L (.ref x :: .ref a :: st) w cn sn = (kd w a = 9 ∧ wp d 101 Q 62 L st (uF w 529 a (.ref x)) cn sn) := w_putfield d_101_59 (by decide +kernel : fT (mO 101) 33 = some (8, 17)) (by decide +kernel) ok_arr
theorem d_101_62 : decode (mB 101) 62 = .ok (.aload_n 0, 1) := by decide +kernel
theorem s_101_62 {d : Nat} {Q : wQ} {L : List (Option Value)} {st : List Value} {w : aw} {cn sn : Nat} {v : Nat} : wp d 101 Q 62 (some (.ref v) :: L) st w cn sn = wp d 101 Q 63 (some (.ref v) :: L) (.ref v :: st) w cn sn := w_aload_n d_101_62 rfl
theorem d_101_63 : decode (mB 101) 63 = .ok (.bipush 8, 2) := by decide +kernel
theorem s_101_63 {d : Nat} {Q : wQ} {L : List (Option Value)} {st : List Value} {w : aw} {cn sn : Nat}  : wp d 101 Q 63 L st w cn sn = wp d 101 Q 65 L (.int 8 :: st) w cn sn := w_bipush d_101_63 (by decide)
theorem d_101_65 : decode (mB 101) 65 = .ok (.newarray .int, 2) := by decide +kernel
theorem s_101_65 {d : Nat} {Q : wQ} {L : List (Option Value)} {st : List Value} {w : aw} {cn sn : Nat} {v : Int32} : wp d 101 Q 65 L (.int v :: st) w cn sn = (¬ v < 0 ∧ v.toNatClampNeg * 4 ≤ 536870912 ∧ cn + 1 ≤ 24 ∧ sn + v.toNatClampNeg ≤ 86736 ∧ wp d 101 Q 67 L (.ref (zs w) :: st) (nw w 20 v.toNatClampNeg) (cn + 1) (sn + v.toNatClampNeg)) := w_newarray d_101_65 rfl (by decide +kernel) (by decide +kernel)
theorem d_101_67 : decode (mB 101) 67 = .ok (.putfield 36, 3) := by decide +kernel
theorem s_101_67 {d : Nat} {Q : wQ} {L : List (Option Value)} {st : List Value} {w : aw} {cn sn : Nat} {x : Nat} {a : Nat} : wp d 101 Q 67 L (.ref x :: .ref a :: st) w cn sn = (kd w a = 9 ∧ wp d 101 Q 70 L st (uF w 530 a (.ref x)) cn sn) := w_putfield d_101_67 (by decide +kernel : fT (mO 101) 36 = some (8, 18)) (by decide +kernel) ok_arr
theorem d_101_70 : decode (mB 101) 70 = .ok (.aload_n 0, 1) := by decide +kernel
theorem s_101_70 {d : Nat} {Q : wQ} {L : List (Option Value)} {st : List Value} {w : aw} {cn sn : Nat} {v : Nat} : wp d 101 Q 70 (some (.ref v) :: L) st w cn sn = wp d 101 Q 71 (some (.ref v) :: L) (.ref v :: st) w cn sn := w_aload_n d_101_70 rfl
theorem d_101_71 : decode (mB 101) 71 = .ok (.bipush 8, 2) := by decide +kernel
theorem s_101_71 {d : Nat} {Q : wQ} {L : List (Option Value)} {st : List Value} {w : aw} {cn sn : Nat}  : wp d 101 Q 71 L st w cn sn = wp d 101 Q 73 L (.int 8 :: st) w cn sn := w_bipush d_101_71 (by decide)
theorem d_101_73 : decode (mB 101) 73 = .ok (.newarray .int, 2) := by decide +kernel
theorem s_101_73 {d : Nat} {Q : wQ} {L : List (Option Value)} {st : List Value} {w : aw} {cn sn : Nat} {v : Int32} : wp d 101 Q 73 L (.int v :: st) w cn sn = (¬ v < 0 ∧ v.toNatClampNeg * 4 ≤ 536870912 ∧ cn + 1 ≤ 24 ∧ sn + v.toNatClampNeg ≤ 86736 ∧ wp d 101 Q 75 L (.ref (zs w) :: st) (nw w 20 v.toNatClampNeg) (cn + 1) (sn + v.toNatClampNeg)) := w_newarray d_101_73 rfl (by decide +kernel) (by decide +kernel)
theorem d_101_75 : decode (mB 101) 75 = .ok (.putfield 39, 3) := by decide +kernel
theorem s_101_75 {d : Nat} {Q : wQ} {L : List (Option Value)} {st : List Value} {w : aw} {cn sn : Nat} {x : Nat} {a : Nat} : wp d 101 Q 75 L (.ref x :: .ref a :: st) w cn sn = (kd w a = 9 ∧ wp d 101 Q 78 L st (uF w 531 a (.ref x)) cn sn) := w_putfield d_101_75 (by decide +kernel : fT (mO 101) 39 = some (8, 19)) (by decide +kernel) ok_arr
theorem d_101_78 : decode (mB 101) 78 = .ok (.aload_n 0, 1) := by decide +kernel
theorem s_101_78 {d : Nat} {Q : wQ} {L : List (Option Value)} {st : List Value} {w : aw} {cn sn : Nat} {v : Nat} : wp d 101 Q 78 (some (.ref v) :: L) st w cn sn = wp d 101 Q 79 (some (.ref v) :: L) (.ref v :: st) w cn sn := w_aload_n d_101_78 rfl
theorem d_101_79 : decode (mB 101) 79 = .ok (.bipush 8, 2) := by decide +kernel
theorem s_101_79 {d : Nat} {Q : wQ} {L : List (Option Value)} {st : List Value} {w : aw} {cn sn : Nat}  : wp d 101 Q 79 L st w cn sn = wp d 101 Q 81 L (.int 8 :: st) w cn sn := w_bipush d_101_79 (by decide)
theorem d_101_81 : decode (mB 101) 81 = .ok (.newarray .int, 2) := by decide +kernel
theorem s_101_81 {d : Nat} {Q : wQ} {L : List (Option Value)} {st : List Value} {w : aw} {cn sn : Nat} {v : Int32} : wp d 101 Q 81 L (.int v :: st) w cn sn = (¬ v < 0 ∧ v.toNatClampNeg * 4 ≤ 536870912 ∧ cn + 1 ≤ 24 ∧ sn + v.toNatClampNeg ≤ 86736 ∧ wp d 101 Q 83 L (.ref (zs w) :: st) (nw w 20 v.toNatClampNeg) (cn + 1) (sn + v.toNatClampNeg)) := w_newarray d_101_81 rfl (by decide +kernel) (by decide +kernel)
theorem d_101_83 : decode (mB 101) 83 = .ok (.putfield 42, 3) := by decide +kernel
theorem s_101_83 {d : Nat} {Q : wQ} {L : List (Option Value)} {st : List Value} {w : aw} {cn sn : Nat} {x : Nat} {a : Nat} : wp d 101 Q 83 L (.ref x :: .ref a :: st) w cn sn = (kd w a = 9 ∧ wp d 101 Q 86 L st (uF w 532 a (.ref x)) cn sn) := w_putfield d_101_83 (by decide +kernel : fT (mO 101) 42 = some (8, 20)) (by decide +kernel) ok_arr
theorem d_101_86 : decode (mB 101) 86 = .ok (.aload_n 0, 1) := by decide +kernel
theorem s_101_86 {d : Nat} {Q : wQ} {L : List (Option Value)} {st : List Value} {w : aw} {cn sn : Nat} {v : Nat} : wp d 101 Q 86 (some (.ref v) :: L) st w cn sn = wp d 101 Q 87 (some (.ref v) :: L) (.ref v :: st) w cn sn := w_aload_n d_101_86 rfl
theorem d_101_87 : decode (mB 101) 87 = .ok (.bipush 8, 2) := by decide +kernel
theorem s_101_87 {d : Nat} {Q : wQ} {L : List (Option Value)} {st : List Value} {w : aw} {cn sn : Nat}  : wp d 101 Q 87 L st w cn sn = wp d 101 Q 89 L (.int 8 :: st) w cn sn := w_bipush d_101_87 (by decide)
theorem d_101_89 : decode (mB 101) 89 = .ok (.newarray .int, 2) := by decide +kernel
theorem s_101_89 {d : Nat} {Q : wQ} {L : List (Option Value)} {st : List Value} {w : aw} {cn sn : Nat} {v : Int32} : wp d 101 Q 89 L (.int v :: st) w cn sn = (¬ v < 0 ∧ v.toNatClampNeg * 4 ≤ 536870912 ∧ cn + 1 ≤ 24 ∧ sn + v.toNatClampNeg ≤ 86736 ∧ wp d 101 Q 91 L (.ref (zs w) :: st) (nw w 20 v.toNatClampNeg) (cn + 1) (sn + v.toNatClampNeg)) := w_newarray d_101_89 rfl (by decide +kernel) (by decide +kernel)
theorem d_101_91 : decode (mB 101) 91 = .ok (.putfield 45, 3) := by decide +kernel
theorem s_101_91 {d : Nat} {Q : wQ} {L : List (Option Value)} {st : List Value} {w : aw} {cn sn : Nat} {x : Nat} {a : Nat} : wp d 101 Q 91 L (.ref x :: .ref a :: st) w cn sn = (kd w a = 9 ∧ wp d 101 Q 94 L st (uF w 533 a (.ref x)) cn sn) := w_putfield d_101_91 (by decide +kernel : fT (mO 101) 45 = some (8, 21)) (by decide +kernel) ok_arr
theorem d_101_94 : decode (mB 101) 94 = .ok (.aload_n 0, 1) := by decide +kernel
theorem s_101_94 {d : Nat} {Q : wQ} {L : List (Option Value)} {st : List Value} {w : aw} {cn sn : Nat} {v : Nat} : wp d 101 Q 94 (some (.ref v) :: L) st w cn sn = wp d 101 Q 95 (some (.ref v) :: L) (.ref v :: st) w cn sn := w_aload_n d_101_94 rfl
theorem d_101_95 : decode (mB 101) 95 = .ok (.bipush 8, 2) := by decide +kernel
theorem s_101_95 {d : Nat} {Q : wQ} {L : List (Option Value)} {st : List Value} {w : aw} {cn sn : Nat}  : wp d 101 Q 95 L st w cn sn = wp d 101 Q 97 L (.int 8 :: st) w cn sn := w_bipush d_101_95 (by decide)
theorem d_101_97 : decode (mB 101) 97 = .ok (.newarray .int, 2) := by decide +kernel
theorem s_101_97 {d : Nat} {Q : wQ} {L : List (Option Value)} {st : List Value} {w : aw} {cn sn : Nat} {v : Int32} : wp d 101 Q 97 L (.int v :: st) w cn sn = (¬ v < 0 ∧ v.toNatClampNeg * 4 ≤ 536870912 ∧ cn + 1 ≤ 24 ∧ sn + v.toNatClampNeg ≤ 86736 ∧ wp d 101 Q 99 L (.ref (zs w) :: st) (nw w 20 v.toNatClampNeg) (cn + 1) (sn + v.toNatClampNeg)) := w_newarray d_101_97 rfl (by decide +kernel) (by decide +kernel)
theorem d_101_99 : decode (mB 101) 99 = .ok (.putfield 48, 3) := by decide +kernel
theorem s_101_99 {d : Nat} {Q : wQ} {L : List (Option Value)} {st : List Value} {w : aw} {cn sn : Nat} {x : Nat} {a : Nat} : wp d 101 Q 99 L (.ref x :: .ref a :: st) w cn sn = (kd w a = 9 ∧ wp d 101 Q 102 L st (uF w 534 a (.ref x)) cn sn) := w_putfield d_101_99 (by decide +kernel : fT (mO 101) 48 = some (8, 22)) (by decide +kernel) ok_arr
theorem d_101_102 : decode (mB 101) 102 = .ok (.aload_n 0, 1) := by decide +kernel
theorem s_101_102 {d : Nat} {Q : wQ} {L : List (Option Value)} {st : List Value} {w : aw} {cn sn : Nat} {v : Nat} : wp d 101 Q 102 (some (.ref v) :: L) st w cn sn = wp d 101 Q 103 (some (.ref v) :: L) (.ref v :: st) w cn sn := w_aload_n d_101_102 rfl
theorem d_101_103 : decode (mB 101) 103 = .ok (.bipush 8, 2) := by decide +kernel
theorem s_101_103 {d : Nat} {Q : wQ} {L : List (Option Value)} {st : List Value} {w : aw} {cn sn : Nat}  : wp d 101 Q 103 L st w cn sn = wp d 101 Q 105 L (.int 8 :: st) w cn sn := w_bipush d_101_103 (by decide)
theorem d_101_105 : decode (mB 101) 105 = .ok (.newarray .int, 2) := by decide +kernel
theorem s_101_105 {d : Nat} {Q : wQ} {L : List (Option Value)} {st : List Value} {w : aw} {cn sn : Nat} {v : Int32} : wp d 101 Q 105 L (.int v :: st) w cn sn = (¬ v < 0 ∧ v.toNatClampNeg * 4 ≤ 536870912 ∧ cn + 1 ≤ 24 ∧ sn + v.toNatClampNeg ≤ 86736 ∧ wp d 101 Q 107 L (.ref (zs w) :: st) (nw w 20 v.toNatClampNeg) (cn + 1) (sn + v.toNatClampNeg)) := w_newarray d_101_105 rfl (by decide +kernel) (by decide +kernel)
theorem d_101_107 : decode (mB 101) 107 = .ok (.putfield 51, 3) := by decide +kernel
theorem s_101_107 {d : Nat} {Q : wQ} {L : List (Option Value)} {st : List Value} {w : aw} {cn sn : Nat} {x : Nat} {a : Nat} : wp d 101 Q 107 L (.ref x :: .ref a :: st) w cn sn = (kd w a = 9 ∧ wp d 101 Q 110 L st (uF w 535 a (.ref x)) cn sn) := w_putfield d_101_107 (by decide +kernel : fT (mO 101) 51 = some (8, 23)) (by decide +kernel) ok_arr
theorem d_101_110 : decode (mB 101) 110 = .ok (.aload_n 0, 1) := by decide +kernel
theorem s_101_110 {d : Nat} {Q : wQ} {L : List (Option Value)} {st : List Value} {w : aw} {cn sn : Nat} {v : Nat} : wp d 101 Q 110 (some (.ref v) :: L) st w cn sn = wp d 101 Q 111 (some (.ref v) :: L) (.ref v :: st) w cn sn := w_aload_n d_101_110 rfl
theorem d_101_111 : decode (mB 101) 111 = .ok (.sipush 128, 3) := by decide +kernel
theorem s_101_111 {d : Nat} {Q : wQ} {L : List (Option Value)} {st : List Value} {w : aw} {cn sn : Nat}  : wp d 101 Q 111 L st w cn sn = wp d 101 Q 114 L (.int 128 :: st) w cn sn := w_sipush d_101_111 (by decide)
theorem d_101_114 : decode (mB 101) 114 = .ok (.newarray .int, 2) := by decide +kernel
theorem s_101_114 {d : Nat} {Q : wQ} {L : List (Option Value)} {st : List Value} {w : aw} {cn sn : Nat} {v : Int32} : wp d 101 Q 114 L (.int v :: st) w cn sn = (¬ v < 0 ∧ v.toNatClampNeg * 4 ≤ 536870912 ∧ cn + 1 ≤ 24 ∧ sn + v.toNatClampNeg ≤ 86736 ∧ wp d 101 Q 116 L (.ref (zs w) :: st) (nw w 20 v.toNatClampNeg) (cn + 1) (sn + v.toNatClampNeg)) := w_newarray d_101_114 rfl (by decide +kernel) (by decide +kernel)
theorem d_101_116 : decode (mB 101) 116 = .ok (.putfield 54, 3) := by decide +kernel
theorem s_101_116 {d : Nat} {Q : wQ} {L : List (Option Value)} {st : List Value} {w : aw} {cn sn : Nat} {x : Nat} {a : Nat} : wp d 101 Q 116 L (.ref x :: .ref a :: st) w cn sn = (kd w a = 9 ∧ wp d 101 Q 119 L st (uF w 536 a (.ref x)) cn sn) := w_putfield d_101_116 (by decide +kernel : fT (mO 101) 54 = some (8, 24)) (by decide +kernel) ok_arr
theorem d_101_119 : decode (mB 101) 119 = .ok (.aload_n 0, 1) := by decide +kernel
theorem s_101_119 {d : Nat} {Q : wQ} {L : List (Option Value)} {st : List Value} {w : aw} {cn sn : Nat} {v : Nat} : wp d 101 Q 119 (some (.ref v) :: L) st w cn sn = wp d 101 Q 120 (some (.ref v) :: L) (.ref v :: st) w cn sn := w_aload_n d_101_119 rfl
theorem d_101_120 : decode (mB 101) 120 = .ok (.bipush 8, 2) := by decide +kernel
theorem s_101_120 {d : Nat} {Q : wQ} {L : List (Option Value)} {st : List Value} {w : aw} {cn sn : Nat}  : wp d 101 Q 120 L st w cn sn = wp d 101 Q 122 L (.int 8 :: st) w cn sn := w_bipush d_101_120 (by decide)
theorem d_101_122 : decode (mB 101) 122 = .ok (.newarray .int, 2) := by decide +kernel
theorem s_101_122 {d : Nat} {Q : wQ} {L : List (Option Value)} {st : List Value} {w : aw} {cn sn : Nat} {v : Int32} : wp d 101 Q 122 L (.int v :: st) w cn sn = (¬ v < 0 ∧ v.toNatClampNeg * 4 ≤ 536870912 ∧ cn + 1 ≤ 24 ∧ sn + v.toNatClampNeg ≤ 86736 ∧ wp d 101 Q 124 L (.ref (zs w) :: st) (nw w 20 v.toNatClampNeg) (cn + 1) (sn + v.toNatClampNeg)) := w_newarray d_101_122 rfl (by decide +kernel) (by decide +kernel)
theorem d_101_124 : decode (mB 101) 124 = .ok (.putfield 57, 3) := by decide +kernel
theorem s_101_124 {d : Nat} {Q : wQ} {L : List (Option Value)} {st : List Value} {w : aw} {cn sn : Nat} {x : Nat} {a : Nat} : wp d 101 Q 124 L (.ref x :: .ref a :: st) w cn sn = (kd w a = 9 ∧ wp d 101 Q 127 L st (uF w 537 a (.ref x)) cn sn) := w_putfield d_101_124 (by decide +kernel : fT (mO 101) 57 = some (8, 25)) (by decide +kernel) ok_arr
theorem d_101_127 : decode (mB 101) 127 = .ok (.aload_n 0, 1) := by decide +kernel
theorem s_101_127 {d : Nat} {Q : wQ} {L : List (Option Value)} {st : List Value} {w : aw} {cn sn : Nat} {v : Nat} : wp d 101 Q 127 (some (.ref v) :: L) st w cn sn = wp d 101 Q 128 (some (.ref v) :: L) (.ref v :: st) w cn sn := w_aload_n d_101_127 rfl
theorem d_101_128 : decode (mB 101) 128 = .ok (.sipush 128, 3) := by decide +kernel
theorem s_101_128 {d : Nat} {Q : wQ} {L : List (Option Value)} {st : List Value} {w : aw} {cn sn : Nat}  : wp d 101 Q 128 L st w cn sn = wp d 101 Q 131 L (.int 128 :: st) w cn sn := w_sipush d_101_128 (by decide)
theorem d_101_131 : decode (mB 101) 131 = .ok (.newarray .int, 2) := by decide +kernel
theorem s_101_131 {d : Nat} {Q : wQ} {L : List (Option Value)} {st : List Value} {w : aw} {cn sn : Nat} {v : Int32} : wp d 101 Q 131 L (.int v :: st) w cn sn = (¬ v < 0 ∧ v.toNatClampNeg * 4 ≤ 536870912 ∧ cn + 1 ≤ 24 ∧ sn + v.toNatClampNeg ≤ 86736 ∧ wp d 101 Q 133 L (.ref (zs w) :: st) (nw w 20 v.toNatClampNeg) (cn + 1) (sn + v.toNatClampNeg)) := w_newarray d_101_131 rfl (by decide +kernel) (by decide +kernel)
theorem d_101_133 : decode (mB 101) 133 = .ok (.putfield 60, 3) := by decide +kernel
theorem s_101_133 {d : Nat} {Q : wQ} {L : List (Option Value)} {st : List Value} {w : aw} {cn sn : Nat} {x : Nat} {a : Nat} : wp d 101 Q 133 L (.ref x :: .ref a :: st) w cn sn = (kd w a = 9 ∧ wp d 101 Q 136 L st (uF w 538 a (.ref x)) cn sn) := w_putfield d_101_133 (by decide +kernel : fT (mO 101) 60 = some (8, 26)) (by decide +kernel) ok_arr
theorem d_101_136 : decode (mB 101) 136 = .ok (.aload_n 0, 1) := by decide +kernel
theorem s_101_136 {d : Nat} {Q : wQ} {L : List (Option Value)} {st : List Value} {w : aw} {cn sn : Nat} {v : Nat} : wp d 101 Q 136 (some (.ref v) :: L) st w cn sn = wp d 101 Q 137 (some (.ref v) :: L) (.ref v :: st) w cn sn := w_aload_n d_101_136 rfl
theorem d_101_137 : decode (mB 101) 137 = .ok (.bipush 8, 2) := by decide +kernel
theorem s_101_137 {d : Nat} {Q : wQ} {L : List (Option Value)} {st : List Value} {w : aw} {cn sn : Nat}  : wp d 101 Q 137 L st w cn sn = wp d 101 Q 139 L (.int 8 :: st) w cn sn := w_bipush d_101_137 (by decide)
theorem d_101_139 : decode (mB 101) 139 = .ok (.newarray .int, 2) := by decide +kernel
theorem s_101_139 {d : Nat} {Q : wQ} {L : List (Option Value)} {st : List Value} {w : aw} {cn sn : Nat} {v : Int32} : wp d 101 Q 139 L (.int v :: st) w cn sn = (¬ v < 0 ∧ v.toNatClampNeg * 4 ≤ 536870912 ∧ cn + 1 ≤ 24 ∧ sn + v.toNatClampNeg ≤ 86736 ∧ wp d 101 Q 141 L (.ref (zs w) :: st) (nw w 20 v.toNatClampNeg) (cn + 1) (sn + v.toNatClampNeg)) := w_newarray d_101_139 rfl (by decide +kernel) (by decide +kernel)
theorem d_101_141 : decode (mB 101) 141 = .ok (.putfield 63, 3) := by decide +kernel
theorem s_101_141 {d : Nat} {Q : wQ} {L : List (Option Value)} {st : List Value} {w : aw} {cn sn : Nat} {x : Nat} {a : Nat} : wp d 101 Q 141 L (.ref x :: .ref a :: st) w cn sn = (kd w a = 9 ∧ wp d 101 Q 144 L st (uF w 539 a (.ref x)) cn sn) := w_putfield d_101_141 (by decide +kernel : fT (mO 101) 63 = some (8, 27)) (by decide +kernel) ok_arr
theorem d_101_144 : decode (mB 101) 144 = .ok (.aload_n 0, 1) := by decide +kernel
theorem s_101_144 {d : Nat} {Q : wQ} {L : List (Option Value)} {st : List Value} {w : aw} {cn sn : Nat} {v : Nat} : wp d 101 Q 144 (some (.ref v) :: L) st w cn sn = wp d 101 Q 145 (some (.ref v) :: L) (.ref v :: st) w cn sn := w_aload_n d_101_144 rfl
theorem d_101_145 : decode (mB 101) 145 = .ok (.sipush 4096, 3) := by decide +kernel
theorem s_101_145 {d : Nat} {Q : wQ} {L : List (Option Value)} {st : List Value} {w : aw} {cn sn : Nat}  : wp d 101 Q 145 L st w cn sn = wp d 101 Q 148 L (.int 4096 :: st) w cn sn := w_sipush d_101_145 (by decide)
theorem d_101_148 : decode (mB 101) 148 = .ok (.newarray .int, 2) := by decide +kernel
theorem s_101_148 {d : Nat} {Q : wQ} {L : List (Option Value)} {st : List Value} {w : aw} {cn sn : Nat} {v : Int32} : wp d 101 Q 148 L (.int v :: st) w cn sn = (¬ v < 0 ∧ v.toNatClampNeg * 4 ≤ 536870912 ∧ cn + 1 ≤ 24 ∧ sn + v.toNatClampNeg ≤ 86736 ∧ wp d 101 Q 150 L (.ref (zs w) :: st) (nw w 20 v.toNatClampNeg) (cn + 1) (sn + v.toNatClampNeg)) := w_newarray d_101_148 rfl (by decide +kernel) (by decide +kernel)
theorem d_101_150 : decode (mB 101) 150 = .ok (.putfield 66, 3) := by decide +kernel
theorem s_101_150 {d : Nat} {Q : wQ} {L : List (Option Value)} {st : List Value} {w : aw} {cn sn : Nat} {x : Nat} {a : Nat} : wp d 101 Q 150 L (.ref x :: .ref a :: st) w cn sn = (kd w a = 9 ∧ wp d 101 Q 153 L st (uF w 540 a (.ref x)) cn sn) := w_putfield d_101_150 (by decide +kernel : fT (mO 101) 66 = some (8, 28)) (by decide +kernel) ok_arr
theorem d_101_153 : decode (mB 101) 153 = .ok (.aload_n 0, 1) := by decide +kernel
theorem s_101_153 {d : Nat} {Q : wQ} {L : List (Option Value)} {st : List Value} {w : aw} {cn sn : Nat} {v : Nat} : wp d 101 Q 153 (some (.ref v) :: L) st w cn sn = wp d 101 Q 154 (some (.ref v) :: L) (.ref v :: st) w cn sn := w_aload_n d_101_153 rfl
theorem d_101_154 : decode (mB 101) 154 = .ok (.bipush 8, 2) := by decide +kernel
theorem s_101_154 {d : Nat} {Q : wQ} {L : List (Option Value)} {st : List Value} {w : aw} {cn sn : Nat}  : wp d 101 Q 154 L st w cn sn = wp d 101 Q 156 L (.int 8 :: st) w cn sn := w_bipush d_101_154 (by decide)
theorem d_101_156 : decode (mB 101) 156 = .ok (.newarray .int, 2) := by decide +kernel
theorem s_101_156 {d : Nat} {Q : wQ} {L : List (Option Value)} {st : List Value} {w : aw} {cn sn : Nat} {v : Int32} : wp d 101 Q 156 L (.int v :: st) w cn sn = (¬ v < 0 ∧ v.toNatClampNeg * 4 ≤ 536870912 ∧ cn + 1 ≤ 24 ∧ sn + v.toNatClampNeg ≤ 86736 ∧ wp d 101 Q 158 L (.ref (zs w) :: st) (nw w 20 v.toNatClampNeg) (cn + 1) (sn + v.toNatClampNeg)) := w_newarray d_101_156 rfl (by decide +kernel) (by decide +kernel)
theorem d_101_158 : decode (mB 101) 158 = .ok (.putfield 69, 3) := by decide +kernel
theorem s_101_158 {d : Nat} {Q : wQ} {L : List (Option Value)} {st : List Value} {w : aw} {cn sn : Nat} {x : Nat} {a : Nat} : wp d 101 Q 158 L (.ref x :: .ref a :: st) w cn sn = (kd w a = 9 ∧ wp d 101 Q 161 L st (uF w 541 a (.ref x)) cn sn) := w_putfield d_101_158 (by decide +kernel : fT (mO 101) 69 = some (8, 29)) (by decide +kernel) ok_arr
theorem d_101_161 : decode (mB 101) 161 = .ok (.aload_n 0, 1) := by decide +kernel
theorem s_101_161 {d : Nat} {Q : wQ} {L : List (Option Value)} {st : List Value} {w : aw} {cn sn : Nat} {v : Nat} : wp d 101 Q 161 (some (.ref v) :: L) st w cn sn = wp d 101 Q 162 (some (.ref v) :: L) (.ref v :: st) w cn sn := w_aload_n d_101_161 rfl
theorem d_101_162 : decode (mB 101) 162 = .ok (.sipush 8000, 3) := by decide +kernel
theorem s_101_162 {d : Nat} {Q : wQ} {L : List (Option Value)} {st : List Value} {w : aw} {cn sn : Nat}  : wp d 101 Q 162 L st w cn sn = wp d 101 Q 165 L (.int 8000 :: st) w cn sn := w_sipush d_101_162 (by decide)
theorem d_101_165 : decode (mB 101) 165 = .ok (.newarray .int, 2) := by decide +kernel
theorem s_101_165 {d : Nat} {Q : wQ} {L : List (Option Value)} {st : List Value} {w : aw} {cn sn : Nat} {v : Int32} : wp d 101 Q 165 L (.int v :: st) w cn sn = (¬ v < 0 ∧ v.toNatClampNeg * 4 ≤ 536870912 ∧ cn + 1 ≤ 24 ∧ sn + v.toNatClampNeg ≤ 86736 ∧ wp d 101 Q 167 L (.ref (zs w) :: st) (nw w 20 v.toNatClampNeg) (cn + 1) (sn + v.toNatClampNeg)) := w_newarray d_101_165 rfl (by decide +kernel) (by decide +kernel)
theorem d_101_167 : decode (mB 101) 167 = .ok (.putfield 72, 3) := by decide +kernel
theorem s_101_167 {d : Nat} {Q : wQ} {L : List (Option Value)} {st : List Value} {w : aw} {cn sn : Nat} {x : Nat} {a : Nat} : wp d 101 Q 167 L (.ref x :: .ref a :: st) w cn sn = (kd w a = 9 ∧ wp d 101 Q 170 L st (uF w 542 a (.ref x)) cn sn) := w_putfield d_101_167 (by decide +kernel : fT (mO 101) 72 = some (8, 30)) (by decide +kernel) ok_arr
theorem d_101_170 : decode (mB 101) 170 = .ok (.aload_n 0, 1) := by decide +kernel
theorem s_101_170 {d : Nat} {Q : wQ} {L : List (Option Value)} {st : List Value} {w : aw} {cn sn : Nat} {v : Nat} : wp d 101 Q 170 (some (.ref v) :: L) st w cn sn = wp d 101 Q 171 (some (.ref v) :: L) (.ref v :: st) w cn sn := w_aload_n d_101_170 rfl
theorem d_101_171 : decode (mB 101) 171 = .ok (.sipush 260, 3) := by decide +kernel
theorem s_101_171 {d : Nat} {Q : wQ} {L : List (Option Value)} {st : List Value} {w : aw} {cn sn : Nat}  : wp d 101 Q 171 L st w cn sn = wp d 101 Q 174 L (.int 260 :: st) w cn sn := w_sipush d_101_171 (by decide)
theorem d_101_174 : decode (mB 101) 174 = .ok (.newarray .long, 2) := by decide +kernel
theorem s_101_174 {d : Nat} {Q : wQ} {L : List (Option Value)} {st : List Value} {w : aw} {cn sn : Nat} {v : Int32} : wp d 101 Q 174 L (.int v :: st) w cn sn = (¬ v < 0 ∧ v.toNatClampNeg * 8 ≤ 536870912 ∧ cn + 1 ≤ 24 ∧ sn + v.toNatClampNeg ≤ 86736 ∧ wp d 101 Q 176 L (.ref (zs w) :: st) (nw w 22 v.toNatClampNeg) (cn + 1) (sn + v.toNatClampNeg)) := w_newarray d_101_174 rfl (by decide +kernel) (by decide +kernel)
theorem d_101_176 : decode (mB 101) 176 = .ok (.putfield 75, 3) := by decide +kernel
theorem s_101_176 {d : Nat} {Q : wQ} {L : List (Option Value)} {st : List Value} {w : aw} {cn sn : Nat} {x : Nat} {a : Nat} : wp d 101 Q 176 L (.ref x :: .ref a :: st) w cn sn = (kd w a = 9 ∧ wp d 101 Q 179 L st (uF w 546 a (.ref x)) cn sn) := w_putfield d_101_176 (by decide +kernel : fT (mO 101) 75 = some (8, 34)) (by decide +kernel) ok_arr
theorem d_101_179 : decode (mB 101) 179 = .ok (.aload_n 0, 1) := by decide +kernel
theorem s_101_179 {d : Nat} {Q : wQ} {L : List (Option Value)} {st : List Value} {w : aw} {cn sn : Nat} {v : Nat} : wp d 101 Q 179 (some (.ref v) :: L) st w cn sn = wp d 101 Q 180 (some (.ref v) :: L) (.ref v :: st) w cn sn := w_aload_n d_101_179 rfl
theorem d_101_180 : decode (mB 101) 180 = .ok (.sipush 260, 3) := by decide +kernel
theorem s_101_180 {d : Nat} {Q : wQ} {L : List (Option Value)} {st : List Value} {w : aw} {cn sn : Nat}  : wp d 101 Q 180 L st w cn sn = wp d 101 Q 183 L (.int 260 :: st) w cn sn := w_sipush d_101_180 (by decide)
theorem d_101_183 : decode (mB 101) 183 = .ok (.newarray .int, 2) := by decide +kernel
theorem s_101_183 {d : Nat} {Q : wQ} {L : List (Option Value)} {st : List Value} {w : aw} {cn sn : Nat} {v : Int32} : wp d 101 Q 183 L (.int v :: st) w cn sn = (¬ v < 0 ∧ v.toNatClampNeg * 4 ≤ 536870912 ∧ cn + 1 ≤ 24 ∧ sn + v.toNatClampNeg ≤ 86736 ∧ wp d 101 Q 185 L (.ref (zs w) :: st) (nw w 20 v.toNatClampNeg) (cn + 1) (sn + v.toNatClampNeg)) := w_newarray d_101_183 rfl (by decide +kernel) (by decide +kernel)
theorem d_101_185 : decode (mB 101) 185 = .ok (.putfield 79, 3) := by decide +kernel
theorem s_101_185 {d : Nat} {Q : wQ} {L : List (Option Value)} {st : List Value} {w : aw} {cn sn : Nat} {x : Nat} {a : Nat} : wp d 101 Q 185 L (.ref x :: .ref a :: st) w cn sn = (kd w a = 9 ∧ wp d 101 Q 188 L st (uF w 547 a (.ref x)) cn sn) := w_putfield d_101_185 (by decide +kernel : fT (mO 101) 79 = some (8, 35)) (by decide +kernel) ok_arr
theorem d_101_188 : decode (mB 101) 188 = .ok (.aload_n 0, 1) := by decide +kernel
theorem s_101_188 {d : Nat} {Q : wQ} {L : List (Option Value)} {st : List Value} {w : aw} {cn sn : Nat} {v : Nat} : wp d 101 Q 188 (some (.ref v) :: L) st w cn sn = wp d 101 Q 189 (some (.ref v) :: L) (.ref v :: st) w cn sn := w_aload_n d_101_188 rfl
theorem d_101_189 : decode (mB 101) 189 = .ok (.sipush 4096, 3) := by decide +kernel
theorem s_101_189 {d : Nat} {Q : wQ} {L : List (Option Value)} {st : List Value} {w : aw} {cn sn : Nat}  : wp d 101 Q 189 L st w cn sn = wp d 101 Q 192 L (.int 4096 :: st) w cn sn := w_sipush d_101_189 (by decide)
theorem d_101_192 : decode (mB 101) 192 = .ok (.newarray .int, 2) := by decide +kernel
theorem s_101_192 {d : Nat} {Q : wQ} {L : List (Option Value)} {st : List Value} {w : aw} {cn sn : Nat} {v : Int32} : wp d 101 Q 192 L (.int v :: st) w cn sn = (¬ v < 0 ∧ v.toNatClampNeg * 4 ≤ 536870912 ∧ cn + 1 ≤ 24 ∧ sn + v.toNatClampNeg ≤ 86736 ∧ wp d 101 Q 194 L (.ref (zs w) :: st) (nw w 20 v.toNatClampNeg) (cn + 1) (sn + v.toNatClampNeg)) := w_newarray d_101_192 rfl (by decide +kernel) (by decide +kernel)
theorem d_101_194 : decode (mB 101) 194 = .ok (.putfield 82, 3) := by decide +kernel
theorem s_101_194 {d : Nat} {Q : wQ} {L : List (Option Value)} {st : List Value} {w : aw} {cn sn : Nat} {x : Nat} {a : Nat} : wp d 101 Q 194 L (.ref x :: .ref a :: st) w cn sn = (kd w a = 9 ∧ wp d 101 Q 197 L st (uF w 550 a (.ref x)) cn sn) := w_putfield d_101_194 (by decide +kernel : fT (mO 101) 82 = some (8, 38)) (by decide +kernel) ok_arr
theorem d_101_197 : decode (mB 101) 197 = .ok (.aload_n 0, 1) := by decide +kernel
theorem s_101_197 {d : Nat} {Q : wQ} {L : List (Option Value)} {st : List Value} {w : aw} {cn sn : Nat} {v : Nat} : wp d 101 Q 197 (some (.ref v) :: L) st w cn sn = wp d 101 Q 198 (some (.ref v) :: L) (.ref v :: st) w cn sn := w_aload_n d_101_197 rfl
theorem d_101_198 : decode (mB 101) 198 = .ok (.sipush 4096, 3) := by decide +kernel
theorem s_101_198 {d : Nat} {Q : wQ} {L : List (Option Value)} {st : List Value} {w : aw} {cn sn : Nat}  : wp d 101 Q 198 L st w cn sn = wp d 101 Q 201 L (.int 4096 :: st) w cn sn := w_sipush d_101_198 (by decide)
theorem d_101_201 : decode (mB 101) 201 = .ok (.newarray .boolean, 2) := by decide +kernel
theorem s_101_201 {d : Nat} {Q : wQ} {L : List (Option Value)} {st : List Value} {w : aw} {cn sn : Nat} {v : Int32} : wp d 101 Q 201 L (.int v :: st) w cn sn = (¬ v < 0 ∧ v.toNatClampNeg * 1 ≤ 536870912 ∧ cn + 1 ≤ 24 ∧ sn + v.toNatClampNeg ≤ 86736 ∧ wp d 101 Q 203 L (.ref (zs w) :: st) (nw w 23 v.toNatClampNeg) (cn + 1) (sn + v.toNatClampNeg)) := w_newarray d_101_201 rfl (by decide +kernel) (by decide +kernel)
theorem d_101_203 : decode (mB 101) 203 = .ok (.putfield 85, 3) := by decide +kernel
theorem s_101_203 {d : Nat} {Q : wQ} {L : List (Option Value)} {st : List Value} {w : aw} {cn sn : Nat} {x : Nat} {a : Nat} : wp d 101 Q 203 L (.ref x :: .ref a :: st) w cn sn = (kd w a = 9 ∧ wp d 101 Q 206 L st (uF w 551 a (.ref x)) cn sn) := w_putfield d_101_203 (by decide +kernel : fT (mO 101) 85 = some (8, 39)) (by decide +kernel) ok_arr
theorem d_101_206 : decode (mB 101) 206 = .ok (.aload_n 0, 1) := by decide +kernel
theorem s_101_206 {d : Nat} {Q : wQ} {L : List (Option Value)} {st : List Value} {w : aw} {cn sn : Nat} {v : Nat} : wp d 101 Q 206 (some (.ref v) :: L) st w cn sn = wp d 101 Q 207 (some (.ref v) :: L) (.ref v :: st) w cn sn := w_aload_n d_101_206 rfl
theorem d_101_207 : decode (mB 101) 207 = .ok (.bipush 32, 2) := by decide +kernel
theorem s_101_207 {d : Nat} {Q : wQ} {L : List (Option Value)} {st : List Value} {w : aw} {cn sn : Nat}  : wp d 101 Q 207 L st w cn sn = wp d 101 Q 209 L (.int 32 :: st) w cn sn := w_bipush d_101_207 (by decide)
theorem d_101_209 : decode (mB 101) 209 = .ok (.newarray .int, 2) := by decide +kernel
theorem s_101_209 {d : Nat} {Q : wQ} {L : List (Option Value)} {st : List Value} {w : aw} {cn sn : Nat} {v : Int32} : wp d 101 Q 209 L (.int v :: st) w cn sn = (¬ v < 0 ∧ v.toNatClampNeg * 4 ≤ 536870912 ∧ cn + 1 ≤ 24 ∧ sn + v.toNatClampNeg ≤ 86736 ∧ wp d 101 Q 211 L (.ref (zs w) :: st) (nw w 20 v.toNatClampNeg) (cn + 1) (sn + v.toNatClampNeg)) := w_newarray d_101_209 rfl (by decide +kernel) (by decide +kernel)
theorem d_101_211 : decode (mB 101) 211 = .ok (.putfield 89, 3) := by decide +kernel
theorem s_101_211 {d : Nat} {Q : wQ} {L : List (Option Value)} {st : List Value} {w : aw} {cn sn : Nat} {x : Nat} {a : Nat} : wp d 101 Q 211 L (.ref x :: .ref a :: st) w cn sn = (kd w a = 9 ∧ wp d 101 Q 214 L st (uF w 552 a (.ref x)) cn sn) := w_putfield d_101_211 (by decide +kernel : fT (mO 101) 89 = some (8, 40)) (by decide +kernel) ok_arr
theorem d_101_214 : decode (mB 101) 214 = .ok (.aload_n 0, 1) := by decide +kernel
theorem s_101_214 {d : Nat} {Q : wQ} {L : List (Option Value)} {st : List Value} {w : aw} {cn sn : Nat} {v : Nat} : wp d 101 Q 214 (some (.ref v) :: L) st w cn sn = wp d 101 Q 215 (some (.ref v) :: L) (.ref v :: st) w cn sn := w_aload_n d_101_214 rfl
theorem d_101_215 : decode (mB 101) 215 = .ok (.bipush 67, 2) := by decide +kernel
theorem s_101_215 {d : Nat} {Q : wQ} {L : List (Option Value)} {st : List Value} {w : aw} {cn sn : Nat}  : wp d 101 Q 215 L st w cn sn = wp d 101 Q 217 L (.int 67 :: st) w cn sn := w_bipush d_101_215 (by decide)
theorem d_101_217 : decode (mB 101) 217 = .ok (.bipush 76, 2) := by decide +kernel
theorem s_101_217 {d : Nat} {Q : wQ} {L : List (Option Value)} {st : List Value} {w : aw} {cn sn : Nat}  : wp d 101 Q 217 L st w cn sn = wp d 101 Q 219 L (.int 76 :: st) w cn sn := w_bipush d_101_217 (by decide)
theorem d_101_219 : decode (mB 101) 219 = .ok (.bipush 65, 2) := by decide +kernel
theorem s_101_219 {d : Nat} {Q : wQ} {L : List (Option Value)} {st : List Value} {w : aw} {cn sn : Nat}  : wp d 101 Q 219 L st w cn sn = wp d 101 Q 221 L (.int 65 :: st) w cn sn := w_bipush d_101_219 (by decide)
theorem d_101_221 : decode (mB 101) 221 = .ok (.sipush 3712, 3) := by decide +kernel
theorem s_101_221 {d : Nat} {Q : wQ} {L : List (Option Value)} {st : List Value} {w : aw} {cn sn : Nat}  : wp d 101 Q 221 L st w cn sn = wp d 101 Q 224 L (.int 3712 :: st) w cn sn := w_sipush d_101_221 (by decide)
theorem d_101_224 : decode (mB 101) 224 = .ok (.invokevirtual 92, 3) := by decide +kernel
theorem s_101_224 {d : Nat} {Q : wQ} {L : List (Option Value)} {st : List Value} {w : aw} {cn sn : Nat} {v0 v1 v2 v3 : Value} {b : Nat} : wp d 101 Q 224 L (v3 :: v2 :: v1 :: v0 :: .ref b :: st) w cn sn = (kd w b = 9 ∧ catS st ≤ 8 ∧ wpD d 102 [.ref b, v0, v1, v2, v3] w (fun v w' => wp d 101 Q 227 L (v.toList ++ st) w' cn sn)) := w_virtual (As := [v0, v1, v2, v3]) d_101_224 (by decide +kernel : cT (mO 101) 92 = some (0, 102)) rfl (by decide +kernel) rfl (by decide +kernel) rfl
theorem d_101_227 : decode (mB 101) 227 = .ok (.aload_n 0, 1) := by decide +kernel
theorem s_101_227 {d : Nat} {Q : wQ} {L : List (Option Value)} {st : List Value} {w : aw} {cn sn : Nat} {v : Nat} : wp d 101 Q 227 (some (.ref v) :: L) st w cn sn = wp d 101 Q 228 (some (.ref v) :: L) (.ref v :: st) w cn sn := w_aload_n d_101_227 rfl
theorem d_101_228 : decode (mB 101) 228 = .ok (.bipush 67, 2) := by decide +kernel
theorem s_101_228 {d : Nat} {Q : wQ} {L : List (Option Value)} {st : List Value} {w : aw} {cn sn : Nat}  : wp d 101 Q 228 L st w cn sn = wp d 101 Q 230 L (.int 67 :: st) w cn sn := w_bipush d_101_228 (by decide)
theorem d_101_230 : decode (mB 101) 230 = .ok (.bipush 76, 2) := by decide +kernel
theorem s_101_230 {d : Nat} {Q : wQ} {L : List (Option Value)} {st : List Value} {w : aw} {cn sn : Nat}  : wp d 101 Q 230 L st w cn sn = wp d 101 Q 232 L (.int 76 :: st) w cn sn := w_bipush d_101_230 (by decide)
theorem d_101_232 : decode (mB 101) 232 = .ok (.bipush 76, 2) := by decide +kernel
theorem s_101_232 {d : Nat} {Q : wQ} {L : List (Option Value)} {st : List Value} {w : aw} {cn sn : Nat}  : wp d 101 Q 232 L st w cn sn = wp d 101 Q 234 L (.int 76 :: st) w cn sn := w_bipush d_101_232 (by decide)
theorem d_101_234 : decode (mB 101) 234 = .ok (.sipush 3648, 3) := by decide +kernel
theorem s_101_234 {d : Nat} {Q : wQ} {L : List (Option Value)} {st : List Value} {w : aw} {cn sn : Nat}  : wp d 101 Q 234 L st w cn sn = wp d 101 Q 237 L (.int 3648 :: st) w cn sn := w_sipush d_101_234 (by decide)
theorem d_101_237 : decode (mB 101) 237 = .ok (.invokevirtual 92, 3) := by decide +kernel
theorem s_101_237 {d : Nat} {Q : wQ} {L : List (Option Value)} {st : List Value} {w : aw} {cn sn : Nat} {v0 v1 v2 v3 : Value} {b : Nat} : wp d 101 Q 237 L (v3 :: v2 :: v1 :: v0 :: .ref b :: st) w cn sn = (kd w b = 9 ∧ catS st ≤ 8 ∧ wpD d 102 [.ref b, v0, v1, v2, v3] w (fun v w' => wp d 101 Q 240 L (v.toList ++ st) w' cn sn)) := w_virtual (As := [v0, v1, v2, v3]) d_101_237 (by decide +kernel : cT (mO 101) 92 = some (0, 102)) rfl (by decide +kernel) rfl (by decide +kernel) rfl
theorem d_101_240 : decode (mB 101) 240 = .ok (.aload_n 0, 1) := by decide +kernel
theorem s_101_240 {d : Nat} {Q : wQ} {L : List (Option Value)} {st : List Value} {w : aw} {cn sn : Nat} {v : Nat} : wp d 101 Q 240 (some (.ref v) :: L) st w cn sn = wp d 101 Q 241 (some (.ref v) :: L) (.ref v :: st) w cn sn := w_aload_n d_101_240 rfl
theorem d_101_241 : decode (mB 101) 241 = .ok (.bipush 67, 2) := by decide +kernel
theorem s_101_241 {d : Nat} {Q : wQ} {L : List (Option Value)} {st : List Value} {w : aw} {cn sn : Nat}  : wp d 101 Q 241 L st w cn sn = wp d 101 Q 243 L (.int 67 :: st) w cn sn := w_bipush d_101_241 (by decide)
theorem d_101_243 : decode (mB 101) 243 = .ok (.bipush 77, 2) := by decide +kernel
theorem s_101_243 {d : Nat} {Q : wQ} {L : List (Option Value)} {st : List Value} {w : aw} {cn sn : Nat}  : wp d 101 Q 243 L st w cn sn = wp d 101 Q 245 L (.int 77 :: st) w cn sn := w_bipush d_101_243 (by decide)
theorem d_101_245 : decode (mB 101) 245 = .ok (.bipush 65, 2) := by decide +kernel
theorem s_101_245 {d : Nat} {Q : wQ} {L : List (Option Value)} {st : List Value} {w : aw} {cn sn : Nat}  : wp d 101 Q 245 L st w cn sn = wp d 101 Q 247 L (.int 65 :: st) w cn sn := w_bipush d_101_245 (by decide)
theorem d_101_247 : decode (mB 101) 247 = .ok (.sipush 3616, 3) := by decide +kernel
theorem s_101_247 {d : Nat} {Q : wQ} {L : List (Option Value)} {st : List Value} {w : aw} {cn sn : Nat}  : wp d 101 Q 247 L st w cn sn = wp d 101 Q 250 L (.int 3616 :: st) w cn sn := w_sipush d_101_247 (by decide)
theorem d_101_250 : decode (mB 101) 250 = .ok (.invokevirtual 92, 3) := by decide +kernel
theorem s_101_250 {d : Nat} {Q : wQ} {L : List (Option Value)} {st : List Value} {w : aw} {cn sn : Nat} {v0 v1 v2 v3 : Value} {b : Nat} : wp d 101 Q 250 L (v3 :: v2 :: v1 :: v0 :: .ref b :: st) w cn sn = (kd w b = 9 ∧ catS st ≤ 8 ∧ wpD d 102 [.ref b, v0, v1, v2, v3] w (fun v w' => wp d 101 Q 253 L (v.toList ++ st) w' cn sn)) := w_virtual (As := [v0, v1, v2, v3]) d_101_250 (by decide +kernel : cT (mO 101) 92 = some (0, 102)) rfl (by decide +kernel) rfl (by decide +kernel) rfl
theorem d_101_253 : decode (mB 101) 253 = .ok (.aload_n 0, 1) := by decide +kernel
theorem s_101_253 {d : Nat} {Q : wQ} {L : List (Option Value)} {st : List Value} {w : aw} {cn sn : Nat} {v : Nat} : wp d 101 Q 253 (some (.ref v) :: L) st w cn sn = wp d 101 Q 254 (some (.ref v) :: L) (.ref v :: st) w cn sn := w_aload_n d_101_253 rfl
theorem d_101_254 : decode (mB 101) 254 = .ok (.bipush 67, 2) := by decide +kernel
theorem s_101_254 {d : Nat} {Q : wQ} {L : List (Option Value)} {st : List Value} {w : aw} {cn sn : Nat}  : wp d 101 Q 254 L st w cn sn = wp d 101 Q 256 L (.int 67 :: st) w cn sn := w_bipush d_101_254 (by decide)
theorem d_101_256 : decode (mB 101) 256 = .ok (.bipush 77, 2) := by decide +kernel
theorem s_101_256 {d : Nat} {Q : wQ} {L : List (Option Value)} {st : List Value} {w : aw} {cn sn : Nat}  : wp d 101 Q 256 L st w cn sn = wp d 101 Q 258 L (.int 77 :: st) w cn sn := w_bipush d_101_256 (by decide)
theorem d_101_258 : decode (mB 101) 258 = .ok (.bipush 76, 2) := by decide +kernel
theorem s_101_258 {d : Nat} {Q : wQ} {L : List (Option Value)} {st : List Value} {w : aw} {cn sn : Nat}  : wp d 101 Q 258 L st w cn sn = wp d 101 Q 260 L (.int 76 :: st) w cn sn := w_bipush d_101_258 (by decide)
theorem d_101_260 : decode (mB 101) 260 = .ok (.sipush 3600, 3) := by decide +kernel
theorem s_101_260 {d : Nat} {Q : wQ} {L : List (Option Value)} {st : List Value} {w : aw} {cn sn : Nat}  : wp d 101 Q 260 L st w cn sn = wp d 101 Q 263 L (.int 3600 :: st) w cn sn := w_sipush d_101_260 (by decide)
theorem d_101_263 : decode (mB 101) 263 = .ok (.invokevirtual 92, 3) := by decide +kernel
theorem s_101_263 {d : Nat} {Q : wQ} {L : List (Option Value)} {st : List Value} {w : aw} {cn sn : Nat} {v0 v1 v2 v3 : Value} {b : Nat} : wp d 101 Q 263 L (v3 :: v2 :: v1 :: v0 :: .ref b :: st) w cn sn = (kd w b = 9 ∧ catS st ≤ 8 ∧ wpD d 102 [.ref b, v0, v1, v2, v3] w (fun v w' => wp d 101 Q 266 L (v.toList ++ st) w' cn sn)) := w_virtual (As := [v0, v1, v2, v3]) d_101_263 (by decide +kernel : cT (mO 101) 92 = some (0, 102)) rfl (by decide +kernel) rfl (by decide +kernel) rfl
theorem d_101_266 : decode (mB 101) 266 = .ok (.aload_n 0, 1) := by decide +kernel
theorem s_101_266 {d : Nat} {Q : wQ} {L : List (Option Value)} {st : List Value} {w : aw} {cn sn : Nat} {v : Nat} : wp d 101 Q 266 (some (.ref v) :: L) st w cn sn = wp d 101 Q 267 (some (.ref v) :: L) (.ref v :: st) w cn sn := w_aload_n d_101_266 rfl
theorem d_101_267 : decode (mB 101) 267 = .ok (.bipush 82, 2) := by decide +kernel
theorem s_101_267 {d : Nat} {Q : wQ} {L : List (Option Value)} {st : List Value} {w : aw} {cn sn : Nat}  : wp d 101 Q 267 L st w cn sn = wp d 101 Q 269 L (.int 82 :: st) w cn sn := w_bipush d_101_267 (by decide)
theorem d_101_269 : decode (mB 101) 269 = .ok (.bipush 65, 2) := by decide +kernel
theorem s_101_269 {d : Nat} {Q : wQ} {L : List (Option Value)} {st : List Value} {w : aw} {cn sn : Nat}  : wp d 101 Q 269 L st w cn sn = wp d 101 Q 271 L (.int 65 :: st) w cn sn := w_bipush d_101_269 (by decide)
theorem d_101_271 : decode (mB 101) 271 = .ok (.bipush 82, 2) := by decide +kernel
theorem s_101_271 {d : Nat} {Q : wQ} {L : List (Option Value)} {st : List Value} {w : aw} {cn sn : Nat}  : wp d 101 Q 271 L st w cn sn = wp d 101 Q 273 L (.int 82 :: st) w cn sn := w_bipush d_101_271 (by decide)
theorem d_101_273 : decode (mB 101) 273 = .ok (.sipush 3592, 3) := by decide +kernel
theorem s_101_273 {d : Nat} {Q : wQ} {L : List (Option Value)} {st : List Value} {w : aw} {cn sn : Nat}  : wp d 101 Q 273 L st w cn sn = wp d 101 Q 276 L (.int 3592 :: st) w cn sn := w_sipush d_101_273 (by decide)
theorem d_101_276 : decode (mB 101) 276 = .ok (.invokevirtual 92, 3) := by decide +kernel
theorem s_101_276 {d : Nat} {Q : wQ} {L : List (Option Value)} {st : List Value} {w : aw} {cn sn : Nat} {v0 v1 v2 v3 : Value} {b : Nat} : wp d 101 Q 276 L (v3 :: v2 :: v1 :: v0 :: .ref b :: st) w cn sn = (kd w b = 9 ∧ catS st ≤ 8 ∧ wpD d 102 [.ref b, v0, v1, v2, v3] w (fun v w' => wp d 101 Q 279 L (v.toList ++ st) w' cn sn)) := w_virtual (As := [v0, v1, v2, v3]) d_101_276 (by decide +kernel : cT (mO 101) 92 = some (0, 102)) rfl (by decide +kernel) rfl (by decide +kernel) rfl
theorem d_101_279 : decode (mB 101) 279 = .ok (.aload_n 0, 1) := by decide +kernel
theorem s_101_279 {d : Nat} {Q : wQ} {L : List (Option Value)} {st : List Value} {w : aw} {cn sn : Nat} {v : Nat} : wp d 101 Q 279 (some (.ref v) :: L) st w cn sn = wp d 101 Q 280 (some (.ref v) :: L) (.ref v :: st) w cn sn := w_aload_n d_101_279 rfl
theorem d_101_280 : decode (mB 101) 280 = .ok (.bipush 82, 2) := by decide +kernel
theorem s_101_280 {d : Nat} {Q : wQ} {L : List (Option Value)} {st : List Value} {w : aw} {cn sn : Nat}  : wp d 101 Q 280 L st w cn sn = wp d 101 Q 282 L (.int 82 :: st) w cn sn := w_bipush d_101_280 (by decide)
theorem d_101_282 : decode (mB 101) 282 = .ok (.bipush 65, 2) := by decide +kernel
theorem s_101_282 {d : Nat} {Q : wQ} {L : List (Option Value)} {st : List Value} {w : aw} {cn sn : Nat}  : wp d 101 Q 282 L st w cn sn = wp d 101 Q 284 L (.int 65 :: st) w cn sn := w_bipush d_101_282 (by decide)
theorem d_101_284 : decode (mB 101) 284 = .ok (.bipush 76, 2) := by decide +kernel
theorem s_101_284 {d : Nat} {Q : wQ} {L : List (Option Value)} {st : List Value} {w : aw} {cn sn : Nat}  : wp d 101 Q 284 L st w cn sn = wp d 101 Q 286 L (.int 76 :: st) w cn sn := w_bipush d_101_284 (by decide)
theorem d_101_286 : decode (mB 101) 286 = .ok (.sipush 3588, 3) := by decide +kernel
theorem s_101_286 {d : Nat} {Q : wQ} {L : List (Option Value)} {st : List Value} {w : aw} {cn sn : Nat}  : wp d 101 Q 286 L st w cn sn = wp d 101 Q 289 L (.int 3588 :: st) w cn sn := w_sipush d_101_286 (by decide)
theorem d_101_289 : decode (mB 101) 289 = .ok (.invokevirtual 92, 3) := by decide +kernel
theorem s_101_289 {d : Nat} {Q : wQ} {L : List (Option Value)} {st : List Value} {w : aw} {cn sn : Nat} {v0 v1 v2 v3 : Value} {b : Nat} : wp d 101 Q 289 L (v3 :: v2 :: v1 :: v0 :: .ref b :: st) w cn sn = (kd w b = 9 ∧ catS st ≤ 8 ∧ wpD d 102 [.ref b, v0, v1, v2, v3] w (fun v w' => wp d 101 Q 292 L (v.toList ++ st) w' cn sn)) := w_virtual (As := [v0, v1, v2, v3]) d_101_289 (by decide +kernel : cT (mO 101) 92 = some (0, 102)) rfl (by decide +kernel) rfl (by decide +kernel) rfl
theorem d_101_292 : decode (mB 101) 292 = .ok (.aload_n 0, 1) := by decide +kernel
theorem s_101_292 {d : Nat} {Q : wQ} {L : List (Option Value)} {st : List Value} {w : aw} {cn sn : Nat} {v : Nat} : wp d 101 Q 292 (some (.ref v) :: L) st w cn sn = wp d 101 Q 293 (some (.ref v) :: L) (.ref v :: st) w cn sn := w_aload_n d_101_292 rfl
theorem d_101_293 : decode (mB 101) 293 = .ok (.bipush 82, 2) := by decide +kernel
theorem s_101_293 {d : Nat} {Q : wQ} {L : List (Option Value)} {st : List Value} {w : aw} {cn sn : Nat}  : wp d 101 Q 293 L st w cn sn = wp d 101 Q 295 L (.int 82 :: st) w cn sn := w_bipush d_101_293 (by decide)
theorem d_101_295 : decode (mB 101) 295 = .ok (.bipush 84, 2) := by decide +kernel
theorem s_101_295 {d : Nat} {Q : wQ} {L : List (Option Value)} {st : List Value} {w : aw} {cn sn : Nat}  : wp d 101 Q 295 L st w cn sn = wp d 101 Q 297 L (.int 84 :: st) w cn sn := w_bipush d_101_295 (by decide)
theorem d_101_297 : decode (mB 101) 297 = .ok (.bipush 82, 2) := by decide +kernel
theorem s_101_297 {d : Nat} {Q : wQ} {L : List (Option Value)} {st : List Value} {w : aw} {cn sn : Nat}  : wp d 101 Q 297 L st w cn sn = wp d 101 Q 299 L (.int 82 :: st) w cn sn := w_bipush d_101_297 (by decide)
theorem d_101_299 : decode (mB 101) 299 = .ok (.sipush 3594, 3) := by decide +kernel
theorem s_101_299 {d : Nat} {Q : wQ} {L : List (Option Value)} {st : List Value} {w : aw} {cn sn : Nat}  : wp d 101 Q 299 L st w cn sn = wp d 101 Q 302 L (.int 3594 :: st) w cn sn := w_sipush d_101_299 (by decide)
theorem d_101_302 : decode (mB 101) 302 = .ok (.invokevirtual 92, 3) := by decide +kernel
theorem s_101_302 {d : Nat} {Q : wQ} {L : List (Option Value)} {st : List Value} {w : aw} {cn sn : Nat} {v0 v1 v2 v3 : Value} {b : Nat} : wp d 101 Q 302 L (v3 :: v2 :: v1 :: v0 :: .ref b :: st) w cn sn = (kd w b = 9 ∧ catS st ≤ 8 ∧ wpD d 102 [.ref b, v0, v1, v2, v3] w (fun v w' => wp d 101 Q 305 L (v.toList ++ st) w' cn sn)) := w_virtual (As := [v0, v1, v2, v3]) d_101_302 (by decide +kernel : cT (mO 101) 92 = some (0, 102)) rfl (by decide +kernel) rfl (by decide +kernel) rfl
theorem d_101_305 : decode (mB 101) 305 = .ok (.aload_n 0, 1) := by decide +kernel
theorem s_101_305 {d : Nat} {Q : wQ} {L : List (Option Value)} {st : List Value} {w : aw} {cn sn : Nat} {v : Nat} : wp d 101 Q 305 (some (.ref v) :: L) st w cn sn = wp d 101 Q 306 (some (.ref v) :: L) (.ref v :: st) w cn sn := w_aload_n d_101_305 rfl
theorem d_101_306 : decode (mB 101) 306 = .ok (.bipush 82, 2) := by decide +kernel
theorem s_101_306 {d : Nat} {Q : wQ} {L : List (Option Value)} {st : List Value} {w : aw} {cn sn : Nat}  : wp d 101 Q 306 L st w cn sn = wp d 101 Q 308 L (.int 82 :: st) w cn sn := w_bipush d_101_306 (by decide)
theorem d_101_308 : decode (mB 101) 308 = .ok (.bipush 84, 2) := by decide +kernel
theorem s_101_308 {d : Nat} {Q : wQ} {L : List (Option Value)} {st : List Value} {w : aw} {cn sn : Nat}  : wp d 101 Q 308 L st w cn sn = wp d 101 Q 310 L (.int 84 :: st) w cn sn := w_bipush d_101_308 (by decide)
theorem d_101_310 : decode (mB 101) 310 = .ok (.bipush 76, 2) := by decide +kernel
theorem s_101_310 {d : Nat} {Q : wQ} {L : List (Option Value)} {st : List Value} {w : aw} {cn sn : Nat}  : wp d 101 Q 310 L st w cn sn = wp d 101 Q 312 L (.int 76 :: st) w cn sn := w_bipush d_101_310 (by decide)
theorem d_101_312 : decode (mB 101) 312 = .ok (.sipush 3590, 3) := by decide +kernel
theorem s_101_312 {d : Nat} {Q : wQ} {L : List (Option Value)} {st : List Value} {w : aw} {cn sn : Nat}  : wp d 101 Q 312 L st w cn sn = wp d 101 Q 315 L (.int 3590 :: st) w cn sn := w_sipush d_101_312 (by decide)
theorem d_101_315 : decode (mB 101) 315 = .ok (.invokevirtual 92, 3) := by decide +kernel
theorem s_101_315 {d : Nat} {Q : wQ} {L : List (Option Value)} {st : List Value} {w : aw} {cn sn : Nat} {v0 v1 v2 v3 : Value} {b : Nat} : wp d 101 Q 315 L (v3 :: v2 :: v1 :: v0 :: .ref b :: st) w cn sn = (kd w b = 9 ∧ catS st ≤ 8 ∧ wpD d 102 [.ref b, v0, v1, v2, v3] w (fun v w' => wp d 101 Q 318 L (v.toList ++ st) w' cn sn)) := w_virtual (As := [v0, v1, v2, v3]) d_101_315 (by decide +kernel : cT (mO 101) 92 = some (0, 102)) rfl (by decide +kernel) rfl (by decide +kernel) rfl
theorem d_101_318 : decode (mB 101) 318 = .ok (.aload_n 0, 1) := by decide +kernel
theorem s_101_318 {d : Nat} {Q : wQ} {L : List (Option Value)} {st : List Value} {w : aw} {cn sn : Nat} {v : Nat} : wp d 101 Q 318 (some (.ref v) :: L) st w cn sn = wp d 101 Q 319 (some (.ref v) :: L) (.ref v :: st) w cn sn := w_aload_n d_101_318 rfl
theorem d_101_319 : decode (mB 101) 319 = .ok (.bipush 73, 2) := by decide +kernel
theorem s_101_319 {d : Nat} {Q : wQ} {L : List (Option Value)} {st : List Value} {w : aw} {cn sn : Nat}  : wp d 101 Q 319 L st w cn sn = wp d 101 Q 321 L (.int 73 :: st) w cn sn := w_bipush d_101_319 (by decide)
theorem d_101_321 : decode (mB 101) 321 = .ok (.bipush 65, 2) := by decide +kernel
theorem s_101_321 {d : Nat} {Q : wQ} {L : List (Option Value)} {st : List Value} {w : aw} {cn sn : Nat}  : wp d 101 Q 321 L st w cn sn = wp d 101 Q 323 L (.int 65 :: st) w cn sn := w_bipush d_101_321 (by decide)
theorem d_101_323 : decode (mB 101) 323 = .ok (.bipush 67, 2) := by decide +kernel
theorem s_101_323 {d : Nat} {Q : wQ} {L : List (Option Value)} {st : List Value} {w : aw} {cn sn : Nat}  : wp d 101 Q 323 L st w cn sn = wp d 101 Q 325 L (.int 67 :: st) w cn sn := w_bipush d_101_323 (by decide)
theorem d_101_325 : decode (mB 101) 325 = .ok (.sipush 3585, 3) := by decide +kernel
theorem s_101_325 {d : Nat} {Q : wQ} {L : List (Option Value)} {st : List Value} {w : aw} {cn sn : Nat}  : wp d 101 Q 325 L st w cn sn = wp d 101 Q 328 L (.int 3585 :: st) w cn sn := w_sipush d_101_325 (by decide)
theorem d_101_328 : decode (mB 101) 328 = .ok (.invokevirtual 92, 3) := by decide +kernel
theorem s_101_328 {d : Nat} {Q : wQ} {L : List (Option Value)} {st : List Value} {w : aw} {cn sn : Nat} {v0 v1 v2 v3 : Value} {b : Nat} : wp d 101 Q 328 L (v3 :: v2 :: v1 :: v0 :: .ref b :: st) w cn sn = (kd w b = 9 ∧ catS st ≤ 8 ∧ wpD d 102 [.ref b, v0, v1, v2, v3] w (fun v w' => wp d 101 Q 331 L (v.toList ++ st) w' cn sn)) := w_virtual (As := [v0, v1, v2, v3]) d_101_328 (by decide +kernel : cT (mO 101) 92 = some (0, 102)) rfl (by decide +kernel) rfl (by decide +kernel) rfl
theorem d_101_331 : decode (mB 101) 331 = .ok (.aload_n 0, 1) := by decide +kernel
theorem s_101_331 {d : Nat} {Q : wQ} {L : List (Option Value)} {st : List Value} {w : aw} {cn sn : Nat} {v : Nat} : wp d 101 Q 331 (some (.ref v) :: L) st w cn sn = wp d 101 Q 332 (some (.ref v) :: L) (.ref v :: st) w cn sn := w_aload_n d_101_331 rfl
theorem d_101_332 : decode (mB 101) 332 = .ok (.bipush 78, 2) := by decide +kernel
theorem s_101_332 {d : Nat} {Q : wQ} {L : List (Option Value)} {st : List Value} {w : aw} {cn sn : Nat}  : wp d 101 Q 332 L st w cn sn = wp d 101 Q 334 L (.int 78 :: st) w cn sn := w_bipush d_101_332 (by decide)
theorem d_101_334 : decode (mB 101) 334 = .ok (.bipush 79, 2) := by decide +kernel
theorem s_101_334 {d : Nat} {Q : wQ} {L : List (Option Value)} {st : List Value} {w : aw} {cn sn : Nat}  : wp d 101 Q 334 L st w cn sn = wp d 101 Q 336 L (.int 79 :: st) w cn sn := w_bipush d_101_334 (by decide)
theorem d_101_336 : decode (mB 101) 336 = .ok (.bipush 80, 2) := by decide +kernel
theorem s_101_336 {d : Nat} {Q : wQ} {L : List (Option Value)} {st : List Value} {w : aw} {cn sn : Nat}  : wp d 101 Q 336 L st w cn sn = wp d 101 Q 338 L (.int 80 :: st) w cn sn := w_bipush d_101_336 (by decide)
theorem d_101_338 : decode (mB 101) 338 = .ok (.sipush 3584, 3) := by decide +kernel
theorem s_101_338 {d : Nat} {Q : wQ} {L : List (Option Value)} {st : List Value} {w : aw} {cn sn : Nat}  : wp d 101 Q 338 L st w cn sn = wp d 101 Q 341 L (.int 3584 :: st) w cn sn := w_sipush d_101_338 (by decide)
theorem d_101_341 : decode (mB 101) 341 = .ok (.invokevirtual 92, 3) := by decide +kernel
theorem s_101_341 {d : Nat} {Q : wQ} {L : List (Option Value)} {st : List Value} {w : aw} {cn sn : Nat} {v0 v1 v2 v3 : Value} {b : Nat} : wp d 101 Q 341 L (v3 :: v2 :: v1 :: v0 :: .ref b :: st) w cn sn = (kd w b = 9 ∧ catS st ≤ 8 ∧ wpD d 102 [.ref b, v0, v1, v2, v3] w (fun v w' => wp d 101 Q 344 L (v.toList ++ st) w' cn sn)) := w_virtual (As := [v0, v1, v2, v3]) d_101_341 (by decide +kernel : cT (mO 101) 92 = some (0, 102)) rfl (by decide +kernel) rfl (by decide +kernel) rfl
theorem d_101_344 : decode (mB 101) 344 = .ok (.aload_n 0, 1) := by decide +kernel
theorem s_101_344 {d : Nat} {Q : wQ} {L : List (Option Value)} {st : List Value} {w : aw} {cn sn : Nat} {v : Nat} : wp d 101 Q 344 (some (.ref v) :: L) st w cn sn = wp d 101 Q 345 (some (.ref v) :: L) (.ref v :: st) w cn sn := w_aload_n d_101_344 rfl
theorem d_101_345 : decode (mB 101) 345 = .ok (.bipush 83, 2) := by decide +kernel
theorem s_101_345 {d : Nat} {Q : wQ} {L : List (Option Value)} {st : List Value} {w : aw} {cn sn : Nat}  : wp d 101 Q 345 L st w cn sn = wp d 101 Q 347 L (.int 83 :: st) w cn sn := w_bipush d_101_345 (by decide)
theorem d_101_347 : decode (mB 101) 347 = .ok (.bipush 77, 2) := by decide +kernel
theorem s_101_347 {d : Nat} {Q : wQ} {L : List (Option Value)} {st : List Value} {w : aw} {cn sn : Nat}  : wp d 101 Q 347 L st w cn sn = wp d 101 Q 349 L (.int 77 :: st) w cn sn := w_bipush d_101_347 (by decide)
theorem d_101_349 : decode (mB 101) 349 = .ok (.bipush 65, 2) := by decide +kernel
theorem s_101_349 {d : Nat} {Q : wQ} {L : List (Option Value)} {st : List Value} {w : aw} {cn sn : Nat}  : wp d 101 Q 349 L st w cn sn = wp d 101 Q 351 L (.int 65 :: st) w cn sn := w_bipush d_101_349 (by decide)
theorem d_101_351 : decode (mB 101) 351 = .ok (.sipush 3904, 3) := by decide +kernel
theorem s_101_351 {d : Nat} {Q : wQ} {L : List (Option Value)} {st : List Value} {w : aw} {cn sn : Nat}  : wp d 101 Q 351 L st w cn sn = wp d 101 Q 354 L (.int 3904 :: st) w cn sn := w_sipush d_101_351 (by decide)
theorem d_101_354 : decode (mB 101) 354 = .ok (.invokevirtual 92, 3) := by decide +kernel
theorem s_101_354 {d : Nat} {Q : wQ} {L : List (Option Value)} {st : List Value} {w : aw} {cn sn : Nat} {v0 v1 v2 v3 : Value} {b : Nat} : wp d 101 Q 354 L (v3 :: v2 :: v1 :: v0 :: .ref b :: st) w cn sn = (kd w b = 9 ∧ catS st ≤ 8 ∧ wpD d 102 [.ref b, v0, v1, v2, v3] w (fun v w' => wp d 101 Q 357 L (v.toList ++ st) w' cn sn)) := w_virtual (As := [v0, v1, v2, v3]) d_101_354 (by decide +kernel : cT (mO 101) 92 = some (0, 102)) rfl (by decide +kernel) rfl (by decide +kernel) rfl
theorem d_101_357 : decode (mB 101) 357 = .ok (.aload_n 0, 1) := by decide +kernel
theorem s_101_357 {d : Nat} {Q : wQ} {L : List (Option Value)} {st : List Value} {w : aw} {cn sn : Nat} {v : Nat} : wp d 101 Q 357 (some (.ref v) :: L) st w cn sn = wp d 101 Q 358 (some (.ref v) :: L) (.ref v :: st) w cn sn := w_aload_n d_101_357 rfl
theorem d_101_358 : decode (mB 101) 358 = .ok (.bipush 83, 2) := by decide +kernel
theorem s_101_358 {d : Nat} {Q : wQ} {L : List (Option Value)} {st : List Value} {w : aw} {cn sn : Nat}  : wp d 101 Q 358 L st w cn sn = wp d 101 Q 360 L (.int 83 :: st) w cn sn := w_bipush d_101_358 (by decide)
theorem d_101_360 : decode (mB 101) 360 = .ok (.bipush 90, 2) := by decide +kernel
theorem s_101_360 {d : Nat} {Q : wQ} {L : List (Option Value)} {st : List Value} {w : aw} {cn sn : Nat}  : wp d 101 Q 360 L st w cn sn = wp d 101 Q 362 L (.int 90 :: st) w cn sn := w_bipush d_101_360 (by decide)
theorem d_101_362 : decode (mB 101) 362 = .ok (.bipush 65, 2) := by decide +kernel
theorem s_101_362 {d : Nat} {Q : wQ} {L : List (Option Value)} {st : List Value} {w : aw} {cn sn : Nat}  : wp d 101 Q 362 L st w cn sn = wp d 101 Q 364 L (.int 65 :: st) w cn sn := w_bipush d_101_362 (by decide)
theorem d_101_364 : decode (mB 101) 364 = .ok (.sipush 3872, 3) := by decide +kernel
theorem s_101_364 {d : Nat} {Q : wQ} {L : List (Option Value)} {st : List Value} {w : aw} {cn sn : Nat}  : wp d 101 Q 364 L st w cn sn = wp d 101 Q 367 L (.int 3872 :: st) w cn sn := w_sipush d_101_364 (by decide)
theorem d_101_367 : decode (mB 101) 367 = .ok (.invokevirtual 92, 3) := by decide +kernel
theorem s_101_367 {d : Nat} {Q : wQ} {L : List (Option Value)} {st : List Value} {w : aw} {cn sn : Nat} {v0 v1 v2 v3 : Value} {b : Nat} : wp d 101 Q 367 L (v3 :: v2 :: v1 :: v0 :: .ref b :: st) w cn sn = (kd w b = 9 ∧ catS st ≤ 8 ∧ wpD d 102 [.ref b, v0, v1, v2, v3] w (fun v w' => wp d 101 Q 370 L (v.toList ++ st) w' cn sn)) := w_virtual (As := [v0, v1, v2, v3]) d_101_367 (by decide +kernel : cT (mO 101) 92 = some (0, 102)) rfl (by decide +kernel) rfl (by decide +kernel) rfl
theorem d_101_370 : decode (mB 101) 370 = .ok (.aload_n 0, 1) := by decide +kernel
theorem s_101_370 {d : Nat} {Q : wQ} {L : List (Option Value)} {st : List Value} {w : aw} {cn sn : Nat} {v : Nat} : wp d 101 Q 370 (some (.ref v) :: L) st w cn sn = wp d 101 Q 371 (some (.ref v) :: L) (.ref v :: st) w cn sn := w_aload_n d_101_370 rfl
theorem d_101_371 : decode (mB 101) 371 = .ok (.bipush 83, 2) := by decide +kernel
theorem s_101_371 {d : Nat} {Q : wQ} {L : List (Option Value)} {st : List Value} {w : aw} {cn sn : Nat}  : wp d 101 Q 371 L st w cn sn = wp d 101 Q 373 L (.int 83 :: st) w cn sn := w_bipush d_101_371 (by decide)
theorem d_101_373 : decode (mB 101) 373 = .ok (.bipush 80, 2) := by decide +kernel
theorem s_101_373 {d : Nat} {Q : wQ} {L : List (Option Value)} {st : List Value} {w : aw} {cn sn : Nat}  : wp d 101 Q 373 L st w cn sn = wp d 101 Q 375 L (.int 80 :: st) w cn sn := w_bipush d_101_373 (by decide)
theorem d_101_375 : decode (mB 101) 375 = .ok (.bipush 65, 2) := by decide +kernel
theorem s_101_375 {d : Nat} {Q : wQ} {L : List (Option Value)} {st : List Value} {w : aw} {cn sn : Nat}  : wp d 101 Q 375 L st w cn sn = wp d 101 Q 377 L (.int 65 :: st) w cn sn := w_bipush d_101_375 (by decide)
theorem d_101_377 : decode (mB 101) 377 = .ok (.sipush 3912, 3) := by decide +kernel
theorem s_101_377 {d : Nat} {Q : wQ} {L : List (Option Value)} {st : List Value} {w : aw} {cn sn : Nat}  : wp d 101 Q 377 L st w cn sn = wp d 101 Q 380 L (.int 3912 :: st) w cn sn := w_sipush d_101_377 (by decide)
theorem d_101_380 : decode (mB 101) 380 = .ok (.invokevirtual 92, 3) := by decide +kernel
theorem s_101_380 {d : Nat} {Q : wQ} {L : List (Option Value)} {st : List Value} {w : aw} {cn sn : Nat} {v0 v1 v2 v3 : Value} {b : Nat} : wp d 101 Q 380 L (v3 :: v2 :: v1 :: v0 :: .ref b :: st) w cn sn = (kd w b = 9 ∧ catS st ≤ 8 ∧ wpD d 102 [.ref b, v0, v1, v2, v3] w (fun v w' => wp d 101 Q 383 L (v.toList ++ st) w' cn sn)) := w_virtual (As := [v0, v1, v2, v3]) d_101_380 (by decide +kernel : cT (mO 101) 92 = some (0, 102)) rfl (by decide +kernel) rfl (by decide +kernel) rfl
theorem d_101_383 : decode (mB 101) 383 = .ok (.aload_n 0, 1) := by decide +kernel
theorem s_101_383 {d : Nat} {Q : wQ} {L : List (Option Value)} {st : List Value} {w : aw} {cn sn : Nat} {v : Nat} : wp d 101 Q 383 (some (.ref v) :: L) st w cn sn = wp d 101 Q 384 (some (.ref v) :: L) (.ref v :: st) w cn sn := w_aload_n d_101_383 rfl
theorem d_101_384 : decode (mB 101) 384 = .ok (.bipush 83, 2) := by decide +kernel
theorem s_101_384 {d : Nat} {Q : wQ} {L : List (Option Value)} {st : List Value} {w : aw} {cn sn : Nat}  : wp d 101 Q 384 L st w cn sn = wp d 101 Q 386 L (.int 83 :: st) w cn sn := w_bipush d_101_384 (by decide)
theorem d_101_386 : decode (mB 101) 386 = .ok (.bipush 78, 2) := by decide +kernel
theorem s_101_386 {d : Nat} {Q : wQ} {L : List (Option Value)} {st : List Value} {w : aw} {cn sn : Nat}  : wp d 101 Q 386 L st w cn sn = wp d 101 Q 388 L (.int 78 :: st) w cn sn := w_bipush d_101_386 (by decide)
theorem d_101_388 : decode (mB 101) 388 = .ok (.bipush 65, 2) := by decide +kernel
theorem s_101_388 {d : Nat} {Q : wQ} {L : List (Option Value)} {st : List Value} {w : aw} {cn sn : Nat}  : wp d 101 Q 388 L st w cn sn = wp d 101 Q 390 L (.int 65 :: st) w cn sn := w_bipush d_101_388 (by decide)
theorem d_101_390 : decode (mB 101) 390 = .ok (.sipush 3880, 3) := by decide +kernel
theorem s_101_390 {d : Nat} {Q : wQ} {L : List (Option Value)} {st : List Value} {w : aw} {cn sn : Nat}  : wp d 101 Q 390 L st w cn sn = wp d 101 Q 393 L (.int 3880 :: st) w cn sn := w_sipush d_101_390 (by decide)
theorem d_101_393 : decode (mB 101) 393 = .ok (.invokevirtual 92, 3) := by decide +kernel
theorem s_101_393 {d : Nat} {Q : wQ} {L : List (Option Value)} {st : List Value} {w : aw} {cn sn : Nat} {v0 v1 v2 v3 : Value} {b : Nat} : wp d 101 Q 393 L (v3 :: v2 :: v1 :: v0 :: .ref b :: st) w cn sn = (kd w b = 9 ∧ catS st ≤ 8 ∧ wpD d 102 [.ref b, v0, v1, v2, v3] w (fun v w' => wp d 101 Q 396 L (v.toList ++ st) w' cn sn)) := w_virtual (As := [v0, v1, v2, v3]) d_101_393 (by decide +kernel : cT (mO 101) 92 = some (0, 102)) rfl (by decide +kernel) rfl (by decide +kernel) rfl
theorem d_101_396 : decode (mB 101) 396 = .ok (.aload_n 0, 1) := by decide +kernel
theorem s_101_396 {d : Nat} {Q : wQ} {L : List (Option Value)} {st : List Value} {w : aw} {cn sn : Nat} {v : Nat} : wp d 101 Q 396 (some (.ref v) :: L) st w cn sn = wp d 101 Q 397 (some (.ref v) :: L) (.ref v :: st) w cn sn := w_aload_n d_101_396 rfl
theorem d_101_397 : decode (mB 101) 397 = .ok (.bipush 83, 2) := by decide +kernel
theorem s_101_397 {d : Nat} {Q : wQ} {L : List (Option Value)} {st : List Value} {w : aw} {cn sn : Nat}  : wp d 101 Q 397 L st w cn sn = wp d 101 Q 399 L (.int 83 :: st) w cn sn := w_bipush d_101_397 (by decide)
theorem d_101_399 : decode (mB 101) 399 = .ok (.bipush 78, 2) := by decide +kernel
theorem s_101_399 {d : Nat} {Q : wQ} {L : List (Option Value)} {st : List Value} {w : aw} {cn sn : Nat}  : wp d 101 Q 399 L st w cn sn = wp d 101 Q 401 L (.int 78 :: st) w cn sn := w_bipush d_101_399 (by decide)
theorem d_101_401 : decode (mB 101) 401 = .ok (.bipush 76, 2) := by decide +kernel
theorem s_101_401 {d : Nat} {Q : wQ} {L : List (Option Value)} {st : List Value} {w : aw} {cn sn : Nat}  : wp d 101 Q 401 L st w cn sn = wp d 101 Q 403 L (.int 76 :: st) w cn sn := w_bipush d_101_401 (by decide)
theorem d_101_403 : decode (mB 101) 403 = .ok (.sipush 3856, 3) := by decide +kernel
theorem s_101_403 {d : Nat} {Q : wQ} {L : List (Option Value)} {st : List Value} {w : aw} {cn sn : Nat}  : wp d 101 Q 403 L st w cn sn = wp d 101 Q 406 L (.int 3856 :: st) w cn sn := w_sipush d_101_403 (by decide)
theorem d_101_406 : decode (mB 101) 406 = .ok (.invokevirtual 92, 3) := by decide +kernel
theorem s_101_406 {d : Nat} {Q : wQ} {L : List (Option Value)} {st : List Value} {w : aw} {cn sn : Nat} {v0 v1 v2 v3 : Value} {b : Nat} : wp d 101 Q 406 L (v3 :: v2 :: v1 :: v0 :: .ref b :: st) w cn sn = (kd w b = 9 ∧ catS st ≤ 8 ∧ wpD d 102 [.ref b, v0, v1, v2, v3] w (fun v w' => wp d 101 Q 409 L (v.toList ++ st) w' cn sn)) := w_virtual (As := [v0, v1, v2, v3]) d_101_406 (by decide +kernel : cT (mO 101) 92 = some (0, 102)) rfl (by decide +kernel) rfl (by decide +kernel) rfl
theorem d_101_409 : decode (mB 101) 409 = .ok (.aload_n 0, 1) := by decide +kernel
theorem s_101_409 {d : Nat} {Q : wQ} {L : List (Option Value)} {st : List Value} {w : aw} {cn sn : Nat} {v : Nat} : wp d 101 Q 409 (some (.ref v) :: L) st w cn sn = wp d 101 Q 410 (some (.ref v) :: L) (.ref v :: st) w cn sn := w_aload_n d_101_409 rfl
theorem d_101_410 : decode (mB 101) 410 = .ok (.bipush 83, 2) := by decide +kernel
theorem s_101_410 {d : Nat} {Q : wQ} {L : List (Option Value)} {st : List Value} {w : aw} {cn sn : Nat}  : wp d 101 Q 410 L st w cn sn = wp d 101 Q 412 L (.int 83 :: st) w cn sn := w_bipush d_101_410 (by decide)
theorem d_101_412 : decode (mB 101) 412 = .ok (.bipush 90, 2) := by decide +kernel
theorem s_101_412 {d : Nat} {Q : wQ} {L : List (Option Value)} {st : List Value} {w : aw} {cn sn : Nat}  : wp d 101 Q 412 L st w cn sn = wp d 101 Q 414 L (.int 90 :: st) w cn sn := w_bipush d_101_412 (by decide)
theorem d_101_414 : decode (mB 101) 414 = .ok (.bipush 76, 2) := by decide +kernel
theorem s_101_414 {d : Nat} {Q : wQ} {L : List (Option Value)} {st : List Value} {w : aw} {cn sn : Nat}  : wp d 101 Q 414 L st w cn sn = wp d 101 Q 416 L (.int 76 :: st) w cn sn := w_bipush d_101_414 (by decide)
theorem d_101_416 : decode (mB 101) 416 = .ok (.sipush 3864, 3) := by decide +kernel
theorem s_101_416 {d : Nat} {Q : wQ} {L : List (Option Value)} {st : List Value} {w : aw} {cn sn : Nat}  : wp d 101 Q 416 L st w cn sn = wp d 101 Q 419 L (.int 3864 :: st) w cn sn := w_sipush d_101_416 (by decide)
theorem d_101_419 : decode (mB 101) 419 = .ok (.invokevirtual 92, 3) := by decide +kernel
theorem s_101_419 {d : Nat} {Q : wQ} {L : List (Option Value)} {st : List Value} {w : aw} {cn sn : Nat} {v0 v1 v2 v3 : Value} {b : Nat} : wp d 101 Q 419 L (v3 :: v2 :: v1 :: v0 :: .ref b :: st) w cn sn = (kd w b = 9 ∧ catS st ≤ 8 ∧ wpD d 102 [.ref b, v0, v1, v2, v3] w (fun v w' => wp d 101 Q 422 L (v.toList ++ st) w' cn sn)) := w_virtual (As := [v0, v1, v2, v3]) d_101_419 (by decide +kernel : cT (mO 101) 92 = some (0, 102)) rfl (by decide +kernel) rfl (by decide +kernel) rfl
theorem d_101_422 : decode (mB 101) 422 = .ok (.aload_n 0, 1) := by decide +kernel
theorem s_101_422 {d : Nat} {Q : wQ} {L : List (Option Value)} {st : List Value} {w : aw} {cn sn : Nat} {v : Nat} : wp d 101 Q 422 (some (.ref v) :: L) st w cn sn = wp d 101 Q 423 (some (.ref v) :: L) (.ref v :: st) w cn sn := w_aload_n d_101_422 rfl
theorem d_101_423 : decode (mB 101) 423 = .ok (.bipush 83, 2) := by decide +kernel
theorem s_101_423 {d : Nat} {Q : wQ} {L : List (Option Value)} {st : List Value} {w : aw} {cn sn : Nat}  : wp d 101 Q 423 L st w cn sn = wp d 101 Q 425 L (.int 83 :: st) w cn sn := w_bipush d_101_423 (by decide)
theorem d_101_425 : decode (mB 101) 425 = .ok (.bipush 75, 2) := by decide +kernel
theorem s_101_425 {d : Nat} {Q : wQ} {L : List (Option Value)} {st : List Value} {w : aw} {cn sn : Nat}  : wp d 101 Q 425 L st w cn sn = wp d 101 Q 427 L (.int 75 :: st) w cn sn := w_bipush d_101_425 (by decide)
theorem d_101_427 : decode (mB 101) 427 = .ok (.bipush 80, 2) := by decide +kernel
theorem s_101_427 {d : Nat} {Q : wQ} {L : List (Option Value)} {st : List Value} {w : aw} {cn sn : Nat}  : wp d 101 Q 427 L st w cn sn = wp d 101 Q 429 L (.int 80 :: st) w cn sn := w_bipush d_101_427 (by decide)
theorem d_101_429 : decode (mB 101) 429 = .ok (.sipush 3848, 3) := by decide +kernel
theorem s_101_429 {d : Nat} {Q : wQ} {L : List (Option Value)} {st : List Value} {w : aw} {cn sn : Nat}  : wp d 101 Q 429 L st w cn sn = wp d 101 Q 432 L (.int 3848 :: st) w cn sn := w_sipush d_101_429 (by decide)
theorem d_101_432 : decode (mB 101) 432 = .ok (.invokevirtual 92, 3) := by decide +kernel
theorem s_101_432 {d : Nat} {Q : wQ} {L : List (Option Value)} {st : List Value} {w : aw} {cn sn : Nat} {v0 v1 v2 v3 : Value} {b : Nat} : wp d 101 Q 432 L (v3 :: v2 :: v1 :: v0 :: .ref b :: st) w cn sn = (kd w b = 9 ∧ catS st ≤ 8 ∧ wpD d 102 [.ref b, v0, v1, v2, v3] w (fun v w' => wp d 101 Q 435 L (v.toList ++ st) w' cn sn)) := w_virtual (As := [v0, v1, v2, v3]) d_101_432 (by decide +kernel : cT (mO 101) 92 = some (0, 102)) rfl (by decide +kernel) rfl (by decide +kernel) rfl
theorem d_101_435 : decode (mB 101) 435 = .ok (.aload_n 0, 1) := by decide +kernel
theorem s_101_435 {d : Nat} {Q : wQ} {L : List (Option Value)} {st : List Value} {w : aw} {cn sn : Nat} {v : Nat} : wp d 101 Q 435 (some (.ref v) :: L) st w cn sn = wp d 101 Q 436 (some (.ref v) :: L) (.ref v :: st) w cn sn := w_aload_n d_101_435 rfl
theorem d_101_436 : decode (mB 101) 436 = .ok (.bipush 79, 2) := by decide +kernel
theorem s_101_436 {d : Nat} {Q : wQ} {L : List (Option Value)} {st : List Value} {w : aw} {cn sn : Nat}  : wp d 101 Q 436 L st w cn sn = wp d 101 Q 438 L (.int 79 :: st) w cn sn := w_bipush d_101_436 (by decide)
theorem d_101_438 : decode (mB 101) 438 = .ok (.bipush 83, 2) := by decide +kernel
theorem s_101_438 {d : Nat} {Q : wQ} {L : List (Option Value)} {st : List Value} {w : aw} {cn sn : Nat}  : wp d 101 Q 438 L st w cn sn = wp d 101 Q 440 L (.int 83 :: st) w cn sn := w_bipush d_101_438 (by decide)
theorem d_101_440 : decode (mB 101) 440 = .ok (.bipush 82, 2) := by decide +kernel
theorem s_101_440 {d : Nat} {Q : wQ} {L : List (Option Value)} {st : List Value} {w : aw} {cn sn : Nat}  : wp d 101 Q 440 L st w cn sn = wp d 101 Q 442 L (.int 82 :: st) w cn sn := w_bipush d_101_440 (by decide)
theorem d_101_442 : decode (mB 101) 442 = .ok (.sipush 3844, 3) := by decide +kernel
theorem s_101_442 {d : Nat} {Q : wQ} {L : List (Option Value)} {st : List Value} {w : aw} {cn sn : Nat}  : wp d 101 Q 442 L st w cn sn = wp d 101 Q 445 L (.int 3844 :: st) w cn sn := w_sipush d_101_442 (by decide)
theorem d_101_445 : decode (mB 101) 445 = .ok (.invokevirtual 92, 3) := by decide +kernel
theorem s_101_445 {d : Nat} {Q : wQ} {L : List (Option Value)} {st : List Value} {w : aw} {cn sn : Nat} {v0 v1 v2 v3 : Value} {b : Nat} : wp d 101 Q 445 L (v3 :: v2 :: v1 :: v0 :: .ref b :: st) w cn sn = (kd w b = 9 ∧ catS st ≤ 8 ∧ wpD d 102 [.ref b, v0, v1, v2, v3] w (fun v w' => wp d 101 Q 448 L (v.toList ++ st) w' cn sn)) := w_virtual (As := [v0, v1, v2, v3]) d_101_445 (by decide +kernel : cT (mO 101) 92 = some (0, 102)) rfl (by decide +kernel) rfl (by decide +kernel) rfl
theorem d_101_448 : decode (mB 101) 448 = .ok (.aload_n 0, 1) := by decide +kernel
theorem s_101_448 {d : Nat} {Q : wQ} {L : List (Option Value)} {st : List Value} {w : aw} {cn sn : Nat} {v : Nat} : wp d 101 Q 448 (some (.ref v) :: L) st w cn sn = wp d 101 Q 449 (some (.ref v) :: L) (.ref v :: st) w cn sn := w_aload_n d_101_448 rfl
theorem d_101_449 : decode (mB 101) 449 = .ok (.bipush 72, 2) := by decide +kernel
theorem s_101_449 {d : Nat} {Q : wQ} {L : List (Option Value)} {st : List Value} {w : aw} {cn sn : Nat}  : wp d 101 Q 449 L st w cn sn = wp d 101 Q 451 L (.int 72 :: st) w cn sn := w_bipush d_101_449 (by decide)
theorem d_101_451 : decode (mB 101) 451 = .ok (.bipush 76, 2) := by decide +kernel
theorem s_101_451 {d : Nat} {Q : wQ} {L : List (Option Value)} {st : List Value} {w : aw} {cn sn : Nat}  : wp d 101 Q 451 L st w cn sn = wp d 101 Q 453 L (.int 76 :: st) w cn sn := w_bipush d_101_451 (by decide)
theorem d_101_453 : decode (mB 101) 453 = .ok (.bipush 84, 2) := by decide +kernel
theorem s_101_453 {d : Nat} {Q : wQ} {L : List (Option Value)} {st : List Value} {w : aw} {cn sn : Nat}  : wp d 101 Q 453 L st w cn sn = wp d 101 Q 455 L (.int 84 :: st) w cn sn := w_bipush d_101_453 (by decide)
theorem d_101_455 : decode (mB 101) 455 = .ok (.sipush 3842, 3) := by decide +kernel
theorem s_101_455 {d : Nat} {Q : wQ} {L : List (Option Value)} {st : List Value} {w : aw} {cn sn : Nat}  : wp d 101 Q 455 L st w cn sn = wp d 101 Q 458 L (.int 3842 :: st) w cn sn := w_sipush d_101_455 (by decide)
theorem d_101_458 : decode (mB 101) 458 = .ok (.invokevirtual 92, 3) := by decide +kernel
theorem s_101_458 {d : Nat} {Q : wQ} {L : List (Option Value)} {st : List Value} {w : aw} {cn sn : Nat} {v0 v1 v2 v3 : Value} {b : Nat} : wp d 101 Q 458 L (v3 :: v2 :: v1 :: v0 :: .ref b :: st) w cn sn = (kd w b = 9 ∧ catS st ≤ 8 ∧ wpD d 102 [.ref b, v0, v1, v2, v3] w (fun v w' => wp d 101 Q 461 L (v.toList ++ st) w' cn sn)) := w_virtual (As := [v0, v1, v2, v3]) d_101_458 (by decide +kernel : cT (mO 101) 92 = some (0, 102)) rfl (by decide +kernel) rfl (by decide +kernel) rfl
theorem d_101_461 : decode (mB 101) 461 = .ok (.aload_n 0, 1) := by decide +kernel
theorem s_101_461 {d : Nat} {Q : wQ} {L : List (Option Value)} {st : List Value} {w : aw} {cn sn : Nat} {v : Nat} : wp d 101 Q 461 (some (.ref v) :: L) st w cn sn = wp d 101 Q 462 (some (.ref v) :: L) (.ref v :: st) w cn sn := w_aload_n d_101_461 rfl
theorem d_101_462 : decode (mB 101) 462 = .ok (.bipush 67, 2) := by decide +kernel
theorem s_101_462 {d : Nat} {Q : wQ} {L : List (Option Value)} {st : List Value} {w : aw} {cn sn : Nat}  : wp d 101 Q 462 L st w cn sn = wp d 101 Q 464 L (.int 67 :: st) w cn sn := w_bipush d_101_462 (by decide)
theorem d_101_464 : decode (mB 101) 464 = .ok (.bipush 73, 2) := by decide +kernel
theorem s_101_464 {d : Nat} {Q : wQ} {L : List (Option Value)} {st : List Value} {w : aw} {cn sn : Nat}  : wp d 101 Q 464 L st w cn sn = wp d 101 Q 466 L (.int 73 :: st) w cn sn := w_bipush d_101_464 (by decide)
theorem d_101_466 : decode (mB 101) 466 = .ok (.bipush 65, 2) := by decide +kernel
theorem s_101_466 {d : Nat} {Q : wQ} {L : List (Option Value)} {st : List Value} {w : aw} {cn sn : Nat}  : wp d 101 Q 466 L st w cn sn = wp d 101 Q 468 L (.int 65 :: st) w cn sn := w_bipush d_101_466 (by decide)
theorem d_101_468 : decode (mB 101) 468 = .ok (.sipush 3617, 3) := by decide +kernel
theorem s_101_468 {d : Nat} {Q : wQ} {L : List (Option Value)} {st : List Value} {w : aw} {cn sn : Nat}  : wp d 101 Q 468 L st w cn sn = wp d 101 Q 471 L (.int 3617 :: st) w cn sn := w_sipush d_101_468 (by decide)
theorem d_101_471 : decode (mB 101) 471 = .ok (.invokevirtual 92, 3) := by decide +kernel
theorem s_101_471 {d : Nat} {Q : wQ} {L : List (Option Value)} {st : List Value} {w : aw} {cn sn : Nat} {v0 v1 v2 v3 : Value} {b : Nat} : wp d 101 Q 471 L (v3 :: v2 :: v1 :: v0 :: .ref b :: st) w cn sn = (kd w b = 9 ∧ catS st ≤ 8 ∧ wpD d 102 [.ref b, v0, v1, v2, v3] w (fun v w' => wp d 101 Q 474 L (v.toList ++ st) w' cn sn)) := w_virtual (As := [v0, v1, v2, v3]) d_101_471 (by decide +kernel : cT (mO 101) 92 = some (0, 102)) rfl (by decide +kernel) rfl (by decide +kernel) rfl
theorem d_101_474 : decode (mB 101) 474 = .ok (.aload_n 0, 1) := by decide +kernel
theorem s_101_474 {d : Nat} {Q : wQ} {L : List (Option Value)} {st : List Value} {w : aw} {cn sn : Nat} {v : Nat} : wp d 101 Q 474 (some (.ref v) :: L) st w cn sn = wp d 101 Q 475 (some (.ref v) :: L) (.ref v :: st) w cn sn := w_aload_n d_101_474 rfl
theorem d_101_475 : decode (mB 101) 475 = .ok (.bipush 75, 2) := by decide +kernel
theorem s_101_475 {d : Nat} {Q : wQ} {L : List (Option Value)} {st : List Value} {w : aw} {cn sn : Nat}  : wp d 101 Q 475 L st w cn sn = wp d 101 Q 477 L (.int 75 :: st) w cn sn := w_bipush d_101_475 (by decide)
theorem d_101_477 : decode (mB 101) 477 = .ok (.bipush 83, 2) := by decide +kernel
theorem s_101_477 {d : Nat} {Q : wQ} {L : List (Option Value)} {st : List Value} {w : aw} {cn sn : Nat}  : wp d 101 Q 477 L st w cn sn = wp d 101 Q 479 L (.int 83 :: st) w cn sn := w_bipush d_101_477 (by decide)
theorem d_101_479 : decode (mB 101) 479 = .ok (.bipush 70, 2) := by decide +kernel
theorem s_101_479 {d : Nat} {Q : wQ} {L : List (Option Value)} {st : List Value} {w : aw} {cn sn : Nat}  : wp d 101 Q 479 L st w cn sn = wp d 101 Q 481 L (.int 70 :: st) w cn sn := w_bipush d_101_479 (by decide)
theorem d_101_481 : decode (mB 101) 481 = .ok (.sipush 3097, 3) := by decide +kernel
theorem s_101_481 {d : Nat} {Q : wQ} {L : List (Option Value)} {st : List Value} {w : aw} {cn sn : Nat}  : wp d 101 Q 481 L st w cn sn = wp d 101 Q 484 L (.int 3097 :: st) w cn sn := w_sipush d_101_481 (by decide)
theorem d_101_484 : decode (mB 101) 484 = .ok (.invokevirtual 92, 3) := by decide +kernel
theorem s_101_484 {d : Nat} {Q : wQ} {L : List (Option Value)} {st : List Value} {w : aw} {cn sn : Nat} {v0 v1 v2 v3 : Value} {b : Nat} : wp d 101 Q 484 L (v3 :: v2 :: v1 :: v0 :: .ref b :: st) w cn sn = (kd w b = 9 ∧ catS st ≤ 8 ∧ wpD d 102 [.ref b, v0, v1, v2, v3] w (fun v w' => wp d 101 Q 487 L (v.toList ++ st) w' cn sn)) := w_virtual (As := [v0, v1, v2, v3]) d_101_484 (by decide +kernel : cT (mO 101) 92 = some (0, 102)) rfl (by decide +kernel) rfl (by decide +kernel) rfl
theorem d_101_487 : decode (mB 101) 487 = .ok (.aload_n 0, 1) := by decide +kernel
theorem s_101_487 {d : Nat} {Q : wQ} {L : List (Option Value)} {st : List Value} {w : aw} {cn sn : Nat} {v : Nat} : wp d 101 Q 487 (some (.ref v) :: L) st w cn sn = wp d 101 Q 488 (some (.ref v) :: L) (.ref v :: st) w cn sn := w_aload_n d_101_487 rfl
theorem d_101_488 : decode (mB 101) 488 = .ok (.bipush 75, 2) := by decide +kernel
theorem s_101_488 {d : Nat} {Q : wQ} {L : List (Option Value)} {st : List Value} {w : aw} {cn sn : Nat}  : wp d 101 Q 488 L st w cn sn = wp d 101 Q 490 L (.int 75 :: st) w cn sn := w_bipush d_101_488 (by decide)
theorem d_101_490 : decode (mB 101) 490 = .ok (.bipush 82, 2) := by decide +kernel
theorem s_101_490 {d : Nat} {Q : wQ} {L : List (Option Value)} {st : List Value} {w : aw} {cn sn : Nat}  : wp d 101 Q 490 L st w cn sn = wp d 101 Q 492 L (.int 82 :: st) w cn sn := w_bipush d_101_490 (by decide)
theorem d_101_492 : decode (mB 101) 492 = .ok (.bipush 66, 2) := by decide +kernel
theorem s_101_492 {d : Nat} {Q : wQ} {L : List (Option Value)} {st : List Value} {w : aw} {cn sn : Nat}  : wp d 101 Q 492 L st w cn sn = wp d 101 Q 494 L (.int 66 :: st) w cn sn := w_bipush d_101_492 (by decide)
theorem d_101_494 : decode (mB 101) 494 = .ok (.sipush 3102, 3) := by decide +kernel
theorem s_101_494 {d : Nat} {Q : wQ} {L : List (Option Value)} {st : List Value} {w : aw} {cn sn : Nat}  : wp d 101 Q 494 L st w cn sn = wp d 101 Q 497 L (.int 3102 :: st) w cn sn := w_sipush d_101_494 (by decide)
theorem d_101_497 : decode (mB 101) 497 = .ok (.invokevirtual 92, 3) := by decide +kernel
theorem s_101_497 {d : Nat} {Q : wQ} {L : List (Option Value)} {st : List Value} {w : aw} {cn sn : Nat} {v0 v1 v2 v3 : Value} {b : Nat} : wp d 101 Q 497 L (v3 :: v2 :: v1 :: v0 :: .ref b :: st) w cn sn = (kd w b = 9 ∧ catS st ≤ 8 ∧ wpD d 102 [.ref b, v0, v1, v2, v3] w (fun v w' => wp d 101 Q 500 L (v.toList ++ st) w' cn sn)) := w_virtual (As := [v0, v1, v2, v3]) d_101_497 (by decide +kernel : cT (mO 101) 92 = some (0, 102)) rfl (by decide +kernel) rfl (by decide +kernel) rfl
theorem d_101_500 : decode (mB 101) 500 = .ok (.aload_n 0, 1) := by decide +kernel
theorem s_101_500 {d : Nat} {Q : wQ} {L : List (Option Value)} {st : List Value} {w : aw} {cn sn : Nat} {v : Nat} : wp d 101 Q 500 (some (.ref v) :: L) st w cn sn = wp d 101 Q 501 (some (.ref v) :: L) (.ref v :: st) w cn sn := w_aload_n d_101_500 rfl
theorem d_101_501 : decode (mB 101) 501 = .ok (.bipush 84, 2) := by decide +kernel
theorem s_101_501 {d : Nat} {Q : wQ} {L : List (Option Value)} {st : List Value} {w : aw} {cn sn : Nat}  : wp d 101 Q 501 L st w cn sn = wp d 101 Q 503 L (.int 84 :: st) w cn sn := w_bipush d_101_501 (by decide)
theorem d_101_503 : decode (mB 101) 503 = .ok (.bipush 83, 2) := by decide +kernel
theorem s_101_503 {d : Nat} {Q : wQ} {L : List (Option Value)} {st : List Value} {w : aw} {cn sn : Nat}  : wp d 101 Q 503 L st w cn sn = wp d 101 Q 505 L (.int 83 :: st) w cn sn := w_bipush d_101_503 (by decide)
theorem d_101_505 : decode (mB 101) 505 = .ok (.bipush 70, 2) := by decide +kernel
theorem s_101_505 {d : Nat} {Q : wQ} {L : List (Option Value)} {st : List Value} {w : aw} {cn sn : Nat}  : wp d 101 Q 505 L st w cn sn = wp d 101 Q 507 L (.int 70 :: st) w cn sn := w_bipush d_101_505 (by decide)
theorem d_101_507 : decode (mB 101) 507 = .ok (.sipush 3105, 3) := by decide +kernel
theorem s_101_507 {d : Nat} {Q : wQ} {L : List (Option Value)} {st : List Value} {w : aw} {cn sn : Nat}  : wp d 101 Q 507 L st w cn sn = wp d 101 Q 510 L (.int 3105 :: st) w cn sn := w_sipush d_101_507 (by decide)
theorem d_101_510 : decode (mB 101) 510 = .ok (.invokevirtual 92, 3) := by decide +kernel
theorem s_101_510 {d : Nat} {Q : wQ} {L : List (Option Value)} {st : List Value} {w : aw} {cn sn : Nat} {v0 v1 v2 v3 : Value} {b : Nat} : wp d 101 Q 510 L (v3 :: v2 :: v1 :: v0 :: .ref b :: st) w cn sn = (kd w b = 9 ∧ catS st ≤ 8 ∧ wpD d 102 [.ref b, v0, v1, v2, v3] w (fun v w' => wp d 101 Q 513 L (v.toList ++ st) w' cn sn)) := w_virtual (As := [v0, v1, v2, v3]) d_101_510 (by decide +kernel : cT (mO 101) 92 = some (0, 102)) rfl (by decide +kernel) rfl (by decide +kernel) rfl
theorem d_101_513 : decode (mB 101) 513 = .ok (.aload_n 0, 1) := by decide +kernel
theorem s_101_513 {d : Nat} {Q : wQ} {L : List (Option Value)} {st : List Value} {w : aw} {cn sn : Nat} {v : Nat} : wp d 101 Q 513 (some (.ref v) :: L) st w cn sn = wp d 101 Q 514 (some (.ref v) :: L) (.ref v :: st) w cn sn := w_aload_n d_101_513 rfl
theorem d_101_514 : decode (mB 101) 514 = .ok (.bipush 84, 2) := by decide +kernel
theorem s_101_514 {d : Nat} {Q : wQ} {L : List (Option Value)} {st : List Value} {w : aw} {cn sn : Nat}  : wp d 101 Q 514 L st w cn sn = wp d 101 Q 516 L (.int 84 :: st) w cn sn := w_bipush d_101_514 (by decide)
theorem d_101_516 : decode (mB 101) 516 = .ok (.bipush 76, 2) := by decide +kernel
theorem s_101_516 {d : Nat} {Q : wQ} {L : List (Option Value)} {st : List Value} {w : aw} {cn sn : Nat}  : wp d 101 Q 516 L st w cn sn = wp d 101 Q 518 L (.int 76 :: st) w cn sn := w_bipush d_101_516 (by decide)
theorem d_101_518 : decode (mB 101) 518 = .ok (.bipush 83, 2) := by decide +kernel
theorem s_101_518 {d : Nat} {Q : wQ} {L : List (Option Value)} {st : List Value} {w : aw} {cn sn : Nat}  : wp d 101 Q 518 L st w cn sn = wp d 101 Q 520 L (.int 83 :: st) w cn sn := w_bipush d_101_518 (by decide)
theorem d_101_520 : decode (mB 101) 520 = .ok (.sipush 3110, 3) := by decide +kernel
theorem s_101_520 {d : Nat} {Q : wQ} {L : List (Option Value)} {st : List Value} {w : aw} {cn sn : Nat}  : wp d 101 Q 520 L st w cn sn = wp d 101 Q 523 L (.int 3110 :: st) w cn sn := w_sipush d_101_520 (by decide)
theorem d_101_523 : decode (mB 101) 523 = .ok (.invokevirtual 92, 3) := by decide +kernel
theorem s_101_523 {d : Nat} {Q : wQ} {L : List (Option Value)} {st : List Value} {w : aw} {cn sn : Nat} {v0 v1 v2 v3 : Value} {b : Nat} : wp d 101 Q 523 L (v3 :: v2 :: v1 :: v0 :: .ref b :: st) w cn sn = (kd w b = 9 ∧ catS st ≤ 8 ∧ wpD d 102 [.ref b, v0, v1, v2, v3] w (fun v w' => wp d 101 Q 526 L (v.toList ++ st) w' cn sn)) := w_virtual (As := [v0, v1, v2, v3]) d_101_523 (by decide +kernel : cT (mO 101) 92 = some (0, 102)) rfl (by decide +kernel) rfl (by decide +kernel) rfl
theorem d_101_526 : decode (mB 101) 526 = .ok (.aload_n 0, 1) := by decide +kernel
theorem s_101_526 {d : Nat} {Q : wQ} {L : List (Option Value)} {st : List Value} {w : aw} {cn sn : Nat} {v : Nat} : wp d 101 Q 526 (some (.ref v) :: L) st w cn sn = wp d 101 Q 527 (some (.ref v) :: L) (.ref v :: st) w cn sn := w_aload_n d_101_526 rfl
theorem d_101_527 : decode (mB 101) 527 = .ok (.bipush 83, 2) := by decide +kernel
theorem s_101_527 {d : Nat} {Q : wQ} {L : List (Option Value)} {st : List Value} {w : aw} {cn sn : Nat}  : wp d 101 Q 527 L st w cn sn = wp d 101 Q 529 L (.int 83 :: st) w cn sn := w_bipush d_101_527 (by decide)
theorem d_101_529 : decode (mB 101) 529 = .ok (.bipush 76, 2) := by decide +kernel
theorem s_101_529 {d : Nat} {Q : wQ} {L : List (Option Value)} {st : List Value} {w : aw} {cn sn : Nat}  : wp d 101 Q 529 L st w cn sn = wp d 101 Q 531 L (.int 76 :: st) w cn sn := w_bipush d_101_529 (by decide)
theorem d_101_531 : decode (mB 101) 531 = .ok (.bipush 80, 2) := by decide +kernel
theorem s_101_531 {d : Nat} {Q : wQ} {L : List (Option Value)} {st : List Value} {w : aw} {cn sn : Nat}  : wp d 101 Q 531 L st w cn sn = wp d 101 Q 533 L (.int 80 :: st) w cn sn := w_bipush d_101_531 (by decide)
theorem d_101_533 : decode (mB 101) 533 = .ok (.sipush 3113, 3) := by decide +kernel
theorem s_101_533 {d : Nat} {Q : wQ} {L : List (Option Value)} {st : List Value} {w : aw} {cn sn : Nat}  : wp d 101 Q 533 L st w cn sn = wp d 101 Q 536 L (.int 3113 :: st) w cn sn := w_sipush d_101_533 (by decide)
theorem d_101_536 : decode (mB 101) 536 = .ok (.invokevirtual 92, 3) := by decide +kernel
theorem s_101_536 {d : Nat} {Q : wQ} {L : List (Option Value)} {st : List Value} {w : aw} {cn sn : Nat} {v0 v1 v2 v3 : Value} {b : Nat} : wp d 101 Q 536 L (v3 :: v2 :: v1 :: v0 :: .ref b :: st) w cn sn = (kd w b = 9 ∧ catS st ≤ 8 ∧ wpD d 102 [.ref b, v0, v1, v2, v3] w (fun v w' => wp d 101 Q 539 L (v.toList ++ st) w' cn sn)) := w_virtual (As := [v0, v1, v2, v3]) d_101_536 (by decide +kernel : cT (mO 101) 92 = some (0, 102)) rfl (by decide +kernel) rfl (by decide +kernel) rfl
theorem d_101_539 : decode (mB 101) 539 = .ok (.aload_n 0, 1) := by decide +kernel
theorem s_101_539 {d : Nat} {Q : wQ} {L : List (Option Value)} {st : List Value} {w : aw} {cn sn : Nat} {v : Nat} : wp d 101 Q 539 (some (.ref v) :: L) st w cn sn = wp d 101 Q 540 (some (.ref v) :: L) (.ref v :: st) w cn sn := w_aload_n d_101_539 rfl
theorem d_101_540 : decode (mB 101) 540 = .ok (.bipush 82, 2) := by decide +kernel
theorem s_101_540 {d : Nat} {Q : wQ} {L : List (Option Value)} {st : List Value} {w : aw} {cn sn : Nat}  : wp d 101 Q 540 L st w cn sn = wp d 101 Q 542 L (.int 82 :: st) w cn sn := w_bipush d_101_540 (by decide)
theorem d_101_542 : decode (mB 101) 542 = .ok (.bipush 68, 2) := by decide +kernel
theorem s_101_542 {d : Nat} {Q : wQ} {L : List (Option Value)} {st : List Value} {w : aw} {cn sn : Nat}  : wp d 101 Q 542 L st w cn sn = wp d 101 Q 544 L (.int 68 :: st) w cn sn := w_bipush d_101_542 (by decide)
theorem d_101_544 : decode (mB 101) 544 = .ok (.bipush 66, 2) := by decide +kernel
theorem s_101_544 {d : Nat} {Q : wQ} {L : List (Option Value)} {st : List Value} {w : aw} {cn sn : Nat}  : wp d 101 Q 544 L st w cn sn = wp d 101 Q 546 L (.int 66 :: st) w cn sn := w_bipush d_101_544 (by decide)
theorem d_101_546 : decode (mB 101) 546 = .ok (.sipush 3114, 3) := by decide +kernel
theorem s_101_546 {d : Nat} {Q : wQ} {L : List (Option Value)} {st : List Value} {w : aw} {cn sn : Nat}  : wp d 101 Q 546 L st w cn sn = wp d 101 Q 549 L (.int 3114 :: st) w cn sn := w_sipush d_101_546 (by decide)
theorem d_101_549 : decode (mB 101) 549 = .ok (.invokevirtual 92, 3) := by decide +kernel
theorem s_101_549 {d : Nat} {Q : wQ} {L : List (Option Value)} {st : List Value} {w : aw} {cn sn : Nat} {v0 v1 v2 v3 : Value} {b : Nat} : wp d 101 Q 549 L (v3 :: v2 :: v1 :: v0 :: .ref b :: st) w cn sn = (kd w b = 9 ∧ catS st ≤ 8 ∧ wpD d 102 [.ref b, v0, v1, v2, v3] w (fun v w' => wp d 101 Q 552 L (v.toList ++ st) w' cn sn)) := w_virtual (As := [v0, v1, v2, v3]) d_101_549 (by decide +kernel : cT (mO 101) 92 = some (0, 102)) rfl (by decide +kernel) rfl (by decide +kernel) rfl
theorem d_101_552 : decode (mB 101) 552 = .ok (.aload_n 0, 1) := by decide +kernel
theorem s_101_552 {d : Nat} {Q : wQ} {L : List (Option Value)} {st : List Value} {w : aw} {cn sn : Nat} {v : Nat} : wp d 101 Q 552 (some (.ref v) :: L) st w cn sn = wp d 101 Q 553 (some (.ref v) :: L) (.ref v :: st) w cn sn := w_aload_n d_101_552 rfl
theorem d_101_553 : decode (mB 101) 553 = .ok (.bipush 87, 2) := by decide +kernel
theorem s_101_553 {d : Nat} {Q : wQ} {L : List (Option Value)} {st : List Value} {w : aw} {cn sn : Nat}  : wp d 101 Q 553 L st w cn sn = wp d 101 Q 555 L (.int 87 :: st) w cn sn := w_bipush d_101_553 (by decide)
theorem d_101_555 : decode (mB 101) 555 = .ok (.bipush 82, 2) := by decide +kernel
theorem s_101_555 {d : Nat} {Q : wQ} {L : List (Option Value)} {st : List Value} {w : aw} {cn sn : Nat}  : wp d 101 Q 555 L st w cn sn = wp d 101 Q 557 L (.int 82 :: st) w cn sn := w_bipush d_101_555 (by decide)
theorem d_101_557 : decode (mB 101) 557 = .ok (.bipush 66, 2) := by decide +kernel
theorem s_101_557 {d : Nat} {Q : wQ} {L : List (Option Value)} {st : List Value} {w : aw} {cn sn : Nat}  : wp d 101 Q 557 L st w cn sn = wp d 101 Q 559 L (.int 66 :: st) w cn sn := w_bipush d_101_557 (by decide)
theorem d_101_559 : decode (mB 101) 559 = .ok (.sipush 3115, 3) := by decide +kernel
theorem s_101_559 {d : Nat} {Q : wQ} {L : List (Option Value)} {st : List Value} {w : aw} {cn sn : Nat}  : wp d 101 Q 559 L st w cn sn = wp d 101 Q 562 L (.int 3115 :: st) w cn sn := w_sipush d_101_559 (by decide)
theorem d_101_562 : decode (mB 101) 562 = .ok (.invokevirtual 92, 3) := by decide +kernel
theorem s_101_562 {d : Nat} {Q : wQ} {L : List (Option Value)} {st : List Value} {w : aw} {cn sn : Nat} {v0 v1 v2 v3 : Value} {b : Nat} : wp d 101 Q 562 L (v3 :: v2 :: v1 :: v0 :: .ref b :: st) w cn sn = (kd w b = 9 ∧ catS st ≤ 8 ∧ wpD d 102 [.ref b, v0, v1, v2, v3] w (fun v w' => wp d 101 Q 565 L (v.toList ++ st) w' cn sn)) := w_virtual (As := [v0, v1, v2, v3]) d_101_562 (by decide +kernel : cT (mO 101) 92 = some (0, 102)) rfl (by decide +kernel) rfl (by decide +kernel) rfl
theorem d_101_565 : decode (mB 101) 565 = .ok (.aload_n 0, 1) := by decide +kernel
theorem s_101_565 {d : Nat} {Q : wQ} {L : List (Option Value)} {st : List Value} {w : aw} {cn sn : Nat} {v : Nat} : wp d 101 Q 565 (some (.ref v) :: L) st w cn sn = wp d 101 Q 566 (some (.ref v) :: L) (.ref v :: st) w cn sn := w_aload_n d_101_565 rfl
theorem d_101_566 : decode (mB 101) 566 = .ok (.bipush 87, 2) := by decide +kernel
theorem s_101_566 {d : Nat} {Q : wQ} {L : List (Option Value)} {st : List Value} {w : aw} {cn sn : Nat}  : wp d 101 Q 566 L st w cn sn = wp d 101 Q 568 L (.int 87 :: st) w cn sn := w_bipush d_101_566 (by decide)
theorem d_101_568 : decode (mB 101) 568 = .ok (.bipush 72, 2) := by decide +kernel
theorem s_101_568 {d : Nat} {Q : wQ} {L : List (Option Value)} {st : List Value} {w : aw} {cn sn : Nat}  : wp d 101 Q 568 L st w cn sn = wp d 101 Q 570 L (.int 72 :: st) w cn sn := w_bipush d_101_568 (by decide)
theorem d_101_570 : decode (mB 101) 570 = .ok (.bipush 79, 2) := by decide +kernel
theorem s_101_570 {d : Nat} {Q : wQ} {L : List (Option Value)} {st : List Value} {w : aw} {cn sn : Nat}  : wp d 101 Q 570 L st w cn sn = wp d 101 Q 572 L (.int 79 :: st) w cn sn := w_bipush d_101_570 (by decide)
theorem d_101_572 : decode (mB 101) 572 = .ok (.sipush 3116, 3) := by decide +kernel
theorem s_101_572 {d : Nat} {Q : wQ} {L : List (Option Value)} {st : List Value} {w : aw} {cn sn : Nat}  : wp d 101 Q 572 L st w cn sn = wp d 101 Q 575 L (.int 3116 :: st) w cn sn := w_sipush d_101_572 (by decide)
theorem d_101_575 : decode (mB 101) 575 = .ok (.invokevirtual 92, 3) := by decide +kernel
theorem s_101_575 {d : Nat} {Q : wQ} {L : List (Option Value)} {st : List Value} {w : aw} {cn sn : Nat} {v0 v1 v2 v3 : Value} {b : Nat} : wp d 101 Q 575 L (v3 :: v2 :: v1 :: v0 :: .ref b :: st) w cn sn = (kd w b = 9 ∧ catS st ≤ 8 ∧ wpD d 102 [.ref b, v0, v1, v2, v3] w (fun v w' => wp d 101 Q 578 L (v.toList ++ st) w' cn sn)) := w_virtual (As := [v0, v1, v2, v3]) d_101_575 (by decide +kernel : cT (mO 101) 92 = some (0, 102)) rfl (by decide +kernel) rfl (by decide +kernel) rfl
theorem d_101_578 : decode (mB 101) 578 = .ok (.aload_n 0, 1) := by decide +kernel
theorem s_101_578 {d : Nat} {Q : wQ} {L : List (Option Value)} {st : List Value} {w : aw} {cn sn : Nat} {v : Nat} : wp d 101 Q 578 (some (.ref v) :: L) st w cn sn = wp d 101 Q 579 (some (.ref v) :: L) (.ref v :: st) w cn sn := w_aload_n d_101_578 rfl
theorem d_101_579 : decode (mB 101) 579 = .ok (.bipush 65, 2) := by decide +kernel
theorem s_101_579 {d : Nat} {Q : wQ} {L : List (Option Value)} {st : List Value} {w : aw} {cn sn : Nat}  : wp d 101 Q 579 L st w cn sn = wp d 101 Q 581 L (.int 65 :: st) w cn sn := w_bipush d_101_579 (by decide)
theorem d_101_581 : decode (mB 101) 581 = .ok (.bipush 78, 2) := by decide +kernel
theorem s_101_581 {d : Nat} {Q : wQ} {L : List (Option Value)} {st : List Value} {w : aw} {cn sn : Nat}  : wp d 101 Q 581 L st w cn sn = wp d 101 Q 583 L (.int 78 :: st) w cn sn := w_bipush d_101_581 (by decide)
theorem d_101_583 : decode (mB 101) 583 = .ok (.bipush 68, 2) := by decide +kernel
theorem s_101_583 {d : Nat} {Q : wQ} {L : List (Option Value)} {st : List Value} {w : aw} {cn sn : Nat}  : wp d 101 Q 583 L st w cn sn = wp d 101 Q 585 L (.int 68 :: st) w cn sn := w_bipush d_101_583 (by decide)
theorem d_101_585 : decode (mB 101) 585 = .ok (.iconst (-1), 1) := by decide +kernel
theorem s_101_585 {d : Nat} {Q : wQ} {L : List (Option Value)} {st : List Value} {w : aw} {cn sn : Nat}  : wp d 101 Q 585 L st w cn sn = wp d 101 Q 586 L (.int (-1) :: st) w cn sn := w_iconst d_101_585 (by decide)
theorem d_101_586 : decode (mB 101) 586 = .ok (.invokevirtual 92, 3) := by decide +kernel
theorem s_101_586 {d : Nat} {Q : wQ} {L : List (Option Value)} {st : List Value} {w : aw} {cn sn : Nat} {v0 v1 v2 v3 : Value} {b : Nat} : wp d 101 Q 586 L (v3 :: v2 :: v1 :: v0 :: .ref b :: st) w cn sn = (kd w b = 9 ∧ catS st ≤ 8 ∧ wpD d 102 [.ref b, v0, v1, v2, v3] w (fun v w' => wp d 101 Q 589 L (v.toList ++ st) w' cn sn)) := w_virtual (As := [v0, v1, v2, v3]) d_101_586 (by decide +kernel : cT (mO 101) 92 = some (0, 102)) rfl (by decide +kernel) rfl (by decide +kernel) rfl
theorem d_101_589 : decode (mB 101) 589 = .ok (.aload_n 0, 1) := by decide +kernel
theorem s_101_589 {d : Nat} {Q : wQ} {L : List (Option Value)} {st : List Value} {w : aw} {cn sn : Nat} {v : Nat} : wp d 101 Q 589 (some (.ref v) :: L) st w cn sn = wp d 101 Q 590 (some (.ref v) :: L) (.ref v :: st) w cn sn := w_aload_n d_101_589 rfl
theorem d_101_590 : decode (mB 101) 590 = .ok (.bipush 84, 2) := by decide +kernel
theorem s_101_590 {d : Nat} {Q : wQ} {L : List (Option Value)} {st : List Value} {w : aw} {cn sn : Nat}  : wp d 101 Q 590 L st w cn sn = wp d 101 Q 592 L (.int 84 :: st) w cn sn := w_bipush d_101_590 (by decide)
theorem d_101_592 : decode (mB 101) 592 = .ok (.bipush 65, 2) := by decide +kernel
theorem s_101_592 {d : Nat} {Q : wQ} {L : List (Option Value)} {st : List Value} {w : aw} {cn sn : Nat}  : wp d 101 Q 592 L st w cn sn = wp d 101 Q 594 L (.int 65 :: st) w cn sn := w_bipush d_101_592 (by decide)
theorem d_101_594 : decode (mB 101) 594 = .ok (.bipush 68, 2) := by decide +kernel
theorem s_101_594 {d : Nat} {Q : wQ} {L : List (Option Value)} {st : List Value} {w : aw} {cn sn : Nat}  : wp d 101 Q 594 L st w cn sn = wp d 101 Q 596 L (.int 68 :: st) w cn sn := w_bipush d_101_594 (by decide)
theorem d_101_596 : decode (mB 101) 596 = .ok (.iconst (-1), 1) := by decide +kernel
theorem s_101_596 {d : Nat} {Q : wQ} {L : List (Option Value)} {st : List Value} {w : aw} {cn sn : Nat}  : wp d 101 Q 596 L st w cn sn = wp d 101 Q 597 L (.int (-1) :: st) w cn sn := w_iconst d_101_596 (by decide)
theorem d_101_597 : decode (mB 101) 597 = .ok (.invokevirtual 92, 3) := by decide +kernel
theorem s_101_597 {d : Nat} {Q : wQ} {L : List (Option Value)} {st : List Value} {w : aw} {cn sn : Nat} {v0 v1 v2 v3 : Value} {b : Nat} : wp d 101 Q 597 L (v3 :: v2 :: v1 :: v0 :: .ref b :: st) w cn sn = (kd w b = 9 ∧ catS st ≤ 8 ∧ wpD d 102 [.ref b, v0, v1, v2, v3] w (fun v w' => wp d 101 Q 600 L (v.toList ++ st) w' cn sn)) := w_virtual (As := [v0, v1, v2, v3]) d_101_597 (by decide +kernel : cT (mO 101) 92 = some (0, 102)) rfl (by decide +kernel) rfl (by decide +kernel) rfl
theorem d_101_600 : decode (mB 101) 600 = .ok (.aload_n 0, 1) := by decide +kernel
theorem s_101_600 {d : Nat} {Q : wQ} {L : List (Option Value)} {st : List Value} {w : aw} {cn sn : Nat} {v : Nat} : wp d 101 Q 600 (some (.ref v) :: L) st w cn sn = wp d 101 Q 601 (some (.ref v) :: L) (.ref v :: st) w cn sn := w_aload_n d_101_600 rfl
theorem d_101_601 : decode (mB 101) 601 = .ok (.bipush 73, 2) := by decide +kernel
theorem s_101_601 {d : Nat} {Q : wQ} {L : List (Option Value)} {st : List Value} {w : aw} {cn sn : Nat}  : wp d 101 Q 601 L st w cn sn = wp d 101 Q 603 L (.int 73 :: st) w cn sn := w_bipush d_101_601 (by decide)
theorem d_101_603 : decode (mB 101) 603 = .ok (.bipush 83, 2) := by decide +kernel
theorem s_101_603 {d : Nat} {Q : wQ} {L : List (Option Value)} {st : List Value} {w : aw} {cn sn : Nat}  : wp d 101 Q 603 L st w cn sn = wp d 101 Q 605 L (.int 83 :: st) w cn sn := w_bipush d_101_603 (by decide)
theorem d_101_605 : decode (mB 101) 605 = .ok (.bipush 90, 2) := by decide +kernel
theorem s_101_605 {d : Nat} {Q : wQ} {L : List (Option Value)} {st : List Value} {w : aw} {cn sn : Nat}  : wp d 101 Q 605 L st w cn sn = wp d 101 Q 607 L (.int 90 :: st) w cn sn := w_bipush d_101_605 (by decide)
theorem d_101_607 : decode (mB 101) 607 = .ok (.iconst (-1), 1) := by decide +kernel
theorem s_101_607 {d : Nat} {Q : wQ} {L : List (Option Value)} {st : List Value} {w : aw} {cn sn : Nat}  : wp d 101 Q 607 L st w cn sn = wp d 101 Q 608 L (.int (-1) :: st) w cn sn := w_iconst d_101_607 (by decide)
theorem d_101_608 : decode (mB 101) 608 = .ok (.invokevirtual 92, 3) := by decide +kernel
theorem s_101_608 {d : Nat} {Q : wQ} {L : List (Option Value)} {st : List Value} {w : aw} {cn sn : Nat} {v0 v1 v2 v3 : Value} {b : Nat} : wp d 101 Q 608 L (v3 :: v2 :: v1 :: v0 :: .ref b :: st) w cn sn = (kd w b = 9 ∧ catS st ≤ 8 ∧ wpD d 102 [.ref b, v0, v1, v2, v3] w (fun v w' => wp d 101 Q 611 L (v.toList ++ st) w' cn sn)) := w_virtual (As := [v0, v1, v2, v3]) d_101_608 (by decide +kernel : cT (mO 101) 92 = some (0, 102)) rfl (by decide +kernel) rfl (by decide +kernel) rfl
theorem d_101_611 : decode (mB 101) 611 = .ok (.aload_n 0, 1) := by decide +kernel
theorem s_101_611 {d : Nat} {Q : wQ} {L : List (Option Value)} {st : List Value} {w : aw} {cn sn : Nat} {v : Nat} : wp d 101 Q 611 (some (.ref v) :: L) st w cn sn = wp d 101 Q 612 (some (.ref v) :: L) (.ref v :: st) w cn sn := w_aload_n d_101_611 rfl
theorem d_101_612 : decode (mB 101) 612 = .ok (.bipush 68, 2) := by decide +kernel
theorem s_101_612 {d : Nat} {Q : wQ} {L : List (Option Value)} {st : List Value} {w : aw} {cn sn : Nat}  : wp d 101 Q 612 L st w cn sn = wp d 101 Q 614 L (.int 68 :: st) w cn sn := w_bipush d_101_612 (by decide)
theorem d_101_614 : decode (mB 101) 614 = .ok (.bipush 67, 2) := by decide +kernel
theorem s_101_614 {d : Nat} {Q : wQ} {L : List (Option Value)} {st : List Value} {w : aw} {cn sn : Nat}  : wp d 101 Q 614 L st w cn sn = wp d 101 Q 616 L (.int 67 :: st) w cn sn := w_bipush d_101_614 (by decide)
theorem d_101_616 : decode (mB 101) 616 = .ok (.bipush 65, 2) := by decide +kernel
theorem s_101_616 {d : Nat} {Q : wQ} {L : List (Option Value)} {st : List Value} {w : aw} {cn sn : Nat}  : wp d 101 Q 616 L st w cn sn = wp d 101 Q 618 L (.int 65 :: st) w cn sn := w_bipush d_101_616 (by decide)
theorem d_101_618 : decode (mB 101) 618 = .ok (.iconst (-1), 1) := by decide +kernel
theorem s_101_618 {d : Nat} {Q : wQ} {L : List (Option Value)} {st : List Value} {w : aw} {cn sn : Nat}  : wp d 101 Q 618 L st w cn sn = wp d 101 Q 619 L (.int (-1) :: st) w cn sn := w_iconst d_101_618 (by decide)
theorem d_101_619 : decode (mB 101) 619 = .ok (.invokevirtual 92, 3) := by decide +kernel
theorem s_101_619 {d : Nat} {Q : wQ} {L : List (Option Value)} {st : List Value} {w : aw} {cn sn : Nat} {v0 v1 v2 v3 : Value} {b : Nat} : wp d 101 Q 619 L (v3 :: v2 :: v1 :: v0 :: .ref b :: st) w cn sn = (kd w b = 9 ∧ catS st ≤ 8 ∧ wpD d 102 [.ref b, v0, v1, v2, v3] w (fun v w' => wp d 101 Q 622 L (v.toList ++ st) w' cn sn)) := w_virtual (As := [v0, v1, v2, v3]) d_101_619 (by decide +kernel : cT (mO 101) 92 = some (0, 102)) rfl (by decide +kernel) rfl (by decide +kernel) rfl
theorem d_101_622 : decode (mB 101) 622 = .ok (.aload_n 0, 1) := by decide +kernel
theorem s_101_622 {d : Nat} {Q : wQ} {L : List (Option Value)} {st : List Value} {w : aw} {cn sn : Nat} {v : Nat} : wp d 101 Q 622 (some (.ref v) :: L) st w cn sn = wp d 101 Q 623 (some (.ref v) :: L) (.ref v :: st) w cn sn := w_aload_n d_101_622 rfl
theorem d_101_623 : decode (mB 101) 623 = .ok (.bipush 74, 2) := by decide +kernel
theorem s_101_623 {d : Nat} {Q : wQ} {L : List (Option Value)} {st : List Value} {w : aw} {cn sn : Nat}  : wp d 101 Q 623 L st w cn sn = wp d 101 Q 625 L (.int 74 :: st) w cn sn := w_bipush d_101_623 (by decide)
theorem d_101_625 : decode (mB 101) 625 = .ok (.bipush 77, 2) := by decide +kernel
theorem s_101_625 {d : Nat} {Q : wQ} {L : List (Option Value)} {st : List Value} {w : aw} {cn sn : Nat}  : wp d 101 Q 625 L st w cn sn = wp d 101 Q 627 L (.int 77 :: st) w cn sn := w_bipush d_101_625 (by decide)
theorem d_101_627 : decode (mB 101) 627 = .ok (.bipush 83, 2) := by decide +kernel
theorem s_101_627 {d : Nat} {Q : wQ} {L : List (Option Value)} {st : List Value} {w : aw} {cn sn : Nat}  : wp d 101 Q 627 L st w cn sn = wp d 101 Q 629 L (.int 83 :: st) w cn sn := w_bipush d_101_627 (by decide)
theorem d_101_629 : decode (mB 101) 629 = .ok (.iconst (-1), 1) := by decide +kernel
theorem s_101_629 {d : Nat} {Q : wQ} {L : List (Option Value)} {st : List Value} {w : aw} {cn sn : Nat}  : wp d 101 Q 629 L st w cn sn = wp d 101 Q 630 L (.int (-1) :: st) w cn sn := w_iconst d_101_629 (by decide)
theorem d_101_630 : decode (mB 101) 630 = .ok (.invokevirtual 92, 3) := by decide +kernel
theorem s_101_630 {d : Nat} {Q : wQ} {L : List (Option Value)} {st : List Value} {w : aw} {cn sn : Nat} {v0 v1 v2 v3 : Value} {b : Nat} : wp d 101 Q 630 L (v3 :: v2 :: v1 :: v0 :: .ref b :: st) w cn sn = (kd w b = 9 ∧ catS st ≤ 8 ∧ wpD d 102 [.ref b, v0, v1, v2, v3] w (fun v w' => wp d 101 Q 633 L (v.toList ++ st) w' cn sn)) := w_virtual (As := [v0, v1, v2, v3]) d_101_630 (by decide +kernel : cT (mO 101) 92 = some (0, 102)) rfl (by decide +kernel) rfl (by decide +kernel) rfl
theorem d_101_633 : decode (mB 101) 633 = .ok (.aload_n 0, 1) := by decide +kernel
theorem s_101_633 {d : Nat} {Q : wQ} {L : List (Option Value)} {st : List Value} {w : aw} {cn sn : Nat} {v : Nat} : wp d 101 Q 633 (some (.ref v) :: L) st w cn sn = wp d 101 Q 634 (some (.ref v) :: L) (.ref v :: st) w cn sn := w_aload_n d_101_633 rfl
theorem d_101_634 : decode (mB 101) 634 = .ok (.bipush 74, 2) := by decide +kernel
theorem s_101_634 {d : Nat} {Q : wQ} {L : List (Option Value)} {st : List Value} {w : aw} {cn sn : Nat}  : wp d 101 Q 634 L st w cn sn = wp d 101 Q 636 L (.int 74 :: st) w cn sn := w_bipush d_101_634 (by decide)
theorem d_101_636 : decode (mB 101) 636 = .ok (.bipush 77, 2) := by decide +kernel
theorem s_101_636 {d : Nat} {Q : wQ} {L : List (Option Value)} {st : List Value} {w : aw} {cn sn : Nat}  : wp d 101 Q 636 L st w cn sn = wp d 101 Q 638 L (.int 77 :: st) w cn sn := w_bipush d_101_636 (by decide)
theorem d_101_638 : decode (mB 101) 638 = .ok (.bipush 80, 2) := by decide +kernel
theorem s_101_638 {d : Nat} {Q : wQ} {L : List (Option Value)} {st : List Value} {w : aw} {cn sn : Nat}  : wp d 101 Q 638 L st w cn sn = wp d 101 Q 640 L (.int 80 :: st) w cn sn := w_bipush d_101_638 (by decide)
theorem d_101_640 : decode (mB 101) 640 = .ok (.iconst (-1), 1) := by decide +kernel
theorem s_101_640 {d : Nat} {Q : wQ} {L : List (Option Value)} {st : List Value} {w : aw} {cn sn : Nat}  : wp d 101 Q 640 L st w cn sn = wp d 101 Q 641 L (.int (-1) :: st) w cn sn := w_iconst d_101_640 (by decide)
theorem d_101_641 : decode (mB 101) 641 = .ok (.invokevirtual 92, 3) := by decide +kernel
theorem s_101_641 {d : Nat} {Q : wQ} {L : List (Option Value)} {st : List Value} {w : aw} {cn sn : Nat} {v0 v1 v2 v3 : Value} {b : Nat} : wp d 101 Q 641 L (v3 :: v2 :: v1 :: v0 :: .ref b :: st) w cn sn = (kd w b = 9 ∧ catS st ≤ 8 ∧ wpD d 102 [.ref b, v0, v1, v2, v3] w (fun v w' => wp d 101 Q 644 L (v.toList ++ st) w' cn sn)) := w_virtual (As := [v0, v1, v2, v3]) d_101_641 (by decide +kernel : cT (mO 101) 92 = some (0, 102)) rfl (by decide +kernel) rfl (by decide +kernel) rfl
theorem d_101_644 : decode (mB 101) 644 = .ok (.aload_n 0, 1) := by decide +kernel
theorem s_101_644 {d : Nat} {Q : wQ} {L : List (Option Value)} {st : List Value} {w : aw} {cn sn : Nat} {v : Nat} : wp d 101 Q 644 (some (.ref v) :: L) st w cn sn = wp d 101 Q 645 (some (.ref v) :: L) (.ref v :: st) w cn sn := w_aload_n d_101_644 rfl
theorem d_101_645 : decode (mB 101) 645 = .ok (.getfield 75, 3) := by decide +kernel
theorem s_101_645 {d : Nat} {Q : wQ} {L : List (Option Value)} {st : List Value} {w : aw} {cn sn : Nat} {a : Nat} : wp d 101 Q 645 L (.ref a :: st) w cn sn = (kd w a = 9 ∧ wp d 101 Q 648 L (fd w 546 a :: st) w cn sn) := w_getfield d_101_645 (by decide +kernel : fT (mO 101) 75 = some (8, 34))
theorem d_101_648 : decode (mB 101) 648 = .ok (.aload_n 0, 1) := by decide +kernel
theorem s_101_648 {d : Nat} {Q : wQ} {L : List (Option Value)} {st : List Value} {w : aw} {cn sn : Nat} {v : Nat} : wp d 101 Q 648 (some (.ref v) :: L) st w cn sn = wp d 101 Q 649 (some (.ref v) :: L) (.ref v :: st) w cn sn := w_aload_n d_101_648 rfl
theorem d_101_649 : decode (mB 101) 649 = .ok (.getfield 96, 3) := by decide +kernel
theorem s_101_649 {d : Nat} {Q : wQ} {L : List (Option Value)} {st : List Value} {w : aw} {cn sn : Nat} {a : Nat} : wp d 101 Q 649 L (.ref a :: st) w cn sn = (kd w a = 9 ∧ wp d 101 Q 652 L (fd w 548 a :: st) w cn sn) := w_getfield d_101_649 (by decide +kernel : fT (mO 101) 96 = some (8, 36))
theorem d_101_652 : decode (mB 101) 652 = .ok (.bipush 73, 2) := by decide +kernel
theorem s_101_652 {d : Nat} {Q : wQ} {L : List (Option Value)} {st : List Value} {w : aw} {cn sn : Nat}  : wp d 101 Q 652 L st w cn sn = wp d 101 Q 654 L (.int 73 :: st) w cn sn := w_bipush d_101_652 (by decide)
theorem d_101_654 : decode (mB 101) 654 = .ok (.invokestatic 99, 3) := by decide +kernel
theorem s_101_654 {d : Nat} {Q : wQ} {L : List (Option Value)} {st : List Value} {w : aw} {cn sn : Nat} {v0 : Value} : wp d 101 Q 654 L (v0 :: st) w cn sn = (catS st ≤ 8 ∧ wpD d 144 [v0] w (fun v w' => wp d 101 Q 657 L (v.toList ++ st) w' cn sn)) := w_static (As := [v0]) d_101_654 (by decide +kernel : cT (mO 101) 99 = some (2, 144)) rfl (by decide +kernel) rfl
theorem d_101_657 : decode (mB 101) 657 = .ok (.i2l, 1) := by decide +kernel
theorem s_101_657 {d : Nat} {Q : wQ} {L : List (Option Value)} {st : List Value} {w : aw} {cn sn : Nat} {a : Int32} : wp d 101 Q 657 L (.int a :: st) w cn sn = wp d 101 Q 658 L (.long a.toInt64 :: st) w cn sn := wp_row d_101_657 _ _ _ _ _
theorem d_101_658 : decode (mB 101) 658 = .ok (.lastore, 1) := by decide +kernel
theorem s_101_658 {d : Nat} {Q : wQ} {L : List (Option Value)} {st : List Value} {w : aw} {cn sn : Nat} {a : Nat} {i : Int32} {x : Int64} : wp d 101 Q 658 L (.long x :: .int i :: .ref a :: st) w cn sn = (kd w a = 22 ∧ inR i (ln w a) ∧ wp d 101 Q 659 L st (uL w a i.toNatClampNeg x) cn sn) := wp_row d_101_658 _ _ _ _ _
theorem d_101_659 : decode (mB 101) 659 = .ok (.aload_n 0, 1) := by decide +kernel
theorem s_101_659 {d : Nat} {Q : wQ} {L : List (Option Value)} {st : List Value} {w : aw} {cn sn : Nat} {v : Nat} : wp d 101 Q 659 (some (.ref v) :: L) st w cn sn = wp d 101 Q 660 (some (.ref v) :: L) (.ref v :: st) w cn sn := w_aload_n d_101_659 rfl
theorem d_101_660 : decode (mB 101) 660 = .ok (.getfield 79, 3) := by decide +kernel
theorem s_101_660 {d : Nat} {Q : wQ} {L : List (Option Value)} {st : List Value} {w : aw} {cn sn : Nat} {a : Nat} : wp d 101 Q 660 L (.ref a :: st) w cn sn = (kd w a = 9 ∧ wp d 101 Q 663 L (fd w 547 a :: st) w cn sn) := w_getfield d_101_660 (by decide +kernel : fT (mO 101) 79 = some (8, 35))
theorem d_101_663 : decode (mB 101) 663 = .ok (.aload_n 0, 1) := by decide +kernel
theorem s_101_663 {d : Nat} {Q : wQ} {L : List (Option Value)} {st : List Value} {w : aw} {cn sn : Nat} {v : Nat} : wp d 101 Q 663 (some (.ref v) :: L) st w cn sn = wp d 101 Q 664 (some (.ref v) :: L) (.ref v :: st) w cn sn := w_aload_n d_101_663 rfl
theorem d_101_664 : decode (mB 101) 664 = .ok (.getfield 96, 3) := by decide +kernel
theorem s_101_664 {d : Nat} {Q : wQ} {L : List (Option Value)} {st : List Value} {w : aw} {cn sn : Nat} {a : Nat} : wp d 101 Q 664 L (.ref a :: st) w cn sn = (kd w a = 9 ∧ wp d 101 Q 667 L (fd w 548 a :: st) w cn sn) := w_getfield d_101_664 (by decide +kernel : fT (mO 101) 96 = some (8, 36))
theorem d_101_667 : decode (mB 101) 667 = .ok (.iconst (-1), 1) := by decide +kernel
theorem s_101_667 {d : Nat} {Q : wQ} {L : List (Option Value)} {st : List Value} {w : aw} {cn sn : Nat}  : wp d 101 Q 667 L st w cn sn = wp d 101 Q 668 L (.int (-1) :: st) w cn sn := w_iconst d_101_667 (by decide)
theorem d_101_668 : decode (mB 101) 668 = .ok (.iastore, 1) := by decide +kernel
theorem s_101_668 {d : Nat} {Q : wQ} {L : List (Option Value)} {st : List Value} {w : aw} {cn sn : Nat} {a : Nat} {i x : Int32} : wp d 101 Q 668 L (.int x :: .int i :: .ref a :: st) w cn sn = (kd w a = 20 ∧ inR i (ln w a) ∧ wp d 101 Q 669 L st (uA w a i.toNatClampNeg x) cn sn) := wp_row d_101_668 _ _ _ _ _
theorem d_101_669 : decode (mB 101) 669 = .ok (.aload_n 0, 1) := by decide +kernel
theorem s_101_669 {d : Nat} {Q : wQ} {L : List (Option Value)} {st : List Value} {w : aw} {cn sn : Nat} {v : Nat} : wp d 101 Q 669 (some (.ref v) :: L) st w cn sn = wp d 101 Q 670 (some (.ref v) :: L) (.ref v :: st) w cn sn := w_aload_n d_101_669 rfl
theorem d_101_670 : decode (mB 101) 670 = .ok (.dup, 1) := by decide +kernel
theorem s_101_670 {d : Nat} {Q : wQ} {L : List (Option Value)} {st : List Value} {w : aw} {cn sn : Nat} {v : Value} : wp d 101 Q 670 L (v :: st) w cn sn = (v.category = 1 ∧ wp d 101 Q 671 L (v :: v :: st) w cn sn) := wp_row d_101_670 _ _ _ _ _
theorem d_101_671 : decode (mB 101) 671 = .ok (.getfield 96, 3) := by decide +kernel
theorem s_101_671 {d : Nat} {Q : wQ} {L : List (Option Value)} {st : List Value} {w : aw} {cn sn : Nat} {a : Nat} : wp d 101 Q 671 L (.ref a :: st) w cn sn = (kd w a = 9 ∧ wp d 101 Q 674 L (fd w 548 a :: st) w cn sn) := w_getfield d_101_671 (by decide +kernel : fT (mO 101) 96 = some (8, 36))
theorem d_101_674 : decode (mB 101) 674 = .ok (.iconst 1, 1) := by decide +kernel
theorem s_101_674 {d : Nat} {Q : wQ} {L : List (Option Value)} {st : List Value} {w : aw} {cn sn : Nat}  : wp d 101 Q 674 L st w cn sn = wp d 101 Q 675 L (.int 1 :: st) w cn sn := w_iconst d_101_674 (by decide)
theorem d_101_675 : decode (mB 101) 675 = .ok (.iadd, 1) := by decide +kernel
theorem s_101_675 {d : Nat} {Q : wQ} {L : List (Option Value)} {st : List Value} {w : aw} {cn sn : Nat} {a b : Int32} : wp d 101 Q 675 L (.int b :: .int a :: st) w cn sn = wp d 101 Q 676 L (.int (a + b) :: st) w cn sn := wp_row d_101_675 _ _ _ _ _
theorem d_101_676 : decode (mB 101) 676 = .ok (.putfield 96, 3) := by decide +kernel
theorem s_101_676 {d : Nat} {Q : wQ} {L : List (Option Value)} {st : List Value} {w : aw} {cn sn : Nat} {x : Int32} {a : Nat} : wp d 101 Q 676 L (.int x :: .ref a :: st) w cn sn = (kd w a = 9 ∧ wp d 101 Q 679 L st (uF w 548 a (.int x)) cn sn) := w_putfield d_101_676 (by decide +kernel : fT (mO 101) 96 = some (8, 36)) (by decide +kernel) ok_int
theorem d_101_679 : decode (mB 101) 679 = .ok (.aload_n 0, 1) := by decide +kernel
theorem s_101_679 {d : Nat} {Q : wQ} {L : List (Option Value)} {st : List Value} {w : aw} {cn sn : Nat} {v : Nat} : wp d 101 Q 679 (some (.ref v) :: L) st w cn sn = wp d 101 Q 680 (some (.ref v) :: L) (.ref v :: st) w cn sn := w_aload_n d_101_679 rfl
theorem d_101_680 : decode (mB 101) 680 = .ok (.aload_n 0, 1) := by decide +kernel
theorem s_101_680 {d : Nat} {Q : wQ} {L : List (Option Value)} {st : List Value} {w : aw} {cn sn : Nat} {v : Nat} : wp d 101 Q 680 (some (.ref v) :: L) st w cn sn = wp d 101 Q 681 (some (.ref v) :: L) (.ref v :: st) w cn sn := w_aload_n d_101_680 rfl
theorem d_101_681 : decode (mB 101) 681 = .ok (.getfield 96, 3) := by decide +kernel
theorem s_101_681 {d : Nat} {Q : wQ} {L : List (Option Value)} {st : List Value} {w : aw} {cn sn : Nat} {a : Nat} : wp d 101 Q 681 L (.ref a :: st) w cn sn = (kd w a = 9 ∧ wp d 101 Q 684 L (fd w 548 a :: st) w cn sn) := w_getfield d_101_681 (by decide +kernel : fT (mO 101) 96 = some (8, 36))
theorem d_101_684 : decode (mB 101) 684 = .ok (.putfield 103, 3) := by decide +kernel
theorem s_101_684 {d : Nat} {Q : wQ} {L : List (Option Value)} {st : List Value} {w : aw} {cn sn : Nat} {x : Int32} {a : Nat} : wp d 101 Q 684 L (.int x :: .ref a :: st) w cn sn = (kd w a = 9 ∧ wp d 101 Q 687 L st (uF w 549 a (.int x)) cn sn) := w_putfield d_101_684 (by decide +kernel : fT (mO 101) 103 = some (8, 37)) (by decide +kernel) ok_int
theorem d_101_687 : decode (mB 101) 687 = .ok (.return_, 1) := by decide +kernel
theorem s_101_687 {d : Nat} {Q : wQ} {L : List (Option Value)} {w : aw} {cn sn : Nat}  : wp d 101 Q 687 L [] w cn sn = Q none w := w_return d_101_687 rfl
theorem d_102_0 : decode (mB 102) 0 = .ok (.aload_n 0, 1) := by decide +kernel
theorem s_102_0 {d : Nat} {Q : wQ} {L : List (Option Value)} {st : List Value} {w : aw} {cn sn : Nat} {v : Nat} : wp d 102 Q 0 (some (.ref v) :: L) st w cn sn = wp d 102 Q 1 (some (.ref v) :: L) (.ref v :: st) w cn sn := w_aload_n d_102_0 rfl
theorem d_102_1 : decode (mB 102) 1 = .ok (.getfield 75, 3) := by decide +kernel
theorem s_102_1 {d : Nat} {Q : wQ} {L : List (Option Value)} {st : List Value} {w : aw} {cn sn : Nat} {a : Nat} : wp d 102 Q 1 L (.ref a :: st) w cn sn = (kd w a = 9 ∧ wp d 102 Q 4 L (fd w 546 a :: st) w cn sn) := w_getfield d_102_1 (by decide +kernel : fT (mO 102) 75 = some (8, 34))
theorem d_102_4 : decode (mB 102) 4 = .ok (.aload_n 0, 1) := by decide +kernel
theorem s_102_4 {d : Nat} {Q : wQ} {L : List (Option Value)} {st : List Value} {w : aw} {cn sn : Nat} {v : Nat} : wp d 102 Q 4 (some (.ref v) :: L) st w cn sn = wp d 102 Q 5 (some (.ref v) :: L) (.ref v :: st) w cn sn := w_aload_n d_102_4 rfl
theorem d_102_5 : decode (mB 102) 5 = .ok (.getfield 96, 3) := by decide +kernel
theorem s_102_5 {d : Nat} {Q : wQ} {L : List (Option Value)} {st : List Value} {w : aw} {cn sn : Nat} {a : Nat} : wp d 102 Q 5 L (.ref a :: st) w cn sn = (kd w a = 9 ∧ wp d 102 Q 8 L (fd w 548 a :: st) w cn sn) := w_getfield d_102_5 (by decide +kernel : fT (mO 102) 96 = some (8, 36))
theorem d_102_8 : decode (mB 102) 8 = .ok (.iload_n 1, 1) := by decide +kernel
theorem s_102_8 {d : Nat} {Q : wQ} {L : List (Option Value)} {st : List Value} {w : aw} {cn sn : Nat} {a0 : Option Value} {v : Int32} : wp d 102 Q 8 (a0 :: some (.int v) :: L) st w cn sn = wp d 102 Q 9 (a0 :: some (.int v) :: L) (.int v :: st) w cn sn := w_iload_n d_102_8 rfl
theorem d_102_9 : decode (mB 102) 9 = .ok (.invokestatic 99, 3) := by decide +kernel
theorem s_102_9 {d : Nat} {Q : wQ} {L : List (Option Value)} {st : List Value} {w : aw} {cn sn : Nat} {v0 : Value} : wp d 102 Q 9 L (v0 :: st) w cn sn = (catS st ≤ 8 ∧ wpD d 144 [v0] w (fun v w' => wp d 102 Q 12 L (v.toList ++ st) w' cn sn)) := w_static (As := [v0]) d_102_9 (by decide +kernel : cT (mO 102) 99 = some (2, 144)) rfl (by decide +kernel) rfl
theorem d_102_12 : decode (mB 102) 12 = .ok (.i2l, 1) := by decide +kernel
theorem s_102_12 {d : Nat} {Q : wQ} {L : List (Option Value)} {st : List Value} {w : aw} {cn sn : Nat} {a : Int32} : wp d 102 Q 12 L (.int a :: st) w cn sn = wp d 102 Q 13 L (.long a.toInt64 :: st) w cn sn := wp_row d_102_12 _ _ _ _ _
theorem d_102_13 : decode (mB 102) 13 = .ok (.ldc2_w 106, 3) := by decide +kernel
theorem s_102_13 {d : Nat} {Q : wQ} {L : List (Option Value)} {st : List Value} {w : aw} {cn sn : Nat}  : wp d 102 Q 13 L st w cn sn = wp d 102 Q 16 L (.long 37 :: st) w cn sn := w_ldc2 d_102_13 (by decide +kernel : kT (mO 102) 106 = some (.long 37))
theorem d_102_16 : decode (mB 102) 16 = .ok (.lmul, 1) := by decide +kernel
theorem s_102_16 {d : Nat} {Q : wQ} {L : List (Option Value)} {st : List Value} {w : aw} {cn sn : Nat} {a b : Int64} : wp d 102 Q 16 L (.long b :: .long a :: st) w cn sn = wp d 102 Q 17 L (.long (a * b) :: st) w cn sn := wp_row d_102_16 _ _ _ _ _
theorem d_102_17 : decode (mB 102) 17 = .ok (.iload_n 2, 1) := by decide +kernel
theorem s_102_17 {d : Nat} {Q : wQ} {L : List (Option Value)} {st : List Value} {w : aw} {cn sn : Nat} {a0 a1 : Option Value} {v : Int32} : wp d 102 Q 17 (a0 :: a1 :: some (.int v) :: L) st w cn sn = wp d 102 Q 18 (a0 :: a1 :: some (.int v) :: L) (.int v :: st) w cn sn := w_iload_n d_102_17 rfl
theorem d_102_18 : decode (mB 102) 18 = .ok (.invokestatic 99, 3) := by decide +kernel
theorem s_102_18 {d : Nat} {Q : wQ} {L : List (Option Value)} {st : List Value} {w : aw} {cn sn : Nat} {v0 : Value} : wp d 102 Q 18 L (v0 :: st) w cn sn = (catS st ≤ 8 ∧ wpD d 144 [v0] w (fun v w' => wp d 102 Q 21 L (v.toList ++ st) w' cn sn)) := w_static (As := [v0]) d_102_18 (by decide +kernel : cT (mO 102) 99 = some (2, 144)) rfl (by decide +kernel) rfl
theorem d_102_21 : decode (mB 102) 21 = .ok (.i2l, 1) := by decide +kernel
theorem s_102_21 {d : Nat} {Q : wQ} {L : List (Option Value)} {st : List Value} {w : aw} {cn sn : Nat} {a : Int32} : wp d 102 Q 21 L (.int a :: st) w cn sn = wp d 102 Q 22 L (.long a.toInt64 :: st) w cn sn := wp_row d_102_21 _ _ _ _ _
theorem d_102_22 : decode (mB 102) 22 = .ok (.ladd, 1) := by decide +kernel
theorem s_102_22 {d : Nat} {Q : wQ} {L : List (Option Value)} {st : List Value} {w : aw} {cn sn : Nat} {a b : Int64} : wp d 102 Q 22 L (.long b :: .long a :: st) w cn sn = wp d 102 Q 23 L (.long (a + b) :: st) w cn sn := wp_row d_102_22 _ _ _ _ _
theorem d_102_23 : decode (mB 102) 23 = .ok (.ldc2_w 106, 3) := by decide +kernel
theorem s_102_23 {d : Nat} {Q : wQ} {L : List (Option Value)} {st : List Value} {w : aw} {cn sn : Nat}  : wp d 102 Q 23 L st w cn sn = wp d 102 Q 26 L (.long 37 :: st) w cn sn := w_ldc2 d_102_23 (by decide +kernel : kT (mO 102) 106 = some (.long 37))
theorem d_102_26 : decode (mB 102) 26 = .ok (.lmul, 1) := by decide +kernel
theorem s_102_26 {d : Nat} {Q : wQ} {L : List (Option Value)} {st : List Value} {w : aw} {cn sn : Nat} {a b : Int64} : wp d 102 Q 26 L (.long b :: .long a :: st) w cn sn = wp d 102 Q 27 L (.long (a * b) :: st) w cn sn := wp_row d_102_26 _ _ _ _ _
theorem d_102_27 : decode (mB 102) 27 = .ok (.iload_n 3, 1) := by decide +kernel
theorem s_102_27 {d : Nat} {Q : wQ} {L : List (Option Value)} {st : List Value} {w : aw} {cn sn : Nat} {a0 a1 a2 : Option Value} {v : Int32} : wp d 102 Q 27 (a0 :: a1 :: a2 :: some (.int v) :: L) st w cn sn = wp d 102 Q 28 (a0 :: a1 :: a2 :: some (.int v) :: L) (.int v :: st) w cn sn := w_iload_n d_102_27 rfl
theorem d_102_28 : decode (mB 102) 28 = .ok (.invokestatic 99, 3) := by decide +kernel
theorem s_102_28 {d : Nat} {Q : wQ} {L : List (Option Value)} {st : List Value} {w : aw} {cn sn : Nat} {v0 : Value} : wp d 102 Q 28 L (v0 :: st) w cn sn = (catS st ≤ 8 ∧ wpD d 144 [v0] w (fun v w' => wp d 102 Q 31 L (v.toList ++ st) w' cn sn)) := w_static (As := [v0]) d_102_28 (by decide +kernel : cT (mO 102) 99 = some (2, 144)) rfl (by decide +kernel) rfl
theorem d_102_31 : decode (mB 102) 31 = .ok (.i2l, 1) := by decide +kernel
theorem s_102_31 {d : Nat} {Q : wQ} {L : List (Option Value)} {st : List Value} {w : aw} {cn sn : Nat} {a : Int32} : wp d 102 Q 31 L (.int a :: st) w cn sn = wp d 102 Q 32 L (.long a.toInt64 :: st) w cn sn := wp_row d_102_31 _ _ _ _ _
theorem d_102_32 : decode (mB 102) 32 = .ok (.ladd, 1) := by decide +kernel
theorem s_102_32 {d : Nat} {Q : wQ} {L : List (Option Value)} {st : List Value} {w : aw} {cn sn : Nat} {a b : Int64} : wp d 102 Q 32 L (.long b :: .long a :: st) w cn sn = wp d 102 Q 33 L (.long (a + b) :: st) w cn sn := wp_row d_102_32 _ _ _ _ _
theorem d_102_33 : decode (mB 102) 33 = .ok (.lastore, 1) := by decide +kernel
theorem s_102_33 {d : Nat} {Q : wQ} {L : List (Option Value)} {st : List Value} {w : aw} {cn sn : Nat} {a : Nat} {i : Int32} {x : Int64} : wp d 102 Q 33 L (.long x :: .int i :: .ref a :: st) w cn sn = (kd w a = 22 ∧ inR i (ln w a) ∧ wp d 102 Q 34 L st (uL w a i.toNatClampNeg x) cn sn) := wp_row d_102_33 _ _ _ _ _
theorem d_102_34 : decode (mB 102) 34 = .ok (.aload_n 0, 1) := by decide +kernel
theorem s_102_34 {d : Nat} {Q : wQ} {L : List (Option Value)} {st : List Value} {w : aw} {cn sn : Nat} {v : Nat} : wp d 102 Q 34 (some (.ref v) :: L) st w cn sn = wp d 102 Q 35 (some (.ref v) :: L) (.ref v :: st) w cn sn := w_aload_n d_102_34 rfl
theorem d_102_35 : decode (mB 102) 35 = .ok (.getfield 79, 3) := by decide +kernel
theorem s_102_35 {d : Nat} {Q : wQ} {L : List (Option Value)} {st : List Value} {w : aw} {cn sn : Nat} {a : Nat} : wp d 102 Q 35 L (.ref a :: st) w cn sn = (kd w a = 9 ∧ wp d 102 Q 38 L (fd w 547 a :: st) w cn sn) := w_getfield d_102_35 (by decide +kernel : fT (mO 102) 79 = some (8, 35))
theorem d_102_38 : decode (mB 102) 38 = .ok (.aload_n 0, 1) := by decide +kernel
theorem s_102_38 {d : Nat} {Q : wQ} {L : List (Option Value)} {st : List Value} {w : aw} {cn sn : Nat} {v : Nat} : wp d 102 Q 38 (some (.ref v) :: L) st w cn sn = wp d 102 Q 39 (some (.ref v) :: L) (.ref v :: st) w cn sn := w_aload_n d_102_38 rfl
theorem d_102_39 : decode (mB 102) 39 = .ok (.getfield 96, 3) := by decide +kernel
theorem s_102_39 {d : Nat} {Q : wQ} {L : List (Option Value)} {st : List Value} {w : aw} {cn sn : Nat} {a : Nat} : wp d 102 Q 39 L (.ref a :: st) w cn sn = (kd w a = 9 ∧ wp d 102 Q 42 L (fd w 548 a :: st) w cn sn) := w_getfield d_102_39 (by decide +kernel : fT (mO 102) 96 = some (8, 36))
theorem d_102_42 : decode (mB 102) 42 = .ok (.iload 4, 2) := by decide +kernel
theorem s_102_42 {d : Nat} {Q : wQ} {L : List (Option Value)} {st : List Value} {w : aw} {cn sn : Nat} {a0 a1 a2 a3 : Option Value} {v : Int32} : wp d 102 Q 42 (a0 :: a1 :: a2 :: a3 :: some (.int v) :: L) st w cn sn = wp d 102 Q 44 (a0 :: a1 :: a2 :: a3 :: some (.int v) :: L) (.int v :: st) w cn sn := w_iload d_102_42 rfl
theorem d_102_44 : decode (mB 102) 44 = .ok (.iastore, 1) := by decide +kernel
theorem s_102_44 {d : Nat} {Q : wQ} {L : List (Option Value)} {st : List Value} {w : aw} {cn sn : Nat} {a : Nat} {i x : Int32} : wp d 102 Q 44 L (.int x :: .int i :: .ref a :: st) w cn sn = (kd w a = 20 ∧ inR i (ln w a) ∧ wp d 102 Q 45 L st (uA w a i.toNatClampNeg x) cn sn) := wp_row d_102_44 _ _ _ _ _
theorem d_102_45 : decode (mB 102) 45 = .ok (.aload_n 0, 1) := by decide +kernel
theorem s_102_45 {d : Nat} {Q : wQ} {L : List (Option Value)} {st : List Value} {w : aw} {cn sn : Nat} {v : Nat} : wp d 102 Q 45 (some (.ref v) :: L) st w cn sn = wp d 102 Q 46 (some (.ref v) :: L) (.ref v :: st) w cn sn := w_aload_n d_102_45 rfl
theorem d_102_46 : decode (mB 102) 46 = .ok (.dup, 1) := by decide +kernel
theorem s_102_46 {d : Nat} {Q : wQ} {L : List (Option Value)} {st : List Value} {w : aw} {cn sn : Nat} {v : Value} : wp d 102 Q 46 L (v :: st) w cn sn = (v.category = 1 ∧ wp d 102 Q 47 L (v :: v :: st) w cn sn) := wp_row d_102_46 _ _ _ _ _
theorem d_102_47 : decode (mB 102) 47 = .ok (.getfield 96, 3) := by decide +kernel
theorem s_102_47 {d : Nat} {Q : wQ} {L : List (Option Value)} {st : List Value} {w : aw} {cn sn : Nat} {a : Nat} : wp d 102 Q 47 L (.ref a :: st) w cn sn = (kd w a = 9 ∧ wp d 102 Q 50 L (fd w 548 a :: st) w cn sn) := w_getfield d_102_47 (by decide +kernel : fT (mO 102) 96 = some (8, 36))
theorem d_102_50 : decode (mB 102) 50 = .ok (.iconst 1, 1) := by decide +kernel
theorem s_102_50 {d : Nat} {Q : wQ} {L : List (Option Value)} {st : List Value} {w : aw} {cn sn : Nat}  : wp d 102 Q 50 L st w cn sn = wp d 102 Q 51 L (.int 1 :: st) w cn sn := w_iconst d_102_50 (by decide)
theorem d_102_51 : decode (mB 102) 51 = .ok (.iadd, 1) := by decide +kernel
theorem s_102_51 {d : Nat} {Q : wQ} {L : List (Option Value)} {st : List Value} {w : aw} {cn sn : Nat} {a b : Int32} : wp d 102 Q 51 L (.int b :: .int a :: st) w cn sn = wp d 102 Q 52 L (.int (a + b) :: st) w cn sn := wp_row d_102_51 _ _ _ _ _
theorem d_102_52 : decode (mB 102) 52 = .ok (.putfield 96, 3) := by decide +kernel
theorem s_102_52 {d : Nat} {Q : wQ} {L : List (Option Value)} {st : List Value} {w : aw} {cn sn : Nat} {x : Int32} {a : Nat} : wp d 102 Q 52 L (.int x :: .ref a :: st) w cn sn = (kd w a = 9 ∧ wp d 102 Q 55 L st (uF w 548 a (.int x)) cn sn) := w_putfield d_102_52 (by decide +kernel : fT (mO 102) 96 = some (8, 36)) (by decide +kernel) ok_int
theorem d_102_55 : decode (mB 102) 55 = .ok (.return_, 1) := by decide +kernel
theorem s_102_55 {d : Nat} {Q : wQ} {L : List (Option Value)} {w : aw} {cn sn : Nat}  : wp d 102 Q 55 L [] w cn sn = Q none w := w_return d_102_55 rfl
