theorem d_103_0 : decode (mB 103) 0 = .ok (.aload_n 0, 1) := by decide +kernel
theorem s_103_0 {d : Nat} {Q : wQ} {L : List (Option Value)} {st : List Value} {w : aw} {cn sn : Nat} {v : Nat} : wp d 103 Q 0 (some (.ref v) :: L) st w cn sn = wp d 103 Q 1 (some (.ref v) :: L) (.ref v :: st) w cn sn := w_aload_n d_103_0 rfl
theorem d_103_1 : decode (mB 103) 1 = .ok (.invokespecial 1, 3) := by decide +kernel
theorem s_103_1 {d : Nat} {Q : wQ} {L : List (Option Value)} {st : List Value} {w : aw} {cn sn : Nat} {b : Nat} : wp d 103 Q 1 L (.ref b :: st) w cn sn = (catS st ≤ 8 ∧ wp d 103 Q 4 L st w cn sn) := w_objinit d_103_1 (by decide +kernel : cT (mO 103) 1 = some (3, 0))
theorem d_103_4 : decode (mB 103) 4 = .ok (.aload_n 0, 1) := by decide +kernel
theorem s_103_4 {d : Nat} {Q : wQ} {L : List (Option Value)} {st : List Value} {w : aw} {cn sn : Nat} {v : Nat} : wp d 103 Q 4 (some (.ref v) :: L) st w cn sn = wp d 103 Q 5 (some (.ref v) :: L) (.ref v :: st) w cn sn := w_aload_n d_103_4 rfl
theorem d_103_5 : decode (mB 103) 5 = .ok (.iconst 1, 1) := by decide +kernel
theorem s_103_5 {d : Nat} {Q : wQ} {L : List (Option Value)} {st : List Value} {w : aw} {cn sn : Nat}  : wp d 103 Q 5 L st w cn sn = wp d 103 Q 6 L (.int 1 :: st) w cn sn := w_iconst d_103_5 (by decide)
theorem d_103_6 : decode (mB 103) 6 = .ok (.putfield 7, 3) := by decide +kernel
theorem s_103_6 {d : Nat} {Q : wQ} {L : List (Option Value)} {st : List Value} {w : aw} {cn sn : Nat} {x : Int32} {a : Nat} : wp d 103 Q 6 L (.int x :: .ref a :: st) w cn sn = (kd w a = 9 ∧ wp d 103 Q 9 L st (uF w 519 a (.int x)) cn sn) := w_putfield d_103_6 (by decide +kernel : fT (mO 103) 7 = some (8, 7)) (by decide +kernel) ok_int
theorem d_103_9 : decode (mB 103) 9 = .ok (.aload_n 0, 1) := by decide +kernel
theorem s_103_9 {d : Nat} {Q : wQ} {L : List (Option Value)} {st : List Value} {w : aw} {cn sn : Nat} {v : Nat} : wp d 103 Q 9 (some (.ref v) :: L) st w cn sn = wp d 103 Q 10 (some (.ref v) :: L) (.ref v :: st) w cn sn := w_aload_n d_103_9 rfl
theorem d_103_10 : decode (mB 103) 10 = .ok (.iconst (-1), 1) := by decide +kernel
theorem s_103_10 {d : Nat} {Q : wQ} {L : List (Option Value)} {st : List Value} {w : aw} {cn sn : Nat}  : wp d 103 Q 10 L st w cn sn = wp d 103 Q 11 L (.int (-1) :: st) w cn sn := w_iconst d_103_10 (by decide)
theorem d_103_11 : decode (mB 103) 11 = .ok (.putfield 13, 3) := by decide +kernel
theorem s_103_11 {d : Nat} {Q : wQ} {L : List (Option Value)} {st : List Value} {w : aw} {cn sn : Nat} {x : Int32} {a : Nat} : wp d 103 Q 11 L (.int x :: .ref a :: st) w cn sn = (kd w a = 9 ∧ wp d 103 Q 14 L st (uF w 521 a (.int x)) cn sn) := w_putfield d_103_11 (by decide +kernel : fT (mO 103) 13 = some (8, 9)) (by decide +kernel) ok_int
theorem d_103_14 : decode (mB 103) 14 = .ok (.aload_n 0, 1) := by decide +kernel
theorem s_103_14 {d : Nat} {Q : wQ} {L : List (Option Value)} {st : List Value} {w : aw} {cn sn : Nat} {v : Nat} : wp d 103 Q 14 (some (.ref v) :: L) st w cn sn = wp d 103 Q 15 (some (.ref v) :: L) (.ref v :: st) w cn sn := w_aload_n d_103_14 rfl
theorem d_103_15 : decode (mB 103) 15 = .ok (.bipush 8, 2) := by decide +kernel
theorem s_103_15 {d : Nat} {Q : wQ} {L : List (Option Value)} {st : List Value} {w : aw} {cn sn : Nat}  : wp d 103 Q 15 L st w cn sn = wp d 103 Q 17 L (.int 8 :: st) w cn sn := w_bipush d_103_15 (by decide)
theorem d_103_17 : decode (mB 103) 17 = .ok (.newarray .int, 2) := by decide +kernel
theorem s_103_17 {d : Nat} {Q : wQ} {L : List (Option Value)} {st : List Value} {w : aw} {cn sn : Nat} {v : Int32} : wp d 103 Q 17 L (.int v :: st) w cn sn = (¬ v < 0 ∧ v.toNatClampNeg * 4 ≤ 536870912 ∧ cn + 1 ≤ 24 ∧ sn + v.toNatClampNeg ≤ 86736 ∧ wp d 103 Q 19 L (.ref (zs w) :: st) (nw w 20 v.toNatClampNeg) (cn + 1) (sn + v.toNatClampNeg)) := w_newarray d_103_17 rfl (by decide +kernel) (by decide +kernel)
theorem d_103_19 : decode (mB 103) 19 = .ok (.putfield 16, 3) := by decide +kernel
theorem s_103_19 {d : Nat} {Q : wQ} {L : List (Option Value)} {st : List Value} {w : aw} {cn sn : Nat} {x : Nat} {a : Nat} : wp d 103 Q 19 L (.ref x :: .ref a :: st) w cn sn = (kd w a = 9 ∧ wp d 103 Q 22 L st (uF w 523 a (.ref x)) cn sn) := w_putfield d_103_19 (by decide +kernel : fT (mO 103) 16 = some (8, 11)) (by decide +kernel) ok_arr
theorem d_103_22 : decode (mB 103) 22 = .ok (.aload_n 0, 1) := by decide +kernel
theorem s_103_22 {d : Nat} {Q : wQ} {L : List (Option Value)} {st : List Value} {w : aw} {cn sn : Nat} {v : Nat} : wp d 103 Q 22 (some (.ref v) :: L) st w cn sn = wp d 103 Q 23 (some (.ref v) :: L) (.ref v :: st) w cn sn := w_aload_n d_103_22 rfl
theorem d_103_23 : decode (mB 103) 23 = .ok (.bipush 8, 2) := by decide +kernel
theorem s_103_23 {d : Nat} {Q : wQ} {L : List (Option Value)} {st : List Value} {w : aw} {cn sn : Nat}  : wp d 103 Q 23 L st w cn sn = wp d 103 Q 25 L (.int 8 :: st) w cn sn := w_bipush d_103_23 (by decide)
theorem d_103_25 : decode (mB 103) 25 = .ok (.newarray .int, 2) := by decide +kernel
theorem s_103_25 {d : Nat} {Q : wQ} {L : List (Option Value)} {st : List Value} {w : aw} {cn sn : Nat} {v : Int32} : wp d 103 Q 25 L (.int v :: st) w cn sn = (¬ v < 0 ∧ v.toNatClampNeg * 4 ≤ 536870912 ∧ cn + 1 ≤ 24 ∧ sn + v.toNatClampNeg ≤ 86736 ∧ wp d 103 Q 27 L (.ref (zs w) :: st) (nw w 20 v.toNatClampNeg) (cn + 1) (sn + v.toNatClampNeg)) := w_newarray d_103_25 rfl (by decide +kernel) (by decide +kernel)
theorem d_103_27 : decode (mB 103) 27 = .ok (.putfield 20, 3) := by decide +kernel
theorem s_103_27 {d : Nat} {Q : wQ} {L : List (Option Value)} {st : List Value} {w : aw} {cn sn : Nat} {x : Nat} {a : Nat} : wp d 103 Q 27 L (.ref x :: .ref a :: st) w cn sn = (kd w a = 9 ∧ wp d 103 Q 30 L st (uF w 525 a (.ref x)) cn sn) := w_putfield d_103_27 (by decide +kernel : fT (mO 103) 20 = some (8, 13)) (by decide +kernel) ok_arr
theorem d_103_30 : decode (mB 103) 30 = .ok (.aload_n 0, 1) := by decide +kernel
theorem s_103_30 {d : Nat} {Q : wQ} {L : List (Option Value)} {st : List Value} {w : aw} {cn sn : Nat} {v : Nat} : wp d 103 Q 30 (some (.ref v) :: L) st w cn sn = wp d 103 Q 31 (some (.ref v) :: L) (.ref v :: st) w cn sn := w_aload_n d_103_30 rfl
theorem d_103_31 : decode (mB 103) 31 = .ok (.ldc 23, 2) := by decide +kernel
theorem s_103_31 {d : Nat} {Q : wQ} {L : List (Option Value)} {st : List Value} {w : aw} {cn sn : Nat}  : wp d 103 Q 31 L st w cn sn = wp d 103 Q 33 L (.int 32768 :: st) w cn sn := w_ldc d_103_31 (by decide +kernel : kT (mO 103) 23 = some (.int 32768))
theorem d_103_33 : decode (mB 103) 33 = .ok (.newarray .int, 2) := by decide +kernel
theorem s_103_33 {d : Nat} {Q : wQ} {L : List (Option Value)} {st : List Value} {w : aw} {cn sn : Nat} {v : Int32} : wp d 103 Q 33 L (.int v :: st) w cn sn = (¬ v < 0 ∧ v.toNatClampNeg * 4 ≤ 536870912 ∧ cn + 1 ≤ 24 ∧ sn + v.toNatClampNeg ≤ 86736 ∧ wp d 103 Q 35 L (.ref (zs w) :: st) (nw w 20 v.toNatClampNeg) (cn + 1) (sn + v.toNatClampNeg)) := w_newarray d_103_33 rfl (by decide +kernel) (by decide +kernel)
theorem d_103_35 : decode (mB 103) 35 = .ok (.putfield 24, 3) := by decide +kernel
theorem s_103_35 {d : Nat} {Q : wQ} {L : List (Option Value)} {st : List Value} {w : aw} {cn sn : Nat} {x : Nat} {a : Nat} : wp d 103 Q 35 L (.ref x :: .ref a :: st) w cn sn = (kd w a = 9 ∧ wp d 103 Q 38 L st (uF w 526 a (.ref x)) cn sn) := w_putfield d_103_35 (by decide +kernel : fT (mO 103) 24 = some (8, 14)) (by decide +kernel) ok_arr
theorem d_103_38 : decode (mB 103) 38 = .ok (.aload_n 0, 1) := by decide +kernel
theorem s_103_38 {d : Nat} {Q : wQ} {L : List (Option Value)} {st : List Value} {w : aw} {cn sn : Nat} {v : Nat} : wp d 103 Q 38 (some (.ref v) :: L) st w cn sn = wp d 103 Q 39 (some (.ref v) :: L) (.ref v :: st) w cn sn := w_aload_n d_103_38 rfl
theorem d_103_39 : decode (mB 103) 39 = .ok (.ldc 23, 2) := by decide +kernel
theorem s_103_39 {d : Nat} {Q : wQ} {L : List (Option Value)} {st : List Value} {w : aw} {cn sn : Nat}  : wp d 103 Q 39 L st w cn sn = wp d 103 Q 41 L (.int 32768 :: st) w cn sn := w_ldc d_103_39 (by decide +kernel : kT (mO 103) 23 = some (.int 32768))
theorem d_103_41 : decode (mB 103) 41 = .ok (.newarray .int, 2) := by decide +kernel
theorem s_103_41 {d : Nat} {Q : wQ} {L : List (Option Value)} {st : List Value} {w : aw} {cn sn : Nat} {v : Int32} : wp d 103 Q 41 L (.int v :: st) w cn sn = (¬ v < 0 ∧ v.toNatClampNeg * 4 ≤ 536870912 ∧ cn + 1 ≤ 24 ∧ sn + v.toNatClampNeg ≤ 86736 ∧ wp d 103 Q 43 L (.ref (zs w) :: st) (nw w 20 v.toNatClampNeg) (cn + 1) (sn + v.toNatClampNeg)) := w_newarray d_103_41 rfl (by decide +kernel) (by decide +kernel)
theorem d_103_43 : decode (mB 103) 43 = .ok (.putfield 27, 3) := by decide +kernel
theorem s_103_43 {d : Nat} {Q : wQ} {L : List (Option Value)} {st : List Value} {w : aw} {cn sn : Nat} {x : Nat} {a : Nat} : wp d 103 Q 43 L (.ref x :: .ref a :: st) w cn sn = (kd w a = 9 ∧ wp d 103 Q 46 L st (uF w 527 a (.ref x)) cn sn) := w_putfield d_103_43 (by decide +kernel : fT (mO 103) 27 = some (8, 15)) (by decide +kernel) ok_arr
theorem d_103_46 : decode (mB 103) 46 = .ok (.aload_n 0, 1) := by decide +kernel
theorem s_103_46 {d : Nat} {Q : wQ} {L : List (Option Value)} {st : List Value} {w : aw} {cn sn : Nat} {v : Nat} : wp d 103 Q 46 (some (.ref v) :: L) st w cn sn = wp d 103 Q 47 (some (.ref v) :: L) (.ref v :: st) w cn sn := w_aload_n d_103_46 rfl
theorem d_103_47 : decode (mB 103) 47 = .ok (.bipush 8, 2) := by decide +kernel
theorem s_103_47 {d : Nat} {Q : wQ} {L : List (Option Value)} {st : List Value} {w : aw} {cn sn : Nat}  : wp d 103 Q 47 L st w cn sn = wp d 103 Q 49 L (.int 8 :: st) w cn sn := w_bipush d_103_47 (by decide)
theorem d_103_49 : decode (mB 103) 49 = .ok (.newarray .int, 2) := by decide +kernel
theorem s_103_49 {d : Nat} {Q : wQ} {L : List (Option Value)} {st : List Value} {w : aw} {cn sn : Nat} {v : Int32} : wp d 103 Q 49 L (.int v :: st) w cn sn = (¬ v < 0 ∧ v.toNatClampNeg * 4 ≤ 536870912 ∧ cn + 1 ≤ 24 ∧ sn + v.toNatClampNeg ≤ 86736 ∧ wp d 103 Q 51 L (.ref (zs w) :: st) (nw w 20 v.toNatClampNeg) (cn + 1) (sn + v.toNatClampNeg)) := w_newarray d_103_49 rfl (by decide +kernel) (by decide +kernel)
theorem d_103_51 : decode (mB 103) 51 = .ok (.putfield 30, 3) := by decide +kernel
theorem s_103_51 {d : Nat} {Q : wQ} {L : List (Option Value)} {st : List Value} {w : aw} {cn sn : Nat} {x : Nat} {a : Nat} : wp d 103 Q 51 L (.ref x :: .ref a :: st) w cn sn = (kd w a = 9 ∧ wp d 103 Q 54 L st (uF w 528 a (.ref x)) cn sn) := w_putfield d_103_51 (by decide +kernel : fT (mO 103) 30 = some (8, 16)) (by decide +kernel) ok_arr
theorem d_103_54 : decode (mB 103) 54 = .ok (.aload_n 0, 1) := by decide +kernel
theorem s_103_54 {d : Nat} {Q : wQ} {L : List (Option Value)} {st : List Value} {w : aw} {cn sn : Nat} {v : Nat} : wp d 103 Q 54 (some (.ref v) :: L) st w cn sn = wp d 103 Q 55 (some (.ref v) :: L) (.ref v :: st) w cn sn := w_aload_n d_103_54 rfl
theorem d_103_55 : decode (mB 103) 55 = .ok (.bipush 8, 2) := by decide +kernel
theorem s_103_55 {d : Nat} {Q : wQ} {L : List (Option Value)} {st : List Value} {w : aw} {cn sn : Nat}  : wp d 103 Q 55 L st w cn sn = wp d 103 Q 57 L (.int 8 :: st) w cn sn := w_bipush d_103_55 (by decide)
theorem d_103_57 : decode (mB 103) 57 = .ok (.newarray .int, 2) := by decide +kernel
theorem s_103_57 {d : Nat} {Q : wQ} {L : List (Option Value)} {st : List Value} {w : aw} {cn sn : Nat} {v : Int32} : wp d 103 Q 57 L (.int v :: st) w cn sn = (¬ v < 0 ∧ v.toNatClampNeg * 4 ≤ 536870912 ∧ cn + 1 ≤ 24 ∧ sn + v.toNatClampNeg ≤ 86736 ∧ wp d 103 Q 59 L (.ref (zs w) :: st) (nw w 20 v.toNatClampNeg) (cn + 1) (sn + v.toNatClampNeg)) := w_newarray d_103_57 rfl (by decide +kernel) (by decide +kernel)
theorem d_103_59 : decode (mB 103) 59 = .ok (.putfield 33, 3) := by decide +kernel
theorem s_103_59 {d : Nat} {Q : wQ} {L : List (Option Value)} {st : List Value} {w : aw} {cn sn : Nat} {x : Nat} {a : Nat} : wp d 103 Q 59 L (.ref x :: .ref a :: st) w cn sn = (kd w a = 9 ∧ wp d 103 Q 62 L st (uF w 529 a (.ref x)) cn sn) := w_putfield d_103_59 (by decide +kernel : fT (mO 103) 33 = some (8, 17)) (by decide +kernel) ok_arr
theorem d_103_62 : decode (mB 103) 62 = .ok (.aload_n 0, 1) := by decide +kernel
theorem s_103_62 {d : Nat} {Q : wQ} {L : List (Option Value)} {st : List Value} {w : aw} {cn sn : Nat} {v : Nat} : wp d 103 Q 62 (some (.ref v) :: L) st w cn sn = wp d 103 Q 63 (some (.ref v) :: L) (.ref v :: st) w cn sn := w_aload_n d_103_62 rfl
theorem d_103_63 : decode (mB 103) 63 = .ok (.bipush 8, 2) := by decide +kernel
theorem s_103_63 {d : Nat} {Q : wQ} {L : List (Option Value)} {st : List Value} {w : aw} {cn sn : Nat}  : wp d 103 Q 63 L st w cn sn = wp d 103 Q 65 L (.int 8 :: st) w cn sn := w_bipush d_103_63 (by decide)
theorem d_103_65 : decode (mB 103) 65 = .ok (.newarray .int, 2) := by decide +kernel
theorem s_103_65 {d : Nat} {Q : wQ} {L : List (Option Value)} {st : List Value} {w : aw} {cn sn : Nat} {v : Int32} : wp d 103 Q 65 L (.int v :: st) w cn sn = (¬ v < 0 ∧ v.toNatClampNeg * 4 ≤ 536870912 ∧ cn + 1 ≤ 24 ∧ sn + v.toNatClampNeg ≤ 86736 ∧ wp d 103 Q 67 L (.ref (zs w) :: st) (nw w 20 v.toNatClampNeg) (cn + 1) (sn + v.toNatClampNeg)) := w_newarray d_103_65 rfl (by decide +kernel) (by decide +kernel)
theorem d_103_67 : decode (mB 103) 67 = .ok (.putfield 36, 3) := by decide +kernel
theorem s_103_67 {d : Nat} {Q : wQ} {L : List (Option Value)} {st : List Value} {w : aw} {cn sn : Nat} {x : Nat} {a : Nat} : wp d 103 Q 67 L (.ref x :: .ref a :: st) w cn sn = (kd w a = 9 ∧ wp d 103 Q 70 L st (uF w 530 a (.ref x)) cn sn) := w_putfield d_103_67 (by decide +kernel : fT (mO 103) 36 = some (8, 18)) (by decide +kernel) ok_arr
theorem d_103_70 : decode (mB 103) 70 = .ok (.aload_n 0, 1) := by decide +kernel
theorem s_103_70 {d : Nat} {Q : wQ} {L : List (Option Value)} {st : List Value} {w : aw} {cn sn : Nat} {v : Nat} : wp d 103 Q 70 (some (.ref v) :: L) st w cn sn = wp d 103 Q 71 (some (.ref v) :: L) (.ref v :: st) w cn sn := w_aload_n d_103_70 rfl
theorem d_103_71 : decode (mB 103) 71 = .ok (.bipush 8, 2) := by decide +kernel
theorem s_103_71 {d : Nat} {Q : wQ} {L : List (Option Value)} {st : List Value} {w : aw} {cn sn : Nat}  : wp d 103 Q 71 L st w cn sn = wp d 103 Q 73 L (.int 8 :: st) w cn sn := w_bipush d_103_71 (by decide)
theorem d_103_73 : decode (mB 103) 73 = .ok (.newarray .int, 2) := by decide +kernel
theorem s_103_73 {d : Nat} {Q : wQ} {L : List (Option Value)} {st : List Value} {w : aw} {cn sn : Nat} {v : Int32} : wp d 103 Q 73 L (.int v :: st) w cn sn = (¬ v < 0 ∧ v.toNatClampNeg * 4 ≤ 536870912 ∧ cn + 1 ≤ 24 ∧ sn + v.toNatClampNeg ≤ 86736 ∧ wp d 103 Q 75 L (.ref (zs w) :: st) (nw w 20 v.toNatClampNeg) (cn + 1) (sn + v.toNatClampNeg)) := w_newarray d_103_73 rfl (by decide +kernel) (by decide +kernel)
theorem d_103_75 : decode (mB 103) 75 = .ok (.putfield 39, 3) := by decide +kernel
theorem s_103_75 {d : Nat} {Q : wQ} {L : List (Option Value)} {st : List Value} {w : aw} {cn sn : Nat} {x : Nat} {a : Nat} : wp d 103 Q 75 L (.ref x :: .ref a :: st) w cn sn = (kd w a = 9 ∧ wp d 103 Q 78 L st (uF w 531 a (.ref x)) cn sn) := w_putfield d_103_75 (by decide +kernel : fT (mO 103) 39 = some (8, 19)) (by decide +kernel) ok_arr
theorem d_103_78 : decode (mB 103) 78 = .ok (.aload_n 0, 1) := by decide +kernel
theorem s_103_78 {d : Nat} {Q : wQ} {L : List (Option Value)} {st : List Value} {w : aw} {cn sn : Nat} {v : Nat} : wp d 103 Q 78 (some (.ref v) :: L) st w cn sn = wp d 103 Q 79 (some (.ref v) :: L) (.ref v :: st) w cn sn := w_aload_n d_103_78 rfl
theorem d_103_79 : decode (mB 103) 79 = .ok (.bipush 8, 2) := by decide +kernel
theorem s_103_79 {d : Nat} {Q : wQ} {L : List (Option Value)} {st : List Value} {w : aw} {cn sn : Nat}  : wp d 103 Q 79 L st w cn sn = wp d 103 Q 81 L (.int 8 :: st) w cn sn := w_bipush d_103_79 (by decide)
theorem d_103_81 : decode (mB 103) 81 = .ok (.newarray .int, 2) := by decide +kernel
theorem s_103_81 {d : Nat} {Q : wQ} {L : List (Option Value)} {st : List Value} {w : aw} {cn sn : Nat} {v : Int32} : wp d 103 Q 81 L (.int v :: st) w cn sn = (¬ v < 0 ∧ v.toNatClampNeg * 4 ≤ 536870912 ∧ cn + 1 ≤ 24 ∧ sn + v.toNatClampNeg ≤ 86736 ∧ wp d 103 Q 83 L (.ref (zs w) :: st) (nw w 20 v.toNatClampNeg) (cn + 1) (sn + v.toNatClampNeg)) := w_newarray d_103_81 rfl (by decide +kernel) (by decide +kernel)
theorem d_103_83 : decode (mB 103) 83 = .ok (.putfield 42, 3) := by decide +kernel
theorem s_103_83 {d : Nat} {Q : wQ} {L : List (Option Value)} {st : List Value} {w : aw} {cn sn : Nat} {x : Nat} {a : Nat} : wp d 103 Q 83 L (.ref x :: .ref a :: st) w cn sn = (kd w a = 9 ∧ wp d 103 Q 86 L st (uF w 532 a (.ref x)) cn sn) := w_putfield d_103_83 (by decide +kernel : fT (mO 103) 42 = some (8, 20)) (by decide +kernel) ok_arr
theorem d_103_86 : decode (mB 103) 86 = .ok (.aload_n 0, 1) := by decide +kernel
theorem s_103_86 {d : Nat} {Q : wQ} {L : List (Option Value)} {st : List Value} {w : aw} {cn sn : Nat} {v : Nat} : wp d 103 Q 86 (some (.ref v) :: L) st w cn sn = wp d 103 Q 87 (some (.ref v) :: L) (.ref v :: st) w cn sn := w_aload_n d_103_86 rfl
theorem d_103_87 : decode (mB 103) 87 = .ok (.bipush 8, 2) := by decide +kernel
theorem s_103_87 {d : Nat} {Q : wQ} {L : List (Option Value)} {st : List Value} {w : aw} {cn sn : Nat}  : wp d 103 Q 87 L st w cn sn = wp d 103 Q 89 L (.int 8 :: st) w cn sn := w_bipush d_103_87 (by decide)
theorem d_103_89 : decode (mB 103) 89 = .ok (.newarray .int, 2) := by decide +kernel
theorem s_103_89 {d : Nat} {Q : wQ} {L : List (Option Value)} {st : List Value} {w : aw} {cn sn : Nat} {v : Int32} : wp d 103 Q 89 L (.int v :: st) w cn sn = (¬ v < 0 ∧ v.toNatClampNeg * 4 ≤ 536870912 ∧ cn + 1 ≤ 24 ∧ sn + v.toNatClampNeg ≤ 86736 ∧ wp d 103 Q 91 L (.ref (zs w) :: st) (nw w 20 v.toNatClampNeg) (cn + 1) (sn + v.toNatClampNeg)) := w_newarray d_103_89 rfl (by decide +kernel) (by decide +kernel)
theorem d_103_91 : decode (mB 103) 91 = .ok (.putfield 45, 3) := by decide +kernel
theorem s_103_91 {d : Nat} {Q : wQ} {L : List (Option Value)} {st : List Value} {w : aw} {cn sn : Nat} {x : Nat} {a : Nat} : wp d 103 Q 91 L (.ref x :: .ref a :: st) w cn sn = (kd w a = 9 ∧ wp d 103 Q 94 L st (uF w 533 a (.ref x)) cn sn) := w_putfield d_103_91 (by decide +kernel : fT (mO 103) 45 = some (8, 21)) (by decide +kernel) ok_arr
theorem d_103_94 : decode (mB 103) 94 = .ok (.aload_n 0, 1) := by decide +kernel
theorem s_103_94 {d : Nat} {Q : wQ} {L : List (Option Value)} {st : List Value} {w : aw} {cn sn : Nat} {v : Nat} : wp d 103 Q 94 (some (.ref v) :: L) st w cn sn = wp d 103 Q 95 (some (.ref v) :: L) (.ref v :: st) w cn sn := w_aload_n d_103_94 rfl
theorem d_103_95 : decode (mB 103) 95 = .ok (.bipush 8, 2) := by decide +kernel
theorem s_103_95 {d : Nat} {Q : wQ} {L : List (Option Value)} {st : List Value} {w : aw} {cn sn : Nat}  : wp d 103 Q 95 L st w cn sn = wp d 103 Q 97 L (.int 8 :: st) w cn sn := w_bipush d_103_95 (by decide)
theorem d_103_97 : decode (mB 103) 97 = .ok (.newarray .int, 2) := by decide +kernel
theorem s_103_97 {d : Nat} {Q : wQ} {L : List (Option Value)} {st : List Value} {w : aw} {cn sn : Nat} {v : Int32} : wp d 103 Q 97 L (.int v :: st) w cn sn = (¬ v < 0 ∧ v.toNatClampNeg * 4 ≤ 536870912 ∧ cn + 1 ≤ 24 ∧ sn + v.toNatClampNeg ≤ 86736 ∧ wp d 103 Q 99 L (.ref (zs w) :: st) (nw w 20 v.toNatClampNeg) (cn + 1) (sn + v.toNatClampNeg)) := w_newarray d_103_97 rfl (by decide +kernel) (by decide +kernel)
theorem d_103_99 : decode (mB 103) 99 = .ok (.putfield 48, 3) := by decide +kernel
theorem s_103_99 {d : Nat} {Q : wQ} {L : List (Option Value)} {st : List Value} {w : aw} {cn sn : Nat} {x : Nat} {a : Nat} : wp d 103 Q 99 L (.ref x :: .ref a :: st) w cn sn = (kd w a = 9 ∧ wp d 103 Q 102 L st (uF w 534 a (.ref x)) cn sn) := w_putfield d_103_99 (by decide +kernel : fT (mO 103) 48 = some (8, 22)) (by decide +kernel) ok_arr
theorem d_103_102 : decode (mB 103) 102 = .ok (.aload_n 0, 1) := by decide +kernel
theorem s_103_102 {d : Nat} {Q : wQ} {L : List (Option Value)} {st : List Value} {w : aw} {cn sn : Nat} {v : Nat} : wp d 103 Q 102 (some (.ref v) :: L) st w cn sn = wp d 103 Q 103 (some (.ref v) :: L) (.ref v :: st) w cn sn := w_aload_n d_103_102 rfl
theorem d_103_103 : decode (mB 103) 103 = .ok (.bipush 8, 2) := by decide +kernel
theorem s_103_103 {d : Nat} {Q : wQ} {L : List (Option Value)} {st : List Value} {w : aw} {cn sn : Nat}  : wp d 103 Q 103 L st w cn sn = wp d 103 Q 105 L (.int 8 :: st) w cn sn := w_bipush d_103_103 (by decide)
theorem d_103_105 : decode (mB 103) 105 = .ok (.newarray .int, 2) := by decide +kernel
theorem s_103_105 {d : Nat} {Q : wQ} {L : List (Option Value)} {st : List Value} {w : aw} {cn sn : Nat} {v : Int32} : wp d 103 Q 105 L (.int v :: st) w cn sn = (¬ v < 0 ∧ v.toNatClampNeg * 4 ≤ 536870912 ∧ cn + 1 ≤ 24 ∧ sn + v.toNatClampNeg ≤ 86736 ∧ wp d 103 Q 107 L (.ref (zs w) :: st) (nw w 20 v.toNatClampNeg) (cn + 1) (sn + v.toNatClampNeg)) := w_newarray d_103_105 rfl (by decide +kernel) (by decide +kernel)
theorem d_103_107 : decode (mB 103) 107 = .ok (.putfield 51, 3) := by decide +kernel
theorem s_103_107 {d : Nat} {Q : wQ} {L : List (Option Value)} {st : List Value} {w : aw} {cn sn : Nat} {x : Nat} {a : Nat} : wp d 103 Q 107 L (.ref x :: .ref a :: st) w cn sn = (kd w a = 9 ∧ wp d 103 Q 110 L st (uF w 535 a (.ref x)) cn sn) := w_putfield d_103_107 (by decide +kernel : fT (mO 103) 51 = some (8, 23)) (by decide +kernel) ok_arr
theorem d_103_110 : decode (mB 103) 110 = .ok (.aload_n 0, 1) := by decide +kernel
theorem s_103_110 {d : Nat} {Q : wQ} {L : List (Option Value)} {st : List Value} {w : aw} {cn sn : Nat} {v : Nat} : wp d 103 Q 110 (some (.ref v) :: L) st w cn sn = wp d 103 Q 111 (some (.ref v) :: L) (.ref v :: st) w cn sn := w_aload_n d_103_110 rfl
theorem d_103_111 : decode (mB 103) 111 = .ok (.sipush 128, 3) := by decide +kernel
theorem s_103_111 {d : Nat} {Q : wQ} {L : List (Option Value)} {st : List Value} {w : aw} {cn sn : Nat}  : wp d 103 Q 111 L st w cn sn = wp d 103 Q 114 L (.int 128 :: st) w cn sn := w_sipush d_103_111 (by decide)
theorem d_103_114 : decode (mB 103) 114 = .ok (.newarray .int, 2) := by decide +kernel
theorem s_103_114 {d : Nat} {Q : wQ} {L : List (Option Value)} {st : List Value} {w : aw} {cn sn : Nat} {v : Int32} : wp d 103 Q 114 L (.int v :: st) w cn sn = (¬ v < 0 ∧ v.toNatClampNeg * 4 ≤ 536870912 ∧ cn + 1 ≤ 24 ∧ sn + v.toNatClampNeg ≤ 86736 ∧ wp d 103 Q 116 L (.ref (zs w) :: st) (nw w 20 v.toNatClampNeg) (cn + 1) (sn + v.toNatClampNeg)) := w_newarray d_103_114 rfl (by decide +kernel) (by decide +kernel)
theorem d_103_116 : decode (mB 103) 116 = .ok (.putfield 54, 3) := by decide +kernel
theorem s_103_116 {d : Nat} {Q : wQ} {L : List (Option Value)} {st : List Value} {w : aw} {cn sn : Nat} {x : Nat} {a : Nat} : wp d 103 Q 116 L (.ref x :: .ref a :: st) w cn sn = (kd w a = 9 ∧ wp d 103 Q 119 L st (uF w 536 a (.ref x)) cn sn) := w_putfield d_103_116 (by decide +kernel : fT (mO 103) 54 = some (8, 24)) (by decide +kernel) ok_arr
theorem d_103_119 : decode (mB 103) 119 = .ok (.aload_n 0, 1) := by decide +kernel
theorem s_103_119 {d : Nat} {Q : wQ} {L : List (Option Value)} {st : List Value} {w : aw} {cn sn : Nat} {v : Nat} : wp d 103 Q 119 (some (.ref v) :: L) st w cn sn = wp d 103 Q 120 (some (.ref v) :: L) (.ref v :: st) w cn sn := w_aload_n d_103_119 rfl
theorem d_103_120 : decode (mB 103) 120 = .ok (.bipush 8, 2) := by decide +kernel
theorem s_103_120 {d : Nat} {Q : wQ} {L : List (Option Value)} {st : List Value} {w : aw} {cn sn : Nat}  : wp d 103 Q 120 L st w cn sn = wp d 103 Q 122 L (.int 8 :: st) w cn sn := w_bipush d_103_120 (by decide)
theorem d_103_122 : decode (mB 103) 122 = .ok (.newarray .int, 2) := by decide +kernel
theorem s_103_122 {d : Nat} {Q : wQ} {L : List (Option Value)} {st : List Value} {w : aw} {cn sn : Nat} {v : Int32} : wp d 103 Q 122 L (.int v :: st) w cn sn = (¬ v < 0 ∧ v.toNatClampNeg * 4 ≤ 536870912 ∧ cn + 1 ≤ 24 ∧ sn + v.toNatClampNeg ≤ 86736 ∧ wp d 103 Q 124 L (.ref (zs w) :: st) (nw w 20 v.toNatClampNeg) (cn + 1) (sn + v.toNatClampNeg)) := w_newarray d_103_122 rfl (by decide +kernel) (by decide +kernel)
theorem d_103_124 : decode (mB 103) 124 = .ok (.putfield 57, 3) := by decide +kernel
theorem s_103_124 {d : Nat} {Q : wQ} {L : List (Option Value)} {st : List Value} {w : aw} {cn sn : Nat} {x : Nat} {a : Nat} : wp d 103 Q 124 L (.ref x :: .ref a :: st) w cn sn = (kd w a = 9 ∧ wp d 103 Q 127 L st (uF w 537 a (.ref x)) cn sn) := w_putfield d_103_124 (by decide +kernel : fT (mO 103) 57 = some (8, 25)) (by decide +kernel) ok_arr
theorem d_103_127 : decode (mB 103) 127 = .ok (.aload_n 0, 1) := by decide +kernel
theorem s_103_127 {d : Nat} {Q : wQ} {L : List (Option Value)} {st : List Value} {w : aw} {cn sn : Nat} {v : Nat} : wp d 103 Q 127 (some (.ref v) :: L) st w cn sn = wp d 103 Q 128 (some (.ref v) :: L) (.ref v :: st) w cn sn := w_aload_n d_103_127 rfl
theorem d_103_128 : decode (mB 103) 128 = .ok (.sipush 128, 3) := by decide +kernel
theorem s_103_128 {d : Nat} {Q : wQ} {L : List (Option Value)} {st : List Value} {w : aw} {cn sn : Nat}  : wp d 103 Q 128 L st w cn sn = wp d 103 Q 131 L (.int 128 :: st) w cn sn := w_sipush d_103_128 (by decide)
theorem d_103_131 : decode (mB 103) 131 = .ok (.newarray .int, 2) := by decide +kernel
theorem s_103_131 {d : Nat} {Q : wQ} {L : List (Option Value)} {st : List Value} {w : aw} {cn sn : Nat} {v : Int32} : wp d 103 Q 131 L (.int v :: st) w cn sn = (¬ v < 0 ∧ v.toNatClampNeg * 4 ≤ 536870912 ∧ cn + 1 ≤ 24 ∧ sn + v.toNatClampNeg ≤ 86736 ∧ wp d 103 Q 133 L (.ref (zs w) :: st) (nw w 20 v.toNatClampNeg) (cn + 1) (sn + v.toNatClampNeg)) := w_newarray d_103_131 rfl (by decide +kernel) (by decide +kernel)
theorem d_103_133 : decode (mB 103) 133 = .ok (.putfield 60, 3) := by decide +kernel
theorem s_103_133 {d : Nat} {Q : wQ} {L : List (Option Value)} {st : List Value} {w : aw} {cn sn : Nat} {x : Nat} {a : Nat} : wp d 103 Q 133 L (.ref x :: .ref a :: st) w cn sn = (kd w a = 9 ∧ wp d 103 Q 136 L st (uF w 538 a (.ref x)) cn sn) := w_putfield d_103_133 (by decide +kernel : fT (mO 103) 60 = some (8, 26)) (by decide +kernel) ok_arr
theorem d_103_136 : decode (mB 103) 136 = .ok (.aload_n 0, 1) := by decide +kernel
theorem s_103_136 {d : Nat} {Q : wQ} {L : List (Option Value)} {st : List Value} {w : aw} {cn sn : Nat} {v : Nat} : wp d 103 Q 136 (some (.ref v) :: L) st w cn sn = wp d 103 Q 137 (some (.ref v) :: L) (.ref v :: st) w cn sn := w_aload_n d_103_136 rfl
theorem d_103_137 : decode (mB 103) 137 = .ok (.bipush 8, 2) := by decide +kernel
theorem s_103_137 {d : Nat} {Q : wQ} {L : List (Option Value)} {st : List Value} {w : aw} {cn sn : Nat}  : wp d 103 Q 137 L st w cn sn = wp d 103 Q 139 L (.int 8 :: st) w cn sn := w_bipush d_103_137 (by decide)
theorem d_103_139 : decode (mB 103) 139 = .ok (.newarray .int, 2) := by decide +kernel
theorem s_103_139 {d : Nat} {Q : wQ} {L : List (Option Value)} {st : List Value} {w : aw} {cn sn : Nat} {v : Int32} : wp d 103 Q 139 L (.int v :: st) w cn sn = (¬ v < 0 ∧ v.toNatClampNeg * 4 ≤ 536870912 ∧ cn + 1 ≤ 24 ∧ sn + v.toNatClampNeg ≤ 86736 ∧ wp d 103 Q 141 L (.ref (zs w) :: st) (nw w 20 v.toNatClampNeg) (cn + 1) (sn + v.toNatClampNeg)) := w_newarray d_103_139 rfl (by decide +kernel) (by decide +kernel)
theorem d_103_141 : decode (mB 103) 141 = .ok (.putfield 63, 3) := by decide +kernel
theorem s_103_141 {d : Nat} {Q : wQ} {L : List (Option Value)} {st : List Value} {w : aw} {cn sn : Nat} {x : Nat} {a : Nat} : wp d 103 Q 141 L (.ref x :: .ref a :: st) w cn sn = (kd w a = 9 ∧ wp d 103 Q 144 L st (uF w 539 a (.ref x)) cn sn) := w_putfield d_103_141 (by decide +kernel : fT (mO 103) 63 = some (8, 27)) (by decide +kernel) ok_arr
theorem d_103_144 : decode (mB 103) 144 = .ok (.aload_n 0, 1) := by decide +kernel
theorem s_103_144 {d : Nat} {Q : wQ} {L : List (Option Value)} {st : List Value} {w : aw} {cn sn : Nat} {v : Nat} : wp d 103 Q 144 (some (.ref v) :: L) st w cn sn = wp d 103 Q 145 (some (.ref v) :: L) (.ref v :: st) w cn sn := w_aload_n d_103_144 rfl
theorem d_103_145 : decode (mB 103) 145 = .ok (.sipush 4096, 3) := by decide +kernel
theorem s_103_145 {d : Nat} {Q : wQ} {L : List (Option Value)} {st : List Value} {w : aw} {cn sn : Nat}  : wp d 103 Q 145 L st w cn sn = wp d 103 Q 148 L (.int 4096 :: st) w cn sn := w_sipush d_103_145 (by decide)
theorem d_103_148 : decode (mB 103) 148 = .ok (.newarray .int, 2) := by decide +kernel
theorem s_103_148 {d : Nat} {Q : wQ} {L : List (Option Value)} {st : List Value} {w : aw} {cn sn : Nat} {v : Int32} : wp d 103 Q 148 L (.int v :: st) w cn sn = (¬ v < 0 ∧ v.toNatClampNeg * 4 ≤ 536870912 ∧ cn + 1 ≤ 24 ∧ sn + v.toNatClampNeg ≤ 86736 ∧ wp d 103 Q 150 L (.ref (zs w) :: st) (nw w 20 v.toNatClampNeg) (cn + 1) (sn + v.toNatClampNeg)) := w_newarray d_103_148 rfl (by decide +kernel) (by decide +kernel)
theorem d_103_150 : decode (mB 103) 150 = .ok (.putfield 66, 3) := by decide +kernel
theorem s_103_150 {d : Nat} {Q : wQ} {L : List (Option Value)} {st : List Value} {w : aw} {cn sn : Nat} {x : Nat} {a : Nat} : wp d 103 Q 150 L (.ref x :: .ref a :: st) w cn sn = (kd w a = 9 ∧ wp d 103 Q 153 L st (uF w 540 a (.ref x)) cn sn) := w_putfield d_103_150 (by decide +kernel : fT (mO 103) 66 = some (8, 28)) (by decide +kernel) ok_arr
theorem d_103_153 : decode (mB 103) 153 = .ok (.aload_n 0, 1) := by decide +kernel
theorem s_103_153 {d : Nat} {Q : wQ} {L : List (Option Value)} {st : List Value} {w : aw} {cn sn : Nat} {v : Nat} : wp d 103 Q 153 (some (.ref v) :: L) st w cn sn = wp d 103 Q 154 (some (.ref v) :: L) (.ref v :: st) w cn sn := w_aload_n d_103_153 rfl
theorem d_103_154 : decode (mB 103) 154 = .ok (.bipush 8, 2) := by decide +kernel
theorem s_103_154 {d : Nat} {Q : wQ} {L : List (Option Value)} {st : List Value} {w : aw} {cn sn : Nat}  : wp d 103 Q 154 L st w cn sn = wp d 103 Q 156 L (.int 8 :: st) w cn sn := w_bipush d_103_154 (by decide)
theorem d_103_156 : decode (mB 103) 156 = .ok (.newarray .int, 2) := by decide +kernel
theorem s_103_156 {d : Nat} {Q : wQ} {L : List (Option Value)} {st : List Value} {w : aw} {cn sn : Nat} {v : Int32} : wp d 103 Q 156 L (.int v :: st) w cn sn = (¬ v < 0 ∧ v.toNatClampNeg * 4 ≤ 536870912 ∧ cn + 1 ≤ 24 ∧ sn + v.toNatClampNeg ≤ 86736 ∧ wp d 103 Q 158 L (.ref (zs w) :: st) (nw w 20 v.toNatClampNeg) (cn + 1) (sn + v.toNatClampNeg)) := w_newarray d_103_156 rfl (by decide +kernel) (by decide +kernel)
theorem d_103_158 : decode (mB 103) 158 = .ok (.putfield 69, 3) := by decide +kernel
theorem s_103_158 {d : Nat} {Q : wQ} {L : List (Option Value)} {st : List Value} {w : aw} {cn sn : Nat} {x : Nat} {a : Nat} : wp d 103 Q 158 L (.ref x :: .ref a :: st) w cn sn = (kd w a = 9 ∧ wp d 103 Q 161 L st (uF w 541 a (.ref x)) cn sn) := w_putfield d_103_158 (by decide +kernel : fT (mO 103) 69 = some (8, 29)) (by decide +kernel) ok_arr
theorem d_103_161 : decode (mB 103) 161 = .ok (.aload_n 0, 1) := by decide +kernel
theorem s_103_161 {d : Nat} {Q : wQ} {L : List (Option Value)} {st : List Value} {w : aw} {cn sn : Nat} {v : Nat} : wp d 103 Q 161 (some (.ref v) :: L) st w cn sn = wp d 103 Q 162 (some (.ref v) :: L) (.ref v :: st) w cn sn := w_aload_n d_103_161 rfl
theorem d_103_162 : decode (mB 103) 162 = .ok (.sipush 8000, 3) := by decide +kernel
theorem s_103_162 {d : Nat} {Q : wQ} {L : List (Option Value)} {st : List Value} {w : aw} {cn sn : Nat}  : wp d 103 Q 162 L st w cn sn = wp d 103 Q 165 L (.int 8000 :: st) w cn sn := w_sipush d_103_162 (by decide)
theorem d_103_165 : decode (mB 103) 165 = .ok (.newarray .int, 2) := by decide +kernel
theorem s_103_165 {d : Nat} {Q : wQ} {L : List (Option Value)} {st : List Value} {w : aw} {cn sn : Nat} {v : Int32} : wp d 103 Q 165 L (.int v :: st) w cn sn = (¬ v < 0 ∧ v.toNatClampNeg * 4 ≤ 536870912 ∧ cn + 1 ≤ 24 ∧ sn + v.toNatClampNeg ≤ 86736 ∧ wp d 103 Q 167 L (.ref (zs w) :: st) (nw w 20 v.toNatClampNeg) (cn + 1) (sn + v.toNatClampNeg)) := w_newarray d_103_165 rfl (by decide +kernel) (by decide +kernel)
theorem d_103_167 : decode (mB 103) 167 = .ok (.putfield 72, 3) := by decide +kernel
theorem s_103_167 {d : Nat} {Q : wQ} {L : List (Option Value)} {st : List Value} {w : aw} {cn sn : Nat} {x : Nat} {a : Nat} : wp d 103 Q 167 L (.ref x :: .ref a :: st) w cn sn = (kd w a = 9 ∧ wp d 103 Q 170 L st (uF w 542 a (.ref x)) cn sn) := w_putfield d_103_167 (by decide +kernel : fT (mO 103) 72 = some (8, 30)) (by decide +kernel) ok_arr
theorem d_103_170 : decode (mB 103) 170 = .ok (.aload_n 0, 1) := by decide +kernel
theorem s_103_170 {d : Nat} {Q : wQ} {L : List (Option Value)} {st : List Value} {w : aw} {cn sn : Nat} {v : Nat} : wp d 103 Q 170 (some (.ref v) :: L) st w cn sn = wp d 103 Q 171 (some (.ref v) :: L) (.ref v :: st) w cn sn := w_aload_n d_103_170 rfl
theorem d_103_171 : decode (mB 103) 171 = .ok (.sipush 260, 3) := by decide +kernel
theorem s_103_171 {d : Nat} {Q : wQ} {L : List (Option Value)} {st : List Value} {w : aw} {cn sn : Nat}  : wp d 103 Q 171 L st w cn sn = wp d 103 Q 174 L (.int 260 :: st) w cn sn := w_sipush d_103_171 (by decide)
theorem d_103_174 : decode (mB 103) 174 = .ok (.newarray .long, 2) := by decide +kernel
theorem s_103_174 {d : Nat} {Q : wQ} {L : List (Option Value)} {st : List Value} {w : aw} {cn sn : Nat} {v : Int32} : wp d 103 Q 174 L (.int v :: st) w cn sn = (¬ v < 0 ∧ v.toNatClampNeg * 8 ≤ 536870912 ∧ cn + 1 ≤ 24 ∧ sn + v.toNatClampNeg ≤ 86736 ∧ wp d 103 Q 176 L (.ref (zs w) :: st) (nw w 22 v.toNatClampNeg) (cn + 1) (sn + v.toNatClampNeg)) := w_newarray d_103_174 rfl (by decide +kernel) (by decide +kernel)
theorem d_103_176 : decode (mB 103) 176 = .ok (.putfield 75, 3) := by decide +kernel
theorem s_103_176 {d : Nat} {Q : wQ} {L : List (Option Value)} {st : List Value} {w : aw} {cn sn : Nat} {x : Nat} {a : Nat} : wp d 103 Q 176 L (.ref x :: .ref a :: st) w cn sn = (kd w a = 9 ∧ wp d 103 Q 179 L st (uF w 546 a (.ref x)) cn sn) := w_putfield d_103_176 (by decide +kernel : fT (mO 103) 75 = some (8, 34)) (by decide +kernel) ok_arr
theorem d_103_179 : decode (mB 103) 179 = .ok (.aload_n 0, 1) := by decide +kernel
theorem s_103_179 {d : Nat} {Q : wQ} {L : List (Option Value)} {st : List Value} {w : aw} {cn sn : Nat} {v : Nat} : wp d 103 Q 179 (some (.ref v) :: L) st w cn sn = wp d 103 Q 180 (some (.ref v) :: L) (.ref v :: st) w cn sn := w_aload_n d_103_179 rfl
theorem d_103_180 : decode (mB 103) 180 = .ok (.sipush 260, 3) := by decide +kernel
theorem s_103_180 {d : Nat} {Q : wQ} {L : List (Option Value)} {st : List Value} {w : aw} {cn sn : Nat}  : wp d 103 Q 180 L st w cn sn = wp d 103 Q 183 L (.int 260 :: st) w cn sn := w_sipush d_103_180 (by decide)
theorem d_103_183 : decode (mB 103) 183 = .ok (.newarray .int, 2) := by decide +kernel
theorem s_103_183 {d : Nat} {Q : wQ} {L : List (Option Value)} {st : List Value} {w : aw} {cn sn : Nat} {v : Int32} : wp d 103 Q 183 L (.int v :: st) w cn sn = (¬ v < 0 ∧ v.toNatClampNeg * 4 ≤ 536870912 ∧ cn + 1 ≤ 24 ∧ sn + v.toNatClampNeg ≤ 86736 ∧ wp d 103 Q 185 L (.ref (zs w) :: st) (nw w 20 v.toNatClampNeg) (cn + 1) (sn + v.toNatClampNeg)) := w_newarray d_103_183 rfl (by decide +kernel) (by decide +kernel)
theorem d_103_185 : decode (mB 103) 185 = .ok (.putfield 79, 3) := by decide +kernel
theorem s_103_185 {d : Nat} {Q : wQ} {L : List (Option Value)} {st : List Value} {w : aw} {cn sn : Nat} {x : Nat} {a : Nat} : wp d 103 Q 185 L (.ref x :: .ref a :: st) w cn sn = (kd w a = 9 ∧ wp d 103 Q 188 L st (uF w 547 a (.ref x)) cn sn) := w_putfield d_103_185 (by decide +kernel : fT (mO 103) 79 = some (8, 35)) (by decide +kernel) ok_arr
theorem d_103_188 : decode (mB 103) 188 = .ok (.aload_n 0, 1) := by decide +kernel
theorem s_103_188 {d : Nat} {Q : wQ} {L : List (Option Value)} {st : List Value} {w : aw} {cn sn : Nat} {v : Nat} : wp d 103 Q 188 (some (.ref v) :: L) st w cn sn = wp d 103 Q 189 (some (.ref v) :: L) (.ref v :: st) w cn sn := w_aload_n d_103_188 rfl
theorem d_103_189 : decode (mB 103) 189 = .ok (.sipush 4096, 3) := by decide +kernel
theorem s_103_189 {d : Nat} {Q : wQ} {L : List (Option Value)} {st : List Value} {w : aw} {cn sn : Nat}  : wp d 103 Q 189 L st w cn sn = wp d 103 Q 192 L (.int 4096 :: st) w cn sn := w_sipush d_103_189 (by decide)
theorem d_103_192 : decode (mB 103) 192 = .ok (.newarray .int, 2) := by decide +kernel
theorem s_103_192 {d : Nat} {Q : wQ} {L : List (Option Value)} {st : List Value} {w : aw} {cn sn : Nat} {v : Int32} : wp d 103 Q 192 L (.int v :: st) w cn sn = (¬ v < 0 ∧ v.toNatClampNeg * 4 ≤ 536870912 ∧ cn + 1 ≤ 24 ∧ sn + v.toNatClampNeg ≤ 86736 ∧ wp d 103 Q 194 L (.ref (zs w) :: st) (nw w 20 v.toNatClampNeg) (cn + 1) (sn + v.toNatClampNeg)) := w_newarray d_103_192 rfl (by decide +kernel) (by decide +kernel)
theorem d_103_194 : decode (mB 103) 194 = .ok (.putfield 82, 3) := by decide +kernel
theorem s_103_194 {d : Nat} {Q : wQ} {L : List (Option Value)} {st : List Value} {w : aw} {cn sn : Nat} {x : Nat} {a : Nat} : wp d 103 Q 194 L (.ref x :: .ref a :: st) w cn sn = (kd w a = 9 ∧ wp d 103 Q 197 L st (uF w 550 a (.ref x)) cn sn) := w_putfield d_103_194 (by decide +kernel : fT (mO 103) 82 = some (8, 38)) (by decide +kernel) ok_arr
theorem d_103_197 : decode (mB 103) 197 = .ok (.aload_n 0, 1) := by decide +kernel
theorem s_103_197 {d : Nat} {Q : wQ} {L : List (Option Value)} {st : List Value} {w : aw} {cn sn : Nat} {v : Nat} : wp d 103 Q 197 (some (.ref v) :: L) st w cn sn = wp d 103 Q 198 (some (.ref v) :: L) (.ref v :: st) w cn sn := w_aload_n d_103_197 rfl
theorem d_103_198 : decode (mB 103) 198 = .ok (.sipush 4096, 3) := by decide +kernel
theorem s_103_198 {d : Nat} {Q : wQ} {L : List (Option Value)} {st : List Value} {w : aw} {cn sn : Nat}  : wp d 103 Q 198 L st w cn sn = wp d 103 Q 201 L (.int 4096 :: st) w cn sn := w_sipush d_103_198 (by decide)
theorem d_103_201 : decode (mB 103) 201 = .ok (.newarray .boolean, 2) := by decide +kernel
theorem s_103_201 {d : Nat} {Q : wQ} {L : List (Option Value)} {st : List Value} {w : aw} {cn sn : Nat} {v : Int32} : wp d 103 Q 201 L (.int v :: st) w cn sn = (¬ v < 0 ∧ v.toNatClampNeg * 1 ≤ 536870912 ∧ cn + 1 ≤ 24 ∧ sn + v.toNatClampNeg ≤ 86736 ∧ wp d 103 Q 203 L (.ref (zs w) :: st) (nw w 23 v.toNatClampNeg) (cn + 1) (sn + v.toNatClampNeg)) := w_newarray d_103_201 rfl (by decide +kernel) (by decide +kernel)
theorem d_103_203 : decode (mB 103) 203 = .ok (.putfield 85, 3) := by decide +kernel
theorem s_103_203 {d : Nat} {Q : wQ} {L : List (Option Value)} {st : List Value} {w : aw} {cn sn : Nat} {x : Nat} {a : Nat} : wp d 103 Q 203 L (.ref x :: .ref a :: st) w cn sn = (kd w a = 9 ∧ wp d 103 Q 206 L st (uF w 551 a (.ref x)) cn sn) := w_putfield d_103_203 (by decide +kernel : fT (mO 103) 85 = some (8, 39)) (by decide +kernel) ok_arr
theorem d_103_206 : decode (mB 103) 206 = .ok (.aload_n 0, 1) := by decide +kernel
theorem s_103_206 {d : Nat} {Q : wQ} {L : List (Option Value)} {st : List Value} {w : aw} {cn sn : Nat} {v : Nat} : wp d 103 Q 206 (some (.ref v) :: L) st w cn sn = wp d 103 Q 207 (some (.ref v) :: L) (.ref v :: st) w cn sn := w_aload_n d_103_206 rfl
theorem d_103_207 : decode (mB 103) 207 = .ok (.bipush 32, 2) := by decide +kernel
theorem s_103_207 {d : Nat} {Q : wQ} {L : List (Option Value)} {st : List Value} {w : aw} {cn sn : Nat}  : wp d 103 Q 207 L st w cn sn = wp d 103 Q 209 L (.int 32 :: st) w cn sn := w_bipush d_103_207 (by decide)
theorem d_103_209 : decode (mB 103) 209 = .ok (.newarray .int, 2) := by decide +kernel
theorem s_103_209 {d : Nat} {Q : wQ} {L : List (Option Value)} {st : List Value} {w : aw} {cn sn : Nat} {v : Int32} : wp d 103 Q 209 L (.int v :: st) w cn sn = (¬ v < 0 ∧ v.toNatClampNeg * 4 ≤ 536870912 ∧ cn + 1 ≤ 24 ∧ sn + v.toNatClampNeg ≤ 86736 ∧ wp d 103 Q 211 L (.ref (zs w) :: st) (nw w 20 v.toNatClampNeg) (cn + 1) (sn + v.toNatClampNeg)) := w_newarray d_103_209 rfl (by decide +kernel) (by decide +kernel)
theorem d_103_211 : decode (mB 103) 211 = .ok (.putfield 89, 3) := by decide +kernel
theorem s_103_211 {d : Nat} {Q : wQ} {L : List (Option Value)} {st : List Value} {w : aw} {cn sn : Nat} {x : Nat} {a : Nat} : wp d 103 Q 211 L (.ref x :: .ref a :: st) w cn sn = (kd w a = 9 ∧ wp d 103 Q 214 L st (uF w 552 a (.ref x)) cn sn) := w_putfield d_103_211 (by decide +kernel : fT (mO 103) 89 = some (8, 40)) (by decide +kernel) ok_arr
theorem d_103_214 : decode (mB 103) 214 = .ok (.aload_n 0, 1) := by decide +kernel
theorem s_103_214 {d : Nat} {Q : wQ} {L : List (Option Value)} {st : List Value} {w : aw} {cn sn : Nat} {v : Nat} : wp d 103 Q 214 (some (.ref v) :: L) st w cn sn = wp d 103 Q 215 (some (.ref v) :: L) (.ref v :: st) w cn sn := w_aload_n d_103_214 rfl
theorem d_103_215 : decode (mB 103) 215 = .ok (.bipush 67, 2) := by decide +kernel
theorem s_103_215 {d : Nat} {Q : wQ} {L : List (Option Value)} {st : List Value} {w : aw} {cn sn : Nat}  : wp d 103 Q 215 L st w cn sn = wp d 103 Q 217 L (.int 67 :: st) w cn sn := w_bipush d_103_215 (by decide)
theorem d_103_217 : decode (mB 103) 217 = .ok (.bipush 76, 2) := by decide +kernel
theorem s_103_217 {d : Nat} {Q : wQ} {L : List (Option Value)} {st : List Value} {w : aw} {cn sn : Nat}  : wp d 103 Q 217 L st w cn sn = wp d 103 Q 219 L (.int 76 :: st) w cn sn := w_bipush d_103_217 (by decide)
theorem d_103_219 : decode (mB 103) 219 = .ok (.bipush 65, 2) := by decide +kernel
theorem s_103_219 {d : Nat} {Q : wQ} {L : List (Option Value)} {st : List Value} {w : aw} {cn sn : Nat}  : wp d 103 Q 219 L st w cn sn = wp d 103 Q 221 L (.int 65 :: st) w cn sn := w_bipush d_103_219 (by decide)
theorem d_103_221 : decode (mB 103) 221 = .ok (.sipush 3712, 3) := by decide +kernel
theorem s_103_221 {d : Nat} {Q : wQ} {L : List (Option Value)} {st : List Value} {w : aw} {cn sn : Nat}  : wp d 103 Q 221 L st w cn sn = wp d 103 Q 224 L (.int 3712 :: st) w cn sn := w_sipush d_103_221 (by decide)
theorem d_103_224 : decode (mB 103) 224 = .ok (.invokevirtual 92, 3) := by decide +kernel
theorem s_103_224 {d : Nat} {Q : wQ} {L : List (Option Value)} {st : List Value} {w : aw} {cn sn : Nat} {v0 v1 v2 v3 : Value} {b : Nat} : wp d 103 Q 224 L (v3 :: v2 :: v1 :: v0 :: .ref b :: st) w cn sn = (kd w b = 9 ∧ catS st ≤ 8 ∧ wpD d 104 [.ref b, v0, v1, v2, v3] w (fun v w' => wp d 103 Q 227 L (v.toList ++ st) w' cn sn)) := w_virtual (As := [v0, v1, v2, v3]) d_103_224 (by decide +kernel : cT (mO 103) 92 = some (0, 104)) rfl (by decide +kernel) rfl (by decide +kernel) rfl
theorem d_103_227 : decode (mB 103) 227 = .ok (.aload_n 0, 1) := by decide +kernel
theorem s_103_227 {d : Nat} {Q : wQ} {L : List (Option Value)} {st : List Value} {w : aw} {cn sn : Nat} {v : Nat} : wp d 103 Q 227 (some (.ref v) :: L) st w cn sn = wp d 103 Q 228 (some (.ref v) :: L) (.ref v :: st) w cn sn := w_aload_n d_103_227 rfl
theorem d_103_228 : decode (mB 103) 228 = .ok (.bipush 67, 2) := by decide +kernel
theorem s_103_228 {d : Nat} {Q : wQ} {L : List (Option Value)} {st : List Value} {w : aw} {cn sn : Nat}  : wp d 103 Q 228 L st w cn sn = wp d 103 Q 230 L (.int 67 :: st) w cn sn := w_bipush d_103_228 (by decide)
theorem d_103_230 : decode (mB 103) 230 = .ok (.bipush 76, 2) := by decide +kernel
theorem s_103_230 {d : Nat} {Q : wQ} {L : List (Option Value)} {st : List Value} {w : aw} {cn sn : Nat}  : wp d 103 Q 230 L st w cn sn = wp d 103 Q 232 L (.int 76 :: st) w cn sn := w_bipush d_103_230 (by decide)
theorem d_103_232 : decode (mB 103) 232 = .ok (.bipush 76, 2) := by decide +kernel
theorem s_103_232 {d : Nat} {Q : wQ} {L : List (Option Value)} {st : List Value} {w : aw} {cn sn : Nat}  : wp d 103 Q 232 L st w cn sn = wp d 103 Q 234 L (.int 76 :: st) w cn sn := w_bipush d_103_232 (by decide)
theorem d_103_234 : decode (mB 103) 234 = .ok (.sipush 3648, 3) := by decide +kernel
theorem s_103_234 {d : Nat} {Q : wQ} {L : List (Option Value)} {st : List Value} {w : aw} {cn sn : Nat}  : wp d 103 Q 234 L st w cn sn = wp d 103 Q 237 L (.int 3648 :: st) w cn sn := w_sipush d_103_234 (by decide)
theorem d_103_237 : decode (mB 103) 237 = .ok (.invokevirtual 92, 3) := by decide +kernel
theorem s_103_237 {d : Nat} {Q : wQ} {L : List (Option Value)} {st : List Value} {w : aw} {cn sn : Nat} {v0 v1 v2 v3 : Value} {b : Nat} : wp d 103 Q 237 L (v3 :: v2 :: v1 :: v0 :: .ref b :: st) w cn sn = (kd w b = 9 ∧ catS st ≤ 8 ∧ wpD d 104 [.ref b, v0, v1, v2, v3] w (fun v w' => wp d 103 Q 240 L (v.toList ++ st) w' cn sn)) := w_virtual (As := [v0, v1, v2, v3]) d_103_237 (by decide +kernel : cT (mO 103) 92 = some (0, 104)) rfl (by decide +kernel) rfl (by decide +kernel) rfl
theorem d_103_240 : decode (mB 103) 240 = .ok (.aload_n 0, 1) := by decide +kernel
theorem s_103_240 {d : Nat} {Q : wQ} {L : List (Option Value)} {st : List Value} {w : aw} {cn sn : Nat} {v : Nat} : wp d 103 Q 240 (some (.ref v) :: L) st w cn sn = wp d 103 Q 241 (some (.ref v) :: L) (.ref v :: st) w cn sn := w_aload_n d_103_240 rfl
theorem d_103_241 : decode (mB 103) 241 = .ok (.bipush 67, 2) := by decide +kernel
theorem s_103_241 {d : Nat} {Q : wQ} {L : List (Option Value)} {st : List Value} {w : aw} {cn sn : Nat}  : wp d 103 Q 241 L st w cn sn = wp d 103 Q 243 L (.int 67 :: st) w cn sn := w_bipush d_103_241 (by decide)
theorem d_103_243 : decode (mB 103) 243 = .ok (.bipush 77, 2) := by decide +kernel
theorem s_103_243 {d : Nat} {Q : wQ} {L : List (Option Value)} {st : List Value} {w : aw} {cn sn : Nat}  : wp d 103 Q 243 L st w cn sn = wp d 103 Q 245 L (.int 77 :: st) w cn sn := w_bipush d_103_243 (by decide)
theorem d_103_245 : decode (mB 103) 245 = .ok (.bipush 65, 2) := by decide +kernel
theorem s_103_245 {d : Nat} {Q : wQ} {L : List (Option Value)} {st : List Value} {w : aw} {cn sn : Nat}  : wp d 103 Q 245 L st w cn sn = wp d 103 Q 247 L (.int 65 :: st) w cn sn := w_bipush d_103_245 (by decide)
theorem d_103_247 : decode (mB 103) 247 = .ok (.sipush 3616, 3) := by decide +kernel
theorem s_103_247 {d : Nat} {Q : wQ} {L : List (Option Value)} {st : List Value} {w : aw} {cn sn : Nat}  : wp d 103 Q 247 L st w cn sn = wp d 103 Q 250 L (.int 3616 :: st) w cn sn := w_sipush d_103_247 (by decide)
theorem d_103_250 : decode (mB 103) 250 = .ok (.invokevirtual 92, 3) := by decide +kernel
theorem s_103_250 {d : Nat} {Q : wQ} {L : List (Option Value)} {st : List Value} {w : aw} {cn sn : Nat} {v0 v1 v2 v3 : Value} {b : Nat} : wp d 103 Q 250 L (v3 :: v2 :: v1 :: v0 :: .ref b :: st) w cn sn = (kd w b = 9 ∧ catS st ≤ 8 ∧ wpD d 104 [.ref b, v0, v1, v2, v3] w (fun v w' => wp d 103 Q 253 L (v.toList ++ st) w' cn sn)) := w_virtual (As := [v0, v1, v2, v3]) d_103_250 (by decide +kernel : cT (mO 103) 92 = some (0, 104)) rfl (by decide +kernel) rfl (by decide +kernel) rfl
theorem d_103_253 : decode (mB 103) 253 = .ok (.aload_n 0, 1) := by decide +kernel
theorem s_103_253 {d : Nat} {Q : wQ} {L : List (Option Value)} {st : List Value} {w : aw} {cn sn : Nat} {v : Nat} : wp d 103 Q 253 (some (.ref v) :: L) st w cn sn = wp d 103 Q 254 (some (.ref v) :: L) (.ref v :: st) w cn sn := w_aload_n d_103_253 rfl
theorem d_103_254 : decode (mB 103) 254 = .ok (.bipush 67, 2) := by decide +kernel
theorem s_103_254 {d : Nat} {Q : wQ} {L : List (Option Value)} {st : List Value} {w : aw} {cn sn : Nat}  : wp d 103 Q 254 L st w cn sn = wp d 103 Q 256 L (.int 67 :: st) w cn sn := w_bipush d_103_254 (by decide)
theorem d_103_256 : decode (mB 103) 256 = .ok (.bipush 77, 2) := by decide +kernel
theorem s_103_256 {d : Nat} {Q : wQ} {L : List (Option Value)} {st : List Value} {w : aw} {cn sn : Nat}  : wp d 103 Q 256 L st w cn sn = wp d 103 Q 258 L (.int 77 :: st) w cn sn := w_bipush d_103_256 (by decide)
theorem d_103_258 : decode (mB 103) 258 = .ok (.bipush 76, 2) := by decide +kernel
theorem s_103_258 {d : Nat} {Q : wQ} {L : List (Option Value)} {st : List Value} {w : aw} {cn sn : Nat}  : wp d 103 Q 258 L st w cn sn = wp d 103 Q 260 L (.int 76 :: st) w cn sn := w_bipush d_103_258 (by decide)
theorem d_103_260 : decode (mB 103) 260 = .ok (.sipush 3600, 3) := by decide +kernel
theorem s_103_260 {d : Nat} {Q : wQ} {L : List (Option Value)} {st : List Value} {w : aw} {cn sn : Nat}  : wp d 103 Q 260 L st w cn sn = wp d 103 Q 263 L (.int 3600 :: st) w cn sn := w_sipush d_103_260 (by decide)
theorem d_103_263 : decode (mB 103) 263 = .ok (.invokevirtual 92, 3) := by decide +kernel
theorem s_103_263 {d : Nat} {Q : wQ} {L : List (Option Value)} {st : List Value} {w : aw} {cn sn : Nat} {v0 v1 v2 v3 : Value} {b : Nat} : wp d 103 Q 263 L (v3 :: v2 :: v1 :: v0 :: .ref b :: st) w cn sn = (kd w b = 9 ∧ catS st ≤ 8 ∧ wpD d 104 [.ref b, v0, v1, v2, v3] w (fun v w' => wp d 103 Q 266 L (v.toList ++ st) w' cn sn)) := w_virtual (As := [v0, v1, v2, v3]) d_103_263 (by decide +kernel : cT (mO 103) 92 = some (0, 104)) rfl (by decide +kernel) rfl (by decide +kernel) rfl
theorem d_103_266 : decode (mB 103) 266 = .ok (.aload_n 0, 1) := by decide +kernel
theorem s_103_266 {d : Nat} {Q : wQ} {L : List (Option Value)} {st : List Value} {w : aw} {cn sn : Nat} {v : Nat} : wp d 103 Q 266 (some (.ref v) :: L) st w cn sn = wp d 103 Q 267 (some (.ref v) :: L) (.ref v :: st) w cn sn := w_aload_n d_103_266 rfl
theorem d_103_267 : decode (mB 103) 267 = .ok (.bipush 82, 2) := by decide +kernel
theorem s_103_267 {d : Nat} {Q : wQ} {L : List (Option Value)} {st : List Value} {w : aw} {cn sn : Nat}  : wp d 103 Q 267 L st w cn sn = wp d 103 Q 269 L (.int 82 :: st) w cn sn := w_bipush d_103_267 (by decide)
theorem d_103_269 : decode (mB 103) 269 = .ok (.bipush 65, 2) := by decide +kernel
theorem s_103_269 {d : Nat} {Q : wQ} {L : List (Option Value)} {st : List Value} {w : aw} {cn sn : Nat}  : wp d 103 Q 269 L st w cn sn = wp d 103 Q 271 L (.int 65 :: st) w cn sn := w_bipush d_103_269 (by decide)
theorem d_103_271 : decode (mB 103) 271 = .ok (.bipush 82, 2) := by decide +kernel
theorem s_103_271 {d : Nat} {Q : wQ} {L : List (Option Value)} {st : List Value} {w : aw} {cn sn : Nat}  : wp d 103 Q 271 L st w cn sn = wp d 103 Q 273 L (.int 82 :: st) w cn sn := w_bipush d_103_271 (by decide)
theorem d_103_273 : decode (mB 103) 273 = .ok (.sipush 3592, 3) := by decide +kernel
theorem s_103_273 {d : Nat} {Q : wQ} {L : List (Option Value)} {st : List Value} {w : aw} {cn sn : Nat}  : wp d 103 Q 273 L st w cn sn = wp d 103 Q 276 L (.int 3592 :: st) w cn sn := w_sipush d_103_273 (by decide)
theorem d_103_276 : decode (mB 103) 276 = .ok (.invokevirtual 92, 3) := by decide +kernel
theorem s_103_276 {d : Nat} {Q : wQ} {L : List (Option Value)} {st : List Value} {w : aw} {cn sn : Nat} {v0 v1 v2 v3 : Value} {b : Nat} : wp d 103 Q 276 L (v3 :: v2 :: v1 :: v0 :: .ref b :: st) w cn sn = (kd w b = 9 ∧ catS st ≤ 8 ∧ wpD d 104 [.ref b, v0, v1, v2, v3] w (fun v w' => wp d 103 Q 279 L (v.toList ++ st) w' cn sn)) := w_virtual (As := [v0, v1, v2, v3]) d_103_276 (by decide +kernel : cT (mO 103) 92 = some (0, 104)) rfl (by decide +kernel) rfl (by decide +kernel) rfl
theorem d_103_279 : decode (mB 103) 279 = .ok (.aload_n 0, 1) := by decide +kernel
theorem s_103_279 {d : Nat} {Q : wQ} {L : List (Option Value)} {st : List Value} {w : aw} {cn sn : Nat} {v : Nat} : wp d 103 Q 279 (some (.ref v) :: L) st w cn sn = wp d 103 Q 280 (some (.ref v) :: L) (.ref v :: st) w cn sn := w_aload_n d_103_279 rfl
theorem d_103_280 : decode (mB 103) 280 = .ok (.bipush 82, 2) := by decide +kernel
theorem s_103_280 {d : Nat} {Q : wQ} {L : List (Option Value)} {st : List Value} {w : aw} {cn sn : Nat}  : wp d 103 Q 280 L st w cn sn = wp d 103 Q 282 L (.int 82 :: st) w cn sn := w_bipush d_103_280 (by decide)
theorem d_103_282 : decode (mB 103) 282 = .ok (.bipush 65, 2) := by decide +kernel
theorem s_103_282 {d : Nat} {Q : wQ} {L : List (Option Value)} {st : List Value} {w : aw} {cn sn : Nat}  : wp d 103 Q 282 L st w cn sn = wp d 103 Q 284 L (.int 65 :: st) w cn sn := w_bipush d_103_282 (by decide)
theorem d_103_284 : decode (mB 103) 284 = .ok (.bipush 76, 2) := by decide +kernel
theorem s_103_284 {d : Nat} {Q : wQ} {L : List (Option Value)} {st : List Value} {w : aw} {cn sn : Nat}  : wp d 103 Q 284 L st w cn sn = wp d 103 Q 286 L (.int 76 :: st) w cn sn := w_bipush d_103_284 (by decide)
theorem d_103_286 : decode (mB 103) 286 = .ok (.sipush 3588, 3) := by decide +kernel
theorem s_103_286 {d : Nat} {Q : wQ} {L : List (Option Value)} {st : List Value} {w : aw} {cn sn : Nat}  : wp d 103 Q 286 L st w cn sn = wp d 103 Q 289 L (.int 3588 :: st) w cn sn := w_sipush d_103_286 (by decide)
theorem d_103_289 : decode (mB 103) 289 = .ok (.invokevirtual 92, 3) := by decide +kernel
theorem s_103_289 {d : Nat} {Q : wQ} {L : List (Option Value)} {st : List Value} {w : aw} {cn sn : Nat} {v0 v1 v2 v3 : Value} {b : Nat} : wp d 103 Q 289 L (v3 :: v2 :: v1 :: v0 :: .ref b :: st) w cn sn = (kd w b = 9 ∧ catS st ≤ 8 ∧ wpD d 104 [.ref b, v0, v1, v2, v3] w (fun v w' => wp d 103 Q 292 L (v.toList ++ st) w' cn sn)) := w_virtual (As := [v0, v1, v2, v3]) d_103_289 (by decide +kernel : cT (mO 103) 92 = some (0, 104)) rfl (by decide +kernel) rfl (by decide +kernel) rfl
theorem d_103_292 : decode (mB 103) 292 = .ok (.aload_n 0, 1) := by decide +kernel
theorem s_103_292 {d : Nat} {Q : wQ} {L : List (Option Value)} {st : List Value} {w : aw} {cn sn : Nat} {v : Nat} : wp d 103 Q 292 (some (.ref v) :: L) st w cn sn = wp d 103 Q 293 (some (.ref v) :: L) (.ref v :: st) w cn sn := w_aload_n d_103_292 rfl
theorem d_103_293 : decode (mB 103) 293 = .ok (.bipush 82, 2) := by decide +kernel
theorem s_103_293 {d : Nat} {Q : wQ} {L : List (Option Value)} {st : List Value} {w : aw} {cn sn : Nat}  : wp d 103 Q 293 L st w cn sn = wp d 103 Q 295 L (.int 82 :: st) w cn sn := w_bipush d_103_293 (by decide)
theorem d_103_295 : decode (mB 103) 295 = .ok (.bipush 84, 2) := by decide +kernel
theorem s_103_295 {d : Nat} {Q : wQ} {L : List (Option Value)} {st : List Value} {w : aw} {cn sn : Nat}  : wp d 103 Q 295 L st w cn sn = wp d 103 Q 297 L (.int 84 :: st) w cn sn := w_bipush d_103_295 (by decide)
theorem d_103_297 : decode (mB 103) 297 = .ok (.bipush 82, 2) := by decide +kernel
theorem s_103_297 {d : Nat} {Q : wQ} {L : List (Option Value)} {st : List Value} {w : aw} {cn sn : Nat}  : wp d 103 Q 297 L st w cn sn = wp d 103 Q 299 L (.int 82 :: st) w cn sn := w_bipush d_103_297 (by decide)
theorem d_103_299 : decode (mB 103) 299 = .ok (.sipush 3594, 3) := by decide +kernel
theorem s_103_299 {d : Nat} {Q : wQ} {L : List (Option Value)} {st : List Value} {w : aw} {cn sn : Nat}  : wp d 103 Q 299 L st w cn sn = wp d 103 Q 302 L (.int 3594 :: st) w cn sn := w_sipush d_103_299 (by decide)
theorem d_103_302 : decode (mB 103) 302 = .ok (.invokevirtual 92, 3) := by decide +kernel
theorem s_103_302 {d : Nat} {Q : wQ} {L : List (Option Value)} {st : List Value} {w : aw} {cn sn : Nat} {v0 v1 v2 v3 : Value} {b : Nat} : wp d 103 Q 302 L (v3 :: v2 :: v1 :: v0 :: .ref b :: st) w cn sn = (kd w b = 9 ∧ catS st ≤ 8 ∧ wpD d 104 [.ref b, v0, v1, v2, v3] w (fun v w' => wp d 103 Q 305 L (v.toList ++ st) w' cn sn)) := w_virtual (As := [v0, v1, v2, v3]) d_103_302 (by decide +kernel : cT (mO 103) 92 = some (0, 104)) rfl (by decide +kernel) rfl (by decide +kernel) rfl
theorem d_103_305 : decode (mB 103) 305 = .ok (.aload_n 0, 1) := by decide +kernel
theorem s_103_305 {d : Nat} {Q : wQ} {L : List (Option Value)} {st : List Value} {w : aw} {cn sn : Nat} {v : Nat} : wp d 103 Q 305 (some (.ref v) :: L) st w cn sn = wp d 103 Q 306 (some (.ref v) :: L) (.ref v :: st) w cn sn := w_aload_n d_103_305 rfl
theorem d_103_306 : decode (mB 103) 306 = .ok (.bipush 82, 2) := by decide +kernel
theorem s_103_306 {d : Nat} {Q : wQ} {L : List (Option Value)} {st : List Value} {w : aw} {cn sn : Nat}  : wp d 103 Q 306 L st w cn sn = wp d 103 Q 308 L (.int 82 :: st) w cn sn := w_bipush d_103_306 (by decide)
theorem d_103_308 : decode (mB 103) 308 = .ok (.bipush 84, 2) := by decide +kernel
theorem s_103_308 {d : Nat} {Q : wQ} {L : List (Option Value)} {st : List Value} {w : aw} {cn sn : Nat}  : wp d 103 Q 308 L st w cn sn = wp d 103 Q 310 L (.int 84 :: st) w cn sn := w_bipush d_103_308 (by decide)
theorem d_103_310 : decode (mB 103) 310 = .ok (.bipush 76, 2) := by decide +kernel
theorem s_103_310 {d : Nat} {Q : wQ} {L : List (Option Value)} {st : List Value} {w : aw} {cn sn : Nat}  : wp d 103 Q 310 L st w cn sn = wp d 103 Q 312 L (.int 76 :: st) w cn sn := w_bipush d_103_310 (by decide)
theorem d_103_312 : decode (mB 103) 312 = .ok (.sipush 3590, 3) := by decide +kernel
theorem s_103_312 {d : Nat} {Q : wQ} {L : List (Option Value)} {st : List Value} {w : aw} {cn sn : Nat}  : wp d 103 Q 312 L st w cn sn = wp d 103 Q 315 L (.int 3590 :: st) w cn sn := w_sipush d_103_312 (by decide)
theorem d_103_315 : decode (mB 103) 315 = .ok (.invokevirtual 92, 3) := by decide +kernel
theorem s_103_315 {d : Nat} {Q : wQ} {L : List (Option Value)} {st : List Value} {w : aw} {cn sn : Nat} {v0 v1 v2 v3 : Value} {b : Nat} : wp d 103 Q 315 L (v3 :: v2 :: v1 :: v0 :: .ref b :: st) w cn sn = (kd w b = 9 ∧ catS st ≤ 8 ∧ wpD d 104 [.ref b, v0, v1, v2, v3] w (fun v w' => wp d 103 Q 318 L (v.toList ++ st) w' cn sn)) := w_virtual (As := [v0, v1, v2, v3]) d_103_315 (by decide +kernel : cT (mO 103) 92 = some (0, 104)) rfl (by decide +kernel) rfl (by decide +kernel) rfl
theorem d_103_318 : decode (mB 103) 318 = .ok (.aload_n 0, 1) := by decide +kernel
theorem s_103_318 {d : Nat} {Q : wQ} {L : List (Option Value)} {st : List Value} {w : aw} {cn sn : Nat} {v : Nat} : wp d 103 Q 318 (some (.ref v) :: L) st w cn sn = wp d 103 Q 319 (some (.ref v) :: L) (.ref v :: st) w cn sn := w_aload_n d_103_318 rfl
theorem d_103_319 : decode (mB 103) 319 = .ok (.bipush 73, 2) := by decide +kernel
theorem s_103_319 {d : Nat} {Q : wQ} {L : List (Option Value)} {st : List Value} {w : aw} {cn sn : Nat}  : wp d 103 Q 319 L st w cn sn = wp d 103 Q 321 L (.int 73 :: st) w cn sn := w_bipush d_103_319 (by decide)
theorem d_103_321 : decode (mB 103) 321 = .ok (.bipush 65, 2) := by decide +kernel
theorem s_103_321 {d : Nat} {Q : wQ} {L : List (Option Value)} {st : List Value} {w : aw} {cn sn : Nat}  : wp d 103 Q 321 L st w cn sn = wp d 103 Q 323 L (.int 65 :: st) w cn sn := w_bipush d_103_321 (by decide)
theorem d_103_323 : decode (mB 103) 323 = .ok (.bipush 67, 2) := by decide +kernel
theorem s_103_323 {d : Nat} {Q : wQ} {L : List (Option Value)} {st : List Value} {w : aw} {cn sn : Nat}  : wp d 103 Q 323 L st w cn sn = wp d 103 Q 325 L (.int 67 :: st) w cn sn := w_bipush d_103_323 (by decide)
theorem d_103_325 : decode (mB 103) 325 = .ok (.sipush 3585, 3) := by decide +kernel
theorem s_103_325 {d : Nat} {Q : wQ} {L : List (Option Value)} {st : List Value} {w : aw} {cn sn : Nat}  : wp d 103 Q 325 L st w cn sn = wp d 103 Q 328 L (.int 3585 :: st) w cn sn := w_sipush d_103_325 (by decide)
theorem d_103_328 : decode (mB 103) 328 = .ok (.invokevirtual 92, 3) := by decide +kernel
theorem s_103_328 {d : Nat} {Q : wQ} {L : List (Option Value)} {st : List Value} {w : aw} {cn sn : Nat} {v0 v1 v2 v3 : Value} {b : Nat} : wp d 103 Q 328 L (v3 :: v2 :: v1 :: v0 :: .ref b :: st) w cn sn = (kd w b = 9 ∧ catS st ≤ 8 ∧ wpD d 104 [.ref b, v0, v1, v2, v3] w (fun v w' => wp d 103 Q 331 L (v.toList ++ st) w' cn sn)) := w_virtual (As := [v0, v1, v2, v3]) d_103_328 (by decide +kernel : cT (mO 103) 92 = some (0, 104)) rfl (by decide +kernel) rfl (by decide +kernel) rfl
theorem d_103_331 : decode (mB 103) 331 = .ok (.aload_n 0, 1) := by decide +kernel
theorem s_103_331 {d : Nat} {Q : wQ} {L : List (Option Value)} {st : List Value} {w : aw} {cn sn : Nat} {v : Nat} : wp d 103 Q 331 (some (.ref v) :: L) st w cn sn = wp d 103 Q 332 (some (.ref v) :: L) (.ref v :: st) w cn sn := w_aload_n d_103_331 rfl
theorem d_103_332 : decode (mB 103) 332 = .ok (.bipush 78, 2) := by decide +kernel
theorem s_103_332 {d : Nat} {Q : wQ} {L : List (Option Value)} {st : List Value} {w : aw} {cn sn : Nat}  : wp d 103 Q 332 L st w cn sn = wp d 103 Q 334 L (.int 78 :: st) w cn sn := w_bipush d_103_332 (by decide)
theorem d_103_334 : decode (mB 103) 334 = .ok (.bipush 79, 2) := by decide +kernel
theorem s_103_334 {d : Nat} {Q : wQ} {L : List (Option Value)} {st : List Value} {w : aw} {cn sn : Nat}  : wp d 103 Q 334 L st w cn sn = wp d 103 Q 336 L (.int 79 :: st) w cn sn := w_bipush d_103_334 (by decide)
theorem d_103_336 : decode (mB 103) 336 = .ok (.bipush 80, 2) := by decide +kernel
theorem s_103_336 {d : Nat} {Q : wQ} {L : List (Option Value)} {st : List Value} {w : aw} {cn sn : Nat}  : wp d 103 Q 336 L st w cn sn = wp d 103 Q 338 L (.int 80 :: st) w cn sn := w_bipush d_103_336 (by decide)
theorem d_103_338 : decode (mB 103) 338 = .ok (.sipush 3584, 3) := by decide +kernel
theorem s_103_338 {d : Nat} {Q : wQ} {L : List (Option Value)} {st : List Value} {w : aw} {cn sn : Nat}  : wp d 103 Q 338 L st w cn sn = wp d 103 Q 341 L (.int 3584 :: st) w cn sn := w_sipush d_103_338 (by decide)
theorem d_103_341 : decode (mB 103) 341 = .ok (.invokevirtual 92, 3) := by decide +kernel
theorem s_103_341 {d : Nat} {Q : wQ} {L : List (Option Value)} {st : List Value} {w : aw} {cn sn : Nat} {v0 v1 v2 v3 : Value} {b : Nat} : wp d 103 Q 341 L (v3 :: v2 :: v1 :: v0 :: .ref b :: st) w cn sn = (kd w b = 9 ∧ catS st ≤ 8 ∧ wpD d 104 [.ref b, v0, v1, v2, v3] w (fun v w' => wp d 103 Q 344 L (v.toList ++ st) w' cn sn)) := w_virtual (As := [v0, v1, v2, v3]) d_103_341 (by decide +kernel : cT (mO 103) 92 = some (0, 104)) rfl (by decide +kernel) rfl (by decide +kernel) rfl
theorem d_103_344 : decode (mB 103) 344 = .ok (.aload_n 0, 1) := by decide +kernel
theorem s_103_344 {d : Nat} {Q : wQ} {L : List (Option Value)} {st : List Value} {w : aw} {cn sn : Nat} {v : Nat} : wp d 103 Q 344 (some (.ref v) :: L) st w cn sn = wp d 103 Q 345 (some (.ref v) :: L) (.ref v :: st) w cn sn := w_aload_n d_103_344 rfl
theorem d_103_345 : decode (mB 103) 345 = .ok (.bipush 83, 2) := by decide +kernel
theorem s_103_345 {d : Nat} {Q : wQ} {L : List (Option Value)} {st : List Value} {w : aw} {cn sn : Nat}  : wp d 103 Q 345 L st w cn sn = wp d 103 Q 347 L (.int 83 :: st) w cn sn := w_bipush d_103_345 (by decide)
theorem d_103_347 : decode (mB 103) 347 = .ok (.bipush 77, 2) := by decide +kernel
theorem s_103_347 {d : Nat} {Q : wQ} {L : List (Option Value)} {st : List Value} {w : aw} {cn sn : Nat}  : wp d 103 Q 347 L st w cn sn = wp d 103 Q 349 L (.int 77 :: st) w cn sn := w_bipush d_103_347 (by decide)
theorem d_103_349 : decode (mB 103) 349 = .ok (.bipush 65, 2) := by decide +kernel
theorem s_103_349 {d : Nat} {Q : wQ} {L : List (Option Value)} {st : List Value} {w : aw} {cn sn : Nat}  : wp d 103 Q 349 L st w cn sn = wp d 103 Q 351 L (.int 65 :: st) w cn sn := w_bipush d_103_349 (by decide)
theorem d_103_351 : decode (mB 103) 351 = .ok (.sipush 3904, 3) := by decide +kernel
theorem s_103_351 {d : Nat} {Q : wQ} {L : List (Option Value)} {st : List Value} {w : aw} {cn sn : Nat}  : wp d 103 Q 351 L st w cn sn = wp d 103 Q 354 L (.int 3904 :: st) w cn sn := w_sipush d_103_351 (by decide)
theorem d_103_354 : decode (mB 103) 354 = .ok (.invokevirtual 92, 3) := by decide +kernel
theorem s_103_354 {d : Nat} {Q : wQ} {L : List (Option Value)} {st : List Value} {w : aw} {cn sn : Nat} {v0 v1 v2 v3 : Value} {b : Nat} : wp d 103 Q 354 L (v3 :: v2 :: v1 :: v0 :: .ref b :: st) w cn sn = (kd w b = 9 ∧ catS st ≤ 8 ∧ wpD d 104 [.ref b, v0, v1, v2, v3] w (fun v w' => wp d 103 Q 357 L (v.toList ++ st) w' cn sn)) := w_virtual (As := [v0, v1, v2, v3]) d_103_354 (by decide +kernel : cT (mO 103) 92 = some (0, 104)) rfl (by decide +kernel) rfl (by decide +kernel) rfl
theorem d_103_357 : decode (mB 103) 357 = .ok (.aload_n 0, 1) := by decide +kernel
theorem s_103_357 {d : Nat} {Q : wQ} {L : List (Option Value)} {st : List Value} {w : aw} {cn sn : Nat} {v : Nat} : wp d 103 Q 357 (some (.ref v) :: L) st w cn sn = wp d 103 Q 358 (some (.ref v) :: L) (.ref v :: st) w cn sn := w_aload_n d_103_357 rfl
theorem d_103_358 : decode (mB 103) 358 = .ok (.bipush 83, 2) := by decide +kernel
theorem s_103_358 {d : Nat} {Q : wQ} {L : List (Option Value)} {st : List Value} {w : aw} {cn sn : Nat}  : wp d 103 Q 358 L st w cn sn = wp d 103 Q 360 L (.int 83 :: st) w cn sn := w_bipush d_103_358 (by decide)
theorem d_103_360 : decode (mB 103) 360 = .ok (.bipush 90, 2) := by decide +kernel
theorem s_103_360 {d : Nat} {Q : wQ} {L : List (Option Value)} {st : List Value} {w : aw} {cn sn : Nat}  : wp d 103 Q 360 L st w cn sn = wp d 103 Q 362 L (.int 90 :: st) w cn sn := w_bipush d_103_360 (by decide)
theorem d_103_362 : decode (mB 103) 362 = .ok (.bipush 65, 2) := by decide +kernel
theorem s_103_362 {d : Nat} {Q : wQ} {L : List (Option Value)} {st : List Value} {w : aw} {cn sn : Nat}  : wp d 103 Q 362 L st w cn sn = wp d 103 Q 364 L (.int 65 :: st) w cn sn := w_bipush d_103_362 (by decide)
theorem d_103_364 : decode (mB 103) 364 = .ok (.sipush 3872, 3) := by decide +kernel
theorem s_103_364 {d : Nat} {Q : wQ} {L : List (Option Value)} {st : List Value} {w : aw} {cn sn : Nat}  : wp d 103 Q 364 L st w cn sn = wp d 103 Q 367 L (.int 3872 :: st) w cn sn := w_sipush d_103_364 (by decide)
theorem d_103_367 : decode (mB 103) 367 = .ok (.invokevirtual 92, 3) := by decide +kernel
theorem s_103_367 {d : Nat} {Q : wQ} {L : List (Option Value)} {st : List Value} {w : aw} {cn sn : Nat} {v0 v1 v2 v3 : Value} {b : Nat} : wp d 103 Q 367 L (v3 :: v2 :: v1 :: v0 :: .ref b :: st) w cn sn = (kd w b = 9 ∧ catS st ≤ 8 ∧ wpD d 104 [.ref b, v0, v1, v2, v3] w (fun v w' => wp d 103 Q 370 L (v.toList ++ st) w' cn sn)) := w_virtual (As := [v0, v1, v2, v3]) d_103_367 (by decide +kernel : cT (mO 103) 92 = some (0, 104)) rfl (by decide +kernel) rfl (by decide +kernel) rfl
theorem d_103_370 : decode (mB 103) 370 = .ok (.aload_n 0, 1) := by decide +kernel
theorem s_103_370 {d : Nat} {Q : wQ} {L : List (Option Value)} {st : List Value} {w : aw} {cn sn : Nat} {v : Nat} : wp d 103 Q 370 (some (.ref v) :: L) st w cn sn = wp d 103 Q 371 (some (.ref v) :: L) (.ref v :: st) w cn sn := w_aload_n d_103_370 rfl
theorem d_103_371 : decode (mB 103) 371 = .ok (.bipush 83, 2) := by decide +kernel
theorem s_103_371 {d : Nat} {Q : wQ} {L : List (Option Value)} {st : List Value} {w : aw} {cn sn : Nat}  : wp d 103 Q 371 L st w cn sn = wp d 103 Q 373 L (.int 83 :: st) w cn sn := w_bipush d_103_371 (by decide)
theorem d_103_373 : decode (mB 103) 373 = .ok (.bipush 80, 2) := by decide +kernel
theorem s_103_373 {d : Nat} {Q : wQ} {L : List (Option Value)} {st : List Value} {w : aw} {cn sn : Nat}  : wp d 103 Q 373 L st w cn sn = wp d 103 Q 375 L (.int 80 :: st) w cn sn := w_bipush d_103_373 (by decide)
theorem d_103_375 : decode (mB 103) 375 = .ok (.bipush 65, 2) := by decide +kernel
theorem s_103_375 {d : Nat} {Q : wQ} {L : List (Option Value)} {st : List Value} {w : aw} {cn sn : Nat}  : wp d 103 Q 375 L st w cn sn = wp d 103 Q 377 L (.int 65 :: st) w cn sn := w_bipush d_103_375 (by decide)
theorem d_103_377 : decode (mB 103) 377 = .ok (.sipush 3912, 3) := by decide +kernel
theorem s_103_377 {d : Nat} {Q : wQ} {L : List (Option Value)} {st : List Value} {w : aw} {cn sn : Nat}  : wp d 103 Q 377 L st w cn sn = wp d 103 Q 380 L (.int 3912 :: st) w cn sn := w_sipush d_103_377 (by decide)
theorem d_103_380 : decode (mB 103) 380 = .ok (.invokevirtual 92, 3) := by decide +kernel
theorem s_103_380 {d : Nat} {Q : wQ} {L : List (Option Value)} {st : List Value} {w : aw} {cn sn : Nat} {v0 v1 v2 v3 : Value} {b : Nat} : wp d 103 Q 380 L (v3 :: v2 :: v1 :: v0 :: .ref b :: st) w cn sn = (kd w b = 9 ∧ catS st ≤ 8 ∧ wpD d 104 [.ref b, v0, v1, v2, v3] w (fun v w' => wp d 103 Q 383 L (v.toList ++ st) w' cn sn)) := w_virtual (As := [v0, v1, v2, v3]) d_103_380 (by decide +kernel : cT (mO 103) 92 = some (0, 104)) rfl (by decide +kernel) rfl (by decide +kernel) rfl
theorem d_103_383 : decode (mB 103) 383 = .ok (.aload_n 0, 1) := by decide +kernel
theorem s_103_383 {d : Nat} {Q : wQ} {L : List (Option Value)} {st : List Value} {w : aw} {cn sn : Nat} {v : Nat} : wp d 103 Q 383 (some (.ref v) :: L) st w cn sn = wp d 103 Q 384 (some (.ref v) :: L) (.ref v :: st) w cn sn := w_aload_n d_103_383 rfl
theorem d_103_384 : decode (mB 103) 384 = .ok (.bipush 83, 2) := by decide +kernel
theorem s_103_384 {d : Nat} {Q : wQ} {L : List (Option Value)} {st : List Value} {w : aw} {cn sn : Nat}  : wp d 103 Q 384 L st w cn sn = wp d 103 Q 386 L (.int 83 :: st) w cn sn := w_bipush d_103_384 (by decide)
theorem d_103_386 : decode (mB 103) 386 = .ok (.bipush 78, 2) := by decide +kernel
theorem s_103_386 {d : Nat} {Q : wQ} {L : List (Option Value)} {st : List Value} {w : aw} {cn sn : Nat}  : wp d 103 Q 386 L st w cn sn = wp d 103 Q 388 L (.int 78 :: st) w cn sn := w_bipush d_103_386 (by decide)
theorem d_103_388 : decode (mB 103) 388 = .ok (.bipush 65, 2) := by decide +kernel
theorem s_103_388 {d : Nat} {Q : wQ} {L : List (Option Value)} {st : List Value} {w : aw} {cn sn : Nat}  : wp d 103 Q 388 L st w cn sn = wp d 103 Q 390 L (.int 65 :: st) w cn sn := w_bipush d_103_388 (by decide)
theorem d_103_390 : decode (mB 103) 390 = .ok (.sipush 3880, 3) := by decide +kernel
theorem s_103_390 {d : Nat} {Q : wQ} {L : List (Option Value)} {st : List Value} {w : aw} {cn sn : Nat}  : wp d 103 Q 390 L st w cn sn = wp d 103 Q 393 L (.int 3880 :: st) w cn sn := w_sipush d_103_390 (by decide)
theorem d_103_393 : decode (mB 103) 393 = .ok (.invokevirtual 92, 3) := by decide +kernel
theorem s_103_393 {d : Nat} {Q : wQ} {L : List (Option Value)} {st : List Value} {w : aw} {cn sn : Nat} {v0 v1 v2 v3 : Value} {b : Nat} : wp d 103 Q 393 L (v3 :: v2 :: v1 :: v0 :: .ref b :: st) w cn sn = (kd w b = 9 ∧ catS st ≤ 8 ∧ wpD d 104 [.ref b, v0, v1, v2, v3] w (fun v w' => wp d 103 Q 396 L (v.toList ++ st) w' cn sn)) := w_virtual (As := [v0, v1, v2, v3]) d_103_393 (by decide +kernel : cT (mO 103) 92 = some (0, 104)) rfl (by decide +kernel) rfl (by decide +kernel) rfl
theorem d_103_396 : decode (mB 103) 396 = .ok (.aload_n 0, 1) := by decide +kernel
theorem s_103_396 {d : Nat} {Q : wQ} {L : List (Option Value)} {st : List Value} {w : aw} {cn sn : Nat} {v : Nat} : wp d 103 Q 396 (some (.ref v) :: L) st w cn sn = wp d 103 Q 397 (some (.ref v) :: L) (.ref v :: st) w cn sn := w_aload_n d_103_396 rfl
theorem d_103_397 : decode (mB 103) 397 = .ok (.bipush 83, 2) := by decide +kernel
theorem s_103_397 {d : Nat} {Q : wQ} {L : List (Option Value)} {st : List Value} {w : aw} {cn sn : Nat}  : wp d 103 Q 397 L st w cn sn = wp d 103 Q 399 L (.int 83 :: st) w cn sn := w_bipush d_103_397 (by decide)
theorem d_103_399 : decode (mB 103) 399 = .ok (.bipush 78, 2) := by decide +kernel
theorem s_103_399 {d : Nat} {Q : wQ} {L : List (Option Value)} {st : List Value} {w : aw} {cn sn : Nat}  : wp d 103 Q 399 L st w cn sn = wp d 103 Q 401 L (.int 78 :: st) w cn sn := w_bipush d_103_399 (by decide)
theorem d_103_401 : decode (mB 103) 401 = .ok (.bipush 76, 2) := by decide +kernel
theorem s_103_401 {d : Nat} {Q : wQ} {L : List (Option Value)} {st : List Value} {w : aw} {cn sn : Nat}  : wp d 103 Q 401 L st w cn sn = wp d 103 Q 403 L (.int 76 :: st) w cn sn := w_bipush d_103_401 (by decide)
theorem d_103_403 : decode (mB 103) 403 = .ok (.sipush 3856, 3) := by decide +kernel
theorem s_103_403 {d : Nat} {Q : wQ} {L : List (Option Value)} {st : List Value} {w : aw} {cn sn : Nat}  : wp d 103 Q 403 L st w cn sn = wp d 103 Q 406 L (.int 3856 :: st) w cn sn := w_sipush d_103_403 (by decide)
theorem d_103_406 : decode (mB 103) 406 = .ok (.invokevirtual 92, 3) := by decide +kernel
theorem s_103_406 {d : Nat} {Q : wQ} {L : List (Option Value)} {st : List Value} {w : aw} {cn sn : Nat} {v0 v1 v2 v3 : Value} {b : Nat} : wp d 103 Q 406 L (v3 :: v2 :: v1 :: v0 :: .ref b :: st) w cn sn = (kd w b = 9 ∧ catS st ≤ 8 ∧ wpD d 104 [.ref b, v0, v1, v2, v3] w (fun v w' => wp d 103 Q 409 L (v.toList ++ st) w' cn sn)) := w_virtual (As := [v0, v1, v2, v3]) d_103_406 (by decide +kernel : cT (mO 103) 92 = some (0, 104)) rfl (by decide +kernel) rfl (by decide +kernel) rfl
theorem d_103_409 : decode (mB 103) 409 = .ok (.aload_n 0, 1) := by decide +kernel
theorem s_103_409 {d : Nat} {Q : wQ} {L : List (Option Value)} {st : List Value} {w : aw} {cn sn : Nat} {v : Nat} : wp d 103 Q 409 (some (.ref v) :: L) st w cn sn = wp d 103 Q 410 (some (.ref v) :: L) (.ref v :: st) w cn sn := w_aload_n d_103_409 rfl
theorem d_103_410 : decode (mB 103) 410 = .ok (.bipush 83, 2) := by decide +kernel
theorem s_103_410 {d : Nat} {Q : wQ} {L : List (Option Value)} {st : List Value} {w : aw} {cn sn : Nat}  : wp d 103 Q 410 L st w cn sn = wp d 103 Q 412 L (.int 83 :: st) w cn sn := w_bipush d_103_410 (by decide)
theorem d_103_412 : decode (mB 103) 412 = .ok (.bipush 90, 2) := by decide +kernel
theorem s_103_412 {d : Nat} {Q : wQ} {L : List (Option Value)} {st : List Value} {w : aw} {cn sn : Nat}  : wp d 103 Q 412 L st w cn sn = wp d 103 Q 414 L (.int 90 :: st) w cn sn := w_bipush d_103_412 (by decide)
theorem d_103_414 : decode (mB 103) 414 = .ok (.bipush 76, 2) := by decide +kernel
theorem s_103_414 {d : Nat} {Q : wQ} {L : List (Option Value)} {st : List Value} {w : aw} {cn sn : Nat}  : wp d 103 Q 414 L st w cn sn = wp d 103 Q 416 L (.int 76 :: st) w cn sn := w_bipush d_103_414 (by decide)
theorem d_103_416 : decode (mB 103) 416 = .ok (.sipush 3864, 3) := by decide +kernel
theorem s_103_416 {d : Nat} {Q : wQ} {L : List (Option Value)} {st : List Value} {w : aw} {cn sn : Nat}  : wp d 103 Q 416 L st w cn sn = wp d 103 Q 419 L (.int 3864 :: st) w cn sn := w_sipush d_103_416 (by decide)
theorem d_103_419 : decode (mB 103) 419 = .ok (.invokevirtual 92, 3) := by decide +kernel
theorem s_103_419 {d : Nat} {Q : wQ} {L : List (Option Value)} {st : List Value} {w : aw} {cn sn : Nat} {v0 v1 v2 v3 : Value} {b : Nat} : wp d 103 Q 419 L (v3 :: v2 :: v1 :: v0 :: .ref b :: st) w cn sn = (kd w b = 9 ∧ catS st ≤ 8 ∧ wpD d 104 [.ref b, v0, v1, v2, v3] w (fun v w' => wp d 103 Q 422 L (v.toList ++ st) w' cn sn)) := w_virtual (As := [v0, v1, v2, v3]) d_103_419 (by decide +kernel : cT (mO 103) 92 = some (0, 104)) rfl (by decide +kernel) rfl (by decide +kernel) rfl
theorem d_103_422 : decode (mB 103) 422 = .ok (.aload_n 0, 1) := by decide +kernel
theorem s_103_422 {d : Nat} {Q : wQ} {L : List (Option Value)} {st : List Value} {w : aw} {cn sn : Nat} {v : Nat} : wp d 103 Q 422 (some (.ref v) :: L) st w cn sn = wp d 103 Q 423 (some (.ref v) :: L) (.ref v :: st) w cn sn := w_aload_n d_103_422 rfl
theorem d_103_423 : decode (mB 103) 423 = .ok (.bipush 83, 2) := by decide +kernel
theorem s_103_423 {d : Nat} {Q : wQ} {L : List (Option Value)} {st : List Value} {w : aw} {cn sn : Nat}  : wp d 103 Q 423 L st w cn sn = wp d 103 Q 425 L (.int 83 :: st) w cn sn := w_bipush d_103_423 (by decide)
theorem d_103_425 : decode (mB 103) 425 = .ok (.bipush 75, 2) := by decide +kernel
theorem s_103_425 {d : Nat} {Q : wQ} {L : List (Option Value)} {st : List Value} {w : aw} {cn sn : Nat}  : wp d 103 Q 425 L st w cn sn = wp d 103 Q 427 L (.int 75 :: st) w cn sn := w_bipush d_103_425 (by decide)
theorem d_103_427 : decode (mB 103) 427 = .ok (.bipush 80, 2) := by decide +kernel
theorem s_103_427 {d : Nat} {Q : wQ} {L : List (Option Value)} {st : List Value} {w : aw} {cn sn : Nat}  : wp d 103 Q 427 L st w cn sn = wp d 103 Q 429 L (.int 80 :: st) w cn sn := w_bipush d_103_427 (by decide)
theorem d_103_429 : decode (mB 103) 429 = .ok (.sipush 3848, 3) := by decide +kernel
theorem s_103_429 {d : Nat} {Q : wQ} {L : List (Option Value)} {st : List Value} {w : aw} {cn sn : Nat}  : wp d 103 Q 429 L st w cn sn = wp d 103 Q 432 L (.int 3848 :: st) w cn sn := w_sipush d_103_429 (by decide)
theorem d_103_432 : decode (mB 103) 432 = .ok (.invokevirtual 92, 3) := by decide +kernel
theorem s_103_432 {d : Nat} {Q : wQ} {L : List (Option Value)} {st : List Value} {w : aw} {cn sn : Nat} {v0 v1 v2 v3 : Value} {b : Nat} : wp d 103 Q 432 L (v3 :: v2 :: v1 :: v0 :: .ref b :: st) w cn sn = (kd w b = 9 ∧ catS st ≤ 8 ∧ wpD d 104 [.ref b, v0, v1, v2, v3] w (fun v w' => wp d 103 Q 435 L (v.toList ++ st) w' cn sn)) := w_virtual (As := [v0, v1, v2, v3]) d_103_432 (by decide +kernel : cT (mO 103) 92 = some (0, 104)) rfl (by decide +kernel) rfl (by decide +kernel) rfl
theorem d_103_435 : decode (mB 103) 435 = .ok (.aload_n 0, 1) := by decide +kernel
theorem s_103_435 {d : Nat} {Q : wQ} {L : List (Option Value)} {st : List Value} {w : aw} {cn sn : Nat} {v : Nat} : wp d 103 Q 435 (some (.ref v) :: L) st w cn sn = wp d 103 Q 436 (some (.ref v) :: L) (.ref v :: st) w cn sn := w_aload_n d_103_435 rfl
theorem d_103_436 : decode (mB 103) 436 = .ok (.bipush 79, 2) := by decide +kernel
theorem s_103_436 {d : Nat} {Q : wQ} {L : List (Option Value)} {st : List Value} {w : aw} {cn sn : Nat}  : wp d 103 Q 436 L st w cn sn = wp d 103 Q 438 L (.int 79 :: st) w cn sn := w_bipush d_103_436 (by decide)
theorem d_103_438 : decode (mB 103) 438 = .ok (.bipush 83, 2) := by decide +kernel
theorem s_103_438 {d : Nat} {Q : wQ} {L : List (Option Value)} {st : List Value} {w : aw} {cn sn : Nat}  : wp d 103 Q 438 L st w cn sn = wp d 103 Q 440 L (.int 83 :: st) w cn sn := w_bipush d_103_438 (by decide)
theorem d_103_440 : decode (mB 103) 440 = .ok (.bipush 82, 2) := by decide +kernel
theorem s_103_440 {d : Nat} {Q : wQ} {L : List (Option Value)} {st : List Value} {w : aw} {cn sn : Nat}  : wp d 103 Q 440 L st w cn sn = wp d 103 Q 442 L (.int 82 :: st) w cn sn := w_bipush d_103_440 (by decide)
theorem d_103_442 : decode (mB 103) 442 = .ok (.sipush 3844, 3) := by decide +kernel
theorem s_103_442 {d : Nat} {Q : wQ} {L : List (Option Value)} {st : List Value} {w : aw} {cn sn : Nat}  : wp d 103 Q 442 L st w cn sn = wp d 103 Q 445 L (.int 3844 :: st) w cn sn := w_sipush d_103_442 (by decide)
theorem d_103_445 : decode (mB 103) 445 = .ok (.invokevirtual 92, 3) := by decide +kernel
theorem s_103_445 {d : Nat} {Q : wQ} {L : List (Option Value)} {st : List Value} {w : aw} {cn sn : Nat} {v0 v1 v2 v3 : Value} {b : Nat} : wp d 103 Q 445 L (v3 :: v2 :: v1 :: v0 :: .ref b :: st) w cn sn = (kd w b = 9 ∧ catS st ≤ 8 ∧ wpD d 104 [.ref b, v0, v1, v2, v3] w (fun v w' => wp d 103 Q 448 L (v.toList ++ st) w' cn sn)) := w_virtual (As := [v0, v1, v2, v3]) d_103_445 (by decide +kernel : cT (mO 103) 92 = some (0, 104)) rfl (by decide +kernel) rfl (by decide +kernel) rfl
theorem d_103_448 : decode (mB 103) 448 = .ok (.aload_n 0, 1) := by decide +kernel
theorem s_103_448 {d : Nat} {Q : wQ} {L : List (Option Value)} {st : List Value} {w : aw} {cn sn : Nat} {v : Nat} : wp d 103 Q 448 (some (.ref v) :: L) st w cn sn = wp d 103 Q 449 (some (.ref v) :: L) (.ref v :: st) w cn sn := w_aload_n d_103_448 rfl
theorem d_103_449 : decode (mB 103) 449 = .ok (.bipush 72, 2) := by decide +kernel
theorem s_103_449 {d : Nat} {Q : wQ} {L : List (Option Value)} {st : List Value} {w : aw} {cn sn : Nat}  : wp d 103 Q 449 L st w cn sn = wp d 103 Q 451 L (.int 72 :: st) w cn sn := w_bipush d_103_449 (by decide)
theorem d_103_451 : decode (mB 103) 451 = .ok (.bipush 76, 2) := by decide +kernel
theorem s_103_451 {d : Nat} {Q : wQ} {L : List (Option Value)} {st : List Value} {w : aw} {cn sn : Nat}  : wp d 103 Q 451 L st w cn sn = wp d 103 Q 453 L (.int 76 :: st) w cn sn := w_bipush d_103_451 (by decide)
theorem d_103_453 : decode (mB 103) 453 = .ok (.bipush 84, 2) := by decide +kernel
theorem s_103_453 {d : Nat} {Q : wQ} {L : List (Option Value)} {st : List Value} {w : aw} {cn sn : Nat}  : wp d 103 Q 453 L st w cn sn = wp d 103 Q 455 L (.int 84 :: st) w cn sn := w_bipush d_103_453 (by decide)
theorem d_103_455 : decode (mB 103) 455 = .ok (.sipush 3842, 3) := by decide +kernel
theorem s_103_455 {d : Nat} {Q : wQ} {L : List (Option Value)} {st : List Value} {w : aw} {cn sn : Nat}  : wp d 103 Q 455 L st w cn sn = wp d 103 Q 458 L (.int 3842 :: st) w cn sn := w_sipush d_103_455 (by decide)
theorem d_103_458 : decode (mB 103) 458 = .ok (.invokevirtual 92, 3) := by decide +kernel
theorem s_103_458 {d : Nat} {Q : wQ} {L : List (Option Value)} {st : List Value} {w : aw} {cn sn : Nat} {v0 v1 v2 v3 : Value} {b : Nat} : wp d 103 Q 458 L (v3 :: v2 :: v1 :: v0 :: .ref b :: st) w cn sn = (kd w b = 9 ∧ catS st ≤ 8 ∧ wpD d 104 [.ref b, v0, v1, v2, v3] w (fun v w' => wp d 103 Q 461 L (v.toList ++ st) w' cn sn)) := w_virtual (As := [v0, v1, v2, v3]) d_103_458 (by decide +kernel : cT (mO 103) 92 = some (0, 104)) rfl (by decide +kernel) rfl (by decide +kernel) rfl
theorem d_103_461 : decode (mB 103) 461 = .ok (.aload_n 0, 1) := by decide +kernel
theorem s_103_461 {d : Nat} {Q : wQ} {L : List (Option Value)} {st : List Value} {w : aw} {cn sn : Nat} {v : Nat} : wp d 103 Q 461 (some (.ref v) :: L) st w cn sn = wp d 103 Q 462 (some (.ref v) :: L) (.ref v :: st) w cn sn := w_aload_n d_103_461 rfl
theorem d_103_462 : decode (mB 103) 462 = .ok (.bipush 67, 2) := by decide +kernel
theorem s_103_462 {d : Nat} {Q : wQ} {L : List (Option Value)} {st : List Value} {w : aw} {cn sn : Nat}  : wp d 103 Q 462 L st w cn sn = wp d 103 Q 464 L (.int 67 :: st) w cn sn := w_bipush d_103_462 (by decide)
theorem d_103_464 : decode (mB 103) 464 = .ok (.bipush 73, 2) := by decide +kernel
theorem s_103_464 {d : Nat} {Q : wQ} {L : List (Option Value)} {st : List Value} {w : aw} {cn sn : Nat}  : wp d 103 Q 464 L st w cn sn = wp d 103 Q 466 L (.int 73 :: st) w cn sn := w_bipush d_103_464 (by decide)
theorem d_103_466 : decode (mB 103) 466 = .ok (.bipush 65, 2) := by decide +kernel
theorem s_103_466 {d : Nat} {Q : wQ} {L : List (Option Value)} {st : List Value} {w : aw} {cn sn : Nat}  : wp d 103 Q 466 L st w cn sn = wp d 103 Q 468 L (.int 65 :: st) w cn sn := w_bipush d_103_466 (by decide)
theorem d_103_468 : decode (mB 103) 468 = .ok (.sipush 3617, 3) := by decide +kernel
theorem s_103_468 {d : Nat} {Q : wQ} {L : List (Option Value)} {st : List Value} {w : aw} {cn sn : Nat}  : wp d 103 Q 468 L st w cn sn = wp d 103 Q 471 L (.int 3617 :: st) w cn sn := w_sipush d_103_468 (by decide)
theorem d_103_471 : decode (mB 103) 471 = .ok (.invokevirtual 92, 3) := by decide +kernel
theorem s_103_471 {d : Nat} {Q : wQ} {L : List (Option Value)} {st : List Value} {w : aw} {cn sn : Nat} {v0 v1 v2 v3 : Value} {b : Nat} : wp d 103 Q 471 L (v3 :: v2 :: v1 :: v0 :: .ref b :: st) w cn sn = (kd w b = 9 ∧ catS st ≤ 8 ∧ wpD d 104 [.ref b, v0, v1, v2, v3] w (fun v w' => wp d 103 Q 474 L (v.toList ++ st) w' cn sn)) := w_virtual (As := [v0, v1, v2, v3]) d_103_471 (by decide +kernel : cT (mO 103) 92 = some (0, 104)) rfl (by decide +kernel) rfl (by decide +kernel) rfl
theorem d_103_474 : decode (mB 103) 474 = .ok (.aload_n 0, 1) := by decide +kernel
theorem s_103_474 {d : Nat} {Q : wQ} {L : List (Option Value)} {st : List Value} {w : aw} {cn sn : Nat} {v : Nat} : wp d 103 Q 474 (some (.ref v) :: L) st w cn sn = wp d 103 Q 475 (some (.ref v) :: L) (.ref v :: st) w cn sn := w_aload_n d_103_474 rfl
theorem d_103_475 : decode (mB 103) 475 = .ok (.bipush 75, 2) := by decide +kernel
theorem s_103_475 {d : Nat} {Q : wQ} {L : List (Option Value)} {st : List Value} {w : aw} {cn sn : Nat}  : wp d 103 Q 475 L st w cn sn = wp d 103 Q 477 L (.int 75 :: st) w cn sn := w_bipush d_103_475 (by decide)
theorem d_103_477 : decode (mB 103) 477 = .ok (.bipush 83, 2) := by decide +kernel
theorem s_103_477 {d : Nat} {Q : wQ} {L : List (Option Value)} {st : List Value} {w : aw} {cn sn : Nat}  : wp d 103 Q 477 L st w cn sn = wp d 103 Q 479 L (.int 83 :: st) w cn sn := w_bipush d_103_477 (by decide)
theorem d_103_479 : decode (mB 103) 479 = .ok (.bipush 70, 2) := by decide +kernel
theorem s_103_479 {d : Nat} {Q : wQ} {L : List (Option Value)} {st : List Value} {w : aw} {cn sn : Nat}  : wp d 103 Q 479 L st w cn sn = wp d 103 Q 481 L (.int 70 :: st) w cn sn := w_bipush d_103_479 (by decide)
theorem d_103_481 : decode (mB 103) 481 = .ok (.sipush 3097, 3) := by decide +kernel
theorem s_103_481 {d : Nat} {Q : wQ} {L : List (Option Value)} {st : List Value} {w : aw} {cn sn : Nat}  : wp d 103 Q 481 L st w cn sn = wp d 103 Q 484 L (.int 3097 :: st) w cn sn := w_sipush d_103_481 (by decide)
theorem d_103_484 : decode (mB 103) 484 = .ok (.invokevirtual 92, 3) := by decide +kernel
theorem s_103_484 {d : Nat} {Q : wQ} {L : List (Option Value)} {st : List Value} {w : aw} {cn sn : Nat} {v0 v1 v2 v3 : Value} {b : Nat} : wp d 103 Q 484 L (v3 :: v2 :: v1 :: v0 :: .ref b :: st) w cn sn = (kd w b = 9 ∧ catS st ≤ 8 ∧ wpD d 104 [.ref b, v0, v1, v2, v3] w (fun v w' => wp d 103 Q 487 L (v.toList ++ st) w' cn sn)) := w_virtual (As := [v0, v1, v2, v3]) d_103_484 (by decide +kernel : cT (mO 103) 92 = some (0, 104)) rfl (by decide +kernel) rfl (by decide +kernel) rfl
theorem d_103_487 : decode (mB 103) 487 = .ok (.aload_n 0, 1) := by decide +kernel
theorem s_103_487 {d : Nat} {Q : wQ} {L : List (Option Value)} {st : List Value} {w : aw} {cn sn : Nat} {v : Nat} : wp d 103 Q 487 (some (.ref v) :: L) st w cn sn = wp d 103 Q 488 (some (.ref v) :: L) (.ref v :: st) w cn sn := w_aload_n d_103_487 rfl
theorem d_103_488 : decode (mB 103) 488 = .ok (.bipush 75, 2) := by decide +kernel
theorem s_103_488 {d : Nat} {Q : wQ} {L : List (Option Value)} {st : List Value} {w : aw} {cn sn : Nat}  : wp d 103 Q 488 L st w cn sn = wp d 103 Q 490 L (.int 75 :: st) w cn sn := w_bipush d_103_488 (by decide)
theorem d_103_490 : decode (mB 103) 490 = .ok (.bipush 82, 2) := by decide +kernel
theorem s_103_490 {d : Nat} {Q : wQ} {L : List (Option Value)} {st : List Value} {w : aw} {cn sn : Nat}  : wp d 103 Q 490 L st w cn sn = wp d 103 Q 492 L (.int 82 :: st) w cn sn := w_bipush d_103_490 (by decide)
theorem d_103_492 : decode (mB 103) 492 = .ok (.bipush 66, 2) := by decide +kernel
theorem s_103_492 {d : Nat} {Q : wQ} {L : List (Option Value)} {st : List Value} {w : aw} {cn sn : Nat}  : wp d 103 Q 492 L st w cn sn = wp d 103 Q 494 L (.int 66 :: st) w cn sn := w_bipush d_103_492 (by decide)
theorem d_103_494 : decode (mB 103) 494 = .ok (.sipush 3102, 3) := by decide +kernel
theorem s_103_494 {d : Nat} {Q : wQ} {L : List (Option Value)} {st : List Value} {w : aw} {cn sn : Nat}  : wp d 103 Q 494 L st w cn sn = wp d 103 Q 497 L (.int 3102 :: st) w cn sn := w_sipush d_103_494 (by decide)
theorem d_103_497 : decode (mB 103) 497 = .ok (.invokevirtual 92, 3) := by decide +kernel
theorem s_103_497 {d : Nat} {Q : wQ} {L : List (Option Value)} {st : List Value} {w : aw} {cn sn : Nat} {v0 v1 v2 v3 : Value} {b : Nat} : wp d 103 Q 497 L (v3 :: v2 :: v1 :: v0 :: .ref b :: st) w cn sn = (kd w b = 9 ∧ catS st ≤ 8 ∧ wpD d 104 [.ref b, v0, v1, v2, v3] w (fun v w' => wp d 103 Q 500 L (v.toList ++ st) w' cn sn)) := w_virtual (As := [v0, v1, v2, v3]) d_103_497 (by decide +kernel : cT (mO 103) 92 = some (0, 104)) rfl (by decide +kernel) rfl (by decide +kernel) rfl
theorem d_103_500 : decode (mB 103) 500 = .ok (.aload_n 0, 1) := by decide +kernel
theorem s_103_500 {d : Nat} {Q : wQ} {L : List (Option Value)} {st : List Value} {w : aw} {cn sn : Nat} {v : Nat} : wp d 103 Q 500 (some (.ref v) :: L) st w cn sn = wp d 103 Q 501 (some (.ref v) :: L) (.ref v :: st) w cn sn := w_aload_n d_103_500 rfl
theorem d_103_501 : decode (mB 103) 501 = .ok (.bipush 84, 2) := by decide +kernel
theorem s_103_501 {d : Nat} {Q : wQ} {L : List (Option Value)} {st : List Value} {w : aw} {cn sn : Nat}  : wp d 103 Q 501 L st w cn sn = wp d 103 Q 503 L (.int 84 :: st) w cn sn := w_bipush d_103_501 (by decide)
theorem d_103_503 : decode (mB 103) 503 = .ok (.bipush 83, 2) := by decide +kernel
theorem s_103_503 {d : Nat} {Q : wQ} {L : List (Option Value)} {st : List Value} {w : aw} {cn sn : Nat}  : wp d 103 Q 503 L st w cn sn = wp d 103 Q 505 L (.int 83 :: st) w cn sn := w_bipush d_103_503 (by decide)
theorem d_103_505 : decode (mB 103) 505 = .ok (.bipush 70, 2) := by decide +kernel
theorem s_103_505 {d : Nat} {Q : wQ} {L : List (Option Value)} {st : List Value} {w : aw} {cn sn : Nat}  : wp d 103 Q 505 L st w cn sn = wp d 103 Q 507 L (.int 70 :: st) w cn sn := w_bipush d_103_505 (by decide)
theorem d_103_507 : decode (mB 103) 507 = .ok (.sipush 3105, 3) := by decide +kernel
theorem s_103_507 {d : Nat} {Q : wQ} {L : List (Option Value)} {st : List Value} {w : aw} {cn sn : Nat}  : wp d 103 Q 507 L st w cn sn = wp d 103 Q 510 L (.int 3105 :: st) w cn sn := w_sipush d_103_507 (by decide)
theorem d_103_510 : decode (mB 103) 510 = .ok (.invokevirtual 92, 3) := by decide +kernel
theorem s_103_510 {d : Nat} {Q : wQ} {L : List (Option Value)} {st : List Value} {w : aw} {cn sn : Nat} {v0 v1 v2 v3 : Value} {b : Nat} : wp d 103 Q 510 L (v3 :: v2 :: v1 :: v0 :: .ref b :: st) w cn sn = (kd w b = 9 ∧ catS st ≤ 8 ∧ wpD d 104 [.ref b, v0, v1, v2, v3] w (fun v w' => wp d 103 Q 513 L (v.toList ++ st) w' cn sn)) := w_virtual (As := [v0, v1, v2, v3]) d_103_510 (by decide +kernel : cT (mO 103) 92 = some (0, 104)) rfl (by decide +kernel) rfl (by decide +kernel) rfl
theorem d_103_513 : decode (mB 103) 513 = .ok (.aload_n 0, 1) := by decide +kernel
theorem s_103_513 {d : Nat} {Q : wQ} {L : List (Option Value)} {st : List Value} {w : aw} {cn sn : Nat} {v : Nat} : wp d 103 Q 513 (some (.ref v) :: L) st w cn sn = wp d 103 Q 514 (some (.ref v) :: L) (.ref v :: st) w cn sn := w_aload_n d_103_513 rfl
theorem d_103_514 : decode (mB 103) 514 = .ok (.bipush 84, 2) := by decide +kernel
theorem s_103_514 {d : Nat} {Q : wQ} {L : List (Option Value)} {st : List Value} {w : aw} {cn sn : Nat}  : wp d 103 Q 514 L st w cn sn = wp d 103 Q 516 L (.int 84 :: st) w cn sn := w_bipush d_103_514 (by decide)
theorem d_103_516 : decode (mB 103) 516 = .ok (.bipush 76, 2) := by decide +kernel
theorem s_103_516 {d : Nat} {Q : wQ} {L : List (Option Value)} {st : List Value} {w : aw} {cn sn : Nat}  : wp d 103 Q 516 L st w cn sn = wp d 103 Q 518 L (.int 76 :: st) w cn sn := w_bipush d_103_516 (by decide)
theorem d_103_518 : decode (mB 103) 518 = .ok (.bipush 83, 2) := by decide +kernel
theorem s_103_518 {d : Nat} {Q : wQ} {L : List (Option Value)} {st : List Value} {w : aw} {cn sn : Nat}  : wp d 103 Q 518 L st w cn sn = wp d 103 Q 520 L (.int 83 :: st) w cn sn := w_bipush d_103_518 (by decide)
theorem d_103_520 : decode (mB 103) 520 = .ok (.sipush 3110, 3) := by decide +kernel
theorem s_103_520 {d : Nat} {Q : wQ} {L : List (Option Value)} {st : List Value} {w : aw} {cn sn : Nat}  : wp d 103 Q 520 L st w cn sn = wp d 103 Q 523 L (.int 3110 :: st) w cn sn := w_sipush d_103_520 (by decide)
theorem d_103_523 : decode (mB 103) 523 = .ok (.invokevirtual 92, 3) := by decide +kernel
theorem s_103_523 {d : Nat} {Q : wQ} {L : List (Option Value)} {st : List Value} {w : aw} {cn sn : Nat} {v0 v1 v2 v3 : Value} {b : Nat} : wp d 103 Q 523 L (v3 :: v2 :: v1 :: v0 :: .ref b :: st) w cn sn = (kd w b = 9 ∧ catS st ≤ 8 ∧ wpD d 104 [.ref b, v0, v1, v2, v3] w (fun v w' => wp d 103 Q 526 L (v.toList ++ st) w' cn sn)) := w_virtual (As := [v0, v1, v2, v3]) d_103_523 (by decide +kernel : cT (mO 103) 92 = some (0, 104)) rfl (by decide +kernel) rfl (by decide +kernel) rfl
theorem d_103_526 : decode (mB 103) 526 = .ok (.aload_n 0, 1) := by decide +kernel
theorem s_103_526 {d : Nat} {Q : wQ} {L : List (Option Value)} {st : List Value} {w : aw} {cn sn : Nat} {v : Nat} : wp d 103 Q 526 (some (.ref v) :: L) st w cn sn = wp d 103 Q 527 (some (.ref v) :: L) (.ref v :: st) w cn sn := w_aload_n d_103_526 rfl
theorem d_103_527 : decode (mB 103) 527 = .ok (.bipush 83, 2) := by decide +kernel
theorem s_103_527 {d : Nat} {Q : wQ} {L : List (Option Value)} {st : List Value} {w : aw} {cn sn : Nat}  : wp d 103 Q 527 L st w cn sn = wp d 103 Q 529 L (.int 83 :: st) w cn sn := w_bipush d_103_527 (by decide)
theorem d_103_529 : decode (mB 103) 529 = .ok (.bipush 76, 2) := by decide +kernel
theorem s_103_529 {d : Nat} {Q : wQ} {L : List (Option Value)} {st : List Value} {w : aw} {cn sn : Nat}  : wp d 103 Q 529 L st w cn sn = wp d 103 Q 531 L (.int 76 :: st) w cn sn := w_bipush d_103_529 (by decide)
theorem d_103_531 : decode (mB 103) 531 = .ok (.bipush 80, 2) := by decide +kernel
theorem s_103_531 {d : Nat} {Q : wQ} {L : List (Option Value)} {st : List Value} {w : aw} {cn sn : Nat}  : wp d 103 Q 531 L st w cn sn = wp d 103 Q 533 L (.int 80 :: st) w cn sn := w_bipush d_103_531 (by decide)
theorem d_103_533 : decode (mB 103) 533 = .ok (.sipush 3113, 3) := by decide +kernel
theorem s_103_533 {d : Nat} {Q : wQ} {L : List (Option Value)} {st : List Value} {w : aw} {cn sn : Nat}  : wp d 103 Q 533 L st w cn sn = wp d 103 Q 536 L (.int 3113 :: st) w cn sn := w_sipush d_103_533 (by decide)
theorem d_103_536 : decode (mB 103) 536 = .ok (.invokevirtual 92, 3) := by decide +kernel
theorem s_103_536 {d : Nat} {Q : wQ} {L : List (Option Value)} {st : List Value} {w : aw} {cn sn : Nat} {v0 v1 v2 v3 : Value} {b : Nat} : wp d 103 Q 536 L (v3 :: v2 :: v1 :: v0 :: .ref b :: st) w cn sn = (kd w b = 9 ∧ catS st ≤ 8 ∧ wpD d 104 [.ref b, v0, v1, v2, v3] w (fun v w' => wp d 103 Q 539 L (v.toList ++ st) w' cn sn)) := w_virtual (As := [v0, v1, v2, v3]) d_103_536 (by decide +kernel : cT (mO 103) 92 = some (0, 104)) rfl (by decide +kernel) rfl (by decide +kernel) rfl
theorem d_103_539 : decode (mB 103) 539 = .ok (.aload_n 0, 1) := by decide +kernel
theorem s_103_539 {d : Nat} {Q : wQ} {L : List (Option Value)} {st : List Value} {w : aw} {cn sn : Nat} {v : Nat} : wp d 103 Q 539 (some (.ref v) :: L) st w cn sn = wp d 103 Q 540 (some (.ref v) :: L) (.ref v :: st) w cn sn := w_aload_n d_103_539 rfl
theorem d_103_540 : decode (mB 103) 540 = .ok (.bipush 82, 2) := by decide +kernel
theorem s_103_540 {d : Nat} {Q : wQ} {L : List (Option Value)} {st : List Value} {w : aw} {cn sn : Nat}  : wp d 103 Q 540 L st w cn sn = wp d 103 Q 542 L (.int 82 :: st) w cn sn := w_bipush d_103_540 (by decide)
theorem d_103_542 : decode (mB 103) 542 = .ok (.bipush 68, 2) := by decide +kernel
theorem s_103_542 {d : Nat} {Q : wQ} {L : List (Option Value)} {st : List Value} {w : aw} {cn sn : Nat}  : wp d 103 Q 542 L st w cn sn = wp d 103 Q 544 L (.int 68 :: st) w cn sn := w_bipush d_103_542 (by decide)
theorem d_103_544 : decode (mB 103) 544 = .ok (.bipush 66, 2) := by decide +kernel
theorem s_103_544 {d : Nat} {Q : wQ} {L : List (Option Value)} {st : List Value} {w : aw} {cn sn : Nat}  : wp d 103 Q 544 L st w cn sn = wp d 103 Q 546 L (.int 66 :: st) w cn sn := w_bipush d_103_544 (by decide)
theorem d_103_546 : decode (mB 103) 546 = .ok (.sipush 3114, 3) := by decide +kernel
theorem s_103_546 {d : Nat} {Q : wQ} {L : List (Option Value)} {st : List Value} {w : aw} {cn sn : Nat}  : wp d 103 Q 546 L st w cn sn = wp d 103 Q 549 L (.int 3114 :: st) w cn sn := w_sipush d_103_546 (by decide)
theorem d_103_549 : decode (mB 103) 549 = .ok (.invokevirtual 92, 3) := by decide +kernel
theorem s_103_549 {d : Nat} {Q : wQ} {L : List (Option Value)} {st : List Value} {w : aw} {cn sn : Nat} {v0 v1 v2 v3 : Value} {b : Nat} : wp d 103 Q 549 L (v3 :: v2 :: v1 :: v0 :: .ref b :: st) w cn sn = (kd w b = 9 ∧ catS st ≤ 8 ∧ wpD d 104 [.ref b, v0, v1, v2, v3] w (fun v w' => wp d 103 Q 552 L (v.toList ++ st) w' cn sn)) := w_virtual (As := [v0, v1, v2, v3]) d_103_549 (by decide +kernel : cT (mO 103) 92 = some (0, 104)) rfl (by decide +kernel) rfl (by decide +kernel) rfl
theorem d_103_552 : decode (mB 103) 552 = .ok (.aload_n 0, 1) := by decide +kernel
theorem s_103_552 {d : Nat} {Q : wQ} {L : List (Option Value)} {st : List Value} {w : aw} {cn sn : Nat} {v : Nat} : wp d 103 Q 552 (some (.ref v) :: L) st w cn sn = wp d 103 Q 553 (some (.ref v) :: L) (.ref v :: st) w cn sn := w_aload_n d_103_552 rfl
theorem d_103_553 : decode (mB 103) 553 = .ok (.bipush 87, 2) := by decide +kernel
theorem s_103_553 {d : Nat} {Q : wQ} {L : List (Option Value)} {st : List Value} {w : aw} {cn sn : Nat}  : wp d 103 Q 553 L st w cn sn = wp d 103 Q 555 L (.int 87 :: st) w cn sn := w_bipush d_103_553 (by decide)
theorem d_103_555 : decode (mB 103) 555 = .ok (.bipush 82, 2) := by decide +kernel
theorem s_103_555 {d : Nat} {Q : wQ} {L : List (Option Value)} {st : List Value} {w : aw} {cn sn : Nat}  : wp d 103 Q 555 L st w cn sn = wp d 103 Q 557 L (.int 82 :: st) w cn sn := w_bipush d_103_555 (by decide)
theorem d_103_557 : decode (mB 103) 557 = .ok (.bipush 66, 2) := by decide +kernel
theorem s_103_557 {d : Nat} {Q : wQ} {L : List (Option Value)} {st : List Value} {w : aw} {cn sn : Nat}  : wp d 103 Q 557 L st w cn sn = wp d 103 Q 559 L (.int 66 :: st) w cn sn := w_bipush d_103_557 (by decide)
theorem d_103_559 : decode (mB 103) 559 = .ok (.sipush 3115, 3) := by decide +kernel
theorem s_103_559 {d : Nat} {Q : wQ} {L : List (Option Value)} {st : List Value} {w : aw} {cn sn : Nat}  : wp d 103 Q 559 L st w cn sn = wp d 103 Q 562 L (.int 3115 :: st) w cn sn := w_sipush d_103_559 (by decide)
theorem d_103_562 : decode (mB 103) 562 = .ok (.invokevirtual 92, 3) := by decide +kernel
theorem s_103_562 {d : Nat} {Q : wQ} {L : List (Option Value)} {st : List Value} {w : aw} {cn sn : Nat} {v0 v1 v2 v3 : Value} {b : Nat} : wp d 103 Q 562 L (v3 :: v2 :: v1 :: v0 :: .ref b :: st) w cn sn = (kd w b = 9 ∧ catS st ≤ 8 ∧ wpD d 104 [.ref b, v0, v1, v2, v3] w (fun v w' => wp d 103 Q 565 L (v.toList ++ st) w' cn sn)) := w_virtual (As := [v0, v1, v2, v3]) d_103_562 (by decide +kernel : cT (mO 103) 92 = some (0, 104)) rfl (by decide +kernel) rfl (by decide +kernel) rfl
theorem d_103_565 : decode (mB 103) 565 = .ok (.aload_n 0, 1) := by decide +kernel
theorem s_103_565 {d : Nat} {Q : wQ} {L : List (Option Value)} {st : List Value} {w : aw} {cn sn : Nat} {v : Nat} : wp d 103 Q 565 (some (.ref v) :: L) st w cn sn = wp d 103 Q 566 (some (.ref v) :: L) (.ref v :: st) w cn sn := w_aload_n d_103_565 rfl
theorem d_103_566 : decode (mB 103) 566 = .ok (.bipush 87, 2) := by decide +kernel
theorem s_103_566 {d : Nat} {Q : wQ} {L : List (Option Value)} {st : List Value} {w : aw} {cn sn : Nat}  : wp d 103 Q 566 L st w cn sn = wp d 103 Q 568 L (.int 87 :: st) w cn sn := w_bipush d_103_566 (by decide)
theorem d_103_568 : decode (mB 103) 568 = .ok (.bipush 72, 2) := by decide +kernel
theorem s_103_568 {d : Nat} {Q : wQ} {L : List (Option Value)} {st : List Value} {w : aw} {cn sn : Nat}  : wp d 103 Q 568 L st w cn sn = wp d 103 Q 570 L (.int 72 :: st) w cn sn := w_bipush d_103_568 (by decide)
theorem d_103_570 : decode (mB 103) 570 = .ok (.bipush 79, 2) := by decide +kernel
theorem s_103_570 {d : Nat} {Q : wQ} {L : List (Option Value)} {st : List Value} {w : aw} {cn sn : Nat}  : wp d 103 Q 570 L st w cn sn = wp d 103 Q 572 L (.int 79 :: st) w cn sn := w_bipush d_103_570 (by decide)
theorem d_103_572 : decode (mB 103) 572 = .ok (.sipush 3116, 3) := by decide +kernel
theorem s_103_572 {d : Nat} {Q : wQ} {L : List (Option Value)} {st : List Value} {w : aw} {cn sn : Nat}  : wp d 103 Q 572 L st w cn sn = wp d 103 Q 575 L (.int 3116 :: st) w cn sn := w_sipush d_103_572 (by decide)
theorem d_103_575 : decode (mB 103) 575 = .ok (.invokevirtual 92, 3) := by decide +kernel
theorem s_103_575 {d : Nat} {Q : wQ} {L : List (Option Value)} {st : List Value} {w : aw} {cn sn : Nat} {v0 v1 v2 v3 : Value} {b : Nat} : wp d 103 Q 575 L (v3 :: v2 :: v1 :: v0 :: .ref b :: st) w cn sn = (kd w b = 9 ∧ catS st ≤ 8 ∧ wpD d 104 [.ref b, v0, v1, v2, v3] w (fun v w' => wp d 103 Q 578 L (v.toList ++ st) w' cn sn)) := w_virtual (As := [v0, v1, v2, v3]) d_103_575 (by decide +kernel : cT (mO 103) 92 = some (0, 104)) rfl (by decide +kernel) rfl (by decide +kernel) rfl
theorem d_103_578 : decode (mB 103) 578 = .ok (.aload_n 0, 1) := by decide +kernel
theorem s_103_578 {d : Nat} {Q : wQ} {L : List (Option Value)} {st : List Value} {w : aw} {cn sn : Nat} {v : Nat} : wp d 103 Q 578 (some (.ref v) :: L) st w cn sn = wp d 103 Q 579 (some (.ref v) :: L) (.ref v :: st) w cn sn := w_aload_n d_103_578 rfl
theorem d_103_579 : decode (mB 103) 579 = .ok (.bipush 65, 2) := by decide +kernel
theorem s_103_579 {d : Nat} {Q : wQ} {L : List (Option Value)} {st : List Value} {w : aw} {cn sn : Nat}  : wp d 103 Q 579 L st w cn sn = wp d 103 Q 581 L (.int 65 :: st) w cn sn := w_bipush d_103_579 (by decide)
theorem d_103_581 : decode (mB 103) 581 = .ok (.bipush 78, 2) := by decide +kernel
theorem s_103_581 {d : Nat} {Q : wQ} {L : List (Option Value)} {st : List Value} {w : aw} {cn sn : Nat}  : wp d 103 Q 581 L st w cn sn = wp d 103 Q 583 L (.int 78 :: st) w cn sn := w_bipush d_103_581 (by decide)
theorem d_103_583 : decode (mB 103) 583 = .ok (.bipush 68, 2) := by decide +kernel
theorem s_103_583 {d : Nat} {Q : wQ} {L : List (Option Value)} {st : List Value} {w : aw} {cn sn : Nat}  : wp d 103 Q 583 L st w cn sn = wp d 103 Q 585 L (.int 68 :: st) w cn sn := w_bipush d_103_583 (by decide)
theorem d_103_585 : decode (mB 103) 585 = .ok (.iconst (-1), 1) := by decide +kernel
theorem s_103_585 {d : Nat} {Q : wQ} {L : List (Option Value)} {st : List Value} {w : aw} {cn sn : Nat}  : wp d 103 Q 585 L st w cn sn = wp d 103 Q 586 L (.int (-1) :: st) w cn sn := w_iconst d_103_585 (by decide)
theorem d_103_586 : decode (mB 103) 586 = .ok (.invokevirtual 92, 3) := by decide +kernel
theorem s_103_586 {d : Nat} {Q : wQ} {L : List (Option Value)} {st : List Value} {w : aw} {cn sn : Nat} {v0 v1 v2 v3 : Value} {b : Nat} : wp d 103 Q 586 L (v3 :: v2 :: v1 :: v0 :: .ref b :: st) w cn sn = (kd w b = 9 ∧ catS st ≤ 8 ∧ wpD d 104 [.ref b, v0, v1, v2, v3] w (fun v w' => wp d 103 Q 589 L (v.toList ++ st) w' cn sn)) := w_virtual (As := [v0, v1, v2, v3]) d_103_586 (by decide +kernel : cT (mO 103) 92 = some (0, 104)) rfl (by decide +kernel) rfl (by decide +kernel) rfl
theorem d_103_589 : decode (mB 103) 589 = .ok (.aload_n 0, 1) := by decide +kernel
theorem s_103_589 {d : Nat} {Q : wQ} {L : List (Option Value)} {st : List Value} {w : aw} {cn sn : Nat} {v : Nat} : wp d 103 Q 589 (some (.ref v) :: L) st w cn sn = wp d 103 Q 590 (some (.ref v) :: L) (.ref v :: st) w cn sn := w_aload_n d_103_589 rfl
theorem d_103_590 : decode (mB 103) 590 = .ok (.bipush 84, 2) := by decide +kernel
theorem s_103_590 {d : Nat} {Q : wQ} {L : List (Option Value)} {st : List Value} {w : aw} {cn sn : Nat}  : wp d 103 Q 590 L st w cn sn = wp d 103 Q 592 L (.int 84 :: st) w cn sn := w_bipush d_103_590 (by decide)
theorem d_103_592 : decode (mB 103) 592 = .ok (.bipush 65, 2) := by decide +kernel
theorem s_103_592 {d : Nat} {Q : wQ} {L : List (Option Value)} {st : List Value} {w : aw} {cn sn : Nat}  : wp d 103 Q 592 L st w cn sn = wp d 103 Q 594 L (.int 65 :: st) w cn sn := w_bipush d_103_592 (by decide)
theorem d_103_594 : decode (mB 103) 594 = .ok (.bipush 68, 2) := by decide +kernel
theorem s_103_594 {d : Nat} {Q : wQ} {L : List (Option Value)} {st : List Value} {w : aw} {cn sn : Nat}  : wp d 103 Q 594 L st w cn sn = wp d 103 Q 596 L (.int 68 :: st) w cn sn := w_bipush d_103_594 (by decide)
theorem d_103_596 : decode (mB 103) 596 = .ok (.iconst (-1), 1) := by decide +kernel
theorem s_103_596 {d : Nat} {Q : wQ} {L : List (Option Value)} {st : List Value} {w : aw} {cn sn : Nat}  : wp d 103 Q 596 L st w cn sn = wp d 103 Q 597 L (.int (-1) :: st) w cn sn := w_iconst d_103_596 (by decide)
theorem d_103_597 : decode (mB 103) 597 = .ok (.invokevirtual 92, 3) := by decide +kernel
theorem s_103_597 {d : Nat} {Q : wQ} {L : List (Option Value)} {st : List Value} {w : aw} {cn sn : Nat} {v0 v1 v2 v3 : Value} {b : Nat} : wp d 103 Q 597 L (v3 :: v2 :: v1 :: v0 :: .ref b :: st) w cn sn = (kd w b = 9 ∧ catS st ≤ 8 ∧ wpD d 104 [.ref b, v0, v1, v2, v3] w (fun v w' => wp d 103 Q 600 L (v.toList ++ st) w' cn sn)) := w_virtual (As := [v0, v1, v2, v3]) d_103_597 (by decide +kernel : cT (mO 103) 92 = some (0, 104)) rfl (by decide +kernel) rfl (by decide +kernel) rfl
theorem d_103_600 : decode (mB 103) 600 = .ok (.aload_n 0, 1) := by decide +kernel
theorem s_103_600 {d : Nat} {Q : wQ} {L : List (Option Value)} {st : List Value} {w : aw} {cn sn : Nat} {v : Nat} : wp d 103 Q 600 (some (.ref v) :: L) st w cn sn = wp d 103 Q 601 (some (.ref v) :: L) (.ref v :: st) w cn sn := w_aload_n d_103_600 rfl
theorem d_103_601 : decode (mB 103) 601 = .ok (.bipush 73, 2) := by decide +kernel
theorem s_103_601 {d : Nat} {Q : wQ} {L : List (Option Value)} {st : List Value} {w : aw} {cn sn : Nat}  : wp d 103 Q 601 L st w cn sn = wp d 103 Q 603 L (.int 73 :: st) w cn sn := w_bipush d_103_601 (by decide)
theorem d_103_603 : decode (mB 103) 603 = .ok (.bipush 83, 2) := by decide +kernel
theorem s_103_603 {d : Nat} {Q : wQ} {L : List (Option Value)} {st : List Value} {w : aw} {cn sn : Nat}  : wp d 103 Q 603 L st w cn sn = wp d 103 Q 605 L (.int 83 :: st) w cn sn := w_bipush d_103_603 (by decide)
theorem d_103_605 : decode (mB 103) 605 = .ok (.bipush 90, 2) := by decide +kernel
theorem s_103_605 {d : Nat} {Q : wQ} {L : List (Option Value)} {st : List Value} {w : aw} {cn sn : Nat}  : wp d 103 Q 605 L st w cn sn = wp d 103 Q 607 L (.int 90 :: st) w cn sn := w_bipush d_103_605 (by decide)
theorem d_103_607 : decode (mB 103) 607 = .ok (.iconst (-1), 1) := by decide +kernel
theorem s_103_607 {d : Nat} {Q : wQ} {L : List (Option Value)} {st : List Value} {w : aw} {cn sn : Nat}  : wp d 103 Q 607 L st w cn sn = wp d 103 Q 608 L (.int (-1) :: st) w cn sn := w_iconst d_103_607 (by decide)
theorem d_103_608 : decode (mB 103) 608 = .ok (.invokevirtual 92, 3) := by decide +kernel
theorem s_103_608 {d : Nat} {Q : wQ} {L : List (Option Value)} {st : List Value} {w : aw} {cn sn : Nat} {v0 v1 v2 v3 : Value} {b : Nat} : wp d 103 Q 608 L (v3 :: v2 :: v1 :: v0 :: .ref b :: st) w cn sn = (kd w b = 9 ∧ catS st ≤ 8 ∧ wpD d 104 [.ref b, v0, v1, v2, v3] w (fun v w' => wp d 103 Q 611 L (v.toList ++ st) w' cn sn)) := w_virtual (As := [v0, v1, v2, v3]) d_103_608 (by decide +kernel : cT (mO 103) 92 = some (0, 104)) rfl (by decide +kernel) rfl (by decide +kernel) rfl
theorem d_103_611 : decode (mB 103) 611 = .ok (.aload_n 0, 1) := by decide +kernel
theorem s_103_611 {d : Nat} {Q : wQ} {L : List (Option Value)} {st : List Value} {w : aw} {cn sn : Nat} {v : Nat} : wp d 103 Q 611 (some (.ref v) :: L) st w cn sn = wp d 103 Q 612 (some (.ref v) :: L) (.ref v :: st) w cn sn := w_aload_n d_103_611 rfl
theorem d_103_612 : decode (mB 103) 612 = .ok (.bipush 68, 2) := by decide +kernel
theorem s_103_612 {d : Nat} {Q : wQ} {L : List (Option Value)} {st : List Value} {w : aw} {cn sn : Nat}  : wp d 103 Q 612 L st w cn sn = wp d 103 Q 614 L (.int 68 :: st) w cn sn := w_bipush d_103_612 (by decide)
theorem d_103_614 : decode (mB 103) 614 = .ok (.bipush 67, 2) := by decide +kernel
theorem s_103_614 {d : Nat} {Q : wQ} {L : List (Option Value)} {st : List Value} {w : aw} {cn sn : Nat}  : wp d 103 Q 614 L st w cn sn = wp d 103 Q 616 L (.int 67 :: st) w cn sn := w_bipush d_103_614 (by decide)
theorem d_103_616 : decode (mB 103) 616 = .ok (.bipush 65, 2) := by decide +kernel
theorem s_103_616 {d : Nat} {Q : wQ} {L : List (Option Value)} {st : List Value} {w : aw} {cn sn : Nat}  : wp d 103 Q 616 L st w cn sn = wp d 103 Q 618 L (.int 65 :: st) w cn sn := w_bipush d_103_616 (by decide)
theorem d_103_618 : decode (mB 103) 618 = .ok (.iconst (-1), 1) := by decide +kernel
theorem s_103_618 {d : Nat} {Q : wQ} {L : List (Option Value)} {st : List Value} {w : aw} {cn sn : Nat}  : wp d 103 Q 618 L st w cn sn = wp d 103 Q 619 L (.int (-1) :: st) w cn sn := w_iconst d_103_618 (by decide)
theorem d_103_619 : decode (mB 103) 619 = .ok (.invokevirtual 92, 3) := by decide +kernel
theorem s_103_619 {d : Nat} {Q : wQ} {L : List (Option Value)} {st : List Value} {w : aw} {cn sn : Nat} {v0 v1 v2 v3 : Value} {b : Nat} : wp d 103 Q 619 L (v3 :: v2 :: v1 :: v0 :: .ref b :: st) w cn sn = (kd w b = 9 ∧ catS st ≤ 8 ∧ wpD d 104 [.ref b, v0, v1, v2, v3] w (fun v w' => wp d 103 Q 622 L (v.toList ++ st) w' cn sn)) := w_virtual (As := [v0, v1, v2, v3]) d_103_619 (by decide +kernel : cT (mO 103) 92 = some (0, 104)) rfl (by decide +kernel) rfl (by decide +kernel) rfl
theorem d_103_622 : decode (mB 103) 622 = .ok (.aload_n 0, 1) := by decide +kernel
theorem s_103_622 {d : Nat} {Q : wQ} {L : List (Option Value)} {st : List Value} {w : aw} {cn sn : Nat} {v : Nat} : wp d 103 Q 622 (some (.ref v) :: L) st w cn sn = wp d 103 Q 623 (some (.ref v) :: L) (.ref v :: st) w cn sn := w_aload_n d_103_622 rfl
theorem d_103_623 : decode (mB 103) 623 = .ok (.bipush 74, 2) := by decide +kernel
theorem s_103_623 {d : Nat} {Q : wQ} {L : List (Option Value)} {st : List Value} {w : aw} {cn sn : Nat}  : wp d 103 Q 623 L st w cn sn = wp d 103 Q 625 L (.int 74 :: st) w cn sn := w_bipush d_103_623 (by decide)
theorem d_103_625 : decode (mB 103) 625 = .ok (.bipush 77, 2) := by decide +kernel
theorem s_103_625 {d : Nat} {Q : wQ} {L : List (Option Value)} {st : List Value} {w : aw} {cn sn : Nat}  : wp d 103 Q 625 L st w cn sn = wp d 103 Q 627 L (.int 77 :: st) w cn sn := w_bipush d_103_625 (by decide)
theorem d_103_627 : decode (mB 103) 627 = .ok (.bipush 83, 2) := by decide +kernel
theorem s_103_627 {d : Nat} {Q : wQ} {L : List (Option Value)} {st : List Value} {w : aw} {cn sn : Nat}  : wp d 103 Q 627 L st w cn sn = wp d 103 Q 629 L (.int 83 :: st) w cn sn := w_bipush d_103_627 (by decide)
theorem d_103_629 : decode (mB 103) 629 = .ok (.iconst (-1), 1) := by decide +kernel
theorem s_103_629 {d : Nat} {Q : wQ} {L : List (Option Value)} {st : List Value} {w : aw} {cn sn : Nat}  : wp d 103 Q 629 L st w cn sn = wp d 103 Q 630 L (.int (-1) :: st) w cn sn := w_iconst d_103_629 (by decide)
theorem d_103_630 : decode (mB 103) 630 = .ok (.invokevirtual 92, 3) := by decide +kernel
theorem s_103_630 {d : Nat} {Q : wQ} {L : List (Option Value)} {st : List Value} {w : aw} {cn sn : Nat} {v0 v1 v2 v3 : Value} {b : Nat} : wp d 103 Q 630 L (v3 :: v2 :: v1 :: v0 :: .ref b :: st) w cn sn = (kd w b = 9 ∧ catS st ≤ 8 ∧ wpD d 104 [.ref b, v0, v1, v2, v3] w (fun v w' => wp d 103 Q 633 L (v.toList ++ st) w' cn sn)) := w_virtual (As := [v0, v1, v2, v3]) d_103_630 (by decide +kernel : cT (mO 103) 92 = some (0, 104)) rfl (by decide +kernel) rfl (by decide +kernel) rfl
theorem d_103_633 : decode (mB 103) 633 = .ok (.aload_n 0, 1) := by decide +kernel
theorem s_103_633 {d : Nat} {Q : wQ} {L : List (Option Value)} {st : List Value} {w : aw} {cn sn : Nat} {v : Nat} : wp d 103 Q 633 (some (.ref v) :: L) st w cn sn = wp d 103 Q 634 (some (.ref v) :: L) (.ref v :: st) w cn sn := w_aload_n d_103_633 rfl
theorem d_103_634 : decode (mB 103) 634 = .ok (.bipush 74, 2) := by decide +kernel
theorem s_103_634 {d : Nat} {Q : wQ} {L : List (Option Value)} {st : List Value} {w : aw} {cn sn : Nat}  : wp d 103 Q 634 L st w cn sn = wp d 103 Q 636 L (.int 74 :: st) w cn sn := w_bipush d_103_634 (by decide)
theorem d_103_636 : decode (mB 103) 636 = .ok (.bipush 77, 2) := by decide +kernel
theorem s_103_636 {d : Nat} {Q : wQ} {L : List (Option Value)} {st : List Value} {w : aw} {cn sn : Nat}  : wp d 103 Q 636 L st w cn sn = wp d 103 Q 638 L (.int 77 :: st) w cn sn := w_bipush d_103_636 (by decide)
theorem d_103_638 : decode (mB 103) 638 = .ok (.bipush 80, 2) := by decide +kernel
theorem s_103_638 {d : Nat} {Q : wQ} {L : List (Option Value)} {st : List Value} {w : aw} {cn sn : Nat}  : wp d 103 Q 638 L st w cn sn = wp d 103 Q 640 L (.int 80 :: st) w cn sn := w_bipush d_103_638 (by decide)
theorem d_103_640 : decode (mB 103) 640 = .ok (.iconst (-1), 1) := by decide +kernel
theorem s_103_640 {d : Nat} {Q : wQ} {L : List (Option Value)} {st : List Value} {w : aw} {cn sn : Nat}  : wp d 103 Q 640 L st w cn sn = wp d 103 Q 641 L (.int (-1) :: st) w cn sn := w_iconst d_103_640 (by decide)
theorem d_103_641 : decode (mB 103) 641 = .ok (.invokevirtual 92, 3) := by decide +kernel
theorem s_103_641 {d : Nat} {Q : wQ} {L : List (Option Value)} {st : List Value} {w : aw} {cn sn : Nat} {v0 v1 v2 v3 : Value} {b : Nat} : wp d 103 Q 641 L (v3 :: v2 :: v1 :: v0 :: .ref b :: st) w cn sn = (kd w b = 9 ∧ catS st ≤ 8 ∧ wpD d 104 [.ref b, v0, v1, v2, v3] w (fun v w' => wp d 103 Q 644 L (v.toList ++ st) w' cn sn)) := w_virtual (As := [v0, v1, v2, v3]) d_103_641 (by decide +kernel : cT (mO 103) 92 = some (0, 104)) rfl (by decide +kernel) rfl (by decide +kernel) rfl
theorem d_103_644 : decode (mB 103) 644 = .ok (.aload_n 0, 1) := by decide +kernel
theorem s_103_644 {d : Nat} {Q : wQ} {L : List (Option Value)} {st : List Value} {w : aw} {cn sn : Nat} {v : Nat} : wp d 103 Q 644 (some (.ref v) :: L) st w cn sn = wp d 103 Q 645 (some (.ref v) :: L) (.ref v :: st) w cn sn := w_aload_n d_103_644 rfl
theorem d_103_645 : decode (mB 103) 645 = .ok (.getfield 75, 3) := by decide +kernel
theorem s_103_645 {d : Nat} {Q : wQ} {L : List (Option Value)} {st : List Value} {w : aw} {cn sn : Nat} {a : Nat} : wp d 103 Q 645 L (.ref a :: st) w cn sn = (kd w a = 9 ∧ wp d 103 Q 648 L (fd w 546 a :: st) w cn sn) := w_getfield d_103_645 (by decide +kernel : fT (mO 103) 75 = some (8, 34))
theorem d_103_648 : decode (mB 103) 648 = .ok (.aload_n 0, 1) := by decide +kernel
theorem s_103_648 {d : Nat} {Q : wQ} {L : List (Option Value)} {st : List Value} {w : aw} {cn sn : Nat} {v : Nat} : wp d 103 Q 648 (some (.ref v) :: L) st w cn sn = wp d 103 Q 649 (some (.ref v) :: L) (.ref v :: st) w cn sn := w_aload_n d_103_648 rfl
theorem d_103_649 : decode (mB 103) 649 = .ok (.getfield 96, 3) := by decide +kernel
theorem s_103_649 {d : Nat} {Q : wQ} {L : List (Option Value)} {st : List Value} {w : aw} {cn sn : Nat} {a : Nat} : wp d 103 Q 649 L (.ref a :: st) w cn sn = (kd w a = 9 ∧ wp d 103 Q 652 L (fd w 548 a :: st) w cn sn) := w_getfield d_103_649 (by decide +kernel : fT (mO 103) 96 = some (8, 36))
theorem d_103_652 : decode (mB 103) 652 = .ok (.bipush 73, 2) := by decide +kernel
theorem s_103_652 {d : Nat} {Q : wQ} {L : List (Option Value)} {st : List Value} {w : aw} {cn sn : Nat}  : wp d 103 Q 652 L st w cn sn = wp d 103 Q 654 L (.int 73 :: st) w cn sn := w_bipush d_103_652 (by decide)
theorem d_103_654 : decode (mB 103) 654 = .ok (.invokestatic 99, 3) := by decide +kernel
theorem s_103_654 {d : Nat} {Q : wQ} {L : List (Option Value)} {st : List Value} {w : aw} {cn sn : Nat} {v0 : Value} : wp d 103 Q 654 L (v0 :: st) w cn sn = (catS st ≤ 8 ∧ wpD d 146 [v0] w (fun v w' => wp d 103 Q 657 L (v.toList ++ st) w' cn sn)) := w_static (As := [v0]) d_103_654 (by decide +kernel : cT (mO 103) 99 = some (2, 146)) (by decide +kernel) rfl (by decide +kernel) rfl
theorem d_103_657 : decode (mB 103) 657 = .ok (.i2l, 1) := by decide +kernel
theorem s_103_657 {d : Nat} {Q : wQ} {L : List (Option Value)} {st : List Value} {w : aw} {cn sn : Nat} {a : Int32} : wp d 103 Q 657 L (.int a :: st) w cn sn = wp d 103 Q 658 L (.long a.toInt64 :: st) w cn sn := wp_row d_103_657 _ _ _ _ _
theorem d_103_658 : decode (mB 103) 658 = .ok (.lastore, 1) := by decide +kernel
theorem s_103_658 {d : Nat} {Q : wQ} {L : List (Option Value)} {st : List Value} {w : aw} {cn sn : Nat} {a : Nat} {i : Int32} {x : Int64} : wp d 103 Q 658 L (.long x :: .int i :: .ref a :: st) w cn sn = (kd w a = 22 ∧ inR i (ln w a) ∧ wp d 103 Q 659 L st (uL w a i.toNatClampNeg x) cn sn) := wp_row d_103_658 _ _ _ _ _
theorem d_103_659 : decode (mB 103) 659 = .ok (.aload_n 0, 1) := by decide +kernel
theorem s_103_659 {d : Nat} {Q : wQ} {L : List (Option Value)} {st : List Value} {w : aw} {cn sn : Nat} {v : Nat} : wp d 103 Q 659 (some (.ref v) :: L) st w cn sn = wp d 103 Q 660 (some (.ref v) :: L) (.ref v :: st) w cn sn := w_aload_n d_103_659 rfl
theorem d_103_660 : decode (mB 103) 660 = .ok (.getfield 79, 3) := by decide +kernel
theorem s_103_660 {d : Nat} {Q : wQ} {L : List (Option Value)} {st : List Value} {w : aw} {cn sn : Nat} {a : Nat} : wp d 103 Q 660 L (.ref a :: st) w cn sn = (kd w a = 9 ∧ wp d 103 Q 663 L (fd w 547 a :: st) w cn sn) := w_getfield d_103_660 (by decide +kernel : fT (mO 103) 79 = some (8, 35))
theorem d_103_663 : decode (mB 103) 663 = .ok (.aload_n 0, 1) := by decide +kernel
theorem s_103_663 {d : Nat} {Q : wQ} {L : List (Option Value)} {st : List Value} {w : aw} {cn sn : Nat} {v : Nat} : wp d 103 Q 663 (some (.ref v) :: L) st w cn sn = wp d 103 Q 664 (some (.ref v) :: L) (.ref v :: st) w cn sn := w_aload_n d_103_663 rfl
theorem d_103_664 : decode (mB 103) 664 = .ok (.getfield 96, 3) := by decide +kernel
theorem s_103_664 {d : Nat} {Q : wQ} {L : List (Option Value)} {st : List Value} {w : aw} {cn sn : Nat} {a : Nat} : wp d 103 Q 664 L (.ref a :: st) w cn sn = (kd w a = 9 ∧ wp d 103 Q 667 L (fd w 548 a :: st) w cn sn) := w_getfield d_103_664 (by decide +kernel : fT (mO 103) 96 = some (8, 36))
theorem d_103_667 : decode (mB 103) 667 = .ok (.iconst (-1), 1) := by decide +kernel
theorem s_103_667 {d : Nat} {Q : wQ} {L : List (Option Value)} {st : List Value} {w : aw} {cn sn : Nat}  : wp d 103 Q 667 L st w cn sn = wp d 103 Q 668 L (.int (-1) :: st) w cn sn := w_iconst d_103_667 (by decide)
theorem d_103_668 : decode (mB 103) 668 = .ok (.iastore, 1) := by decide +kernel
theorem s_103_668 {d : Nat} {Q : wQ} {L : List (Option Value)} {st : List Value} {w : aw} {cn sn : Nat} {a : Nat} {i x : Int32} : wp d 103 Q 668 L (.int x :: .int i :: .ref a :: st) w cn sn = (kd w a = 20 ∧ inR i (ln w a) ∧ wp d 103 Q 669 L st (uA w a i.toNatClampNeg x) cn sn) := wp_row d_103_668 _ _ _ _ _
theorem d_103_669 : decode (mB 103) 669 = .ok (.aload_n 0, 1) := by decide +kernel
theorem s_103_669 {d : Nat} {Q : wQ} {L : List (Option Value)} {st : List Value} {w : aw} {cn sn : Nat} {v : Nat} : wp d 103 Q 669 (some (.ref v) :: L) st w cn sn = wp d 103 Q 670 (some (.ref v) :: L) (.ref v :: st) w cn sn := w_aload_n d_103_669 rfl
theorem d_103_670 : decode (mB 103) 670 = .ok (.dup, 1) := by decide +kernel
theorem s_103_670 {d : Nat} {Q : wQ} {L : List (Option Value)} {st : List Value} {w : aw} {cn sn : Nat} {v : Value} : wp d 103 Q 670 L (v :: st) w cn sn = (v.category = 1 ∧ wp d 103 Q 671 L (v :: v :: st) w cn sn) := wp_row d_103_670 _ _ _ _ _
theorem d_103_671 : decode (mB 103) 671 = .ok (.getfield 96, 3) := by decide +kernel
theorem s_103_671 {d : Nat} {Q : wQ} {L : List (Option Value)} {st : List Value} {w : aw} {cn sn : Nat} {a : Nat} : wp d 103 Q 671 L (.ref a :: st) w cn sn = (kd w a = 9 ∧ wp d 103 Q 674 L (fd w 548 a :: st) w cn sn) := w_getfield d_103_671 (by decide +kernel : fT (mO 103) 96 = some (8, 36))
theorem d_103_674 : decode (mB 103) 674 = .ok (.iconst 1, 1) := by decide +kernel
theorem s_103_674 {d : Nat} {Q : wQ} {L : List (Option Value)} {st : List Value} {w : aw} {cn sn : Nat}  : wp d 103 Q 674 L st w cn sn = wp d 103 Q 675 L (.int 1 :: st) w cn sn := w_iconst d_103_674 (by decide)
theorem d_103_675 : decode (mB 103) 675 = .ok (.iadd, 1) := by decide +kernel
theorem s_103_675 {d : Nat} {Q : wQ} {L : List (Option Value)} {st : List Value} {w : aw} {cn sn : Nat} {a b : Int32} : wp d 103 Q 675 L (.int b :: .int a :: st) w cn sn = wp d 103 Q 676 L (.int (a + b) :: st) w cn sn := wp_row d_103_675 _ _ _ _ _
theorem d_103_676 : decode (mB 103) 676 = .ok (.putfield 96, 3) := by decide +kernel
theorem s_103_676 {d : Nat} {Q : wQ} {L : List (Option Value)} {st : List Value} {w : aw} {cn sn : Nat} {x : Int32} {a : Nat} : wp d 103 Q 676 L (.int x :: .ref a :: st) w cn sn = (kd w a = 9 ∧ wp d 103 Q 679 L st (uF w 548 a (.int x)) cn sn) := w_putfield d_103_676 (by decide +kernel : fT (mO 103) 96 = some (8, 36)) (by decide +kernel) ok_int
theorem d_103_679 : decode (mB 103) 679 = .ok (.aload_n 0, 1) := by decide +kernel
theorem s_103_679 {d : Nat} {Q : wQ} {L : List (Option Value)} {st : List Value} {w : aw} {cn sn : Nat} {v : Nat} : wp d 103 Q 679 (some (.ref v) :: L) st w cn sn = wp d 103 Q 680 (some (.ref v) :: L) (.ref v :: st) w cn sn := w_aload_n d_103_679 rfl
theorem d_103_680 : decode (mB 103) 680 = .ok (.aload_n 0, 1) := by decide +kernel
theorem s_103_680 {d : Nat} {Q : wQ} {L : List (Option Value)} {st : List Value} {w : aw} {cn sn : Nat} {v : Nat} : wp d 103 Q 680 (some (.ref v) :: L) st w cn sn = wp d 103 Q 681 (some (.ref v) :: L) (.ref v :: st) w cn sn := w_aload_n d_103_680 rfl
theorem d_103_681 : decode (mB 103) 681 = .ok (.getfield 96, 3) := by decide +kernel
theorem s_103_681 {d : Nat} {Q : wQ} {L : List (Option Value)} {st : List Value} {w : aw} {cn sn : Nat} {a : Nat} : wp d 103 Q 681 L (.ref a :: st) w cn sn = (kd w a = 9 ∧ wp d 103 Q 684 L (fd w 548 a :: st) w cn sn) := w_getfield d_103_681 (by decide +kernel : fT (mO 103) 96 = some (8, 36))
theorem d_103_684 : decode (mB 103) 684 = .ok (.putfield 103, 3) := by decide +kernel
theorem s_103_684 {d : Nat} {Q : wQ} {L : List (Option Value)} {st : List Value} {w : aw} {cn sn : Nat} {x : Int32} {a : Nat} : wp d 103 Q 684 L (.int x :: .ref a :: st) w cn sn = (kd w a = 9 ∧ wp d 103 Q 687 L st (uF w 549 a (.int x)) cn sn) := w_putfield d_103_684 (by decide +kernel : fT (mO 103) 103 = some (8, 37)) (by decide +kernel) ok_int
theorem d_103_687 : decode (mB 103) 687 = .ok (.return_, 1) := by decide +kernel
theorem s_103_687 {d : Nat} {Q : wQ} {L : List (Option Value)} {w : aw} {cn sn : Nat}  : wp d 103 Q 687 L [] w cn sn = Q none w := w_return d_103_687 rfl
theorem d_104_0 : decode (mB 104) 0 = .ok (.aload_n 0, 1) := by decide +kernel
theorem s_104_0 {d : Nat} {Q : wQ} {L : List (Option Value)} {st : List Value} {w : aw} {cn sn : Nat} {v : Nat} : wp d 104 Q 0 (some (.ref v) :: L) st w cn sn = wp d 104 Q 1 (some (.ref v) :: L) (.ref v :: st) w cn sn := w_aload_n d_104_0 rfl
theorem d_104_1 : decode (mB 104) 1 = .ok (.getfield 75, 3) := by decide +kernel
theorem s_104_1 {d : Nat} {Q : wQ} {L : List (Option Value)} {st : List Value} {w : aw} {cn sn : Nat} {a : Nat} : wp d 104 Q 1 L (.ref a :: st) w cn sn = (kd w a = 9 ∧ wp d 104 Q 4 L (fd w 546 a :: st) w cn sn) := w_getfield d_104_1 (by decide +kernel : fT (mO 104) 75 = some (8, 34))
theorem d_104_4 : decode (mB 104) 4 = .ok (.aload_n 0, 1) := by decide +kernel
theorem s_104_4 {d : Nat} {Q : wQ} {L : List (Option Value)} {st : List Value} {w : aw} {cn sn : Nat} {v : Nat} : wp d 104 Q 4 (some (.ref v) :: L) st w cn sn = wp d 104 Q 5 (some (.ref v) :: L) (.ref v :: st) w cn sn := w_aload_n d_104_4 rfl
theorem d_104_5 : decode (mB 104) 5 = .ok (.getfield 96, 3) := by decide +kernel
theorem s_104_5 {d : Nat} {Q : wQ} {L : List (Option Value)} {st : List Value} {w : aw} {cn sn : Nat} {a : Nat} : wp d 104 Q 5 L (.ref a :: st) w cn sn = (kd w a = 9 ∧ wp d 104 Q 8 L (fd w 548 a :: st) w cn sn) := w_getfield d_104_5 (by decide +kernel : fT (mO 104) 96 = some (8, 36))
theorem d_104_8 : decode (mB 104) 8 = .ok (.iload_n 1, 1) := by decide +kernel
theorem s_104_8 {d : Nat} {Q : wQ} {L : List (Option Value)} {st : List Value} {w : aw} {cn sn : Nat} {a0 : Option Value} {v : Int32} : wp d 104 Q 8 (a0 :: some (.int v) :: L) st w cn sn = wp d 104 Q 9 (a0 :: some (.int v) :: L) (.int v :: st) w cn sn := w_iload_n d_104_8 rfl
theorem d_104_9 : decode (mB 104) 9 = .ok (.invokestatic 99, 3) := by decide +kernel
theorem s_104_9 {d : Nat} {Q : wQ} {L : List (Option Value)} {st : List Value} {w : aw} {cn sn : Nat} {v0 : Value} : wp d 104 Q 9 L (v0 :: st) w cn sn = (catS st ≤ 8 ∧ wpD d 146 [v0] w (fun v w' => wp d 104 Q 12 L (v.toList ++ st) w' cn sn)) := w_static (As := [v0]) d_104_9 (by decide +kernel : cT (mO 104) 99 = some (2, 146)) (by decide +kernel) rfl (by decide +kernel) rfl
theorem d_104_12 : decode (mB 104) 12 = .ok (.i2l, 1) := by decide +kernel
theorem s_104_12 {d : Nat} {Q : wQ} {L : List (Option Value)} {st : List Value} {w : aw} {cn sn : Nat} {a : Int32} : wp d 104 Q 12 L (.int a :: st) w cn sn = wp d 104 Q 13 L (.long a.toInt64 :: st) w cn sn := wp_row d_104_12 _ _ _ _ _
theorem d_104_13 : decode (mB 104) 13 = .ok (.ldc2_w 106, 3) := by decide +kernel
theorem s_104_13 {d : Nat} {Q : wQ} {L : List (Option Value)} {st : List Value} {w : aw} {cn sn : Nat}  : wp d 104 Q 13 L st w cn sn = wp d 104 Q 16 L (.long 37 :: st) w cn sn := w_ldc2 d_104_13 (by decide +kernel : kT (mO 104) 106 = some (.long 37))
theorem d_104_16 : decode (mB 104) 16 = .ok (.lmul, 1) := by decide +kernel
theorem s_104_16 {d : Nat} {Q : wQ} {L : List (Option Value)} {st : List Value} {w : aw} {cn sn : Nat} {a b : Int64} : wp d 104 Q 16 L (.long b :: .long a :: st) w cn sn = wp d 104 Q 17 L (.long (a * b) :: st) w cn sn := wp_row d_104_16 _ _ _ _ _
theorem d_104_17 : decode (mB 104) 17 = .ok (.iload_n 2, 1) := by decide +kernel
theorem s_104_17 {d : Nat} {Q : wQ} {L : List (Option Value)} {st : List Value} {w : aw} {cn sn : Nat} {a0 a1 : Option Value} {v : Int32} : wp d 104 Q 17 (a0 :: a1 :: some (.int v) :: L) st w cn sn = wp d 104 Q 18 (a0 :: a1 :: some (.int v) :: L) (.int v :: st) w cn sn := w_iload_n d_104_17 rfl
theorem d_104_18 : decode (mB 104) 18 = .ok (.invokestatic 99, 3) := by decide +kernel
theorem s_104_18 {d : Nat} {Q : wQ} {L : List (Option Value)} {st : List Value} {w : aw} {cn sn : Nat} {v0 : Value} : wp d 104 Q 18 L (v0 :: st) w cn sn = (catS st ≤ 8 ∧ wpD d 146 [v0] w (fun v w' => wp d 104 Q 21 L (v.toList ++ st) w' cn sn)) := w_static (As := [v0]) d_104_18 (by decide +kernel : cT (mO 104) 99 = some (2, 146)) (by decide +kernel) rfl (by decide +kernel) rfl
theorem d_104_21 : decode (mB 104) 21 = .ok (.i2l, 1) := by decide +kernel
theorem s_104_21 {d : Nat} {Q : wQ} {L : List (Option Value)} {st : List Value} {w : aw} {cn sn : Nat} {a : Int32} : wp d 104 Q 21 L (.int a :: st) w cn sn = wp d 104 Q 22 L (.long a.toInt64 :: st) w cn sn := wp_row d_104_21 _ _ _ _ _
theorem d_104_22 : decode (mB 104) 22 = .ok (.ladd, 1) := by decide +kernel
theorem s_104_22 {d : Nat} {Q : wQ} {L : List (Option Value)} {st : List Value} {w : aw} {cn sn : Nat} {a b : Int64} : wp d 104 Q 22 L (.long b :: .long a :: st) w cn sn = wp d 104 Q 23 L (.long (a + b) :: st) w cn sn := wp_row d_104_22 _ _ _ _ _
theorem d_104_23 : decode (mB 104) 23 = .ok (.ldc2_w 106, 3) := by decide +kernel
theorem s_104_23 {d : Nat} {Q : wQ} {L : List (Option Value)} {st : List Value} {w : aw} {cn sn : Nat}  : wp d 104 Q 23 L st w cn sn = wp d 104 Q 26 L (.long 37 :: st) w cn sn := w_ldc2 d_104_23 (by decide +kernel : kT (mO 104) 106 = some (.long 37))
theorem d_104_26 : decode (mB 104) 26 = .ok (.lmul, 1) := by decide +kernel
theorem s_104_26 {d : Nat} {Q : wQ} {L : List (Option Value)} {st : List Value} {w : aw} {cn sn : Nat} {a b : Int64} : wp d 104 Q 26 L (.long b :: .long a :: st) w cn sn = wp d 104 Q 27 L (.long (a * b) :: st) w cn sn := wp_row d_104_26 _ _ _ _ _
theorem d_104_27 : decode (mB 104) 27 = .ok (.iload_n 3, 1) := by decide +kernel
theorem s_104_27 {d : Nat} {Q : wQ} {L : List (Option Value)} {st : List Value} {w : aw} {cn sn : Nat} {a0 a1 a2 : Option Value} {v : Int32} : wp d 104 Q 27 (a0 :: a1 :: a2 :: some (.int v) :: L) st w cn sn = wp d 104 Q 28 (a0 :: a1 :: a2 :: some (.int v) :: L) (.int v :: st) w cn sn := w_iload_n d_104_27 rfl
theorem d_104_28 : decode (mB 104) 28 = .ok (.invokestatic 99, 3) := by decide +kernel
theorem s_104_28 {d : Nat} {Q : wQ} {L : List (Option Value)} {st : List Value} {w : aw} {cn sn : Nat} {v0 : Value} : wp d 104 Q 28 L (v0 :: st) w cn sn = (catS st ≤ 8 ∧ wpD d 146 [v0] w (fun v w' => wp d 104 Q 31 L (v.toList ++ st) w' cn sn)) := w_static (As := [v0]) d_104_28 (by decide +kernel : cT (mO 104) 99 = some (2, 146)) (by decide +kernel) rfl (by decide +kernel) rfl
theorem d_104_31 : decode (mB 104) 31 = .ok (.i2l, 1) := by decide +kernel
theorem s_104_31 {d : Nat} {Q : wQ} {L : List (Option Value)} {st : List Value} {w : aw} {cn sn : Nat} {a : Int32} : wp d 104 Q 31 L (.int a :: st) w cn sn = wp d 104 Q 32 L (.long a.toInt64 :: st) w cn sn := wp_row d_104_31 _ _ _ _ _
theorem d_104_32 : decode (mB 104) 32 = .ok (.ladd, 1) := by decide +kernel
theorem s_104_32 {d : Nat} {Q : wQ} {L : List (Option Value)} {st : List Value} {w : aw} {cn sn : Nat} {a b : Int64} : wp d 104 Q 32 L (.long b :: .long a :: st) w cn sn = wp d 104 Q 33 L (.long (a + b) :: st) w cn sn := wp_row d_104_32 _ _ _ _ _
theorem d_104_33 : decode (mB 104) 33 = .ok (.lastore, 1) := by decide +kernel
theorem s_104_33 {d : Nat} {Q : wQ} {L : List (Option Value)} {st : List Value} {w : aw} {cn sn : Nat} {a : Nat} {i : Int32} {x : Int64} : wp d 104 Q 33 L (.long x :: .int i :: .ref a :: st) w cn sn = (kd w a = 22 ∧ inR i (ln w a) ∧ wp d 104 Q 34 L st (uL w a i.toNatClampNeg x) cn sn) := wp_row d_104_33 _ _ _ _ _
theorem d_104_34 : decode (mB 104) 34 = .ok (.aload_n 0, 1) := by decide +kernel
theorem s_104_34 {d : Nat} {Q : wQ} {L : List (Option Value)} {st : List Value} {w : aw} {cn sn : Nat} {v : Nat} : wp d 104 Q 34 (some (.ref v) :: L) st w cn sn = wp d 104 Q 35 (some (.ref v) :: L) (.ref v :: st) w cn sn := w_aload_n d_104_34 rfl
theorem d_104_35 : decode (mB 104) 35 = .ok (.getfield 79, 3) := by decide +kernel
theorem s_104_35 {d : Nat} {Q : wQ} {L : List (Option Value)} {st : List Value} {w : aw} {cn sn : Nat} {a : Nat} : wp d 104 Q 35 L (.ref a :: st) w cn sn = (kd w a = 9 ∧ wp d 104 Q 38 L (fd w 547 a :: st) w cn sn) := w_getfield d_104_35 (by decide +kernel : fT (mO 104) 79 = some (8, 35))
theorem d_104_38 : decode (mB 104) 38 = .ok (.aload_n 0, 1) := by decide +kernel
theorem s_104_38 {d : Nat} {Q : wQ} {L : List (Option Value)} {st : List Value} {w : aw} {cn sn : Nat} {v : Nat} : wp d 104 Q 38 (some (.ref v) :: L) st w cn sn = wp d 104 Q 39 (some (.ref v) :: L) (.ref v :: st) w cn sn := w_aload_n d_104_38 rfl
theorem d_104_39 : decode (mB 104) 39 = .ok (.getfield 96, 3) := by decide +kernel
theorem s_104_39 {d : Nat} {Q : wQ} {L : List (Option Value)} {st : List Value} {w : aw} {cn sn : Nat} {a : Nat} : wp d 104 Q 39 L (.ref a :: st) w cn sn = (kd w a = 9 ∧ wp d 104 Q 42 L (fd w 548 a :: st) w cn sn) := w_getfield d_104_39 (by decide +kernel : fT (mO 104) 96 = some (8, 36))
theorem d_104_42 : decode (mB 104) 42 = .ok (.iload 4, 2) := by decide +kernel
theorem s_104_42 {d : Nat} {Q : wQ} {L : List (Option Value)} {st : List Value} {w : aw} {cn sn : Nat} {a0 a1 a2 a3 : Option Value} {v : Int32} : wp d 104 Q 42 (a0 :: a1 :: a2 :: a3 :: some (.int v) :: L) st w cn sn = wp d 104 Q 44 (a0 :: a1 :: a2 :: a3 :: some (.int v) :: L) (.int v :: st) w cn sn := w_iload d_104_42 rfl
theorem d_104_44 : decode (mB 104) 44 = .ok (.iastore, 1) := by decide +kernel
theorem s_104_44 {d : Nat} {Q : wQ} {L : List (Option Value)} {st : List Value} {w : aw} {cn sn : Nat} {a : Nat} {i x : Int32} : wp d 104 Q 44 L (.int x :: .int i :: .ref a :: st) w cn sn = (kd w a = 20 ∧ inR i (ln w a) ∧ wp d 104 Q 45 L st (uA w a i.toNatClampNeg x) cn sn) := wp_row d_104_44 _ _ _ _ _
theorem d_104_45 : decode (mB 104) 45 = .ok (.aload_n 0, 1) := by decide +kernel
theorem s_104_45 {d : Nat} {Q : wQ} {L : List (Option Value)} {st : List Value} {w : aw} {cn sn : Nat} {v : Nat} : wp d 104 Q 45 (some (.ref v) :: L) st w cn sn = wp d 104 Q 46 (some (.ref v) :: L) (.ref v :: st) w cn sn := w_aload_n d_104_45 rfl
theorem d_104_46 : decode (mB 104) 46 = .ok (.dup, 1) := by decide +kernel
theorem s_104_46 {d : Nat} {Q : wQ} {L : List (Option Value)} {st : List Value} {w : aw} {cn sn : Nat} {v : Value} : wp d 104 Q 46 L (v :: st) w cn sn = (v.category = 1 ∧ wp d 104 Q 47 L (v :: v :: st) w cn sn) := wp_row d_104_46 _ _ _ _ _
theorem d_104_47 : decode (mB 104) 47 = .ok (.getfield 96, 3) := by decide +kernel
theorem s_104_47 {d : Nat} {Q : wQ} {L : List (Option Value)} {st : List Value} {w : aw} {cn sn : Nat} {a : Nat} : wp d 104 Q 47 L (.ref a :: st) w cn sn = (kd w a = 9 ∧ wp d 104 Q 50 L (fd w 548 a :: st) w cn sn) := w_getfield d_104_47 (by decide +kernel : fT (mO 104) 96 = some (8, 36))
theorem d_104_50 : decode (mB 104) 50 = .ok (.iconst 1, 1) := by decide +kernel
theorem s_104_50 {d : Nat} {Q : wQ} {L : List (Option Value)} {st : List Value} {w : aw} {cn sn : Nat}  : wp d 104 Q 50 L st w cn sn = wp d 104 Q 51 L (.int 1 :: st) w cn sn := w_iconst d_104_50 (by decide)
theorem d_104_51 : decode (mB 104) 51 = .ok (.iadd, 1) := by decide +kernel
theorem s_104_51 {d : Nat} {Q : wQ} {L : List (Option Value)} {st : List Value} {w : aw} {cn sn : Nat} {a b : Int32} : wp d 104 Q 51 L (.int b :: .int a :: st) w cn sn = wp d 104 Q 52 L (.int (a + b) :: st) w cn sn := wp_row d_104_51 _ _ _ _ _
theorem d_104_52 : decode (mB 104) 52 = .ok (.putfield 96, 3) := by decide +kernel
theorem s_104_52 {d : Nat} {Q : wQ} {L : List (Option Value)} {st : List Value} {w : aw} {cn sn : Nat} {x : Int32} {a : Nat} : wp d 104 Q 52 L (.int x :: .ref a :: st) w cn sn = (kd w a = 9 ∧ wp d 104 Q 55 L st (uF w 548 a (.int x)) cn sn) := w_putfield d_104_52 (by decide +kernel : fT (mO 104) 96 = some (8, 36)) (by decide +kernel) ok_int
theorem d_104_55 : decode (mB 104) 55 = .ok (.return_, 1) := by decide +kernel
theorem s_104_55 {d : Nat} {Q : wQ} {L : List (Option Value)} {w : aw} {cn sn : Nat}  : wp d 104 Q 55 L [] w cn sn = Q none w := w_return d_104_55 rfl
