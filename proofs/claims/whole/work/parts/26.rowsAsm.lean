theorem d_1_0 : decode (mB 1) 0 = .ok (.aload_n 0, 1) := by decide +kernel
theorem s_1_0 {d : Nat} {Q : wQ} {L : List (Option Value)} {st : List Value} {w : aw} {cn sn : Nat} {v : Nat} : wp d 1 Q 0 (some (.ref v) :: L) st w cn sn = wp d 1 Q 1 (some (.ref v) :: L) (.ref v :: st) w cn sn := w_aload_n d_1_0 rfl
theorem d_1_1 : decode (mB 1) 1 = .ok (.invokespecial 3, 3) := by decide +kernel
theorem s_1_1 {d : Nat} {Q : wQ} {L : List (Option Value)} {st : List Value} {w : aw} {cn sn : Nat} {b : Nat} : wp d 1 Q 1 L (.ref b :: st) w cn sn = (catS st ≤ 8 ∧ wp d 1 Q 4 L st w cn sn) := w_objinit d_1_1 (by decide +kernel : cT (mO 1) 3 = some (3, 0))
theorem d_1_4 : decode (mB 1) 4 = .ok (.aload_n 0, 1) := by decide +kernel
theorem s_1_4 {d : Nat} {Q : wQ} {L : List (Option Value)} {st : List Value} {w : aw} {cn sn : Nat} {v : Nat} : wp d 1 Q 4 (some (.ref v) :: L) st w cn sn = wp d 1 Q 5 (some (.ref v) :: L) (.ref v :: st) w cn sn := w_aload_n d_1_4 rfl
theorem d_1_5 : decode (mB 1) 5 = .ok (.new 9, 3) := by decide +kernel
theorem s_1_5 {d : Nat} {Q : wQ} {L : List (Option Value)} {st : List Value} {w : aw} {cn sn : Nat}  : wp d 1 Q 5 L st w cn sn = (cn + 1 ≤ 8 ∧ sn + 3 ≤ 12806 ∧ wp d 1 Q 8 L (.ref (zs w) :: st) (nw w 4 0) (cn + 1) (sn + 3)) := w_new d_1_5 (by decide +kernel : nT (mO 1) 9 = some 3) (by decide +kernel) (by decide +kernel) (by decide +kernel)
theorem d_1_8 : decode (mB 1) 8 = .ok (.dup, 1) := by decide +kernel
theorem s_1_8 {d : Nat} {Q : wQ} {L : List (Option Value)} {st : List Value} {w : aw} {cn sn : Nat} {v : Value} : wp d 1 Q 8 L (v :: st) w cn sn = (v.category = 1 ∧ wp d 1 Q 9 L (v :: v :: st) w cn sn) := wp_row d_1_8 _ _ _ _ _
theorem d_1_9 : decode (mB 1) 9 = .ok (.invokespecial 11, 3) := by decide +kernel
theorem s_1_9 {d : Nat} {Q : wQ} {L : List (Option Value)} {st : List Value} {w : aw} {cn sn : Nat} {b : Nat} : wp d 1 Q 9 L (.ref b :: st) w cn sn = (catS st ≤ 8 ∧ alc 1 31 cn sn (fun c2 s2 => wpD d 31 [.ref b] w (fun v w' => wp d 1 Q 12 L (v.toList ++ st) w' c2 s2))) := w_special (As := []) d_1_9 (by decide +kernel : cT (mO 1) 11 = some (1, 31)) (by decide +kernel) rfl rfl
theorem d_1_12 : decode (mB 1) 12 = .ok (.putfield 12, 3) := by decide +kernel
theorem s_1_12 {d : Nat} {Q : wQ} {L : List (Option Value)} {st : List Value} {w : aw} {cn sn : Nat} {x : Nat} {a : Nat} : wp d 1 Q 12 L (.ref x :: .ref a :: st) w cn sn = (kd w a = 1 ∧ wp d 1 Q 15 L st (uF w 1 a (.ref x)) cn sn) := w_putfield d_1_12 (by decide +kernel : fT (mO 1) 12 = some (0, 1)) (by decide +kernel) ok_ref
theorem s_1_12n {d : Nat} {Q : wQ} {L : List (Option Value)} {st : List Value} {w : aw} {cn sn : Nat} {a : Nat} : wp d 1 Q 12 L (.null :: .ref a :: st) w cn sn = (kd w a = 1 ∧ wp d 1 Q 15 L st (uF w 1 a (.null)) cn sn) := w_putfield d_1_12 (by decide +kernel : fT (mO 1) 12 = some (0, 1)) (by decide +kernel) ok_null
theorem d_1_15 : decode (mB 1) 15 = .ok (.aload_n 0, 1) := by decide +kernel
theorem s_1_15 {d : Nat} {Q : wQ} {L : List (Option Value)} {st : List Value} {w : aw} {cn sn : Nat} {v : Nat} : wp d 1 Q 15 (some (.ref v) :: L) st w cn sn = wp d 1 Q 16 (some (.ref v) :: L) (.ref v :: st) w cn sn := w_aload_n d_1_15 rfl
theorem d_1_16 : decode (mB 1) 16 = .ok (.sipush 4096, 3) := by decide +kernel
theorem s_1_16 {d : Nat} {Q : wQ} {L : List (Option Value)} {st : List Value} {w : aw} {cn sn : Nat}  : wp d 1 Q 16 L st w cn sn = wp d 1 Q 19 L (.int 4096 :: st) w cn sn := w_sipush d_1_16 (by decide)
theorem d_1_19 : decode (mB 1) 19 = .ok (.newarray .int, 2) := by decide +kernel
theorem s_1_19 {d : Nat} {Q : wQ} {L : List (Option Value)} {st : List Value} {w : aw} {cn sn : Nat} {v : Int32} : wp d 1 Q 19 L (.int v :: st) w cn sn = (¬ v < 0 ∧ v.toNatClampNeg * 4 ≤ 536870912 ∧ cn + 1 ≤ 8 ∧ sn + v.toNatClampNeg ≤ 12806 ∧ wp d 1 Q 21 L (.ref (zs w) :: st) (nw w 20 v.toNatClampNeg) (cn + 1) (sn + v.toNatClampNeg)) := w_newarray d_1_19 rfl (by decide +kernel) (by decide +kernel)
theorem d_1_21 : decode (mB 1) 21 = .ok (.putfield 18, 3) := by decide +kernel
theorem s_1_21 {d : Nat} {Q : wQ} {L : List (Option Value)} {st : List Value} {w : aw} {cn sn : Nat} {x : Nat} {a : Nat} : wp d 1 Q 21 L (.ref x :: .ref a :: st) w cn sn = (kd w a = 1 ∧ wp d 1 Q 24 L st (uF w 3 a (.ref x)) cn sn) := w_putfield d_1_21 (by decide +kernel : fT (mO 1) 18 = some (0, 3)) (by decide +kernel) ok_arr
theorem d_1_24 : decode (mB 1) 24 = .ok (.aload_n 0, 1) := by decide +kernel
theorem s_1_24 {d : Nat} {Q : wQ} {L : List (Option Value)} {st : List Value} {w : aw} {cn sn : Nat} {v : Nat} : wp d 1 Q 24 (some (.ref v) :: L) st w cn sn = wp d 1 Q 25 (some (.ref v) :: L) (.ref v :: st) w cn sn := w_aload_n d_1_24 rfl
theorem d_1_25 : decode (mB 1) 25 = .ok (.sipush 4096, 3) := by decide +kernel
theorem s_1_25 {d : Nat} {Q : wQ} {L : List (Option Value)} {st : List Value} {w : aw} {cn sn : Nat}  : wp d 1 Q 25 L st w cn sn = wp d 1 Q 28 L (.int 4096 :: st) w cn sn := w_sipush d_1_25 (by decide)
theorem d_1_28 : decode (mB 1) 28 = .ok (.newarray .boolean, 2) := by decide +kernel
theorem s_1_28 {d : Nat} {Q : wQ} {L : List (Option Value)} {st : List Value} {w : aw} {cn sn : Nat} {v : Int32} : wp d 1 Q 28 L (.int v :: st) w cn sn = (¬ v < 0 ∧ v.toNatClampNeg * 1 ≤ 536870912 ∧ cn + 1 ≤ 8 ∧ sn + v.toNatClampNeg ≤ 12806 ∧ wp d 1 Q 30 L (.ref (zs w) :: st) (nw w 23 v.toNatClampNeg) (cn + 1) (sn + v.toNatClampNeg)) := w_newarray d_1_28 rfl (by decide +kernel) (by decide +kernel)
theorem d_1_30 : decode (mB 1) 30 = .ok (.putfield 22, 3) := by decide +kernel
theorem s_1_30 {d : Nat} {Q : wQ} {L : List (Option Value)} {st : List Value} {w : aw} {cn sn : Nat} {x : Nat} {a : Nat} : wp d 1 Q 30 L (.ref x :: .ref a :: st) w cn sn = (kd w a = 1 ∧ wp d 1 Q 33 L st (uF w 4 a (.ref x)) cn sn) := w_putfield d_1_30 (by decide +kernel : fT (mO 1) 22 = some (0, 4)) (by decide +kernel) ok_arr
theorem d_1_33 : decode (mB 1) 33 = .ok (.aload_n 0, 1) := by decide +kernel
theorem s_1_33 {d : Nat} {Q : wQ} {L : List (Option Value)} {st : List Value} {w : aw} {cn sn : Nat} {v : Nat} : wp d 1 Q 33 (some (.ref v) :: L) st w cn sn = wp d 1 Q 34 (some (.ref v) :: L) (.ref v :: st) w cn sn := w_aload_n d_1_33 rfl
theorem d_1_34 : decode (mB 1) 34 = .ok (.sipush 4096, 3) := by decide +kernel
theorem s_1_34 {d : Nat} {Q : wQ} {L : List (Option Value)} {st : List Value} {w : aw} {cn sn : Nat}  : wp d 1 Q 34 L st w cn sn = wp d 1 Q 37 L (.int 4096 :: st) w cn sn := w_sipush d_1_34 (by decide)
theorem d_1_37 : decode (mB 1) 37 = .ok (.newarray .int, 2) := by decide +kernel
theorem s_1_37 {d : Nat} {Q : wQ} {L : List (Option Value)} {st : List Value} {w : aw} {cn sn : Nat} {v : Int32} : wp d 1 Q 37 L (.int v :: st) w cn sn = (¬ v < 0 ∧ v.toNatClampNeg * 4 ≤ 536870912 ∧ cn + 1 ≤ 8 ∧ sn + v.toNatClampNeg ≤ 12806 ∧ wp d 1 Q 39 L (.ref (zs w) :: st) (nw w 20 v.toNatClampNeg) (cn + 1) (sn + v.toNatClampNeg)) := w_newarray d_1_37 rfl (by decide +kernel) (by decide +kernel)
theorem d_1_39 : decode (mB 1) 39 = .ok (.putfield 26, 3) := by decide +kernel
theorem s_1_39 {d : Nat} {Q : wQ} {L : List (Option Value)} {st : List Value} {w : aw} {cn sn : Nat} {x : Nat} {a : Nat} : wp d 1 Q 39 L (.ref x :: .ref a :: st) w cn sn = (kd w a = 1 ∧ wp d 1 Q 42 L st (uF w 5 a (.ref x)) cn sn) := w_putfield d_1_39 (by decide +kernel : fT (mO 1) 26 = some (0, 5)) (by decide +kernel) ok_arr
theorem d_1_42 : decode (mB 1) 42 = .ok (.aload_n 0, 1) := by decide +kernel
theorem s_1_42 {d : Nat} {Q : wQ} {L : List (Option Value)} {st : List Value} {w : aw} {cn sn : Nat} {v : Nat} : wp d 1 Q 42 (some (.ref v) :: L) st w cn sn = wp d 1 Q 43 (some (.ref v) :: L) (.ref v :: st) w cn sn := w_aload_n d_1_42 rfl
theorem d_1_43 : decode (mB 1) 43 = .ok (.bipush 32, 2) := by decide +kernel
theorem s_1_43 {d : Nat} {Q : wQ} {L : List (Option Value)} {st : List Value} {w : aw} {cn sn : Nat}  : wp d 1 Q 43 L st w cn sn = wp d 1 Q 45 L (.int 32 :: st) w cn sn := w_bipush d_1_43 (by decide)
theorem d_1_45 : decode (mB 1) 45 = .ok (.newarray .int, 2) := by decide +kernel
theorem s_1_45 {d : Nat} {Q : wQ} {L : List (Option Value)} {st : List Value} {w : aw} {cn sn : Nat} {v : Int32} : wp d 1 Q 45 L (.int v :: st) w cn sn = (¬ v < 0 ∧ v.toNatClampNeg * 4 ≤ 536870912 ∧ cn + 1 ≤ 8 ∧ sn + v.toNatClampNeg ≤ 12806 ∧ wp d 1 Q 47 L (.ref (zs w) :: st) (nw w 20 v.toNatClampNeg) (cn + 1) (sn + v.toNatClampNeg)) := w_newarray d_1_45 rfl (by decide +kernel) (by decide +kernel)
theorem d_1_47 : decode (mB 1) 47 = .ok (.putfield 29, 3) := by decide +kernel
theorem s_1_47 {d : Nat} {Q : wQ} {L : List (Option Value)} {st : List Value} {w : aw} {cn sn : Nat} {x : Nat} {a : Nat} : wp d 1 Q 47 L (.ref x :: .ref a :: st) w cn sn = (kd w a = 1 ∧ wp d 1 Q 50 L st (uF w 7 a (.ref x)) cn sn) := w_putfield d_1_47 (by decide +kernel : fT (mO 1) 29 = some (0, 7)) (by decide +kernel) ok_arr
theorem d_1_50 : decode (mB 1) 50 = .ok (.aload_n 0, 1) := by decide +kernel
theorem s_1_50 {d : Nat} {Q : wQ} {L : List (Option Value)} {st : List Value} {w : aw} {cn sn : Nat} {v : Nat} : wp d 1 Q 50 (some (.ref v) :: L) st w cn sn = wp d 1 Q 51 (some (.ref v) :: L) (.ref v :: st) w cn sn := w_aload_n d_1_50 rfl
theorem d_1_51 : decode (mB 1) 51 = .ok (.aload_n 1, 1) := by decide +kernel
theorem s_1_51 {d : Nat} {Q : wQ} {L : List (Option Value)} {st : List Value} {w : aw} {cn sn : Nat} {a0 : Option Value} {v : Nat} : wp d 1 Q 51 (a0 :: some (.ref v) :: L) st w cn sn = wp d 1 Q 52 (a0 :: some (.ref v) :: L) (.ref v :: st) w cn sn := w_aload_n d_1_51 rfl
theorem s_1_51n {d : Nat} {Q : wQ} {L : List (Option Value)} {st : List Value} {w : aw} {cn sn : Nat} {a0 : Option Value} : wp d 1 Q 51 (a0 :: some .null :: L) st w cn sn = wp d 1 Q 52 (a0 :: some .null :: L) (.null :: st) w cn sn := w_aload_nN d_1_51 rfl
theorem d_1_52 : decode (mB 1) 52 = .ok (.putfield 32, 3) := by decide +kernel
theorem s_1_52 {d : Nat} {Q : wQ} {L : List (Option Value)} {st : List Value} {w : aw} {cn sn : Nat} {x : Nat} {a : Nat} : wp d 1 Q 52 L (.ref x :: .ref a :: st) w cn sn = (kd w a = 1 ∧ wp d 1 Q 55 L st (uF w 0 a (.ref x)) cn sn) := w_putfield d_1_52 (by decide +kernel : fT (mO 1) 32 = some (0, 0)) (by decide +kernel) ok_ref
theorem s_1_52n {d : Nat} {Q : wQ} {L : List (Option Value)} {st : List Value} {w : aw} {cn sn : Nat} {a : Nat} : wp d 1 Q 52 L (.null :: .ref a :: st) w cn sn = (kd w a = 1 ∧ wp d 1 Q 55 L st (uF w 0 a (.null)) cn sn) := w_putfield d_1_52 (by decide +kernel : fT (mO 1) 32 = some (0, 0)) (by decide +kernel) ok_null
theorem d_1_55 : decode (mB 1) 55 = .ok (.aload_n 0, 1) := by decide +kernel
theorem s_1_55 {d : Nat} {Q : wQ} {L : List (Option Value)} {st : List Value} {w : aw} {cn sn : Nat} {v : Nat} : wp d 1 Q 55 (some (.ref v) :: L) st w cn sn = wp d 1 Q 56 (some (.ref v) :: L) (.ref v :: st) w cn sn := w_aload_n d_1_55 rfl
theorem d_1_56 : decode (mB 1) 56 = .ok (.new 36, 3) := by decide +kernel
theorem s_1_56 {d : Nat} {Q : wQ} {L : List (Option Value)} {st : List Value} {w : aw} {cn sn : Nat}  : wp d 1 Q 56 L st w cn sn = (cn + 1 ≤ 8 ∧ sn + 13 ≤ 12806 ∧ wp d 1 Q 59 L (.ref (zs w) :: st) (nw w 5 0) (cn + 1) (sn + 13)) := w_new d_1_56 (by decide +kernel : nT (mO 1) 36 = some 4) (by decide +kernel) (by decide +kernel) (by decide +kernel)
theorem d_1_59 : decode (mB 1) 59 = .ok (.dup, 1) := by decide +kernel
theorem s_1_59 {d : Nat} {Q : wQ} {L : List (Option Value)} {st : List Value} {w : aw} {cn sn : Nat} {v : Value} : wp d 1 Q 59 L (v :: st) w cn sn = (v.category = 1 ∧ wp d 1 Q 60 L (v :: v :: st) w cn sn) := wp_row d_1_59 _ _ _ _ _
theorem d_1_60 : decode (mB 1) 60 = .ok (.aload_n 1, 1) := by decide +kernel
theorem s_1_60 {d : Nat} {Q : wQ} {L : List (Option Value)} {st : List Value} {w : aw} {cn sn : Nat} {a0 : Option Value} {v : Nat} : wp d 1 Q 60 (a0 :: some (.ref v) :: L) st w cn sn = wp d 1 Q 61 (a0 :: some (.ref v) :: L) (.ref v :: st) w cn sn := w_aload_n d_1_60 rfl
theorem s_1_60n {d : Nat} {Q : wQ} {L : List (Option Value)} {st : List Value} {w : aw} {cn sn : Nat} {a0 : Option Value} : wp d 1 Q 60 (a0 :: some .null :: L) st w cn sn = wp d 1 Q 61 (a0 :: some .null :: L) (.null :: st) w cn sn := w_aload_nN d_1_60 rfl
theorem d_1_61 : decode (mB 1) 61 = .ok (.aload_n 0, 1) := by decide +kernel
theorem s_1_61 {d : Nat} {Q : wQ} {L : List (Option Value)} {st : List Value} {w : aw} {cn sn : Nat} {v : Nat} : wp d 1 Q 61 (some (.ref v) :: L) st w cn sn = wp d 1 Q 62 (some (.ref v) :: L) (.ref v :: st) w cn sn := w_aload_n d_1_61 rfl
theorem d_1_62 : decode (mB 1) 62 = .ok (.getfield 12, 3) := by decide +kernel
theorem s_1_62 {d : Nat} {Q : wQ} {L : List (Option Value)} {st : List Value} {w : aw} {cn sn : Nat} {a : Nat} : wp d 1 Q 62 L (.ref a :: st) w cn sn = (kd w a = 1 ∧ wp d 1 Q 65 L (fd w 1 a :: st) w cn sn) := w_getfield d_1_62 (by decide +kernel : fT (mO 1) 12 = some (0, 1))
theorem d_1_65 : decode (mB 1) 65 = .ok (.invokespecial 38, 3) := by decide +kernel
theorem s_1_65 {d : Nat} {Q : wQ} {L : List (Option Value)} {st : List Value} {w : aw} {cn sn : Nat} {v0 v1 : Value} {b : Nat} : wp d 1 Q 65 L (v1 :: v0 :: .ref b :: st) w cn sn = (catS st ≤ 8 ∧ alc 1 39 cn sn (fun c2 s2 => wpD d 39 [.ref b, v0, v1] w (fun v w' => wp d 1 Q 68 L (v.toList ++ st) w' c2 s2))) := w_special (As := [v0, v1]) d_1_65 (by decide +kernel : cT (mO 1) 38 = some (1, 39)) (by decide +kernel) rfl rfl
theorem d_1_68 : decode (mB 1) 68 = .ok (.putfield 41, 3) := by decide +kernel
theorem s_1_68 {d : Nat} {Q : wQ} {L : List (Option Value)} {st : List Value} {w : aw} {cn sn : Nat} {x : Nat} {a : Nat} : wp d 1 Q 68 L (.ref x :: .ref a :: st) w cn sn = (kd w a = 1 ∧ wp d 1 Q 71 L st (uF w 2 a (.ref x)) cn sn) := w_putfield d_1_68 (by decide +kernel : fT (mO 1) 41 = some (0, 2)) (by decide +kernel) ok_ref
theorem s_1_68n {d : Nat} {Q : wQ} {L : List (Option Value)} {st : List Value} {w : aw} {cn sn : Nat} {a : Nat} : wp d 1 Q 68 L (.null :: .ref a :: st) w cn sn = (kd w a = 1 ∧ wp d 1 Q 71 L st (uF w 2 a (.null)) cn sn) := w_putfield d_1_68 (by decide +kernel : fT (mO 1) 41 = some (0, 2)) (by decide +kernel) ok_null
theorem d_1_71 : decode (mB 1) 71 = .ok (.return_, 1) := by decide +kernel
theorem s_1_71 {d : Nat} {Q : wQ} {L : List (Option Value)} {w : aw} {cn sn : Nat}  : wp d 1 Q 71 L [] w cn sn = Q none w := w_return d_1_71 rfl
theorem d_2_0 : decode (mB 2) 0 = .ok (.iconst 0, 1) := by decide +kernel
theorem s_2_0 {d : Nat} {Q : wQ} {L : List (Option Value)} {st : List Value} {w : aw} {cn sn : Nat}  : wp d 2 Q 0 L st w cn sn = wp d 2 Q 1 L (.int 0 :: st) w cn sn := w_iconst d_2_0 (by decide)
theorem d_2_1 : decode (mB 2) 1 = .ok (.istore_n 1, 1) := by decide +kernel
theorem s_2_1 {d : Nat} {Q : wQ} {L : List (Option Value)} {st : List Value} {w : aw} {cn sn : Nat} {a0 a1 : Option Value} {v : Int32} : wp d 2 Q 1 (a0 :: a1 :: L) (.int v :: st) w cn sn = wp d 2 Q 2 (clr a0 :: some (.int v) :: L) st w cn sn := w_istore_n d_2_1 (Nat.le_add_left 2 _) rfl
theorem d_2_2 : decode (mB 2) 2 = .ok (.iload_n 1, 1) := by decide +kernel
theorem s_2_2 {d : Nat} {Q : wQ} {L : List (Option Value)} {st : List Value} {w : aw} {cn sn : Nat} {a0 : Option Value} {v : Int32} : wp d 2 Q 2 (a0 :: some (.int v) :: L) st w cn sn = wp d 2 Q 3 (a0 :: some (.int v) :: L) (.int v :: st) w cn sn := w_iload_n d_2_2 rfl
theorem d_2_3 : decode (mB 2) 3 = .ok (.aload_n 0, 1) := by decide +kernel
theorem s_2_3 {d : Nat} {Q : wQ} {L : List (Option Value)} {st : List Value} {w : aw} {cn sn : Nat} {v : Nat} : wp d 2 Q 3 (some (.ref v) :: L) st w cn sn = wp d 2 Q 4 (some (.ref v) :: L) (.ref v :: st) w cn sn := w_aload_n d_2_3 rfl
theorem d_2_4 : decode (mB 2) 4 = .ok (.getfield 45, 3) := by decide +kernel
theorem s_2_4 {d : Nat} {Q : wQ} {L : List (Option Value)} {st : List Value} {w : aw} {cn sn : Nat} {a : Nat} : wp d 2 Q 4 L (.ref a :: st) w cn sn = (kd w a = 1 ∧ wp d 2 Q 7 L (fd w 6 a :: st) w cn sn) := w_getfield d_2_4 (by decide +kernel : fT (mO 2) 45 = some (0, 6))
theorem d_2_7 : decode (mB 2) 7 = .ok (.if_icmp .ge 32, 3) := by decide +kernel
theorem s_2_7 {d : Nat} {Q : wQ} {L : List (Option Value)} {st : List Value} {w : aw} {cn sn : Nat} {a b : Int32} : wp d 2 Q 7 L (.int b :: .int a :: st) w cn sn = ((b ≤ a → wp d 2 Q 39 L st w cn sn) ∧ (¬ b ≤ a → wp d 2 Q 10 L st w cn sn)) := w_icge d_2_7 (by decide)
theorem d_2_10 : decode (mB 2) 10 = .ok (.iload_n 1, 1) := by decide +kernel
theorem s_2_10 {d : Nat} {Q : wQ} {L : List (Option Value)} {st : List Value} {w : aw} {cn sn : Nat} {a0 : Option Value} {v : Int32} : wp d 2 Q 10 (a0 :: some (.int v) :: L) st w cn sn = wp d 2 Q 11 (a0 :: some (.int v) :: L) (.int v :: st) w cn sn := w_iload_n d_2_10 rfl
theorem d_2_11 : decode (mB 2) 11 = .ok (.sipush 4096, 3) := by decide +kernel
theorem s_2_11 {d : Nat} {Q : wQ} {L : List (Option Value)} {st : List Value} {w : aw} {cn sn : Nat}  : wp d 2 Q 11 L st w cn sn = wp d 2 Q 14 L (.int 4096 :: st) w cn sn := w_sipush d_2_11 (by decide)
theorem d_2_14 : decode (mB 2) 14 = .ok (.if_icmp .ge 25, 3) := by decide +kernel
theorem s_2_14 {d : Nat} {Q : wQ} {L : List (Option Value)} {st : List Value} {w : aw} {cn sn : Nat} {a b : Int32} : wp d 2 Q 14 L (.int b :: .int a :: st) w cn sn = ((b ≤ a → wp d 2 Q 39 L st w cn sn) ∧ (¬ b ≤ a → wp d 2 Q 17 L st w cn sn)) := w_icge d_2_14 (by decide)
theorem d_2_17 : decode (mB 2) 17 = .ok (.aload_n 0, 1) := by decide +kernel
theorem s_2_17 {d : Nat} {Q : wQ} {L : List (Option Value)} {st : List Value} {w : aw} {cn sn : Nat} {v : Nat} : wp d 2 Q 17 (some (.ref v) :: L) st w cn sn = wp d 2 Q 18 (some (.ref v) :: L) (.ref v :: st) w cn sn := w_aload_n d_2_17 rfl
theorem d_2_18 : decode (mB 2) 18 = .ok (.getfield 22, 3) := by decide +kernel
theorem s_2_18 {d : Nat} {Q : wQ} {L : List (Option Value)} {st : List Value} {w : aw} {cn sn : Nat} {a : Nat} : wp d 2 Q 18 L (.ref a :: st) w cn sn = (kd w a = 1 ∧ wp d 2 Q 21 L (fd w 4 a :: st) w cn sn) := w_getfield d_2_18 (by decide +kernel : fT (mO 2) 22 = some (0, 4))
theorem d_2_21 : decode (mB 2) 21 = .ok (.aload_n 0, 1) := by decide +kernel
theorem s_2_21 {d : Nat} {Q : wQ} {L : List (Option Value)} {st : List Value} {w : aw} {cn sn : Nat} {v : Nat} : wp d 2 Q 21 (some (.ref v) :: L) st w cn sn = wp d 2 Q 22 (some (.ref v) :: L) (.ref v :: st) w cn sn := w_aload_n d_2_21 rfl
theorem d_2_22 : decode (mB 2) 22 = .ok (.getfield 26, 3) := by decide +kernel
theorem s_2_22 {d : Nat} {Q : wQ} {L : List (Option Value)} {st : List Value} {w : aw} {cn sn : Nat} {a : Nat} : wp d 2 Q 22 L (.ref a :: st) w cn sn = (kd w a = 1 ∧ wp d 2 Q 25 L (fd w 5 a :: st) w cn sn) := w_getfield d_2_22 (by decide +kernel : fT (mO 2) 26 = some (0, 5))
theorem d_2_25 : decode (mB 2) 25 = .ok (.iload_n 1, 1) := by decide +kernel
theorem s_2_25 {d : Nat} {Q : wQ} {L : List (Option Value)} {st : List Value} {w : aw} {cn sn : Nat} {a0 : Option Value} {v : Int32} : wp d 2 Q 25 (a0 :: some (.int v) :: L) st w cn sn = wp d 2 Q 26 (a0 :: some (.int v) :: L) (.int v :: st) w cn sn := w_iload_n d_2_25 rfl
theorem d_2_26 : decode (mB 2) 26 = .ok (.iaload, 1) := by decide +kernel
theorem s_2_26 {d : Nat} {Q : wQ} {L : List (Option Value)} {st : List Value} {w : aw} {cn sn : Nat} {a : Nat} {i : Int32} : wp d 2 Q 26 L (.int i :: .ref a :: st) w cn sn = ((kd w a = 20 ∨ kd w a = 30) ∧ inR i (ln w a) ∧ wp d 2 Q 27 L (.int (ai w a i.toNatClampNeg) :: st) w cn sn) := wp_row d_2_26 _ _ _ _ _
theorem d_2_27 : decode (mB 2) 27 = .ok (.sipush 4095, 3) := by decide +kernel
theorem s_2_27 {d : Nat} {Q : wQ} {L : List (Option Value)} {st : List Value} {w : aw} {cn sn : Nat}  : wp d 2 Q 27 L st w cn sn = wp d 2 Q 30 L (.int 4095 :: st) w cn sn := w_sipush d_2_27 (by decide)
theorem d_2_30 : decode (mB 2) 30 = .ok (.iand, 1) := by decide +kernel
theorem s_2_30 {d : Nat} {Q : wQ} {L : List (Option Value)} {st : List Value} {w : aw} {cn sn : Nat} {a b : Int32} : wp d 2 Q 30 L (.int b :: .int a :: st) w cn sn = wp d 2 Q 31 L (.int (a &&& b) :: st) w cn sn := wp_row d_2_30 _ _ _ _ _
theorem d_2_31 : decode (mB 2) 31 = .ok (.iconst 0, 1) := by decide +kernel
theorem s_2_31 {d : Nat} {Q : wQ} {L : List (Option Value)} {st : List Value} {w : aw} {cn sn : Nat}  : wp d 2 Q 31 L st w cn sn = wp d 2 Q 32 L (.int 0 :: st) w cn sn := w_iconst d_2_31 (by decide)
theorem d_2_32 : decode (mB 2) 32 = .ok (.bastore, 1) := by decide +kernel
theorem s_2_32 {d : Nat} {Q : wQ} {L : List (Option Value)} {st : List Value} {w : aw} {cn sn : Nat} {a : Nat} {i x : Int32} : wp d 2 Q 32 L (.int x :: .int i :: .ref a :: st) w cn sn = (inR i (ln w a) ∧ ((kd w a = 21 ∧ wp d 2 Q 33 L st (uA w a i.toNatClampNeg (vp_nar .byte x)) cn sn) ∨ (kd w a = 23 ∧ wp d 2 Q 33 L st (uA w a i.toNatClampNeg (vp_nar .boolean x)) cn sn))) := wp_row d_2_32 _ _ _ _ _
theorem d_2_33 : decode (mB 2) 33 = .ok (.iinc 1 1, 3) := by decide +kernel
theorem s_2_33 {d : Nat} {Q : wQ} {L : List (Option Value)} {st : List Value} {w : aw} {cn sn : Nat} {a0 : Option Value} {v : Int32} : wp d 2 Q 33 (a0 :: some (.int v) :: L) st w cn sn = wp d 2 Q 36 (clr a0 :: some (.int (v + 1)) :: L) st w cn sn := w_iinc d_2_33 rfl (by decide) rfl
theorem d_2_36 : decode (mB 2) 36 = .ok (.goto (-34), 3) := by decide +kernel
theorem s_2_36 {d : Nat} {Q : wQ} {L : List (Option Value)} {st : List Value} {w : aw} {cn sn : Nat}  : wp d 2 Q 36 L st w cn sn = wp d 2 Q 2 L st w cn sn := w_goto d_2_36 (by decide)
theorem d_2_39 : decode (mB 2) 39 = .ok (.aload_n 0, 1) := by decide +kernel
theorem s_2_39 {d : Nat} {Q : wQ} {L : List (Option Value)} {st : List Value} {w : aw} {cn sn : Nat} {v : Nat} : wp d 2 Q 39 (some (.ref v) :: L) st w cn sn = wp d 2 Q 40 (some (.ref v) :: L) (.ref v :: st) w cn sn := w_aload_n d_2_39 rfl
theorem d_2_40 : decode (mB 2) 40 = .ok (.iconst 0, 1) := by decide +kernel
theorem s_2_40 {d : Nat} {Q : wQ} {L : List (Option Value)} {st : List Value} {w : aw} {cn sn : Nat}  : wp d 2 Q 40 L st w cn sn = wp d 2 Q 41 L (.int 0 :: st) w cn sn := w_iconst d_2_40 (by decide)
theorem d_2_41 : decode (mB 2) 41 = .ok (.putfield 45, 3) := by decide +kernel
theorem s_2_41 {d : Nat} {Q : wQ} {L : List (Option Value)} {st : List Value} {w : aw} {cn sn : Nat} {x : Int32} {a : Nat} : wp d 2 Q 41 L (.int x :: .ref a :: st) w cn sn = (kd w a = 1 ∧ wp d 2 Q 44 L st (uF w 6 a (.int x)) cn sn) := w_putfield d_2_41 (by decide +kernel : fT (mO 2) 45 = some (0, 6)) (by decide +kernel) ok_int
theorem d_2_44 : decode (mB 2) 44 = .ok (.aload_n 0, 1) := by decide +kernel
theorem s_2_44 {d : Nat} {Q : wQ} {L : List (Option Value)} {st : List Value} {w : aw} {cn sn : Nat} {v : Nat} : wp d 2 Q 44 (some (.ref v) :: L) st w cn sn = wp d 2 Q 45 (some (.ref v) :: L) (.ref v :: st) w cn sn := w_aload_n d_2_44 rfl
theorem d_2_45 : decode (mB 2) 45 = .ok (.getfield 29, 3) := by decide +kernel
theorem s_2_45 {d : Nat} {Q : wQ} {L : List (Option Value)} {st : List Value} {w : aw} {cn sn : Nat} {a : Nat} : wp d 2 Q 45 L (.ref a :: st) w cn sn = (kd w a = 1 ∧ wp d 2 Q 48 L (fd w 7 a :: st) w cn sn) := w_getfield d_2_45 (by decide +kernel : fT (mO 2) 29 = some (0, 7))
theorem d_2_48 : decode (mB 2) 48 = .ok (.iconst 0, 1) := by decide +kernel
theorem s_2_48 {d : Nat} {Q : wQ} {L : List (Option Value)} {st : List Value} {w : aw} {cn sn : Nat}  : wp d 2 Q 48 L st w cn sn = wp d 2 Q 49 L (.int 0 :: st) w cn sn := w_iconst d_2_48 (by decide)
theorem d_2_49 : decode (mB 2) 49 = .ok (.invokestatic 49, 3) := by decide +kernel
theorem s_2_49 {d : Nat} {Q : wQ} {L : List (Option Value)} {st : List Value} {w : aw} {cn sn : Nat} {v0 v1 : Value} : wp d 2 Q 49 L (v1 :: v0 :: st) w cn sn = (catS st ≤ 8 ∧ wpD d 184 [v0, v1] w (fun v w' => wp d 2 Q 52 L (v.toList ++ st) w' cn sn)) := w_static (As := [v0, v1]) d_2_49 (by decide +kernel : cT (mO 2) 49 = some (2, 184)) (by decide +kernel) rfl (by decide +kernel) rfl
theorem d_2_52 : decode (mB 2) 52 = .ok (.aload_n 0, 1) := by decide +kernel
theorem s_2_52 {d : Nat} {Q : wQ} {L : List (Option Value)} {st : List Value} {w : aw} {cn sn : Nat} {v : Nat} : wp d 2 Q 52 (some (.ref v) :: L) st w cn sn = wp d 2 Q 53 (some (.ref v) :: L) (.ref v :: st) w cn sn := w_aload_n d_2_52 rfl
theorem d_2_53 : decode (mB 2) 53 = .ok (.getfield 12, 3) := by decide +kernel
theorem s_2_53 {d : Nat} {Q : wQ} {L : List (Option Value)} {st : List Value} {w : aw} {cn sn : Nat} {a : Nat} : wp d 2 Q 53 L (.ref a :: st) w cn sn = (kd w a = 1 ∧ wp d 2 Q 56 L (fd w 1 a :: st) w cn sn) := w_getfield d_2_53 (by decide +kernel : fT (mO 2) 12 = some (0, 1))
theorem d_2_56 : decode (mB 2) 56 = .ok (.invokevirtual 55, 3) := by decide +kernel
theorem s_2_56 {d : Nat} {Q : wQ} {L : List (Option Value)} {st : List Value} {w : aw} {cn sn : Nat} {b : Nat} : wp d 2 Q 56 L (.ref b :: st) w cn sn = (kd w b = 4 ∧ catS st ≤ 8 ∧ wpD d 35 [.ref b] w (fun v w' => wp d 2 Q 59 L (v.toList ++ st) w' cn sn)) := w_virtual (As := []) d_2_56 (by decide +kernel : cT (mO 2) 55 = some (0, 35)) rfl (by decide +kernel) rfl (by decide +kernel) rfl
theorem d_2_59 : decode (mB 2) 59 = .ok (.aload_n 0, 1) := by decide +kernel
theorem s_2_59 {d : Nat} {Q : wQ} {L : List (Option Value)} {st : List Value} {w : aw} {cn sn : Nat} {v : Nat} : wp d 2 Q 59 (some (.ref v) :: L) st w cn sn = wp d 2 Q 60 (some (.ref v) :: L) (.ref v :: st) w cn sn := w_aload_n d_2_59 rfl
theorem d_2_60 : decode (mB 2) 60 = .ok (.iconst 0, 1) := by decide +kernel
theorem s_2_60 {d : Nat} {Q : wQ} {L : List (Option Value)} {st : List Value} {w : aw} {cn sn : Nat}  : wp d 2 Q 60 L st w cn sn = wp d 2 Q 61 L (.int 0 :: st) w cn sn := w_iconst d_2_60 (by decide)
theorem d_2_61 : decode (mB 2) 61 = .ok (.putfield 58, 3) := by decide +kernel
theorem s_2_61 {d : Nat} {Q : wQ} {L : List (Option Value)} {st : List Value} {w : aw} {cn sn : Nat} {x : Int32} {a : Nat} : wp d 2 Q 61 L (.int x :: .ref a :: st) w cn sn = (kd w a = 1 ∧ wp d 2 Q 64 L st (uF w 9 a (.int x)) cn sn) := w_putfield d_2_61 (by decide +kernel : fT (mO 2) 58 = some (0, 9)) (by decide +kernel) ok_int
theorem d_2_64 : decode (mB 2) 64 = .ok (.aload_n 0, 1) := by decide +kernel
theorem s_2_64 {d : Nat} {Q : wQ} {L : List (Option Value)} {st : List Value} {w : aw} {cn sn : Nat} {v : Nat} : wp d 2 Q 64 (some (.ref v) :: L) st w cn sn = wp d 2 Q 65 (some (.ref v) :: L) (.ref v :: st) w cn sn := w_aload_n d_2_64 rfl
theorem d_2_65 : decode (mB 2) 65 = .ok (.iconst 0, 1) := by decide +kernel
theorem s_2_65 {d : Nat} {Q : wQ} {L : List (Option Value)} {st : List Value} {w : aw} {cn sn : Nat}  : wp d 2 Q 65 L st w cn sn = wp d 2 Q 66 L (.int 0 :: st) w cn sn := w_iconst d_2_65 (by decide)
theorem d_2_66 : decode (mB 2) 66 = .ok (.putfield 61, 3) := by decide +kernel
theorem s_2_66 {d : Nat} {Q : wQ} {L : List (Option Value)} {st : List Value} {w : aw} {cn sn : Nat} {x : Int32} {a : Nat} : wp d 2 Q 66 L (.int x :: .ref a :: st) w cn sn = (kd w a = 1 ∧ wp d 2 Q 69 L st (uF w 10 a (.int x)) cn sn) := w_putfield d_2_66 (by decide +kernel : fT (mO 2) 61 = some (0, 10)) (by decide +kernel) ok_int
theorem d_2_69 : decode (mB 2) 69 = .ok (.return_, 1) := by decide +kernel
theorem s_2_69 {d : Nat} {Q : wQ} {L : List (Option Value)} {w : aw} {cn sn : Nat}  : wp d 2 Q 69 L [] w cn sn = Q none w := w_return d_2_69 rfl
theorem d_3_0 : decode (mB 3) 0 = .ok (.aload_n 0, 1) := by decide +kernel
theorem s_3_0 {d : Nat} {Q : wQ} {L : List (Option Value)} {st : List Value} {w : aw} {cn sn : Nat} {v : Nat} : wp d 3 Q 0 (some (.ref v) :: L) st w cn sn = wp d 3 Q 1 (some (.ref v) :: L) (.ref v :: st) w cn sn := w_aload_n d_3_0 rfl
theorem d_3_1 : decode (mB 3) 1 = .ok (.sipush 128, 3) := by decide +kernel
theorem s_3_1 {d : Nat} {Q : wQ} {L : List (Option Value)} {st : List Value} {w : aw} {cn sn : Nat}  : wp d 3 Q 1 L st w cn sn = wp d 3 Q 4 L (.int 128 :: st) w cn sn := w_sipush d_3_1 (by decide)
theorem d_3_4 : decode (mB 3) 4 = .ok (.putfield 64, 3) := by decide +kernel
theorem s_3_4 {d : Nat} {Q : wQ} {L : List (Option Value)} {st : List Value} {w : aw} {cn sn : Nat} {x : Int32} {a : Nat} : wp d 3 Q 4 L (.int x :: .ref a :: st) w cn sn = (kd w a = 1 ∧ wp d 3 Q 7 L st (uF w 8 a (.int x)) cn sn) := w_putfield d_3_4 (by decide +kernel : fT (mO 3) 64 = some (0, 8)) (by decide +kernel) ok_int
theorem d_3_7 : decode (mB 3) 7 = .ok (.iconst 1, 1) := by decide +kernel
theorem s_3_7 {d : Nat} {Q : wQ} {L : List (Option Value)} {st : List Value} {w : aw} {cn sn : Nat}  : wp d 3 Q 7 L st w cn sn = wp d 3 Q 8 L (.int 1 :: st) w cn sn := w_iconst d_3_7 (by decide)
theorem d_3_8 : decode (mB 3) 8 = .ok (.istore_n 2, 1) := by decide +kernel
theorem s_3_8 {d : Nat} {Q : wQ} {L : List (Option Value)} {st : List Value} {w : aw} {cn sn : Nat} {a0 a1 a2 : Option Value} {v : Int32} : wp d 3 Q 8 (a0 :: a1 :: a2 :: L) (.int v :: st) w cn sn = wp d 3 Q 9 (a0 :: clr a1 :: some (.int v) :: L) st w cn sn := w_istore_n d_3_8 (Nat.le_add_left 3 _) rfl
theorem d_3_9 : decode (mB 3) 9 = .ok (.iconst 0, 1) := by decide +kernel
theorem s_3_9 {d : Nat} {Q : wQ} {L : List (Option Value)} {st : List Value} {w : aw} {cn sn : Nat}  : wp d 3 Q 9 L st w cn sn = wp d 3 Q 10 L (.int 0 :: st) w cn sn := w_iconst d_3_9 (by decide)
theorem d_3_10 : decode (mB 3) 10 = .ok (.istore_n 3, 1) := by decide +kernel
theorem s_3_10 {d : Nat} {Q : wQ} {L : List (Option Value)} {st : List Value} {w : aw} {cn sn : Nat} {a0 a1 a2 a3 : Option Value} {v : Int32} : wp d 3 Q 10 (a0 :: a1 :: a2 :: a3 :: L) (.int v :: st) w cn sn = wp d 3 Q 11 (a0 :: a1 :: clr a2 :: some (.int v) :: L) st w cn sn := w_istore_n d_3_10 (Nat.le_add_left 4 _) rfl
theorem d_3_11 : decode (mB 3) 11 = .ok (.iconst 0, 1) := by decide +kernel
theorem s_3_11 {d : Nat} {Q : wQ} {L : List (Option Value)} {st : List Value} {w : aw} {cn sn : Nat}  : wp d 3 Q 11 L st w cn sn = wp d 3 Q 12 L (.int 0 :: st) w cn sn := w_iconst d_3_11 (by decide)
theorem d_3_12 : decode (mB 3) 12 = .ok (.istore 4, 2) := by decide +kernel
theorem s_3_12 {d : Nat} {Q : wQ} {L : List (Option Value)} {st : List Value} {w : aw} {cn sn : Nat} {a0 a1 a2 a3 a4 : Option Value} {v : Int32} : wp d 3 Q 12 (a0 :: a1 :: a2 :: a3 :: a4 :: L) (.int v :: st) w cn sn = wp d 3 Q 14 (a0 :: a1 :: a2 :: clr a3 :: some (.int v) :: L) st w cn sn := w_istore d_3_12 (Nat.le_add_left 5 _) rfl
theorem d_3_14 : decode (mB 3) 14 = .ok (.iconst 0, 1) := by decide +kernel
theorem s_3_14 {d : Nat} {Q : wQ} {L : List (Option Value)} {st : List Value} {w : aw} {cn sn : Nat}  : wp d 3 Q 14 L st w cn sn = wp d 3 Q 15 L (.int 0 :: st) w cn sn := w_iconst d_3_14 (by decide)
theorem d_3_15 : decode (mB 3) 15 = .ok (.istore 5, 2) := by decide +kernel
theorem s_3_15 {d : Nat} {Q : wQ} {L : List (Option Value)} {st : List Value} {w : aw} {cn sn : Nat} {a0 a1 a2 a3 a4 a5 : Option Value} {v : Int32} : wp d 3 Q 15 (a0 :: a1 :: a2 :: a3 :: a4 :: a5 :: L) (.int v :: st) w cn sn = wp d 3 Q 17 (a0 :: a1 :: a2 :: a3 :: clr a4 :: some (.int v) :: L) st w cn sn := w_istore d_3_15 (Nat.le_add_left 6 _) rfl
theorem d_3_17 : decode (mB 3) 17 = .ok (.iload 5, 2) := by decide +kernel
theorem s_3_17 {d : Nat} {Q : wQ} {L : List (Option Value)} {st : List Value} {w : aw} {cn sn : Nat} {a0 a1 a2 a3 a4 : Option Value} {v : Int32} : wp d 3 Q 17 (a0 :: a1 :: a2 :: a3 :: a4 :: some (.int v) :: L) st w cn sn = wp d 3 Q 19 (a0 :: a1 :: a2 :: a3 :: a4 :: some (.int v) :: L) (.int v :: st) w cn sn := w_iload d_3_17 rfl
theorem d_3_19 : decode (mB 3) 19 = .ok (.aload_n 0, 1) := by decide +kernel
theorem s_3_19 {d : Nat} {Q : wQ} {L : List (Option Value)} {st : List Value} {w : aw} {cn sn : Nat} {v : Nat} : wp d 3 Q 19 (some (.ref v) :: L) st w cn sn = wp d 3 Q 20 (some (.ref v) :: L) (.ref v :: st) w cn sn := w_aload_n d_3_19 rfl
theorem d_3_20 : decode (mB 3) 20 = .ok (.getfield 32, 3) := by decide +kernel
theorem s_3_20 {d : Nat} {Q : wQ} {L : List (Option Value)} {st : List Value} {w : aw} {cn sn : Nat} {a : Nat} : wp d 3 Q 20 L (.ref a :: st) w cn sn = (kd w a = 1 ∧ wp d 3 Q 23 L (fd w 0 a :: st) w cn sn) := w_getfield d_3_20 (by decide +kernel : fT (mO 3) 32 = some (0, 0))
theorem d_3_23 : decode (mB 3) 23 = .ok (.getfield 67, 3) := by decide +kernel
theorem s_3_23 {d : Nat} {Q : wQ} {L : List (Option Value)} {st : List Value} {w : aw} {cn sn : Nat} {a : Nat} : wp d 3 Q 23 L (.ref a :: st) w cn sn = (kd w a = 6 ∧ wp d 3 Q 26 L (fd w 321 a :: st) w cn sn) := w_getfield d_3_23 (by decide +kernel : fT (mO 3) 67 = some (5, 1))
theorem d_3_26 : decode (mB 3) 26 = .ok (.if_icmp .gt 153, 3) := by decide +kernel
theorem s_3_26 {d : Nat} {Q : wQ} {L : List (Option Value)} {st : List Value} {w : aw} {cn sn : Nat} {a b : Int32} : wp d 3 Q 26 L (.int b :: .int a :: st) w cn sn = ((b < a → wp d 3 Q 179 L st w cn sn) ∧ (¬ b < a → wp d 3 Q 29 L st w cn sn)) := w_icgt d_3_26 (by decide)
theorem d_3_29 : decode (mB 3) 29 = .ok (.aload_n 0, 1) := by decide +kernel
theorem s_3_29 {d : Nat} {Q : wQ} {L : List (Option Value)} {st : List Value} {w : aw} {cn sn : Nat} {v : Nat} : wp d 3 Q 29 (some (.ref v) :: L) st w cn sn = wp d 3 Q 30 (some (.ref v) :: L) (.ref v :: st) w cn sn := w_aload_n d_3_29 rfl
theorem d_3_30 : decode (mB 3) 30 = .ok (.getfield 58, 3) := by decide +kernel
theorem s_3_30 {d : Nat} {Q : wQ} {L : List (Option Value)} {st : List Value} {w : aw} {cn sn : Nat} {a : Nat} : wp d 3 Q 30 L (.ref a :: st) w cn sn = (kd w a = 1 ∧ wp d 3 Q 33 L (fd w 9 a :: st) w cn sn) := w_getfield d_3_30 (by decide +kernel : fT (mO 3) 58 = some (0, 9))
theorem d_3_33 : decode (mB 3) 33 = .ok (.ifCond .ne 146, 3) := by decide +kernel
theorem s_3_33 {d : Nat} {Q : wQ} {L : List (Option Value)} {st : List Value} {w : aw} {cn sn : Nat} {x : Int32} : wp d 3 Q 33 L (.int x :: st) w cn sn = ((¬ x = 0 → wp d 3 Q 179 L st w cn sn) ∧ (x = 0 → wp d 3 Q 36 L st w cn sn)) := w_ifne d_3_33 (by decide)
theorem d_3_36 : decode (mB 3) 36 = .ok (.aload_n 0, 1) := by decide +kernel
theorem s_3_36 {d : Nat} {Q : wQ} {L : List (Option Value)} {st : List Value} {w : aw} {cn sn : Nat} {v : Nat} : wp d 3 Q 36 (some (.ref v) :: L) st w cn sn = wp d 3 Q 37 (some (.ref v) :: L) (.ref v :: st) w cn sn := w_aload_n d_3_36 rfl
theorem d_3_37 : decode (mB 3) 37 = .ok (.getfield 32, 3) := by decide +kernel
theorem s_3_37 {d : Nat} {Q : wQ} {L : List (Option Value)} {st : List Value} {w : aw} {cn sn : Nat} {a : Nat} : wp d 3 Q 37 L (.ref a :: st) w cn sn = (kd w a = 1 ∧ wp d 3 Q 40 L (fd w 0 a :: st) w cn sn) := w_getfield d_3_37 (by decide +kernel : fT (mO 3) 32 = some (0, 0))
theorem d_3_40 : decode (mB 3) 40 = .ok (.iload 5, 2) := by decide +kernel
theorem s_3_40 {d : Nat} {Q : wQ} {L : List (Option Value)} {st : List Value} {w : aw} {cn sn : Nat} {a0 a1 a2 a3 a4 : Option Value} {v : Int32} : wp d 3 Q 40 (a0 :: a1 :: a2 :: a3 :: a4 :: some (.int v) :: L) st w cn sn = wp d 3 Q 42 (a0 :: a1 :: a2 :: a3 :: a4 :: some (.int v) :: L) (.int v :: st) w cn sn := w_iload d_3_40 rfl
theorem d_3_42 : decode (mB 3) 42 = .ok (.invokevirtual 72, 3) := by decide +kernel
theorem s_3_42 {d : Nat} {Q : wQ} {L : List (Option Value)} {st : List Value} {w : aw} {cn sn : Nat} {v0 : Value} {b : Nat} : wp d 3 Q 42 L (v0 :: .ref b :: st) w cn sn = (kd w b = 6 ∧ catS st ≤ 8 ∧ wpD d 60 [.ref b, v0] w (fun v w' => wp d 3 Q 45 L (v.toList ++ st) w' cn sn)) := w_virtual (As := [v0]) d_3_42 (by decide +kernel : cT (mO 3) 72 = some (0, 60)) rfl (by decide +kernel) rfl (by decide +kernel) rfl
theorem d_3_45 : decode (mB 3) 45 = .ok (.istore 6, 2) := by decide +kernel
theorem s_3_45 {d : Nat} {Q : wQ} {L : List (Option Value)} {st : List Value} {w : aw} {cn sn : Nat} {a0 a1 a2 a3 a4 a5 a6 : Option Value} {v : Int32} : wp d 3 Q 45 (a0 :: a1 :: a2 :: a3 :: a4 :: a5 :: a6 :: L) (.int v :: st) w cn sn = wp d 3 Q 47 (a0 :: a1 :: a2 :: a3 :: a4 :: clr a5 :: some (.int v) :: L) st w cn sn := w_istore d_3_45 (Nat.le_add_left 7 _) rfl
theorem d_3_47 : decode (mB 3) 47 = .ok (.iload 6, 2) := by decide +kernel
theorem s_3_47 {d : Nat} {Q : wQ} {L : List (Option Value)} {st : List Value} {w : aw} {cn sn : Nat} {a0 a1 a2 a3 a4 a5 : Option Value} {v : Int32} : wp d 3 Q 47 (a0 :: a1 :: a2 :: a3 :: a4 :: a5 :: some (.int v) :: L) st w cn sn = wp d 3 Q 49 (a0 :: a1 :: a2 :: a3 :: a4 :: a5 :: some (.int v) :: L) (.int v :: st) w cn sn := w_iload d_3_47 rfl
theorem d_3_49 : decode (mB 3) 49 = .ok (.bipush 10, 2) := by decide +kernel
theorem s_3_49 {d : Nat} {Q : wQ} {L : List (Option Value)} {st : List Value} {w : aw} {cn sn : Nat}  : wp d 3 Q 49 L st w cn sn = wp d 3 Q 51 L (.int 10 :: st) w cn sn := w_bipush d_3_49 (by decide)
theorem d_3_51 : decode (mB 3) 51 = .ok (.if_icmp .eq 8, 3) := by decide +kernel
theorem s_3_51 {d : Nat} {Q : wQ} {L : List (Option Value)} {st : List Value} {w : aw} {cn sn : Nat} {a b : Int32} : wp d 3 Q 51 L (.int b :: .int a :: st) w cn sn = ((a = b → wp d 3 Q 59 L st w cn sn) ∧ (¬ a = b → wp d 3 Q 54 L st w cn sn)) := w_iceq d_3_51 (by decide)
theorem d_3_54 : decode (mB 3) 54 = .ok (.iload 6, 2) := by decide +kernel
theorem s_3_54 {d : Nat} {Q : wQ} {L : List (Option Value)} {st : List Value} {w : aw} {cn sn : Nat} {a0 a1 a2 a3 a4 a5 : Option Value} {v : Int32} : wp d 3 Q 54 (a0 :: a1 :: a2 :: a3 :: a4 :: a5 :: some (.int v) :: L) st w cn sn = wp d 3 Q 56 (a0 :: a1 :: a2 :: a3 :: a4 :: a5 :: some (.int v) :: L) (.int v :: st) w cn sn := w_iload d_3_54 rfl
theorem d_3_56 : decode (mB 3) 56 = .ok (.ifCond .ge 7, 3) := by decide +kernel
theorem s_3_56 {d : Nat} {Q : wQ} {L : List (Option Value)} {st : List Value} {w : aw} {cn sn : Nat} {x : Int32} : wp d 3 Q 56 L (.int x :: st) w cn sn = ((0 ≤ x → wp d 3 Q 63 L st w cn sn) ∧ (¬ 0 ≤ x → wp d 3 Q 59 L st w cn sn)) := w_ifge d_3_56 (by decide)
theorem d_3_59 : decode (mB 3) 59 = .ok (.iconst 1, 1) := by decide +kernel
theorem s_3_59 {d : Nat} {Q : wQ} {L : List (Option Value)} {st : List Value} {w : aw} {cn sn : Nat}  : wp d 3 Q 59 L st w cn sn = wp d 3 Q 60 L (.int 1 :: st) w cn sn := w_iconst d_3_59 (by decide)
theorem d_3_60 : decode (mB 3) 60 = .ok (.goto 4, 3) := by decide +kernel
theorem s_3_60 {d : Nat} {Q : wQ} {L : List (Option Value)} {st : List Value} {w : aw} {cn sn : Nat}  : wp d 3 Q 60 L st w cn sn = wp d 3 Q 64 L st w cn sn := w_goto d_3_60 (by decide)
theorem d_3_63 : decode (mB 3) 63 = .ok (.iconst 0, 1) := by decide +kernel
theorem s_3_63 {d : Nat} {Q : wQ} {L : List (Option Value)} {st : List Value} {w : aw} {cn sn : Nat}  : wp d 3 Q 63 L st w cn sn = wp d 3 Q 64 L (.int 0 :: st) w cn sn := w_iconst d_3_63 (by decide)
theorem d_3_64 : decode (mB 3) 64 = .ok (.istore 7, 2) := by decide +kernel
theorem s_3_64 {d : Nat} {Q : wQ} {L : List (Option Value)} {st : List Value} {w : aw} {cn sn : Nat} {a0 a1 a2 a3 a4 a5 a6 a7 : Option Value} {v : Int32} : wp d 3 Q 64 (a0 :: a1 :: a2 :: a3 :: a4 :: a5 :: a6 :: a7 :: L) (.int v :: st) w cn sn = wp d 3 Q 66 (a0 :: a1 :: a2 :: a3 :: a4 :: a5 :: clr a6 :: some (.int v) :: L) st w cn sn := w_istore d_3_64 (Nat.le_add_left 8 _) rfl
theorem d_3_66 : decode (mB 3) 66 = .ok (.iload 4, 2) := by decide +kernel
theorem s_3_66 {d : Nat} {Q : wQ} {L : List (Option Value)} {st : List Value} {w : aw} {cn sn : Nat} {a0 a1 a2 a3 : Option Value} {v : Int32} : wp d 3 Q 66 (a0 :: a1 :: a2 :: a3 :: some (.int v) :: L) st w cn sn = wp d 3 Q 68 (a0 :: a1 :: a2 :: a3 :: some (.int v) :: L) (.int v :: st) w cn sn := w_iload d_3_66 rfl
theorem d_3_68 : decode (mB 3) 68 = .ok (.ifCond .ne 89, 3) := by decide +kernel
theorem s_3_68 {d : Nat} {Q : wQ} {L : List (Option Value)} {st : List Value} {w : aw} {cn sn : Nat} {x : Int32} : wp d 3 Q 68 L (.int x :: st) w cn sn = ((¬ x = 0 → wp d 3 Q 157 L st w cn sn) ∧ (x = 0 → wp d 3 Q 71 L st w cn sn)) := w_ifne d_3_68 (by decide)
theorem d_3_71 : decode (mB 3) 71 = .ok (.iload 7, 2) := by decide +kernel
theorem s_3_71 {d : Nat} {Q : wQ} {L : List (Option Value)} {st : List Value} {w : aw} {cn sn : Nat} {a0 a1 a2 a3 a4 a5 a6 : Option Value} {v : Int32} : wp d 3 Q 71 (a0 :: a1 :: a2 :: a3 :: a4 :: a5 :: a6 :: some (.int v) :: L) st w cn sn = wp d 3 Q 73 (a0 :: a1 :: a2 :: a3 :: a4 :: a5 :: a6 :: some (.int v) :: L) (.int v :: st) w cn sn := w_iload d_3_71 rfl
theorem d_3_73 : decode (mB 3) 73 = .ok (.ifCond .ne 17, 3) := by decide +kernel
theorem s_3_73 {d : Nat} {Q : wQ} {L : List (Option Value)} {st : List Value} {w : aw} {cn sn : Nat} {x : Int32} : wp d 3 Q 73 L (.int x :: st) w cn sn = ((¬ x = 0 → wp d 3 Q 90 L st w cn sn) ∧ (x = 0 → wp d 3 Q 76 L st w cn sn)) := w_ifne d_3_73 (by decide)
theorem d_3_76 : decode (mB 3) 76 = .ok (.iload 6, 2) := by decide +kernel
theorem s_3_76 {d : Nat} {Q : wQ} {L : List (Option Value)} {st : List Value} {w : aw} {cn sn : Nat} {a0 a1 a2 a3 a4 a5 : Option Value} {v : Int32} : wp d 3 Q 76 (a0 :: a1 :: a2 :: a3 :: a4 :: a5 :: some (.int v) :: L) st w cn sn = wp d 3 Q 78 (a0 :: a1 :: a2 :: a3 :: a4 :: a5 :: some (.int v) :: L) (.int v :: st) w cn sn := w_iload d_3_76 rfl
theorem d_3_78 : decode (mB 3) 78 = .ok (.bipush 59, 2) := by decide +kernel
theorem s_3_78 {d : Nat} {Q : wQ} {L : List (Option Value)} {st : List Value} {w : aw} {cn sn : Nat}  : wp d 3 Q 78 L st w cn sn = wp d 3 Q 80 L (.int 59 :: st) w cn sn := w_bipush d_3_78 (by decide)
theorem d_3_80 : decode (mB 3) 80 = .ok (.if_icmp .eq 10, 3) := by decide +kernel
theorem s_3_80 {d : Nat} {Q : wQ} {L : List (Option Value)} {st : List Value} {w : aw} {cn sn : Nat} {a b : Int32} : wp d 3 Q 80 L (.int b :: .int a :: st) w cn sn = ((a = b → wp d 3 Q 90 L st w cn sn) ∧ (¬ a = b → wp d 3 Q 83 L st w cn sn)) := w_iceq d_3_80 (by decide)
theorem d_3_83 : decode (mB 3) 83 = .ok (.iload 6, 2) := by decide +kernel
theorem s_3_83 {d : Nat} {Q : wQ} {L : List (Option Value)} {st : List Value} {w : aw} {cn sn : Nat} {a0 a1 a2 a3 a4 a5 : Option Value} {v : Int32} : wp d 3 Q 83 (a0 :: a1 :: a2 :: a3 :: a4 :: a5 :: some (.int v) :: L) st w cn sn = wp d 3 Q 85 (a0 :: a1 :: a2 :: a3 :: a4 :: a5 :: some (.int v) :: L) (.int v :: st) w cn sn := w_iload d_3_83 rfl
theorem d_3_85 : decode (mB 3) 85 = .ok (.bipush 47, 2) := by decide +kernel
theorem s_3_85 {d : Nat} {Q : wQ} {L : List (Option Value)} {st : List Value} {w : aw} {cn sn : Nat}  : wp d 3 Q 85 L st w cn sn = wp d 3 Q 87 L (.int 47 :: st) w cn sn := w_bipush d_3_85 (by decide)
theorem d_3_87 : decode (mB 3) 87 = .ok (.if_icmp .ne 70, 3) := by decide +kernel
theorem s_3_87 {d : Nat} {Q : wQ} {L : List (Option Value)} {st : List Value} {w : aw} {cn sn : Nat} {a b : Int32} : wp d 3 Q 87 L (.int b :: .int a :: st) w cn sn = ((¬ a = b → wp d 3 Q 157 L st w cn sn) ∧ (a = b → wp d 3 Q 90 L st w cn sn)) := w_icne d_3_87 (by decide)
theorem d_3_90 : decode (mB 3) 90 = .ok (.aload_n 0, 1) := by decide +kernel
theorem s_3_90 {d : Nat} {Q : wQ} {L : List (Option Value)} {st : List Value} {w : aw} {cn sn : Nat} {v : Nat} : wp d 3 Q 90 (some (.ref v) :: L) st w cn sn = wp d 3 Q 91 (some (.ref v) :: L) (.ref v :: st) w cn sn := w_aload_n d_3_90 rfl
theorem d_3_91 : decode (mB 3) 91 = .ok (.getfield 41, 3) := by decide +kernel
theorem s_3_91 {d : Nat} {Q : wQ} {L : List (Option Value)} {st : List Value} {w : aw} {cn sn : Nat} {a : Nat} : wp d 3 Q 91 L (.ref a :: st) w cn sn = (kd w a = 1 ∧ wp d 3 Q 94 L (fd w 2 a :: st) w cn sn) := w_getfield d_3_91 (by decide +kernel : fT (mO 3) 41 = some (0, 2))
theorem d_3_94 : decode (mB 3) 94 = .ok (.iload_n 3, 1) := by decide +kernel
theorem s_3_94 {d : Nat} {Q : wQ} {L : List (Option Value)} {st : List Value} {w : aw} {cn sn : Nat} {a0 a1 a2 : Option Value} {v : Int32} : wp d 3 Q 94 (a0 :: a1 :: a2 :: some (.int v) :: L) st w cn sn = wp d 3 Q 95 (a0 :: a1 :: a2 :: some (.int v) :: L) (.int v :: st) w cn sn := w_iload_n d_3_94 rfl
theorem d_3_95 : decode (mB 3) 95 = .ok (.iload 5, 2) := by decide +kernel
theorem s_3_95 {d : Nat} {Q : wQ} {L : List (Option Value)} {st : List Value} {w : aw} {cn sn : Nat} {a0 a1 a2 a3 a4 : Option Value} {v : Int32} : wp d 3 Q 95 (a0 :: a1 :: a2 :: a3 :: a4 :: some (.int v) :: L) st w cn sn = wp d 3 Q 97 (a0 :: a1 :: a2 :: a3 :: a4 :: some (.int v) :: L) (.int v :: st) w cn sn := w_iload d_3_95 rfl
theorem d_3_97 : decode (mB 3) 97 = .ok (.invokevirtual 76, 3) := by decide +kernel
theorem s_3_97 {d : Nat} {Q : wQ} {L : List (Option Value)} {st : List Value} {w : aw} {cn sn : Nat} {v0 v1 : Value} {b : Nat} : wp d 3 Q 97 L (v1 :: v0 :: .ref b :: st) w cn sn = (kd w b = 5 ∧ catS st ≤ 8 ∧ wpD d 46 [.ref b, v0, v1] w (fun v w' => wp d 3 Q 100 L (v.toList ++ st) w' cn sn)) := w_virtual (As := [v0, v1]) d_3_97 (by decide +kernel : cT (mO 3) 76 = some (0, 46)) rfl (by decide +kernel) rfl (by decide +kernel) rfl
theorem d_3_100 : decode (mB 3) 100 = .ok (.aload_n 0, 1) := by decide +kernel
theorem s_3_100 {d : Nat} {Q : wQ} {L : List (Option Value)} {st : List Value} {w : aw} {cn sn : Nat} {v : Nat} : wp d 3 Q 100 (some (.ref v) :: L) st w cn sn = wp d 3 Q 101 (some (.ref v) :: L) (.ref v :: st) w cn sn := w_aload_n d_3_100 rfl
theorem d_3_101 : decode (mB 3) 101 = .ok (.iload_n 1, 1) := by decide +kernel
theorem s_3_101 {d : Nat} {Q : wQ} {L : List (Option Value)} {st : List Value} {w : aw} {cn sn : Nat} {a0 : Option Value} {v : Int32} : wp d 3 Q 101 (a0 :: some (.int v) :: L) st w cn sn = wp d 3 Q 102 (a0 :: some (.int v) :: L) (.int v :: st) w cn sn := w_iload_n d_3_101 rfl
theorem d_3_102 : decode (mB 3) 102 = .ok (.ifCond .eq 13, 3) := by decide +kernel
theorem s_3_102 {d : Nat} {Q : wQ} {L : List (Option Value)} {st : List Value} {w : aw} {cn sn : Nat} {x : Int32} : wp d 3 Q 102 L (.int x :: st) w cn sn = ((x = 0 → wp d 3 Q 115 L st w cn sn) ∧ (¬ x = 0 → wp d 3 Q 105 L st w cn sn)) := w_ifeq d_3_102 (by decide)
theorem d_3_105 : decode (mB 3) 105 = .ok (.aload_n 0, 1) := by decide +kernel
theorem s_3_105 {d : Nat} {Q : wQ} {L : List (Option Value)} {st : List Value} {w : aw} {cn sn : Nat} {v : Nat} : wp d 3 Q 105 (some (.ref v) :: L) st w cn sn = wp d 3 Q 106 (some (.ref v) :: L) (.ref v :: st) w cn sn := w_aload_n d_3_105 rfl
theorem d_3_106 : decode (mB 3) 106 = .ok (.iload_n 3, 1) := by decide +kernel
theorem s_3_106 {d : Nat} {Q : wQ} {L : List (Option Value)} {st : List Value} {w : aw} {cn sn : Nat} {a0 a1 a2 : Option Value} {v : Int32} : wp d 3 Q 106 (a0 :: a1 :: a2 :: some (.int v) :: L) st w cn sn = wp d 3 Q 107 (a0 :: a1 :: a2 :: some (.int v) :: L) (.int v :: st) w cn sn := w_iload_n d_3_106 rfl
theorem d_3_107 : decode (mB 3) 107 = .ok (.iload 5, 2) := by decide +kernel
theorem s_3_107 {d : Nat} {Q : wQ} {L : List (Option Value)} {st : List Value} {w : aw} {cn sn : Nat} {a0 a1 a2 a3 a4 : Option Value} {v : Int32} : wp d 3 Q 107 (a0 :: a1 :: a2 :: a3 :: a4 :: some (.int v) :: L) st w cn sn = wp d 3 Q 109 (a0 :: a1 :: a2 :: a3 :: a4 :: some (.int v) :: L) (.int v :: st) w cn sn := w_iload d_3_107 rfl
theorem d_3_109 : decode (mB 3) 109 = .ok (.invokevirtual 80, 3) := by decide +kernel
theorem s_3_109 {d : Nat} {Q : wQ} {L : List (Option Value)} {st : List Value} {w : aw} {cn sn : Nat} {v0 v1 : Value} {b : Nat} : wp d 3 Q 109 L (v1 :: v0 :: .ref b :: st) w cn sn = (kd w b = 1 ∧ catS st ≤ 8 ∧ wpD d 4 [.ref b, v0, v1] w (fun v w' => wp d 3 Q 112 L (v.toList ++ st) w' cn sn)) := w_virtual (As := [v0, v1]) d_3_109 (by decide +kernel : cT (mO 3) 80 = some (0, 4)) rfl (by decide +kernel) rfl (by decide +kernel) rfl
theorem d_3_112 : decode (mB 3) 112 = .ok (.goto 7, 3) := by decide +kernel
theorem s_3_112 {d : Nat} {Q : wQ} {L : List (Option Value)} {st : List Value} {w : aw} {cn sn : Nat}  : wp d 3 Q 112 L st w cn sn = wp d 3 Q 119 L st w cn sn := w_goto d_3_112 (by decide)
theorem d_3_115 : decode (mB 3) 115 = .ok (.aload_n 0, 1) := by decide +kernel
theorem s_3_115 {d : Nat} {Q : wQ} {L : List (Option Value)} {st : List Value} {w : aw} {cn sn : Nat} {v : Nat} : wp d 3 Q 115 (some (.ref v) :: L) st w cn sn = wp d 3 Q 116 (some (.ref v) :: L) (.ref v :: st) w cn sn := w_aload_n d_3_115 rfl
theorem d_3_116 : decode (mB 3) 116 = .ok (.invokevirtual 84, 3) := by decide +kernel
theorem s_3_116 {d : Nat} {Q : wQ} {L : List (Option Value)} {st : List Value} {w : aw} {cn sn : Nat} {b : Nat} : wp d 3 Q 116 L (.ref b :: st) w cn sn = (kd w b = 1 ∧ catS st ≤ 8 ∧ wpD d 7 [.ref b] w (fun v w' => wp d 3 Q 119 L (v.toList ++ st) w' cn sn)) := w_virtual (As := []) d_3_116 (by decide +kernel : cT (mO 3) 84 = some (0, 7)) rfl (by decide +kernel) rfl (by decide +kernel) rfl
theorem d_3_119 : decode (mB 3) 119 = .ok (.putfield 58, 3) := by decide +kernel
theorem s_3_119 {d : Nat} {Q : wQ} {L : List (Option Value)} {st : List Value} {w : aw} {cn sn : Nat} {x : Int32} {a : Nat} : wp d 3 Q 119 L (.int x :: .ref a :: st) w cn sn = (kd w a = 1 ∧ wp d 3 Q 122 L st (uF w 9 a (.int x)) cn sn) := w_putfield d_3_119 (by decide +kernel : fT (mO 3) 58 = some (0, 9)) (by decide +kernel) ok_int
theorem d_3_122 : decode (mB 3) 122 = .ok (.aload_n 0, 1) := by decide +kernel
theorem s_3_122 {d : Nat} {Q : wQ} {L : List (Option Value)} {st : List Value} {w : aw} {cn sn : Nat} {v : Nat} : wp d 3 Q 122 (some (.ref v) :: L) st w cn sn = wp d 3 Q 123 (some (.ref v) :: L) (.ref v :: st) w cn sn := w_aload_n d_3_122 rfl
theorem d_3_123 : decode (mB 3) 123 = .ok (.aload_n 0, 1) := by decide +kernel
theorem s_3_123 {d : Nat} {Q : wQ} {L : List (Option Value)} {st : List Value} {w : aw} {cn sn : Nat} {v : Nat} : wp d 3 Q 123 (some (.ref v) :: L) st w cn sn = wp d 3 Q 124 (some (.ref v) :: L) (.ref v :: st) w cn sn := w_aload_n d_3_123 rfl
theorem d_3_124 : decode (mB 3) 124 = .ok (.getfield 58, 3) := by decide +kernel
theorem s_3_124 {d : Nat} {Q : wQ} {L : List (Option Value)} {st : List Value} {w : aw} {cn sn : Nat} {a : Nat} : wp d 3 Q 124 L (.ref a :: st) w cn sn = (kd w a = 1 ∧ wp d 3 Q 127 L (fd w 9 a :: st) w cn sn) := w_getfield d_3_124 (by decide +kernel : fT (mO 3) 58 = some (0, 9))
theorem d_3_127 : decode (mB 3) 127 = .ok (.ifCond .ne 7, 3) := by decide +kernel
theorem s_3_127 {d : Nat} {Q : wQ} {L : List (Option Value)} {st : List Value} {w : aw} {cn sn : Nat} {x : Int32} : wp d 3 Q 127 L (.int x :: st) w cn sn = ((¬ x = 0 → wp d 3 Q 134 L st w cn sn) ∧ (x = 0 → wp d 3 Q 130 L st w cn sn)) := w_ifne d_3_127 (by decide)
theorem d_3_130 : decode (mB 3) 130 = .ok (.iconst 0, 1) := by decide +kernel
theorem s_3_130 {d : Nat} {Q : wQ} {L : List (Option Value)} {st : List Value} {w : aw} {cn sn : Nat}  : wp d 3 Q 130 L st w cn sn = wp d 3 Q 131 L (.int 0 :: st) w cn sn := w_iconst d_3_130 (by decide)
theorem d_3_131 : decode (mB 3) 131 = .ok (.goto 4, 3) := by decide +kernel
theorem s_3_131 {d : Nat} {Q : wQ} {L : List (Option Value)} {st : List Value} {w : aw} {cn sn : Nat}  : wp d 3 Q 131 L st w cn sn = wp d 3 Q 135 L st w cn sn := w_goto d_3_131 (by decide)
theorem d_3_134 : decode (mB 3) 134 = .ok (.iload_n 2, 1) := by decide +kernel
theorem s_3_134 {d : Nat} {Q : wQ} {L : List (Option Value)} {st : List Value} {w : aw} {cn sn : Nat} {a0 a1 : Option Value} {v : Int32} : wp d 3 Q 134 (a0 :: a1 :: some (.int v) :: L) st w cn sn = wp d 3 Q 135 (a0 :: a1 :: some (.int v) :: L) (.int v :: st) w cn sn := w_iload_n d_3_134 rfl
theorem d_3_135 : decode (mB 3) 135 = .ok (.putfield 61, 3) := by decide +kernel
theorem s_3_135 {d : Nat} {Q : wQ} {L : List (Option Value)} {st : List Value} {w : aw} {cn sn : Nat} {x : Int32} {a : Nat} : wp d 3 Q 135 L (.int x :: .ref a :: st) w cn sn = (kd w a = 1 ∧ wp d 3 Q 138 L st (uF w 10 a (.int x)) cn sn) := w_putfield d_3_135 (by decide +kernel : fT (mO 3) 61 = some (0, 10)) (by decide +kernel) ok_int
theorem d_3_138 : decode (mB 3) 138 = .ok (.iload 5, 2) := by decide +kernel
theorem s_3_138 {d : Nat} {Q : wQ} {L : List (Option Value)} {st : List Value} {w : aw} {cn sn : Nat} {a0 a1 a2 a3 a4 : Option Value} {v : Int32} : wp d 3 Q 138 (a0 :: a1 :: a2 :: a3 :: a4 :: some (.int v) :: L) st w cn sn = wp d 3 Q 140 (a0 :: a1 :: a2 :: a3 :: a4 :: some (.int v) :: L) (.int v :: st) w cn sn := w_iload d_3_138 rfl
theorem d_3_140 : decode (mB 3) 140 = .ok (.iconst 1, 1) := by decide +kernel
theorem s_3_140 {d : Nat} {Q : wQ} {L : List (Option Value)} {st : List Value} {w : aw} {cn sn : Nat}  : wp d 3 Q 140 L st w cn sn = wp d 3 Q 141 L (.int 1 :: st) w cn sn := w_iconst d_3_140 (by decide)
theorem d_3_141 : decode (mB 3) 141 = .ok (.iadd, 1) := by decide +kernel
theorem s_3_141 {d : Nat} {Q : wQ} {L : List (Option Value)} {st : List Value} {w : aw} {cn sn : Nat} {a b : Int32} : wp d 3 Q 141 L (.int b :: .int a :: st) w cn sn = wp d 3 Q 142 L (.int (a + b) :: st) w cn sn := wp_row d_3_141 _ _ _ _ _
theorem d_3_142 : decode (mB 3) 142 = .ok (.istore_n 3, 1) := by decide +kernel
theorem s_3_142 {d : Nat} {Q : wQ} {L : List (Option Value)} {st : List Value} {w : aw} {cn sn : Nat} {a0 a1 a2 a3 : Option Value} {v : Int32} : wp d 3 Q 142 (a0 :: a1 :: a2 :: a3 :: L) (.int v :: st) w cn sn = wp d 3 Q 143 (a0 :: a1 :: clr a2 :: some (.int v) :: L) st w cn sn := w_istore_n d_3_142 (Nat.le_add_left 4 _) rfl
theorem d_3_143 : decode (mB 3) 143 = .ok (.iload 6, 2) := by decide +kernel
theorem s_3_143 {d : Nat} {Q : wQ} {L : List (Option Value)} {st : List Value} {w : aw} {cn sn : Nat} {a0 a1 a2 a3 a4 a5 : Option Value} {v : Int32} : wp d 3 Q 143 (a0 :: a1 :: a2 :: a3 :: a4 :: a5 :: some (.int v) :: L) st w cn sn = wp d 3 Q 145 (a0 :: a1 :: a2 :: a3 :: a4 :: a5 :: some (.int v) :: L) (.int v :: st) w cn sn := w_iload d_3_143 rfl
theorem d_3_145 : decode (mB 3) 145 = .ok (.bipush 47, 2) := by decide +kernel
theorem s_3_145 {d : Nat} {Q : wQ} {L : List (Option Value)} {st : List Value} {w : aw} {cn sn : Nat}  : wp d 3 Q 145 L st w cn sn = wp d 3 Q 147 L (.int 47 :: st) w cn sn := w_bipush d_3_145 (by decide)
theorem d_3_147 : decode (mB 3) 147 = .ok (.if_icmp .ne 7, 3) := by decide +kernel
theorem s_3_147 {d : Nat} {Q : wQ} {L : List (Option Value)} {st : List Value} {w : aw} {cn sn : Nat} {a b : Int32} : wp d 3 Q 147 L (.int b :: .int a :: st) w cn sn = ((¬ a = b → wp d 3 Q 154 L st w cn sn) ∧ (a = b → wp d 3 Q 150 L st w cn sn)) := w_icne d_3_147 (by decide)
theorem d_3_150 : decode (mB 3) 150 = .ok (.iconst 1, 1) := by decide +kernel
theorem s_3_150 {d : Nat} {Q : wQ} {L : List (Option Value)} {st : List Value} {w : aw} {cn sn : Nat}  : wp d 3 Q 150 L st w cn sn = wp d 3 Q 151 L (.int 1 :: st) w cn sn := w_iconst d_3_150 (by decide)
theorem d_3_151 : decode (mB 3) 151 = .ok (.goto 4, 3) := by decide +kernel
theorem s_3_151 {d : Nat} {Q : wQ} {L : List (Option Value)} {st : List Value} {w : aw} {cn sn : Nat}  : wp d 3 Q 151 L st w cn sn = wp d 3 Q 155 L st w cn sn := w_goto d_3_151 (by decide)
theorem d_3_154 : decode (mB 3) 154 = .ok (.iconst 0, 1) := by decide +kernel
theorem s_3_154 {d : Nat} {Q : wQ} {L : List (Option Value)} {st : List Value} {w : aw} {cn sn : Nat}  : wp d 3 Q 154 L st w cn sn = wp d 3 Q 155 L (.int 0 :: st) w cn sn := w_iconst d_3_154 (by decide)
theorem d_3_155 : decode (mB 3) 155 = .ok (.istore 4, 2) := by decide +kernel
theorem s_3_155 {d : Nat} {Q : wQ} {L : List (Option Value)} {st : List Value} {w : aw} {cn sn : Nat} {a0 a1 a2 a3 a4 : Option Value} {v : Int32} : wp d 3 Q 155 (a0 :: a1 :: a2 :: a3 :: a4 :: L) (.int v :: st) w cn sn = wp d 3 Q 157 (a0 :: a1 :: a2 :: clr a3 :: some (.int v) :: L) st w cn sn := w_istore d_3_155 (Nat.le_add_left 5 _) rfl
theorem d_3_157 : decode (mB 3) 157 = .ok (.iload 7, 2) := by decide +kernel
theorem s_3_157 {d : Nat} {Q : wQ} {L : List (Option Value)} {st : List Value} {w : aw} {cn sn : Nat} {a0 a1 a2 a3 a4 a5 a6 : Option Value} {v : Int32} : wp d 3 Q 157 (a0 :: a1 :: a2 :: a3 :: a4 :: a5 :: a6 :: some (.int v) :: L) st w cn sn = wp d 3 Q 159 (a0 :: a1 :: a2 :: a3 :: a4 :: a5 :: a6 :: some (.int v) :: L) (.int v :: st) w cn sn := w_iload d_3_157 rfl
theorem d_3_159 : decode (mB 3) 159 = .ok (.ifCond .eq 14, 3) := by decide +kernel
theorem s_3_159 {d : Nat} {Q : wQ} {L : List (Option Value)} {st : List Value} {w : aw} {cn sn : Nat} {x : Int32} : wp d 3 Q 159 L (.int x :: st) w cn sn = ((x = 0 → wp d 3 Q 173 L st w cn sn) ∧ (¬ x = 0 → wp d 3 Q 162 L st w cn sn)) := w_ifeq d_3_159 (by decide)
theorem d_3_162 : decode (mB 3) 162 = .ok (.iinc 2 1, 3) := by decide +kernel
theorem s_3_162 {d : Nat} {Q : wQ} {L : List (Option Value)} {st : List Value} {w : aw} {cn sn : Nat} {a0 a1 : Option Value} {v : Int32} : wp d 3 Q 162 (a0 :: a1 :: some (.int v) :: L) st w cn sn = wp d 3 Q 165 (a0 :: clr a1 :: some (.int (v + 1)) :: L) st w cn sn := w_iinc d_3_162 rfl (by decide) rfl
theorem d_3_165 : decode (mB 3) 165 = .ok (.iload 5, 2) := by decide +kernel
theorem s_3_165 {d : Nat} {Q : wQ} {L : List (Option Value)} {st : List Value} {w : aw} {cn sn : Nat} {a0 a1 a2 a3 a4 : Option Value} {v : Int32} : wp d 3 Q 165 (a0 :: a1 :: a2 :: a3 :: a4 :: some (.int v) :: L) st w cn sn = wp d 3 Q 167 (a0 :: a1 :: a2 :: a3 :: a4 :: some (.int v) :: L) (.int v :: st) w cn sn := w_iload d_3_165 rfl
theorem d_3_167 : decode (mB 3) 167 = .ok (.iconst 1, 1) := by decide +kernel
theorem s_3_167 {d : Nat} {Q : wQ} {L : List (Option Value)} {st : List Value} {w : aw} {cn sn : Nat}  : wp d 3 Q 167 L st w cn sn = wp d 3 Q 168 L (.int 1 :: st) w cn sn := w_iconst d_3_167 (by decide)
theorem d_3_168 : decode (mB 3) 168 = .ok (.iadd, 1) := by decide +kernel
theorem s_3_168 {d : Nat} {Q : wQ} {L : List (Option Value)} {st : List Value} {w : aw} {cn sn : Nat} {a b : Int32} : wp d 3 Q 168 L (.int b :: .int a :: st) w cn sn = wp d 3 Q 169 L (.int (a + b) :: st) w cn sn := wp_row d_3_168 _ _ _ _ _
theorem d_3_169 : decode (mB 3) 169 = .ok (.istore_n 3, 1) := by decide +kernel
theorem s_3_169 {d : Nat} {Q : wQ} {L : List (Option Value)} {st : List Value} {w : aw} {cn sn : Nat} {a0 a1 a2 a3 : Option Value} {v : Int32} : wp d 3 Q 169 (a0 :: a1 :: a2 :: a3 :: L) (.int v :: st) w cn sn = wp d 3 Q 170 (a0 :: a1 :: clr a2 :: some (.int v) :: L) st w cn sn := w_istore_n d_3_169 (Nat.le_add_left 4 _) rfl
theorem d_3_170 : decode (mB 3) 170 = .ok (.iconst 0, 1) := by decide +kernel
theorem s_3_170 {d : Nat} {Q : wQ} {L : List (Option Value)} {st : List Value} {w : aw} {cn sn : Nat}  : wp d 3 Q 170 L st w cn sn = wp d 3 Q 171 L (.int 0 :: st) w cn sn := w_iconst d_3_170 (by decide)
theorem d_3_171 : decode (mB 3) 171 = .ok (.istore 4, 2) := by decide +kernel
theorem s_3_171 {d : Nat} {Q : wQ} {L : List (Option Value)} {st : List Value} {w : aw} {cn sn : Nat} {a0 a1 a2 a3 a4 : Option Value} {v : Int32} : wp d 3 Q 171 (a0 :: a1 :: a2 :: a3 :: a4 :: L) (.int v :: st) w cn sn = wp d 3 Q 173 (a0 :: a1 :: a2 :: clr a3 :: some (.int v) :: L) st w cn sn := w_istore d_3_171 (Nat.le_add_left 5 _) rfl
theorem d_3_173 : decode (mB 3) 173 = .ok (.iinc 5 1, 3) := by decide +kernel
theorem s_3_173 {d : Nat} {Q : wQ} {L : List (Option Value)} {st : List Value} {w : aw} {cn sn : Nat} {a0 a1 a2 a3 a4 : Option Value} {v : Int32} : wp d 3 Q 173 (a0 :: a1 :: a2 :: a3 :: a4 :: some (.int v) :: L) st w cn sn = wp d 3 Q 176 (a0 :: a1 :: a2 :: a3 :: clr a4 :: some (.int (v + 1)) :: L) st w cn sn := w_iinc d_3_173 rfl (by decide) rfl
theorem d_3_176 : decode (mB 3) 176 = .ok (.goto (-159), 3) := by decide +kernel
theorem s_3_176 {d : Nat} {Q : wQ} {L : List (Option Value)} {st : List Value} {w : aw} {cn sn : Nat}  : wp d 3 Q 176 L st w cn sn = wp d 3 Q 17 L st w cn sn := w_goto d_3_176 (by decide)
theorem d_3_179 : decode (mB 3) 179 = .ok (.return_, 1) := by decide +kernel
theorem s_3_179 {d : Nat} {Q : wQ} {L : List (Option Value)} {w : aw} {cn sn : Nat}  : wp d 3 Q 179 L [] w cn sn = Q none w := w_return d_3_179 rfl
theorem d_4_0 : decode (mB 4) 0 = .ok (.aload_n 0, 1) := by decide +kernel
theorem s_4_0 {d : Nat} {Q : wQ} {L : List (Option Value)} {st : List Value} {w : aw} {cn sn : Nat} {v : Nat} : wp d 4 Q 0 (some (.ref v) :: L) st w cn sn = wp d 4 Q 1 (some (.ref v) :: L) (.ref v :: st) w cn sn := w_aload_n d_4_0 rfl
theorem d_4_1 : decode (mB 4) 1 = .ok (.invokevirtual 88, 3) := by decide +kernel
theorem s_4_1 {d : Nat} {Q : wQ} {L : List (Option Value)} {st : List Value} {w : aw} {cn sn : Nat} {b : Nat} : wp d 4 Q 1 L (.ref b :: st) w cn sn = (kd w b = 1 ∧ catS st ≤ 8 ∧ wpD d 5 [.ref b] w (fun v w' => wp d 4 Q 4 L (v.toList ++ st) w' cn sn)) := w_virtual (As := []) d_4_1 (by decide +kernel : cT (mO 4) 88 = some (0, 5)) rfl (by decide +kernel) rfl (by decide +kernel) rfl
theorem d_4_4 : decode (mB 4) 4 = .ok (.aload_n 0, 1) := by decide +kernel
theorem s_4_4 {d : Nat} {Q : wQ} {L : List (Option Value)} {st : List Value} {w : aw} {cn sn : Nat} {v : Nat} : wp d 4 Q 4 (some (.ref v) :: L) st w cn sn = wp d 4 Q 5 (some (.ref v) :: L) (.ref v :: st) w cn sn := w_aload_n d_4_4 rfl
theorem d_4_5 : decode (mB 4) 5 = .ok (.getfield 41, 3) := by decide +kernel
theorem s_4_5 {d : Nat} {Q : wQ} {L : List (Option Value)} {st : List Value} {w : aw} {cn sn : Nat} {a : Nat} : wp d 4 Q 5 L (.ref a :: st) w cn sn = (kd w a = 1 ∧ wp d 4 Q 8 L (fd w 2 a :: st) w cn sn) := w_getfield d_4_5 (by decide +kernel : fT (mO 4) 41 = some (0, 2))
theorem d_4_8 : decode (mB 4) 8 = .ok (.aload_n 0, 1) := by decide +kernel
theorem s_4_8 {d : Nat} {Q : wQ} {L : List (Option Value)} {st : List Value} {w : aw} {cn sn : Nat} {v : Nat} : wp d 4 Q 8 (some (.ref v) :: L) st w cn sn = wp d 4 Q 9 (some (.ref v) :: L) (.ref v :: st) w cn sn := w_aload_n d_4_8 rfl
theorem d_4_9 : decode (mB 4) 9 = .ok (.getfield 64, 3) := by decide +kernel
theorem s_4_9 {d : Nat} {Q : wQ} {L : List (Option Value)} {st : List Value} {w : aw} {cn sn : Nat} {a : Nat} : wp d 4 Q 9 L (.ref a :: st) w cn sn = (kd w a = 1 ∧ wp d 4 Q 12 L (fd w 8 a :: st) w cn sn) := w_getfield d_4_9 (by decide +kernel : fT (mO 4) 64 = some (0, 8))
theorem d_4_12 : decode (mB 4) 12 = .ok (.invokevirtual 91, 3) := by decide +kernel
theorem s_4_12 {d : Nat} {Q : wQ} {L : List (Option Value)} {st : List Value} {w : aw} {cn sn : Nat} {v0 : Value} {b : Nat} : wp d 4 Q 12 L (v0 :: .ref b :: st) w cn sn = (kd w b = 5 ∧ catS st ≤ 8 ∧ wpD d 48 [.ref b, v0] w (fun v w' => wp d 4 Q 15 L (v.toList ++ st) w' cn sn)) := w_virtual (As := [v0]) d_4_12 (by decide +kernel : cT (mO 4) 91 = some (0, 48)) rfl (by decide +kernel) rfl (by decide +kernel) rfl
theorem d_4_15 : decode (mB 4) 15 = .ok (.aload_n 0, 1) := by decide +kernel
theorem s_4_15 {d : Nat} {Q : wQ} {L : List (Option Value)} {st : List Value} {w : aw} {cn sn : Nat} {v : Nat} : wp d 4 Q 15 (some (.ref v) :: L) st w cn sn = wp d 4 Q 16 (some (.ref v) :: L) (.ref v :: st) w cn sn := w_aload_n d_4_15 rfl
theorem d_4_16 : decode (mB 4) 16 = .ok (.getfield 41, 3) := by decide +kernel
theorem s_4_16 {d : Nat} {Q : wQ} {L : List (Option Value)} {st : List Value} {w : aw} {cn sn : Nat} {a : Nat} : wp d 4 Q 16 L (.ref a :: st) w cn sn = (kd w a = 1 ∧ wp d 4 Q 19 L (fd w 2 a :: st) w cn sn) := w_getfield d_4_16 (by decide +kernel : fT (mO 4) 41 = some (0, 2))
theorem d_4_19 : decode (mB 4) 19 = .ok (.getfield 95, 3) := by decide +kernel
theorem s_4_19 {d : Nat} {Q : wQ} {L : List (Option Value)} {st : List Value} {w : aw} {cn sn : Nat} {a : Nat} : wp d 4 Q 19 L (.ref a :: st) w cn sn = (kd w a = 5 ∧ wp d 4 Q 22 L (fd w 267 a :: st) w cn sn) := w_getfield d_4_19 (by decide +kernel : fT (mO 4) 95 = some (4, 11))
theorem d_4_22 : decode (mB 4) 22 = .ok (.ifCond .eq 5, 3) := by decide +kernel
theorem s_4_22 {d : Nat} {Q : wQ} {L : List (Option Value)} {st : List Value} {w : aw} {cn sn : Nat} {x : Int32} : wp d 4 Q 22 L (.int x :: st) w cn sn = ((x = 0 → wp d 4 Q 27 L st w cn sn) ∧ (¬ x = 0 → wp d 4 Q 25 L st w cn sn)) := w_ifeq d_4_22 (by decide)
theorem d_4_25 : decode (mB 4) 25 = .ok (.iconst 1, 1) := by decide +kernel
theorem s_4_25 {d : Nat} {Q : wQ} {L : List (Option Value)} {st : List Value} {w : aw} {cn sn : Nat}  : wp d 4 Q 25 L st w cn sn = wp d 4 Q 26 L (.int 1 :: st) w cn sn := w_iconst d_4_25 (by decide)
theorem d_4_26 : decode (mB 4) 26 = .ok (.ireturn, 1) := by decide +kernel
theorem s_4_26 {d : Nat} {Q : wQ} {L : List (Option Value)} {w : aw} {cn sn : Nat} {v : Int32} : wp d 4 Q 26 L [.int v] w cn sn = Q (some (.int v)) w := w_ireturn d_4_26 rfl
theorem d_4_27 : decode (mB 4) 27 = .ok (.aload_n 0, 1) := by decide +kernel
theorem s_4_27 {d : Nat} {Q : wQ} {L : List (Option Value)} {st : List Value} {w : aw} {cn sn : Nat} {v : Nat} : wp d 4 Q 27 (some (.ref v) :: L) st w cn sn = wp d 4 Q 28 (some (.ref v) :: L) (.ref v :: st) w cn sn := w_aload_n d_4_27 rfl
theorem d_4_28 : decode (mB 4) 28 = .ok (.getfield 41, 3) := by decide +kernel
theorem s_4_28 {d : Nat} {Q : wQ} {L : List (Option Value)} {st : List Value} {w : aw} {cn sn : Nat} {a : Nat} : wp d 4 Q 28 L (.ref a :: st) w cn sn = (kd w a = 1 ∧ wp d 4 Q 31 L (fd w 2 a :: st) w cn sn) := w_getfield d_4_28 (by decide +kernel : fT (mO 4) 41 = some (0, 2))
theorem d_4_31 : decode (mB 4) 31 = .ok (.iload_n 1, 1) := by decide +kernel
theorem s_4_31 {d : Nat} {Q : wQ} {L : List (Option Value)} {st : List Value} {w : aw} {cn sn : Nat} {a0 : Option Value} {v : Int32} : wp d 4 Q 31 (a0 :: some (.int v) :: L) st w cn sn = wp d 4 Q 32 (a0 :: some (.int v) :: L) (.int v :: st) w cn sn := w_iload_n d_4_31 rfl
theorem d_4_32 : decode (mB 4) 32 = .ok (.iload_n 2, 1) := by decide +kernel
theorem s_4_32 {d : Nat} {Q : wQ} {L : List (Option Value)} {st : List Value} {w : aw} {cn sn : Nat} {a0 a1 : Option Value} {v : Int32} : wp d 4 Q 32 (a0 :: a1 :: some (.int v) :: L) st w cn sn = wp d 4 Q 33 (a0 :: a1 :: some (.int v) :: L) (.int v :: st) w cn sn := w_iload_n d_4_32 rfl
theorem d_4_33 : decode (mB 4) 33 = .ok (.invokevirtual 76, 3) := by decide +kernel
theorem s_4_33 {d : Nat} {Q : wQ} {L : List (Option Value)} {st : List Value} {w : aw} {cn sn : Nat} {v0 v1 : Value} {b : Nat} : wp d 4 Q 33 L (v1 :: v0 :: .ref b :: st) w cn sn = (kd w b = 5 ∧ catS st ≤ 8 ∧ wpD d 46 [.ref b, v0, v1] w (fun v w' => wp d 4 Q 36 L (v.toList ++ st) w' cn sn)) := w_virtual (As := [v0, v1]) d_4_33 (by decide +kernel : cT (mO 4) 76 = some (0, 46)) rfl (by decide +kernel) rfl (by decide +kernel) rfl
theorem d_4_36 : decode (mB 4) 36 = .ok (.aload_n 0, 1) := by decide +kernel
theorem s_4_36 {d : Nat} {Q : wQ} {L : List (Option Value)} {st : List Value} {w : aw} {cn sn : Nat} {v : Nat} : wp d 4 Q 36 (some (.ref v) :: L) st w cn sn = wp d 4 Q 37 (some (.ref v) :: L) (.ref v :: st) w cn sn := w_aload_n d_4_36 rfl
theorem d_4_37 : decode (mB 4) 37 = .ok (.invokevirtual 99, 3) := by decide +kernel
theorem s_4_37 {d : Nat} {Q : wQ} {L : List (Option Value)} {st : List Value} {w : aw} {cn sn : Nat} {b : Nat} : wp d 4 Q 37 L (.ref b :: st) w cn sn = (kd w b = 1 ∧ catS st ≤ 8 ∧ wpD d 6 [.ref b] w (fun v w' => wp d 4 Q 40 L (v.toList ++ st) w' cn sn)) := w_virtual (As := []) d_4_37 (by decide +kernel : cT (mO 4) 99 = some (0, 6)) rfl (by decide +kernel) rfl (by decide +kernel) rfl
theorem d_4_40 : decode (mB 4) 40 = .ok (.istore_n 3, 1) := by decide +kernel
theorem s_4_40 {d : Nat} {Q : wQ} {L : List (Option Value)} {st : List Value} {w : aw} {cn sn : Nat} {a0 a1 a2 a3 : Option Value} {v : Int32} : wp d 4 Q 40 (a0 :: a1 :: a2 :: a3 :: L) (.int v :: st) w cn sn = wp d 4 Q 41 (a0 :: a1 :: clr a2 :: some (.int v) :: L) st w cn sn := w_istore_n d_4_40 (Nat.le_add_left 4 _) rfl
theorem d_4_41 : decode (mB 4) 41 = .ok (.iload_n 3, 1) := by decide +kernel
theorem s_4_41 {d : Nat} {Q : wQ} {L : List (Option Value)} {st : List Value} {w : aw} {cn sn : Nat} {a0 a1 a2 : Option Value} {v : Int32} : wp d 4 Q 41 (a0 :: a1 :: a2 :: some (.int v) :: L) st w cn sn = wp d 4 Q 42 (a0 :: a1 :: a2 :: some (.int v) :: L) (.int v :: st) w cn sn := w_iload_n d_4_41 rfl
theorem d_4_42 : decode (mB 4) 42 = .ok (.ifCond .eq 5, 3) := by decide +kernel
theorem s_4_42 {d : Nat} {Q : wQ} {L : List (Option Value)} {st : List Value} {w : aw} {cn sn : Nat} {x : Int32} : wp d 4 Q 42 L (.int x :: st) w cn sn = ((x = 0 → wp d 4 Q 47 L st w cn sn) ∧ (¬ x = 0 → wp d 4 Q 45 L st w cn sn)) := w_ifeq d_4_42 (by decide)
theorem d_4_45 : decode (mB 4) 45 = .ok (.iload_n 3, 1) := by decide +kernel
theorem s_4_45 {d : Nat} {Q : wQ} {L : List (Option Value)} {st : List Value} {w : aw} {cn sn : Nat} {a0 a1 a2 : Option Value} {v : Int32} : wp d 4 Q 45 (a0 :: a1 :: a2 :: some (.int v) :: L) st w cn sn = wp d 4 Q 46 (a0 :: a1 :: a2 :: some (.int v) :: L) (.int v :: st) w cn sn := w_iload_n d_4_45 rfl
theorem d_4_46 : decode (mB 4) 46 = .ok (.ireturn, 1) := by decide +kernel
theorem s_4_46 {d : Nat} {Q : wQ} {L : List (Option Value)} {w : aw} {cn sn : Nat} {v : Int32} : wp d 4 Q 46 L [.int v] w cn sn = Q (some (.int v)) w := w_ireturn d_4_46 rfl
theorem d_4_47 : decode (mB 4) 47 = .ok (.aload_n 0, 1) := by decide +kernel
theorem s_4_47 {d : Nat} {Q : wQ} {L : List (Option Value)} {st : List Value} {w : aw} {cn sn : Nat} {v : Nat} : wp d 4 Q 47 (some (.ref v) :: L) st w cn sn = wp d 4 Q 48 (some (.ref v) :: L) (.ref v :: st) w cn sn := w_aload_n d_4_47 rfl
theorem d_4_48 : decode (mB 4) 48 = .ok (.getfield 41, 3) := by decide +kernel
theorem s_4_48 {d : Nat} {Q : wQ} {L : List (Option Value)} {st : List Value} {w : aw} {cn sn : Nat} {a : Nat} : wp d 4 Q 48 L (.ref a :: st) w cn sn = (kd w a = 1 ∧ wp d 4 Q 51 L (fd w 2 a :: st) w cn sn) := w_getfield d_4_48 (by decide +kernel : fT (mO 4) 41 = some (0, 2))
theorem d_4_51 : decode (mB 4) 51 = .ok (.aload_n 0, 1) := by decide +kernel
theorem s_4_51 {d : Nat} {Q : wQ} {L : List (Option Value)} {st : List Value} {w : aw} {cn sn : Nat} {v : Nat} : wp d 4 Q 51 (some (.ref v) :: L) st w cn sn = wp d 4 Q 52 (some (.ref v) :: L) (.ref v :: st) w cn sn := w_aload_n d_4_51 rfl
theorem d_4_52 : decode (mB 4) 52 = .ok (.getfield 64, 3) := by decide +kernel
theorem s_4_52 {d : Nat} {Q : wQ} {L : List (Option Value)} {st : List Value} {w : aw} {cn sn : Nat} {a : Nat} : wp d 4 Q 52 L (.ref a :: st) w cn sn = (kd w a = 1 ∧ wp d 4 Q 55 L (fd w 8 a :: st) w cn sn) := w_getfield d_4_52 (by decide +kernel : fT (mO 4) 64 = some (0, 8))
theorem d_4_55 : decode (mB 4) 55 = .ok (.invokevirtual 91, 3) := by decide +kernel
theorem s_4_55 {d : Nat} {Q : wQ} {L : List (Option Value)} {st : List Value} {w : aw} {cn sn : Nat} {v0 : Value} {b : Nat} : wp d 4 Q 55 L (v0 :: .ref b :: st) w cn sn = (kd w b = 5 ∧ catS st ≤ 8 ∧ wpD d 48 [.ref b, v0] w (fun v w' => wp d 4 Q 58 L (v.toList ++ st) w' cn sn)) := w_virtual (As := [v0]) d_4_55 (by decide +kernel : cT (mO 4) 91 = some (0, 48)) rfl (by decide +kernel) rfl (by decide +kernel) rfl
theorem d_4_58 : decode (mB 4) 58 = .ok (.aload_n 0, 1) := by decide +kernel
theorem s_4_58 {d : Nat} {Q : wQ} {L : List (Option Value)} {st : List Value} {w : aw} {cn sn : Nat} {v : Nat} : wp d 4 Q 58 (some (.ref v) :: L) st w cn sn = wp d 4 Q 59 (some (.ref v) :: L) (.ref v :: st) w cn sn := w_aload_n d_4_58 rfl
theorem d_4_59 : decode (mB 4) 59 = .ok (.getfield 41, 3) := by decide +kernel
theorem s_4_59 {d : Nat} {Q : wQ} {L : List (Option Value)} {st : List Value} {w : aw} {cn sn : Nat} {a : Nat} : wp d 4 Q 59 L (.ref a :: st) w cn sn = (kd w a = 1 ∧ wp d 4 Q 62 L (fd w 2 a :: st) w cn sn) := w_getfield d_4_59 (by decide +kernel : fT (mO 4) 41 = some (0, 2))
theorem d_4_62 : decode (mB 4) 62 = .ok (.getfield 102, 3) := by decide +kernel
theorem s_4_62 {d : Nat} {Q : wQ} {L : List (Option Value)} {st : List Value} {w : aw} {cn sn : Nat} {a : Nat} : wp d 4 Q 62 L (.ref a :: st) w cn sn = (kd w a = 5 ∧ wp d 4 Q 65 L (fd w 261 a :: st) w cn sn) := w_getfield d_4_62 (by decide +kernel : fT (mO 4) 102 = some (4, 5))
theorem d_4_65 : decode (mB 4) 65 = .ok (.tableswitch 92 0 2 #[27, 29, 56], 27) := by decide +kernel
theorem s_4_65 {d : Nat} {Q : wQ} {L : List (Option Value)} {st : List Value} {w : aw} {cn sn : Nat} {x : Int32} : wp d 4 Q 65 L (.int x :: st) w cn sn = ((x.toInt < 0 ∨ 2 < x.toInt → wp d 4 Q 157 L st w cn sn) ∧ ∀ (i t : Nat), ([92, 94, 121] : List Nat)[i]? = some t → x.toInt = 0 + i → wp d 4 Q t L st w cn sn) := w_table d_4_65 (by decide) (by decide) (by decide)
theorem d_4_92 : decode (mB 4) 92 = .ok (.iconst 0, 1) := by decide +kernel
theorem s_4_92 {d : Nat} {Q : wQ} {L : List (Option Value)} {st : List Value} {w : aw} {cn sn : Nat}  : wp d 4 Q 92 L st w cn sn = wp d 4 Q 93 L (.int 0 :: st) w cn sn := w_iconst d_4_92 (by decide)
theorem d_4_93 : decode (mB 4) 93 = .ok (.ireturn, 1) := by decide +kernel
theorem s_4_93 {d : Nat} {Q : wQ} {L : List (Option Value)} {w : aw} {cn sn : Nat} {v : Int32} : wp d 4 Q 93 L [.int v] w cn sn = Q (some (.int v)) w := w_ireturn d_4_93 rfl
theorem d_4_94 : decode (mB 4) 94 = .ok (.aload_n 0, 1) := by decide +kernel
theorem s_4_94 {d : Nat} {Q : wQ} {L : List (Option Value)} {st : List Value} {w : aw} {cn sn : Nat} {v : Nat} : wp d 4 Q 94 (some (.ref v) :: L) st w cn sn = wp d 4 Q 95 (some (.ref v) :: L) (.ref v :: st) w cn sn := w_aload_n d_4_94 rfl
theorem d_4_95 : decode (mB 4) 95 = .ok (.aload_n 0, 1) := by decide +kernel
theorem s_4_95 {d : Nat} {Q : wQ} {L : List (Option Value)} {st : List Value} {w : aw} {cn sn : Nat} {v : Nat} : wp d 4 Q 95 (some (.ref v) :: L) st w cn sn = wp d 4 Q 96 (some (.ref v) :: L) (.ref v :: st) w cn sn := w_aload_n d_4_95 rfl
theorem d_4_96 : decode (mB 4) 96 = .ok (.getfield 41, 3) := by decide +kernel
theorem s_4_96 {d : Nat} {Q : wQ} {L : List (Option Value)} {st : List Value} {w : aw} {cn sn : Nat} {a : Nat} : wp d 4 Q 96 L (.ref a :: st) w cn sn = (kd w a = 1 ∧ wp d 4 Q 99 L (fd w 2 a :: st) w cn sn) := w_getfield d_4_96 (by decide +kernel : fT (mO 4) 41 = some (0, 2))
theorem d_4_99 : decode (mB 4) 99 = .ok (.getfield 105, 3) := by decide +kernel
theorem s_4_99 {d : Nat} {Q : wQ} {L : List (Option Value)} {st : List Value} {w : aw} {cn sn : Nat} {a : Nat} : wp d 4 Q 99 L (.ref a :: st) w cn sn = (kd w a = 5 ∧ wp d 4 Q 102 L (fd w 266 a :: st) w cn sn) := w_getfield d_4_99 (by decide +kernel : fT (mO 4) 105 = some (4, 10))
theorem d_4_102 : decode (mB 4) 102 = .ok (.putfield 64, 3) := by decide +kernel
theorem s_4_102 {d : Nat} {Q : wQ} {L : List (Option Value)} {st : List Value} {w : aw} {cn sn : Nat} {x : Int32} {a : Nat} : wp d 4 Q 102 L (.int x :: .ref a :: st) w cn sn = (kd w a = 1 ∧ wp d 4 Q 105 L st (uF w 8 a (.int x)) cn sn) := w_putfield d_4_102 (by decide +kernel : fT (mO 4) 64 = some (0, 8)) (by decide +kernel) ok_int
theorem d_4_105 : decode (mB 4) 105 = .ok (.aload_n 0, 1) := by decide +kernel
theorem s_4_105 {d : Nat} {Q : wQ} {L : List (Option Value)} {st : List Value} {w : aw} {cn sn : Nat} {v : Nat} : wp d 4 Q 105 (some (.ref v) :: L) st w cn sn = wp d 4 Q 106 (some (.ref v) :: L) (.ref v :: st) w cn sn := w_aload_n d_4_105 rfl
theorem d_4_106 : decode (mB 4) 106 = .ok (.getfield 41, 3) := by decide +kernel
theorem s_4_106 {d : Nat} {Q : wQ} {L : List (Option Value)} {st : List Value} {w : aw} {cn sn : Nat} {a : Nat} : wp d 4 Q 106 L (.ref a :: st) w cn sn = (kd w a = 1 ∧ wp d 4 Q 109 L (fd w 2 a :: st) w cn sn) := w_getfield d_4_106 (by decide +kernel : fT (mO 4) 41 = some (0, 2))
theorem d_4_109 : decode (mB 4) 109 = .ok (.getfield 108, 3) := by decide +kernel
theorem s_4_109 {d : Nat} {Q : wQ} {L : List (Option Value)} {st : List Value} {w : aw} {cn sn : Nat} {a : Nat} : wp d 4 Q 109 L (.ref a :: st) w cn sn = (kd w a = 5 ∧ wp d 4 Q 112 L (fd w 268 a :: st) w cn sn) := w_getfield d_4_109 (by decide +kernel : fT (mO 4) 108 = some (4, 12))
theorem d_4_112 : decode (mB 4) 112 = .ok (.ifCond .eq 7, 3) := by decide +kernel
theorem s_4_112 {d : Nat} {Q : wQ} {L : List (Option Value)} {st : List Value} {w : aw} {cn sn : Nat} {x : Int32} : wp d 4 Q 112 L (.int x :: st) w cn sn = ((x = 0 → wp d 4 Q 119 L st w cn sn) ∧ (¬ x = 0 → wp d 4 Q 115 L st w cn sn)) := w_ifeq d_4_112 (by decide)
theorem d_4_115 : decode (mB 4) 115 = .ok (.iconst 2, 1) := by decide +kernel
theorem s_4_115 {d : Nat} {Q : wQ} {L : List (Option Value)} {st : List Value} {w : aw} {cn sn : Nat}  : wp d 4 Q 115 L st w cn sn = wp d 4 Q 116 L (.int 2 :: st) w cn sn := w_iconst d_4_115 (by decide)
theorem d_4_116 : decode (mB 4) 116 = .ok (.goto 4, 3) := by decide +kernel
theorem s_4_116 {d : Nat} {Q : wQ} {L : List (Option Value)} {st : List Value} {w : aw} {cn sn : Nat}  : wp d 4 Q 116 L st w cn sn = wp d 4 Q 120 L st w cn sn := w_goto d_4_116 (by decide)
theorem d_4_119 : decode (mB 4) 119 = .ok (.iconst 0, 1) := by decide +kernel
theorem s_4_119 {d : Nat} {Q : wQ} {L : List (Option Value)} {st : List Value} {w : aw} {cn sn : Nat}  : wp d 4 Q 119 L st w cn sn = wp d 4 Q 120 L (.int 0 :: st) w cn sn := w_iconst d_4_119 (by decide)
theorem d_4_120 : decode (mB 4) 120 = .ok (.ireturn, 1) := by decide +kernel
theorem s_4_120 {d : Nat} {Q : wQ} {L : List (Option Value)} {w : aw} {cn sn : Nat} {v : Int32} : wp d 4 Q 120 L [.int v] w cn sn = Q (some (.int v)) w := w_ireturn d_4_120 rfl
theorem d_4_121 : decode (mB 4) 121 = .ok (.aload_n 0, 1) := by decide +kernel
theorem s_4_121 {d : Nat} {Q : wQ} {L : List (Option Value)} {st : List Value} {w : aw} {cn sn : Nat} {v : Nat} : wp d 4 Q 121 (some (.ref v) :: L) st w cn sn = wp d 4 Q 122 (some (.ref v) :: L) (.ref v :: st) w cn sn := w_aload_n d_4_121 rfl
theorem d_4_122 : decode (mB 4) 122 = .ok (.getfield 41, 3) := by decide +kernel
theorem s_4_122 {d : Nat} {Q : wQ} {L : List (Option Value)} {st : List Value} {w : aw} {cn sn : Nat} {a : Nat} : wp d 4 Q 122 L (.ref a :: st) w cn sn = (kd w a = 1 ∧ wp d 4 Q 125 L (fd w 2 a :: st) w cn sn) := w_getfield d_4_122 (by decide +kernel : fT (mO 4) 41 = some (0, 2))
theorem d_4_125 : decode (mB 4) 125 = .ok (.getfield 108, 3) := by decide +kernel
theorem s_4_125 {d : Nat} {Q : wQ} {L : List (Option Value)} {st : List Value} {w : aw} {cn sn : Nat} {a : Nat} : wp d 4 Q 125 L (.ref a :: st) w cn sn = (kd w a = 5 ∧ wp d 4 Q 128 L (fd w 268 a :: st) w cn sn) := w_getfield d_4_125 (by decide +kernel : fT (mO 4) 108 = some (4, 12))
theorem d_4_128 : decode (mB 4) 128 = .ok (.ifCond .eq 7, 3) := by decide +kernel
theorem s_4_128 {d : Nat} {Q : wQ} {L : List (Option Value)} {st : List Value} {w : aw} {cn sn : Nat} {x : Int32} : wp d 4 Q 128 L (.int x :: st) w cn sn = ((x = 0 → wp d 4 Q 135 L st w cn sn) ∧ (¬ x = 0 → wp d 4 Q 131 L st w cn sn)) := w_ifeq d_4_128 (by decide)
theorem d_4_131 : decode (mB 4) 131 = .ok (.iconst 2, 1) := by decide +kernel
theorem s_4_131 {d : Nat} {Q : wQ} {L : List (Option Value)} {st : List Value} {w : aw} {cn sn : Nat}  : wp d 4 Q 131 L st w cn sn = wp d 4 Q 132 L (.int 2 :: st) w cn sn := w_iconst d_4_131 (by decide)
theorem d_4_132 : decode (mB 4) 132 = .ok (.goto 24, 3) := by decide +kernel
theorem s_4_132 {d : Nat} {Q : wQ} {L : List (Option Value)} {st : List Value} {w : aw} {cn sn : Nat}  : wp d 4 Q 132 L st w cn sn = wp d 4 Q 156 L st w cn sn := w_goto d_4_132 (by decide)
theorem d_4_135 : decode (mB 4) 135 = .ok (.aload_n 0, 1) := by decide +kernel
theorem s_4_135 {d : Nat} {Q : wQ} {L : List (Option Value)} {st : List Value} {w : aw} {cn sn : Nat} {v : Nat} : wp d 4 Q 135 (some (.ref v) :: L) st w cn sn = wp d 4 Q 136 (some (.ref v) :: L) (.ref v :: st) w cn sn := w_aload_n d_4_135 rfl
theorem d_4_136 : decode (mB 4) 136 = .ok (.getfield 12, 3) := by decide +kernel
theorem s_4_136 {d : Nat} {Q : wQ} {L : List (Option Value)} {st : List Value} {w : aw} {cn sn : Nat} {a : Nat} : wp d 4 Q 136 L (.ref a :: st) w cn sn = (kd w a = 1 ∧ wp d 4 Q 139 L (fd w 1 a :: st) w cn sn) := w_getfield d_4_136 (by decide +kernel : fT (mO 4) 12 = some (0, 1))
theorem d_4_139 : decode (mB 4) 139 = .ok (.aload_n 0, 1) := by decide +kernel
theorem s_4_139 {d : Nat} {Q : wQ} {L : List (Option Value)} {st : List Value} {w : aw} {cn sn : Nat} {v : Nat} : wp d 4 Q 139 (some (.ref v) :: L) st w cn sn = wp d 4 Q 140 (some (.ref v) :: L) (.ref v :: st) w cn sn := w_aload_n d_4_139 rfl
theorem d_4_140 : decode (mB 4) 140 = .ok (.getfield 41, 3) := by decide +kernel
theorem s_4_140 {d : Nat} {Q : wQ} {L : List (Option Value)} {st : List Value} {w : aw} {cn sn : Nat} {a : Nat} : wp d 4 Q 140 L (.ref a :: st) w cn sn = (kd w a = 1 ∧ wp d 4 Q 143 L (fd w 2 a :: st) w cn sn) := w_getfield d_4_140 (by decide +kernel : fT (mO 4) 41 = some (0, 2))
theorem d_4_143 : decode (mB 4) 143 = .ok (.getfield 111, 3) := by decide +kernel
theorem s_4_143 {d : Nat} {Q : wQ} {L : List (Option Value)} {st : List Value} {w : aw} {cn sn : Nat} {a : Nat} : wp d 4 Q 143 L (.ref a :: st) w cn sn = (kd w a = 5 ∧ wp d 4 Q 146 L (fd w 262 a :: st) w cn sn) := w_getfield d_4_143 (by decide +kernel : fT (mO 4) 111 = some (4, 6))
theorem d_4_146 : decode (mB 4) 146 = .ok (.aload_n 0, 1) := by decide +kernel
theorem s_4_146 {d : Nat} {Q : wQ} {L : List (Option Value)} {st : List Value} {w : aw} {cn sn : Nat} {v : Nat} : wp d 4 Q 146 (some (.ref v) :: L) st w cn sn = wp d 4 Q 147 (some (.ref v) :: L) (.ref v :: st) w cn sn := w_aload_n d_4_146 rfl
theorem d_4_147 : decode (mB 4) 147 = .ok (.getfield 41, 3) := by decide +kernel
theorem s_4_147 {d : Nat} {Q : wQ} {L : List (Option Value)} {st : List Value} {w : aw} {cn sn : Nat} {a : Nat} : wp d 4 Q 147 L (.ref a :: st) w cn sn = (kd w a = 1 ∧ wp d 4 Q 150 L (fd w 2 a :: st) w cn sn) := w_getfield d_4_147 (by decide +kernel : fT (mO 4) 41 = some (0, 2))
theorem d_4_150 : decode (mB 4) 150 = .ok (.getfield 105, 3) := by decide +kernel
theorem s_4_150 {d : Nat} {Q : wQ} {L : List (Option Value)} {st : List Value} {w : aw} {cn sn : Nat} {a : Nat} : wp d 4 Q 150 L (.ref a :: st) w cn sn = (kd w a = 5 ∧ wp d 4 Q 153 L (fd w 266 a :: st) w cn sn) := w_getfield d_4_150 (by decide +kernel : fT (mO 4) 105 = some (4, 10))
theorem d_4_153 : decode (mB 4) 153 = .ok (.invokevirtual 115, 3) := by decide +kernel
theorem s_4_153 {d : Nat} {Q : wQ} {L : List (Option Value)} {st : List Value} {w : aw} {cn sn : Nat} {v0 v1 : Value} {b : Nat} : wp d 4 Q 153 L (v1 :: v0 :: .ref b :: st) w cn sn = (kd w b = 4 ∧ catS st ≤ 8 ∧ wpD d 38 [.ref b, v0, v1] w (fun v w' => wp d 4 Q 156 L (v.toList ++ st) w' cn sn)) := w_virtual (As := [v0, v1]) d_4_153 (by decide +kernel : cT (mO 4) 115 = some (0, 38)) rfl (by decide +kernel) rfl (by decide +kernel) rfl
theorem d_4_156 : decode (mB 4) 156 = .ok (.ireturn, 1) := by decide +kernel
theorem s_4_156 {d : Nat} {Q : wQ} {L : List (Option Value)} {w : aw} {cn sn : Nat} {v : Int32} : wp d 4 Q 156 L [.int v] w cn sn = Q (some (.int v)) w := w_ireturn d_4_156 rfl
theorem d_4_157 : decode (mB 4) 157 = .ok (.aload_n 0, 1) := by decide +kernel
theorem s_4_157 {d : Nat} {Q : wQ} {L : List (Option Value)} {st : List Value} {w : aw} {cn sn : Nat} {v : Nat} : wp d 4 Q 157 (some (.ref v) :: L) st w cn sn = wp d 4 Q 158 (some (.ref v) :: L) (.ref v :: st) w cn sn := w_aload_n d_4_157 rfl
theorem d_4_158 : decode (mB 4) 158 = .ok (.aload_n 0, 1) := by decide +kernel
theorem s_4_158 {d : Nat} {Q : wQ} {L : List (Option Value)} {st : List Value} {w : aw} {cn sn : Nat} {v : Nat} : wp d 4 Q 158 (some (.ref v) :: L) st w cn sn = wp d 4 Q 159 (some (.ref v) :: L) (.ref v :: st) w cn sn := w_aload_n d_4_158 rfl
theorem d_4_159 : decode (mB 4) 159 = .ok (.getfield 64, 3) := by decide +kernel
theorem s_4_159 {d : Nat} {Q : wQ} {L : List (Option Value)} {st : List Value} {w : aw} {cn sn : Nat} {a : Nat} : wp d 4 Q 159 L (.ref a :: st) w cn sn = (kd w a = 1 ∧ wp d 4 Q 162 L (fd w 8 a :: st) w cn sn) := w_getfield d_4_159 (by decide +kernel : fT (mO 4) 64 = some (0, 8))
theorem d_4_162 : decode (mB 4) 162 = .ok (.iconst 1, 1) := by decide +kernel
theorem s_4_162 {d : Nat} {Q : wQ} {L : List (Option Value)} {st : List Value} {w : aw} {cn sn : Nat}  : wp d 4 Q 162 L st w cn sn = wp d 4 Q 163 L (.int 1 :: st) w cn sn := w_iconst d_4_162 (by decide)
theorem d_4_163 : decode (mB 4) 163 = .ok (.iadd, 1) := by decide +kernel
theorem s_4_163 {d : Nat} {Q : wQ} {L : List (Option Value)} {st : List Value} {w : aw} {cn sn : Nat} {a b : Int32} : wp d 4 Q 163 L (.int b :: .int a :: st) w cn sn = wp d 4 Q 164 L (.int (a + b) :: st) w cn sn := wp_row d_4_163 _ _ _ _ _
theorem d_4_164 : decode (mB 4) 164 = .ok (.sipush 4095, 3) := by decide +kernel
theorem s_4_164 {d : Nat} {Q : wQ} {L : List (Option Value)} {st : List Value} {w : aw} {cn sn : Nat}  : wp d 4 Q 164 L st w cn sn = wp d 4 Q 167 L (.int 4095 :: st) w cn sn := w_sipush d_4_164 (by decide)
theorem d_4_167 : decode (mB 4) 167 = .ok (.iand, 1) := by decide +kernel
theorem s_4_167 {d : Nat} {Q : wQ} {L : List (Option Value)} {st : List Value} {w : aw} {cn sn : Nat} {a b : Int32} : wp d 4 Q 167 L (.int b :: .int a :: st) w cn sn = wp d 4 Q 168 L (.int (a &&& b) :: st) w cn sn := wp_row d_4_167 _ _ _ _ _
theorem d_4_168 : decode (mB 4) 168 = .ok (.putfield 64, 3) := by decide +kernel
theorem s_4_168 {d : Nat} {Q : wQ} {L : List (Option Value)} {st : List Value} {w : aw} {cn sn : Nat} {x : Int32} {a : Nat} : wp d 4 Q 168 L (.int x :: .ref a :: st) w cn sn = (kd w a = 1 ∧ wp d 4 Q 171 L st (uF w 8 a (.int x)) cn sn) := w_putfield d_4_168 (by decide +kernel : fT (mO 4) 64 = some (0, 8)) (by decide +kernel) ok_int
theorem d_4_171 : decode (mB 4) 171 = .ok (.iconst 0, 1) := by decide +kernel
theorem s_4_171 {d : Nat} {Q : wQ} {L : List (Option Value)} {st : List Value} {w : aw} {cn sn : Nat}  : wp d 4 Q 171 L st w cn sn = wp d 4 Q 172 L (.int 0 :: st) w cn sn := w_iconst d_4_171 (by decide)
theorem d_4_172 : decode (mB 4) 172 = .ok (.ireturn, 1) := by decide +kernel
theorem s_4_172 {d : Nat} {Q : wQ} {L : List (Option Value)} {w : aw} {cn sn : Nat} {v : Int32} : wp d 4 Q 172 L [.int v] w cn sn = Q (some (.int v)) w := w_ireturn d_4_172 rfl
theorem d_5_0 : decode (mB 5) 0 = .ok (.iconst 1, 1) := by decide +kernel
theorem s_5_0 {d : Nat} {Q : wQ} {L : List (Option Value)} {st : List Value} {w : aw} {cn sn : Nat}  : wp d 5 Q 0 L st w cn sn = wp d 5 Q 1 L (.int 1 :: st) w cn sn := w_iconst d_5_0 (by decide)
theorem d_5_1 : decode (mB 5) 1 = .ok (.istore_n 1, 1) := by decide +kernel
theorem s_5_1 {d : Nat} {Q : wQ} {L : List (Option Value)} {st : List Value} {w : aw} {cn sn : Nat} {a0 a1 : Option Value} {v : Int32} : wp d 5 Q 1 (a0 :: a1 :: L) (.int v :: st) w cn sn = wp d 5 Q 2 (clr a0 :: some (.int v) :: L) st w cn sn := w_istore_n d_5_1 (Nat.le_add_left 2 _) rfl
theorem d_5_2 : decode (mB 5) 2 = .ok (.iconst 0, 1) := by decide +kernel
theorem s_5_2 {d : Nat} {Q : wQ} {L : List (Option Value)} {st : List Value} {w : aw} {cn sn : Nat}  : wp d 5 Q 2 L st w cn sn = wp d 5 Q 3 L (.int 0 :: st) w cn sn := w_iconst d_5_2 (by decide)
theorem d_5_3 : decode (mB 5) 3 = .ok (.istore_n 2, 1) := by decide +kernel
theorem s_5_3 {d : Nat} {Q : wQ} {L : List (Option Value)} {st : List Value} {w : aw} {cn sn : Nat} {a0 a1 a2 : Option Value} {v : Int32} : wp d 5 Q 3 (a0 :: a1 :: a2 :: L) (.int v :: st) w cn sn = wp d 5 Q 4 (a0 :: clr a1 :: some (.int v) :: L) st w cn sn := w_istore_n d_5_3 (Nat.le_add_left 3 _) rfl
theorem d_5_4 : decode (mB 5) 4 = .ok (.iload_n 2, 1) := by decide +kernel
theorem s_5_4 {d : Nat} {Q : wQ} {L : List (Option Value)} {st : List Value} {w : aw} {cn sn : Nat} {a0 a1 : Option Value} {v : Int32} : wp d 5 Q 4 (a0 :: a1 :: some (.int v) :: L) st w cn sn = wp d 5 Q 5 (a0 :: a1 :: some (.int v) :: L) (.int v :: st) w cn sn := w_iload_n d_5_4 rfl
theorem d_5_5 : decode (mB 5) 5 = .ok (.aload_n 0, 1) := by decide +kernel
theorem s_5_5 {d : Nat} {Q : wQ} {L : List (Option Value)} {st : List Value} {w : aw} {cn sn : Nat} {v : Nat} : wp d 5 Q 5 (some (.ref v) :: L) st w cn sn = wp d 5 Q 6 (some (.ref v) :: L) (.ref v :: st) w cn sn := w_aload_n d_5_5 rfl
theorem d_5_6 : decode (mB 5) 6 = .ok (.getfield 32, 3) := by decide +kernel
theorem s_5_6 {d : Nat} {Q : wQ} {L : List (Option Value)} {st : List Value} {w : aw} {cn sn : Nat} {a : Nat} : wp d 5 Q 6 L (.ref a :: st) w cn sn = (kd w a = 1 ∧ wp d 5 Q 9 L (fd w 0 a :: st) w cn sn) := w_getfield d_5_6 (by decide +kernel : fT (mO 5) 32 = some (0, 0))
theorem d_5_9 : decode (mB 5) 9 = .ok (.getfield 67, 3) := by decide +kernel
theorem s_5_9 {d : Nat} {Q : wQ} {L : List (Option Value)} {st : List Value} {w : aw} {cn sn : Nat} {a : Nat} : wp d 5 Q 9 L (.ref a :: st) w cn sn = (kd w a = 6 ∧ wp d 5 Q 12 L (fd w 321 a :: st) w cn sn) := w_getfield d_5_9 (by decide +kernel : fT (mO 5) 67 = some (5, 1))
theorem d_5_12 : decode (mB 5) 12 = .ok (.if_icmp .ge 21, 3) := by decide +kernel
theorem s_5_12 {d : Nat} {Q : wQ} {L : List (Option Value)} {st : List Value} {w : aw} {cn sn : Nat} {a b : Int32} : wp d 5 Q 12 L (.int b :: .int a :: st) w cn sn = ((b ≤ a → wp d 5 Q 33 L st w cn sn) ∧ (¬ b ≤ a → wp d 5 Q 15 L st w cn sn)) := w_icge d_5_12 (by decide)
theorem d_5_15 : decode (mB 5) 15 = .ok (.iload_n 1, 1) := by decide +kernel
theorem s_5_15 {d : Nat} {Q : wQ} {L : List (Option Value)} {st : List Value} {w : aw} {cn sn : Nat} {a0 : Option Value} {v : Int32} : wp d 5 Q 15 (a0 :: some (.int v) :: L) st w cn sn = wp d 5 Q 16 (a0 :: some (.int v) :: L) (.int v :: st) w cn sn := w_iload_n d_5_15 rfl
theorem d_5_16 : decode (mB 5) 16 = .ok (.ifCond .eq 17, 3) := by decide +kernel
theorem s_5_16 {d : Nat} {Q : wQ} {L : List (Option Value)} {st : List Value} {w : aw} {cn sn : Nat} {x : Int32} : wp d 5 Q 16 L (.int x :: st) w cn sn = ((x = 0 → wp d 5 Q 33 L st w cn sn) ∧ (¬ x = 0 → wp d 5 Q 19 L st w cn sn)) := w_ifeq d_5_16 (by decide)
theorem d_5_19 : decode (mB 5) 19 = .ok (.aload_n 0, 1) := by decide +kernel
theorem s_5_19 {d : Nat} {Q : wQ} {L : List (Option Value)} {st : List Value} {w : aw} {cn sn : Nat} {v : Nat} : wp d 5 Q 19 (some (.ref v) :: L) st w cn sn = wp d 5 Q 20 (some (.ref v) :: L) (.ref v :: st) w cn sn := w_aload_n d_5_19 rfl
theorem d_5_20 : decode (mB 5) 20 = .ok (.getfield 41, 3) := by decide +kernel
theorem s_5_20 {d : Nat} {Q : wQ} {L : List (Option Value)} {st : List Value} {w : aw} {cn sn : Nat} {a : Nat} : wp d 5 Q 20 L (.ref a :: st) w cn sn = (kd w a = 1 ∧ wp d 5 Q 23 L (fd w 2 a :: st) w cn sn) := w_getfield d_5_20 (by decide +kernel : fT (mO 5) 41 = some (0, 2))
theorem d_5_23 : decode (mB 5) 23 = .ok (.invokevirtual 119, 3) := by decide +kernel
theorem s_5_23 {d : Nat} {Q : wQ} {L : List (Option Value)} {st : List Value} {w : aw} {cn sn : Nat} {b : Nat} : wp d 5 Q 23 L (.ref b :: st) w cn sn = (kd w b = 5 ∧ catS st ≤ 8 ∧ wpD d 47 [.ref b] w (fun v w' => wp d 5 Q 26 L (v.toList ++ st) w' cn sn)) := w_virtual (As := []) d_5_23 (by decide +kernel : cT (mO 5) 119 = some (0, 47)) rfl (by decide +kernel) rfl (by decide +kernel) rfl
theorem d_5_26 : decode (mB 5) 26 = .ok (.istore_n 1, 1) := by decide +kernel
theorem s_5_26 {d : Nat} {Q : wQ} {L : List (Option Value)} {st : List Value} {w : aw} {cn sn : Nat} {a0 a1 : Option Value} {v : Int32} : wp d 5 Q 26 (a0 :: a1 :: L) (.int v :: st) w cn sn = wp d 5 Q 27 (clr a0 :: some (.int v) :: L) st w cn sn := w_istore_n d_5_26 (Nat.le_add_left 2 _) rfl
theorem d_5_27 : decode (mB 5) 27 = .ok (.iinc 2 1, 3) := by decide +kernel
theorem s_5_27 {d : Nat} {Q : wQ} {L : List (Option Value)} {st : List Value} {w : aw} {cn sn : Nat} {a0 a1 : Option Value} {v : Int32} : wp d 5 Q 27 (a0 :: a1 :: some (.int v) :: L) st w cn sn = wp d 5 Q 30 (a0 :: clr a1 :: some (.int (v + 1)) :: L) st w cn sn := w_iinc d_5_27 rfl (by decide) rfl
theorem d_5_30 : decode (mB 5) 30 = .ok (.goto (-26), 3) := by decide +kernel
theorem s_5_30 {d : Nat} {Q : wQ} {L : List (Option Value)} {st : List Value} {w : aw} {cn sn : Nat}  : wp d 5 Q 30 L st w cn sn = wp d 5 Q 4 L st w cn sn := w_goto d_5_30 (by decide)
theorem d_5_33 : decode (mB 5) 33 = .ok (.return_, 1) := by decide +kernel
theorem s_5_33 {d : Nat} {Q : wQ} {L : List (Option Value)} {w : aw} {cn sn : Nat}  : wp d 5 Q 33 L [] w cn sn = Q none w := w_return d_5_33 rfl
theorem d_6_0 : decode (mB 6) 0 = .ok (.iconst 0, 1) := by decide +kernel
theorem s_6_0 {d : Nat} {Q : wQ} {L : List (Option Value)} {st : List Value} {w : aw} {cn sn : Nat}  : wp d 6 Q 0 L st w cn sn = wp d 6 Q 1 L (.int 0 :: st) w cn sn := w_iconst d_6_0 (by decide)
theorem d_6_1 : decode (mB 6) 1 = .ok (.istore_n 1, 1) := by decide +kernel
theorem s_6_1 {d : Nat} {Q : wQ} {L : List (Option Value)} {st : List Value} {w : aw} {cn sn : Nat} {a0 a1 : Option Value} {v : Int32} : wp d 6 Q 1 (a0 :: a1 :: L) (.int v :: st) w cn sn = wp d 6 Q 2 (clr a0 :: some (.int v) :: L) st w cn sn := w_istore_n d_6_1 (Nat.le_add_left 2 _) rfl
theorem d_6_2 : decode (mB 6) 2 = .ok (.iconst 0, 1) := by decide +kernel
theorem s_6_2 {d : Nat} {Q : wQ} {L : List (Option Value)} {st : List Value} {w : aw} {cn sn : Nat}  : wp d 6 Q 2 L st w cn sn = wp d 6 Q 3 L (.int 0 :: st) w cn sn := w_iconst d_6_2 (by decide)
theorem d_6_3 : decode (mB 6) 3 = .ok (.istore_n 2, 1) := by decide +kernel
theorem s_6_3 {d : Nat} {Q : wQ} {L : List (Option Value)} {st : List Value} {w : aw} {cn sn : Nat} {a0 a1 a2 : Option Value} {v : Int32} : wp d 6 Q 3 (a0 :: a1 :: a2 :: L) (.int v :: st) w cn sn = wp d 6 Q 4 (a0 :: clr a1 :: some (.int v) :: L) st w cn sn := w_istore_n d_6_3 (Nat.le_add_left 3 _) rfl
theorem d_6_4 : decode (mB 6) 4 = .ok (.iload_n 2, 1) := by decide +kernel
theorem s_6_4 {d : Nat} {Q : wQ} {L : List (Option Value)} {st : List Value} {w : aw} {cn sn : Nat} {a0 a1 : Option Value} {v : Int32} : wp d 6 Q 4 (a0 :: a1 :: some (.int v) :: L) st w cn sn = wp d 6 Q 5 (a0 :: a1 :: some (.int v) :: L) (.int v :: st) w cn sn := w_iload_n d_6_4 rfl
theorem d_6_5 : decode (mB 6) 5 = .ok (.aload_n 0, 1) := by decide +kernel
theorem s_6_5 {d : Nat} {Q : wQ} {L : List (Option Value)} {st : List Value} {w : aw} {cn sn : Nat} {v : Nat} : wp d 6 Q 5 (some (.ref v) :: L) st w cn sn = wp d 6 Q 6 (some (.ref v) :: L) (.ref v :: st) w cn sn := w_aload_n d_6_5 rfl
theorem d_6_6 : decode (mB 6) 6 = .ok (.getfield 32, 3) := by decide +kernel
theorem s_6_6 {d : Nat} {Q : wQ} {L : List (Option Value)} {st : List Value} {w : aw} {cn sn : Nat} {a : Nat} : wp d 6 Q 6 L (.ref a :: st) w cn sn = (kd w a = 1 ∧ wp d 6 Q 9 L (fd w 0 a :: st) w cn sn) := w_getfield d_6_6 (by decide +kernel : fT (mO 6) 32 = some (0, 0))
theorem d_6_9 : decode (mB 6) 9 = .ok (.getfield 67, 3) := by decide +kernel
theorem s_6_9 {d : Nat} {Q : wQ} {L : List (Option Value)} {st : List Value} {w : aw} {cn sn : Nat} {a : Nat} : wp d 6 Q 9 L (.ref a :: st) w cn sn = (kd w a = 6 ∧ wp d 6 Q 12 L (fd w 321 a :: st) w cn sn) := w_getfield d_6_9 (by decide +kernel : fT (mO 6) 67 = some (5, 1))
theorem d_6_12 : decode (mB 6) 12 = .ok (.if_icmp .ge 42, 3) := by decide +kernel
theorem s_6_12 {d : Nat} {Q : wQ} {L : List (Option Value)} {st : List Value} {w : aw} {cn sn : Nat} {a b : Int32} : wp d 6 Q 12 L (.int b :: .int a :: st) w cn sn = ((b ≤ a → wp d 6 Q 54 L st w cn sn) ∧ (¬ b ≤ a → wp d 6 Q 15 L st w cn sn)) := w_icge d_6_12 (by decide)
theorem d_6_15 : decode (mB 6) 15 = .ok (.iload_n 1, 1) := by decide +kernel
theorem s_6_15 {d : Nat} {Q : wQ} {L : List (Option Value)} {st : List Value} {w : aw} {cn sn : Nat} {a0 : Option Value} {v : Int32} : wp d 6 Q 15 (a0 :: some (.int v) :: L) st w cn sn = wp d 6 Q 16 (a0 :: some (.int v) :: L) (.int v :: st) w cn sn := w_iload_n d_6_15 rfl
theorem d_6_16 : decode (mB 6) 16 = .ok (.ifCond .ne 38, 3) := by decide +kernel
theorem s_6_16 {d : Nat} {Q : wQ} {L : List (Option Value)} {st : List Value} {w : aw} {cn sn : Nat} {x : Int32} : wp d 6 Q 16 L (.int x :: st) w cn sn = ((¬ x = 0 → wp d 6 Q 54 L st w cn sn) ∧ (x = 0 → wp d 6 Q 19 L st w cn sn)) := w_ifne d_6_16 (by decide)
theorem d_6_19 : decode (mB 6) 19 = .ok (.aload_n 0, 1) := by decide +kernel
theorem s_6_19 {d : Nat} {Q : wQ} {L : List (Option Value)} {st : List Value} {w : aw} {cn sn : Nat} {v : Nat} : wp d 6 Q 19 (some (.ref v) :: L) st w cn sn = wp d 6 Q 20 (some (.ref v) :: L) (.ref v :: st) w cn sn := w_aload_n d_6_19 rfl
theorem d_6_20 : decode (mB 6) 20 = .ok (.getfield 41, 3) := by decide +kernel
theorem s_6_20 {d : Nat} {Q : wQ} {L : List (Option Value)} {st : List Value} {w : aw} {cn sn : Nat} {a : Nat} : wp d 6 Q 20 L (.ref a :: st) w cn sn = (kd w a = 1 ∧ wp d 6 Q 23 L (fd w 2 a :: st) w cn sn) := w_getfield d_6_20 (by decide +kernel : fT (mO 6) 41 = some (0, 2))
theorem d_6_23 : decode (mB 6) 23 = .ok (.invokevirtual 119, 3) := by decide +kernel
theorem s_6_23 {d : Nat} {Q : wQ} {L : List (Option Value)} {st : List Value} {w : aw} {cn sn : Nat} {b : Nat} : wp d 6 Q 23 L (.ref b :: st) w cn sn = (kd w b = 5 ∧ catS st ≤ 8 ∧ wpD d 47 [.ref b] w (fun v w' => wp d 6 Q 26 L (v.toList ++ st) w' cn sn)) := w_virtual (As := []) d_6_23 (by decide +kernel : cT (mO 6) 119 = some (0, 47)) rfl (by decide +kernel) rfl (by decide +kernel) rfl
theorem d_6_26 : decode (mB 6) 26 = .ok (.ifCond .eq 28, 3) := by decide +kernel
theorem s_6_26 {d : Nat} {Q : wQ} {L : List (Option Value)} {st : List Value} {w : aw} {cn sn : Nat} {x : Int32} : wp d 6 Q 26 L (.int x :: st) w cn sn = ((x = 0 → wp d 6 Q 54 L st w cn sn) ∧ (¬ x = 0 → wp d 6 Q 29 L st w cn sn)) := w_ifeq d_6_26 (by decide)
theorem d_6_29 : decode (mB 6) 29 = .ok (.aload_n 0, 1) := by decide +kernel
theorem s_6_29 {d : Nat} {Q : wQ} {L : List (Option Value)} {st : List Value} {w : aw} {cn sn : Nat} {v : Nat} : wp d 6 Q 29 (some (.ref v) :: L) st w cn sn = wp d 6 Q 30 (some (.ref v) :: L) (.ref v :: st) w cn sn := w_aload_n d_6_29 rfl
theorem d_6_30 : decode (mB 6) 30 = .ok (.getfield 12, 3) := by decide +kernel
theorem s_6_30 {d : Nat} {Q : wQ} {L : List (Option Value)} {st : List Value} {w : aw} {cn sn : Nat} {a : Nat} : wp d 6 Q 30 L (.ref a :: st) w cn sn = (kd w a = 1 ∧ wp d 6 Q 33 L (fd w 1 a :: st) w cn sn) := w_getfield d_6_30 (by decide +kernel : fT (mO 6) 12 = some (0, 1))
theorem d_6_33 : decode (mB 6) 33 = .ok (.aload_n 0, 1) := by decide +kernel
theorem s_6_33 {d : Nat} {Q : wQ} {L : List (Option Value)} {st : List Value} {w : aw} {cn sn : Nat} {v : Nat} : wp d 6 Q 33 (some (.ref v) :: L) st w cn sn = wp d 6 Q 34 (some (.ref v) :: L) (.ref v :: st) w cn sn := w_aload_n d_6_33 rfl
theorem d_6_34 : decode (mB 6) 34 = .ok (.getfield 41, 3) := by decide +kernel
theorem s_6_34 {d : Nat} {Q : wQ} {L : List (Option Value)} {st : List Value} {w : aw} {cn sn : Nat} {a : Nat} : wp d 6 Q 34 L (.ref a :: st) w cn sn = (kd w a = 1 ∧ wp d 6 Q 37 L (fd w 2 a :: st) w cn sn) := w_getfield d_6_34 (by decide +kernel : fT (mO 6) 41 = some (0, 2))
theorem d_6_37 : decode (mB 6) 37 = .ok (.getfield 111, 3) := by decide +kernel
theorem s_6_37 {d : Nat} {Q : wQ} {L : List (Option Value)} {st : List Value} {w : aw} {cn sn : Nat} {a : Nat} : wp d 6 Q 37 L (.ref a :: st) w cn sn = (kd w a = 5 ∧ wp d 6 Q 40 L (fd w 262 a :: st) w cn sn) := w_getfield d_6_37 (by decide +kernel : fT (mO 6) 111 = some (4, 6))
theorem d_6_40 : decode (mB 6) 40 = .ok (.aload_n 0, 1) := by decide +kernel
theorem s_6_40 {d : Nat} {Q : wQ} {L : List (Option Value)} {st : List Value} {w : aw} {cn sn : Nat} {v : Nat} : wp d 6 Q 40 (some (.ref v) :: L) st w cn sn = wp d 6 Q 41 (some (.ref v) :: L) (.ref v :: st) w cn sn := w_aload_n d_6_40 rfl
theorem d_6_41 : decode (mB 6) 41 = .ok (.getfield 64, 3) := by decide +kernel
theorem s_6_41 {d : Nat} {Q : wQ} {L : List (Option Value)} {st : List Value} {w : aw} {cn sn : Nat} {a : Nat} : wp d 6 Q 41 L (.ref a :: st) w cn sn = (kd w a = 1 ∧ wp d 6 Q 44 L (fd w 8 a :: st) w cn sn) := w_getfield d_6_41 (by decide +kernel : fT (mO 6) 64 = some (0, 8))
theorem d_6_44 : decode (mB 6) 44 = .ok (.invokevirtual 115, 3) := by decide +kernel
theorem s_6_44 {d : Nat} {Q : wQ} {L : List (Option Value)} {st : List Value} {w : aw} {cn sn : Nat} {v0 v1 : Value} {b : Nat} : wp d 6 Q 44 L (v1 :: v0 :: .ref b :: st) w cn sn = (kd w b = 4 ∧ catS st ≤ 8 ∧ wpD d 38 [.ref b, v0, v1] w (fun v w' => wp d 6 Q 47 L (v.toList ++ st) w' cn sn)) := w_virtual (As := [v0, v1]) d_6_44 (by decide +kernel : cT (mO 6) 115 = some (0, 38)) rfl (by decide +kernel) rfl (by decide +kernel) rfl
theorem d_6_47 : decode (mB 6) 47 = .ok (.istore_n 1, 1) := by decide +kernel
theorem s_6_47 {d : Nat} {Q : wQ} {L : List (Option Value)} {st : List Value} {w : aw} {cn sn : Nat} {a0 a1 : Option Value} {v : Int32} : wp d 6 Q 47 (a0 :: a1 :: L) (.int v :: st) w cn sn = wp d 6 Q 48 (clr a0 :: some (.int v) :: L) st w cn sn := w_istore_n d_6_47 (Nat.le_add_left 2 _) rfl
theorem d_6_48 : decode (mB 6) 48 = .ok (.iinc 2 1, 3) := by decide +kernel
theorem s_6_48 {d : Nat} {Q : wQ} {L : List (Option Value)} {st : List Value} {w : aw} {cn sn : Nat} {a0 a1 : Option Value} {v : Int32} : wp d 6 Q 48 (a0 :: a1 :: some (.int v) :: L) st w cn sn = wp d 6 Q 51 (a0 :: clr a1 :: some (.int (v + 1)) :: L) st w cn sn := w_iinc d_6_48 rfl (by decide) rfl
theorem d_6_51 : decode (mB 6) 51 = .ok (.goto (-47), 3) := by decide +kernel
theorem s_6_51 {d : Nat} {Q : wQ} {L : List (Option Value)} {st : List Value} {w : aw} {cn sn : Nat}  : wp d 6 Q 51 L st w cn sn = wp d 6 Q 4 L st w cn sn := w_goto d_6_51 (by decide)
theorem d_6_54 : decode (mB 6) 54 = .ok (.iload_n 1, 1) := by decide +kernel
theorem s_6_54 {d : Nat} {Q : wQ} {L : List (Option Value)} {st : List Value} {w : aw} {cn sn : Nat} {a0 : Option Value} {v : Int32} : wp d 6 Q 54 (a0 :: some (.int v) :: L) st w cn sn = wp d 6 Q 55 (a0 :: some (.int v) :: L) (.int v :: st) w cn sn := w_iload_n d_6_54 rfl
theorem d_6_55 : decode (mB 6) 55 = .ok (.ireturn, 1) := by decide +kernel
theorem s_6_55 {d : Nat} {Q : wQ} {L : List (Option Value)} {w : aw} {cn sn : Nat} {v : Int32} : wp d 6 Q 55 L [.int v] w cn sn = Q (some (.int v)) w := w_ireturn d_6_55 rfl
theorem d_7_0 : decode (mB 7) 0 = .ok (.aload_n 0, 1) := by decide +kernel
theorem s_7_0 {d : Nat} {Q : wQ} {L : List (Option Value)} {st : List Value} {w : aw} {cn sn : Nat} {v : Nat} : wp d 7 Q 0 (some (.ref v) :: L) st w cn sn = wp d 7 Q 1 (some (.ref v) :: L) (.ref v :: st) w cn sn := w_aload_n d_7_0 rfl
theorem d_7_1 : decode (mB 7) 1 = .ok (.invokevirtual 88, 3) := by decide +kernel
theorem s_7_1 {d : Nat} {Q : wQ} {L : List (Option Value)} {st : List Value} {w : aw} {cn sn : Nat} {b : Nat} : wp d 7 Q 1 L (.ref b :: st) w cn sn = (kd w b = 1 ∧ catS st ≤ 8 ∧ wpD d 5 [.ref b] w (fun v w' => wp d 7 Q 4 L (v.toList ++ st) w' cn sn)) := w_virtual (As := []) d_7_1 (by decide +kernel : cT (mO 7) 88 = some (0, 5)) rfl (by decide +kernel) rfl (by decide +kernel) rfl
theorem d_7_4 : decode (mB 7) 4 = .ok (.aload_n 0, 1) := by decide +kernel
theorem s_7_4 {d : Nat} {Q : wQ} {L : List (Option Value)} {st : List Value} {w : aw} {cn sn : Nat} {v : Nat} : wp d 7 Q 4 (some (.ref v) :: L) st w cn sn = wp d 7 Q 5 (some (.ref v) :: L) (.ref v :: st) w cn sn := w_aload_n d_7_4 rfl
theorem d_7_5 : decode (mB 7) 5 = .ok (.getfield 41, 3) := by decide +kernel
theorem s_7_5 {d : Nat} {Q : wQ} {L : List (Option Value)} {st : List Value} {w : aw} {cn sn : Nat} {a : Nat} : wp d 7 Q 5 L (.ref a :: st) w cn sn = (kd w a = 1 ∧ wp d 7 Q 8 L (fd w 2 a :: st) w cn sn) := w_getfield d_7_5 (by decide +kernel : fT (mO 7) 41 = some (0, 2))
theorem d_7_8 : decode (mB 7) 8 = .ok (.aload_n 0, 1) := by decide +kernel
theorem s_7_8 {d : Nat} {Q : wQ} {L : List (Option Value)} {st : List Value} {w : aw} {cn sn : Nat} {v : Nat} : wp d 7 Q 8 (some (.ref v) :: L) st w cn sn = wp d 7 Q 9 (some (.ref v) :: L) (.ref v :: st) w cn sn := w_aload_n d_7_8 rfl
theorem d_7_9 : decode (mB 7) 9 = .ok (.getfield 64, 3) := by decide +kernel
theorem s_7_9 {d : Nat} {Q : wQ} {L : List (Option Value)} {st : List Value} {w : aw} {cn sn : Nat} {a : Nat} : wp d 7 Q 9 L (.ref a :: st) w cn sn = (kd w a = 1 ∧ wp d 7 Q 12 L (fd w 8 a :: st) w cn sn) := w_getfield d_7_9 (by decide +kernel : fT (mO 7) 64 = some (0, 8))
theorem d_7_12 : decode (mB 7) 12 = .ok (.invokevirtual 91, 3) := by decide +kernel
theorem s_7_12 {d : Nat} {Q : wQ} {L : List (Option Value)} {st : List Value} {w : aw} {cn sn : Nat} {v0 : Value} {b : Nat} : wp d 7 Q 12 L (v0 :: .ref b :: st) w cn sn = (kd w b = 5 ∧ catS st ≤ 8 ∧ wpD d 48 [.ref b, v0] w (fun v w' => wp d 7 Q 15 L (v.toList ++ st) w' cn sn)) := w_virtual (As := [v0]) d_7_12 (by decide +kernel : cT (mO 7) 91 = some (0, 48)) rfl (by decide +kernel) rfl (by decide +kernel) rfl
theorem d_7_15 : decode (mB 7) 15 = .ok (.aload_n 0, 1) := by decide +kernel
theorem s_7_15 {d : Nat} {Q : wQ} {L : List (Option Value)} {st : List Value} {w : aw} {cn sn : Nat} {v : Nat} : wp d 7 Q 15 (some (.ref v) :: L) st w cn sn = wp d 7 Q 16 (some (.ref v) :: L) (.ref v :: st) w cn sn := w_aload_n d_7_15 rfl
theorem d_7_16 : decode (mB 7) 16 = .ok (.getfield 41, 3) := by decide +kernel
theorem s_7_16 {d : Nat} {Q : wQ} {L : List (Option Value)} {st : List Value} {w : aw} {cn sn : Nat} {a : Nat} : wp d 7 Q 16 L (.ref a :: st) w cn sn = (kd w a = 1 ∧ wp d 7 Q 19 L (fd w 2 a :: st) w cn sn) := w_getfield d_7_16 (by decide +kernel : fT (mO 7) 41 = some (0, 2))
theorem d_7_19 : decode (mB 7) 19 = .ok (.getfield 102, 3) := by decide +kernel
theorem s_7_19 {d : Nat} {Q : wQ} {L : List (Option Value)} {st : List Value} {w : aw} {cn sn : Nat} {a : Nat} : wp d 7 Q 19 L (.ref a :: st) w cn sn = (kd w a = 5 ∧ wp d 7 Q 22 L (fd w 261 a :: st) w cn sn) := w_getfield d_7_19 (by decide +kernel : fT (mO 7) 102 = some (4, 5))
theorem d_7_22 : decode (mB 7) 22 = .ok (.tableswitch 64 0 3 #[30, 32, 30, 45], 30) := by decide +kernel
theorem s_7_22 {d : Nat} {Q : wQ} {L : List (Option Value)} {st : List Value} {w : aw} {cn sn : Nat} {x : Int32} : wp d 7 Q 22 L (.int x :: st) w cn sn = ((x.toInt < 0 ∨ 3 < x.toInt → wp d 7 Q 86 L st w cn sn) ∧ ∀ (i t : Nat), ([52, 54, 52, 67] : List Nat)[i]? = some t → x.toInt = 0 + i → wp d 7 Q t L st w cn sn) := w_table d_7_22 (by decide) (by decide) (by decide)
theorem d_7_52 : decode (mB 7) 52 = .ok (.iconst 0, 1) := by decide +kernel
theorem s_7_52 {d : Nat} {Q : wQ} {L : List (Option Value)} {st : List Value} {w : aw} {cn sn : Nat}  : wp d 7 Q 52 L st w cn sn = wp d 7 Q 53 L (.int 0 :: st) w cn sn := w_iconst d_7_52 (by decide)
theorem d_7_53 : decode (mB 7) 53 = .ok (.ireturn, 1) := by decide +kernel
theorem s_7_53 {d : Nat} {Q : wQ} {L : List (Option Value)} {w : aw} {cn sn : Nat} {v : Int32} : wp d 7 Q 53 L [.int v] w cn sn = Q (some (.int v)) w := w_ireturn d_7_53 rfl
theorem d_7_54 : decode (mB 7) 54 = .ok (.aload_n 0, 1) := by decide +kernel
theorem s_7_54 {d : Nat} {Q : wQ} {L : List (Option Value)} {st : List Value} {w : aw} {cn sn : Nat} {v : Nat} : wp d 7 Q 54 (some (.ref v) :: L) st w cn sn = wp d 7 Q 55 (some (.ref v) :: L) (.ref v :: st) w cn sn := w_aload_n d_7_54 rfl
theorem d_7_55 : decode (mB 7) 55 = .ok (.aload_n 0, 1) := by decide +kernel
theorem s_7_55 {d : Nat} {Q : wQ} {L : List (Option Value)} {st : List Value} {w : aw} {cn sn : Nat} {v : Nat} : wp d 7 Q 55 (some (.ref v) :: L) st w cn sn = wp d 7 Q 56 (some (.ref v) :: L) (.ref v :: st) w cn sn := w_aload_n d_7_55 rfl
theorem d_7_56 : decode (mB 7) 56 = .ok (.getfield 41, 3) := by decide +kernel
theorem s_7_56 {d : Nat} {Q : wQ} {L : List (Option Value)} {st : List Value} {w : aw} {cn sn : Nat} {a : Nat} : wp d 7 Q 56 L (.ref a :: st) w cn sn = (kd w a = 1 ∧ wp d 7 Q 59 L (fd w 2 a :: st) w cn sn) := w_getfield d_7_56 (by decide +kernel : fT (mO 7) 41 = some (0, 2))
theorem d_7_59 : decode (mB 7) 59 = .ok (.getfield 105, 3) := by decide +kernel
theorem s_7_59 {d : Nat} {Q : wQ} {L : List (Option Value)} {st : List Value} {w : aw} {cn sn : Nat} {a : Nat} : wp d 7 Q 59 L (.ref a :: st) w cn sn = (kd w a = 5 ∧ wp d 7 Q 62 L (fd w 266 a :: st) w cn sn) := w_getfield d_7_59 (by decide +kernel : fT (mO 7) 105 = some (4, 10))
theorem d_7_62 : decode (mB 7) 62 = .ok (.putfield 64, 3) := by decide +kernel
theorem s_7_62 {d : Nat} {Q : wQ} {L : List (Option Value)} {st : List Value} {w : aw} {cn sn : Nat} {x : Int32} {a : Nat} : wp d 7 Q 62 L (.int x :: .ref a :: st) w cn sn = (kd w a = 1 ∧ wp d 7 Q 65 L st (uF w 8 a (.int x)) cn sn) := w_putfield d_7_62 (by decide +kernel : fT (mO 7) 64 = some (0, 8)) (by decide +kernel) ok_int
theorem d_7_65 : decode (mB 7) 65 = .ok (.iconst 0, 1) := by decide +kernel
theorem s_7_65 {d : Nat} {Q : wQ} {L : List (Option Value)} {st : List Value} {w : aw} {cn sn : Nat}  : wp d 7 Q 65 L st w cn sn = wp d 7 Q 66 L (.int 0 :: st) w cn sn := w_iconst d_7_65 (by decide)
theorem d_7_66 : decode (mB 7) 66 = .ok (.ireturn, 1) := by decide +kernel
theorem s_7_66 {d : Nat} {Q : wQ} {L : List (Option Value)} {w : aw} {cn sn : Nat} {v : Int32} : wp d 7 Q 66 L [.int v] w cn sn = Q (some (.int v)) w := w_ireturn d_7_66 rfl
theorem d_7_67 : decode (mB 7) 67 = .ok (.aload_n 0, 1) := by decide +kernel
theorem s_7_67 {d : Nat} {Q : wQ} {L : List (Option Value)} {st : List Value} {w : aw} {cn sn : Nat} {v : Nat} : wp d 7 Q 67 (some (.ref v) :: L) st w cn sn = wp d 7 Q 68 (some (.ref v) :: L) (.ref v :: st) w cn sn := w_aload_n d_7_67 rfl
theorem d_7_68 : decode (mB 7) 68 = .ok (.getfield 41, 3) := by decide +kernel
theorem s_7_68 {d : Nat} {Q : wQ} {L : List (Option Value)} {st : List Value} {w : aw} {cn sn : Nat} {a : Nat} : wp d 7 Q 68 L (.ref a :: st) w cn sn = (kd w a = 1 ∧ wp d 7 Q 71 L (fd w 2 a :: st) w cn sn) := w_getfield d_7_68 (by decide +kernel : fT (mO 7) 41 = some (0, 2))
theorem d_7_71 : decode (mB 7) 71 = .ok (.getfield 108, 3) := by decide +kernel
theorem s_7_71 {d : Nat} {Q : wQ} {L : List (Option Value)} {st : List Value} {w : aw} {cn sn : Nat} {a : Nat} : wp d 7 Q 71 L (.ref a :: st) w cn sn = (kd w a = 5 ∧ wp d 7 Q 74 L (fd w 268 a :: st) w cn sn) := w_getfield d_7_71 (by decide +kernel : fT (mO 7) 108 = some (4, 12))
theorem d_7_74 : decode (mB 7) 74 = .ok (.ifCond .eq 7, 3) := by decide +kernel
theorem s_7_74 {d : Nat} {Q : wQ} {L : List (Option Value)} {st : List Value} {w : aw} {cn sn : Nat} {x : Int32} : wp d 7 Q 74 L (.int x :: st) w cn sn = ((x = 0 → wp d 7 Q 81 L st w cn sn) ∧ (¬ x = 0 → wp d 7 Q 77 L st w cn sn)) := w_ifeq d_7_74 (by decide)
theorem d_7_77 : decode (mB 7) 77 = .ok (.iconst 2, 1) := by decide +kernel
theorem s_7_77 {d : Nat} {Q : wQ} {L : List (Option Value)} {st : List Value} {w : aw} {cn sn : Nat}  : wp d 7 Q 77 L st w cn sn = wp d 7 Q 78 L (.int 2 :: st) w cn sn := w_iconst d_7_77 (by decide)
theorem d_7_78 : decode (mB 7) 78 = .ok (.goto 7, 3) := by decide +kernel
theorem s_7_78 {d : Nat} {Q : wQ} {L : List (Option Value)} {st : List Value} {w : aw} {cn sn : Nat}  : wp d 7 Q 78 L st w cn sn = wp d 7 Q 85 L st w cn sn := w_goto d_7_78 (by decide)
theorem d_7_81 : decode (mB 7) 81 = .ok (.aload_n 0, 1) := by decide +kernel
theorem s_7_81 {d : Nat} {Q : wQ} {L : List (Option Value)} {st : List Value} {w : aw} {cn sn : Nat} {v : Nat} : wp d 7 Q 81 (some (.ref v) :: L) st w cn sn = wp d 7 Q 82 (some (.ref v) :: L) (.ref v :: st) w cn sn := w_aload_n d_7_81 rfl
theorem d_7_82 : decode (mB 7) 82 = .ok (.invokevirtual 123, 3) := by decide +kernel
theorem s_7_82 {d : Nat} {Q : wQ} {L : List (Option Value)} {st : List Value} {w : aw} {cn sn : Nat} {b : Nat} : wp d 7 Q 82 L (.ref b :: st) w cn sn = (kd w b = 1 ∧ catS st ≤ 8 ∧ wpD d 8 [.ref b] w (fun v w' => wp d 7 Q 85 L (v.toList ++ st) w' cn sn)) := w_virtual (As := []) d_7_82 (by decide +kernel : cT (mO 7) 123 = some (0, 8)) rfl (by decide +kernel) rfl (by decide +kernel) rfl
theorem d_7_85 : decode (mB 7) 85 = .ok (.ireturn, 1) := by decide +kernel
theorem s_7_85 {d : Nat} {Q : wQ} {L : List (Option Value)} {w : aw} {cn sn : Nat} {v : Int32} : wp d 7 Q 85 L [.int v] w cn sn = Q (some (.int v)) w := w_ireturn d_7_85 rfl
theorem d_7_86 : decode (mB 7) 86 = .ok (.aload_n 0, 1) := by decide +kernel
theorem s_7_86 {d : Nat} {Q : wQ} {L : List (Option Value)} {st : List Value} {w : aw} {cn sn : Nat} {v : Nat} : wp d 7 Q 86 (some (.ref v) :: L) st w cn sn = wp d 7 Q 87 (some (.ref v) :: L) (.ref v :: st) w cn sn := w_aload_n d_7_86 rfl
theorem d_7_87 : decode (mB 7) 87 = .ok (.getfield 41, 3) := by decide +kernel
theorem s_7_87 {d : Nat} {Q : wQ} {L : List (Option Value)} {st : List Value} {w : aw} {cn sn : Nat} {a : Nat} : wp d 7 Q 87 L (.ref a :: st) w cn sn = (kd w a = 1 ∧ wp d 7 Q 90 L (fd w 2 a :: st) w cn sn) := w_getfield d_7_87 (by decide +kernel : fT (mO 7) 41 = some (0, 2))
theorem d_7_90 : decode (mB 7) 90 = .ok (.getfield 108, 3) := by decide +kernel
theorem s_7_90 {d : Nat} {Q : wQ} {L : List (Option Value)} {st : List Value} {w : aw} {cn sn : Nat} {a : Nat} : wp d 7 Q 90 L (.ref a :: st) w cn sn = (kd w a = 5 ∧ wp d 7 Q 93 L (fd w 268 a :: st) w cn sn) := w_getfield d_7_90 (by decide +kernel : fT (mO 7) 108 = some (4, 12))
theorem d_7_93 : decode (mB 7) 93 = .ok (.ifCond .eq 7, 3) := by decide +kernel
theorem s_7_93 {d : Nat} {Q : wQ} {L : List (Option Value)} {st : List Value} {w : aw} {cn sn : Nat} {x : Int32} : wp d 7 Q 93 L (.int x :: st) w cn sn = ((x = 0 → wp d 7 Q 100 L st w cn sn) ∧ (¬ x = 0 → wp d 7 Q 96 L st w cn sn)) := w_ifeq d_7_93 (by decide)
theorem d_7_96 : decode (mB 7) 96 = .ok (.iconst 2, 1) := by decide +kernel
theorem s_7_96 {d : Nat} {Q : wQ} {L : List (Option Value)} {st : List Value} {w : aw} {cn sn : Nat}  : wp d 7 Q 96 L st w cn sn = wp d 7 Q 97 L (.int 2 :: st) w cn sn := w_iconst d_7_96 (by decide)
theorem d_7_97 : decode (mB 7) 97 = .ok (.goto 14, 3) := by decide +kernel
theorem s_7_97 {d : Nat} {Q : wQ} {L : List (Option Value)} {st : List Value} {w : aw} {cn sn : Nat}  : wp d 7 Q 97 L st w cn sn = wp d 7 Q 111 L st w cn sn := w_goto d_7_97 (by decide)
theorem d_7_100 : decode (mB 7) 100 = .ok (.aload_n 0, 1) := by decide +kernel
theorem s_7_100 {d : Nat} {Q : wQ} {L : List (Option Value)} {st : List Value} {w : aw} {cn sn : Nat} {v : Nat} : wp d 7 Q 100 (some (.ref v) :: L) st w cn sn = wp d 7 Q 101 (some (.ref v) :: L) (.ref v :: st) w cn sn := w_aload_n d_7_100 rfl
theorem d_7_101 : decode (mB 7) 101 = .ok (.aload_n 0, 1) := by decide +kernel
theorem s_7_101 {d : Nat} {Q : wQ} {L : List (Option Value)} {st : List Value} {w : aw} {cn sn : Nat} {v : Nat} : wp d 7 Q 101 (some (.ref v) :: L) st w cn sn = wp d 7 Q 102 (some (.ref v) :: L) (.ref v :: st) w cn sn := w_aload_n d_7_101 rfl
theorem d_7_102 : decode (mB 7) 102 = .ok (.getfield 41, 3) := by decide +kernel
theorem s_7_102 {d : Nat} {Q : wQ} {L : List (Option Value)} {st : List Value} {w : aw} {cn sn : Nat} {a : Nat} : wp d 7 Q 102 L (.ref a :: st) w cn sn = (kd w a = 1 ∧ wp d 7 Q 105 L (fd w 2 a :: st) w cn sn) := w_getfield d_7_102 (by decide +kernel : fT (mO 7) 41 = some (0, 2))
theorem d_7_105 : decode (mB 7) 105 = .ok (.getfield 105, 3) := by decide +kernel
theorem s_7_105 {d : Nat} {Q : wQ} {L : List (Option Value)} {st : List Value} {w : aw} {cn sn : Nat} {a : Nat} : wp d 7 Q 105 L (.ref a :: st) w cn sn = (kd w a = 5 ∧ wp d 7 Q 108 L (fd w 266 a :: st) w cn sn) := w_getfield d_7_105 (by decide +kernel : fT (mO 7) 105 = some (4, 10))
theorem d_7_108 : decode (mB 7) 108 = .ok (.invokevirtual 126, 3) := by decide +kernel
theorem s_7_108 {d : Nat} {Q : wQ} {L : List (Option Value)} {st : List Value} {w : aw} {cn sn : Nat} {v0 : Value} {b : Nat} : wp d 7 Q 108 L (v0 :: .ref b :: st) w cn sn = (kd w b = 1 ∧ catS st ≤ 8 ∧ wpD d 10 [.ref b, v0] w (fun v w' => wp d 7 Q 111 L (v.toList ++ st) w' cn sn)) := w_virtual (As := [v0]) d_7_108 (by decide +kernel : cT (mO 7) 126 = some (0, 10)) rfl (by decide +kernel) rfl (by decide +kernel) rfl
theorem d_7_111 : decode (mB 7) 111 = .ok (.ireturn, 1) := by decide +kernel
theorem s_7_111 {d : Nat} {Q : wQ} {L : List (Option Value)} {w : aw} {cn sn : Nat} {v : Int32} : wp d 7 Q 111 L [.int v] w cn sn = Q (some (.int v)) w := w_ireturn d_7_111 rfl
theorem d_8_0 : decode (mB 8) 0 = .ok (.aload_n 0, 1) := by decide +kernel
theorem s_8_0 {d : Nat} {Q : wQ} {L : List (Option Value)} {st : List Value} {w : aw} {cn sn : Nat} {v : Nat} : wp d 8 Q 0 (some (.ref v) :: L) st w cn sn = wp d 8 Q 1 (some (.ref v) :: L) (.ref v :: st) w cn sn := w_aload_n d_8_0 rfl
theorem d_8_1 : decode (mB 8) 1 = .ok (.getfield 41, 3) := by decide +kernel
theorem s_8_1 {d : Nat} {Q : wQ} {L : List (Option Value)} {st : List Value} {w : aw} {cn sn : Nat} {a : Nat} : wp d 8 Q 1 L (.ref a :: st) w cn sn = (kd w a = 1 ∧ wp d 8 Q 4 L (fd w 2 a :: st) w cn sn) := w_getfield d_8_1 (by decide +kernel : fT (mO 8) 41 = some (0, 2))
theorem d_8_4 : decode (mB 8) 4 = .ok (.getfield 129, 3) := by decide +kernel
theorem s_8_4 {d : Nat} {Q : wQ} {L : List (Option Value)} {st : List Value} {w : aw} {cn sn : Nat} {a : Nat} : wp d 8 Q 4 L (.ref a :: st) w cn sn = (kd w a = 5 ∧ wp d 8 Q 7 L (fd w 265 a :: st) w cn sn) := w_getfield d_8_4 (by decide +kernel : fT (mO 8) 129 = some (4, 9))
theorem d_8_7 : decode (mB 8) 7 = .ok (.ifCond .eq 17, 3) := by decide +kernel
theorem s_8_7 {d : Nat} {Q : wQ} {L : List (Option Value)} {st : List Value} {w : aw} {cn sn : Nat} {x : Int32} : wp d 8 Q 7 L (.int x :: st) w cn sn = ((x = 0 → wp d 8 Q 24 L st w cn sn) ∧ (¬ x = 0 → wp d 8 Q 10 L st w cn sn)) := w_ifeq d_8_7 (by decide)
theorem d_8_10 : decode (mB 8) 10 = .ok (.aload_n 0, 1) := by decide +kernel
theorem s_8_10 {d : Nat} {Q : wQ} {L : List (Option Value)} {st : List Value} {w : aw} {cn sn : Nat} {v : Nat} : wp d 8 Q 10 (some (.ref v) :: L) st w cn sn = wp d 8 Q 11 (some (.ref v) :: L) (.ref v :: st) w cn sn := w_aload_n d_8_10 rfl
theorem d_8_11 : decode (mB 8) 11 = .ok (.aload_n 0, 1) := by decide +kernel
theorem s_8_11 {d : Nat} {Q : wQ} {L : List (Option Value)} {st : List Value} {w : aw} {cn sn : Nat} {v : Nat} : wp d 8 Q 11 (some (.ref v) :: L) st w cn sn = wp d 8 Q 12 (some (.ref v) :: L) (.ref v :: st) w cn sn := w_aload_n d_8_11 rfl
theorem d_8_12 : decode (mB 8) 12 = .ok (.getfield 41, 3) := by decide +kernel
theorem s_8_12 {d : Nat} {Q : wQ} {L : List (Option Value)} {st : List Value} {w : aw} {cn sn : Nat} {a : Nat} : wp d 8 Q 12 L (.ref a :: st) w cn sn = (kd w a = 1 ∧ wp d 8 Q 15 L (fd w 2 a :: st) w cn sn) := w_getfield d_8_12 (by decide +kernel : fT (mO 8) 41 = some (0, 2))
theorem d_8_15 : decode (mB 8) 15 = .ok (.getfield 105, 3) := by decide +kernel
theorem s_8_15 {d : Nat} {Q : wQ} {L : List (Option Value)} {st : List Value} {w : aw} {cn sn : Nat} {a : Nat} : wp d 8 Q 15 L (.ref a :: st) w cn sn = (kd w a = 5 ∧ wp d 8 Q 18 L (fd w 266 a :: st) w cn sn) := w_getfield d_8_15 (by decide +kernel : fT (mO 8) 105 = some (4, 10))
theorem d_8_18 : decode (mB 8) 18 = .ok (.invokevirtual 132, 3) := by decide +kernel
theorem s_8_18 {d : Nat} {Q : wQ} {L : List (Option Value)} {st : List Value} {w : aw} {cn sn : Nat} {v0 : Value} {b : Nat} : wp d 8 Q 18 L (v0 :: .ref b :: st) w cn sn = (kd w b = 1 ∧ catS st ≤ 8 ∧ wpD d 9 [.ref b, v0] w (fun v w' => wp d 8 Q 21 L (v.toList ++ st) w' cn sn)) := w_virtual (As := [v0]) d_8_18 (by decide +kernel : cT (mO 8) 132 = some (0, 9)) rfl (by decide +kernel) rfl (by decide +kernel) rfl
theorem d_8_21 : decode (mB 8) 21 = .ok (.goto 10, 3) := by decide +kernel
theorem s_8_21 {d : Nat} {Q : wQ} {L : List (Option Value)} {st : List Value} {w : aw} {cn sn : Nat}  : wp d 8 Q 21 L st w cn sn = wp d 8 Q 31 L st w cn sn := w_goto d_8_21 (by decide)
theorem d_8_24 : decode (mB 8) 24 = .ok (.aload_n 0, 1) := by decide +kernel
theorem s_8_24 {d : Nat} {Q : wQ} {L : List (Option Value)} {st : List Value} {w : aw} {cn sn : Nat} {v : Nat} : wp d 8 Q 24 (some (.ref v) :: L) st w cn sn = wp d 8 Q 25 (some (.ref v) :: L) (.ref v :: st) w cn sn := w_aload_n d_8_24 rfl
theorem d_8_25 : decode (mB 8) 25 = .ok (.getfield 41, 3) := by decide +kernel
theorem s_8_25 {d : Nat} {Q : wQ} {L : List (Option Value)} {st : List Value} {w : aw} {cn sn : Nat} {a : Nat} : wp d 8 Q 25 L (.ref a :: st) w cn sn = (kd w a = 1 ∧ wp d 8 Q 28 L (fd w 2 a :: st) w cn sn) := w_getfield d_8_25 (by decide +kernel : fT (mO 8) 41 = some (0, 2))
theorem d_8_28 : decode (mB 8) 28 = .ok (.getfield 105, 3) := by decide +kernel
theorem s_8_28 {d : Nat} {Q : wQ} {L : List (Option Value)} {st : List Value} {w : aw} {cn sn : Nat} {a : Nat} : wp d 8 Q 28 L (.ref a :: st) w cn sn = (kd w a = 5 ∧ wp d 8 Q 31 L (fd w 266 a :: st) w cn sn) := w_getfield d_8_28 (by decide +kernel : fT (mO 8) 105 = some (4, 10))
theorem d_8_31 : decode (mB 8) 31 = .ok (.istore_n 1, 1) := by decide +kernel
theorem s_8_31 {d : Nat} {Q : wQ} {L : List (Option Value)} {st : List Value} {w : aw} {cn sn : Nat} {a0 a1 : Option Value} {v : Int32} : wp d 8 Q 31 (a0 :: a1 :: L) (.int v :: st) w cn sn = wp d 8 Q 32 (clr a0 :: some (.int v) :: L) st w cn sn := w_istore_n d_8_31 (Nat.le_add_left 2 _) rfl
theorem d_8_32 : decode (mB 8) 32 = .ok (.iload_n 1, 1) := by decide +kernel
theorem s_8_32 {d : Nat} {Q : wQ} {L : List (Option Value)} {st : List Value} {w : aw} {cn sn : Nat} {a0 : Option Value} {v : Int32} : wp d 8 Q 32 (a0 :: some (.int v) :: L) st w cn sn = wp d 8 Q 33 (a0 :: some (.int v) :: L) (.int v :: st) w cn sn := w_iload_n d_8_32 rfl
theorem d_8_33 : decode (mB 8) 33 = .ok (.ifCond .ge 5, 3) := by decide +kernel
theorem s_8_33 {d : Nat} {Q : wQ} {L : List (Option Value)} {st : List Value} {w : aw} {cn sn : Nat} {x : Int32} : wp d 8 Q 33 L (.int x :: st) w cn sn = ((0 ≤ x → wp d 8 Q 38 L st w cn sn) ∧ (¬ 0 ≤ x → wp d 8 Q 36 L st w cn sn)) := w_ifge d_8_33 (by decide)
theorem d_8_36 : decode (mB 8) 36 = .ok (.iconst 5, 1) := by decide +kernel
theorem s_8_36 {d : Nat} {Q : wQ} {L : List (Option Value)} {st : List Value} {w : aw} {cn sn : Nat}  : wp d 8 Q 36 L st w cn sn = wp d 8 Q 37 L (.int 5 :: st) w cn sn := w_iconst d_8_36 (by decide)
theorem d_8_37 : decode (mB 8) 37 = .ok (.ireturn, 1) := by decide +kernel
theorem s_8_37 {d : Nat} {Q : wQ} {L : List (Option Value)} {w : aw} {cn sn : Nat} {v : Int32} : wp d 8 Q 37 L [.int v] w cn sn = Q (some (.int v)) w := w_ireturn d_8_37 rfl
theorem d_8_38 : decode (mB 8) 38 = .ok (.iload_n 1, 1) := by decide +kernel
theorem s_8_38 {d : Nat} {Q : wQ} {L : List (Option Value)} {st : List Value} {w : aw} {cn sn : Nat} {a0 : Option Value} {v : Int32} : wp d 8 Q 38 (a0 :: some (.int v) :: L) st w cn sn = wp d 8 Q 39 (a0 :: some (.int v) :: L) (.int v :: st) w cn sn := w_iload_n d_8_38 rfl
theorem d_8_39 : decode (mB 8) 39 = .ok (.bipush 127, 2) := by decide +kernel
theorem s_8_39 {d : Nat} {Q : wQ} {L : List (Option Value)} {st : List Value} {w : aw} {cn sn : Nat}  : wp d 8 Q 39 L st w cn sn = wp d 8 Q 41 L (.int 127 :: st) w cn sn := w_bipush d_8_39 (by decide)
theorem d_8_41 : decode (mB 8) 41 = .ok (.if_icmp .gt 7, 3) := by decide +kernel
theorem s_8_41 {d : Nat} {Q : wQ} {L : List (Option Value)} {st : List Value} {w : aw} {cn sn : Nat} {a b : Int32} : wp d 8 Q 41 L (.int b :: .int a :: st) w cn sn = ((b < a → wp d 8 Q 48 L st w cn sn) ∧ (¬ b < a → wp d 8 Q 44 L st w cn sn)) := w_icgt d_8_41 (by decide)
theorem d_8_44 : decode (mB 8) 44 = .ok (.iconst 1, 1) := by decide +kernel
theorem s_8_44 {d : Nat} {Q : wQ} {L : List (Option Value)} {st : List Value} {w : aw} {cn sn : Nat}  : wp d 8 Q 44 L st w cn sn = wp d 8 Q 45 L (.int 1 :: st) w cn sn := w_iconst d_8_44 (by decide)
theorem d_8_45 : decode (mB 8) 45 = .ok (.goto 4, 3) := by decide +kernel
theorem s_8_45 {d : Nat} {Q : wQ} {L : List (Option Value)} {st : List Value} {w : aw} {cn sn : Nat}  : wp d 8 Q 45 L st w cn sn = wp d 8 Q 49 L st w cn sn := w_goto d_8_45 (by decide)
theorem d_8_48 : decode (mB 8) 48 = .ok (.iconst 0, 1) := by decide +kernel
theorem s_8_48 {d : Nat} {Q : wQ} {L : List (Option Value)} {st : List Value} {w : aw} {cn sn : Nat}  : wp d 8 Q 48 L st w cn sn = wp d 8 Q 49 L (.int 0 :: st) w cn sn := w_iconst d_8_48 (by decide)
theorem d_8_49 : decode (mB 8) 49 = .ok (.istore_n 2, 1) := by decide +kernel
theorem s_8_49 {d : Nat} {Q : wQ} {L : List (Option Value)} {st : List Value} {w : aw} {cn sn : Nat} {a0 a1 a2 : Option Value} {v : Int32} : wp d 8 Q 49 (a0 :: a1 :: a2 :: L) (.int v :: st) w cn sn = wp d 8 Q 50 (a0 :: clr a1 :: some (.int v) :: L) st w cn sn := w_istore_n d_8_49 (Nat.le_add_left 3 _) rfl
theorem d_8_50 : decode (mB 8) 50 = .ok (.iload_n 2, 1) := by decide +kernel
theorem s_8_50 {d : Nat} {Q : wQ} {L : List (Option Value)} {st : List Value} {w : aw} {cn sn : Nat} {a0 a1 : Option Value} {v : Int32} : wp d 8 Q 50 (a0 :: a1 :: some (.int v) :: L) st w cn sn = wp d 8 Q 51 (a0 :: a1 :: some (.int v) :: L) (.int v :: st) w cn sn := w_iload_n d_8_50 rfl
theorem d_8_51 : decode (mB 8) 51 = .ok (.ifCond .ne 21, 3) := by decide +kernel
theorem s_8_51 {d : Nat} {Q : wQ} {L : List (Option Value)} {st : List Value} {w : aw} {cn sn : Nat} {x : Int32} : wp d 8 Q 51 L (.int x :: st) w cn sn = ((¬ x = 0 → wp d 8 Q 72 L st w cn sn) ∧ (x = 0 → wp d 8 Q 54 L st w cn sn)) := w_ifne d_8_51 (by decide)
theorem d_8_54 : decode (mB 8) 54 = .ok (.iload_n 1, 1) := by decide +kernel
theorem s_8_54 {d : Nat} {Q : wQ} {L : List (Option Value)} {st : List Value} {w : aw} {cn sn : Nat} {a0 : Option Value} {v : Int32} : wp d 8 Q 54 (a0 :: some (.int v) :: L) st w cn sn = wp d 8 Q 55 (a0 :: some (.int v) :: L) (.int v :: st) w cn sn := w_iload_n d_8_54 rfl
theorem d_8_55 : decode (mB 8) 55 = .ok (.sipush 3968, 3) := by decide +kernel
theorem s_8_55 {d : Nat} {Q : wQ} {L : List (Option Value)} {st : List Value} {w : aw} {cn sn : Nat}  : wp d 8 Q 55 L st w cn sn = wp d 8 Q 58 L (.int 3968 :: st) w cn sn := w_sipush d_8_55 (by decide)
theorem d_8_58 : decode (mB 8) 58 = .ok (.iand, 1) := by decide +kernel
theorem s_8_58 {d : Nat} {Q : wQ} {L : List (Option Value)} {st : List Value} {w : aw} {cn sn : Nat} {a b : Int32} : wp d 8 Q 58 L (.int b :: .int a :: st) w cn sn = wp d 8 Q 59 L (.int (a &&& b) :: st) w cn sn := wp_row d_8_58 _ _ _ _ _
theorem d_8_59 : decode (mB 8) 59 = .ok (.aload_n 0, 1) := by decide +kernel
theorem s_8_59 {d : Nat} {Q : wQ} {L : List (Option Value)} {st : List Value} {w : aw} {cn sn : Nat} {v : Nat} : wp d 8 Q 59 (some (.ref v) :: L) st w cn sn = wp d 8 Q 60 (some (.ref v) :: L) (.ref v :: st) w cn sn := w_aload_n d_8_59 rfl
theorem d_8_60 : decode (mB 8) 60 = .ok (.getfield 64, 3) := by decide +kernel
theorem s_8_60 {d : Nat} {Q : wQ} {L : List (Option Value)} {st : List Value} {w : aw} {cn sn : Nat} {a : Nat} : wp d 8 Q 60 L (.ref a :: st) w cn sn = (kd w a = 1 ∧ wp d 8 Q 63 L (fd w 8 a :: st) w cn sn) := w_getfield d_8_60 (by decide +kernel : fT (mO 8) 64 = some (0, 8))
theorem d_8_63 : decode (mB 8) 63 = .ok (.sipush 3968, 3) := by decide +kernel
theorem s_8_63 {d : Nat} {Q : wQ} {L : List (Option Value)} {st : List Value} {w : aw} {cn sn : Nat}  : wp d 8 Q 63 L st w cn sn = wp d 8 Q 66 L (.int 3968 :: st) w cn sn := w_sipush d_8_63 (by decide)
theorem d_8_66 : decode (mB 8) 66 = .ok (.iand, 1) := by decide +kernel
theorem s_8_66 {d : Nat} {Q : wQ} {L : List (Option Value)} {st : List Value} {w : aw} {cn sn : Nat} {a b : Int32} : wp d 8 Q 66 L (.int b :: .int a :: st) w cn sn = wp d 8 Q 67 L (.int (a &&& b) :: st) w cn sn := wp_row d_8_66 _ _ _ _ _
theorem d_8_67 : decode (mB 8) 67 = .ok (.if_icmp .eq 5, 3) := by decide +kernel
theorem s_8_67 {d : Nat} {Q : wQ} {L : List (Option Value)} {st : List Value} {w : aw} {cn sn : Nat} {a b : Int32} : wp d 8 Q 67 L (.int b :: .int a :: st) w cn sn = ((a = b → wp d 8 Q 72 L st w cn sn) ∧ (¬ a = b → wp d 8 Q 70 L st w cn sn)) := w_iceq d_8_67 (by decide)
theorem d_8_70 : decode (mB 8) 70 = .ok (.iconst 4, 1) := by decide +kernel
theorem s_8_70 {d : Nat} {Q : wQ} {L : List (Option Value)} {st : List Value} {w : aw} {cn sn : Nat}  : wp d 8 Q 70 L st w cn sn = wp d 8 Q 71 L (.int 4 :: st) w cn sn := w_iconst d_8_70 (by decide)
theorem d_8_71 : decode (mB 8) 71 = .ok (.ireturn, 1) := by decide +kernel
theorem s_8_71 {d : Nat} {Q : wQ} {L : List (Option Value)} {w : aw} {cn sn : Nat} {v : Int32} : wp d 8 Q 71 L [.int v] w cn sn = Q (some (.int v)) w := w_ireturn d_8_71 rfl
theorem d_8_72 : decode (mB 8) 72 = .ok (.aload_n 0, 1) := by decide +kernel
theorem s_8_72 {d : Nat} {Q : wQ} {L : List (Option Value)} {st : List Value} {w : aw} {cn sn : Nat} {v : Nat} : wp d 8 Q 72 (some (.ref v) :: L) st w cn sn = wp d 8 Q 73 (some (.ref v) :: L) (.ref v :: st) w cn sn := w_aload_n d_8_72 rfl
theorem d_8_73 : decode (mB 8) 73 = .ok (.getfield 41, 3) := by decide +kernel
theorem s_8_73 {d : Nat} {Q : wQ} {L : List (Option Value)} {st : List Value} {w : aw} {cn sn : Nat} {a : Nat} : wp d 8 Q 73 L (.ref a :: st) w cn sn = (kd w a = 1 ∧ wp d 8 Q 76 L (fd w 2 a :: st) w cn sn) := w_getfield d_8_73 (by decide +kernel : fT (mO 8) 41 = some (0, 2))
theorem d_8_76 : decode (mB 8) 76 = .ok (.getfield 135, 3) := by decide +kernel
theorem s_8_76 {d : Nat} {Q : wQ} {L : List (Option Value)} {st : List Value} {w : aw} {cn sn : Nat} {a : Nat} : wp d 8 Q 76 L (.ref a :: st) w cn sn = (kd w a = 5 ∧ wp d 8 Q 79 L (fd w 263 a :: st) w cn sn) := w_getfield d_8_76 (by decide +kernel : fT (mO 8) 135 = some (4, 7))
theorem d_8_79 : decode (mB 8) 79 = .ok (.bipush 9, 2) := by decide +kernel
theorem s_8_79 {d : Nat} {Q : wQ} {L : List (Option Value)} {st : List Value} {w : aw} {cn sn : Nat}  : wp d 8 Q 79 L st w cn sn = wp d 8 Q 81 L (.int 9 :: st) w cn sn := w_bipush d_8_79 (by decide)
theorem d_8_81 : decode (mB 8) 81 = .ok (.ishl, 1) := by decide +kernel
theorem s_8_81 {d : Nat} {Q : wQ} {L : List (Option Value)} {st : List Value} {w : aw} {cn sn : Nat} {a b : Int32} : wp d 8 Q 81 L (.int b :: .int a :: st) w cn sn = wp d 8 Q 82 L (.int (a <<< (b &&& 31)) :: st) w cn sn := wp_row d_8_81 _ _ _ _ _
theorem d_8_82 : decode (mB 8) 82 = .ok (.aload_n 0, 1) := by decide +kernel
theorem s_8_82 {d : Nat} {Q : wQ} {L : List (Option Value)} {st : List Value} {w : aw} {cn sn : Nat} {v : Nat} : wp d 8 Q 82 (some (.ref v) :: L) st w cn sn = wp d 8 Q 83 (some (.ref v) :: L) (.ref v :: st) w cn sn := w_aload_n d_8_82 rfl
theorem d_8_83 : decode (mB 8) 83 = .ok (.getfield 41, 3) := by decide +kernel
theorem s_8_83 {d : Nat} {Q : wQ} {L : List (Option Value)} {st : List Value} {w : aw} {cn sn : Nat} {a : Nat} : wp d 8 Q 83 L (.ref a :: st) w cn sn = (kd w a = 1 ∧ wp d 8 Q 86 L (fd w 2 a :: st) w cn sn) := w_getfield d_8_83 (by decide +kernel : fT (mO 8) 41 = some (0, 2))
theorem d_8_86 : decode (mB 8) 86 = .ok (.getfield 138, 3) := by decide +kernel
theorem s_8_86 {d : Nat} {Q : wQ} {L : List (Option Value)} {st : List Value} {w : aw} {cn sn : Nat} {a : Nat} : wp d 8 Q 86 L (.ref a :: st) w cn sn = (kd w a = 5 ∧ wp d 8 Q 89 L (fd w 264 a :: st) w cn sn) := w_getfield d_8_86 (by decide +kernel : fT (mO 8) 138 = some (4, 8))
theorem d_8_89 : decode (mB 8) 89 = .ok (.ifCond .eq 9, 3) := by decide +kernel
theorem s_8_89 {d : Nat} {Q : wQ} {L : List (Option Value)} {st : List Value} {w : aw} {cn sn : Nat} {x : Int32} : wp d 8 Q 89 L (.int x :: st) w cn sn = ((x = 0 → wp d 8 Q 98 L st w cn sn) ∧ (¬ x = 0 → wp d 8 Q 92 L st w cn sn)) := w_ifeq d_8_89 (by decide)
theorem d_8_92 : decode (mB 8) 92 = .ok (.sipush 256, 3) := by decide +kernel
theorem s_8_92 {d : Nat} {Q : wQ} {L : List (Option Value)} {st : List Value} {w : aw} {cn sn : Nat}  : wp d 8 Q 92 L st w cn sn = wp d 8 Q 95 L (.int 256 :: st) w cn sn := w_sipush d_8_92 (by decide)
theorem d_8_95 : decode (mB 8) 95 = .ok (.goto 4, 3) := by decide +kernel
theorem s_8_95 {d : Nat} {Q : wQ} {L : List (Option Value)} {st : List Value} {w : aw} {cn sn : Nat}  : wp d 8 Q 95 L st w cn sn = wp d 8 Q 99 L st w cn sn := w_goto d_8_95 (by decide)
theorem d_8_98 : decode (mB 8) 98 = .ok (.iconst 0, 1) := by decide +kernel
theorem s_8_98 {d : Nat} {Q : wQ} {L : List (Option Value)} {st : List Value} {w : aw} {cn sn : Nat}  : wp d 8 Q 98 L st w cn sn = wp d 8 Q 99 L (.int 0 :: st) w cn sn := w_iconst d_8_98 (by decide)
theorem d_8_99 : decode (mB 8) 99 = .ok (.ior, 1) := by decide +kernel
theorem s_8_99 {d : Nat} {Q : wQ} {L : List (Option Value)} {st : List Value} {w : aw} {cn sn : Nat} {a b : Int32} : wp d 8 Q 99 L (.int b :: .int a :: st) w cn sn = wp d 8 Q 100 L (.int (a ||| b) :: st) w cn sn := wp_row d_8_99 _ _ _ _ _
theorem d_8_100 : decode (mB 8) 100 = .ok (.istore_n 3, 1) := by decide +kernel
theorem s_8_100 {d : Nat} {Q : wQ} {L : List (Option Value)} {st : List Value} {w : aw} {cn sn : Nat} {a0 a1 a2 a3 : Option Value} {v : Int32} : wp d 8 Q 100 (a0 :: a1 :: a2 :: a3 :: L) (.int v :: st) w cn sn = wp d 8 Q 101 (a0 :: a1 :: clr a2 :: some (.int v) :: L) st w cn sn := w_istore_n d_8_100 (Nat.le_add_left 4 _) rfl
theorem d_8_101 : decode (mB 8) 101 = .ok (.aload_n 0, 1) := by decide +kernel
theorem s_8_101 {d : Nat} {Q : wQ} {L : List (Option Value)} {st : List Value} {w : aw} {cn sn : Nat} {v : Nat} : wp d 8 Q 101 (some (.ref v) :: L) st w cn sn = wp d 8 Q 102 (some (.ref v) :: L) (.ref v :: st) w cn sn := w_aload_n d_8_101 rfl
theorem d_8_102 : decode (mB 8) 102 = .ok (.iload_n 3, 1) := by decide +kernel
theorem s_8_102 {d : Nat} {Q : wQ} {L : List (Option Value)} {st : List Value} {w : aw} {cn sn : Nat} {a0 a1 a2 : Option Value} {v : Int32} : wp d 8 Q 102 (a0 :: a1 :: a2 :: some (.int v) :: L) st w cn sn = wp d 8 Q 103 (a0 :: a1 :: a2 :: some (.int v) :: L) (.int v :: st) w cn sn := w_iload_n d_8_102 rfl
theorem d_8_103 : decode (mB 8) 103 = .ok (.iload_n 2, 1) := by decide +kernel
theorem s_8_103 {d : Nat} {Q : wQ} {L : List (Option Value)} {st : List Value} {w : aw} {cn sn : Nat} {a0 a1 : Option Value} {v : Int32} : wp d 8 Q 103 (a0 :: a1 :: some (.int v) :: L) st w cn sn = wp d 8 Q 104 (a0 :: a1 :: some (.int v) :: L) (.int v :: st) w cn sn := w_iload_n d_8_103 rfl
theorem d_8_104 : decode (mB 8) 104 = .ok (.ifCond .eq 7, 3) := by decide +kernel
theorem s_8_104 {d : Nat} {Q : wQ} {L : List (Option Value)} {st : List Value} {w : aw} {cn sn : Nat} {x : Int32} : wp d 8 Q 104 L (.int x :: st) w cn sn = ((x = 0 → wp d 8 Q 111 L st w cn sn) ∧ (¬ x = 0 → wp d 8 Q 107 L st w cn sn)) := w_ifeq d_8_104 (by decide)
theorem d_8_107 : decode (mB 8) 107 = .ok (.iload_n 1, 1) := by decide +kernel
theorem s_8_107 {d : Nat} {Q : wQ} {L : List (Option Value)} {st : List Value} {w : aw} {cn sn : Nat} {a0 : Option Value} {v : Int32} : wp d 8 Q 107 (a0 :: some (.int v) :: L) st w cn sn = wp d 8 Q 108 (a0 :: some (.int v) :: L) (.int v :: st) w cn sn := w_iload_n d_8_107 rfl
theorem d_8_108 : decode (mB 8) 108 = .ok (.goto 11, 3) := by decide +kernel
theorem s_8_108 {d : Nat} {Q : wQ} {L : List (Option Value)} {st : List Value} {w : aw} {cn sn : Nat}  : wp d 8 Q 108 L st w cn sn = wp d 8 Q 119 L st w cn sn := w_goto d_8_108 (by decide)
theorem d_8_111 : decode (mB 8) 111 = .ok (.sipush 128, 3) := by decide +kernel
theorem s_8_111 {d : Nat} {Q : wQ} {L : List (Option Value)} {st : List Value} {w : aw} {cn sn : Nat}  : wp d 8 Q 111 L st w cn sn = wp d 8 Q 114 L (.int 128 :: st) w cn sn := w_sipush d_8_111 (by decide)
theorem d_8_114 : decode (mB 8) 114 = .ok (.iload_n 1, 1) := by decide +kernel
theorem s_8_114 {d : Nat} {Q : wQ} {L : List (Option Value)} {st : List Value} {w : aw} {cn sn : Nat} {a0 : Option Value} {v : Int32} : wp d 8 Q 114 (a0 :: some (.int v) :: L) st w cn sn = wp d 8 Q 115 (a0 :: some (.int v) :: L) (.int v :: st) w cn sn := w_iload_n d_8_114 rfl
theorem d_8_115 : decode (mB 8) 115 = .ok (.bipush 127, 2) := by decide +kernel
theorem s_8_115 {d : Nat} {Q : wQ} {L : List (Option Value)} {st : List Value} {w : aw} {cn sn : Nat}  : wp d 8 Q 115 L st w cn sn = wp d 8 Q 117 L (.int 127 :: st) w cn sn := w_bipush d_8_115 (by decide)
theorem d_8_117 : decode (mB 8) 117 = .ok (.iand, 1) := by decide +kernel
theorem s_8_117 {d : Nat} {Q : wQ} {L : List (Option Value)} {st : List Value} {w : aw} {cn sn : Nat} {a b : Int32} : wp d 8 Q 117 L (.int b :: .int a :: st) w cn sn = wp d 8 Q 118 L (.int (a &&& b) :: st) w cn sn := wp_row d_8_117 _ _ _ _ _
theorem d_8_118 : decode (mB 8) 118 = .ok (.ior, 1) := by decide +kernel
theorem s_8_118 {d : Nat} {Q : wQ} {L : List (Option Value)} {st : List Value} {w : aw} {cn sn : Nat} {a b : Int32} : wp d 8 Q 118 L (.int b :: .int a :: st) w cn sn = wp d 8 Q 119 L (.int (a ||| b) :: st) w cn sn := wp_row d_8_118 _ _ _ _ _
theorem d_8_119 : decode (mB 8) 119 = .ok (.ior, 1) := by decide +kernel
theorem s_8_119 {d : Nat} {Q : wQ} {L : List (Option Value)} {st : List Value} {w : aw} {cn sn : Nat} {a b : Int32} : wp d 8 Q 119 L (.int b :: .int a :: st) w cn sn = wp d 8 Q 120 L (.int (a ||| b) :: st) w cn sn := wp_row d_8_119 _ _ _ _ _
theorem d_8_120 : decode (mB 8) 120 = .ok (.invokevirtual 126, 3) := by decide +kernel
theorem s_8_120 {d : Nat} {Q : wQ} {L : List (Option Value)} {st : List Value} {w : aw} {cn sn : Nat} {v0 : Value} {b : Nat} : wp d 8 Q 120 L (v0 :: .ref b :: st) w cn sn = (kd w b = 1 ∧ catS st ≤ 8 ∧ wpD d 10 [.ref b, v0] w (fun v w' => wp d 8 Q 123 L (v.toList ++ st) w' cn sn)) := w_virtual (As := [v0]) d_8_120 (by decide +kernel : cT (mO 8) 126 = some (0, 10)) rfl (by decide +kernel) rfl (by decide +kernel) rfl
theorem d_8_123 : decode (mB 8) 123 = .ok (.ireturn, 1) := by decide +kernel
theorem s_8_123 {d : Nat} {Q : wQ} {L : List (Option Value)} {w : aw} {cn sn : Nat} {v : Int32} : wp d 8 Q 123 L [.int v] w cn sn = Q (some (.int v)) w := w_ireturn d_8_123 rfl
theorem d_9_0 : decode (mB 9) 0 = .ok (.aload_n 0, 1) := by decide +kernel
theorem s_9_0 {d : Nat} {Q : wQ} {L : List (Option Value)} {st : List Value} {w : aw} {cn sn : Nat} {v : Nat} : wp d 9 Q 0 (some (.ref v) :: L) st w cn sn = wp d 9 Q 1 (some (.ref v) :: L) (.ref v :: st) w cn sn := w_aload_n d_9_0 rfl
theorem d_9_1 : decode (mB 9) 1 = .ok (.getfield 64, 3) := by decide +kernel
theorem s_9_1 {d : Nat} {Q : wQ} {L : List (Option Value)} {st : List Value} {w : aw} {cn sn : Nat} {a : Nat} : wp d 9 Q 1 L (.ref a :: st) w cn sn = (kd w a = 1 ∧ wp d 9 Q 4 L (fd w 8 a :: st) w cn sn) := w_getfield d_9_1 (by decide +kernel : fT (mO 9) 64 = some (0, 8))
theorem d_9_4 : decode (mB 9) 4 = .ok (.bipush 7, 2) := by decide +kernel
theorem s_9_4 {d : Nat} {Q : wQ} {L : List (Option Value)} {st : List Value} {w : aw} {cn sn : Nat}  : wp d 9 Q 4 L st w cn sn = wp d 9 Q 6 L (.int 7 :: st) w cn sn := w_bipush d_9_4 (by decide)
theorem d_9_6 : decode (mB 9) 6 = .ok (.ishr, 1) := by decide +kernel
theorem s_9_6 {d : Nat} {Q : wQ} {L : List (Option Value)} {st : List Value} {w : aw} {cn sn : Nat} {a b : Int32} : wp d 9 Q 6 L (.int b :: .int a :: st) w cn sn = wp d 9 Q 7 L (.int (a >>> (b &&& 31)) :: st) w cn sn := wp_row d_9_6 _ _ _ _ _
theorem d_9_7 : decode (mB 9) 7 = .ok (.bipush 31, 2) := by decide +kernel
theorem s_9_7 {d : Nat} {Q : wQ} {L : List (Option Value)} {st : List Value} {w : aw} {cn sn : Nat}  : wp d 9 Q 7 L st w cn sn = wp d 9 Q 9 L (.int 31 :: st) w cn sn := w_bipush d_9_7 (by decide)
theorem d_9_9 : decode (mB 9) 9 = .ok (.iand, 1) := by decide +kernel
theorem s_9_9 {d : Nat} {Q : wQ} {L : List (Option Value)} {st : List Value} {w : aw} {cn sn : Nat} {a b : Int32} : wp d 9 Q 9 L (.int b :: .int a :: st) w cn sn = wp d 9 Q 10 L (.int (a &&& b) :: st) w cn sn := wp_row d_9_9 _ _ _ _ _
theorem d_9_10 : decode (mB 9) 10 = .ok (.istore_n 2, 1) := by decide +kernel
theorem s_9_10 {d : Nat} {Q : wQ} {L : List (Option Value)} {st : List Value} {w : aw} {cn sn : Nat} {a0 a1 a2 : Option Value} {v : Int32} : wp d 9 Q 10 (a0 :: a1 :: a2 :: L) (.int v :: st) w cn sn = wp d 9 Q 11 (a0 :: clr a1 :: some (.int v) :: L) st w cn sn := w_istore_n d_9_10 (Nat.le_add_left 3 _) rfl
theorem d_9_11 : decode (mB 9) 11 = .ok (.aload_n 0, 1) := by decide +kernel
theorem s_9_11 {d : Nat} {Q : wQ} {L : List (Option Value)} {st : List Value} {w : aw} {cn sn : Nat} {v : Nat} : wp d 9 Q 11 (some (.ref v) :: L) st w cn sn = wp d 9 Q 12 (some (.ref v) :: L) (.ref v :: st) w cn sn := w_aload_n d_9_11 rfl
theorem d_9_12 : decode (mB 9) 12 = .ok (.getfield 64, 3) := by decide +kernel
theorem s_9_12 {d : Nat} {Q : wQ} {L : List (Option Value)} {st : List Value} {w : aw} {cn sn : Nat} {a : Nat} : wp d 9 Q 12 L (.ref a :: st) w cn sn = (kd w a = 1 ∧ wp d 9 Q 15 L (fd w 8 a :: st) w cn sn) := w_getfield d_9_12 (by decide +kernel : fT (mO 9) 64 = some (0, 8))
theorem d_9_15 : decode (mB 9) 15 = .ok (.sipush 3968, 3) := by decide +kernel
theorem s_9_15 {d : Nat} {Q : wQ} {L : List (Option Value)} {st : List Value} {w : aw} {cn sn : Nat}  : wp d 9 Q 15 L st w cn sn = wp d 9 Q 18 L (.int 3968 :: st) w cn sn := w_sipush d_9_15 (by decide)
theorem d_9_18 : decode (mB 9) 18 = .ok (.iand, 1) := by decide +kernel
theorem s_9_18 {d : Nat} {Q : wQ} {L : List (Option Value)} {st : List Value} {w : aw} {cn sn : Nat} {a b : Int32} : wp d 9 Q 18 L (.int b :: .int a :: st) w cn sn = wp d 9 Q 19 L (.int (a &&& b) :: st) w cn sn := wp_row d_9_18 _ _ _ _ _
theorem d_9_19 : decode (mB 9) 19 = .ok (.bipush 127, 2) := by decide +kernel
theorem s_9_19 {d : Nat} {Q : wQ} {L : List (Option Value)} {st : List Value} {w : aw} {cn sn : Nat}  : wp d 9 Q 19 L st w cn sn = wp d 9 Q 21 L (.int 127 :: st) w cn sn := w_bipush d_9_19 (by decide)
theorem d_9_21 : decode (mB 9) 21 = .ok (.ior, 1) := by decide +kernel
theorem s_9_21 {d : Nat} {Q : wQ} {L : List (Option Value)} {st : List Value} {w : aw} {cn sn : Nat} {a b : Int32} : wp d 9 Q 21 L (.int b :: .int a :: st) w cn sn = wp d 9 Q 22 L (.int (a ||| b) :: st) w cn sn := wp_row d_9_21 _ _ _ _ _
theorem d_9_22 : decode (mB 9) 22 = .ok (.istore_n 3, 1) := by decide +kernel
theorem s_9_22 {d : Nat} {Q : wQ} {L : List (Option Value)} {st : List Value} {w : aw} {cn sn : Nat} {a0 a1 a2 a3 : Option Value} {v : Int32} : wp d 9 Q 22 (a0 :: a1 :: a2 :: a3 :: L) (.int v :: st) w cn sn = wp d 9 Q 23 (a0 :: a1 :: clr a2 :: some (.int v) :: L) st w cn sn := w_istore_n d_9_22 (Nat.le_add_left 4 _) rfl
theorem d_9_23 : decode (mB 9) 23 = .ok (.aload_n 0, 1) := by decide +kernel
theorem s_9_23 {d : Nat} {Q : wQ} {L : List (Option Value)} {st : List Value} {w : aw} {cn sn : Nat} {v : Nat} : wp d 9 Q 23 (some (.ref v) :: L) st w cn sn = wp d 9 Q 24 (some (.ref v) :: L) (.ref v :: st) w cn sn := w_aload_n d_9_23 rfl
theorem d_9_24 : decode (mB 9) 24 = .ok (.getfield 29, 3) := by decide +kernel
theorem s_9_24 {d : Nat} {Q : wQ} {L : List (Option Value)} {st : List Value} {w : aw} {cn sn : Nat} {a : Nat} : wp d 9 Q 24 L (.ref a :: st) w cn sn = (kd w a = 1 ∧ wp d 9 Q 27 L (fd w 7 a :: st) w cn sn) := w_getfield d_9_24 (by decide +kernel : fT (mO 9) 29 = some (0, 7))
theorem d_9_27 : decode (mB 9) 27 = .ok (.iload_n 2, 1) := by decide +kernel
theorem s_9_27 {d : Nat} {Q : wQ} {L : List (Option Value)} {st : List Value} {w : aw} {cn sn : Nat} {a0 a1 : Option Value} {v : Int32} : wp d 9 Q 27 (a0 :: a1 :: some (.int v) :: L) st w cn sn = wp d 9 Q 28 (a0 :: a1 :: some (.int v) :: L) (.int v :: st) w cn sn := w_iload_n d_9_27 rfl
theorem d_9_28 : decode (mB 9) 28 = .ok (.iaload, 1) := by decide +kernel
theorem s_9_28 {d : Nat} {Q : wQ} {L : List (Option Value)} {st : List Value} {w : aw} {cn sn : Nat} {a : Nat} {i : Int32} : wp d 9 Q 28 L (.int i :: .ref a :: st) w cn sn = ((kd w a = 20 ∨ kd w a = 30) ∧ inR i (ln w a) ∧ wp d 9 Q 29 L (.int (ai w a i.toNatClampNeg) :: st) w cn sn) := wp_row d_9_28 _ _ _ _ _
theorem d_9_29 : decode (mB 9) 29 = .ok (.istore 4, 2) := by decide +kernel
theorem s_9_29 {d : Nat} {Q : wQ} {L : List (Option Value)} {st : List Value} {w : aw} {cn sn : Nat} {a0 a1 a2 a3 a4 : Option Value} {v : Int32} : wp d 9 Q 29 (a0 :: a1 :: a2 :: a3 :: a4 :: L) (.int v :: st) w cn sn = wp d 9 Q 31 (a0 :: a1 :: a2 :: clr a3 :: some (.int v) :: L) st w cn sn := w_istore d_9_29 (Nat.le_add_left 5 _) rfl
theorem d_9_31 : decode (mB 9) 31 = .ok (.iconst 0, 1) := by decide +kernel
theorem s_9_31 {d : Nat} {Q : wQ} {L : List (Option Value)} {st : List Value} {w : aw} {cn sn : Nat}  : wp d 9 Q 31 L st w cn sn = wp d 9 Q 32 L (.int 0 :: st) w cn sn := w_iconst d_9_31 (by decide)
theorem d_9_32 : decode (mB 9) 32 = .ok (.istore 5, 2) := by decide +kernel
theorem s_9_32 {d : Nat} {Q : wQ} {L : List (Option Value)} {st : List Value} {w : aw} {cn sn : Nat} {a0 a1 a2 a3 a4 a5 : Option Value} {v : Int32} : wp d 9 Q 32 (a0 :: a1 :: a2 :: a3 :: a4 :: a5 :: L) (.int v :: st) w cn sn = wp d 9 Q 34 (a0 :: a1 :: a2 :: a3 :: clr a4 :: some (.int v) :: L) st w cn sn := w_istore d_9_32 (Nat.le_add_left 6 _) rfl
theorem d_9_34 : decode (mB 9) 34 = .ok (.iload 5, 2) := by decide +kernel
theorem s_9_34 {d : Nat} {Q : wQ} {L : List (Option Value)} {st : List Value} {w : aw} {cn sn : Nat} {a0 a1 a2 a3 a4 : Option Value} {v : Int32} : wp d 9 Q 34 (a0 :: a1 :: a2 :: a3 :: a4 :: some (.int v) :: L) st w cn sn = wp d 9 Q 36 (a0 :: a1 :: a2 :: a3 :: a4 :: some (.int v) :: L) (.int v :: st) w cn sn := w_iload d_9_34 rfl
theorem d_9_36 : decode (mB 9) 36 = .ok (.iload 4, 2) := by decide +kernel
theorem s_9_36 {d : Nat} {Q : wQ} {L : List (Option Value)} {st : List Value} {w : aw} {cn sn : Nat} {a0 a1 a2 a3 : Option Value} {v : Int32} : wp d 9 Q 36 (a0 :: a1 :: a2 :: a3 :: some (.int v) :: L) st w cn sn = wp d 9 Q 38 (a0 :: a1 :: a2 :: a3 :: some (.int v) :: L) (.int v :: st) w cn sn := w_iload d_9_36 rfl
theorem d_9_38 : decode (mB 9) 38 = .ok (.if_icmp .ge 31, 3) := by decide +kernel
theorem s_9_38 {d : Nat} {Q : wQ} {L : List (Option Value)} {st : List Value} {w : aw} {cn sn : Nat} {a b : Int32} : wp d 9 Q 38 L (.int b :: .int a :: st) w cn sn = ((b ≤ a → wp d 9 Q 69 L st w cn sn) ∧ (¬ b ≤ a → wp d 9 Q 41 L st w cn sn)) := w_icge d_9_38 (by decide)
theorem d_9_41 : decode (mB 9) 41 = .ok (.aload_n 0, 1) := by decide +kernel
theorem s_9_41 {d : Nat} {Q : wQ} {L : List (Option Value)} {st : List Value} {w : aw} {cn sn : Nat} {v : Nat} : wp d 9 Q 41 (some (.ref v) :: L) st w cn sn = wp d 9 Q 42 (some (.ref v) :: L) (.ref v :: st) w cn sn := w_aload_n d_9_41 rfl
theorem d_9_42 : decode (mB 9) 42 = .ok (.getfield 18, 3) := by decide +kernel
theorem s_9_42 {d : Nat} {Q : wQ} {L : List (Option Value)} {st : List Value} {w : aw} {cn sn : Nat} {a : Nat} : wp d 9 Q 42 L (.ref a :: st) w cn sn = (kd w a = 1 ∧ wp d 9 Q 45 L (fd w 3 a :: st) w cn sn) := w_getfield d_9_42 (by decide +kernel : fT (mO 9) 18 = some (0, 3))
theorem d_9_45 : decode (mB 9) 45 = .ok (.iload_n 3, 1) := by decide +kernel
theorem s_9_45 {d : Nat} {Q : wQ} {L : List (Option Value)} {st : List Value} {w : aw} {cn sn : Nat} {a0 a1 a2 : Option Value} {v : Int32} : wp d 9 Q 45 (a0 :: a1 :: a2 :: some (.int v) :: L) st w cn sn = wp d 9 Q 46 (a0 :: a1 :: a2 :: some (.int v) :: L) (.int v :: st) w cn sn := w_iload_n d_9_45 rfl
theorem d_9_46 : decode (mB 9) 46 = .ok (.iload 5, 2) := by decide +kernel
theorem s_9_46 {d : Nat} {Q : wQ} {L : List (Option Value)} {st : List Value} {w : aw} {cn sn : Nat} {a0 a1 a2 a3 a4 : Option Value} {v : Int32} : wp d 9 Q 46 (a0 :: a1 :: a2 :: a3 :: a4 :: some (.int v) :: L) st w cn sn = wp d 9 Q 48 (a0 :: a1 :: a2 :: a3 :: a4 :: some (.int v) :: L) (.int v :: st) w cn sn := w_iload d_9_46 rfl
theorem d_9_48 : decode (mB 9) 48 = .ok (.isub, 1) := by decide +kernel
theorem s_9_48 {d : Nat} {Q : wQ} {L : List (Option Value)} {st : List Value} {w : aw} {cn sn : Nat} {a b : Int32} : wp d 9 Q 48 L (.int b :: .int a :: st) w cn sn = wp d 9 Q 49 L (.int (a - b) :: st) w cn sn := wp_row d_9_48 _ _ _ _ _
theorem d_9_49 : decode (mB 9) 49 = .ok (.sipush 4095, 3) := by decide +kernel
theorem s_9_49 {d : Nat} {Q : wQ} {L : List (Option Value)} {st : List Value} {w : aw} {cn sn : Nat}  : wp d 9 Q 49 L st w cn sn = wp d 9 Q 52 L (.int 4095 :: st) w cn sn := w_sipush d_9_49 (by decide)
theorem d_9_52 : decode (mB 9) 52 = .ok (.iand, 1) := by decide +kernel
theorem s_9_52 {d : Nat} {Q : wQ} {L : List (Option Value)} {st : List Value} {w : aw} {cn sn : Nat} {a b : Int32} : wp d 9 Q 52 L (.int b :: .int a :: st) w cn sn = wp d 9 Q 53 L (.int (a &&& b) :: st) w cn sn := wp_row d_9_52 _ _ _ _ _
theorem d_9_53 : decode (mB 9) 53 = .ok (.iaload, 1) := by decide +kernel
theorem s_9_53 {d : Nat} {Q : wQ} {L : List (Option Value)} {st : List Value} {w : aw} {cn sn : Nat} {a : Nat} {i : Int32} : wp d 9 Q 53 L (.int i :: .ref a :: st) w cn sn = ((kd w a = 20 ∨ kd w a = 30) ∧ inR i (ln w a) ∧ wp d 9 Q 54 L (.int (ai w a i.toNatClampNeg) :: st) w cn sn) := wp_row d_9_53 _ _ _ _ _
theorem d_9_54 : decode (mB 9) 54 = .ok (.iload_n 1, 1) := by decide +kernel
theorem s_9_54 {d : Nat} {Q : wQ} {L : List (Option Value)} {st : List Value} {w : aw} {cn sn : Nat} {a0 : Option Value} {v : Int32} : wp d 9 Q 54 (a0 :: some (.int v) :: L) st w cn sn = wp d 9 Q 55 (a0 :: some (.int v) :: L) (.int v :: st) w cn sn := w_iload_n d_9_54 rfl
theorem d_9_55 : decode (mB 9) 55 = .ok (.if_icmp .ne 8, 3) := by decide +kernel
theorem s_9_55 {d : Nat} {Q : wQ} {L : List (Option Value)} {st : List Value} {w : aw} {cn sn : Nat} {a b : Int32} : wp d 9 Q 55 L (.int b :: .int a :: st) w cn sn = ((¬ a = b → wp d 9 Q 63 L st w cn sn) ∧ (a = b → wp d 9 Q 58 L st w cn sn)) := w_icne d_9_55 (by decide)
theorem d_9_58 : decode (mB 9) 58 = .ok (.iload_n 3, 1) := by decide +kernel
theorem s_9_58 {d : Nat} {Q : wQ} {L : List (Option Value)} {st : List Value} {w : aw} {cn sn : Nat} {a0 a1 a2 : Option Value} {v : Int32} : wp d 9 Q 58 (a0 :: a1 :: a2 :: some (.int v) :: L) st w cn sn = wp d 9 Q 59 (a0 :: a1 :: a2 :: some (.int v) :: L) (.int v :: st) w cn sn := w_iload_n d_9_58 rfl
theorem d_9_59 : decode (mB 9) 59 = .ok (.iload 5, 2) := by decide +kernel
theorem s_9_59 {d : Nat} {Q : wQ} {L : List (Option Value)} {st : List Value} {w : aw} {cn sn : Nat} {a0 a1 a2 a3 a4 : Option Value} {v : Int32} : wp d 9 Q 59 (a0 :: a1 :: a2 :: a3 :: a4 :: some (.int v) :: L) st w cn sn = wp d 9 Q 61 (a0 :: a1 :: a2 :: a3 :: a4 :: some (.int v) :: L) (.int v :: st) w cn sn := w_iload d_9_59 rfl
theorem d_9_61 : decode (mB 9) 61 = .ok (.isub, 1) := by decide +kernel
theorem s_9_61 {d : Nat} {Q : wQ} {L : List (Option Value)} {st : List Value} {w : aw} {cn sn : Nat} {a b : Int32} : wp d 9 Q 61 L (.int b :: .int a :: st) w cn sn = wp d 9 Q 62 L (.int (a - b) :: st) w cn sn := wp_row d_9_61 _ _ _ _ _
theorem d_9_62 : decode (mB 9) 62 = .ok (.ireturn, 1) := by decide +kernel
theorem s_9_62 {d : Nat} {Q : wQ} {L : List (Option Value)} {w : aw} {cn sn : Nat} {v : Int32} : wp d 9 Q 62 L [.int v] w cn sn = Q (some (.int v)) w := w_ireturn d_9_62 rfl
theorem d_9_63 : decode (mB 9) 63 = .ok (.iinc 5 1, 3) := by decide +kernel
theorem s_9_63 {d : Nat} {Q : wQ} {L : List (Option Value)} {st : List Value} {w : aw} {cn sn : Nat} {a0 a1 a2 a3 a4 : Option Value} {v : Int32} : wp d 9 Q 63 (a0 :: a1 :: a2 :: a3 :: a4 :: some (.int v) :: L) st w cn sn = wp d 9 Q 66 (a0 :: a1 :: a2 :: a3 :: clr a4 :: some (.int (v + 1)) :: L) st w cn sn := w_iinc d_9_63 rfl (by decide) rfl
theorem d_9_66 : decode (mB 9) 66 = .ok (.goto (-32), 3) := by decide +kernel
theorem s_9_66 {d : Nat} {Q : wQ} {L : List (Option Value)} {st : List Value} {w : aw} {cn sn : Nat}  : wp d 9 Q 66 L st w cn sn = wp d 9 Q 34 L st w cn sn := w_goto d_9_66 (by decide)
theorem d_9_69 : decode (mB 9) 69 = .ok (.iload 4, 2) := by decide +kernel
theorem s_9_69 {d : Nat} {Q : wQ} {L : List (Option Value)} {st : List Value} {w : aw} {cn sn : Nat} {a0 a1 a2 a3 : Option Value} {v : Int32} : wp d 9 Q 69 (a0 :: a1 :: a2 :: a3 :: some (.int v) :: L) st w cn sn = wp d 9 Q 71 (a0 :: a1 :: a2 :: a3 :: some (.int v) :: L) (.int v :: st) w cn sn := w_iload d_9_69 rfl
theorem d_9_71 : decode (mB 9) 71 = .ok (.bipush 127, 2) := by decide +kernel
theorem s_9_71 {d : Nat} {Q : wQ} {L : List (Option Value)} {st : List Value} {w : aw} {cn sn : Nat}  : wp d 9 Q 71 L st w cn sn = wp d 9 Q 73 L (.int 127 :: st) w cn sn := w_bipush d_9_71 (by decide)
theorem d_9_73 : decode (mB 9) 73 = .ok (.if_icmp .gt 15, 3) := by decide +kernel
theorem s_9_73 {d : Nat} {Q : wQ} {L : List (Option Value)} {st : List Value} {w : aw} {cn sn : Nat} {a b : Int32} : wp d 9 Q 73 L (.int b :: .int a :: st) w cn sn = ((b < a → wp d 9 Q 88 L st w cn sn) ∧ (¬ b < a → wp d 9 Q 76 L st w cn sn)) := w_icgt d_9_73 (by decide)
theorem d_9_76 : decode (mB 9) 76 = .ok (.aload_n 0, 1) := by decide +kernel
theorem s_9_76 {d : Nat} {Q : wQ} {L : List (Option Value)} {st : List Value} {w : aw} {cn sn : Nat} {v : Nat} : wp d 9 Q 76 (some (.ref v) :: L) st w cn sn = wp d 9 Q 77 (some (.ref v) :: L) (.ref v :: st) w cn sn := w_aload_n d_9_76 rfl
theorem d_9_77 : decode (mB 9) 77 = .ok (.iload_n 3, 1) := by decide +kernel
theorem s_9_77 {d : Nat} {Q : wQ} {L : List (Option Value)} {st : List Value} {w : aw} {cn sn : Nat} {a0 a1 a2 : Option Value} {v : Int32} : wp d 9 Q 77 (a0 :: a1 :: a2 :: some (.int v) :: L) st w cn sn = wp d 9 Q 78 (a0 :: a1 :: a2 :: some (.int v) :: L) (.int v :: st) w cn sn := w_iload_n d_9_77 rfl
theorem d_9_78 : decode (mB 9) 78 = .ok (.iload 4, 2) := by decide +kernel
theorem s_9_78 {d : Nat} {Q : wQ} {L : List (Option Value)} {st : List Value} {w : aw} {cn sn : Nat} {a0 a1 a2 a3 : Option Value} {v : Int32} : wp d 9 Q 78 (a0 :: a1 :: a2 :: a3 :: some (.int v) :: L) st w cn sn = wp d 9 Q 80 (a0 :: a1 :: a2 :: a3 :: some (.int v) :: L) (.int v :: st) w cn sn := w_iload d_9_78 rfl
theorem d_9_80 : decode (mB 9) 80 = .ok (.isub, 1) := by decide +kernel
theorem s_9_80 {d : Nat} {Q : wQ} {L : List (Option Value)} {st : List Value} {w : aw} {cn sn : Nat} {a b : Int32} : wp d 9 Q 80 L (.int b :: .int a :: st) w cn sn = wp d 9 Q 81 L (.int (a - b) :: st) w cn sn := wp_row d_9_80 _ _ _ _ _
theorem d_9_81 : decode (mB 9) 81 = .ok (.iload_n 1, 1) := by decide +kernel
theorem s_9_81 {d : Nat} {Q : wQ} {L : List (Option Value)} {st : List Value} {w : aw} {cn sn : Nat} {a0 : Option Value} {v : Int32} : wp d 9 Q 81 (a0 :: some (.int v) :: L) st w cn sn = wp d 9 Q 82 (a0 :: some (.int v) :: L) (.int v :: st) w cn sn := w_iload_n d_9_81 rfl
theorem d_9_82 : decode (mB 9) 82 = .ok (.invokevirtual 141, 3) := by decide +kernel
theorem s_9_82 {d : Nat} {Q : wQ} {L : List (Option Value)} {st : List Value} {w : aw} {cn sn : Nat} {v0 v1 : Value} {b : Nat} : wp d 9 Q 82 L (v1 :: v0 :: .ref b :: st) w cn sn = (kd w b = 1 ∧ catS st ≤ 8 ∧ wpD d 11 [.ref b, v0, v1] w (fun v w' => wp d 9 Q 85 L (v.toList ++ st) w' cn sn)) := w_virtual (As := [v0, v1]) d_9_82 (by decide +kernel : cT (mO 9) 141 = some (0, 11)) rfl (by decide +kernel) rfl (by decide +kernel) rfl
theorem d_9_85 : decode (mB 9) 85 = .ok (.ifCond .ne 5, 3) := by decide +kernel
theorem s_9_85 {d : Nat} {Q : wQ} {L : List (Option Value)} {st : List Value} {w : aw} {cn sn : Nat} {x : Int32} : wp d 9 Q 85 L (.int x :: st) w cn sn = ((¬ x = 0 → wp d 9 Q 90 L st w cn sn) ∧ (x = 0 → wp d 9 Q 88 L st w cn sn)) := w_ifne d_9_85 (by decide)
theorem d_9_88 : decode (mB 9) 88 = .ok (.iconst (-1), 1) := by decide +kernel
theorem s_9_88 {d : Nat} {Q : wQ} {L : List (Option Value)} {st : List Value} {w : aw} {cn sn : Nat}  : wp d 9 Q 88 L st w cn sn = wp d 9 Q 89 L (.int (-1) :: st) w cn sn := w_iconst d_9_88 (by decide)
theorem d_9_89 : decode (mB 9) 89 = .ok (.ireturn, 1) := by decide +kernel
theorem s_9_89 {d : Nat} {Q : wQ} {L : List (Option Value)} {w : aw} {cn sn : Nat} {v : Int32} : wp d 9 Q 89 L [.int v] w cn sn = Q (some (.int v)) w := w_ireturn d_9_89 rfl
theorem d_9_90 : decode (mB 9) 90 = .ok (.aload_n 0, 1) := by decide +kernel
theorem s_9_90 {d : Nat} {Q : wQ} {L : List (Option Value)} {st : List Value} {w : aw} {cn sn : Nat} {v : Nat} : wp d 9 Q 90 (some (.ref v) :: L) st w cn sn = wp d 9 Q 91 (some (.ref v) :: L) (.ref v :: st) w cn sn := w_aload_n d_9_90 rfl
theorem d_9_91 : decode (mB 9) 91 = .ok (.getfield 29, 3) := by decide +kernel
theorem s_9_91 {d : Nat} {Q : wQ} {L : List (Option Value)} {st : List Value} {w : aw} {cn sn : Nat} {a : Nat} : wp d 9 Q 91 L (.ref a :: st) w cn sn = (kd w a = 1 ∧ wp d 9 Q 94 L (fd w 7 a :: st) w cn sn) := w_getfield d_9_91 (by decide +kernel : fT (mO 9) 29 = some (0, 7))
theorem d_9_94 : decode (mB 9) 94 = .ok (.iload_n 2, 1) := by decide +kernel
theorem s_9_94 {d : Nat} {Q : wQ} {L : List (Option Value)} {st : List Value} {w : aw} {cn sn : Nat} {a0 a1 : Option Value} {v : Int32} : wp d 9 Q 94 (a0 :: a1 :: some (.int v) :: L) st w cn sn = wp d 9 Q 95 (a0 :: a1 :: some (.int v) :: L) (.int v :: st) w cn sn := w_iload_n d_9_94 rfl
theorem d_9_95 : decode (mB 9) 95 = .ok (.iload 4, 2) := by decide +kernel
theorem s_9_95 {d : Nat} {Q : wQ} {L : List (Option Value)} {st : List Value} {w : aw} {cn sn : Nat} {a0 a1 a2 a3 : Option Value} {v : Int32} : wp d 9 Q 95 (a0 :: a1 :: a2 :: a3 :: some (.int v) :: L) st w cn sn = wp d 9 Q 97 (a0 :: a1 :: a2 :: a3 :: some (.int v) :: L) (.int v :: st) w cn sn := w_iload d_9_95 rfl
theorem d_9_97 : decode (mB 9) 97 = .ok (.iconst 1, 1) := by decide +kernel
theorem s_9_97 {d : Nat} {Q : wQ} {L : List (Option Value)} {st : List Value} {w : aw} {cn sn : Nat}  : wp d 9 Q 97 L st w cn sn = wp d 9 Q 98 L (.int 1 :: st) w cn sn := w_iconst d_9_97 (by decide)
theorem d_9_98 : decode (mB 9) 98 = .ok (.iadd, 1) := by decide +kernel
theorem s_9_98 {d : Nat} {Q : wQ} {L : List (Option Value)} {st : List Value} {w : aw} {cn sn : Nat} {a b : Int32} : wp d 9 Q 98 L (.int b :: .int a :: st) w cn sn = wp d 9 Q 99 L (.int (a + b) :: st) w cn sn := wp_row d_9_98 _ _ _ _ _
theorem d_9_99 : decode (mB 9) 99 = .ok (.iastore, 1) := by decide +kernel
theorem s_9_99 {d : Nat} {Q : wQ} {L : List (Option Value)} {st : List Value} {w : aw} {cn sn : Nat} {a : Nat} {i x : Int32} : wp d 9 Q 99 L (.int x :: .int i :: .ref a :: st) w cn sn = (kd w a = 20 ∧ inR i (ln w a) ∧ wp d 9 Q 100 L st (uA w a i.toNatClampNeg x) cn sn) := wp_row d_9_99 _ _ _ _ _
theorem d_9_100 : decode (mB 9) 100 = .ok (.iload_n 3, 1) := by decide +kernel
theorem s_9_100 {d : Nat} {Q : wQ} {L : List (Option Value)} {st : List Value} {w : aw} {cn sn : Nat} {a0 a1 a2 : Option Value} {v : Int32} : wp d 9 Q 100 (a0 :: a1 :: a2 :: some (.int v) :: L) st w cn sn = wp d 9 Q 101 (a0 :: a1 :: a2 :: some (.int v) :: L) (.int v :: st) w cn sn := w_iload_n d_9_100 rfl
theorem d_9_101 : decode (mB 9) 101 = .ok (.iload 4, 2) := by decide +kernel
theorem s_9_101 {d : Nat} {Q : wQ} {L : List (Option Value)} {st : List Value} {w : aw} {cn sn : Nat} {a0 a1 a2 a3 : Option Value} {v : Int32} : wp d 9 Q 101 (a0 :: a1 :: a2 :: a3 :: some (.int v) :: L) st w cn sn = wp d 9 Q 103 (a0 :: a1 :: a2 :: a3 :: some (.int v) :: L) (.int v :: st) w cn sn := w_iload d_9_101 rfl
theorem d_9_103 : decode (mB 9) 103 = .ok (.isub, 1) := by decide +kernel
theorem s_9_103 {d : Nat} {Q : wQ} {L : List (Option Value)} {st : List Value} {w : aw} {cn sn : Nat} {a b : Int32} : wp d 9 Q 103 L (.int b :: .int a :: st) w cn sn = wp d 9 Q 104 L (.int (a - b) :: st) w cn sn := wp_row d_9_103 _ _ _ _ _
theorem d_9_104 : decode (mB 9) 104 = .ok (.ireturn, 1) := by decide +kernel
theorem s_9_104 {d : Nat} {Q : wQ} {L : List (Option Value)} {w : aw} {cn sn : Nat} {v : Int32} : wp d 9 Q 104 L [.int v] w cn sn = Q (some (.int v)) w := w_ireturn d_9_104 rfl
theorem d_10_0 : decode (mB 10) 0 = .ok (.aload_n 0, 1) := by decide +kernel
theorem s_10_0 {d : Nat} {Q : wQ} {L : List (Option Value)} {st : List Value} {w : aw} {cn sn : Nat} {v : Nat} : wp d 10 Q 0 (some (.ref v) :: L) st w cn sn = wp d 10 Q 1 (some (.ref v) :: L) (.ref v :: st) w cn sn := w_aload_n d_10_0 rfl
theorem d_10_1 : decode (mB 10) 1 = .ok (.aload_n 0, 1) := by decide +kernel
theorem s_10_1 {d : Nat} {Q : wQ} {L : List (Option Value)} {st : List Value} {w : aw} {cn sn : Nat} {v : Nat} : wp d 10 Q 1 (some (.ref v) :: L) st w cn sn = wp d 10 Q 2 (some (.ref v) :: L) (.ref v :: st) w cn sn := w_aload_n d_10_1 rfl
theorem d_10_2 : decode (mB 10) 2 = .ok (.getfield 64, 3) := by decide +kernel
theorem s_10_2 {d : Nat} {Q : wQ} {L : List (Option Value)} {st : List Value} {w : aw} {cn sn : Nat} {a : Nat} : wp d 10 Q 2 L (.ref a :: st) w cn sn = (kd w a = 1 ∧ wp d 10 Q 5 L (fd w 8 a :: st) w cn sn) := w_getfield d_10_2 (by decide +kernel : fT (mO 10) 64 = some (0, 8))
theorem d_10_5 : decode (mB 10) 5 = .ok (.iload_n 1, 1) := by decide +kernel
theorem s_10_5 {d : Nat} {Q : wQ} {L : List (Option Value)} {st : List Value} {w : aw} {cn sn : Nat} {a0 : Option Value} {v : Int32} : wp d 10 Q 5 (a0 :: some (.int v) :: L) st w cn sn = wp d 10 Q 6 (a0 :: some (.int v) :: L) (.int v :: st) w cn sn := w_iload_n d_10_5 rfl
theorem d_10_6 : decode (mB 10) 6 = .ok (.invokevirtual 141, 3) := by decide +kernel
theorem s_10_6 {d : Nat} {Q : wQ} {L : List (Option Value)} {st : List Value} {w : aw} {cn sn : Nat} {v0 v1 : Value} {b : Nat} : wp d 10 Q 6 L (v1 :: v0 :: .ref b :: st) w cn sn = (kd w b = 1 ∧ catS st ≤ 8 ∧ wpD d 11 [.ref b, v0, v1] w (fun v w' => wp d 10 Q 9 L (v.toList ++ st) w' cn sn)) := w_virtual (As := [v0, v1]) d_10_6 (by decide +kernel : cT (mO 10) 141 = some (0, 11)) rfl (by decide +kernel) rfl (by decide +kernel) rfl
theorem d_10_9 : decode (mB 10) 9 = .ok (.istore_n 2, 1) := by decide +kernel
theorem s_10_9 {d : Nat} {Q : wQ} {L : List (Option Value)} {st : List Value} {w : aw} {cn sn : Nat} {a0 a1 a2 : Option Value} {v : Int32} : wp d 10 Q 9 (a0 :: a1 :: a2 :: L) (.int v :: st) w cn sn = wp d 10 Q 10 (a0 :: clr a1 :: some (.int v) :: L) st w cn sn := w_istore_n d_10_9 (Nat.le_add_left 3 _) rfl
theorem d_10_10 : decode (mB 10) 10 = .ok (.aload_n 0, 1) := by decide +kernel
theorem s_10_10 {d : Nat} {Q : wQ} {L : List (Option Value)} {st : List Value} {w : aw} {cn sn : Nat} {v : Nat} : wp d 10 Q 10 (some (.ref v) :: L) st w cn sn = wp d 10 Q 11 (some (.ref v) :: L) (.ref v :: st) w cn sn := w_aload_n d_10_10 rfl
theorem d_10_11 : decode (mB 10) 11 = .ok (.aload_n 0, 1) := by decide +kernel
theorem s_10_11 {d : Nat} {Q : wQ} {L : List (Option Value)} {st : List Value} {w : aw} {cn sn : Nat} {v : Nat} : wp d 10 Q 11 (some (.ref v) :: L) st w cn sn = wp d 10 Q 12 (some (.ref v) :: L) (.ref v :: st) w cn sn := w_aload_n d_10_11 rfl
theorem d_10_12 : decode (mB 10) 12 = .ok (.getfield 64, 3) := by decide +kernel
theorem s_10_12 {d : Nat} {Q : wQ} {L : List (Option Value)} {st : List Value} {w : aw} {cn sn : Nat} {a : Nat} : wp d 10 Q 12 L (.ref a :: st) w cn sn = (kd w a = 1 ∧ wp d 10 Q 15 L (fd w 8 a :: st) w cn sn) := w_getfield d_10_12 (by decide +kernel : fT (mO 10) 64 = some (0, 8))
theorem d_10_15 : decode (mB 10) 15 = .ok (.iconst 1, 1) := by decide +kernel
theorem s_10_15 {d : Nat} {Q : wQ} {L : List (Option Value)} {st : List Value} {w : aw} {cn sn : Nat}  : wp d 10 Q 15 L st w cn sn = wp d 10 Q 16 L (.int 1 :: st) w cn sn := w_iconst d_10_15 (by decide)
theorem d_10_16 : decode (mB 10) 16 = .ok (.iadd, 1) := by decide +kernel
theorem s_10_16 {d : Nat} {Q : wQ} {L : List (Option Value)} {st : List Value} {w : aw} {cn sn : Nat} {a b : Int32} : wp d 10 Q 16 L (.int b :: .int a :: st) w cn sn = wp d 10 Q 17 L (.int (a + b) :: st) w cn sn := wp_row d_10_16 _ _ _ _ _
theorem d_10_17 : decode (mB 10) 17 = .ok (.sipush 4095, 3) := by decide +kernel
theorem s_10_17 {d : Nat} {Q : wQ} {L : List (Option Value)} {st : List Value} {w : aw} {cn sn : Nat}  : wp d 10 Q 17 L st w cn sn = wp d 10 Q 20 L (.int 4095 :: st) w cn sn := w_sipush d_10_17 (by decide)
theorem d_10_20 : decode (mB 10) 20 = .ok (.iand, 1) := by decide +kernel
theorem s_10_20 {d : Nat} {Q : wQ} {L : List (Option Value)} {st : List Value} {w : aw} {cn sn : Nat} {a b : Int32} : wp d 10 Q 20 L (.int b :: .int a :: st) w cn sn = wp d 10 Q 21 L (.int (a &&& b) :: st) w cn sn := wp_row d_10_20 _ _ _ _ _
theorem d_10_21 : decode (mB 10) 21 = .ok (.putfield 64, 3) := by decide +kernel
theorem s_10_21 {d : Nat} {Q : wQ} {L : List (Option Value)} {st : List Value} {w : aw} {cn sn : Nat} {x : Int32} {a : Nat} : wp d 10 Q 21 L (.int x :: .ref a :: st) w cn sn = (kd w a = 1 ∧ wp d 10 Q 24 L st (uF w 8 a (.int x)) cn sn) := w_putfield d_10_21 (by decide +kernel : fT (mO 10) 64 = some (0, 8)) (by decide +kernel) ok_int
theorem d_10_24 : decode (mB 10) 24 = .ok (.iload_n 2, 1) := by decide +kernel
theorem s_10_24 {d : Nat} {Q : wQ} {L : List (Option Value)} {st : List Value} {w : aw} {cn sn : Nat} {a0 a1 : Option Value} {v : Int32} : wp d 10 Q 24 (a0 :: a1 :: some (.int v) :: L) st w cn sn = wp d 10 Q 25 (a0 :: a1 :: some (.int v) :: L) (.int v :: st) w cn sn := w_iload_n d_10_24 rfl
theorem d_10_25 : decode (mB 10) 25 = .ok (.ifCond .eq 7, 3) := by decide +kernel
theorem s_10_25 {d : Nat} {Q : wQ} {L : List (Option Value)} {st : List Value} {w : aw} {cn sn : Nat} {x : Int32} : wp d 10 Q 25 L (.int x :: st) w cn sn = ((x = 0 → wp d 10 Q 32 L st w cn sn) ∧ (¬ x = 0 → wp d 10 Q 28 L st w cn sn)) := w_ifeq d_10_25 (by decide)
theorem d_10_28 : decode (mB 10) 28 = .ok (.iconst 0, 1) := by decide +kernel
theorem s_10_28 {d : Nat} {Q : wQ} {L : List (Option Value)} {st : List Value} {w : aw} {cn sn : Nat}  : wp d 10 Q 28 L st w cn sn = wp d 10 Q 29 L (.int 0 :: st) w cn sn := w_iconst d_10_28 (by decide)
theorem d_10_29 : decode (mB 10) 29 = .ok (.goto 4, 3) := by decide +kernel
theorem s_10_29 {d : Nat} {Q : wQ} {L : List (Option Value)} {st : List Value} {w : aw} {cn sn : Nat}  : wp d 10 Q 29 L st w cn sn = wp d 10 Q 33 L st w cn sn := w_goto d_10_29 (by decide)
theorem d_10_32 : decode (mB 10) 32 = .ok (.iconst 5, 1) := by decide +kernel
theorem s_10_32 {d : Nat} {Q : wQ} {L : List (Option Value)} {st : List Value} {w : aw} {cn sn : Nat}  : wp d 10 Q 32 L st w cn sn = wp d 10 Q 33 L (.int 5 :: st) w cn sn := w_iconst d_10_32 (by decide)
theorem d_10_33 : decode (mB 10) 33 = .ok (.ireturn, 1) := by decide +kernel
theorem s_10_33 {d : Nat} {Q : wQ} {L : List (Option Value)} {w : aw} {cn sn : Nat} {v : Int32} : wp d 10 Q 33 L [.int v] w cn sn = Q (some (.int v)) w := w_ireturn d_10_33 rfl
theorem d_11_0 : decode (mB 11) 0 = .ok (.iload_n 1, 1) := by decide +kernel
theorem s_11_0 {d : Nat} {Q : wQ} {L : List (Option Value)} {st : List Value} {w : aw} {cn sn : Nat} {a0 : Option Value} {v : Int32} : wp d 11 Q 0 (a0 :: some (.int v) :: L) st w cn sn = wp d 11 Q 1 (a0 :: some (.int v) :: L) (.int v :: st) w cn sn := w_iload_n d_11_0 rfl
theorem d_11_1 : decode (mB 11) 1 = .ok (.sipush 4095, 3) := by decide +kernel
theorem s_11_1 {d : Nat} {Q : wQ} {L : List (Option Value)} {st : List Value} {w : aw} {cn sn : Nat}  : wp d 11 Q 1 L st w cn sn = wp d 11 Q 4 L (.int 4095 :: st) w cn sn := w_sipush d_11_1 (by decide)
theorem d_11_4 : decode (mB 11) 4 = .ok (.iand, 1) := by decide +kernel
theorem s_11_4 {d : Nat} {Q : wQ} {L : List (Option Value)} {st : List Value} {w : aw} {cn sn : Nat} {a b : Int32} : wp d 11 Q 4 L (.int b :: .int a :: st) w cn sn = wp d 11 Q 5 L (.int (a &&& b) :: st) w cn sn := wp_row d_11_4 _ _ _ _ _
theorem d_11_5 : decode (mB 11) 5 = .ok (.istore_n 3, 1) := by decide +kernel
theorem s_11_5 {d : Nat} {Q : wQ} {L : List (Option Value)} {st : List Value} {w : aw} {cn sn : Nat} {a0 a1 a2 a3 : Option Value} {v : Int32} : wp d 11 Q 5 (a0 :: a1 :: a2 :: a3 :: L) (.int v :: st) w cn sn = wp d 11 Q 6 (a0 :: a1 :: clr a2 :: some (.int v) :: L) st w cn sn := w_istore_n d_11_5 (Nat.le_add_left 4 _) rfl
theorem d_11_6 : decode (mB 11) 6 = .ok (.aload_n 0, 1) := by decide +kernel
theorem s_11_6 {d : Nat} {Q : wQ} {L : List (Option Value)} {st : List Value} {w : aw} {cn sn : Nat} {v : Nat} : wp d 11 Q 6 (some (.ref v) :: L) st w cn sn = wp d 11 Q 7 (some (.ref v) :: L) (.ref v :: st) w cn sn := w_aload_n d_11_6 rfl
theorem d_11_7 : decode (mB 11) 7 = .ok (.getfield 22, 3) := by decide +kernel
theorem s_11_7 {d : Nat} {Q : wQ} {L : List (Option Value)} {st : List Value} {w : aw} {cn sn : Nat} {a : Nat} : wp d 11 Q 7 L (.ref a :: st) w cn sn = (kd w a = 1 ∧ wp d 11 Q 10 L (fd w 4 a :: st) w cn sn) := w_getfield d_11_7 (by decide +kernel : fT (mO 11) 22 = some (0, 4))
theorem d_11_10 : decode (mB 11) 10 = .ok (.iload_n 3, 1) := by decide +kernel
theorem s_11_10 {d : Nat} {Q : wQ} {L : List (Option Value)} {st : List Value} {w : aw} {cn sn : Nat} {a0 a1 a2 : Option Value} {v : Int32} : wp d 11 Q 10 (a0 :: a1 :: a2 :: some (.int v) :: L) st w cn sn = wp d 11 Q 11 (a0 :: a1 :: a2 :: some (.int v) :: L) (.int v :: st) w cn sn := w_iload_n d_11_10 rfl
theorem d_11_11 : decode (mB 11) 11 = .ok (.baload, 1) := by decide +kernel
theorem s_11_11 {d : Nat} {Q : wQ} {L : List (Option Value)} {st : List Value} {w : aw} {cn sn : Nat} {a : Nat} {i : Int32} : wp d 11 Q 11 L (.int i :: .ref a :: st) w cn sn = ((kd w a = 21 ∨ kd w a = 23 ∨ kd w a = 31) ∧ inR i (ln w a) ∧ wp d 11 Q 12 L (.int (ai w a i.toNatClampNeg) :: st) w cn sn) := wp_row d_11_11 _ _ _ _ _
theorem d_11_12 : decode (mB 11) 12 = .ok (.ifCond .ne 13, 3) := by decide +kernel
theorem s_11_12 {d : Nat} {Q : wQ} {L : List (Option Value)} {st : List Value} {w : aw} {cn sn : Nat} {x : Int32} : wp d 11 Q 12 L (.int x :: st) w cn sn = ((¬ x = 0 → wp d 11 Q 25 L st w cn sn) ∧ (x = 0 → wp d 11 Q 15 L st w cn sn)) := w_ifne d_11_12 (by decide)
theorem d_11_15 : decode (mB 11) 15 = .ok (.aload_n 0, 1) := by decide +kernel
theorem s_11_15 {d : Nat} {Q : wQ} {L : List (Option Value)} {st : List Value} {w : aw} {cn sn : Nat} {v : Nat} : wp d 11 Q 15 (some (.ref v) :: L) st w cn sn = wp d 11 Q 16 (some (.ref v) :: L) (.ref v :: st) w cn sn := w_aload_n d_11_15 rfl
theorem d_11_16 : decode (mB 11) 16 = .ok (.getfield 45, 3) := by decide +kernel
theorem s_11_16 {d : Nat} {Q : wQ} {L : List (Option Value)} {st : List Value} {w : aw} {cn sn : Nat} {a : Nat} : wp d 11 Q 16 L (.ref a :: st) w cn sn = (kd w a = 1 ∧ wp d 11 Q 19 L (fd w 6 a :: st) w cn sn) := w_getfield d_11_16 (by decide +kernel : fT (mO 11) 45 = some (0, 6))
theorem d_11_19 : decode (mB 11) 19 = .ok (.sipush 4096, 3) := by decide +kernel
theorem s_11_19 {d : Nat} {Q : wQ} {L : List (Option Value)} {st : List Value} {w : aw} {cn sn : Nat}  : wp d 11 Q 19 L st w cn sn = wp d 11 Q 22 L (.int 4096 :: st) w cn sn := w_sipush d_11_19 (by decide)
theorem d_11_22 : decode (mB 11) 22 = .ok (.if_icmp .lt 5, 3) := by decide +kernel
theorem s_11_22 {d : Nat} {Q : wQ} {L : List (Option Value)} {st : List Value} {w : aw} {cn sn : Nat} {a b : Int32} : wp d 11 Q 22 L (.int b :: .int a :: st) w cn sn = ((a < b → wp d 11 Q 27 L st w cn sn) ∧ (¬ a < b → wp d 11 Q 25 L st w cn sn)) := w_iclt d_11_22 (by decide)
theorem d_11_25 : decode (mB 11) 25 = .ok (.iconst 0, 1) := by decide +kernel
theorem s_11_25 {d : Nat} {Q : wQ} {L : List (Option Value)} {st : List Value} {w : aw} {cn sn : Nat}  : wp d 11 Q 25 L st w cn sn = wp d 11 Q 26 L (.int 0 :: st) w cn sn := w_iconst d_11_25 (by decide)
theorem d_11_26 : decode (mB 11) 26 = .ok (.ireturn, 1) := by decide +kernel
theorem s_11_26 {d : Nat} {Q : wQ} {L : List (Option Value)} {w : aw} {cn sn : Nat} {v : Int32} : wp d 11 Q 26 L [.int v] w cn sn = (narrow .boolean (.int v) = .int v ∧ Q (some (.int v)) w) := w_zreturn d_11_26 rfl
theorem d_11_27 : decode (mB 11) 27 = .ok (.aload_n 0, 1) := by decide +kernel
theorem s_11_27 {d : Nat} {Q : wQ} {L : List (Option Value)} {st : List Value} {w : aw} {cn sn : Nat} {v : Nat} : wp d 11 Q 27 (some (.ref v) :: L) st w cn sn = wp d 11 Q 28 (some (.ref v) :: L) (.ref v :: st) w cn sn := w_aload_n d_11_27 rfl
theorem d_11_28 : decode (mB 11) 28 = .ok (.getfield 22, 3) := by decide +kernel
theorem s_11_28 {d : Nat} {Q : wQ} {L : List (Option Value)} {st : List Value} {w : aw} {cn sn : Nat} {a : Nat} : wp d 11 Q 28 L (.ref a :: st) w cn sn = (kd w a = 1 ∧ wp d 11 Q 31 L (fd w 4 a :: st) w cn sn) := w_getfield d_11_28 (by decide +kernel : fT (mO 11) 22 = some (0, 4))
theorem d_11_31 : decode (mB 11) 31 = .ok (.iload_n 3, 1) := by decide +kernel
theorem s_11_31 {d : Nat} {Q : wQ} {L : List (Option Value)} {st : List Value} {w : aw} {cn sn : Nat} {a0 a1 a2 : Option Value} {v : Int32} : wp d 11 Q 31 (a0 :: a1 :: a2 :: some (.int v) :: L) st w cn sn = wp d 11 Q 32 (a0 :: a1 :: a2 :: some (.int v) :: L) (.int v :: st) w cn sn := w_iload_n d_11_31 rfl
theorem d_11_32 : decode (mB 11) 32 = .ok (.iconst 1, 1) := by decide +kernel
theorem s_11_32 {d : Nat} {Q : wQ} {L : List (Option Value)} {st : List Value} {w : aw} {cn sn : Nat}  : wp d 11 Q 32 L st w cn sn = wp d 11 Q 33 L (.int 1 :: st) w cn sn := w_iconst d_11_32 (by decide)
theorem d_11_33 : decode (mB 11) 33 = .ok (.bastore, 1) := by decide +kernel
theorem s_11_33 {d : Nat} {Q : wQ} {L : List (Option Value)} {st : List Value} {w : aw} {cn sn : Nat} {a : Nat} {i x : Int32} : wp d 11 Q 33 L (.int x :: .int i :: .ref a :: st) w cn sn = (inR i (ln w a) ∧ ((kd w a = 21 ∧ wp d 11 Q 34 L st (uA w a i.toNatClampNeg (vp_nar .byte x)) cn sn) ∨ (kd w a = 23 ∧ wp d 11 Q 34 L st (uA w a i.toNatClampNeg (vp_nar .boolean x)) cn sn))) := wp_row d_11_33 _ _ _ _ _
theorem d_11_34 : decode (mB 11) 34 = .ok (.aload_n 0, 1) := by decide +kernel
theorem s_11_34 {d : Nat} {Q : wQ} {L : List (Option Value)} {st : List Value} {w : aw} {cn sn : Nat} {v : Nat} : wp d 11 Q 34 (some (.ref v) :: L) st w cn sn = wp d 11 Q 35 (some (.ref v) :: L) (.ref v :: st) w cn sn := w_aload_n d_11_34 rfl
theorem d_11_35 : decode (mB 11) 35 = .ok (.getfield 18, 3) := by decide +kernel
theorem s_11_35 {d : Nat} {Q : wQ} {L : List (Option Value)} {st : List Value} {w : aw} {cn sn : Nat} {a : Nat} : wp d 11 Q 35 L (.ref a :: st) w cn sn = (kd w a = 1 ∧ wp d 11 Q 38 L (fd w 3 a :: st) w cn sn) := w_getfield d_11_35 (by decide +kernel : fT (mO 11) 18 = some (0, 3))
theorem d_11_38 : decode (mB 11) 38 = .ok (.iload_n 3, 1) := by decide +kernel
theorem s_11_38 {d : Nat} {Q : wQ} {L : List (Option Value)} {st : List Value} {w : aw} {cn sn : Nat} {a0 a1 a2 : Option Value} {v : Int32} : wp d 11 Q 38 (a0 :: a1 :: a2 :: some (.int v) :: L) st w cn sn = wp d 11 Q 39 (a0 :: a1 :: a2 :: some (.int v) :: L) (.int v :: st) w cn sn := w_iload_n d_11_38 rfl
theorem d_11_39 : decode (mB 11) 39 = .ok (.iload_n 2, 1) := by decide +kernel
theorem s_11_39 {d : Nat} {Q : wQ} {L : List (Option Value)} {st : List Value} {w : aw} {cn sn : Nat} {a0 a1 : Option Value} {v : Int32} : wp d 11 Q 39 (a0 :: a1 :: some (.int v) :: L) st w cn sn = wp d 11 Q 40 (a0 :: a1 :: some (.int v) :: L) (.int v :: st) w cn sn := w_iload_n d_11_39 rfl
theorem d_11_40 : decode (mB 11) 40 = .ok (.iastore, 1) := by decide +kernel
theorem s_11_40 {d : Nat} {Q : wQ} {L : List (Option Value)} {st : List Value} {w : aw} {cn sn : Nat} {a : Nat} {i x : Int32} : wp d 11 Q 40 L (.int x :: .int i :: .ref a :: st) w cn sn = (kd w a = 20 ∧ inR i (ln w a) ∧ wp d 11 Q 41 L st (uA w a i.toNatClampNeg x) cn sn) := wp_row d_11_40 _ _ _ _ _
theorem d_11_41 : decode (mB 11) 41 = .ok (.aload_n 0, 1) := by decide +kernel
theorem s_11_41 {d : Nat} {Q : wQ} {L : List (Option Value)} {st : List Value} {w : aw} {cn sn : Nat} {v : Nat} : wp d 11 Q 41 (some (.ref v) :: L) st w cn sn = wp d 11 Q 42 (some (.ref v) :: L) (.ref v :: st) w cn sn := w_aload_n d_11_41 rfl
theorem d_11_42 : decode (mB 11) 42 = .ok (.getfield 26, 3) := by decide +kernel
theorem s_11_42 {d : Nat} {Q : wQ} {L : List (Option Value)} {st : List Value} {w : aw} {cn sn : Nat} {a : Nat} : wp d 11 Q 42 L (.ref a :: st) w cn sn = (kd w a = 1 ∧ wp d 11 Q 45 L (fd w 5 a :: st) w cn sn) := w_getfield d_11_42 (by decide +kernel : fT (mO 11) 26 = some (0, 5))
theorem d_11_45 : decode (mB 11) 45 = .ok (.aload_n 0, 1) := by decide +kernel
theorem s_11_45 {d : Nat} {Q : wQ} {L : List (Option Value)} {st : List Value} {w : aw} {cn sn : Nat} {v : Nat} : wp d 11 Q 45 (some (.ref v) :: L) st w cn sn = wp d 11 Q 46 (some (.ref v) :: L) (.ref v :: st) w cn sn := w_aload_n d_11_45 rfl
theorem d_11_46 : decode (mB 11) 46 = .ok (.getfield 45, 3) := by decide +kernel
theorem s_11_46 {d : Nat} {Q : wQ} {L : List (Option Value)} {st : List Value} {w : aw} {cn sn : Nat} {a : Nat} : wp d 11 Q 46 L (.ref a :: st) w cn sn = (kd w a = 1 ∧ wp d 11 Q 49 L (fd w 6 a :: st) w cn sn) := w_getfield d_11_46 (by decide +kernel : fT (mO 11) 45 = some (0, 6))
theorem d_11_49 : decode (mB 11) 49 = .ok (.iload_n 3, 1) := by decide +kernel
theorem s_11_49 {d : Nat} {Q : wQ} {L : List (Option Value)} {st : List Value} {w : aw} {cn sn : Nat} {a0 a1 a2 : Option Value} {v : Int32} : wp d 11 Q 49 (a0 :: a1 :: a2 :: some (.int v) :: L) st w cn sn = wp d 11 Q 50 (a0 :: a1 :: a2 :: some (.int v) :: L) (.int v :: st) w cn sn := w_iload_n d_11_49 rfl
theorem d_11_50 : decode (mB 11) 50 = .ok (.iastore, 1) := by decide +kernel
theorem s_11_50 {d : Nat} {Q : wQ} {L : List (Option Value)} {st : List Value} {w : aw} {cn sn : Nat} {a : Nat} {i x : Int32} : wp d 11 Q 50 L (.int x :: .int i :: .ref a :: st) w cn sn = (kd w a = 20 ∧ inR i (ln w a) ∧ wp d 11 Q 51 L st (uA w a i.toNatClampNeg x) cn sn) := wp_row d_11_50 _ _ _ _ _
theorem d_11_51 : decode (mB 11) 51 = .ok (.aload_n 0, 1) := by decide +kernel
theorem s_11_51 {d : Nat} {Q : wQ} {L : List (Option Value)} {st : List Value} {w : aw} {cn sn : Nat} {v : Nat} : wp d 11 Q 51 (some (.ref v) :: L) st w cn sn = wp d 11 Q 52 (some (.ref v) :: L) (.ref v :: st) w cn sn := w_aload_n d_11_51 rfl
theorem d_11_52 : decode (mB 11) 52 = .ok (.dup, 1) := by decide +kernel
theorem s_11_52 {d : Nat} {Q : wQ} {L : List (Option Value)} {st : List Value} {w : aw} {cn sn : Nat} {v : Value} : wp d 11 Q 52 L (v :: st) w cn sn = (v.category = 1 ∧ wp d 11 Q 53 L (v :: v :: st) w cn sn) := wp_row d_11_52 _ _ _ _ _
theorem d_11_53 : decode (mB 11) 53 = .ok (.getfield 45, 3) := by decide +kernel
theorem s_11_53 {d : Nat} {Q : wQ} {L : List (Option Value)} {st : List Value} {w : aw} {cn sn : Nat} {a : Nat} : wp d 11 Q 53 L (.ref a :: st) w cn sn = (kd w a = 1 ∧ wp d 11 Q 56 L (fd w 6 a :: st) w cn sn) := w_getfield d_11_53 (by decide +kernel : fT (mO 11) 45 = some (0, 6))
theorem d_11_56 : decode (mB 11) 56 = .ok (.iconst 1, 1) := by decide +kernel
theorem s_11_56 {d : Nat} {Q : wQ} {L : List (Option Value)} {st : List Value} {w : aw} {cn sn : Nat}  : wp d 11 Q 56 L st w cn sn = wp d 11 Q 57 L (.int 1 :: st) w cn sn := w_iconst d_11_56 (by decide)
theorem d_11_57 : decode (mB 11) 57 = .ok (.iadd, 1) := by decide +kernel
theorem s_11_57 {d : Nat} {Q : wQ} {L : List (Option Value)} {st : List Value} {w : aw} {cn sn : Nat} {a b : Int32} : wp d 11 Q 57 L (.int b :: .int a :: st) w cn sn = wp d 11 Q 58 L (.int (a + b) :: st) w cn sn := wp_row d_11_57 _ _ _ _ _
theorem d_11_58 : decode (mB 11) 58 = .ok (.putfield 45, 3) := by decide +kernel
theorem s_11_58 {d : Nat} {Q : wQ} {L : List (Option Value)} {st : List Value} {w : aw} {cn sn : Nat} {x : Int32} {a : Nat} : wp d 11 Q 58 L (.int x :: .ref a :: st) w cn sn = (kd w a = 1 ∧ wp d 11 Q 61 L st (uF w 6 a (.int x)) cn sn) := w_putfield d_11_58 (by decide +kernel : fT (mO 11) 45 = some (0, 6)) (by decide +kernel) ok_int
theorem d_11_61 : decode (mB 11) 61 = .ok (.iconst 1, 1) := by decide +kernel
theorem s_11_61 {d : Nat} {Q : wQ} {L : List (Option Value)} {st : List Value} {w : aw} {cn sn : Nat}  : wp d 11 Q 61 L st w cn sn = wp d 11 Q 62 L (.int 1 :: st) w cn sn := w_iconst d_11_61 (by decide)
theorem d_11_62 : decode (mB 11) 62 = .ok (.ireturn, 1) := by decide +kernel
theorem s_11_62 {d : Nat} {Q : wQ} {L : List (Option Value)} {w : aw} {cn sn : Nat} {v : Int32} : wp d 11 Q 62 L [.int v] w cn sn = (narrow .boolean (.int v) = .int v ∧ Q (some (.int v)) w) := w_zreturn d_11_62 rfl
theorem d_12_0 : decode (mB 12) 0 = .ok (.aload_n 0, 1) := by decide +kernel
theorem s_12_0 {d : Nat} {Q : wQ} {L : List (Option Value)} {st : List Value} {w : aw} {cn sn : Nat} {v : Nat} : wp d 12 Q 0 (some (.ref v) :: L) st w cn sn = wp d 12 Q 1 (some (.ref v) :: L) (.ref v :: st) w cn sn := w_aload_n d_12_0 rfl
theorem d_12_1 : decode (mB 12) 1 = .ok (.getfield 58, 3) := by decide +kernel
theorem s_12_1 {d : Nat} {Q : wQ} {L : List (Option Value)} {st : List Value} {w : aw} {cn sn : Nat} {a : Nat} : wp d 12 Q 1 L (.ref a :: st) w cn sn = (kd w a = 1 ∧ wp d 12 Q 4 L (fd w 9 a :: st) w cn sn) := w_getfield d_12_1 (by decide +kernel : fT (mO 12) 58 = some (0, 9))
theorem d_12_4 : decode (mB 12) 4 = .ok (.ifCond .eq 6, 3) := by decide +kernel
theorem s_12_4 {d : Nat} {Q : wQ} {L : List (Option Value)} {st : List Value} {w : aw} {cn sn : Nat} {x : Int32} : wp d 12 Q 4 L (.int x :: st) w cn sn = ((x = 0 → wp d 12 Q 10 L st w cn sn) ∧ (¬ x = 0 → wp d 12 Q 7 L st w cn sn)) := w_ifeq d_12_4 (by decide)
theorem d_12_7 : decode (mB 12) 7 = .ok (.bipush (-2), 2) := by decide +kernel
theorem s_12_7 {d : Nat} {Q : wQ} {L : List (Option Value)} {st : List Value} {w : aw} {cn sn : Nat}  : wp d 12 Q 7 L st w cn sn = wp d 12 Q 9 L (.int (-2) :: st) w cn sn := w_bipush d_12_7 (by decide)
theorem d_12_9 : decode (mB 12) 9 = .ok (.ireturn, 1) := by decide +kernel
theorem s_12_9 {d : Nat} {Q : wQ} {L : List (Option Value)} {w : aw} {cn sn : Nat} {v : Int32} : wp d 12 Q 9 L [.int v] w cn sn = Q (some (.int v)) w := w_ireturn d_12_9 rfl
theorem d_12_10 : decode (mB 12) 10 = .ok (.iconst 0, 1) := by decide +kernel
theorem s_12_10 {d : Nat} {Q : wQ} {L : List (Option Value)} {st : List Value} {w : aw} {cn sn : Nat}  : wp d 12 Q 10 L st w cn sn = wp d 12 Q 11 L (.int 0 :: st) w cn sn := w_iconst d_12_10 (by decide)
theorem d_12_11 : decode (mB 12) 11 = .ok (.istore_n 2, 1) := by decide +kernel
theorem s_12_11 {d : Nat} {Q : wQ} {L : List (Option Value)} {st : List Value} {w : aw} {cn sn : Nat} {a0 a1 a2 : Option Value} {v : Int32} : wp d 12 Q 11 (a0 :: a1 :: a2 :: L) (.int v :: st) w cn sn = wp d 12 Q 12 (a0 :: clr a1 :: some (.int v) :: L) st w cn sn := w_istore_n d_12_11 (Nat.le_add_left 3 _) rfl
theorem d_12_12 : decode (mB 12) 12 = .ok (.iload_n 2, 1) := by decide +kernel
theorem s_12_12 {d : Nat} {Q : wQ} {L : List (Option Value)} {st : List Value} {w : aw} {cn sn : Nat} {a0 a1 : Option Value} {v : Int32} : wp d 12 Q 12 (a0 :: a1 :: some (.int v) :: L) st w cn sn = wp d 12 Q 13 (a0 :: a1 :: some (.int v) :: L) (.int v :: st) w cn sn := w_iload_n d_12_12 rfl
theorem d_12_13 : decode (mB 12) 13 = .ok (.aload_n 0, 1) := by decide +kernel
theorem s_12_13 {d : Nat} {Q : wQ} {L : List (Option Value)} {st : List Value} {w : aw} {cn sn : Nat} {v : Nat} : wp d 12 Q 13 (some (.ref v) :: L) st w cn sn = wp d 12 Q 14 (some (.ref v) :: L) (.ref v :: st) w cn sn := w_aload_n d_12_13 rfl
theorem d_12_14 : decode (mB 12) 14 = .ok (.getfield 45, 3) := by decide +kernel
theorem s_12_14 {d : Nat} {Q : wQ} {L : List (Option Value)} {st : List Value} {w : aw} {cn sn : Nat} {a : Nat} : wp d 12 Q 14 L (.ref a :: st) w cn sn = (kd w a = 1 ∧ wp d 12 Q 17 L (fd w 6 a :: st) w cn sn) := w_getfield d_12_14 (by decide +kernel : fT (mO 12) 45 = some (0, 6))
theorem d_12_17 : decode (mB 12) 17 = .ok (.if_icmp .ge 42, 3) := by decide +kernel
theorem s_12_17 {d : Nat} {Q : wQ} {L : List (Option Value)} {st : List Value} {w : aw} {cn sn : Nat} {a b : Int32} : wp d 12 Q 17 L (.int b :: .int a :: st) w cn sn = ((b ≤ a → wp d 12 Q 59 L st w cn sn) ∧ (¬ b ≤ a → wp d 12 Q 20 L st w cn sn)) := w_icge d_12_17 (by decide)
theorem d_12_20 : decode (mB 12) 20 = .ok (.iload_n 2, 1) := by decide +kernel
theorem s_12_20 {d : Nat} {Q : wQ} {L : List (Option Value)} {st : List Value} {w : aw} {cn sn : Nat} {a0 a1 : Option Value} {v : Int32} : wp d 12 Q 20 (a0 :: a1 :: some (.int v) :: L) st w cn sn = wp d 12 Q 21 (a0 :: a1 :: some (.int v) :: L) (.int v :: st) w cn sn := w_iload_n d_12_20 rfl
theorem d_12_21 : decode (mB 12) 21 = .ok (.sipush 4096, 3) := by decide +kernel
theorem s_12_21 {d : Nat} {Q : wQ} {L : List (Option Value)} {st : List Value} {w : aw} {cn sn : Nat}  : wp d 12 Q 21 L st w cn sn = wp d 12 Q 24 L (.int 4096 :: st) w cn sn := w_sipush d_12_21 (by decide)
theorem d_12_24 : decode (mB 12) 24 = .ok (.if_icmp .ge 35, 3) := by decide +kernel
theorem s_12_24 {d : Nat} {Q : wQ} {L : List (Option Value)} {st : List Value} {w : aw} {cn sn : Nat} {a b : Int32} : wp d 12 Q 24 L (.int b :: .int a :: st) w cn sn = ((b ≤ a → wp d 12 Q 59 L st w cn sn) ∧ (¬ b ≤ a → wp d 12 Q 27 L st w cn sn)) := w_icge d_12_24 (by decide)
theorem d_12_27 : decode (mB 12) 27 = .ok (.aload_n 0, 1) := by decide +kernel
theorem s_12_27 {d : Nat} {Q : wQ} {L : List (Option Value)} {st : List Value} {w : aw} {cn sn : Nat} {v : Nat} : wp d 12 Q 27 (some (.ref v) :: L) st w cn sn = wp d 12 Q 28 (some (.ref v) :: L) (.ref v :: st) w cn sn := w_aload_n d_12_27 rfl
theorem d_12_28 : decode (mB 12) 28 = .ok (.getfield 26, 3) := by decide +kernel
theorem s_12_28 {d : Nat} {Q : wQ} {L : List (Option Value)} {st : List Value} {w : aw} {cn sn : Nat} {a : Nat} : wp d 12 Q 28 L (.ref a :: st) w cn sn = (kd w a = 1 ∧ wp d 12 Q 31 L (fd w 5 a :: st) w cn sn) := w_getfield d_12_28 (by decide +kernel : fT (mO 12) 26 = some (0, 5))
theorem d_12_31 : decode (mB 12) 31 = .ok (.iload_n 2, 1) := by decide +kernel
theorem s_12_31 {d : Nat} {Q : wQ} {L : List (Option Value)} {st : List Value} {w : aw} {cn sn : Nat} {a0 a1 : Option Value} {v : Int32} : wp d 12 Q 31 (a0 :: a1 :: some (.int v) :: L) st w cn sn = wp d 12 Q 32 (a0 :: a1 :: some (.int v) :: L) (.int v :: st) w cn sn := w_iload_n d_12_31 rfl
theorem d_12_32 : decode (mB 12) 32 = .ok (.iaload, 1) := by decide +kernel
theorem s_12_32 {d : Nat} {Q : wQ} {L : List (Option Value)} {st : List Value} {w : aw} {cn sn : Nat} {a : Nat} {i : Int32} : wp d 12 Q 32 L (.int i :: .ref a :: st) w cn sn = ((kd w a = 20 ∨ kd w a = 30) ∧ inR i (ln w a) ∧ wp d 12 Q 33 L (.int (ai w a i.toNatClampNeg) :: st) w cn sn) := wp_row d_12_32 _ _ _ _ _
theorem d_12_33 : decode (mB 12) 33 = .ok (.sipush 4095, 3) := by decide +kernel
theorem s_12_33 {d : Nat} {Q : wQ} {L : List (Option Value)} {st : List Value} {w : aw} {cn sn : Nat}  : wp d 12 Q 33 L st w cn sn = wp d 12 Q 36 L (.int 4095 :: st) w cn sn := w_sipush d_12_33 (by decide)
theorem d_12_36 : decode (mB 12) 36 = .ok (.iand, 1) := by decide +kernel
theorem s_12_36 {d : Nat} {Q : wQ} {L : List (Option Value)} {st : List Value} {w : aw} {cn sn : Nat} {a b : Int32} : wp d 12 Q 36 L (.int b :: .int a :: st) w cn sn = wp d 12 Q 37 L (.int (a &&& b) :: st) w cn sn := wp_row d_12_36 _ _ _ _ _
theorem d_12_37 : decode (mB 12) 37 = .ok (.istore_n 3, 1) := by decide +kernel
theorem s_12_37 {d : Nat} {Q : wQ} {L : List (Option Value)} {st : List Value} {w : aw} {cn sn : Nat} {a0 a1 a2 a3 : Option Value} {v : Int32} : wp d 12 Q 37 (a0 :: a1 :: a2 :: a3 :: L) (.int v :: st) w cn sn = wp d 12 Q 38 (a0 :: a1 :: clr a2 :: some (.int v) :: L) st w cn sn := w_istore_n d_12_37 (Nat.le_add_left 4 _) rfl
theorem d_12_38 : decode (mB 12) 38 = .ok (.iload_n 3, 1) := by decide +kernel
theorem s_12_38 {d : Nat} {Q : wQ} {L : List (Option Value)} {st : List Value} {w : aw} {cn sn : Nat} {a0 a1 a2 : Option Value} {v : Int32} : wp d 12 Q 38 (a0 :: a1 :: a2 :: some (.int v) :: L) st w cn sn = wp d 12 Q 39 (a0 :: a1 :: a2 :: some (.int v) :: L) (.int v :: st) w cn sn := w_iload_n d_12_38 rfl
theorem d_12_39 : decode (mB 12) 39 = .ok (.aload_n 1, 1) := by decide +kernel
theorem s_12_39 {d : Nat} {Q : wQ} {L : List (Option Value)} {st : List Value} {w : aw} {cn sn : Nat} {a0 : Option Value} {v : Nat} : wp d 12 Q 39 (a0 :: some (.ref v) :: L) st w cn sn = wp d 12 Q 40 (a0 :: some (.ref v) :: L) (.ref v :: st) w cn sn := w_aload_n d_12_39 rfl
theorem s_12_39n {d : Nat} {Q : wQ} {L : List (Option Value)} {st : List Value} {w : aw} {cn sn : Nat} {a0 : Option Value} : wp d 12 Q 39 (a0 :: some .null :: L) st w cn sn = wp d 12 Q 40 (a0 :: some .null :: L) (.null :: st) w cn sn := w_aload_nN d_12_39 rfl
theorem d_12_40 : decode (mB 12) 40 = .ok (.arraylength, 1) := by decide +kernel
theorem s_12_40 {d : Nat} {Q : wQ} {L : List (Option Value)} {st : List Value} {w : aw} {cn sn : Nat} {a : Nat} : wp d 12 Q 40 L (.ref a :: st) w cn sn = ((tyA (kd w a)).isSome = true ∧ wp d 12 Q 41 L (.int (nI (ln w a)) :: st) w cn sn) := wp_row d_12_40 _ _ _ _ _
theorem d_12_41 : decode (mB 12) 41 = .ok (.if_icmp .ge 12, 3) := by decide +kernel
theorem s_12_41 {d : Nat} {Q : wQ} {L : List (Option Value)} {st : List Value} {w : aw} {cn sn : Nat} {a b : Int32} : wp d 12 Q 41 L (.int b :: .int a :: st) w cn sn = ((b ≤ a → wp d 12 Q 53 L st w cn sn) ∧ (¬ b ≤ a → wp d 12 Q 44 L st w cn sn)) := w_icge d_12_41 (by decide)
theorem d_12_44 : decode (mB 12) 44 = .ok (.aload_n 1, 1) := by decide +kernel
theorem s_12_44 {d : Nat} {Q : wQ} {L : List (Option Value)} {st : List Value} {w : aw} {cn sn : Nat} {a0 : Option Value} {v : Nat} : wp d 12 Q 44 (a0 :: some (.ref v) :: L) st w cn sn = wp d 12 Q 45 (a0 :: some (.ref v) :: L) (.ref v :: st) w cn sn := w_aload_n d_12_44 rfl
theorem s_12_44n {d : Nat} {Q : wQ} {L : List (Option Value)} {st : List Value} {w : aw} {cn sn : Nat} {a0 : Option Value} : wp d 12 Q 44 (a0 :: some .null :: L) st w cn sn = wp d 12 Q 45 (a0 :: some .null :: L) (.null :: st) w cn sn := w_aload_nN d_12_44 rfl
theorem d_12_45 : decode (mB 12) 45 = .ok (.iload_n 3, 1) := by decide +kernel
theorem s_12_45 {d : Nat} {Q : wQ} {L : List (Option Value)} {st : List Value} {w : aw} {cn sn : Nat} {a0 a1 a2 : Option Value} {v : Int32} : wp d 12 Q 45 (a0 :: a1 :: a2 :: some (.int v) :: L) st w cn sn = wp d 12 Q 46 (a0 :: a1 :: a2 :: some (.int v) :: L) (.int v :: st) w cn sn := w_iload_n d_12_45 rfl
theorem d_12_46 : decode (mB 12) 46 = .ok (.aload_n 0, 1) := by decide +kernel
theorem s_12_46 {d : Nat} {Q : wQ} {L : List (Option Value)} {st : List Value} {w : aw} {cn sn : Nat} {v : Nat} : wp d 12 Q 46 (some (.ref v) :: L) st w cn sn = wp d 12 Q 47 (some (.ref v) :: L) (.ref v :: st) w cn sn := w_aload_n d_12_46 rfl
theorem d_12_47 : decode (mB 12) 47 = .ok (.getfield 18, 3) := by decide +kernel
theorem s_12_47 {d : Nat} {Q : wQ} {L : List (Option Value)} {st : List Value} {w : aw} {cn sn : Nat} {a : Nat} : wp d 12 Q 47 L (.ref a :: st) w cn sn = (kd w a = 1 ∧ wp d 12 Q 50 L (fd w 3 a :: st) w cn sn) := w_getfield d_12_47 (by decide +kernel : fT (mO 12) 18 = some (0, 3))
theorem d_12_50 : decode (mB 12) 50 = .ok (.iload_n 3, 1) := by decide +kernel
theorem s_12_50 {d : Nat} {Q : wQ} {L : List (Option Value)} {st : List Value} {w : aw} {cn sn : Nat} {a0 a1 a2 : Option Value} {v : Int32} : wp d 12 Q 50 (a0 :: a1 :: a2 :: some (.int v) :: L) st w cn sn = wp d 12 Q 51 (a0 :: a1 :: a2 :: some (.int v) :: L) (.int v :: st) w cn sn := w_iload_n d_12_50 rfl
theorem d_12_51 : decode (mB 12) 51 = .ok (.iaload, 1) := by decide +kernel
theorem s_12_51 {d : Nat} {Q : wQ} {L : List (Option Value)} {st : List Value} {w : aw} {cn sn : Nat} {a : Nat} {i : Int32} : wp d 12 Q 51 L (.int i :: .ref a :: st) w cn sn = ((kd w a = 20 ∨ kd w a = 30) ∧ inR i (ln w a) ∧ wp d 12 Q 52 L (.int (ai w a i.toNatClampNeg) :: st) w cn sn) := wp_row d_12_51 _ _ _ _ _
theorem d_12_52 : decode (mB 12) 52 = .ok (.iastore, 1) := by decide +kernel
theorem s_12_52 {d : Nat} {Q : wQ} {L : List (Option Value)} {st : List Value} {w : aw} {cn sn : Nat} {a : Nat} {i x : Int32} : wp d 12 Q 52 L (.int x :: .int i :: .ref a :: st) w cn sn = (kd w a = 20 ∧ inR i (ln w a) ∧ wp d 12 Q 53 L st (uA w a i.toNatClampNeg x) cn sn) := wp_row d_12_52 _ _ _ _ _
theorem d_12_53 : decode (mB 12) 53 = .ok (.iinc 2 1, 3) := by decide +kernel
theorem s_12_53 {d : Nat} {Q : wQ} {L : List (Option Value)} {st : List Value} {w : aw} {cn sn : Nat} {a0 a1 : Option Value} {v : Int32} : wp d 12 Q 53 (a0 :: a1 :: some (.int v) :: L) st w cn sn = wp d 12 Q 56 (a0 :: clr a1 :: some (.int (v + 1)) :: L) st w cn sn := w_iinc d_12_53 rfl (by decide) rfl
theorem d_12_56 : decode (mB 12) 56 = .ok (.goto (-44), 3) := by decide +kernel
theorem s_12_56 {d : Nat} {Q : wQ} {L : List (Option Value)} {st : List Value} {w : aw} {cn sn : Nat}  : wp d 12 Q 56 L st w cn sn = wp d 12 Q 12 L st w cn sn := w_goto d_12_56 (by decide)
theorem d_12_59 : decode (mB 12) 59 = .ok (.aload_n 0, 1) := by decide +kernel
theorem s_12_59 {d : Nat} {Q : wQ} {L : List (Option Value)} {st : List Value} {w : aw} {cn sn : Nat} {v : Nat} : wp d 12 Q 59 (some (.ref v) :: L) st w cn sn = wp d 12 Q 60 (some (.ref v) :: L) (.ref v :: st) w cn sn := w_aload_n d_12_59 rfl
theorem d_12_60 : decode (mB 12) 60 = .ok (.getfield 45, 3) := by decide +kernel
theorem s_12_60 {d : Nat} {Q : wQ} {L : List (Option Value)} {st : List Value} {w : aw} {cn sn : Nat} {a : Nat} : wp d 12 Q 60 L (.ref a :: st) w cn sn = (kd w a = 1 ∧ wp d 12 Q 63 L (fd w 6 a :: st) w cn sn) := w_getfield d_12_60 (by decide +kernel : fT (mO 12) 45 = some (0, 6))
theorem d_12_63 : decode (mB 12) 63 = .ok (.ireturn, 1) := by decide +kernel
theorem s_12_63 {d : Nat} {Q : wQ} {L : List (Option Value)} {w : aw} {cn sn : Nat} {v : Int32} : wp d 12 Q 63 L [.int v] w cn sn = Q (some (.int v)) w := w_ireturn d_12_63 rfl
