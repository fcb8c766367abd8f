theorem d_78_0 : decode (mB 78) 0 = .ok (.aload_n 0, 1) := by decide +kernel
theorem s_78_0 {d : Nat} {Q : wQ} {L : List (Option Value)} {st : List Value} {w : aw} {cn sn : Nat} {v : Nat} : wp d 78 Q 0 (some (.ref v) :: L) st w cn sn = wp d 78 Q 1 (some (.ref v) :: L) (.ref v :: st) w cn sn := w_aload_n d_78_0 rfl
theorem d_78_1 : decode (mB 78) 1 = .ok (.invokespecial 1, 3) := by decide +kernel
theorem s_78_1 {d : Nat} {Q : wQ} {L : List (Option Value)} {st : List Value} {w : aw} {cn sn : Nat} {b : Nat} : wp d 78 Q 1 L (.ref b :: st) w cn sn = (catS st ≤ 8 ∧ wp d 78 Q 4 L st w cn sn) := w_objinit d_78_1 (by decide +kernel : cT (mO 78) 1 = some (3, 0))
theorem d_78_4 : decode (mB 78) 4 = .ok (.aload_n 0, 1) := by decide +kernel
theorem s_78_4 {d : Nat} {Q : wQ} {L : List (Option Value)} {st : List Value} {w : aw} {cn sn : Nat} {v : Nat} : wp d 78 Q 4 (some (.ref v) :: L) st w cn sn = wp d 78 Q 5 (some (.ref v) :: L) (.ref v :: st) w cn sn := w_aload_n d_78_4 rfl
theorem d_78_5 : decode (mB 78) 5 = .ok (.new 7, 3) := by decide +kernel
theorem s_78_5 {d : Nat} {Q : wQ} {L : List (Option Value)} {st : List Value} {w : aw} {cn sn : Nat}  : wp d 78 Q 5 L st w cn sn = (cn + 1 ≤ 79 ∧ sn + 2 ≤ 90930 ∧ wp d 78 Q 8 L (.ref (zs w) :: st) (nw w 6 0) (cn + 1) (sn + 2)) := w_new d_78_5 (by decide +kernel : nT (mO 78) 7 = some 5) (by decide +kernel) (by decide +kernel) (by decide +kernel)
theorem d_78_8 : decode (mB 78) 8 = .ok (.dup, 1) := by decide +kernel
theorem s_78_8 {d : Nat} {Q : wQ} {L : List (Option Value)} {st : List Value} {w : aw} {cn sn : Nat} {v : Value} : wp d 78 Q 8 L (v :: st) w cn sn = (v.category = 1 ∧ wp d 78 Q 9 L (v :: v :: st) w cn sn) := wp_row d_78_8 _ _ _ _ _
theorem d_78_9 : decode (mB 78) 9 = .ok (.invokespecial 9, 3) := by decide +kernel
theorem s_78_9 {d : Nat} {Q : wQ} {L : List (Option Value)} {st : List Value} {w : aw} {cn sn : Nat} {b : Nat} : wp d 78 Q 9 L (.ref b :: st) w cn sn = (catS st ≤ 8 ∧ alc 78 56 cn sn (fun c2 s2 => wpD d 56 [.ref b] w (fun v w' => wp d 78 Q 12 L (v.toList ++ st) w' c2 s2))) := w_special (As := []) d_78_9 (by decide +kernel : cT (mO 78) 9 = some (4, 56)) (by decide +kernel) rfl rfl
theorem d_78_12 : decode (mB 78) 12 = .ok (.putfield 10, 3) := by decide +kernel
theorem s_78_12 {d : Nat} {Q : wQ} {L : List (Option Value)} {st : List Value} {w : aw} {cn sn : Nat} {x : Nat} {a : Nat} : wp d 78 Q 12 L (.ref x :: .ref a :: st) w cn sn = (kd w a = 8 ∧ wp d 78 Q 15 L st (uF w 448 a (.ref x)) cn sn) := w_putfield d_78_12 (by decide +kernel : fT (mO 78) 10 = some (7, 0)) (by decide +kernel) ok_ref
theorem s_78_12n {d : Nat} {Q : wQ} {L : List (Option Value)} {st : List Value} {w : aw} {cn sn : Nat} {a : Nat} : wp d 78 Q 12 L (.null :: .ref a :: st) w cn sn = (kd w a = 8 ∧ wp d 78 Q 15 L st (uF w 448 a (.null)) cn sn) := w_putfield d_78_12 (by decide +kernel : fT (mO 78) 10 = some (7, 0)) (by decide +kernel) ok_null
theorem d_78_15 : decode (mB 78) 15 = .ok (.aload_n 0, 1) := by decide +kernel
theorem s_78_15 {d : Nat} {Q : wQ} {L : List (Option Value)} {st : List Value} {w : aw} {cn sn : Nat} {v : Nat} : wp d 78 Q 15 (some (.ref v) :: L) st w cn sn = wp d 78 Q 16 (some (.ref v) :: L) (.ref v :: st) w cn sn := w_aload_n d_78_15 rfl
theorem d_78_16 : decode (mB 78) 16 = .ok (.new 16, 3) := by decide +kernel
theorem s_78_16 {d : Nat} {Q : wQ} {L : List (Option Value)} {st : List Value} {w : aw} {cn sn : Nat}  : wp d 78 Q 16 L st w cn sn = (cn + 1 ≤ 79 ∧ sn + 11 ≤ 90930 ∧ wp d 78 Q 19 L (.ref (zs w) :: st) (nw w 1 0) (cn + 1) (sn + 11)) := w_new d_78_16 (by decide +kernel : nT (mO 78) 16 = some 0) (by decide +kernel) (by decide +kernel) (by decide +kernel)
theorem d_78_19 : decode (mB 78) 19 = .ok (.dup, 1) := by decide +kernel
theorem s_78_19 {d : Nat} {Q : wQ} {L : List (Option Value)} {st : List Value} {w : aw} {cn sn : Nat} {v : Value} : wp d 78 Q 19 L (v :: st) w cn sn = (v.category = 1 ∧ wp d 78 Q 20 L (v :: v :: st) w cn sn) := wp_row d_78_19 _ _ _ _ _
theorem d_78_20 : decode (mB 78) 20 = .ok (.aload_n 0, 1) := by decide +kernel
theorem s_78_20 {d : Nat} {Q : wQ} {L : List (Option Value)} {st : List Value} {w : aw} {cn sn : Nat} {v : Nat} : wp d 78 Q 20 (some (.ref v) :: L) st w cn sn = wp d 78 Q 21 (some (.ref v) :: L) (.ref v :: st) w cn sn := w_aload_n d_78_20 rfl
theorem d_78_21 : decode (mB 78) 21 = .ok (.getfield 10, 3) := by decide +kernel
theorem s_78_21 {d : Nat} {Q : wQ} {L : List (Option Value)} {st : List Value} {w : aw} {cn sn : Nat} {a : Nat} : wp d 78 Q 21 L (.ref a :: st) w cn sn = (kd w a = 8 ∧ wp d 78 Q 24 L (fd w 448 a :: st) w cn sn) := w_getfield d_78_21 (by decide +kernel : fT (mO 78) 10 = some (7, 0))
theorem d_78_24 : decode (mB 78) 24 = .ok (.invokespecial 18, 3) := by decide +kernel
theorem s_78_24 {d : Nat} {Q : wQ} {L : List (Option Value)} {st : List Value} {w : aw} {cn sn : Nat} {v0 : Value} {b : Nat} : wp d 78 Q 24 L (v0 :: .ref b :: st) w cn sn = (catS st ≤ 8 ∧ alc 78 1 cn sn (fun c2 s2 => wpD d 1 [.ref b, v0] w (fun v w' => wp d 78 Q 27 L (v.toList ++ st) w' c2 s2))) := w_special (As := [v0]) d_78_24 (by decide +kernel : cT (mO 78) 18 = some (1, 1)) (by decide +kernel) rfl rfl
theorem d_78_27 : decode (mB 78) 27 = .ok (.putfield 21, 3) := by decide +kernel
theorem s_78_27 {d : Nat} {Q : wQ} {L : List (Option Value)} {st : List Value} {w : aw} {cn sn : Nat} {x : Nat} {a : Nat} : wp d 78 Q 27 L (.ref x :: .ref a :: st) w cn sn = (kd w a = 8 ∧ wp d 78 Q 30 L st (uF w 449 a (.ref x)) cn sn) := w_putfield d_78_27 (by decide +kernel : fT (mO 78) 21 = some (7, 1)) (by decide +kernel) ok_ref
theorem s_78_27n {d : Nat} {Q : wQ} {L : List (Option Value)} {st : List Value} {w : aw} {cn sn : Nat} {a : Nat} : wp d 78 Q 27 L (.null :: .ref a :: st) w cn sn = (kd w a = 8 ∧ wp d 78 Q 30 L st (uF w 449 a (.null)) cn sn) := w_putfield d_78_27 (by decide +kernel : fT (mO 78) 21 = some (7, 1)) (by decide +kernel) ok_null
theorem d_78_30 : decode (mB 78) 30 = .ok (.aload_n 0, 1) := by decide +kernel
theorem s_78_30 {d : Nat} {Q : wQ} {L : List (Option Value)} {st : List Value} {w : aw} {cn sn : Nat} {v : Nat} : wp d 78 Q 30 (some (.ref v) :: L) st w cn sn = wp d 78 Q 31 (some (.ref v) :: L) (.ref v :: st) w cn sn := w_aload_n d_78_30 rfl
theorem d_78_31 : decode (mB 78) 31 = .ok (.new 25, 3) := by decide +kernel
theorem s_78_31 {d : Nat} {Q : wQ} {L : List (Option Value)} {st : List Value} {w : aw} {cn sn : Nat}  : wp d 78 Q 31 L st w cn sn = (cn + 1 ≤ 79 ∧ sn + 15 ≤ 90930 ∧ wp d 78 Q 34 L (.ref (zs w) :: st) (nw w 2 0) (cn + 1) (sn + 15)) := w_new d_78_31 (by decide +kernel : nT (mO 78) 25 = some 1) (by decide +kernel) (by decide +kernel) (by decide +kernel)
theorem d_78_34 : decode (mB 78) 34 = .ok (.dup, 1) := by decide +kernel
theorem s_78_34 {d : Nat} {Q : wQ} {L : List (Option Value)} {st : List Value} {w : aw} {cn sn : Nat} {v : Value} : wp d 78 Q 34 L (v :: st) w cn sn = (v.category = 1 ∧ wp d 78 Q 35 L (v :: v :: st) w cn sn) := wp_row d_78_34 _ _ _ _ _
theorem d_78_35 : decode (mB 78) 35 = .ok (.invokespecial 27, 3) := by decide +kernel
theorem s_78_35 {d : Nat} {Q : wQ} {L : List (Option Value)} {st : List Value} {w : aw} {cn sn : Nat} {b : Nat} : wp d 78 Q 35 L (.ref b :: st) w cn sn = (catS st ≤ 8 ∧ alc 78 13 cn sn (fun c2 s2 => wpD d 13 [.ref b] w (fun v w' => wp d 78 Q 38 L (v.toList ++ st) w' c2 s2))) := w_special (As := []) d_78_35 (by decide +kernel : cT (mO 78) 27 = some (1, 13)) (by decide +kernel) rfl rfl
theorem d_78_38 : decode (mB 78) 38 = .ok (.putfield 28, 3) := by decide +kernel
theorem s_78_38 {d : Nat} {Q : wQ} {L : List (Option Value)} {st : List Value} {w : aw} {cn sn : Nat} {x : Nat} {a : Nat} : wp d 78 Q 38 L (.ref x :: .ref a :: st) w cn sn = (kd w a = 8 ∧ wp d 78 Q 41 L st (uF w 450 a (.ref x)) cn sn) := w_putfield d_78_38 (by decide +kernel : fT (mO 78) 28 = some (7, 2)) (by decide +kernel) ok_ref
theorem s_78_38n {d : Nat} {Q : wQ} {L : List (Option Value)} {st : List Value} {w : aw} {cn sn : Nat} {a : Nat} : wp d 78 Q 38 L (.null :: .ref a :: st) w cn sn = (kd w a = 8 ∧ wp d 78 Q 41 L st (uF w 450 a (.null)) cn sn) := w_putfield d_78_38 (by decide +kernel : fT (mO 78) 28 = some (7, 2)) (by decide +kernel) ok_null
theorem d_78_41 : decode (mB 78) 41 = .ok (.return_, 1) := by decide +kernel
theorem s_78_41 {d : Nat} {Q : wQ} {L : List (Option Value)} {w : aw} {cn sn : Nat}  : wp d 78 Q 41 L [] w cn sn = Q none w := w_return d_78_41 rfl
theorem d_79_0 : decode (mB 79) 0 = .ok (.aload_n 0, 1) := by decide +kernel
theorem s_79_0 {d : Nat} {Q : wQ} {L : List (Option Value)} {st : List Value} {w : aw} {cn sn : Nat} {v : Nat} : wp d 79 Q 0 (some (.ref v) :: L) st w cn sn = wp d 79 Q 1 (some (.ref v) :: L) (.ref v :: st) w cn sn := w_aload_n d_79_0 rfl
theorem d_79_1 : decode (mB 79) 1 = .ok (.getfield 28, 3) := by decide +kernel
theorem s_79_1 {d : Nat} {Q : wQ} {L : List (Option Value)} {st : List Value} {w : aw} {cn sn : Nat} {a : Nat} : wp d 79 Q 1 L (.ref a :: st) w cn sn = (kd w a = 8 ∧ wp d 79 Q 4 L (fd w 450 a :: st) w cn sn) := w_getfield d_79_1 (by decide +kernel : fT (mO 79) 28 = some (7, 2))
theorem d_79_4 : decode (mB 79) 4 = .ok (.invokevirtual 32, 3) := by decide +kernel
theorem s_79_4 {d : Nat} {Q : wQ} {L : List (Option Value)} {st : List Value} {w : aw} {cn sn : Nat} {b : Nat} : wp d 79 Q 4 L (.ref b :: st) w cn sn = (kd w b = 2 ∧ catS st ≤ 8 ∧ wpD d 14 [.ref b] w (fun v w' => wp d 79 Q 7 L (v.toList ++ st) w' cn sn)) := w_virtual (As := []) d_79_4 (by decide +kernel : cT (mO 79) 32 = some (0, 14)) rfl (by decide +kernel) rfl (by decide +kernel) rfl
theorem d_79_7 : decode (mB 79) 7 = .ok (.ifCond .ne 45, 3) := by decide +kernel
theorem s_79_7 {d : Nat} {Q : wQ} {L : List (Option Value)} {st : List Value} {w : aw} {cn sn : Nat} {x : Int32} : wp d 79 Q 7 L (.int x :: st) w cn sn = ((¬ x = 0 → wp d 79 Q 52 L st w cn sn) ∧ (x = 0 → wp d 79 Q 10 L st w cn sn)) := w_ifne d_79_7 (by decide)
theorem d_79_10 : decode (mB 79) 10 = .ok (.iload_n 1, 1) := by decide +kernel
theorem s_79_10 {d : Nat} {Q : wQ} {L : List (Option Value)} {st : List Value} {w : aw} {cn sn : Nat} {a0 : Option Value} {v : Int32} : wp d 79 Q 10 (a0 :: some (.int v) :: L) st w cn sn = wp d 79 Q 11 (a0 :: some (.int v) :: L) (.int v :: st) w cn sn := w_iload_n d_79_10 rfl
theorem d_79_11 : decode (mB 79) 11 = .ok (.iconst 1, 1) := by decide +kernel
theorem s_79_11 {d : Nat} {Q : wQ} {L : List (Option Value)} {st : List Value} {w : aw} {cn sn : Nat}  : wp d 79 Q 11 L st w cn sn = wp d 79 Q 12 L (.int 1 :: st) w cn sn := w_iconst d_79_11 (by decide)
theorem d_79_12 : decode (mB 79) 12 = .ok (.bipush 8, 2) := by decide +kernel
theorem s_79_12 {d : Nat} {Q : wQ} {L : List (Option Value)} {st : List Value} {w : aw} {cn sn : Nat}  : wp d 79 Q 12 L st w cn sn = wp d 79 Q 14 L (.int 8 :: st) w cn sn := w_bipush d_79_12 (by decide)
theorem d_79_14 : decode (mB 79) 14 = .ok (.invokestatic 36, 3) := by decide +kernel
theorem s_79_14 {d : Nat} {Q : wQ} {L : List (Option Value)} {st : List Value} {w : aw} {cn sn : Nat} {v0 v1 v2 : Value} : wp d 79 Q 14 L (v2 :: v1 :: v0 :: st) w cn sn = (catS st ≤ 8 ∧ wpD d 100 [v0, v1, v2] w (fun v w' => wp d 79 Q 17 L (v.toList ++ st) w' cn sn)) := w_static (As := [v0, v1, v2]) d_79_14 (by decide +kernel : cT (mO 79) 36 = some (2, 100)) (by decide +kernel) rfl (by decide +kernel) rfl
theorem d_79_17 : decode (mB 79) 17 = .ok (.ifCond .eq 35, 3) := by decide +kernel
theorem s_79_17 {d : Nat} {Q : wQ} {L : List (Option Value)} {st : List Value} {w : aw} {cn sn : Nat} {x : Int32} : wp d 79 Q 17 L (.int x :: st) w cn sn = ((x = 0 → wp d 79 Q 52 L st w cn sn) ∧ (¬ x = 0 → wp d 79 Q 20 L st w cn sn)) := w_ifeq d_79_17 (by decide)
theorem d_79_20 : decode (mB 79) 20 = .ok (.iload_n 2, 1) := by decide +kernel
theorem s_79_20 {d : Nat} {Q : wQ} {L : List (Option Value)} {st : List Value} {w : aw} {cn sn : Nat} {a0 a1 : Option Value} {v : Int32} : wp d 79 Q 20 (a0 :: a1 :: some (.int v) :: L) st w cn sn = wp d 79 Q 21 (a0 :: a1 :: some (.int v) :: L) (.int v :: st) w cn sn := w_iload_n d_79_20 rfl
theorem d_79_21 : decode (mB 79) 21 = .ok (.iconst 1, 1) := by decide +kernel
theorem s_79_21 {d : Nat} {Q : wQ} {L : List (Option Value)} {st : List Value} {w : aw} {cn sn : Nat}  : wp d 79 Q 21 L st w cn sn = wp d 79 Q 22 L (.int 1 :: st) w cn sn := w_iconst d_79_21 (by decide)
theorem d_79_22 : decode (mB 79) 22 = .ok (.bipush 7, 2) := by decide +kernel
theorem s_79_22 {d : Nat} {Q : wQ} {L : List (Option Value)} {st : List Value} {w : aw} {cn sn : Nat}  : wp d 79 Q 22 L st w cn sn = wp d 79 Q 24 L (.int 7 :: st) w cn sn := w_bipush d_79_22 (by decide)
theorem d_79_24 : decode (mB 79) 24 = .ok (.invokestatic 36, 3) := by decide +kernel
theorem s_79_24 {d : Nat} {Q : wQ} {L : List (Option Value)} {st : List Value} {w : aw} {cn sn : Nat} {v0 v1 v2 : Value} : wp d 79 Q 24 L (v2 :: v1 :: v0 :: st) w cn sn = (catS st ≤ 8 ∧ wpD d 100 [v0, v1, v2] w (fun v w' => wp d 79 Q 27 L (v.toList ++ st) w' cn sn)) := w_static (As := [v0, v1, v2]) d_79_24 (by decide +kernel : cT (mO 79) 36 = some (2, 100)) (by decide +kernel) rfl (by decide +kernel) rfl
theorem d_79_27 : decode (mB 79) 27 = .ok (.ifCond .eq 25, 3) := by decide +kernel
theorem s_79_27 {d : Nat} {Q : wQ} {L : List (Option Value)} {st : List Value} {w : aw} {cn sn : Nat} {x : Int32} : wp d 79 Q 27 L (.int x :: st) w cn sn = ((x = 0 → wp d 79 Q 52 L st w cn sn) ∧ (¬ x = 0 → wp d 79 Q 30 L st w cn sn)) := w_ifeq d_79_27 (by decide)
theorem d_79_30 : decode (mB 79) 30 = .ok (.iload_n 3, 1) := by decide +kernel
theorem s_79_30 {d : Nat} {Q : wQ} {L : List (Option Value)} {st : List Value} {w : aw} {cn sn : Nat} {a0 a1 a2 : Option Value} {v : Int32} : wp d 79 Q 30 (a0 :: a1 :: a2 :: some (.int v) :: L) st w cn sn = wp d 79 Q 31 (a0 :: a1 :: a2 :: some (.int v) :: L) (.int v :: st) w cn sn := w_iload_n d_79_30 rfl
theorem d_79_31 : decode (mB 79) 31 = .ok (.iconst 1, 1) := by decide +kernel
theorem s_79_31 {d : Nat} {Q : wQ} {L : List (Option Value)} {st : List Value} {w : aw} {cn sn : Nat}  : wp d 79 Q 31 L st w cn sn = wp d 79 Q 32 L (.int 1 :: st) w cn sn := w_iconst d_79_31 (by decide)
theorem d_79_32 : decode (mB 79) 32 = .ok (.bipush 64, 2) := by decide +kernel
theorem s_79_32 {d : Nat} {Q : wQ} {L : List (Option Value)} {st : List Value} {w : aw} {cn sn : Nat}  : wp d 79 Q 32 L st w cn sn = wp d 79 Q 34 L (.int 64 :: st) w cn sn := w_bipush d_79_32 (by decide)
theorem d_79_34 : decode (mB 79) 34 = .ok (.invokestatic 36, 3) := by decide +kernel
theorem s_79_34 {d : Nat} {Q : wQ} {L : List (Option Value)} {st : List Value} {w : aw} {cn sn : Nat} {v0 v1 v2 : Value} : wp d 79 Q 34 L (v2 :: v1 :: v0 :: st) w cn sn = (catS st ≤ 8 ∧ wpD d 100 [v0, v1, v2] w (fun v w' => wp d 79 Q 37 L (v.toList ++ st) w' cn sn)) := w_static (As := [v0, v1, v2]) d_79_34 (by decide +kernel : cT (mO 79) 36 = some (2, 100)) (by decide +kernel) rfl (by decide +kernel) rfl
theorem d_79_37 : decode (mB 79) 37 = .ok (.ifCond .eq 15, 3) := by decide +kernel
theorem s_79_37 {d : Nat} {Q : wQ} {L : List (Option Value)} {st : List Value} {w : aw} {cn sn : Nat} {x : Int32} : wp d 79 Q 37 L (.int x :: st) w cn sn = ((x = 0 → wp d 79 Q 52 L st w cn sn) ∧ (¬ x = 0 → wp d 79 Q 40 L st w cn sn)) := w_ifeq d_79_37 (by decide)
theorem d_79_40 : decode (mB 79) 40 = .ok (.iload 4, 2) := by decide +kernel
theorem s_79_40 {d : Nat} {Q : wQ} {L : List (Option Value)} {st : List Value} {w : aw} {cn sn : Nat} {a0 a1 a2 a3 : Option Value} {v : Int32} : wp d 79 Q 40 (a0 :: a1 :: a2 :: a3 :: some (.int v) :: L) st w cn sn = wp d 79 Q 42 (a0 :: a1 :: a2 :: a3 :: some (.int v) :: L) (.int v :: st) w cn sn := w_iload d_79_40 rfl
theorem d_79_42 : decode (mB 79) 42 = .ok (.iconst 4, 1) := by decide +kernel
theorem s_79_42 {d : Nat} {Q : wQ} {L : List (Option Value)} {st : List Value} {w : aw} {cn sn : Nat}  : wp d 79 Q 42 L st w cn sn = wp d 79 Q 43 L (.int 4 :: st) w cn sn := w_iconst d_79_42 (by decide)
theorem d_79_43 : decode (mB 79) 43 = .ok (.sipush 1000, 3) := by decide +kernel
theorem s_79_43 {d : Nat} {Q : wQ} {L : List (Option Value)} {st : List Value} {w : aw} {cn sn : Nat}  : wp d 79 Q 43 L st w cn sn = wp d 79 Q 46 L (.int 1000 :: st) w cn sn := w_sipush d_79_43 (by decide)
theorem d_79_46 : decode (mB 79) 46 = .ok (.invokestatic 36, 3) := by decide +kernel
theorem s_79_46 {d : Nat} {Q : wQ} {L : List (Option Value)} {st : List Value} {w : aw} {cn sn : Nat} {v0 v1 v2 : Value} : wp d 79 Q 46 L (v2 :: v1 :: v0 :: st) w cn sn = (catS st ≤ 8 ∧ wpD d 100 [v0, v1, v2] w (fun v w' => wp d 79 Q 49 L (v.toList ++ st) w' cn sn)) := w_static (As := [v0, v1, v2]) d_79_46 (by decide +kernel : cT (mO 79) 36 = some (2, 100)) (by decide +kernel) rfl (by decide +kernel) rfl
theorem d_79_49 : decode (mB 79) 49 = .ok (.ifCond .ne 5, 3) := by decide +kernel
theorem s_79_49 {d : Nat} {Q : wQ} {L : List (Option Value)} {st : List Value} {w : aw} {cn sn : Nat} {x : Int32} : wp d 79 Q 49 L (.int x :: st) w cn sn = ((¬ x = 0 → wp d 79 Q 54 L st w cn sn) ∧ (x = 0 → wp d 79 Q 52 L st w cn sn)) := w_ifne d_79_49 (by decide)
theorem d_79_52 : decode (mB 79) 52 = .ok (.iconst (-1), 1) := by decide +kernel
theorem s_79_52 {d : Nat} {Q : wQ} {L : List (Option Value)} {st : List Value} {w : aw} {cn sn : Nat}  : wp d 79 Q 52 L st w cn sn = wp d 79 Q 53 L (.int (-1) :: st) w cn sn := w_iconst d_79_52 (by decide)
theorem d_79_53 : decode (mB 79) 53 = .ok (.ireturn, 1) := by decide +kernel
theorem s_79_53 {d : Nat} {Q : wQ} {L : List (Option Value)} {w : aw} {cn sn : Nat} {v : Int32} : wp d 79 Q 53 L [.int v] w cn sn = Q (some (.int v)) w := w_ireturn d_79_53 rfl
theorem d_79_54 : decode (mB 79) 54 = .ok (.aload_n 0, 1) := by decide +kernel
theorem s_79_54 {d : Nat} {Q : wQ} {L : List (Option Value)} {st : List Value} {w : aw} {cn sn : Nat} {v : Nat} : wp d 79 Q 54 (some (.ref v) :: L) st w cn sn = wp d 79 Q 55 (some (.ref v) :: L) (.ref v :: st) w cn sn := w_aload_n d_79_54 rfl
theorem d_79_55 : decode (mB 79) 55 = .ok (.getfield 28, 3) := by decide +kernel
theorem s_79_55 {d : Nat} {Q : wQ} {L : List (Option Value)} {st : List Value} {w : aw} {cn sn : Nat} {a : Nat} : wp d 79 Q 55 L (.ref a :: st) w cn sn = (kd w a = 8 ∧ wp d 79 Q 58 L (fd w 450 a :: st) w cn sn) := w_getfield d_79_55 (by decide +kernel : fT (mO 79) 28 = some (7, 2))
theorem d_79_58 : decode (mB 79) 58 = .ok (.iload_n 1, 1) := by decide +kernel
theorem s_79_58 {d : Nat} {Q : wQ} {L : List (Option Value)} {st : List Value} {w : aw} {cn sn : Nat} {a0 : Option Value} {v : Int32} : wp d 79 Q 58 (a0 :: some (.int v) :: L) st w cn sn = wp d 79 Q 59 (a0 :: some (.int v) :: L) (.int v :: st) w cn sn := w_iload_n d_79_58 rfl
theorem d_79_59 : decode (mB 79) 59 = .ok (.iload_n 2, 1) := by decide +kernel
theorem s_79_59 {d : Nat} {Q : wQ} {L : List (Option Value)} {st : List Value} {w : aw} {cn sn : Nat} {a0 a1 : Option Value} {v : Int32} : wp d 79 Q 59 (a0 :: a1 :: some (.int v) :: L) st w cn sn = wp d 79 Q 60 (a0 :: a1 :: some (.int v) :: L) (.int v :: st) w cn sn := w_iload_n d_79_59 rfl
theorem d_79_60 : decode (mB 79) 60 = .ok (.iload_n 3, 1) := by decide +kernel
theorem s_79_60 {d : Nat} {Q : wQ} {L : List (Option Value)} {st : List Value} {w : aw} {cn sn : Nat} {a0 a1 a2 : Option Value} {v : Int32} : wp d 79 Q 60 (a0 :: a1 :: a2 :: some (.int v) :: L) st w cn sn = wp d 79 Q 61 (a0 :: a1 :: a2 :: some (.int v) :: L) (.int v :: st) w cn sn := w_iload_n d_79_60 rfl
theorem d_79_61 : decode (mB 79) 61 = .ok (.iload 4, 2) := by decide +kernel
theorem s_79_61 {d : Nat} {Q : wQ} {L : List (Option Value)} {st : List Value} {w : aw} {cn sn : Nat} {a0 a1 a2 a3 : Option Value} {v : Int32} : wp d 79 Q 61 (a0 :: a1 :: a2 :: a3 :: some (.int v) :: L) st w cn sn = wp d 79 Q 63 (a0 :: a1 :: a2 :: a3 :: some (.int v) :: L) (.int v :: st) w cn sn := w_iload d_79_61 rfl
theorem d_79_63 : decode (mB 79) 63 = .ok (.invokevirtual 40, 3) := by decide +kernel
theorem s_79_63 {d : Nat} {Q : wQ} {L : List (Option Value)} {st : List Value} {w : aw} {cn sn : Nat} {v0 v1 v2 v3 : Value} {b : Nat} : wp d 79 Q 63 L (v3 :: v2 :: v1 :: v0 :: .ref b :: st) w cn sn = (kd w b = 2 ∧ catS st ≤ 8 ∧ wpD d 15 [.ref b, v0, v1, v2, v3] w (fun v w' => wp d 79 Q 66 L (v.toList ++ st) w' cn sn)) := w_virtual (As := [v0, v1, v2, v3]) d_79_63 (by decide +kernel : cT (mO 79) 40 = some (0, 15)) rfl (by decide +kernel) rfl (by decide +kernel) rfl
theorem d_79_66 : decode (mB 79) 66 = .ok (.iconst 1, 1) := by decide +kernel
theorem s_79_66 {d : Nat} {Q : wQ} {L : List (Option Value)} {st : List Value} {w : aw} {cn sn : Nat}  : wp d 79 Q 66 L st w cn sn = wp d 79 Q 67 L (.int 1 :: st) w cn sn := w_iconst d_79_66 (by decide)
theorem d_79_67 : decode (mB 79) 67 = .ok (.ireturn, 1) := by decide +kernel
theorem s_79_67 {d : Nat} {Q : wQ} {L : List (Option Value)} {w : aw} {cn sn : Nat} {v : Int32} : wp d 79 Q 67 L [.int v] w cn sn = Q (some (.int v)) w := w_ireturn d_79_67 rfl
theorem d_80_0 : decode (mB 80) 0 = .ok (.aload_n 0, 1) := by decide +kernel
theorem s_80_0 {d : Nat} {Q : wQ} {L : List (Option Value)} {st : List Value} {w : aw} {cn sn : Nat} {v : Nat} : wp d 80 Q 0 (some (.ref v) :: L) st w cn sn = wp d 80 Q 1 (some (.ref v) :: L) (.ref v :: st) w cn sn := w_aload_n d_80_0 rfl
theorem d_80_1 : decode (mB 80) 1 = .ok (.getfield 10, 3) := by decide +kernel
theorem s_80_1 {d : Nat} {Q : wQ} {L : List (Option Value)} {st : List Value} {w : aw} {cn sn : Nat} {a : Nat} : wp d 80 Q 1 L (.ref a :: st) w cn sn = (kd w a = 8 ∧ wp d 80 Q 4 L (fd w 448 a :: st) w cn sn) := w_getfield d_80_1 (by decide +kernel : fT (mO 80) 10 = some (7, 0))
theorem d_80_4 : decode (mB 80) 4 = .ok (.bipush 20, 2) := by decide +kernel
theorem s_80_4 {d : Nat} {Q : wQ} {L : List (Option Value)} {st : List Value} {w : aw} {cn sn : Nat}  : wp d 80 Q 4 L st w cn sn = wp d 80 Q 6 L (.int 20 :: st) w cn sn := w_bipush d_80_4 (by decide)
theorem d_80_6 : decode (mB 80) 6 = .ok (.invokevirtual 44, 3) := by decide +kernel
theorem s_80_6 {d : Nat} {Q : wQ} {L : List (Option Value)} {st : List Value} {w : aw} {cn sn : Nat} {v0 : Value} {b : Nat} : wp d 80 Q 6 L (v0 :: .ref b :: st) w cn sn = (kd w b = 6 ∧ catS st ≤ 8 ∧ wpD d 57 [.ref b, v0] w (fun v w' => wp d 80 Q 9 L (v.toList ++ st) w' cn sn)) := w_virtual (As := [v0]) d_80_6 (by decide +kernel : cT (mO 80) 44 = some (0, 57)) rfl (by decide +kernel) rfl (by decide +kernel) rfl
theorem d_80_9 : decode (mB 80) 9 = .ok (.ifCond .ne 5, 3) := by decide +kernel
theorem s_80_9 {d : Nat} {Q : wQ} {L : List (Option Value)} {st : List Value} {w : aw} {cn sn : Nat} {x : Int32} : wp d 80 Q 9 L (.int x :: st) w cn sn = ((¬ x = 0 → wp d 80 Q 14 L st w cn sn) ∧ (x = 0 → wp d 80 Q 12 L st w cn sn)) := w_ifne d_80_9 (by decide)
theorem d_80_12 : decode (mB 80) 12 = .ok (.iconst (-1), 1) := by decide +kernel
theorem s_80_12 {d : Nat} {Q : wQ} {L : List (Option Value)} {st : List Value} {w : aw} {cn sn : Nat}  : wp d 80 Q 12 L st w cn sn = wp d 80 Q 13 L (.int (-1) :: st) w cn sn := w_iconst d_80_12 (by decide)
theorem d_80_13 : decode (mB 80) 13 = .ok (.ireturn, 1) := by decide +kernel
theorem s_80_13 {d : Nat} {Q : wQ} {L : List (Option Value)} {w : aw} {cn sn : Nat} {v : Int32} : wp d 80 Q 13 L [.int v] w cn sn = Q (some (.int v)) w := w_ireturn d_80_13 rfl
theorem d_80_14 : decode (mB 80) 14 = .ok (.aload_n 0, 1) := by decide +kernel
theorem s_80_14 {d : Nat} {Q : wQ} {L : List (Option Value)} {st : List Value} {w : aw} {cn sn : Nat} {v : Nat} : wp d 80 Q 14 (some (.ref v) :: L) st w cn sn = wp d 80 Q 15 (some (.ref v) :: L) (.ref v :: st) w cn sn := w_aload_n d_80_14 rfl
theorem d_80_15 : decode (mB 80) 15 = .ok (.getfield 10, 3) := by decide +kernel
theorem s_80_15 {d : Nat} {Q : wQ} {L : List (Option Value)} {st : List Value} {w : aw} {cn sn : Nat} {a : Nat} : wp d 80 Q 15 L (.ref a :: st) w cn sn = (kd w a = 8 ∧ wp d 80 Q 18 L (fd w 448 a :: st) w cn sn) := w_getfield d_80_15 (by decide +kernel : fT (mO 80) 10 = some (7, 0))
theorem d_80_18 : decode (mB 80) 18 = .ok (.iload_n 1, 1) := by decide +kernel
theorem s_80_18 {d : Nat} {Q : wQ} {L : List (Option Value)} {st : List Value} {w : aw} {cn sn : Nat} {a0 : Option Value} {v : Int32} : wp d 80 Q 18 (a0 :: some (.int v) :: L) st w cn sn = wp d 80 Q 19 (a0 :: some (.int v) :: L) (.int v :: st) w cn sn := w_iload_n d_80_18 rfl
theorem d_80_19 : decode (mB 80) 19 = .ok (.invokevirtual 48, 3) := by decide +kernel
theorem s_80_19 {d : Nat} {Q : wQ} {L : List (Option Value)} {st : List Value} {w : aw} {cn sn : Nat} {v0 : Value} {b : Nat} : wp d 80 Q 19 L (v0 :: .ref b :: st) w cn sn = (kd w b = 6 ∧ catS st ≤ 8 ∧ wpD d 58 [.ref b, v0] w (fun v w' => wp d 80 Q 22 L (v.toList ++ st) w' cn sn)) := w_virtual (As := [v0]) d_80_19 (by decide +kernel : cT (mO 80) 48 = some (0, 58)) rfl (by decide +kernel) rfl (by decide +kernel) rfl
theorem d_80_22 : decode (mB 80) 22 = .ok (.aload_n 0, 1) := by decide +kernel
theorem s_80_22 {d : Nat} {Q : wQ} {L : List (Option Value)} {st : List Value} {w : aw} {cn sn : Nat} {v : Nat} : wp d 80 Q 22 (some (.ref v) :: L) st w cn sn = wp d 80 Q 23 (some (.ref v) :: L) (.ref v :: st) w cn sn := w_aload_n d_80_22 rfl
theorem d_80_23 : decode (mB 80) 23 = .ok (.getfield 10, 3) := by decide +kernel
theorem s_80_23 {d : Nat} {Q : wQ} {L : List (Option Value)} {st : List Value} {w : aw} {cn sn : Nat} {a : Nat} : wp d 80 Q 23 L (.ref a :: st) w cn sn = (kd w a = 8 ∧ wp d 80 Q 26 L (fd w 448 a :: st) w cn sn) := w_getfield d_80_23 (by decide +kernel : fT (mO 80) 10 = some (7, 0))
theorem d_80_26 : decode (mB 80) 26 = .ok (.iload_n 2, 1) := by decide +kernel
theorem s_80_26 {d : Nat} {Q : wQ} {L : List (Option Value)} {st : List Value} {w : aw} {cn sn : Nat} {a0 a1 : Option Value} {v : Int32} : wp d 80 Q 26 (a0 :: a1 :: some (.int v) :: L) st w cn sn = wp d 80 Q 27 (a0 :: a1 :: some (.int v) :: L) (.int v :: st) w cn sn := w_iload_n d_80_26 rfl
theorem d_80_27 : decode (mB 80) 27 = .ok (.invokevirtual 48, 3) := by decide +kernel
theorem s_80_27 {d : Nat} {Q : wQ} {L : List (Option Value)} {st : List Value} {w : aw} {cn sn : Nat} {v0 : Value} {b : Nat} : wp d 80 Q 27 L (v0 :: .ref b :: st) w cn sn = (kd w b = 6 ∧ catS st ≤ 8 ∧ wpD d 58 [.ref b, v0] w (fun v w' => wp d 80 Q 30 L (v.toList ++ st) w' cn sn)) := w_virtual (As := [v0]) d_80_27 (by decide +kernel : cT (mO 80) 48 = some (0, 58)) rfl (by decide +kernel) rfl (by decide +kernel) rfl
theorem d_80_30 : decode (mB 80) 30 = .ok (.aload_n 0, 1) := by decide +kernel
theorem s_80_30 {d : Nat} {Q : wQ} {L : List (Option Value)} {st : List Value} {w : aw} {cn sn : Nat} {v : Nat} : wp d 80 Q 30 (some (.ref v) :: L) st w cn sn = wp d 80 Q 31 (some (.ref v) :: L) (.ref v :: st) w cn sn := w_aload_n d_80_30 rfl
theorem d_80_31 : decode (mB 80) 31 = .ok (.getfield 10, 3) := by decide +kernel
theorem s_80_31 {d : Nat} {Q : wQ} {L : List (Option Value)} {st : List Value} {w : aw} {cn sn : Nat} {a : Nat} : wp d 80 Q 31 L (.ref a :: st) w cn sn = (kd w a = 8 ∧ wp d 80 Q 34 L (fd w 448 a :: st) w cn sn) := w_getfield d_80_31 (by decide +kernel : fT (mO 80) 10 = some (7, 0))
theorem d_80_34 : decode (mB 80) 34 = .ok (.iload_n 3, 1) := by decide +kernel
theorem s_80_34 {d : Nat} {Q : wQ} {L : List (Option Value)} {st : List Value} {w : aw} {cn sn : Nat} {a0 a1 a2 : Option Value} {v : Int32} : wp d 80 Q 34 (a0 :: a1 :: a2 :: some (.int v) :: L) st w cn sn = wp d 80 Q 35 (a0 :: a1 :: a2 :: some (.int v) :: L) (.int v :: st) w cn sn := w_iload_n d_80_34 rfl
theorem d_80_35 : decode (mB 80) 35 = .ok (.invokevirtual 48, 3) := by decide +kernel
theorem s_80_35 {d : Nat} {Q : wQ} {L : List (Option Value)} {st : List Value} {w : aw} {cn sn : Nat} {v0 : Value} {b : Nat} : wp d 80 Q 35 L (v0 :: .ref b :: st) w cn sn = (kd w b = 6 ∧ catS st ≤ 8 ∧ wpD d 58 [.ref b, v0] w (fun v w' => wp d 80 Q 38 L (v.toList ++ st) w' cn sn)) := w_virtual (As := [v0]) d_80_35 (by decide +kernel : cT (mO 80) 48 = some (0, 58)) rfl (by decide +kernel) rfl (by decide +kernel) rfl
theorem d_80_38 : decode (mB 80) 38 = .ok (.aload_n 0, 1) := by decide +kernel
theorem s_80_38 {d : Nat} {Q : wQ} {L : List (Option Value)} {st : List Value} {w : aw} {cn sn : Nat} {v : Nat} : wp d 80 Q 38 (some (.ref v) :: L) st w cn sn = wp d 80 Q 39 (some (.ref v) :: L) (.ref v :: st) w cn sn := w_aload_n d_80_38 rfl
theorem d_80_39 : decode (mB 80) 39 = .ok (.getfield 10, 3) := by decide +kernel
theorem s_80_39 {d : Nat} {Q : wQ} {L : List (Option Value)} {st : List Value} {w : aw} {cn sn : Nat} {a : Nat} : wp d 80 Q 39 L (.ref a :: st) w cn sn = (kd w a = 8 ∧ wp d 80 Q 42 L (fd w 448 a :: st) w cn sn) := w_getfield d_80_39 (by decide +kernel : fT (mO 80) 10 = some (7, 0))
theorem d_80_42 : decode (mB 80) 42 = .ok (.iload 4, 2) := by decide +kernel
theorem s_80_42 {d : Nat} {Q : wQ} {L : List (Option Value)} {st : List Value} {w : aw} {cn sn : Nat} {a0 a1 a2 a3 : Option Value} {v : Int32} : wp d 80 Q 42 (a0 :: a1 :: a2 :: a3 :: some (.int v) :: L) st w cn sn = wp d 80 Q 44 (a0 :: a1 :: a2 :: a3 :: some (.int v) :: L) (.int v :: st) w cn sn := w_iload d_80_42 rfl
theorem d_80_44 : decode (mB 80) 44 = .ok (.invokevirtual 48, 3) := by decide +kernel
theorem s_80_44 {d : Nat} {Q : wQ} {L : List (Option Value)} {st : List Value} {w : aw} {cn sn : Nat} {v0 : Value} {b : Nat} : wp d 80 Q 44 L (v0 :: .ref b :: st) w cn sn = (kd w b = 6 ∧ catS st ≤ 8 ∧ wpD d 58 [.ref b, v0] w (fun v w' => wp d 80 Q 47 L (v.toList ++ st) w' cn sn)) := w_virtual (As := [v0]) d_80_44 (by decide +kernel : cT (mO 80) 48 = some (0, 58)) rfl (by decide +kernel) rfl (by decide +kernel) rfl
theorem d_80_47 : decode (mB 80) 47 = .ok (.aload_n 0, 1) := by decide +kernel
theorem s_80_47 {d : Nat} {Q : wQ} {L : List (Option Value)} {st : List Value} {w : aw} {cn sn : Nat} {v : Nat} : wp d 80 Q 47 (some (.ref v) :: L) st w cn sn = wp d 80 Q 48 (some (.ref v) :: L) (.ref v :: st) w cn sn := w_aload_n d_80_47 rfl
theorem d_80_48 : decode (mB 80) 48 = .ok (.getfield 10, 3) := by decide +kernel
theorem s_80_48 {d : Nat} {Q : wQ} {L : List (Option Value)} {st : List Value} {w : aw} {cn sn : Nat} {a : Nat} : wp d 80 Q 48 L (.ref a :: st) w cn sn = (kd w a = 8 ∧ wp d 80 Q 51 L (fd w 448 a :: st) w cn sn) := w_getfield d_80_48 (by decide +kernel : fT (mO 80) 10 = some (7, 0))
theorem d_80_51 : decode (mB 80) 51 = .ok (.iload 5, 2) := by decide +kernel
theorem s_80_51 {d : Nat} {Q : wQ} {L : List (Option Value)} {st : List Value} {w : aw} {cn sn : Nat} {a0 a1 a2 a3 a4 : Option Value} {v : Int32} : wp d 80 Q 51 (a0 :: a1 :: a2 :: a3 :: a4 :: some (.int v) :: L) st w cn sn = wp d 80 Q 53 (a0 :: a1 :: a2 :: a3 :: a4 :: some (.int v) :: L) (.int v :: st) w cn sn := w_iload d_80_51 rfl
theorem d_80_53 : decode (mB 80) 53 = .ok (.invokevirtual 48, 3) := by decide +kernel
theorem s_80_53 {d : Nat} {Q : wQ} {L : List (Option Value)} {st : List Value} {w : aw} {cn sn : Nat} {v0 : Value} {b : Nat} : wp d 80 Q 53 L (v0 :: .ref b :: st) w cn sn = (kd w b = 6 ∧ catS st ≤ 8 ∧ wpD d 58 [.ref b, v0] w (fun v w' => wp d 80 Q 56 L (v.toList ++ st) w' cn sn)) := w_virtual (As := [v0]) d_80_53 (by decide +kernel : cT (mO 80) 48 = some (0, 58)) rfl (by decide +kernel) rfl (by decide +kernel) rfl
theorem d_80_56 : decode (mB 80) 56 = .ok (.aload_n 0, 1) := by decide +kernel
theorem s_80_56 {d : Nat} {Q : wQ} {L : List (Option Value)} {st : List Value} {w : aw} {cn sn : Nat} {v : Nat} : wp d 80 Q 56 (some (.ref v) :: L) st w cn sn = wp d 80 Q 57 (some (.ref v) :: L) (.ref v :: st) w cn sn := w_aload_n d_80_56 rfl
theorem d_80_57 : decode (mB 80) 57 = .ok (.getfield 10, 3) := by decide +kernel
theorem s_80_57 {d : Nat} {Q : wQ} {L : List (Option Value)} {st : List Value} {w : aw} {cn sn : Nat} {a : Nat} : wp d 80 Q 57 L (.ref a :: st) w cn sn = (kd w a = 8 ∧ wp d 80 Q 60 L (fd w 448 a :: st) w cn sn) := w_getfield d_80_57 (by decide +kernel : fT (mO 80) 10 = some (7, 0))
theorem d_80_60 : decode (mB 80) 60 = .ok (.getfield 52, 3) := by decide +kernel
theorem s_80_60 {d : Nat} {Q : wQ} {L : List (Option Value)} {st : List Value} {w : aw} {cn sn : Nat} {a : Nat} : wp d 80 Q 60 L (.ref a :: st) w cn sn = (kd w a = 6 ∧ wp d 80 Q 63 L (fd w 321 a :: st) w cn sn) := w_getfield d_80_60 (by decide +kernel : fT (mO 80) 52 = some (5, 1))
theorem d_80_63 : decode (mB 80) 63 = .ok (.ireturn, 1) := by decide +kernel
theorem s_80_63 {d : Nat} {Q : wQ} {L : List (Option Value)} {w : aw} {cn sn : Nat} {v : Int32} : wp d 80 Q 63 L [.int v] w cn sn = Q (some (.int v)) w := w_ireturn d_80_63 rfl
theorem d_81_0 : decode (mB 81) 0 = .ok (.aload_n 0, 1) := by decide +kernel
theorem s_81_0 {d : Nat} {Q : wQ} {L : List (Option Value)} {st : List Value} {w : aw} {cn sn : Nat} {v : Nat} : wp d 81 Q 0 (some (.ref v) :: L) st w cn sn = wp d 81 Q 1 (some (.ref v) :: L) (.ref v :: st) w cn sn := w_aload_n d_81_0 rfl
theorem d_81_1 : decode (mB 81) 1 = .ok (.getfield 10, 3) := by decide +kernel
theorem s_81_1 {d : Nat} {Q : wQ} {L : List (Option Value)} {st : List Value} {w : aw} {cn sn : Nat} {a : Nat} : wp d 81 Q 1 L (.ref a :: st) w cn sn = (kd w a = 8 ∧ wp d 81 Q 4 L (fd w 448 a :: st) w cn sn) := w_getfield d_81_1 (by decide +kernel : fT (mO 81) 10 = some (7, 0))
theorem d_81_4 : decode (mB 81) 4 = .ok (.iload_n 1, 1) := by decide +kernel
theorem s_81_4 {d : Nat} {Q : wQ} {L : List (Option Value)} {st : List Value} {w : aw} {cn sn : Nat} {a0 : Option Value} {v : Int32} : wp d 81 Q 4 (a0 :: some (.int v) :: L) st w cn sn = wp d 81 Q 5 (a0 :: some (.int v) :: L) (.int v :: st) w cn sn := w_iload_n d_81_4 rfl
theorem d_81_5 : decode (mB 81) 5 = .ok (.invokevirtual 56, 3) := by decide +kernel
theorem s_81_5 {d : Nat} {Q : wQ} {L : List (Option Value)} {st : List Value} {w : aw} {cn sn : Nat} {v0 : Value} {b : Nat} : wp d 81 Q 5 L (v0 :: .ref b :: st) w cn sn = (kd w b = 6 ∧ catS st ≤ 8 ∧ wpD d 59 [.ref b, v0] w (fun v w' => wp d 81 Q 8 L (v.toList ++ st) w' cn sn)) := w_virtual (As := [v0]) d_81_5 (by decide +kernel : cT (mO 81) 56 = some (0, 59)) rfl (by decide +kernel) rfl (by decide +kernel) rfl
theorem d_81_8 : decode (mB 81) 8 = .ok (.ifCond .eq 7, 3) := by decide +kernel
theorem s_81_8 {d : Nat} {Q : wQ} {L : List (Option Value)} {st : List Value} {w : aw} {cn sn : Nat} {x : Int32} : wp d 81 Q 8 L (.int x :: st) w cn sn = ((x = 0 → wp d 81 Q 15 L st w cn sn) ∧ (¬ x = 0 → wp d 81 Q 11 L st w cn sn)) := w_ifeq d_81_8 (by decide)
theorem d_81_11 : decode (mB 81) 11 = .ok (.iload_n 1, 1) := by decide +kernel
theorem s_81_11 {d : Nat} {Q : wQ} {L : List (Option Value)} {st : List Value} {w : aw} {cn sn : Nat} {a0 : Option Value} {v : Int32} : wp d 81 Q 11 (a0 :: some (.int v) :: L) st w cn sn = wp d 81 Q 12 (a0 :: some (.int v) :: L) (.int v :: st) w cn sn := w_iload_n d_81_11 rfl
theorem d_81_12 : decode (mB 81) 12 = .ok (.goto 4, 3) := by decide +kernel
theorem s_81_12 {d : Nat} {Q : wQ} {L : List (Option Value)} {st : List Value} {w : aw} {cn sn : Nat}  : wp d 81 Q 12 L st w cn sn = wp d 81 Q 16 L st w cn sn := w_goto d_81_12 (by decide)
theorem d_81_15 : decode (mB 81) 15 = .ok (.iconst (-1), 1) := by decide +kernel
theorem s_81_15 {d : Nat} {Q : wQ} {L : List (Option Value)} {st : List Value} {w : aw} {cn sn : Nat}  : wp d 81 Q 15 L st w cn sn = wp d 81 Q 16 L (.int (-1) :: st) w cn sn := w_iconst d_81_15 (by decide)
theorem d_81_16 : decode (mB 81) 16 = .ok (.ireturn, 1) := by decide +kernel
theorem s_81_16 {d : Nat} {Q : wQ} {L : List (Option Value)} {w : aw} {cn sn : Nat} {v : Int32} : wp d 81 Q 16 L [.int v] w cn sn = Q (some (.int v)) w := w_ireturn d_81_16 rfl
theorem d_82_0 : decode (mB 82) 0 = .ok (.aload_n 0, 1) := by decide +kernel
theorem s_82_0 {d : Nat} {Q : wQ} {L : List (Option Value)} {st : List Value} {w : aw} {cn sn : Nat} {v : Nat} : wp d 82 Q 0 (some (.ref v) :: L) st w cn sn = wp d 82 Q 1 (some (.ref v) :: L) (.ref v :: st) w cn sn := w_aload_n d_82_0 rfl
theorem d_82_1 : decode (mB 82) 1 = .ok (.getfield 28, 3) := by decide +kernel
theorem s_82_1 {d : Nat} {Q : wQ} {L : List (Option Value)} {st : List Value} {w : aw} {cn sn : Nat} {a : Nat} : wp d 82 Q 1 L (.ref a :: st) w cn sn = (kd w a = 8 ∧ wp d 82 Q 4 L (fd w 450 a :: st) w cn sn) := w_getfield d_82_1 (by decide +kernel : fT (mO 82) 28 = some (7, 2))
theorem d_82_4 : decode (mB 82) 4 = .ok (.iload_n 1, 1) := by decide +kernel
theorem s_82_4 {d : Nat} {Q : wQ} {L : List (Option Value)} {st : List Value} {w : aw} {cn sn : Nat} {a0 : Option Value} {v : Int32} : wp d 82 Q 4 (a0 :: some (.int v) :: L) st w cn sn = wp d 82 Q 5 (a0 :: some (.int v) :: L) (.int v :: st) w cn sn := w_iload_n d_82_4 rfl
theorem d_82_5 : decode (mB 82) 5 = .ok (.invokevirtual 59, 3) := by decide +kernel
theorem s_82_5 {d : Nat} {Q : wQ} {L : List (Option Value)} {st : List Value} {w : aw} {cn sn : Nat} {v0 : Value} {b : Nat} : wp d 82 Q 5 L (v0 :: .ref b :: st) w cn sn = (kd w b = 2 ∧ catS st ≤ 8 ∧ wpD d 16 [.ref b, v0] w (fun v w' => wp d 82 Q 8 L (v.toList ++ st) w' cn sn)) := w_virtual (As := [v0]) d_82_5 (by decide +kernel : cT (mO 82) 59 = some (0, 16)) rfl (by decide +kernel) rfl (by decide +kernel) rfl
theorem d_82_8 : decode (mB 82) 8 = .ok (.astore_n 2, 1) := by decide +kernel
theorem s_82_8 {d : Nat} {Q : wQ} {L : List (Option Value)} {st : List Value} {w : aw} {cn sn : Nat} {a0 a1 a2 : Option Value} {v : Nat} : wp d 82 Q 8 (a0 :: a1 :: a2 :: L) (.ref v :: st) w cn sn = wp d 82 Q 9 (a0 :: clr a1 :: some (.ref v) :: L) st w cn sn := w_astore_n d_82_8 (Nat.le_add_left 3 _) rfl
theorem s_82_8n {d : Nat} {Q : wQ} {L : List (Option Value)} {st : List Value} {w : aw} {cn sn : Nat} {a0 a1 a2 : Option Value} : wp d 82 Q 8 (a0 :: a1 :: a2 :: L) (.null :: st) w cn sn = wp d 82 Q 9 (a0 :: clr a1 :: some .null :: L) st w cn sn := w_astore_nN d_82_8 (Nat.le_add_left 3 _) rfl
theorem d_82_9 : decode (mB 82) 9 = .ok (.aload_n 2, 1) := by decide +kernel
theorem s_82_9 {d : Nat} {Q : wQ} {L : List (Option Value)} {st : List Value} {w : aw} {cn sn : Nat} {a0 a1 : Option Value} {v : Nat} : wp d 82 Q 9 (a0 :: a1 :: some (.ref v) :: L) st w cn sn = wp d 82 Q 10 (a0 :: a1 :: some (.ref v) :: L) (.ref v :: st) w cn sn := w_aload_n d_82_9 rfl
theorem s_82_9n {d : Nat} {Q : wQ} {L : List (Option Value)} {st : List Value} {w : aw} {cn sn : Nat} {a0 a1 : Option Value} : wp d 82 Q 9 (a0 :: a1 :: some .null :: L) st w cn sn = wp d 82 Q 10 (a0 :: a1 :: some .null :: L) (.null :: st) w cn sn := w_aload_nN d_82_9 rfl
theorem d_82_10 : decode (mB 82) 10 = .ok (.ifnonnull 5, 3) := by decide +kernel
theorem s_82_10 {d : Nat} {Q : wQ} {L : List (Option Value)} {st : List Value} {w : aw} {cn sn : Nat} {q : Nat} : wp d 82 Q 10 L (.ref q :: st) w cn sn = wp d 82 Q 15 L st w cn sn := w_ifnn d_82_10 (t := 15) (by decide)
theorem s_82_10n {d : Nat} {Q : wQ} {L : List (Option Value)} {st : List Value} {w : aw} {cn sn : Nat}  : wp d 82 Q 10 L (.null :: st) w cn sn = wp d 82 Q 13 L st w cn sn := w_ifnnN d_82_10 (t := 15) (by decide)
theorem d_82_13 : decode (mB 82) 13 = .ok (.iconst (-1), 1) := by decide +kernel
theorem s_82_13 {d : Nat} {Q : wQ} {L : List (Option Value)} {st : List Value} {w : aw} {cn sn : Nat}  : wp d 82 Q 13 L st w cn sn = wp d 82 Q 14 L (.int (-1) :: st) w cn sn := w_iconst d_82_13 (by decide)
theorem d_82_14 : decode (mB 82) 14 = .ok (.ireturn, 1) := by decide +kernel
theorem s_82_14 {d : Nat} {Q : wQ} {L : List (Option Value)} {w : aw} {cn sn : Nat} {v : Int32} : wp d 82 Q 14 L [.int v] w cn sn = Q (some (.int v)) w := w_ireturn d_82_14 rfl
theorem d_82_15 : decode (mB 82) 15 = .ok (.aload_n 0, 1) := by decide +kernel
theorem s_82_15 {d : Nat} {Q : wQ} {L : List (Option Value)} {st : List Value} {w : aw} {cn sn : Nat} {v : Nat} : wp d 82 Q 15 (some (.ref v) :: L) st w cn sn = wp d 82 Q 16 (some (.ref v) :: L) (.ref v :: st) w cn sn := w_aload_n d_82_15 rfl
theorem d_82_16 : decode (mB 82) 16 = .ok (.getfield 21, 3) := by decide +kernel
theorem s_82_16 {d : Nat} {Q : wQ} {L : List (Option Value)} {st : List Value} {w : aw} {cn sn : Nat} {a : Nat} : wp d 82 Q 16 L (.ref a :: st) w cn sn = (kd w a = 8 ∧ wp d 82 Q 19 L (fd w 449 a :: st) w cn sn) := w_getfield d_82_16 (by decide +kernel : fT (mO 82) 21 = some (7, 1))
theorem d_82_19 : decode (mB 82) 19 = .ok (.invokevirtual 63, 3) := by decide +kernel
theorem s_82_19 {d : Nat} {Q : wQ} {L : List (Option Value)} {st : List Value} {w : aw} {cn sn : Nat} {b : Nat} : wp d 82 Q 19 L (.ref b :: st) w cn sn = (kd w b = 1 ∧ catS st ≤ 8 ∧ wpD d 2 [.ref b] w (fun v w' => wp d 82 Q 22 L (v.toList ++ st) w' cn sn)) := w_virtual (As := []) d_82_19 (by decide +kernel : cT (mO 82) 63 = some (0, 2)) rfl (by decide +kernel) rfl (by decide +kernel) rfl
theorem d_82_22 : decode (mB 82) 22 = .ok (.aload_n 0, 1) := by decide +kernel
theorem s_82_22 {d : Nat} {Q : wQ} {L : List (Option Value)} {st : List Value} {w : aw} {cn sn : Nat} {v : Nat} : wp d 82 Q 22 (some (.ref v) :: L) st w cn sn = wp d 82 Q 23 (some (.ref v) :: L) (.ref v :: st) w cn sn := w_aload_n d_82_22 rfl
theorem d_82_23 : decode (mB 82) 23 = .ok (.getfield 21, 3) := by decide +kernel
theorem s_82_23 {d : Nat} {Q : wQ} {L : List (Option Value)} {st : List Value} {w : aw} {cn sn : Nat} {a : Nat} : wp d 82 Q 23 L (.ref a :: st) w cn sn = (kd w a = 8 ∧ wp d 82 Q 26 L (fd w 449 a :: st) w cn sn) := w_getfield d_82_23 (by decide +kernel : fT (mO 82) 21 = some (7, 1))
theorem d_82_26 : decode (mB 82) 26 = .ok (.iconst 1, 1) := by decide +kernel
theorem s_82_26 {d : Nat} {Q : wQ} {L : List (Option Value)} {st : List Value} {w : aw} {cn sn : Nat}  : wp d 82 Q 26 L st w cn sn = wp d 82 Q 27 L (.int 1 :: st) w cn sn := w_iconst d_82_26 (by decide)
theorem d_82_27 : decode (mB 82) 27 = .ok (.invokevirtual 65, 3) := by decide +kernel
theorem s_82_27 {d : Nat} {Q : wQ} {L : List (Option Value)} {st : List Value} {w : aw} {cn sn : Nat} {v0 : Value} {b : Nat} : wp d 82 Q 27 L (v0 :: .ref b :: st) w cn sn = (kd w b = 1 ∧ catS st ≤ 8 ∧ wpD d 3 [.ref b, v0] w (fun v w' => wp d 82 Q 30 L (v.toList ++ st) w' cn sn)) := w_virtual (As := [v0]) d_82_27 (by decide +kernel : cT (mO 82) 65 = some (0, 3)) rfl (by decide +kernel) rfl (by decide +kernel) rfl
theorem d_82_30 : decode (mB 82) 30 = .ok (.aload_n 0, 1) := by decide +kernel
theorem s_82_30 {d : Nat} {Q : wQ} {L : List (Option Value)} {st : List Value} {w : aw} {cn sn : Nat} {v : Nat} : wp d 82 Q 30 (some (.ref v) :: L) st w cn sn = wp d 82 Q 31 (some (.ref v) :: L) (.ref v :: st) w cn sn := w_aload_n d_82_30 rfl
theorem d_82_31 : decode (mB 82) 31 = .ok (.getfield 21, 3) := by decide +kernel
theorem s_82_31 {d : Nat} {Q : wQ} {L : List (Option Value)} {st : List Value} {w : aw} {cn sn : Nat} {a : Nat} : wp d 82 Q 31 L (.ref a :: st) w cn sn = (kd w a = 8 ∧ wp d 82 Q 34 L (fd w 449 a :: st) w cn sn) := w_getfield d_82_31 (by decide +kernel : fT (mO 82) 21 = some (7, 1))
theorem d_82_34 : decode (mB 82) 34 = .ok (.iconst 0, 1) := by decide +kernel
theorem s_82_34 {d : Nat} {Q : wQ} {L : List (Option Value)} {st : List Value} {w : aw} {cn sn : Nat}  : wp d 82 Q 34 L st w cn sn = wp d 82 Q 35 L (.int 0 :: st) w cn sn := w_iconst d_82_34 (by decide)
theorem d_82_35 : decode (mB 82) 35 = .ok (.invokevirtual 65, 3) := by decide +kernel
theorem s_82_35 {d : Nat} {Q : wQ} {L : List (Option Value)} {st : List Value} {w : aw} {cn sn : Nat} {v0 : Value} {b : Nat} : wp d 82 Q 35 L (v0 :: .ref b :: st) w cn sn = (kd w b = 1 ∧ catS st ≤ 8 ∧ wpD d 3 [.ref b, v0] w (fun v w' => wp d 82 Q 38 L (v.toList ++ st) w' cn sn)) := w_virtual (As := [v0]) d_82_35 (by decide +kernel : cT (mO 82) 65 = some (0, 3)) rfl (by decide +kernel) rfl (by decide +kernel) rfl
theorem d_82_38 : decode (mB 82) 38 = .ok (.aload_n 0, 1) := by decide +kernel
theorem s_82_38 {d : Nat} {Q : wQ} {L : List (Option Value)} {st : List Value} {w : aw} {cn sn : Nat} {v : Nat} : wp d 82 Q 38 (some (.ref v) :: L) st w cn sn = wp d 82 Q 39 (some (.ref v) :: L) (.ref v :: st) w cn sn := w_aload_n d_82_38 rfl
theorem d_82_39 : decode (mB 82) 39 = .ok (.getfield 10, 3) := by decide +kernel
theorem s_82_39 {d : Nat} {Q : wQ} {L : List (Option Value)} {st : List Value} {w : aw} {cn sn : Nat} {a : Nat} : wp d 82 Q 39 L (.ref a :: st) w cn sn = (kd w a = 8 ∧ wp d 82 Q 42 L (fd w 448 a :: st) w cn sn) := w_getfield d_82_39 (by decide +kernel : fT (mO 82) 10 = some (7, 0))
theorem d_82_42 : decode (mB 82) 42 = .ok (.iconst 0, 1) := by decide +kernel
theorem s_82_42 {d : Nat} {Q : wQ} {L : List (Option Value)} {st : List Value} {w : aw} {cn sn : Nat}  : wp d 82 Q 42 L st w cn sn = wp d 82 Q 43 L (.int 0 :: st) w cn sn := w_iconst d_82_42 (by decide)
theorem d_82_43 : decode (mB 82) 43 = .ok (.invokevirtual 56, 3) := by decide +kernel
theorem s_82_43 {d : Nat} {Q : wQ} {L : List (Option Value)} {st : List Value} {w : aw} {cn sn : Nat} {v0 : Value} {b : Nat} : wp d 82 Q 43 L (v0 :: .ref b :: st) w cn sn = (kd w b = 6 ∧ catS st ≤ 8 ∧ wpD d 59 [.ref b, v0] w (fun v w' => wp d 82 Q 46 L (v.toList ++ st) w' cn sn)) := w_virtual (As := [v0]) d_82_43 (by decide +kernel : cT (mO 82) 56 = some (0, 59)) rfl (by decide +kernel) rfl (by decide +kernel) rfl
theorem d_82_46 : decode (mB 82) 46 = .ok (.pop, 1) := by decide +kernel
theorem s_82_46 {d : Nat} {Q : wQ} {L : List (Option Value)} {st : List Value} {w : aw} {cn sn : Nat} {v : Value} : wp d 82 Q 46 L (v :: st) w cn sn = (v.category = 1 ∧ wp d 82 Q 47 L st w cn sn) := wp_row d_82_46 _ _ _ _ _
theorem d_82_47 : decode (mB 82) 47 = .ok (.aload_n 0, 1) := by decide +kernel
theorem s_82_47 {d : Nat} {Q : wQ} {L : List (Option Value)} {st : List Value} {w : aw} {cn sn : Nat} {v : Nat} : wp d 82 Q 47 (some (.ref v) :: L) st w cn sn = wp d 82 Q 48 (some (.ref v) :: L) (.ref v :: st) w cn sn := w_aload_n d_82_47 rfl
theorem d_82_48 : decode (mB 82) 48 = .ok (.getfield 21, 3) := by decide +kernel
theorem s_82_48 {d : Nat} {Q : wQ} {L : List (Option Value)} {st : List Value} {w : aw} {cn sn : Nat} {a : Nat} : wp d 82 Q 48 L (.ref a :: st) w cn sn = (kd w a = 8 ∧ wp d 82 Q 51 L (fd w 449 a :: st) w cn sn) := w_getfield d_82_48 (by decide +kernel : fT (mO 82) 21 = some (7, 1))
theorem d_82_51 : decode (mB 82) 51 = .ok (.aload_n 2, 1) := by decide +kernel
theorem s_82_51 {d : Nat} {Q : wQ} {L : List (Option Value)} {st : List Value} {w : aw} {cn sn : Nat} {a0 a1 : Option Value} {v : Nat} : wp d 82 Q 51 (a0 :: a1 :: some (.ref v) :: L) st w cn sn = wp d 82 Q 52 (a0 :: a1 :: some (.ref v) :: L) (.ref v :: st) w cn sn := w_aload_n d_82_51 rfl
theorem s_82_51n {d : Nat} {Q : wQ} {L : List (Option Value)} {st : List Value} {w : aw} {cn sn : Nat} {a0 a1 : Option Value} : wp d 82 Q 51 (a0 :: a1 :: some .null :: L) st w cn sn = wp d 82 Q 52 (a0 :: a1 :: some .null :: L) (.null :: st) w cn sn := w_aload_nN d_82_51 rfl
theorem d_82_52 : decode (mB 82) 52 = .ok (.getfield 69, 3) := by decide +kernel
theorem s_82_52 {d : Nat} {Q : wQ} {L : List (Option Value)} {st : List Value} {w : aw} {cn sn : Nat} {a : Nat} : wp d 82 Q 52 L (.ref a :: st) w cn sn = (kd w a = 7 ∧ wp d 82 Q 55 L (fd w 385 a :: st) w cn sn) := w_getfield d_82_52 (by decide +kernel : fT (mO 82) 69 = some (6, 1))
theorem d_82_55 : decode (mB 82) 55 = .ok (.invokevirtual 75, 3) := by decide +kernel
theorem s_82_55 {d : Nat} {Q : wQ} {L : List (Option Value)} {st : List Value} {w : aw} {cn sn : Nat} {v0 : Value} {b : Nat} : wp d 82 Q 55 L (v0 :: .ref b :: st) w cn sn = (kd w b = 1 ∧ catS st ≤ 8 ∧ wpD d 12 [.ref b, v0] w (fun v w' => wp d 82 Q 58 L (v.toList ++ st) w' cn sn)) := w_virtual (As := [v0]) d_82_55 (by decide +kernel : cT (mO 82) 75 = some (0, 12)) rfl (by decide +kernel) rfl (by decide +kernel) rfl
theorem d_82_58 : decode (mB 82) 58 = .ok (.ireturn, 1) := by decide +kernel
theorem s_82_58 {d : Nat} {Q : wQ} {L : List (Option Value)} {w : aw} {cn sn : Nat} {v : Int32} : wp d 82 Q 58 L [.int v] w cn sn = Q (some (.int v)) w := w_ireturn d_82_58 rfl
theorem d_83_0 : decode (mB 83) 0 = .ok (.iload_n 1, 1) := by decide +kernel
theorem s_83_0 {d : Nat} {Q : wQ} {L : List (Option Value)} {st : List Value} {w : aw} {cn sn : Nat} {a0 : Option Value} {v : Int32} : wp d 83 Q 0 (a0 :: some (.int v) :: L) st w cn sn = wp d 83 Q 1 (a0 :: some (.int v) :: L) (.int v :: st) w cn sn := w_iload_n d_83_0 rfl
theorem d_83_1 : decode (mB 83) 1 = .ok (.ifCond .ne 11, 3) := by decide +kernel
theorem s_83_1 {d : Nat} {Q : wQ} {L : List (Option Value)} {st : List Value} {w : aw} {cn sn : Nat} {x : Int32} : wp d 83 Q 1 L (.int x :: st) w cn sn = ((¬ x = 0 → wp d 83 Q 12 L st w cn sn) ∧ (x = 0 → wp d 83 Q 4 L st w cn sn)) := w_ifne d_83_1 (by decide)
theorem d_83_4 : decode (mB 83) 4 = .ok (.aload_n 0, 1) := by decide +kernel
theorem s_83_4 {d : Nat} {Q : wQ} {L : List (Option Value)} {st : List Value} {w : aw} {cn sn : Nat} {v : Nat} : wp d 83 Q 4 (some (.ref v) :: L) st w cn sn = wp d 83 Q 5 (some (.ref v) :: L) (.ref v :: st) w cn sn := w_aload_n d_83_4 rfl
theorem d_83_5 : decode (mB 83) 5 = .ok (.getfield 21, 3) := by decide +kernel
theorem s_83_5 {d : Nat} {Q : wQ} {L : List (Option Value)} {st : List Value} {w : aw} {cn sn : Nat} {a : Nat} : wp d 83 Q 5 L (.ref a :: st) w cn sn = (kd w a = 8 ∧ wp d 83 Q 8 L (fd w 449 a :: st) w cn sn) := w_getfield d_83_5 (by decide +kernel : fT (mO 83) 21 = some (7, 1))
theorem d_83_8 : decode (mB 83) 8 = .ok (.getfield 79, 3) := by decide +kernel
theorem s_83_8 {d : Nat} {Q : wQ} {L : List (Option Value)} {st : List Value} {w : aw} {cn sn : Nat} {a : Nat} : wp d 83 Q 8 L (.ref a :: st) w cn sn = (kd w a = 1 ∧ wp d 83 Q 11 L (fd w 9 a :: st) w cn sn) := w_getfield d_83_8 (by decide +kernel : fT (mO 83) 79 = some (0, 9))
theorem d_83_11 : decode (mB 83) 11 = .ok (.ireturn, 1) := by decide +kernel
theorem s_83_11 {d : Nat} {Q : wQ} {L : List (Option Value)} {w : aw} {cn sn : Nat} {v : Int32} : wp d 83 Q 11 L [.int v] w cn sn = Q (some (.int v)) w := w_ireturn d_83_11 rfl
theorem d_83_12 : decode (mB 83) 12 = .ok (.iload_n 1, 1) := by decide +kernel
theorem s_83_12 {d : Nat} {Q : wQ} {L : List (Option Value)} {st : List Value} {w : aw} {cn sn : Nat} {a0 : Option Value} {v : Int32} : wp d 83 Q 12 (a0 :: some (.int v) :: L) st w cn sn = wp d 83 Q 13 (a0 :: some (.int v) :: L) (.int v :: st) w cn sn := w_iload_n d_83_12 rfl
theorem d_83_13 : decode (mB 83) 13 = .ok (.iconst 1, 1) := by decide +kernel
theorem s_83_13 {d : Nat} {Q : wQ} {L : List (Option Value)} {st : List Value} {w : aw} {cn sn : Nat}  : wp d 83 Q 13 L st w cn sn = wp d 83 Q 14 L (.int 1 :: st) w cn sn := w_iconst d_83_13 (by decide)
theorem d_83_14 : decode (mB 83) 14 = .ok (.if_icmp .ne 13, 3) := by decide +kernel
theorem s_83_14 {d : Nat} {Q : wQ} {L : List (Option Value)} {st : List Value} {w : aw} {cn sn : Nat} {a b : Int32} : wp d 83 Q 14 L (.int b :: .int a :: st) w cn sn = ((¬ a = b → wp d 83 Q 27 L st w cn sn) ∧ (a = b → wp d 83 Q 17 L st w cn sn)) := w_icne d_83_14 (by decide)
theorem d_83_17 : decode (mB 83) 17 = .ok (.aload_n 0, 1) := by decide +kernel
theorem s_83_17 {d : Nat} {Q : wQ} {L : List (Option Value)} {st : List Value} {w : aw} {cn sn : Nat} {v : Nat} : wp d 83 Q 17 (some (.ref v) :: L) st w cn sn = wp d 83 Q 18 (some (.ref v) :: L) (.ref v :: st) w cn sn := w_aload_n d_83_17 rfl
theorem d_83_18 : decode (mB 83) 18 = .ok (.getfield 21, 3) := by decide +kernel
theorem s_83_18 {d : Nat} {Q : wQ} {L : List (Option Value)} {st : List Value} {w : aw} {cn sn : Nat} {a : Nat} : wp d 83 Q 18 L (.ref a :: st) w cn sn = (kd w a = 8 ∧ wp d 83 Q 21 L (fd w 449 a :: st) w cn sn) := w_getfield d_83_18 (by decide +kernel : fT (mO 83) 21 = some (7, 1))
theorem d_83_21 : decode (mB 83) 21 = .ok (.getfield 82, 3) := by decide +kernel
theorem s_83_21 {d : Nat} {Q : wQ} {L : List (Option Value)} {st : List Value} {w : aw} {cn sn : Nat} {a : Nat} : wp d 83 Q 21 L (.ref a :: st) w cn sn = (kd w a = 1 ∧ wp d 83 Q 24 L (fd w 10 a :: st) w cn sn) := w_getfield d_83_21 (by decide +kernel : fT (mO 83) 82 = some (0, 10))
theorem d_83_24 : decode (mB 83) 24 = .ok (.goto 4, 3) := by decide +kernel
theorem s_83_24 {d : Nat} {Q : wQ} {L : List (Option Value)} {st : List Value} {w : aw} {cn sn : Nat}  : wp d 83 Q 24 L st w cn sn = wp d 83 Q 28 L st w cn sn := w_goto d_83_24 (by decide)
theorem d_83_27 : decode (mB 83) 27 = .ok (.iconst (-1), 1) := by decide +kernel
theorem s_83_27 {d : Nat} {Q : wQ} {L : List (Option Value)} {st : List Value} {w : aw} {cn sn : Nat}  : wp d 83 Q 27 L st w cn sn = wp d 83 Q 28 L (.int (-1) :: st) w cn sn := w_iconst d_83_27 (by decide)
theorem d_83_28 : decode (mB 83) 28 = .ok (.ireturn, 1) := by decide +kernel
theorem s_83_28 {d : Nat} {Q : wQ} {L : List (Option Value)} {w : aw} {cn sn : Nat} {v : Int32} : wp d 83 Q 28 L [.int v] w cn sn = Q (some (.int v)) w := w_ireturn d_83_28 rfl
theorem d_84_0 : decode (mB 84) 0 = .ok (.aload_n 0, 1) := by decide +kernel
theorem s_84_0 {d : Nat} {Q : wQ} {L : List (Option Value)} {st : List Value} {w : aw} {cn sn : Nat} {v : Nat} : wp d 84 Q 0 (some (.ref v) :: L) st w cn sn = wp d 84 Q 1 (some (.ref v) :: L) (.ref v :: st) w cn sn := w_aload_n d_84_0 rfl
theorem d_84_1 : decode (mB 84) 1 = .ok (.getfield 28, 3) := by decide +kernel
theorem s_84_1 {d : Nat} {Q : wQ} {L : List (Option Value)} {st : List Value} {w : aw} {cn sn : Nat} {a : Nat} : wp d 84 Q 1 L (.ref a :: st) w cn sn = (kd w a = 8 ∧ wp d 84 Q 4 L (fd w 450 a :: st) w cn sn) := w_getfield d_84_1 (by decide +kernel : fT (mO 84) 28 = some (7, 2))
theorem d_84_4 : decode (mB 84) 4 = .ok (.iload_n 1, 1) := by decide +kernel
theorem s_84_4 {d : Nat} {Q : wQ} {L : List (Option Value)} {st : List Value} {w : aw} {cn sn : Nat} {a0 : Option Value} {v : Int32} : wp d 84 Q 4 (a0 :: some (.int v) :: L) st w cn sn = wp d 84 Q 5 (a0 :: some (.int v) :: L) (.int v :: st) w cn sn := w_iload_n d_84_4 rfl
theorem d_84_5 : decode (mB 84) 5 = .ok (.invokevirtual 59, 3) := by decide +kernel
theorem s_84_5 {d : Nat} {Q : wQ} {L : List (Option Value)} {st : List Value} {w : aw} {cn sn : Nat} {v0 : Value} {b : Nat} : wp d 84 Q 5 L (v0 :: .ref b :: st) w cn sn = (kd w b = 2 ∧ catS st ≤ 8 ∧ wpD d 16 [.ref b, v0] w (fun v w' => wp d 84 Q 8 L (v.toList ++ st) w' cn sn)) := w_virtual (As := [v0]) d_84_5 (by decide +kernel : cT (mO 84) 59 = some (0, 16)) rfl (by decide +kernel) rfl (by decide +kernel) rfl
theorem d_84_8 : decode (mB 84) 8 = .ok (.astore 4, 2) := by decide +kernel
theorem s_84_8 {d : Nat} {Q : wQ} {L : List (Option Value)} {st : List Value} {w : aw} {cn sn : Nat} {a0 a1 a2 a3 a4 : Option Value} {v : Nat} : wp d 84 Q 8 (a0 :: a1 :: a2 :: a3 :: a4 :: L) (.ref v :: st) w cn sn = wp d 84 Q 10 (a0 :: a1 :: a2 :: clr a3 :: some (.ref v) :: L) st w cn sn := w_astore d_84_8 (Nat.le_add_left 5 _) rfl
theorem s_84_8n {d : Nat} {Q : wQ} {L : List (Option Value)} {st : List Value} {w : aw} {cn sn : Nat} {a0 a1 a2 a3 a4 : Option Value} : wp d 84 Q 8 (a0 :: a1 :: a2 :: a3 :: a4 :: L) (.null :: st) w cn sn = wp d 84 Q 10 (a0 :: a1 :: a2 :: clr a3 :: some .null :: L) st w cn sn := w_astoreN d_84_8 (Nat.le_add_left 5 _) rfl
theorem d_84_10 : decode (mB 84) 10 = .ok (.aload 4, 2) := by decide +kernel
theorem s_84_10 {d : Nat} {Q : wQ} {L : List (Option Value)} {st : List Value} {w : aw} {cn sn : Nat} {a0 a1 a2 a3 : Option Value} {v : Nat} : wp d 84 Q 10 (a0 :: a1 :: a2 :: a3 :: some (.ref v) :: L) st w cn sn = wp d 84 Q 12 (a0 :: a1 :: a2 :: a3 :: some (.ref v) :: L) (.ref v :: st) w cn sn := w_aload d_84_10 rfl
theorem s_84_10n {d : Nat} {Q : wQ} {L : List (Option Value)} {st : List Value} {w : aw} {cn sn : Nat} {a0 a1 a2 a3 : Option Value} : wp d 84 Q 10 (a0 :: a1 :: a2 :: a3 :: some .null :: L) st w cn sn = wp d 84 Q 12 (a0 :: a1 :: a2 :: a3 :: some .null :: L) (.null :: st) w cn sn := w_aloadN d_84_10 rfl
theorem d_84_12 : decode (mB 84) 12 = .ok (.ifnull 17, 3) := by decide +kernel
theorem s_84_12 {d : Nat} {Q : wQ} {L : List (Option Value)} {st : List Value} {w : aw} {cn sn : Nat} {q : Nat} : wp d 84 Q 12 L (.ref q :: st) w cn sn = wp d 84 Q 15 L st w cn sn := w_ifnull d_84_12 (t := 29) (by decide)
theorem s_84_12n {d : Nat} {Q : wQ} {L : List (Option Value)} {st : List Value} {w : aw} {cn sn : Nat}  : wp d 84 Q 12 L (.null :: st) w cn sn = wp d 84 Q 29 L st w cn sn := w_ifnullN d_84_12 (t := 29) (by decide)
theorem d_84_15 : decode (mB 84) 15 = .ok (.iload_n 2, 1) := by decide +kernel
theorem s_84_15 {d : Nat} {Q : wQ} {L : List (Option Value)} {st : List Value} {w : aw} {cn sn : Nat} {a0 a1 : Option Value} {v : Int32} : wp d 84 Q 15 (a0 :: a1 :: some (.int v) :: L) st w cn sn = wp d 84 Q 16 (a0 :: a1 :: some (.int v) :: L) (.int v :: st) w cn sn := w_iload_n d_84_15 rfl
theorem d_84_16 : decode (mB 84) 16 = .ok (.invokestatic 85, 3) := by decide +kernel
theorem s_84_16 {d : Nat} {Q : wQ} {L : List (Option Value)} {st : List Value} {w : aw} {cn sn : Nat} {v0 : Value} : wp d 84 Q 16 L (v0 :: st) w cn sn = (catS st ≤ 8 ∧ wpD d 101 [v0] w (fun v w' => wp d 84 Q 19 L (v.toList ++ st) w' cn sn)) := w_static (As := [v0]) d_84_16 (by decide +kernel : cT (mO 84) 85 = some (2, 101)) (by decide +kernel) rfl (by decide +kernel) rfl
theorem d_84_19 : decode (mB 84) 19 = .ok (.ifCond .eq 10, 3) := by decide +kernel
theorem s_84_19 {d : Nat} {Q : wQ} {L : List (Option Value)} {st : List Value} {w : aw} {cn sn : Nat} {x : Int32} : wp d 84 Q 19 L (.int x :: st) w cn sn = ((x = 0 → wp d 84 Q 29 L st w cn sn) ∧ (¬ x = 0 → wp d 84 Q 22 L st w cn sn)) := w_ifeq d_84_19 (by decide)
theorem d_84_22 : decode (mB 84) 22 = .ok (.iload_n 3, 1) := by decide +kernel
theorem s_84_22 {d : Nat} {Q : wQ} {L : List (Option Value)} {st : List Value} {w : aw} {cn sn : Nat} {a0 a1 a2 : Option Value} {v : Int32} : wp d 84 Q 22 (a0 :: a1 :: a2 :: some (.int v) :: L) st w cn sn = wp d 84 Q 23 (a0 :: a1 :: a2 :: some (.int v) :: L) (.int v :: st) w cn sn := w_iload_n d_84_22 rfl
theorem d_84_23 : decode (mB 84) 23 = .ok (.invokestatic 85, 3) := by decide +kernel
theorem s_84_23 {d : Nat} {Q : wQ} {L : List (Option Value)} {st : List Value} {w : aw} {cn sn : Nat} {v0 : Value} : wp d 84 Q 23 L (v0 :: st) w cn sn = (catS st ≤ 8 ∧ wpD d 101 [v0] w (fun v w' => wp d 84 Q 26 L (v.toList ++ st) w' cn sn)) := w_static (As := [v0]) d_84_23 (by decide +kernel : cT (mO 84) 85 = some (2, 101)) (by decide +kernel) rfl (by decide +kernel) rfl
theorem d_84_26 : decode (mB 84) 26 = .ok (.ifCond .ne 5, 3) := by decide +kernel
theorem s_84_26 {d : Nat} {Q : wQ} {L : List (Option Value)} {st : List Value} {w : aw} {cn sn : Nat} {x : Int32} : wp d 84 Q 26 L (.int x :: st) w cn sn = ((¬ x = 0 → wp d 84 Q 31 L st w cn sn) ∧ (x = 0 → wp d 84 Q 29 L st w cn sn)) := w_ifne d_84_26 (by decide)
theorem d_84_29 : decode (mB 84) 29 = .ok (.iconst (-1), 1) := by decide +kernel
theorem s_84_29 {d : Nat} {Q : wQ} {L : List (Option Value)} {st : List Value} {w : aw} {cn sn : Nat}  : wp d 84 Q 29 L st w cn sn = wp d 84 Q 30 L (.int (-1) :: st) w cn sn := w_iconst d_84_29 (by decide)
theorem d_84_30 : decode (mB 84) 30 = .ok (.ireturn, 1) := by decide +kernel
theorem s_84_30 {d : Nat} {Q : wQ} {L : List (Option Value)} {w : aw} {cn sn : Nat} {v : Int32} : wp d 84 Q 30 L [.int v] w cn sn = Q (some (.int v)) w := w_ireturn d_84_30 rfl
theorem d_84_31 : decode (mB 84) 31 = .ok (.aload 4, 2) := by decide +kernel
theorem s_84_31 {d : Nat} {Q : wQ} {L : List (Option Value)} {st : List Value} {w : aw} {cn sn : Nat} {a0 a1 a2 a3 : Option Value} {v : Nat} : wp d 84 Q 31 (a0 :: a1 :: a2 :: a3 :: some (.ref v) :: L) st w cn sn = wp d 84 Q 33 (a0 :: a1 :: a2 :: a3 :: some (.ref v) :: L) (.ref v :: st) w cn sn := w_aload d_84_31 rfl
theorem s_84_31n {d : Nat} {Q : wQ} {L : List (Option Value)} {st : List Value} {w : aw} {cn sn : Nat} {a0 a1 a2 a3 : Option Value} : wp d 84 Q 31 (a0 :: a1 :: a2 :: a3 :: some .null :: L) st w cn sn = wp d 84 Q 33 (a0 :: a1 :: a2 :: a3 :: some .null :: L) (.null :: st) w cn sn := w_aloadN d_84_31 rfl
theorem d_84_33 : decode (mB 84) 33 = .ok (.getfield 69, 3) := by decide +kernel
theorem s_84_33 {d : Nat} {Q : wQ} {L : List (Option Value)} {st : List Value} {w : aw} {cn sn : Nat} {a : Nat} : wp d 84 Q 33 L (.ref a :: st) w cn sn = (kd w a = 7 ∧ wp d 84 Q 36 L (fd w 385 a :: st) w cn sn) := w_getfield d_84_33 (by decide +kernel : fT (mO 84) 69 = some (6, 1))
theorem d_84_36 : decode (mB 84) 36 = .ok (.iload_n 2, 1) := by decide +kernel
theorem s_84_36 {d : Nat} {Q : wQ} {L : List (Option Value)} {st : List Value} {w : aw} {cn sn : Nat} {a0 a1 : Option Value} {v : Int32} : wp d 84 Q 36 (a0 :: a1 :: some (.int v) :: L) st w cn sn = wp d 84 Q 37 (a0 :: a1 :: some (.int v) :: L) (.int v :: st) w cn sn := w_iload_n d_84_36 rfl
theorem d_84_37 : decode (mB 84) 37 = .ok (.iload_n 3, 1) := by decide +kernel
theorem s_84_37 {d : Nat} {Q : wQ} {L : List (Option Value)} {st : List Value} {w : aw} {cn sn : Nat} {a0 a1 a2 : Option Value} {v : Int32} : wp d 84 Q 37 (a0 :: a1 :: a2 :: some (.int v) :: L) st w cn sn = wp d 84 Q 38 (a0 :: a1 :: a2 :: some (.int v) :: L) (.int v :: st) w cn sn := w_iload_n d_84_37 rfl
theorem d_84_38 : decode (mB 84) 38 = .ok (.iastore, 1) := by decide +kernel
theorem s_84_38 {d : Nat} {Q : wQ} {L : List (Option Value)} {st : List Value} {w : aw} {cn sn : Nat} {a : Nat} {i x : Int32} : wp d 84 Q 38 L (.int x :: .int i :: .ref a :: st) w cn sn = (kd w a = 20 ∧ inR i (ln w a) ∧ wp d 84 Q 39 L st (uA w a i.toNatClampNeg x) cn sn) := wp_row d_84_38 _ _ _ _ _
theorem d_84_39 : decode (mB 84) 39 = .ok (.iconst 1, 1) := by decide +kernel
theorem s_84_39 {d : Nat} {Q : wQ} {L : List (Option Value)} {st : List Value} {w : aw} {cn sn : Nat}  : wp d 84 Q 39 L st w cn sn = wp d 84 Q 40 L (.int 1 :: st) w cn sn := w_iconst d_84_39 (by decide)
theorem d_84_40 : decode (mB 84) 40 = .ok (.ireturn, 1) := by decide +kernel
theorem s_84_40 {d : Nat} {Q : wQ} {L : List (Option Value)} {w : aw} {cn sn : Nat} {v : Int32} : wp d 84 Q 40 L [.int v] w cn sn = Q (some (.int v)) w := w_ireturn d_84_40 rfl
theorem d_85_0 : decode (mB 85) 0 = .ok (.aload_n 0, 1) := by decide +kernel
theorem s_85_0 {d : Nat} {Q : wQ} {L : List (Option Value)} {st : List Value} {w : aw} {cn sn : Nat} {v : Nat} : wp d 85 Q 0 (some (.ref v) :: L) st w cn sn = wp d 85 Q 1 (some (.ref v) :: L) (.ref v :: st) w cn sn := w_aload_n d_85_0 rfl
theorem d_85_1 : decode (mB 85) 1 = .ok (.getfield 28, 3) := by decide +kernel
theorem s_85_1 {d : Nat} {Q : wQ} {L : List (Option Value)} {st : List Value} {w : aw} {cn sn : Nat} {a : Nat} : wp d 85 Q 1 L (.ref a :: st) w cn sn = (kd w a = 8 ∧ wp d 85 Q 4 L (fd w 450 a :: st) w cn sn) := w_getfield d_85_1 (by decide +kernel : fT (mO 85) 28 = some (7, 2))
theorem d_85_4 : decode (mB 85) 4 = .ok (.iload_n 1, 1) := by decide +kernel
theorem s_85_4 {d : Nat} {Q : wQ} {L : List (Option Value)} {st : List Value} {w : aw} {cn sn : Nat} {a0 : Option Value} {v : Int32} : wp d 85 Q 4 (a0 :: some (.int v) :: L) st w cn sn = wp d 85 Q 5 (a0 :: some (.int v) :: L) (.int v :: st) w cn sn := w_iload_n d_85_4 rfl
theorem d_85_5 : decode (mB 85) 5 = .ok (.invokevirtual 59, 3) := by decide +kernel
theorem s_85_5 {d : Nat} {Q : wQ} {L : List (Option Value)} {st : List Value} {w : aw} {cn sn : Nat} {v0 : Value} {b : Nat} : wp d 85 Q 5 L (v0 :: .ref b :: st) w cn sn = (kd w b = 2 ∧ catS st ≤ 8 ∧ wpD d 16 [.ref b, v0] w (fun v w' => wp d 85 Q 8 L (v.toList ++ st) w' cn sn)) := w_virtual (As := [v0]) d_85_5 (by decide +kernel : cT (mO 85) 59 = some (0, 16)) rfl (by decide +kernel) rfl (by decide +kernel) rfl
theorem d_85_8 : decode (mB 85) 8 = .ok (.astore_n 3, 1) := by decide +kernel
theorem s_85_8 {d : Nat} {Q : wQ} {L : List (Option Value)} {st : List Value} {w : aw} {cn sn : Nat} {a0 a1 a2 a3 : Option Value} {v : Nat} : wp d 85 Q 8 (a0 :: a1 :: a2 :: a3 :: L) (.ref v :: st) w cn sn = wp d 85 Q 9 (a0 :: a1 :: clr a2 :: some (.ref v) :: L) st w cn sn := w_astore_n d_85_8 (Nat.le_add_left 4 _) rfl
theorem s_85_8n {d : Nat} {Q : wQ} {L : List (Option Value)} {st : List Value} {w : aw} {cn sn : Nat} {a0 a1 a2 a3 : Option Value} : wp d 85 Q 8 (a0 :: a1 :: a2 :: a3 :: L) (.null :: st) w cn sn = wp d 85 Q 9 (a0 :: a1 :: clr a2 :: some .null :: L) st w cn sn := w_astore_nN d_85_8 (Nat.le_add_left 4 _) rfl
theorem d_85_9 : decode (mB 85) 9 = .ok (.aload_n 3, 1) := by decide +kernel
theorem s_85_9 {d : Nat} {Q : wQ} {L : List (Option Value)} {st : List Value} {w : aw} {cn sn : Nat} {a0 a1 a2 : Option Value} {v : Nat} : wp d 85 Q 9 (a0 :: a1 :: a2 :: some (.ref v) :: L) st w cn sn = wp d 85 Q 10 (a0 :: a1 :: a2 :: some (.ref v) :: L) (.ref v :: st) w cn sn := w_aload_n d_85_9 rfl
theorem s_85_9n {d : Nat} {Q : wQ} {L : List (Option Value)} {st : List Value} {w : aw} {cn sn : Nat} {a0 a1 a2 : Option Value} : wp d 85 Q 9 (a0 :: a1 :: a2 :: some .null :: L) st w cn sn = wp d 85 Q 10 (a0 :: a1 :: a2 :: some .null :: L) (.null :: st) w cn sn := w_aload_nN d_85_9 rfl
theorem d_85_10 : decode (mB 85) 10 = .ok (.ifnull 10, 3) := by decide +kernel
theorem s_85_10 {d : Nat} {Q : wQ} {L : List (Option Value)} {st : List Value} {w : aw} {cn sn : Nat} {q : Nat} : wp d 85 Q 10 L (.ref q :: st) w cn sn = wp d 85 Q 13 L st w cn sn := w_ifnull d_85_10 (t := 20) (by decide)
theorem s_85_10n {d : Nat} {Q : wQ} {L : List (Option Value)} {st : List Value} {w : aw} {cn sn : Nat}  : wp d 85 Q 10 L (.null :: st) w cn sn = wp d 85 Q 20 L st w cn sn := w_ifnullN d_85_10 (t := 20) (by decide)
theorem d_85_13 : decode (mB 85) 13 = .ok (.iload_n 2, 1) := by decide +kernel
theorem s_85_13 {d : Nat} {Q : wQ} {L : List (Option Value)} {st : List Value} {w : aw} {cn sn : Nat} {a0 a1 : Option Value} {v : Int32} : wp d 85 Q 13 (a0 :: a1 :: some (.int v) :: L) st w cn sn = wp d 85 Q 14 (a0 :: a1 :: some (.int v) :: L) (.int v :: st) w cn sn := w_iload_n d_85_13 rfl
theorem d_85_14 : decode (mB 85) 14 = .ok (.invokestatic 85, 3) := by decide +kernel
theorem s_85_14 {d : Nat} {Q : wQ} {L : List (Option Value)} {st : List Value} {w : aw} {cn sn : Nat} {v0 : Value} : wp d 85 Q 14 L (v0 :: st) w cn sn = (catS st ≤ 8 ∧ wpD d 101 [v0] w (fun v w' => wp d 85 Q 17 L (v.toList ++ st) w' cn sn)) := w_static (As := [v0]) d_85_14 (by decide +kernel : cT (mO 85) 85 = some (2, 101)) (by decide +kernel) rfl (by decide +kernel) rfl
theorem d_85_17 : decode (mB 85) 17 = .ok (.ifCond .ne 7, 3) := by decide +kernel
theorem s_85_17 {d : Nat} {Q : wQ} {L : List (Option Value)} {st : List Value} {w : aw} {cn sn : Nat} {x : Int32} : wp d 85 Q 17 L (.int x :: st) w cn sn = ((¬ x = 0 → wp d 85 Q 24 L st w cn sn) ∧ (x = 0 → wp d 85 Q 20 L st w cn sn)) := w_ifne d_85_17 (by decide)
theorem d_85_20 : decode (mB 85) 20 = .ok (.iconst (-1), 1) := by decide +kernel
theorem s_85_20 {d : Nat} {Q : wQ} {L : List (Option Value)} {st : List Value} {w : aw} {cn sn : Nat}  : wp d 85 Q 20 L st w cn sn = wp d 85 Q 21 L (.int (-1) :: st) w cn sn := w_iconst d_85_20 (by decide)
theorem d_85_21 : decode (mB 85) 21 = .ok (.goto 9, 3) := by decide +kernel
theorem s_85_21 {d : Nat} {Q : wQ} {L : List (Option Value)} {st : List Value} {w : aw} {cn sn : Nat}  : wp d 85 Q 21 L st w cn sn = wp d 85 Q 30 L st w cn sn := w_goto d_85_21 (by decide)
theorem d_85_24 : decode (mB 85) 24 = .ok (.aload_n 3, 1) := by decide +kernel
theorem s_85_24 {d : Nat} {Q : wQ} {L : List (Option Value)} {st : List Value} {w : aw} {cn sn : Nat} {a0 a1 a2 : Option Value} {v : Nat} : wp d 85 Q 24 (a0 :: a1 :: a2 :: some (.ref v) :: L) st w cn sn = wp d 85 Q 25 (a0 :: a1 :: a2 :: some (.ref v) :: L) (.ref v :: st) w cn sn := w_aload_n d_85_24 rfl
theorem s_85_24n {d : Nat} {Q : wQ} {L : List (Option Value)} {st : List Value} {w : aw} {cn sn : Nat} {a0 a1 a2 : Option Value} : wp d 85 Q 24 (a0 :: a1 :: a2 :: some .null :: L) st w cn sn = wp d 85 Q 25 (a0 :: a1 :: a2 :: some .null :: L) (.null :: st) w cn sn := w_aload_nN d_85_24 rfl
theorem d_85_25 : decode (mB 85) 25 = .ok (.getfield 69, 3) := by decide +kernel
theorem s_85_25 {d : Nat} {Q : wQ} {L : List (Option Value)} {st : List Value} {w : aw} {cn sn : Nat} {a : Nat} : wp d 85 Q 25 L (.ref a :: st) w cn sn = (kd w a = 7 ∧ wp d 85 Q 28 L (fd w 385 a :: st) w cn sn) := w_getfield d_85_25 (by decide +kernel : fT (mO 85) 69 = some (6, 1))
theorem d_85_28 : decode (mB 85) 28 = .ok (.iload_n 2, 1) := by decide +kernel
theorem s_85_28 {d : Nat} {Q : wQ} {L : List (Option Value)} {st : List Value} {w : aw} {cn sn : Nat} {a0 a1 : Option Value} {v : Int32} : wp d 85 Q 28 (a0 :: a1 :: some (.int v) :: L) st w cn sn = wp d 85 Q 29 (a0 :: a1 :: some (.int v) :: L) (.int v :: st) w cn sn := w_iload_n d_85_28 rfl
theorem d_85_29 : decode (mB 85) 29 = .ok (.iaload, 1) := by decide +kernel
theorem s_85_29 {d : Nat} {Q : wQ} {L : List (Option Value)} {st : List Value} {w : aw} {cn sn : Nat} {a : Nat} {i : Int32} : wp d 85 Q 29 L (.int i :: .ref a :: st) w cn sn = ((kd w a = 20 ∨ kd w a = 30) ∧ inR i (ln w a) ∧ wp d 85 Q 30 L (.int (ai w a i.toNatClampNeg) :: st) w cn sn) := wp_row d_85_29 _ _ _ _ _
theorem d_85_30 : decode (mB 85) 30 = .ok (.ireturn, 1) := by decide +kernel
theorem s_85_30 {d : Nat} {Q : wQ} {L : List (Option Value)} {w : aw} {cn sn : Nat} {v : Int32} : wp d 85 Q 30 L [.int v] w cn sn = Q (some (.int v)) w := w_ireturn d_85_30 rfl
theorem d_86_0 : decode (mB 86) 0 = .ok (.aload_n 0, 1) := by decide +kernel
theorem s_86_0 {d : Nat} {Q : wQ} {L : List (Option Value)} {st : List Value} {w : aw} {cn sn : Nat} {v : Nat} : wp d 86 Q 0 (some (.ref v) :: L) st w cn sn = wp d 86 Q 1 (some (.ref v) :: L) (.ref v :: st) w cn sn := w_aload_n d_86_0 rfl
theorem d_86_1 : decode (mB 86) 1 = .ok (.getfield 28, 3) := by decide +kernel
theorem s_86_1 {d : Nat} {Q : wQ} {L : List (Option Value)} {st : List Value} {w : aw} {cn sn : Nat} {a : Nat} : wp d 86 Q 1 L (.ref a :: st) w cn sn = (kd w a = 8 ∧ wp d 86 Q 4 L (fd w 450 a :: st) w cn sn) := w_getfield d_86_1 (by decide +kernel : fT (mO 86) 28 = some (7, 2))
theorem d_86_4 : decode (mB 86) 4 = .ok (.iload_n 1, 1) := by decide +kernel
theorem s_86_4 {d : Nat} {Q : wQ} {L : List (Option Value)} {st : List Value} {w : aw} {cn sn : Nat} {a0 : Option Value} {v : Int32} : wp d 86 Q 4 (a0 :: some (.int v) :: L) st w cn sn = wp d 86 Q 5 (a0 :: some (.int v) :: L) (.int v :: st) w cn sn := w_iload_n d_86_4 rfl
theorem d_86_5 : decode (mB 86) 5 = .ok (.invokevirtual 59, 3) := by decide +kernel
theorem s_86_5 {d : Nat} {Q : wQ} {L : List (Option Value)} {st : List Value} {w : aw} {cn sn : Nat} {v0 : Value} {b : Nat} : wp d 86 Q 5 L (v0 :: .ref b :: st) w cn sn = (kd w b = 2 ∧ catS st ≤ 8 ∧ wpD d 16 [.ref b, v0] w (fun v w' => wp d 86 Q 8 L (v.toList ++ st) w' cn sn)) := w_virtual (As := [v0]) d_86_5 (by decide +kernel : cT (mO 86) 59 = some (0, 16)) rfl (by decide +kernel) rfl (by decide +kernel) rfl
theorem d_86_8 : decode (mB 86) 8 = .ok (.astore 5, 2) := by decide +kernel
theorem s_86_8 {d : Nat} {Q : wQ} {L : List (Option Value)} {st : List Value} {w : aw} {cn sn : Nat} {a0 a1 a2 a3 a4 a5 : Option Value} {v : Nat} : wp d 86 Q 8 (a0 :: a1 :: a2 :: a3 :: a4 :: a5 :: L) (.ref v :: st) w cn sn = wp d 86 Q 10 (a0 :: a1 :: a2 :: a3 :: clr a4 :: some (.ref v) :: L) st w cn sn := w_astore d_86_8 (Nat.le_add_left 6 _) rfl
theorem s_86_8n {d : Nat} {Q : wQ} {L : List (Option Value)} {st : List Value} {w : aw} {cn sn : Nat} {a0 a1 a2 a3 a4 a5 : Option Value} : wp d 86 Q 8 (a0 :: a1 :: a2 :: a3 :: a4 :: a5 :: L) (.null :: st) w cn sn = wp d 86 Q 10 (a0 :: a1 :: a2 :: a3 :: clr a4 :: some .null :: L) st w cn sn := w_astoreN d_86_8 (Nat.le_add_left 6 _) rfl
theorem d_86_10 : decode (mB 86) 10 = .ok (.aload 5, 2) := by decide +kernel
theorem s_86_10 {d : Nat} {Q : wQ} {L : List (Option Value)} {st : List Value} {w : aw} {cn sn : Nat} {a0 a1 a2 a3 a4 : Option Value} {v : Nat} : wp d 86 Q 10 (a0 :: a1 :: a2 :: a3 :: a4 :: some (.ref v) :: L) st w cn sn = wp d 86 Q 12 (a0 :: a1 :: a2 :: a3 :: a4 :: some (.ref v) :: L) (.ref v :: st) w cn sn := w_aload d_86_10 rfl
theorem s_86_10n {d : Nat} {Q : wQ} {L : List (Option Value)} {st : List Value} {w : aw} {cn sn : Nat} {a0 a1 a2 a3 a4 : Option Value} : wp d 86 Q 10 (a0 :: a1 :: a2 :: a3 :: a4 :: some .null :: L) st w cn sn = wp d 86 Q 12 (a0 :: a1 :: a2 :: a3 :: a4 :: some .null :: L) (.null :: st) w cn sn := w_aloadN d_86_10 rfl
theorem d_86_12 : decode (mB 86) 12 = .ok (.ifnull 19, 3) := by decide +kernel
theorem s_86_12 {d : Nat} {Q : wQ} {L : List (Option Value)} {st : List Value} {w : aw} {cn sn : Nat} {q : Nat} : wp d 86 Q 12 L (.ref q :: st) w cn sn = wp d 86 Q 15 L st w cn sn := w_ifnull d_86_12 (t := 31) (by decide)
theorem s_86_12n {d : Nat} {Q : wQ} {L : List (Option Value)} {st : List Value} {w : aw} {cn sn : Nat}  : wp d 86 Q 12 L (.null :: st) w cn sn = wp d 86 Q 31 L st w cn sn := w_ifnullN d_86_12 (t := 31) (by decide)
theorem d_86_15 : decode (mB 86) 15 = .ok (.iload_n 2, 1) := by decide +kernel
theorem s_86_15 {d : Nat} {Q : wQ} {L : List (Option Value)} {st : List Value} {w : aw} {cn sn : Nat} {a0 a1 : Option Value} {v : Int32} : wp d 86 Q 15 (a0 :: a1 :: some (.int v) :: L) st w cn sn = wp d 86 Q 16 (a0 :: a1 :: some (.int v) :: L) (.int v :: st) w cn sn := w_iload_n d_86_15 rfl
theorem d_86_16 : decode (mB 86) 16 = .ok (.iload_n 3, 1) := by decide +kernel
theorem s_86_16 {d : Nat} {Q : wQ} {L : List (Option Value)} {st : List Value} {w : aw} {cn sn : Nat} {a0 a1 a2 : Option Value} {v : Int32} : wp d 86 Q 16 (a0 :: a1 :: a2 :: some (.int v) :: L) st w cn sn = wp d 86 Q 17 (a0 :: a1 :: a2 :: some (.int v) :: L) (.int v :: st) w cn sn := w_iload_n d_86_16 rfl
theorem d_86_17 : decode (mB 86) 17 = .ok (.invokestatic 88, 3) := by decide +kernel
theorem s_86_17 {d : Nat} {Q : wQ} {L : List (Option Value)} {st : List Value} {w : aw} {cn sn : Nat} {v0 v1 : Value} : wp d 86 Q 17 L (v1 :: v0 :: st) w cn sn = (catS st ≤ 8 ∧ wpD d 102 [v0, v1] w (fun v w' => wp d 86 Q 20 L (v.toList ++ st) w' cn sn)) := w_static (As := [v0, v1]) d_86_17 (by decide +kernel : cT (mO 86) 88 = some (2, 102)) (by decide +kernel) rfl (by decide +kernel) rfl
theorem d_86_20 : decode (mB 86) 20 = .ok (.ifCond .eq 11, 3) := by decide +kernel
theorem s_86_20 {d : Nat} {Q : wQ} {L : List (Option Value)} {st : List Value} {w : aw} {cn sn : Nat} {x : Int32} : wp d 86 Q 20 L (.int x :: st) w cn sn = ((x = 0 → wp d 86 Q 31 L st w cn sn) ∧ (¬ x = 0 → wp d 86 Q 23 L st w cn sn)) := w_ifeq d_86_20 (by decide)
theorem d_86_23 : decode (mB 86) 23 = .ok (.iload 4, 2) := by decide +kernel
theorem s_86_23 {d : Nat} {Q : wQ} {L : List (Option Value)} {st : List Value} {w : aw} {cn sn : Nat} {a0 a1 a2 a3 : Option Value} {v : Int32} : wp d 86 Q 23 (a0 :: a1 :: a2 :: a3 :: some (.int v) :: L) st w cn sn = wp d 86 Q 25 (a0 :: a1 :: a2 :: a3 :: some (.int v) :: L) (.int v :: st) w cn sn := w_iload d_86_23 rfl
theorem d_86_25 : decode (mB 86) 25 = .ok (.invokestatic 85, 3) := by decide +kernel
theorem s_86_25 {d : Nat} {Q : wQ} {L : List (Option Value)} {st : List Value} {w : aw} {cn sn : Nat} {v0 : Value} : wp d 86 Q 25 L (v0 :: st) w cn sn = (catS st ≤ 8 ∧ wpD d 101 [v0] w (fun v w' => wp d 86 Q 28 L (v.toList ++ st) w' cn sn)) := w_static (As := [v0]) d_86_25 (by decide +kernel : cT (mO 86) 85 = some (2, 101)) (by decide +kernel) rfl (by decide +kernel) rfl
theorem d_86_28 : decode (mB 86) 28 = .ok (.ifCond .ne 5, 3) := by decide +kernel
theorem s_86_28 {d : Nat} {Q : wQ} {L : List (Option Value)} {st : List Value} {w : aw} {cn sn : Nat} {x : Int32} : wp d 86 Q 28 L (.int x :: st) w cn sn = ((¬ x = 0 → wp d 86 Q 33 L st w cn sn) ∧ (x = 0 → wp d 86 Q 31 L st w cn sn)) := w_ifne d_86_28 (by decide)
theorem d_86_31 : decode (mB 86) 31 = .ok (.iconst (-1), 1) := by decide +kernel
theorem s_86_31 {d : Nat} {Q : wQ} {L : List (Option Value)} {st : List Value} {w : aw} {cn sn : Nat}  : wp d 86 Q 31 L st w cn sn = wp d 86 Q 32 L (.int (-1) :: st) w cn sn := w_iconst d_86_31 (by decide)
theorem d_86_32 : decode (mB 86) 32 = .ok (.ireturn, 1) := by decide +kernel
theorem s_86_32 {d : Nat} {Q : wQ} {L : List (Option Value)} {w : aw} {cn sn : Nat} {v : Int32} : wp d 86 Q 32 L [.int v] w cn sn = Q (some (.int v)) w := w_ireturn d_86_32 rfl
theorem d_86_33 : decode (mB 86) 33 = .ok (.aload 5, 2) := by decide +kernel
theorem s_86_33 {d : Nat} {Q : wQ} {L : List (Option Value)} {st : List Value} {w : aw} {cn sn : Nat} {a0 a1 a2 a3 a4 : Option Value} {v : Nat} : wp d 86 Q 33 (a0 :: a1 :: a2 :: a3 :: a4 :: some (.ref v) :: L) st w cn sn = wp d 86 Q 35 (a0 :: a1 :: a2 :: a3 :: a4 :: some (.ref v) :: L) (.ref v :: st) w cn sn := w_aload d_86_33 rfl
theorem s_86_33n {d : Nat} {Q : wQ} {L : List (Option Value)} {st : List Value} {w : aw} {cn sn : Nat} {a0 a1 a2 a3 a4 : Option Value} : wp d 86 Q 33 (a0 :: a1 :: a2 :: a3 :: a4 :: some .null :: L) st w cn sn = wp d 86 Q 35 (a0 :: a1 :: a2 :: a3 :: a4 :: some .null :: L) (.null :: st) w cn sn := w_aloadN d_86_33 rfl
theorem d_86_35 : decode (mB 86) 35 = .ok (.getfield 92, 3) := by decide +kernel
theorem s_86_35 {d : Nat} {Q : wQ} {L : List (Option Value)} {st : List Value} {w : aw} {cn sn : Nat} {a : Nat} : wp d 86 Q 35 L (.ref a :: st) w cn sn = (kd w a = 7 ∧ wp d 86 Q 38 L (fd w 386 a :: st) w cn sn) := w_getfield d_86_35 (by decide +kernel : fT (mO 86) 92 = some (6, 2))
theorem d_86_38 : decode (mB 86) 38 = .ok (.iload_n 2, 1) := by decide +kernel
theorem s_86_38 {d : Nat} {Q : wQ} {L : List (Option Value)} {st : List Value} {w : aw} {cn sn : Nat} {a0 a1 : Option Value} {v : Int32} : wp d 86 Q 38 (a0 :: a1 :: some (.int v) :: L) st w cn sn = wp d 86 Q 39 (a0 :: a1 :: some (.int v) :: L) (.int v :: st) w cn sn := w_iload_n d_86_38 rfl
theorem d_86_39 : decode (mB 86) 39 = .ok (.sipush 128, 3) := by decide +kernel
theorem s_86_39 {d : Nat} {Q : wQ} {L : List (Option Value)} {st : List Value} {w : aw} {cn sn : Nat}  : wp d 86 Q 39 L st w cn sn = wp d 86 Q 42 L (.int 128 :: st) w cn sn := w_sipush d_86_39 (by decide)
theorem d_86_42 : decode (mB 86) 42 = .ok (.imul, 1) := by decide +kernel
theorem s_86_42 {d : Nat} {Q : wQ} {L : List (Option Value)} {st : List Value} {w : aw} {cn sn : Nat} {a b : Int32} : wp d 86 Q 42 L (.int b :: .int a :: st) w cn sn = wp d 86 Q 43 L (.int (a * b) :: st) w cn sn := wp_row d_86_42 _ _ _ _ _
theorem d_86_43 : decode (mB 86) 43 = .ok (.iload_n 3, 1) := by decide +kernel
theorem s_86_43 {d : Nat} {Q : wQ} {L : List (Option Value)} {st : List Value} {w : aw} {cn sn : Nat} {a0 a1 a2 : Option Value} {v : Int32} : wp d 86 Q 43 (a0 :: a1 :: a2 :: some (.int v) :: L) st w cn sn = wp d 86 Q 44 (a0 :: a1 :: a2 :: some (.int v) :: L) (.int v :: st) w cn sn := w_iload_n d_86_43 rfl
theorem d_86_44 : decode (mB 86) 44 = .ok (.iadd, 1) := by decide +kernel
theorem s_86_44 {d : Nat} {Q : wQ} {L : List (Option Value)} {st : List Value} {w : aw} {cn sn : Nat} {a b : Int32} : wp d 86 Q 44 L (.int b :: .int a :: st) w cn sn = wp d 86 Q 45 L (.int (a + b) :: st) w cn sn := wp_row d_86_44 _ _ _ _ _
theorem d_86_45 : decode (mB 86) 45 = .ok (.iload 4, 2) := by decide +kernel
theorem s_86_45 {d : Nat} {Q : wQ} {L : List (Option Value)} {st : List Value} {w : aw} {cn sn : Nat} {a0 a1 a2 a3 : Option Value} {v : Int32} : wp d 86 Q 45 (a0 :: a1 :: a2 :: a3 :: some (.int v) :: L) st w cn sn = wp d 86 Q 47 (a0 :: a1 :: a2 :: a3 :: some (.int v) :: L) (.int v :: st) w cn sn := w_iload d_86_45 rfl
theorem d_86_47 : decode (mB 86) 47 = .ok (.iastore, 1) := by decide +kernel
theorem s_86_47 {d : Nat} {Q : wQ} {L : List (Option Value)} {st : List Value} {w : aw} {cn sn : Nat} {a : Nat} {i x : Int32} : wp d 86 Q 47 L (.int x :: .int i :: .ref a :: st) w cn sn = (kd w a = 20 ∧ inR i (ln w a) ∧ wp d 86 Q 48 L st (uA w a i.toNatClampNeg x) cn sn) := wp_row d_86_47 _ _ _ _ _
theorem d_86_48 : decode (mB 86) 48 = .ok (.iconst 1, 1) := by decide +kernel
theorem s_86_48 {d : Nat} {Q : wQ} {L : List (Option Value)} {st : List Value} {w : aw} {cn sn : Nat}  : wp d 86 Q 48 L st w cn sn = wp d 86 Q 49 L (.int 1 :: st) w cn sn := w_iconst d_86_48 (by decide)
theorem d_86_49 : decode (mB 86) 49 = .ok (.ireturn, 1) := by decide +kernel
theorem s_86_49 {d : Nat} {Q : wQ} {L : List (Option Value)} {w : aw} {cn sn : Nat} {v : Int32} : wp d 86 Q 49 L [.int v] w cn sn = Q (some (.int v)) w := w_ireturn d_86_49 rfl
theorem d_87_0 : decode (mB 87) 0 = .ok (.aload_n 0, 1) := by decide +kernel
theorem s_87_0 {d : Nat} {Q : wQ} {L : List (Option Value)} {st : List Value} {w : aw} {cn sn : Nat} {v : Nat} : wp d 87 Q 0 (some (.ref v) :: L) st w cn sn = wp d 87 Q 1 (some (.ref v) :: L) (.ref v :: st) w cn sn := w_aload_n d_87_0 rfl
theorem d_87_1 : decode (mB 87) 1 = .ok (.getfield 28, 3) := by decide +kernel
theorem s_87_1 {d : Nat} {Q : wQ} {L : List (Option Value)} {st : List Value} {w : aw} {cn sn : Nat} {a : Nat} : wp d 87 Q 1 L (.ref a :: st) w cn sn = (kd w a = 8 ∧ wp d 87 Q 4 L (fd w 450 a :: st) w cn sn) := w_getfield d_87_1 (by decide +kernel : fT (mO 87) 28 = some (7, 2))
theorem d_87_4 : decode (mB 87) 4 = .ok (.iload_n 1, 1) := by decide +kernel
theorem s_87_4 {d : Nat} {Q : wQ} {L : List (Option Value)} {st : List Value} {w : aw} {cn sn : Nat} {a0 : Option Value} {v : Int32} : wp d 87 Q 4 (a0 :: some (.int v) :: L) st w cn sn = wp d 87 Q 5 (a0 :: some (.int v) :: L) (.int v :: st) w cn sn := w_iload_n d_87_4 rfl
theorem d_87_5 : decode (mB 87) 5 = .ok (.invokevirtual 59, 3) := by decide +kernel
theorem s_87_5 {d : Nat} {Q : wQ} {L : List (Option Value)} {st : List Value} {w : aw} {cn sn : Nat} {v0 : Value} {b : Nat} : wp d 87 Q 5 L (v0 :: .ref b :: st) w cn sn = (kd w b = 2 ∧ catS st ≤ 8 ∧ wpD d 16 [.ref b, v0] w (fun v w' => wp d 87 Q 8 L (v.toList ++ st) w' cn sn)) := w_virtual (As := [v0]) d_87_5 (by decide +kernel : cT (mO 87) 59 = some (0, 16)) rfl (by decide +kernel) rfl (by decide +kernel) rfl
theorem d_87_8 : decode (mB 87) 8 = .ok (.astore 4, 2) := by decide +kernel
theorem s_87_8 {d : Nat} {Q : wQ} {L : List (Option Value)} {st : List Value} {w : aw} {cn sn : Nat} {a0 a1 a2 a3 a4 : Option Value} {v : Nat} : wp d 87 Q 8 (a0 :: a1 :: a2 :: a3 :: a4 :: L) (.ref v :: st) w cn sn = wp d 87 Q 10 (a0 :: a1 :: a2 :: clr a3 :: some (.ref v) :: L) st w cn sn := w_astore d_87_8 (Nat.le_add_left 5 _) rfl
theorem s_87_8n {d : Nat} {Q : wQ} {L : List (Option Value)} {st : List Value} {w : aw} {cn sn : Nat} {a0 a1 a2 a3 a4 : Option Value} : wp d 87 Q 8 (a0 :: a1 :: a2 :: a3 :: a4 :: L) (.null :: st) w cn sn = wp d 87 Q 10 (a0 :: a1 :: a2 :: clr a3 :: some .null :: L) st w cn sn := w_astoreN d_87_8 (Nat.le_add_left 5 _) rfl
theorem d_87_10 : decode (mB 87) 10 = .ok (.aload 4, 2) := by decide +kernel
theorem s_87_10 {d : Nat} {Q : wQ} {L : List (Option Value)} {st : List Value} {w : aw} {cn sn : Nat} {a0 a1 a2 a3 : Option Value} {v : Nat} : wp d 87 Q 10 (a0 :: a1 :: a2 :: a3 :: some (.ref v) :: L) st w cn sn = wp d 87 Q 12 (a0 :: a1 :: a2 :: a3 :: some (.ref v) :: L) (.ref v :: st) w cn sn := w_aload d_87_10 rfl
theorem s_87_10n {d : Nat} {Q : wQ} {L : List (Option Value)} {st : List Value} {w : aw} {cn sn : Nat} {a0 a1 a2 a3 : Option Value} : wp d 87 Q 10 (a0 :: a1 :: a2 :: a3 :: some .null :: L) st w cn sn = wp d 87 Q 12 (a0 :: a1 :: a2 :: a3 :: some .null :: L) (.null :: st) w cn sn := w_aloadN d_87_10 rfl
theorem d_87_12 : decode (mB 87) 12 = .ok (.ifnull 11, 3) := by decide +kernel
theorem s_87_12 {d : Nat} {Q : wQ} {L : List (Option Value)} {st : List Value} {w : aw} {cn sn : Nat} {q : Nat} : wp d 87 Q 12 L (.ref q :: st) w cn sn = wp d 87 Q 15 L st w cn sn := w_ifnull d_87_12 (t := 23) (by decide)
theorem s_87_12n {d : Nat} {Q : wQ} {L : List (Option Value)} {st : List Value} {w : aw} {cn sn : Nat}  : wp d 87 Q 12 L (.null :: st) w cn sn = wp d 87 Q 23 L st w cn sn := w_ifnullN d_87_12 (t := 23) (by decide)
theorem d_87_15 : decode (mB 87) 15 = .ok (.iload_n 2, 1) := by decide +kernel
theorem s_87_15 {d : Nat} {Q : wQ} {L : List (Option Value)} {st : List Value} {w : aw} {cn sn : Nat} {a0 a1 : Option Value} {v : Int32} : wp d 87 Q 15 (a0 :: a1 :: some (.int v) :: L) st w cn sn = wp d 87 Q 16 (a0 :: a1 :: some (.int v) :: L) (.int v :: st) w cn sn := w_iload_n d_87_15 rfl
theorem d_87_16 : decode (mB 87) 16 = .ok (.iload_n 3, 1) := by decide +kernel
theorem s_87_16 {d : Nat} {Q : wQ} {L : List (Option Value)} {st : List Value} {w : aw} {cn sn : Nat} {a0 a1 a2 : Option Value} {v : Int32} : wp d 87 Q 16 (a0 :: a1 :: a2 :: some (.int v) :: L) st w cn sn = wp d 87 Q 17 (a0 :: a1 :: a2 :: some (.int v) :: L) (.int v :: st) w cn sn := w_iload_n d_87_16 rfl
theorem d_87_17 : decode (mB 87) 17 = .ok (.invokestatic 88, 3) := by decide +kernel
theorem s_87_17 {d : Nat} {Q : wQ} {L : List (Option Value)} {st : List Value} {w : aw} {cn sn : Nat} {v0 v1 : Value} : wp d 87 Q 17 L (v1 :: v0 :: st) w cn sn = (catS st ≤ 8 ∧ wpD d 102 [v0, v1] w (fun v w' => wp d 87 Q 20 L (v.toList ++ st) w' cn sn)) := w_static (As := [v0, v1]) d_87_17 (by decide +kernel : cT (mO 87) 88 = some (2, 102)) (by decide +kernel) rfl (by decide +kernel) rfl
theorem d_87_20 : decode (mB 87) 20 = .ok (.ifCond .ne 7, 3) := by decide +kernel
theorem s_87_20 {d : Nat} {Q : wQ} {L : List (Option Value)} {st : List Value} {w : aw} {cn sn : Nat} {x : Int32} : wp d 87 Q 20 L (.int x :: st) w cn sn = ((¬ x = 0 → wp d 87 Q 27 L st w cn sn) ∧ (x = 0 → wp d 87 Q 23 L st w cn sn)) := w_ifne d_87_20 (by decide)
theorem d_87_23 : decode (mB 87) 23 = .ok (.iconst (-1), 1) := by decide +kernel
theorem s_87_23 {d : Nat} {Q : wQ} {L : List (Option Value)} {st : List Value} {w : aw} {cn sn : Nat}  : wp d 87 Q 23 L st w cn sn = wp d 87 Q 24 L (.int (-1) :: st) w cn sn := w_iconst d_87_23 (by decide)
theorem d_87_24 : decode (mB 87) 24 = .ok (.goto 16, 3) := by decide +kernel
theorem s_87_24 {d : Nat} {Q : wQ} {L : List (Option Value)} {st : List Value} {w : aw} {cn sn : Nat}  : wp d 87 Q 24 L st w cn sn = wp d 87 Q 40 L st w cn sn := w_goto d_87_24 (by decide)
theorem d_87_27 : decode (mB 87) 27 = .ok (.aload 4, 2) := by decide +kernel
theorem s_87_27 {d : Nat} {Q : wQ} {L : List (Option Value)} {st : List Value} {w : aw} {cn sn : Nat} {a0 a1 a2 a3 : Option Value} {v : Nat} : wp d 87 Q 27 (a0 :: a1 :: a2 :: a3 :: some (.ref v) :: L) st w cn sn = wp d 87 Q 29 (a0 :: a1 :: a2 :: a3 :: some (.ref v) :: L) (.ref v :: st) w cn sn := w_aload d_87_27 rfl
theorem s_87_27n {d : Nat} {Q : wQ} {L : List (Option Value)} {st : List Value} {w : aw} {cn sn : Nat} {a0 a1 a2 a3 : Option Value} : wp d 87 Q 27 (a0 :: a1 :: a2 :: a3 :: some .null :: L) st w cn sn = wp d 87 Q 29 (a0 :: a1 :: a2 :: a3 :: some .null :: L) (.null :: st) w cn sn := w_aloadN d_87_27 rfl
theorem d_87_29 : decode (mB 87) 29 = .ok (.getfield 92, 3) := by decide +kernel
theorem s_87_29 {d : Nat} {Q : wQ} {L : List (Option Value)} {st : List Value} {w : aw} {cn sn : Nat} {a : Nat} : wp d 87 Q 29 L (.ref a :: st) w cn sn = (kd w a = 7 ∧ wp d 87 Q 32 L (fd w 386 a :: st) w cn sn) := w_getfield d_87_29 (by decide +kernel : fT (mO 87) 92 = some (6, 2))
theorem d_87_32 : decode (mB 87) 32 = .ok (.iload_n 2, 1) := by decide +kernel
theorem s_87_32 {d : Nat} {Q : wQ} {L : List (Option Value)} {st : List Value} {w : aw} {cn sn : Nat} {a0 a1 : Option Value} {v : Int32} : wp d 87 Q 32 (a0 :: a1 :: some (.int v) :: L) st w cn sn = wp d 87 Q 33 (a0 :: a1 :: some (.int v) :: L) (.int v :: st) w cn sn := w_iload_n d_87_32 rfl
theorem d_87_33 : decode (mB 87) 33 = .ok (.sipush 128, 3) := by decide +kernel
theorem s_87_33 {d : Nat} {Q : wQ} {L : List (Option Value)} {st : List Value} {w : aw} {cn sn : Nat}  : wp d 87 Q 33 L st w cn sn = wp d 87 Q 36 L (.int 128 :: st) w cn sn := w_sipush d_87_33 (by decide)
theorem d_87_36 : decode (mB 87) 36 = .ok (.imul, 1) := by decide +kernel
theorem s_87_36 {d : Nat} {Q : wQ} {L : List (Option Value)} {st : List Value} {w : aw} {cn sn : Nat} {a b : Int32} : wp d 87 Q 36 L (.int b :: .int a :: st) w cn sn = wp d 87 Q 37 L (.int (a * b) :: st) w cn sn := wp_row d_87_36 _ _ _ _ _
theorem d_87_37 : decode (mB 87) 37 = .ok (.iload_n 3, 1) := by decide +kernel
theorem s_87_37 {d : Nat} {Q : wQ} {L : List (Option Value)} {st : List Value} {w : aw} {cn sn : Nat} {a0 a1 a2 : Option Value} {v : Int32} : wp d 87 Q 37 (a0 :: a1 :: a2 :: some (.int v) :: L) st w cn sn = wp d 87 Q 38 (a0 :: a1 :: a2 :: some (.int v) :: L) (.int v :: st) w cn sn := w_iload_n d_87_37 rfl
theorem d_87_38 : decode (mB 87) 38 = .ok (.iadd, 1) := by decide +kernel
theorem s_87_38 {d : Nat} {Q : wQ} {L : List (Option Value)} {st : List Value} {w : aw} {cn sn : Nat} {a b : Int32} : wp d 87 Q 38 L (.int b :: .int a :: st) w cn sn = wp d 87 Q 39 L (.int (a + b) :: st) w cn sn := wp_row d_87_38 _ _ _ _ _
theorem d_87_39 : decode (mB 87) 39 = .ok (.iaload, 1) := by decide +kernel
theorem s_87_39 {d : Nat} {Q : wQ} {L : List (Option Value)} {st : List Value} {w : aw} {cn sn : Nat} {a : Nat} {i : Int32} : wp d 87 Q 39 L (.int i :: .ref a :: st) w cn sn = ((kd w a = 20 ∨ kd w a = 30) ∧ inR i (ln w a) ∧ wp d 87 Q 40 L (.int (ai w a i.toNatClampNeg) :: st) w cn sn) := wp_row d_87_39 _ _ _ _ _
theorem d_87_40 : decode (mB 87) 40 = .ok (.ireturn, 1) := by decide +kernel
theorem s_87_40 {d : Nat} {Q : wQ} {L : List (Option Value)} {w : aw} {cn sn : Nat} {v : Int32} : wp d 87 Q 40 L [.int v] w cn sn = Q (some (.int v)) w := w_ireturn d_87_40 rfl
theorem d_88_0 : decode (mB 88) 0 = .ok (.aload_n 0, 1) := by decide +kernel
theorem s_88_0 {d : Nat} {Q : wQ} {L : List (Option Value)} {st : List Value} {w : aw} {cn sn : Nat} {v : Nat} : wp d 88 Q 0 (some (.ref v) :: L) st w cn sn = wp d 88 Q 1 (some (.ref v) :: L) (.ref v :: st) w cn sn := w_aload_n d_88_0 rfl
theorem d_88_1 : decode (mB 88) 1 = .ok (.getfield 28, 3) := by decide +kernel
theorem s_88_1 {d : Nat} {Q : wQ} {L : List (Option Value)} {st : List Value} {w : aw} {cn sn : Nat} {a : Nat} : wp d 88 Q 1 L (.ref a :: st) w cn sn = (kd w a = 8 ∧ wp d 88 Q 4 L (fd w 450 a :: st) w cn sn) := w_getfield d_88_1 (by decide +kernel : fT (mO 88) 28 = some (7, 2))
theorem d_88_4 : decode (mB 88) 4 = .ok (.iload_n 1, 1) := by decide +kernel
theorem s_88_4 {d : Nat} {Q : wQ} {L : List (Option Value)} {st : List Value} {w : aw} {cn sn : Nat} {a0 : Option Value} {v : Int32} : wp d 88 Q 4 (a0 :: some (.int v) :: L) st w cn sn = wp d 88 Q 5 (a0 :: some (.int v) :: L) (.int v :: st) w cn sn := w_iload_n d_88_4 rfl
theorem d_88_5 : decode (mB 88) 5 = .ok (.invokevirtual 59, 3) := by decide +kernel
theorem s_88_5 {d : Nat} {Q : wQ} {L : List (Option Value)} {st : List Value} {w : aw} {cn sn : Nat} {v0 : Value} {b : Nat} : wp d 88 Q 5 L (v0 :: .ref b :: st) w cn sn = (kd w b = 2 ∧ catS st ≤ 8 ∧ wpD d 16 [.ref b, v0] w (fun v w' => wp d 88 Q 8 L (v.toList ++ st) w' cn sn)) := w_virtual (As := [v0]) d_88_5 (by decide +kernel : cT (mO 88) 59 = some (0, 16)) rfl (by decide +kernel) rfl (by decide +kernel) rfl
theorem d_88_8 : decode (mB 88) 8 = .ok (.astore_n 3, 1) := by decide +kernel
theorem s_88_8 {d : Nat} {Q : wQ} {L : List (Option Value)} {st : List Value} {w : aw} {cn sn : Nat} {a0 a1 a2 a3 : Option Value} {v : Nat} : wp d 88 Q 8 (a0 :: a1 :: a2 :: a3 :: L) (.ref v :: st) w cn sn = wp d 88 Q 9 (a0 :: a1 :: clr a2 :: some (.ref v) :: L) st w cn sn := w_astore_n d_88_8 (Nat.le_add_left 4 _) rfl
theorem s_88_8n {d : Nat} {Q : wQ} {L : List (Option Value)} {st : List Value} {w : aw} {cn sn : Nat} {a0 a1 a2 a3 : Option Value} : wp d 88 Q 8 (a0 :: a1 :: a2 :: a3 :: L) (.null :: st) w cn sn = wp d 88 Q 9 (a0 :: a1 :: clr a2 :: some .null :: L) st w cn sn := w_astore_nN d_88_8 (Nat.le_add_left 4 _) rfl
theorem d_88_9 : decode (mB 88) 9 = .ok (.aload_n 3, 1) := by decide +kernel
theorem s_88_9 {d : Nat} {Q : wQ} {L : List (Option Value)} {st : List Value} {w : aw} {cn sn : Nat} {a0 a1 a2 : Option Value} {v : Nat} : wp d 88 Q 9 (a0 :: a1 :: a2 :: some (.ref v) :: L) st w cn sn = wp d 88 Q 10 (a0 :: a1 :: a2 :: some (.ref v) :: L) (.ref v :: st) w cn sn := w_aload_n d_88_9 rfl
theorem s_88_9n {d : Nat} {Q : wQ} {L : List (Option Value)} {st : List Value} {w : aw} {cn sn : Nat} {a0 a1 a2 : Option Value} : wp d 88 Q 9 (a0 :: a1 :: a2 :: some .null :: L) st w cn sn = wp d 88 Q 10 (a0 :: a1 :: a2 :: some .null :: L) (.null :: st) w cn sn := w_aload_nN d_88_9 rfl
theorem d_88_10 : decode (mB 88) 10 = .ok (.ifnull 10, 3) := by decide +kernel
theorem s_88_10 {d : Nat} {Q : wQ} {L : List (Option Value)} {st : List Value} {w : aw} {cn sn : Nat} {q : Nat} : wp d 88 Q 10 L (.ref q :: st) w cn sn = wp d 88 Q 13 L st w cn sn := w_ifnull d_88_10 (t := 20) (by decide)
theorem s_88_10n {d : Nat} {Q : wQ} {L : List (Option Value)} {st : List Value} {w : aw} {cn sn : Nat}  : wp d 88 Q 10 L (.null :: st) w cn sn = wp d 88 Q 20 L st w cn sn := w_ifnullN d_88_10 (t := 20) (by decide)
theorem d_88_13 : decode (mB 88) 13 = .ok (.iload_n 2, 1) := by decide +kernel
theorem s_88_13 {d : Nat} {Q : wQ} {L : List (Option Value)} {st : List Value} {w : aw} {cn sn : Nat} {a0 a1 : Option Value} {v : Int32} : wp d 88 Q 13 (a0 :: a1 :: some (.int v) :: L) st w cn sn = wp d 88 Q 14 (a0 :: a1 :: some (.int v) :: L) (.int v :: st) w cn sn := w_iload_n d_88_13 rfl
theorem d_88_14 : decode (mB 88) 14 = .ok (.invokestatic 85, 3) := by decide +kernel
theorem s_88_14 {d : Nat} {Q : wQ} {L : List (Option Value)} {st : List Value} {w : aw} {cn sn : Nat} {v0 : Value} : wp d 88 Q 14 L (v0 :: st) w cn sn = (catS st ≤ 8 ∧ wpD d 101 [v0] w (fun v w' => wp d 88 Q 17 L (v.toList ++ st) w' cn sn)) := w_static (As := [v0]) d_88_14 (by decide +kernel : cT (mO 88) 85 = some (2, 101)) (by decide +kernel) rfl (by decide +kernel) rfl
theorem d_88_17 : decode (mB 88) 17 = .ok (.ifCond .ne 5, 3) := by decide +kernel
theorem s_88_17 {d : Nat} {Q : wQ} {L : List (Option Value)} {st : List Value} {w : aw} {cn sn : Nat} {x : Int32} : wp d 88 Q 17 L (.int x :: st) w cn sn = ((¬ x = 0 → wp d 88 Q 22 L st w cn sn) ∧ (x = 0 → wp d 88 Q 20 L st w cn sn)) := w_ifne d_88_17 (by decide)
theorem d_88_20 : decode (mB 88) 20 = .ok (.iconst (-1), 1) := by decide +kernel
theorem s_88_20 {d : Nat} {Q : wQ} {L : List (Option Value)} {st : List Value} {w : aw} {cn sn : Nat}  : wp d 88 Q 20 L st w cn sn = wp d 88 Q 21 L (.int (-1) :: st) w cn sn := w_iconst d_88_20 (by decide)
theorem d_88_21 : decode (mB 88) 21 = .ok (.ireturn, 1) := by decide +kernel
theorem s_88_21 {d : Nat} {Q : wQ} {L : List (Option Value)} {w : aw} {cn sn : Nat} {v : Int32} : wp d 88 Q 21 L [.int v] w cn sn = Q (some (.int v)) w := w_ireturn d_88_21 rfl
theorem d_88_22 : decode (mB 88) 22 = .ok (.aload_n 3, 1) := by decide +kernel
theorem s_88_22 {d : Nat} {Q : wQ} {L : List (Option Value)} {st : List Value} {w : aw} {cn sn : Nat} {a0 a1 a2 : Option Value} {v : Nat} : wp d 88 Q 22 (a0 :: a1 :: a2 :: some (.ref v) :: L) st w cn sn = wp d 88 Q 23 (a0 :: a1 :: a2 :: some (.ref v) :: L) (.ref v :: st) w cn sn := w_aload_n d_88_22 rfl
theorem s_88_22n {d : Nat} {Q : wQ} {L : List (Option Value)} {st : List Value} {w : aw} {cn sn : Nat} {a0 a1 a2 : Option Value} : wp d 88 Q 22 (a0 :: a1 :: a2 :: some .null :: L) st w cn sn = wp d 88 Q 23 (a0 :: a1 :: a2 :: some .null :: L) (.null :: st) w cn sn := w_aload_nN d_88_22 rfl
theorem d_88_23 : decode (mB 88) 23 = .ok (.iload_n 2, 1) := by decide +kernel
theorem s_88_23 {d : Nat} {Q : wQ} {L : List (Option Value)} {st : List Value} {w : aw} {cn sn : Nat} {a0 a1 : Option Value} {v : Int32} : wp d 88 Q 23 (a0 :: a1 :: some (.int v) :: L) st w cn sn = wp d 88 Q 24 (a0 :: a1 :: some (.int v) :: L) (.int v :: st) w cn sn := w_iload_n d_88_23 rfl
theorem d_88_24 : decode (mB 88) 24 = .ok (.putfield 95, 3) := by decide +kernel
theorem s_88_24 {d : Nat} {Q : wQ} {L : List (Option Value)} {st : List Value} {w : aw} {cn sn : Nat} {x : Int32} {a : Nat} : wp d 88 Q 24 L (.int x :: .ref a :: st) w cn sn = (kd w a = 7 ∧ wp d 88 Q 27 L st (uF w 393 a (.int x)) cn sn) := w_putfield d_88_24 (by decide +kernel : fT (mO 88) 95 = some (6, 9)) (by decide +kernel) ok_int
theorem d_88_27 : decode (mB 88) 27 = .ok (.iconst 1, 1) := by decide +kernel
theorem s_88_27 {d : Nat} {Q : wQ} {L : List (Option Value)} {st : List Value} {w : aw} {cn sn : Nat}  : wp d 88 Q 27 L st w cn sn = wp d 88 Q 28 L (.int 1 :: st) w cn sn := w_iconst d_88_27 (by decide)
theorem d_88_28 : decode (mB 88) 28 = .ok (.ireturn, 1) := by decide +kernel
theorem s_88_28 {d : Nat} {Q : wQ} {L : List (Option Value)} {w : aw} {cn sn : Nat} {v : Int32} : wp d 88 Q 28 L [.int v] w cn sn = Q (some (.int v)) w := w_ireturn d_88_28 rfl
theorem d_89_0 : decode (mB 89) 0 = .ok (.aload_n 0, 1) := by decide +kernel
theorem s_89_0 {d : Nat} {Q : wQ} {L : List (Option Value)} {st : List Value} {w : aw} {cn sn : Nat} {v : Nat} : wp d 89 Q 0 (some (.ref v) :: L) st w cn sn = wp d 89 Q 1 (some (.ref v) :: L) (.ref v :: st) w cn sn := w_aload_n d_89_0 rfl
theorem d_89_1 : decode (mB 89) 1 = .ok (.getfield 28, 3) := by decide +kernel
theorem s_89_1 {d : Nat} {Q : wQ} {L : List (Option Value)} {st : List Value} {w : aw} {cn sn : Nat} {a : Nat} : wp d 89 Q 1 L (.ref a :: st) w cn sn = (kd w a = 8 ∧ wp d 89 Q 4 L (fd w 450 a :: st) w cn sn) := w_getfield d_89_1 (by decide +kernel : fT (mO 89) 28 = some (7, 2))
theorem d_89_4 : decode (mB 89) 4 = .ok (.iload_n 1, 1) := by decide +kernel
theorem s_89_4 {d : Nat} {Q : wQ} {L : List (Option Value)} {st : List Value} {w : aw} {cn sn : Nat} {a0 : Option Value} {v : Int32} : wp d 89 Q 4 (a0 :: some (.int v) :: L) st w cn sn = wp d 89 Q 5 (a0 :: some (.int v) :: L) (.int v :: st) w cn sn := w_iload_n d_89_4 rfl
theorem d_89_5 : decode (mB 89) 5 = .ok (.invokevirtual 59, 3) := by decide +kernel
theorem s_89_5 {d : Nat} {Q : wQ} {L : List (Option Value)} {st : List Value} {w : aw} {cn sn : Nat} {v0 : Value} {b : Nat} : wp d 89 Q 5 L (v0 :: .ref b :: st) w cn sn = (kd w b = 2 ∧ catS st ≤ 8 ∧ wpD d 16 [.ref b, v0] w (fun v w' => wp d 89 Q 8 L (v.toList ++ st) w' cn sn)) := w_virtual (As := [v0]) d_89_5 (by decide +kernel : cT (mO 89) 59 = some (0, 16)) rfl (by decide +kernel) rfl (by decide +kernel) rfl
theorem d_89_8 : decode (mB 89) 8 = .ok (.astore_n 3, 1) := by decide +kernel
theorem s_89_8 {d : Nat} {Q : wQ} {L : List (Option Value)} {st : List Value} {w : aw} {cn sn : Nat} {a0 a1 a2 a3 : Option Value} {v : Nat} : wp d 89 Q 8 (a0 :: a1 :: a2 :: a3 :: L) (.ref v :: st) w cn sn = wp d 89 Q 9 (a0 :: a1 :: clr a2 :: some (.ref v) :: L) st w cn sn := w_astore_n d_89_8 (Nat.le_add_left 4 _) rfl
theorem s_89_8n {d : Nat} {Q : wQ} {L : List (Option Value)} {st : List Value} {w : aw} {cn sn : Nat} {a0 a1 a2 a3 : Option Value} : wp d 89 Q 8 (a0 :: a1 :: a2 :: a3 :: L) (.null :: st) w cn sn = wp d 89 Q 9 (a0 :: a1 :: clr a2 :: some .null :: L) st w cn sn := w_astore_nN d_89_8 (Nat.le_add_left 4 _) rfl
theorem d_89_9 : decode (mB 89) 9 = .ok (.aload_n 3, 1) := by decide +kernel
theorem s_89_9 {d : Nat} {Q : wQ} {L : List (Option Value)} {st : List Value} {w : aw} {cn sn : Nat} {a0 a1 a2 : Option Value} {v : Nat} : wp d 89 Q 9 (a0 :: a1 :: a2 :: some (.ref v) :: L) st w cn sn = wp d 89 Q 10 (a0 :: a1 :: a2 :: some (.ref v) :: L) (.ref v :: st) w cn sn := w_aload_n d_89_9 rfl
theorem s_89_9n {d : Nat} {Q : wQ} {L : List (Option Value)} {st : List Value} {w : aw} {cn sn : Nat} {a0 a1 a2 : Option Value} : wp d 89 Q 9 (a0 :: a1 :: a2 :: some .null :: L) st w cn sn = wp d 89 Q 10 (a0 :: a1 :: a2 :: some .null :: L) (.null :: st) w cn sn := w_aload_nN d_89_9 rfl
theorem d_89_10 : decode (mB 89) 10 = .ok (.ifnull 10, 3) := by decide +kernel
theorem s_89_10 {d : Nat} {Q : wQ} {L : List (Option Value)} {st : List Value} {w : aw} {cn sn : Nat} {q : Nat} : wp d 89 Q 10 L (.ref q :: st) w cn sn = wp d 89 Q 13 L st w cn sn := w_ifnull d_89_10 (t := 20) (by decide)
theorem s_89_10n {d : Nat} {Q : wQ} {L : List (Option Value)} {st : List Value} {w : aw} {cn sn : Nat}  : wp d 89 Q 10 L (.null :: st) w cn sn = wp d 89 Q 20 L st w cn sn := w_ifnullN d_89_10 (t := 20) (by decide)
theorem d_89_13 : decode (mB 89) 13 = .ok (.iload_n 2, 1) := by decide +kernel
theorem s_89_13 {d : Nat} {Q : wQ} {L : List (Option Value)} {st : List Value} {w : aw} {cn sn : Nat} {a0 a1 : Option Value} {v : Int32} : wp d 89 Q 13 (a0 :: a1 :: some (.int v) :: L) st w cn sn = wp d 89 Q 14 (a0 :: a1 :: some (.int v) :: L) (.int v :: st) w cn sn := w_iload_n d_89_13 rfl
theorem d_89_14 : decode (mB 89) 14 = .ok (.invokestatic 85, 3) := by decide +kernel
theorem s_89_14 {d : Nat} {Q : wQ} {L : List (Option Value)} {st : List Value} {w : aw} {cn sn : Nat} {v0 : Value} : wp d 89 Q 14 L (v0 :: st) w cn sn = (catS st ≤ 8 ∧ wpD d 101 [v0] w (fun v w' => wp d 89 Q 17 L (v.toList ++ st) w' cn sn)) := w_static (As := [v0]) d_89_14 (by decide +kernel : cT (mO 89) 85 = some (2, 101)) (by decide +kernel) rfl (by decide +kernel) rfl
theorem d_89_17 : decode (mB 89) 17 = .ok (.ifCond .ne 5, 3) := by decide +kernel
theorem s_89_17 {d : Nat} {Q : wQ} {L : List (Option Value)} {st : List Value} {w : aw} {cn sn : Nat} {x : Int32} : wp d 89 Q 17 L (.int x :: st) w cn sn = ((¬ x = 0 → wp d 89 Q 22 L st w cn sn) ∧ (x = 0 → wp d 89 Q 20 L st w cn sn)) := w_ifne d_89_17 (by decide)
theorem d_89_20 : decode (mB 89) 20 = .ok (.iconst (-1), 1) := by decide +kernel
theorem s_89_20 {d : Nat} {Q : wQ} {L : List (Option Value)} {st : List Value} {w : aw} {cn sn : Nat}  : wp d 89 Q 20 L st w cn sn = wp d 89 Q 21 L (.int (-1) :: st) w cn sn := w_iconst d_89_20 (by decide)
theorem d_89_21 : decode (mB 89) 21 = .ok (.ireturn, 1) := by decide +kernel
theorem s_89_21 {d : Nat} {Q : wQ} {L : List (Option Value)} {w : aw} {cn sn : Nat} {v : Int32} : wp d 89 Q 21 L [.int v] w cn sn = Q (some (.int v)) w := w_ireturn d_89_21 rfl
theorem d_89_22 : decode (mB 89) 22 = .ok (.aload_n 3, 1) := by decide +kernel
theorem s_89_22 {d : Nat} {Q : wQ} {L : List (Option Value)} {st : List Value} {w : aw} {cn sn : Nat} {a0 a1 a2 : Option Value} {v : Nat} : wp d 89 Q 22 (a0 :: a1 :: a2 :: some (.ref v) :: L) st w cn sn = wp d 89 Q 23 (a0 :: a1 :: a2 :: some (.ref v) :: L) (.ref v :: st) w cn sn := w_aload_n d_89_22 rfl
theorem s_89_22n {d : Nat} {Q : wQ} {L : List (Option Value)} {st : List Value} {w : aw} {cn sn : Nat} {a0 a1 a2 : Option Value} : wp d 89 Q 22 (a0 :: a1 :: a2 :: some .null :: L) st w cn sn = wp d 89 Q 23 (a0 :: a1 :: a2 :: some .null :: L) (.null :: st) w cn sn := w_aload_nN d_89_22 rfl
theorem d_89_23 : decode (mB 89) 23 = .ok (.getfield 98, 3) := by decide +kernel
theorem s_89_23 {d : Nat} {Q : wQ} {L : List (Option Value)} {st : List Value} {w : aw} {cn sn : Nat} {a : Nat} : wp d 89 Q 23 L (.ref a :: st) w cn sn = (kd w a = 7 ∧ wp d 89 Q 26 L (fd w 394 a :: st) w cn sn) := w_getfield d_89_23 (by decide +kernel : fT (mO 89) 98 = some (6, 10))
theorem d_89_26 : decode (mB 89) 26 = .ok (.ifCond .eq 5, 3) := by decide +kernel
theorem s_89_26 {d : Nat} {Q : wQ} {L : List (Option Value)} {st : List Value} {w : aw} {cn sn : Nat} {x : Int32} : wp d 89 Q 26 L (.int x :: st) w cn sn = ((x = 0 → wp d 89 Q 31 L st w cn sn) ∧ (¬ x = 0 → wp d 89 Q 29 L st w cn sn)) := w_ifeq d_89_26 (by decide)
theorem d_89_29 : decode (mB 89) 29 = .ok (.iconst 0, 1) := by decide +kernel
theorem s_89_29 {d : Nat} {Q : wQ} {L : List (Option Value)} {st : List Value} {w : aw} {cn sn : Nat}  : wp d 89 Q 29 L st w cn sn = wp d 89 Q 30 L (.int 0 :: st) w cn sn := w_iconst d_89_29 (by decide)
theorem d_89_30 : decode (mB 89) 30 = .ok (.ireturn, 1) := by decide +kernel
theorem s_89_30 {d : Nat} {Q : wQ} {L : List (Option Value)} {w : aw} {cn sn : Nat} {v : Int32} : wp d 89 Q 30 L [.int v] w cn sn = Q (some (.int v)) w := w_ireturn d_89_30 rfl
theorem d_89_31 : decode (mB 89) 31 = .ok (.aload_n 3, 1) := by decide +kernel
theorem s_89_31 {d : Nat} {Q : wQ} {L : List (Option Value)} {st : List Value} {w : aw} {cn sn : Nat} {a0 a1 a2 : Option Value} {v : Nat} : wp d 89 Q 31 (a0 :: a1 :: a2 :: some (.ref v) :: L) st w cn sn = wp d 89 Q 32 (a0 :: a1 :: a2 :: some (.ref v) :: L) (.ref v :: st) w cn sn := w_aload_n d_89_31 rfl
theorem s_89_31n {d : Nat} {Q : wQ} {L : List (Option Value)} {st : List Value} {w : aw} {cn sn : Nat} {a0 a1 a2 : Option Value} : wp d 89 Q 31 (a0 :: a1 :: a2 :: some .null :: L) st w cn sn = wp d 89 Q 32 (a0 :: a1 :: a2 :: some .null :: L) (.null :: st) w cn sn := w_aload_nN d_89_31 rfl
theorem d_89_32 : decode (mB 89) 32 = .ok (.iload_n 2, 1) := by decide +kernel
theorem s_89_32 {d : Nat} {Q : wQ} {L : List (Option Value)} {st : List Value} {w : aw} {cn sn : Nat} {a0 a1 : Option Value} {v : Int32} : wp d 89 Q 32 (a0 :: a1 :: some (.int v) :: L) st w cn sn = wp d 89 Q 33 (a0 :: a1 :: some (.int v) :: L) (.int v :: st) w cn sn := w_iload_n d_89_32 rfl
theorem d_89_33 : decode (mB 89) 33 = .ok (.putfield 101, 3) := by decide +kernel
theorem s_89_33 {d : Nat} {Q : wQ} {L : List (Option Value)} {st : List Value} {w : aw} {cn sn : Nat} {x : Int32} {a : Nat} : wp d 89 Q 33 L (.int x :: .ref a :: st) w cn sn = (kd w a = 7 ∧ wp d 89 Q 36 L st (uF w 390 a (.int x)) cn sn) := w_putfield d_89_33 (by decide +kernel : fT (mO 89) 101 = some (6, 6)) (by decide +kernel) ok_int
theorem d_89_36 : decode (mB 89) 36 = .ok (.aload_n 0, 1) := by decide +kernel
theorem s_89_36 {d : Nat} {Q : wQ} {L : List (Option Value)} {st : List Value} {w : aw} {cn sn : Nat} {v : Nat} : wp d 89 Q 36 (some (.ref v) :: L) st w cn sn = wp d 89 Q 37 (some (.ref v) :: L) (.ref v :: st) w cn sn := w_aload_n d_89_36 rfl
theorem d_89_37 : decode (mB 89) 37 = .ok (.getfield 28, 3) := by decide +kernel
theorem s_89_37 {d : Nat} {Q : wQ} {L : List (Option Value)} {st : List Value} {w : aw} {cn sn : Nat} {a : Nat} : wp d 89 Q 37 L (.ref a :: st) w cn sn = (kd w a = 8 ∧ wp d 89 Q 40 L (fd w 450 a :: st) w cn sn) := w_getfield d_89_37 (by decide +kernel : fT (mO 89) 28 = some (7, 2))
theorem d_89_40 : decode (mB 89) 40 = .ok (.aload_n 3, 1) := by decide +kernel
theorem s_89_40 {d : Nat} {Q : wQ} {L : List (Option Value)} {st : List Value} {w : aw} {cn sn : Nat} {a0 a1 a2 : Option Value} {v : Nat} : wp d 89 Q 40 (a0 :: a1 :: a2 :: some (.ref v) :: L) st w cn sn = wp d 89 Q 41 (a0 :: a1 :: a2 :: some (.ref v) :: L) (.ref v :: st) w cn sn := w_aload_n d_89_40 rfl
theorem s_89_40n {d : Nat} {Q : wQ} {L : List (Option Value)} {st : List Value} {w : aw} {cn sn : Nat} {a0 a1 a2 : Option Value} : wp d 89 Q 40 (a0 :: a1 :: a2 :: some .null :: L) st w cn sn = wp d 89 Q 41 (a0 :: a1 :: a2 :: some .null :: L) (.null :: st) w cn sn := w_aload_nN d_89_40 rfl
theorem d_89_41 : decode (mB 89) 41 = .ok (.invokevirtual 104, 3) := by decide +kernel
theorem s_89_41 {d : Nat} {Q : wQ} {L : List (Option Value)} {st : List Value} {w : aw} {cn sn : Nat} {v0 : Value} {b : Nat} : wp d 89 Q 41 L (v0 :: .ref b :: st) w cn sn = (kd w b = 2 ∧ catS st ≤ 8 ∧ wpD d 17 [.ref b, v0] w (fun v w' => wp d 89 Q 44 L (v.toList ++ st) w' cn sn)) := w_virtual (As := [v0]) d_89_41 (by decide +kernel : cT (mO 89) 104 = some (0, 17)) rfl (by decide +kernel) rfl (by decide +kernel) rfl
theorem d_89_44 : decode (mB 89) 44 = .ok (.aload_n 0, 1) := by decide +kernel
theorem s_89_44 {d : Nat} {Q : wQ} {L : List (Option Value)} {st : List Value} {w : aw} {cn sn : Nat} {v : Nat} : wp d 89 Q 44 (some (.ref v) :: L) st w cn sn = wp d 89 Q 45 (some (.ref v) :: L) (.ref v :: st) w cn sn := w_aload_n d_89_44 rfl
theorem d_89_45 : decode (mB 89) 45 = .ok (.getfield 28, 3) := by decide +kernel
theorem s_89_45 {d : Nat} {Q : wQ} {L : List (Option Value)} {st : List Value} {w : aw} {cn sn : Nat} {a : Nat} : wp d 89 Q 45 L (.ref a :: st) w cn sn = (kd w a = 8 ∧ wp d 89 Q 48 L (fd w 450 a :: st) w cn sn) := w_getfield d_89_45 (by decide +kernel : fT (mO 89) 28 = some (7, 2))
theorem d_89_48 : decode (mB 89) 48 = .ok (.invokevirtual 108, 3) := by decide +kernel
theorem s_89_48 {d : Nat} {Q : wQ} {L : List (Option Value)} {st : List Value} {w : aw} {cn sn : Nat} {b : Nat} : wp d 89 Q 48 L (.ref b :: st) w cn sn = (kd w b = 2 ∧ catS st ≤ 8 ∧ wpD d 18 [.ref b] w (fun v w' => wp d 89 Q 51 L (v.toList ++ st) w' cn sn)) := w_virtual (As := []) d_89_48 (by decide +kernel : cT (mO 89) 108 = some (0, 18)) rfl (by decide +kernel) rfl (by decide +kernel) rfl
theorem d_89_51 : decode (mB 89) 51 = .ok (.iconst 1, 1) := by decide +kernel
theorem s_89_51 {d : Nat} {Q : wQ} {L : List (Option Value)} {st : List Value} {w : aw} {cn sn : Nat}  : wp d 89 Q 51 L st w cn sn = wp d 89 Q 52 L (.int 1 :: st) w cn sn := w_iconst d_89_51 (by decide)
theorem d_89_52 : decode (mB 89) 52 = .ok (.ireturn, 1) := by decide +kernel
theorem s_89_52 {d : Nat} {Q : wQ} {L : List (Option Value)} {w : aw} {cn sn : Nat} {v : Int32} : wp d 89 Q 52 L [.int v] w cn sn = Q (some (.int v)) w := w_ireturn d_89_52 rfl
theorem d_90_0 : decode (mB 90) 0 = .ok (.aload_n 0, 1) := by decide +kernel
theorem s_90_0 {d : Nat} {Q : wQ} {L : List (Option Value)} {st : List Value} {w : aw} {cn sn : Nat} {v : Nat} : wp d 90 Q 0 (some (.ref v) :: L) st w cn sn = wp d 90 Q 1 (some (.ref v) :: L) (.ref v :: st) w cn sn := w_aload_n d_90_0 rfl
theorem d_90_1 : decode (mB 90) 1 = .ok (.getfield 28, 3) := by decide +kernel
theorem s_90_1 {d : Nat} {Q : wQ} {L : List (Option Value)} {st : List Value} {w : aw} {cn sn : Nat} {a : Nat} : wp d 90 Q 1 L (.ref a :: st) w cn sn = (kd w a = 8 ∧ wp d 90 Q 4 L (fd w 450 a :: st) w cn sn) := w_getfield d_90_1 (by decide +kernel : fT (mO 90) 28 = some (7, 2))
theorem d_90_4 : decode (mB 90) 4 = .ok (.iload_n 1, 1) := by decide +kernel
theorem s_90_4 {d : Nat} {Q : wQ} {L : List (Option Value)} {st : List Value} {w : aw} {cn sn : Nat} {a0 : Option Value} {v : Int32} : wp d 90 Q 4 (a0 :: some (.int v) :: L) st w cn sn = wp d 90 Q 5 (a0 :: some (.int v) :: L) (.int v :: st) w cn sn := w_iload_n d_90_4 rfl
theorem d_90_5 : decode (mB 90) 5 = .ok (.invokevirtual 59, 3) := by decide +kernel
theorem s_90_5 {d : Nat} {Q : wQ} {L : List (Option Value)} {st : List Value} {w : aw} {cn sn : Nat} {v0 : Value} {b : Nat} : wp d 90 Q 5 L (v0 :: .ref b :: st) w cn sn = (kd w b = 2 ∧ catS st ≤ 8 ∧ wpD d 16 [.ref b, v0] w (fun v w' => wp d 90 Q 8 L (v.toList ++ st) w' cn sn)) := w_virtual (As := [v0]) d_90_5 (by decide +kernel : cT (mO 90) 59 = some (0, 16)) rfl (by decide +kernel) rfl (by decide +kernel) rfl
theorem d_90_8 : decode (mB 90) 8 = .ok (.astore_n 3, 1) := by decide +kernel
theorem s_90_8 {d : Nat} {Q : wQ} {L : List (Option Value)} {st : List Value} {w : aw} {cn sn : Nat} {a0 a1 a2 a3 : Option Value} {v : Nat} : wp d 90 Q 8 (a0 :: a1 :: a2 :: a3 :: L) (.ref v :: st) w cn sn = wp d 90 Q 9 (a0 :: a1 :: clr a2 :: some (.ref v) :: L) st w cn sn := w_astore_n d_90_8 (Nat.le_add_left 4 _) rfl
theorem s_90_8n {d : Nat} {Q : wQ} {L : List (Option Value)} {st : List Value} {w : aw} {cn sn : Nat} {a0 a1 a2 a3 : Option Value} : wp d 90 Q 8 (a0 :: a1 :: a2 :: a3 :: L) (.null :: st) w cn sn = wp d 90 Q 9 (a0 :: a1 :: clr a2 :: some .null :: L) st w cn sn := w_astore_nN d_90_8 (Nat.le_add_left 4 _) rfl
theorem d_90_9 : decode (mB 90) 9 = .ok (.aload_n 3, 1) := by decide +kernel
theorem s_90_9 {d : Nat} {Q : wQ} {L : List (Option Value)} {st : List Value} {w : aw} {cn sn : Nat} {a0 a1 a2 : Option Value} {v : Nat} : wp d 90 Q 9 (a0 :: a1 :: a2 :: some (.ref v) :: L) st w cn sn = wp d 90 Q 10 (a0 :: a1 :: a2 :: some (.ref v) :: L) (.ref v :: st) w cn sn := w_aload_n d_90_9 rfl
theorem s_90_9n {d : Nat} {Q : wQ} {L : List (Option Value)} {st : List Value} {w : aw} {cn sn : Nat} {a0 a1 a2 : Option Value} : wp d 90 Q 9 (a0 :: a1 :: a2 :: some .null :: L) st w cn sn = wp d 90 Q 10 (a0 :: a1 :: a2 :: some .null :: L) (.null :: st) w cn sn := w_aload_nN d_90_9 rfl
theorem d_90_10 : decode (mB 90) 10 = .ok (.ifnull 14, 3) := by decide +kernel
theorem s_90_10 {d : Nat} {Q : wQ} {L : List (Option Value)} {st : List Value} {w : aw} {cn sn : Nat} {q : Nat} : wp d 90 Q 10 L (.ref q :: st) w cn sn = wp d 90 Q 13 L st w cn sn := w_ifnull d_90_10 (t := 24) (by decide)
theorem s_90_10n {d : Nat} {Q : wQ} {L : List (Option Value)} {st : List Value} {w : aw} {cn sn : Nat}  : wp d 90 Q 10 L (.null :: st) w cn sn = wp d 90 Q 24 L st w cn sn := w_ifnullN d_90_10 (t := 24) (by decide)
theorem d_90_13 : decode (mB 90) 13 = .ok (.iload_n 2, 1) := by decide +kernel
theorem s_90_13 {d : Nat} {Q : wQ} {L : List (Option Value)} {st : List Value} {w : aw} {cn sn : Nat} {a0 a1 : Option Value} {v : Int32} : wp d 90 Q 13 (a0 :: a1 :: some (.int v) :: L) st w cn sn = wp d 90 Q 14 (a0 :: a1 :: some (.int v) :: L) (.int v :: st) w cn sn := w_iload_n d_90_13 rfl
theorem d_90_14 : decode (mB 90) 14 = .ok (.iconst 0, 1) := by decide +kernel
theorem s_90_14 {d : Nat} {Q : wQ} {L : List (Option Value)} {st : List Value} {w : aw} {cn sn : Nat}  : wp d 90 Q 14 L st w cn sn = wp d 90 Q 15 L (.int 0 :: st) w cn sn := w_iconst d_90_14 (by decide)
theorem d_90_15 : decode (mB 90) 15 = .ok (.sipush 255, 3) := by decide +kernel
theorem s_90_15 {d : Nat} {Q : wQ} {L : List (Option Value)} {st : List Value} {w : aw} {cn sn : Nat}  : wp d 90 Q 15 L st w cn sn = wp d 90 Q 18 L (.int 255 :: st) w cn sn := w_sipush d_90_15 (by decide)
theorem d_90_18 : decode (mB 90) 18 = .ok (.invokestatic 36, 3) := by decide +kernel
theorem s_90_18 {d : Nat} {Q : wQ} {L : List (Option Value)} {st : List Value} {w : aw} {cn sn : Nat} {v0 v1 v2 : Value} : wp d 90 Q 18 L (v2 :: v1 :: v0 :: st) w cn sn = (catS st ≤ 8 ∧ wpD d 100 [v0, v1, v2] w (fun v w' => wp d 90 Q 21 L (v.toList ++ st) w' cn sn)) := w_static (As := [v0, v1, v2]) d_90_18 (by decide +kernel : cT (mO 90) 36 = some (2, 100)) (by decide +kernel) rfl (by decide +kernel) rfl
theorem d_90_21 : decode (mB 90) 21 = .ok (.ifCond .ne 5, 3) := by decide +kernel
theorem s_90_21 {d : Nat} {Q : wQ} {L : List (Option Value)} {st : List Value} {w : aw} {cn sn : Nat} {x : Int32} : wp d 90 Q 21 L (.int x :: st) w cn sn = ((¬ x = 0 → wp d 90 Q 26 L st w cn sn) ∧ (x = 0 → wp d 90 Q 24 L st w cn sn)) := w_ifne d_90_21 (by decide)
theorem d_90_24 : decode (mB 90) 24 = .ok (.iconst (-1), 1) := by decide +kernel
theorem s_90_24 {d : Nat} {Q : wQ} {L : List (Option Value)} {st : List Value} {w : aw} {cn sn : Nat}  : wp d 90 Q 24 L st w cn sn = wp d 90 Q 25 L (.int (-1) :: st) w cn sn := w_iconst d_90_24 (by decide)
theorem d_90_25 : decode (mB 90) 25 = .ok (.ireturn, 1) := by decide +kernel
theorem s_90_25 {d : Nat} {Q : wQ} {L : List (Option Value)} {w : aw} {cn sn : Nat} {v : Int32} : wp d 90 Q 25 L [.int v] w cn sn = Q (some (.int v)) w := w_ireturn d_90_25 rfl
theorem d_90_26 : decode (mB 90) 26 = .ok (.aload_n 3, 1) := by decide +kernel
theorem s_90_26 {d : Nat} {Q : wQ} {L : List (Option Value)} {st : List Value} {w : aw} {cn sn : Nat} {a0 a1 a2 : Option Value} {v : Nat} : wp d 90 Q 26 (a0 :: a1 :: a2 :: some (.ref v) :: L) st w cn sn = wp d 90 Q 27 (a0 :: a1 :: a2 :: some (.ref v) :: L) (.ref v :: st) w cn sn := w_aload_n d_90_26 rfl
theorem s_90_26n {d : Nat} {Q : wQ} {L : List (Option Value)} {st : List Value} {w : aw} {cn sn : Nat} {a0 a1 a2 : Option Value} : wp d 90 Q 26 (a0 :: a1 :: a2 :: some .null :: L) st w cn sn = wp d 90 Q 27 (a0 :: a1 :: a2 :: some .null :: L) (.null :: st) w cn sn := w_aload_nN d_90_26 rfl
theorem d_90_27 : decode (mB 90) 27 = .ok (.getfield 111, 3) := by decide +kernel
theorem s_90_27 {d : Nat} {Q : wQ} {L : List (Option Value)} {st : List Value} {w : aw} {cn sn : Nat} {a : Nat} : wp d 90 Q 27 L (.ref a :: st) w cn sn = (kd w a = 7 ∧ wp d 90 Q 30 L (fd w 388 a :: st) w cn sn) := w_getfield d_90_27 (by decide +kernel : fT (mO 90) 111 = some (6, 4))
theorem d_90_30 : decode (mB 90) 30 = .ok (.iload_n 2, 1) := by decide +kernel
theorem s_90_30 {d : Nat} {Q : wQ} {L : List (Option Value)} {st : List Value} {w : aw} {cn sn : Nat} {a0 a1 : Option Value} {v : Int32} : wp d 90 Q 30 (a0 :: a1 :: some (.int v) :: L) st w cn sn = wp d 90 Q 31 (a0 :: a1 :: some (.int v) :: L) (.int v :: st) w cn sn := w_iload_n d_90_30 rfl
theorem d_90_31 : decode (mB 90) 31 = .ok (.invokevirtual 115, 3) := by decide +kernel
theorem s_90_31 {d : Nat} {Q : wQ} {L : List (Option Value)} {st : List Value} {w : aw} {cn sn : Nat} {v0 : Value} {b : Nat} : wp d 90 Q 31 L (v0 :: .ref b :: st) w cn sn = (kd w b = 3 ∧ catS st ≤ 8 ∧ wpD d 28 [.ref b, v0] w (fun v w' => wp d 90 Q 34 L (v.toList ++ st) w' cn sn)) := w_virtual (As := [v0]) d_90_31 (by decide +kernel : cT (mO 90) 115 = some (0, 28)) rfl (by decide +kernel) rfl (by decide +kernel) rfl
theorem d_90_34 : decode (mB 90) 34 = .ok (.ifCond .ne 19, 3) := by decide +kernel
theorem s_90_34 {d : Nat} {Q : wQ} {L : List (Option Value)} {st : List Value} {w : aw} {cn sn : Nat} {x : Int32} : wp d 90 Q 34 L (.int x :: st) w cn sn = ((¬ x = 0 → wp d 90 Q 53 L st w cn sn) ∧ (x = 0 → wp d 90 Q 37 L st w cn sn)) := w_ifne d_90_34 (by decide)
theorem d_90_37 : decode (mB 90) 37 = .ok (.aload_n 3, 1) := by decide +kernel
theorem s_90_37 {d : Nat} {Q : wQ} {L : List (Option Value)} {st : List Value} {w : aw} {cn sn : Nat} {a0 a1 a2 : Option Value} {v : Nat} : wp d 90 Q 37 (a0 :: a1 :: a2 :: some (.ref v) :: L) st w cn sn = wp d 90 Q 38 (a0 :: a1 :: a2 :: some (.ref v) :: L) (.ref v :: st) w cn sn := w_aload_n d_90_37 rfl
theorem s_90_37n {d : Nat} {Q : wQ} {L : List (Option Value)} {st : List Value} {w : aw} {cn sn : Nat} {a0 a1 a2 : Option Value} : wp d 90 Q 37 (a0 :: a1 :: a2 :: some .null :: L) st w cn sn = wp d 90 Q 38 (a0 :: a1 :: a2 :: some .null :: L) (.null :: st) w cn sn := w_aload_nN d_90_37 rfl
theorem d_90_38 : decode (mB 90) 38 = .ok (.aload_n 3, 1) := by decide +kernel
theorem s_90_38 {d : Nat} {Q : wQ} {L : List (Option Value)} {st : List Value} {w : aw} {cn sn : Nat} {a0 a1 a2 : Option Value} {v : Nat} : wp d 90 Q 38 (a0 :: a1 :: a2 :: some (.ref v) :: L) st w cn sn = wp d 90 Q 39 (a0 :: a1 :: a2 :: some (.ref v) :: L) (.ref v :: st) w cn sn := w_aload_n d_90_38 rfl
theorem s_90_38n {d : Nat} {Q : wQ} {L : List (Option Value)} {st : List Value} {w : aw} {cn sn : Nat} {a0 a1 a2 : Option Value} : wp d 90 Q 38 (a0 :: a1 :: a2 :: some .null :: L) st w cn sn = wp d 90 Q 39 (a0 :: a1 :: a2 :: some .null :: L) (.null :: st) w cn sn := w_aload_nN d_90_38 rfl
theorem d_90_39 : decode (mB 90) 39 = .ok (.getfield 120, 3) := by decide +kernel
theorem s_90_39 {d : Nat} {Q : wQ} {L : List (Option Value)} {st : List Value} {w : aw} {cn sn : Nat} {a : Nat} : wp d 90 Q 39 L (.ref a :: st) w cn sn = (kd w a = 7 ∧ wp d 90 Q 42 L (fd w 397 a :: st) w cn sn) := w_getfield d_90_39 (by decide +kernel : fT (mO 90) 120 = some (6, 13))
theorem d_90_42 : decode (mB 90) 42 = .ok (.iconst 1, 1) := by decide +kernel
theorem s_90_42 {d : Nat} {Q : wQ} {L : List (Option Value)} {st : List Value} {w : aw} {cn sn : Nat}  : wp d 90 Q 42 L st w cn sn = wp d 90 Q 43 L (.int 1 :: st) w cn sn := w_iconst d_90_42 (by decide)
theorem d_90_43 : decode (mB 90) 43 = .ok (.iadd, 1) := by decide +kernel
theorem s_90_43 {d : Nat} {Q : wQ} {L : List (Option Value)} {st : List Value} {w : aw} {cn sn : Nat} {a b : Int32} : wp d 90 Q 43 L (.int b :: .int a :: st) w cn sn = wp d 90 Q 44 L (.int (a + b) :: st) w cn sn := wp_row d_90_43 _ _ _ _ _
theorem d_90_44 : decode (mB 90) 44 = .ok (.sipush 4095, 3) := by decide +kernel
theorem s_90_44 {d : Nat} {Q : wQ} {L : List (Option Value)} {st : List Value} {w : aw} {cn sn : Nat}  : wp d 90 Q 44 L st w cn sn = wp d 90 Q 47 L (.int 4095 :: st) w cn sn := w_sipush d_90_44 (by decide)
theorem d_90_47 : decode (mB 90) 47 = .ok (.iand, 1) := by decide +kernel
theorem s_90_47 {d : Nat} {Q : wQ} {L : List (Option Value)} {st : List Value} {w : aw} {cn sn : Nat} {a b : Int32} : wp d 90 Q 47 L (.int b :: .int a :: st) w cn sn = wp d 90 Q 48 L (.int (a &&& b) :: st) w cn sn := wp_row d_90_47 _ _ _ _ _
theorem d_90_48 : decode (mB 90) 48 = .ok (.putfield 120, 3) := by decide +kernel
theorem s_90_48 {d : Nat} {Q : wQ} {L : List (Option Value)} {st : List Value} {w : aw} {cn sn : Nat} {x : Int32} {a : Nat} : wp d 90 Q 48 L (.int x :: .ref a :: st) w cn sn = (kd w a = 7 ∧ wp d 90 Q 51 L st (uF w 397 a (.int x)) cn sn) := w_putfield d_90_48 (by decide +kernel : fT (mO 90) 120 = some (6, 13)) (by decide +kernel) ok_int
theorem d_90_51 : decode (mB 90) 51 = .ok (.iconst 0, 1) := by decide +kernel
theorem s_90_51 {d : Nat} {Q : wQ} {L : List (Option Value)} {st : List Value} {w : aw} {cn sn : Nat}  : wp d 90 Q 51 L st w cn sn = wp d 90 Q 52 L (.int 0 :: st) w cn sn := w_iconst d_90_51 (by decide)
theorem d_90_52 : decode (mB 90) 52 = .ok (.ireturn, 1) := by decide +kernel
theorem s_90_52 {d : Nat} {Q : wQ} {L : List (Option Value)} {w : aw} {cn sn : Nat} {v : Int32} : wp d 90 Q 52 L [.int v] w cn sn = Q (some (.int v)) w := w_ireturn d_90_52 rfl
theorem d_90_53 : decode (mB 90) 53 = .ok (.aload_n 3, 1) := by decide +kernel
theorem s_90_53 {d : Nat} {Q : wQ} {L : List (Option Value)} {st : List Value} {w : aw} {cn sn : Nat} {a0 a1 a2 : Option Value} {v : Nat} : wp d 90 Q 53 (a0 :: a1 :: a2 :: some (.ref v) :: L) st w cn sn = wp d 90 Q 54 (a0 :: a1 :: a2 :: some (.ref v) :: L) (.ref v :: st) w cn sn := w_aload_n d_90_53 rfl
theorem s_90_53n {d : Nat} {Q : wQ} {L : List (Option Value)} {st : List Value} {w : aw} {cn sn : Nat} {a0 a1 a2 : Option Value} : wp d 90 Q 53 (a0 :: a1 :: a2 :: some .null :: L) st w cn sn = wp d 90 Q 54 (a0 :: a1 :: a2 :: some .null :: L) (.null :: st) w cn sn := w_aload_nN d_90_53 rfl
theorem d_90_54 : decode (mB 90) 54 = .ok (.getfield 98, 3) := by decide +kernel
theorem s_90_54 {d : Nat} {Q : wQ} {L : List (Option Value)} {st : List Value} {w : aw} {cn sn : Nat} {a : Nat} : wp d 90 Q 54 L (.ref a :: st) w cn sn = (kd w a = 7 ∧ wp d 90 Q 57 L (fd w 394 a :: st) w cn sn) := w_getfield d_90_54 (by decide +kernel : fT (mO 90) 98 = some (6, 10))
theorem d_90_57 : decode (mB 90) 57 = .ok (.iconst 3, 1) := by decide +kernel
theorem s_90_57 {d : Nat} {Q : wQ} {L : List (Option Value)} {st : List Value} {w : aw} {cn sn : Nat}  : wp d 90 Q 57 L st w cn sn = wp d 90 Q 58 L (.int 3 :: st) w cn sn := w_iconst d_90_57 (by decide)
theorem d_90_58 : decode (mB 90) 58 = .ok (.if_icmp .ne 18, 3) := by decide +kernel
theorem s_90_58 {d : Nat} {Q : wQ} {L : List (Option Value)} {st : List Value} {w : aw} {cn sn : Nat} {a b : Int32} : wp d 90 Q 58 L (.int b :: .int a :: st) w cn sn = ((¬ a = b → wp d 90 Q 76 L st w cn sn) ∧ (a = b → wp d 90 Q 61 L st w cn sn)) := w_icne d_90_58 (by decide)
theorem d_90_61 : decode (mB 90) 61 = .ok (.aload_n 0, 1) := by decide +kernel
theorem s_90_61 {d : Nat} {Q : wQ} {L : List (Option Value)} {st : List Value} {w : aw} {cn sn : Nat} {v : Nat} : wp d 90 Q 61 (some (.ref v) :: L) st w cn sn = wp d 90 Q 62 (some (.ref v) :: L) (.ref v :: st) w cn sn := w_aload_n d_90_61 rfl
theorem d_90_62 : decode (mB 90) 62 = .ok (.getfield 28, 3) := by decide +kernel
theorem s_90_62 {d : Nat} {Q : wQ} {L : List (Option Value)} {st : List Value} {w : aw} {cn sn : Nat} {a : Nat} : wp d 90 Q 62 L (.ref a :: st) w cn sn = (kd w a = 8 ∧ wp d 90 Q 65 L (fd w 450 a :: st) w cn sn) := w_getfield d_90_62 (by decide +kernel : fT (mO 90) 28 = some (7, 2))
theorem d_90_65 : decode (mB 90) 65 = .ok (.aload_n 3, 1) := by decide +kernel
theorem s_90_65 {d : Nat} {Q : wQ} {L : List (Option Value)} {st : List Value} {w : aw} {cn sn : Nat} {a0 a1 a2 : Option Value} {v : Nat} : wp d 90 Q 65 (a0 :: a1 :: a2 :: some (.ref v) :: L) st w cn sn = wp d 90 Q 66 (a0 :: a1 :: a2 :: some (.ref v) :: L) (.ref v :: st) w cn sn := w_aload_n d_90_65 rfl
theorem s_90_65n {d : Nat} {Q : wQ} {L : List (Option Value)} {st : List Value} {w : aw} {cn sn : Nat} {a0 a1 a2 : Option Value} : wp d 90 Q 65 (a0 :: a1 :: a2 :: some .null :: L) st w cn sn = wp d 90 Q 66 (a0 :: a1 :: a2 :: some .null :: L) (.null :: st) w cn sn := w_aload_nN d_90_65 rfl
theorem d_90_66 : decode (mB 90) 66 = .ok (.invokevirtual 104, 3) := by decide +kernel
theorem s_90_66 {d : Nat} {Q : wQ} {L : List (Option Value)} {st : List Value} {w : aw} {cn sn : Nat} {v0 : Value} {b : Nat} : wp d 90 Q 66 L (v0 :: .ref b :: st) w cn sn = (kd w b = 2 ∧ catS st ≤ 8 ∧ wpD d 17 [.ref b, v0] w (fun v w' => wp d 90 Q 69 L (v.toList ++ st) w' cn sn)) := w_virtual (As := [v0]) d_90_66 (by decide +kernel : cT (mO 90) 104 = some (0, 17)) rfl (by decide +kernel) rfl (by decide +kernel) rfl
theorem d_90_69 : decode (mB 90) 69 = .ok (.aload_n 0, 1) := by decide +kernel
theorem s_90_69 {d : Nat} {Q : wQ} {L : List (Option Value)} {st : List Value} {w : aw} {cn sn : Nat} {v : Nat} : wp d 90 Q 69 (some (.ref v) :: L) st w cn sn = wp d 90 Q 70 (some (.ref v) :: L) (.ref v :: st) w cn sn := w_aload_n d_90_69 rfl
theorem d_90_70 : decode (mB 90) 70 = .ok (.getfield 28, 3) := by decide +kernel
theorem s_90_70 {d : Nat} {Q : wQ} {L : List (Option Value)} {st : List Value} {w : aw} {cn sn : Nat} {a : Nat} : wp d 90 Q 70 L (.ref a :: st) w cn sn = (kd w a = 8 ∧ wp d 90 Q 73 L (fd w 450 a :: st) w cn sn) := w_getfield d_90_70 (by decide +kernel : fT (mO 90) 28 = some (7, 2))
theorem d_90_73 : decode (mB 90) 73 = .ok (.invokevirtual 108, 3) := by decide +kernel
theorem s_90_73 {d : Nat} {Q : wQ} {L : List (Option Value)} {st : List Value} {w : aw} {cn sn : Nat} {b : Nat} : wp d 90 Q 73 L (.ref b :: st) w cn sn = (kd w b = 2 ∧ catS st ≤ 8 ∧ wpD d 18 [.ref b] w (fun v w' => wp d 90 Q 76 L (v.toList ++ st) w' cn sn)) := w_virtual (As := []) d_90_73 (by decide +kernel : cT (mO 90) 108 = some (0, 18)) rfl (by decide +kernel) rfl (by decide +kernel) rfl
theorem d_90_76 : decode (mB 90) 76 = .ok (.iconst 1, 1) := by decide +kernel
theorem s_90_76 {d : Nat} {Q : wQ} {L : List (Option Value)} {st : List Value} {w : aw} {cn sn : Nat}  : wp d 90 Q 76 L st w cn sn = wp d 90 Q 77 L (.int 1 :: st) w cn sn := w_iconst d_90_76 (by decide)
theorem d_90_77 : decode (mB 90) 77 = .ok (.ireturn, 1) := by decide +kernel
theorem s_90_77 {d : Nat} {Q : wQ} {L : List (Option Value)} {w : aw} {cn sn : Nat} {v : Int32} : wp d 90 Q 77 L [.int v] w cn sn = Q (some (.int v)) w := w_ireturn d_90_77 rfl
theorem d_91_0 : decode (mB 91) 0 = .ok (.aload_n 0, 1) := by decide +kernel
theorem s_91_0 {d : Nat} {Q : wQ} {L : List (Option Value)} {st : List Value} {w : aw} {cn sn : Nat} {v : Nat} : wp d 91 Q 0 (some (.ref v) :: L) st w cn sn = wp d 91 Q 1 (some (.ref v) :: L) (.ref v :: st) w cn sn := w_aload_n d_91_0 rfl
theorem d_91_1 : decode (mB 91) 1 = .ok (.getfield 28, 3) := by decide +kernel
theorem s_91_1 {d : Nat} {Q : wQ} {L : List (Option Value)} {st : List Value} {w : aw} {cn sn : Nat} {a : Nat} : wp d 91 Q 1 L (.ref a :: st) w cn sn = (kd w a = 8 ∧ wp d 91 Q 4 L (fd w 450 a :: st) w cn sn) := w_getfield d_91_1 (by decide +kernel : fT (mO 91) 28 = some (7, 2))
theorem d_91_4 : decode (mB 91) 4 = .ok (.invokevirtual 32, 3) := by decide +kernel
theorem s_91_4 {d : Nat} {Q : wQ} {L : List (Option Value)} {st : List Value} {w : aw} {cn sn : Nat} {b : Nat} : wp d 91 Q 4 L (.ref b :: st) w cn sn = (kd w b = 2 ∧ catS st ≤ 8 ∧ wpD d 14 [.ref b] w (fun v w' => wp d 91 Q 7 L (v.toList ++ st) w' cn sn)) := w_virtual (As := []) d_91_4 (by decide +kernel : cT (mO 91) 32 = some (0, 14)) rfl (by decide +kernel) rfl (by decide +kernel) rfl
theorem d_91_7 : decode (mB 91) 7 = .ok (.ifCond .eq 14, 3) := by decide +kernel
theorem s_91_7 {d : Nat} {Q : wQ} {L : List (Option Value)} {st : List Value} {w : aw} {cn sn : Nat} {x : Int32} : wp d 91 Q 7 L (.int x :: st) w cn sn = ((x = 0 → wp d 91 Q 21 L st w cn sn) ∧ (¬ x = 0 → wp d 91 Q 10 L st w cn sn)) := w_ifeq d_91_7 (by decide)
theorem d_91_10 : decode (mB 91) 10 = .ok (.iload_n 1, 1) := by decide +kernel
theorem s_91_10 {d : Nat} {Q : wQ} {L : List (Option Value)} {st : List Value} {w : aw} {cn sn : Nat} {a0 : Option Value} {v : Int32} : wp d 91 Q 10 (a0 :: some (.int v) :: L) st w cn sn = wp d 91 Q 11 (a0 :: some (.int v) :: L) (.int v :: st) w cn sn := w_iload_n d_91_10 rfl
theorem d_91_11 : decode (mB 91) 11 = .ok (.iconst 0, 1) := by decide +kernel
theorem s_91_11 {d : Nat} {Q : wQ} {L : List (Option Value)} {st : List Value} {w : aw} {cn sn : Nat}  : wp d 91 Q 11 L st w cn sn = wp d 91 Q 12 L (.int 0 :: st) w cn sn := w_iconst d_91_11 (by decide)
theorem d_91_12 : decode (mB 91) 12 = .ok (.sipush 1000, 3) := by decide +kernel
theorem s_91_12 {d : Nat} {Q : wQ} {L : List (Option Value)} {st : List Value} {w : aw} {cn sn : Nat}  : wp d 91 Q 12 L st w cn sn = wp d 91 Q 15 L (.int 1000 :: st) w cn sn := w_sipush d_91_12 (by decide)
theorem d_91_15 : decode (mB 91) 15 = .ok (.invokestatic 36, 3) := by decide +kernel
theorem s_91_15 {d : Nat} {Q : wQ} {L : List (Option Value)} {st : List Value} {w : aw} {cn sn : Nat} {v0 v1 v2 : Value} : wp d 91 Q 15 L (v2 :: v1 :: v0 :: st) w cn sn = (catS st ≤ 8 ∧ wpD d 100 [v0, v1, v2] w (fun v w' => wp d 91 Q 18 L (v.toList ++ st) w' cn sn)) := w_static (As := [v0, v1, v2]) d_91_15 (by decide +kernel : cT (mO 91) 36 = some (2, 100)) (by decide +kernel) rfl (by decide +kernel) rfl
theorem d_91_18 : decode (mB 91) 18 = .ok (.ifCond .ne 5, 3) := by decide +kernel
theorem s_91_18 {d : Nat} {Q : wQ} {L : List (Option Value)} {st : List Value} {w : aw} {cn sn : Nat} {x : Int32} : wp d 91 Q 18 L (.int x :: st) w cn sn = ((¬ x = 0 → wp d 91 Q 23 L st w cn sn) ∧ (x = 0 → wp d 91 Q 21 L st w cn sn)) := w_ifne d_91_18 (by decide)
theorem d_91_21 : decode (mB 91) 21 = .ok (.iconst (-1), 1) := by decide +kernel
theorem s_91_21 {d : Nat} {Q : wQ} {L : List (Option Value)} {st : List Value} {w : aw} {cn sn : Nat}  : wp d 91 Q 21 L st w cn sn = wp d 91 Q 22 L (.int (-1) :: st) w cn sn := w_iconst d_91_21 (by decide)
theorem d_91_22 : decode (mB 91) 22 = .ok (.ireturn, 1) := by decide +kernel
theorem s_91_22 {d : Nat} {Q : wQ} {L : List (Option Value)} {w : aw} {cn sn : Nat} {v : Int32} : wp d 91 Q 22 L [.int v] w cn sn = Q (some (.int v)) w := w_ireturn d_91_22 rfl
theorem d_91_23 : decode (mB 91) 23 = .ok (.iconst 0, 1) := by decide +kernel
theorem s_91_23 {d : Nat} {Q : wQ} {L : List (Option Value)} {st : List Value} {w : aw} {cn sn : Nat}  : wp d 91 Q 23 L st w cn sn = wp d 91 Q 24 L (.int 0 :: st) w cn sn := w_iconst d_91_23 (by decide)
theorem d_91_24 : decode (mB 91) 24 = .ok (.istore_n 2, 1) := by decide +kernel
theorem s_91_24 {d : Nat} {Q : wQ} {L : List (Option Value)} {st : List Value} {w : aw} {cn sn : Nat} {a0 a1 a2 : Option Value} {v : Int32} : wp d 91 Q 24 (a0 :: a1 :: a2 :: L) (.int v :: st) w cn sn = wp d 91 Q 25 (a0 :: clr a1 :: some (.int v) :: L) st w cn sn := w_istore_n d_91_24 (Nat.le_add_left 3 _) rfl
theorem d_91_25 : decode (mB 91) 25 = .ok (.iconst 0, 1) := by decide +kernel
theorem s_91_25 {d : Nat} {Q : wQ} {L : List (Option Value)} {st : List Value} {w : aw} {cn sn : Nat}  : wp d 91 Q 25 L st w cn sn = wp d 91 Q 26 L (.int 0 :: st) w cn sn := w_iconst d_91_25 (by decide)
theorem d_91_26 : decode (mB 91) 26 = .ok (.istore_n 3, 1) := by decide +kernel
theorem s_91_26 {d : Nat} {Q : wQ} {L : List (Option Value)} {st : List Value} {w : aw} {cn sn : Nat} {a0 a1 a2 a3 : Option Value} {v : Int32} : wp d 91 Q 26 (a0 :: a1 :: a2 :: a3 :: L) (.int v :: st) w cn sn = wp d 91 Q 27 (a0 :: a1 :: clr a2 :: some (.int v) :: L) st w cn sn := w_istore_n d_91_26 (Nat.le_add_left 4 _) rfl
theorem d_91_27 : decode (mB 91) 27 = .ok (.iload_n 3, 1) := by decide +kernel
theorem s_91_27 {d : Nat} {Q : wQ} {L : List (Option Value)} {st : List Value} {w : aw} {cn sn : Nat} {a0 a1 a2 : Option Value} {v : Int32} : wp d 91 Q 27 (a0 :: a1 :: a2 :: some (.int v) :: L) st w cn sn = wp d 91 Q 28 (a0 :: a1 :: a2 :: some (.int v) :: L) (.int v :: st) w cn sn := w_iload_n d_91_27 rfl
theorem d_91_28 : decode (mB 91) 28 = .ok (.iload_n 1, 1) := by decide +kernel
theorem s_91_28 {d : Nat} {Q : wQ} {L : List (Option Value)} {st : List Value} {w : aw} {cn sn : Nat} {a0 : Option Value} {v : Int32} : wp d 91 Q 28 (a0 :: some (.int v) :: L) st w cn sn = wp d 91 Q 29 (a0 :: some (.int v) :: L) (.int v :: st) w cn sn := w_iload_n d_91_28 rfl
theorem d_91_29 : decode (mB 91) 29 = .ok (.if_icmp .ge 22, 3) := by decide +kernel
theorem s_91_29 {d : Nat} {Q : wQ} {L : List (Option Value)} {st : List Value} {w : aw} {cn sn : Nat} {a b : Int32} : wp d 91 Q 29 L (.int b :: .int a :: st) w cn sn = ((b ≤ a → wp d 91 Q 51 L st w cn sn) ∧ (¬ b ≤ a → wp d 91 Q 32 L st w cn sn)) := w_icge d_91_29 (by decide)
theorem d_91_32 : decode (mB 91) 32 = .ok (.aload_n 0, 1) := by decide +kernel
theorem s_91_32 {d : Nat} {Q : wQ} {L : List (Option Value)} {st : List Value} {w : aw} {cn sn : Nat} {v : Nat} : wp d 91 Q 32 (some (.ref v) :: L) st w cn sn = wp d 91 Q 33 (some (.ref v) :: L) (.ref v :: st) w cn sn := w_aload_n d_91_32 rfl
theorem d_91_33 : decode (mB 91) 33 = .ok (.getfield 28, 3) := by decide +kernel
theorem s_91_33 {d : Nat} {Q : wQ} {L : List (Option Value)} {st : List Value} {w : aw} {cn sn : Nat} {a : Nat} : wp d 91 Q 33 L (.ref a :: st) w cn sn = (kd w a = 8 ∧ wp d 91 Q 36 L (fd w 450 a :: st) w cn sn) := w_getfield d_91_33 (by decide +kernel : fT (mO 91) 28 = some (7, 2))
theorem d_91_36 : decode (mB 91) 36 = .ok (.invokevirtual 123, 3) := by decide +kernel
theorem s_91_36 {d : Nat} {Q : wQ} {L : List (Option Value)} {st : List Value} {w : aw} {cn sn : Nat} {b : Nat} : wp d 91 Q 36 L (.ref b :: st) w cn sn = (kd w b = 2 ∧ catS st ≤ 8 ∧ wpD d 20 [.ref b] w (fun v w' => wp d 91 Q 39 L (v.toList ++ st) w' cn sn)) := w_virtual (As := []) d_91_36 (by decide +kernel : cT (mO 91) 123 = some (0, 20)) rfl (by decide +kernel) rfl (by decide +kernel) rfl
theorem d_91_39 : decode (mB 91) 39 = .ok (.ifCond .eq 6, 3) := by decide +kernel
theorem s_91_39 {d : Nat} {Q : wQ} {L : List (Option Value)} {st : List Value} {w : aw} {cn sn : Nat} {x : Int32} : wp d 91 Q 39 L (.int x :: st) w cn sn = ((x = 0 → wp d 91 Q 45 L st w cn sn) ∧ (¬ x = 0 → wp d 91 Q 42 L st w cn sn)) := w_ifeq d_91_39 (by decide)
theorem d_91_42 : decode (mB 91) 42 = .ok (.iinc 2 1, 3) := by decide +kernel
theorem s_91_42 {d : Nat} {Q : wQ} {L : List (Option Value)} {st : List Value} {w : aw} {cn sn : Nat} {a0 a1 : Option Value} {v : Int32} : wp d 91 Q 42 (a0 :: a1 :: some (.int v) :: L) st w cn sn = wp d 91 Q 45 (a0 :: clr a1 :: some (.int (v + 1)) :: L) st w cn sn := w_iinc d_91_42 rfl (by decide) rfl
theorem d_91_45 : decode (mB 91) 45 = .ok (.iinc 3 1, 3) := by decide +kernel
theorem s_91_45 {d : Nat} {Q : wQ} {L : List (Option Value)} {st : List Value} {w : aw} {cn sn : Nat} {a0 a1 a2 : Option Value} {v : Int32} : wp d 91 Q 45 (a0 :: a1 :: a2 :: some (.int v) :: L) st w cn sn = wp d 91 Q 48 (a0 :: a1 :: clr a2 :: some (.int (v + 1)) :: L) st w cn sn := w_iinc d_91_45 rfl (by decide) rfl
theorem d_91_48 : decode (mB 91) 48 = .ok (.goto (-21), 3) := by decide +kernel
theorem s_91_48 {d : Nat} {Q : wQ} {L : List (Option Value)} {st : List Value} {w : aw} {cn sn : Nat}  : wp d 91 Q 48 L st w cn sn = wp d 91 Q 27 L st w cn sn := w_goto d_91_48 (by decide)
theorem d_91_51 : decode (mB 91) 51 = .ok (.iload_n 2, 1) := by decide +kernel
theorem s_91_51 {d : Nat} {Q : wQ} {L : List (Option Value)} {st : List Value} {w : aw} {cn sn : Nat} {a0 a1 : Option Value} {v : Int32} : wp d 91 Q 51 (a0 :: a1 :: some (.int v) :: L) st w cn sn = wp d 91 Q 52 (a0 :: a1 :: some (.int v) :: L) (.int v :: st) w cn sn := w_iload_n d_91_51 rfl
theorem d_91_52 : decode (mB 91) 52 = .ok (.ireturn, 1) := by decide +kernel
theorem s_91_52 {d : Nat} {Q : wQ} {L : List (Option Value)} {w : aw} {cn sn : Nat} {v : Int32} : wp d 91 Q 52 L [.int v] w cn sn = Q (some (.int v)) w := w_ireturn d_91_52 rfl
theorem d_92_0 : decode (mB 92) 0 = .ok (.aload_n 0, 1) := by decide +kernel
theorem s_92_0 {d : Nat} {Q : wQ} {L : List (Option Value)} {st : List Value} {w : aw} {cn sn : Nat} {v : Nat} : wp d 92 Q 0 (some (.ref v) :: L) st w cn sn = wp d 92 Q 1 (some (.ref v) :: L) (.ref v :: st) w cn sn := w_aload_n d_92_0 rfl
theorem d_92_1 : decode (mB 92) 1 = .ok (.getfield 28, 3) := by decide +kernel
theorem s_92_1 {d : Nat} {Q : wQ} {L : List (Option Value)} {st : List Value} {w : aw} {cn sn : Nat} {a : Nat} : wp d 92 Q 1 L (.ref a :: st) w cn sn = (kd w a = 8 ∧ wp d 92 Q 4 L (fd w 450 a :: st) w cn sn) := w_getfield d_92_1 (by decide +kernel : fT (mO 92) 28 = some (7, 2))
theorem d_92_4 : decode (mB 92) 4 = .ok (.iload_n 1, 1) := by decide +kernel
theorem s_92_4 {d : Nat} {Q : wQ} {L : List (Option Value)} {st : List Value} {w : aw} {cn sn : Nat} {a0 : Option Value} {v : Int32} : wp d 92 Q 4 (a0 :: some (.int v) :: L) st w cn sn = wp d 92 Q 5 (a0 :: some (.int v) :: L) (.int v :: st) w cn sn := w_iload_n d_92_4 rfl
theorem d_92_5 : decode (mB 92) 5 = .ok (.invokevirtual 59, 3) := by decide +kernel
theorem s_92_5 {d : Nat} {Q : wQ} {L : List (Option Value)} {st : List Value} {w : aw} {cn sn : Nat} {v0 : Value} {b : Nat} : wp d 92 Q 5 L (v0 :: .ref b :: st) w cn sn = (kd w b = 2 ∧ catS st ≤ 8 ∧ wpD d 16 [.ref b, v0] w (fun v w' => wp d 92 Q 8 L (v.toList ++ st) w' cn sn)) := w_virtual (As := [v0]) d_92_5 (by decide +kernel : cT (mO 92) 59 = some (0, 16)) rfl (by decide +kernel) rfl (by decide +kernel) rfl
theorem d_92_8 : decode (mB 92) 8 = .ok (.astore_n 3, 1) := by decide +kernel
theorem s_92_8 {d : Nat} {Q : wQ} {L : List (Option Value)} {st : List Value} {w : aw} {cn sn : Nat} {a0 a1 a2 a3 : Option Value} {v : Nat} : wp d 92 Q 8 (a0 :: a1 :: a2 :: a3 :: L) (.ref v :: st) w cn sn = wp d 92 Q 9 (a0 :: a1 :: clr a2 :: some (.ref v) :: L) st w cn sn := w_astore_n d_92_8 (Nat.le_add_left 4 _) rfl
theorem s_92_8n {d : Nat} {Q : wQ} {L : List (Option Value)} {st : List Value} {w : aw} {cn sn : Nat} {a0 a1 a2 a3 : Option Value} : wp d 92 Q 8 (a0 :: a1 :: a2 :: a3 :: L) (.null :: st) w cn sn = wp d 92 Q 9 (a0 :: a1 :: clr a2 :: some .null :: L) st w cn sn := w_astore_nN d_92_8 (Nat.le_add_left 4 _) rfl
theorem d_92_9 : decode (mB 92) 9 = .ok (.aload_n 3, 1) := by decide +kernel
theorem s_92_9 {d : Nat} {Q : wQ} {L : List (Option Value)} {st : List Value} {w : aw} {cn sn : Nat} {a0 a1 a2 : Option Value} {v : Nat} : wp d 92 Q 9 (a0 :: a1 :: a2 :: some (.ref v) :: L) st w cn sn = wp d 92 Q 10 (a0 :: a1 :: a2 :: some (.ref v) :: L) (.ref v :: st) w cn sn := w_aload_n d_92_9 rfl
theorem s_92_9n {d : Nat} {Q : wQ} {L : List (Option Value)} {st : List Value} {w : aw} {cn sn : Nat} {a0 a1 a2 : Option Value} : wp d 92 Q 9 (a0 :: a1 :: a2 :: some .null :: L) st w cn sn = wp d 92 Q 10 (a0 :: a1 :: a2 :: some .null :: L) (.null :: st) w cn sn := w_aload_nN d_92_9 rfl
theorem d_92_10 : decode (mB 92) 10 = .ok (.ifnonnull 7, 3) := by decide +kernel
theorem s_92_10 {d : Nat} {Q : wQ} {L : List (Option Value)} {st : List Value} {w : aw} {cn sn : Nat} {q : Nat} : wp d 92 Q 10 L (.ref q :: st) w cn sn = wp d 92 Q 17 L st w cn sn := w_ifnn d_92_10 (t := 17) (by decide)
theorem s_92_10n {d : Nat} {Q : wQ} {L : List (Option Value)} {st : List Value} {w : aw} {cn sn : Nat}  : wp d 92 Q 10 L (.null :: st) w cn sn = wp d 92 Q 13 L st w cn sn := w_ifnnN d_92_10 (t := 17) (by decide)
theorem d_92_13 : decode (mB 92) 13 = .ok (.iconst (-1), 1) := by decide +kernel
theorem s_92_13 {d : Nat} {Q : wQ} {L : List (Option Value)} {st : List Value} {w : aw} {cn sn : Nat}  : wp d 92 Q 13 L st w cn sn = wp d 92 Q 14 L (.int (-1) :: st) w cn sn := w_iconst d_92_13 (by decide)
theorem d_92_14 : decode (mB 92) 14 = .ok (.goto 8, 3) := by decide +kernel
theorem s_92_14 {d : Nat} {Q : wQ} {L : List (Option Value)} {st : List Value} {w : aw} {cn sn : Nat}  : wp d 92 Q 14 L st w cn sn = wp d 92 Q 22 L st w cn sn := w_goto d_92_14 (by decide)
theorem d_92_17 : decode (mB 92) 17 = .ok (.aload_n 3, 1) := by decide +kernel
theorem s_92_17 {d : Nat} {Q : wQ} {L : List (Option Value)} {st : List Value} {w : aw} {cn sn : Nat} {a0 a1 a2 : Option Value} {v : Nat} : wp d 92 Q 17 (a0 :: a1 :: a2 :: some (.ref v) :: L) st w cn sn = wp d 92 Q 18 (a0 :: a1 :: a2 :: some (.ref v) :: L) (.ref v :: st) w cn sn := w_aload_n d_92_17 rfl
theorem s_92_17n {d : Nat} {Q : wQ} {L : List (Option Value)} {st : List Value} {w : aw} {cn sn : Nat} {a0 a1 a2 : Option Value} : wp d 92 Q 17 (a0 :: a1 :: a2 :: some .null :: L) st w cn sn = wp d 92 Q 18 (a0 :: a1 :: a2 :: some .null :: L) (.null :: st) w cn sn := w_aload_nN d_92_17 rfl
theorem d_92_18 : decode (mB 92) 18 = .ok (.iload_n 2, 1) := by decide +kernel
theorem s_92_18 {d : Nat} {Q : wQ} {L : List (Option Value)} {st : List Value} {w : aw} {cn sn : Nat} {a0 a1 : Option Value} {v : Int32} : wp d 92 Q 18 (a0 :: a1 :: some (.int v) :: L) st w cn sn = wp d 92 Q 19 (a0 :: a1 :: some (.int v) :: L) (.int v :: st) w cn sn := w_iload_n d_92_18 rfl
theorem d_92_19 : decode (mB 92) 19 = .ok (.invokevirtual 126, 3) := by decide +kernel
theorem s_92_19 {d : Nat} {Q : wQ} {L : List (Option Value)} {st : List Value} {w : aw} {cn sn : Nat} {v0 : Value} {b : Nat} : wp d 92 Q 19 L (v0 :: .ref b :: st) w cn sn = (kd w b = 7 ∧ catS st ≤ 8 ∧ wpD d 77 [.ref b, v0] w (fun v w' => wp d 92 Q 22 L (v.toList ++ st) w' cn sn)) := w_virtual (As := [v0]) d_92_19 (by decide +kernel : cT (mO 92) 126 = some (0, 77)) rfl (by decide +kernel) rfl (by decide +kernel) rfl
theorem d_92_22 : decode (mB 92) 22 = .ok (.ireturn, 1) := by decide +kernel
theorem s_92_22 {d : Nat} {Q : wQ} {L : List (Option Value)} {w : aw} {cn sn : Nat} {v : Int32} : wp d 92 Q 22 L [.int v] w cn sn = Q (some (.int v)) w := w_ireturn d_92_22 rfl
theorem d_93_0 : decode (mB 93) 0 = .ok (.aload_n 0, 1) := by decide +kernel
theorem s_93_0 {d : Nat} {Q : wQ} {L : List (Option Value)} {st : List Value} {w : aw} {cn sn : Nat} {v : Nat} : wp d 93 Q 0 (some (.ref v) :: L) st w cn sn = wp d 93 Q 1 (some (.ref v) :: L) (.ref v :: st) w cn sn := w_aload_n d_93_0 rfl
theorem d_93_1 : decode (mB 93) 1 = .ok (.getfield 28, 3) := by decide +kernel
theorem s_93_1 {d : Nat} {Q : wQ} {L : List (Option Value)} {st : List Value} {w : aw} {cn sn : Nat} {a : Nat} : wp d 93 Q 1 L (.ref a :: st) w cn sn = (kd w a = 8 ∧ wp d 93 Q 4 L (fd w 450 a :: st) w cn sn) := w_getfield d_93_1 (by decide +kernel : fT (mO 93) 28 = some (7, 2))
theorem d_93_4 : decode (mB 93) 4 = .ok (.iload_n 1, 1) := by decide +kernel
theorem s_93_4 {d : Nat} {Q : wQ} {L : List (Option Value)} {st : List Value} {w : aw} {cn sn : Nat} {a0 : Option Value} {v : Int32} : wp d 93 Q 4 (a0 :: some (.int v) :: L) st w cn sn = wp d 93 Q 5 (a0 :: some (.int v) :: L) (.int v :: st) w cn sn := w_iload_n d_93_4 rfl
theorem d_93_5 : decode (mB 93) 5 = .ok (.invokevirtual 59, 3) := by decide +kernel
theorem s_93_5 {d : Nat} {Q : wQ} {L : List (Option Value)} {st : List Value} {w : aw} {cn sn : Nat} {v0 : Value} {b : Nat} : wp d 93 Q 5 L (v0 :: .ref b :: st) w cn sn = (kd w b = 2 ∧ catS st ≤ 8 ∧ wpD d 16 [.ref b, v0] w (fun v w' => wp d 93 Q 8 L (v.toList ++ st) w' cn sn)) := w_virtual (As := [v0]) d_93_5 (by decide +kernel : cT (mO 93) 59 = some (0, 16)) rfl (by decide +kernel) rfl (by decide +kernel) rfl
theorem d_93_8 : decode (mB 93) 8 = .ok (.astore_n 3, 1) := by decide +kernel
theorem s_93_8 {d : Nat} {Q : wQ} {L : List (Option Value)} {st : List Value} {w : aw} {cn sn : Nat} {a0 a1 a2 a3 : Option Value} {v : Nat} : wp d 93 Q 8 (a0 :: a1 :: a2 :: a3 :: L) (.ref v :: st) w cn sn = wp d 93 Q 9 (a0 :: a1 :: clr a2 :: some (.ref v) :: L) st w cn sn := w_astore_n d_93_8 (Nat.le_add_left 4 _) rfl
theorem s_93_8n {d : Nat} {Q : wQ} {L : List (Option Value)} {st : List Value} {w : aw} {cn sn : Nat} {a0 a1 a2 a3 : Option Value} : wp d 93 Q 8 (a0 :: a1 :: a2 :: a3 :: L) (.null :: st) w cn sn = wp d 93 Q 9 (a0 :: a1 :: clr a2 :: some .null :: L) st w cn sn := w_astore_nN d_93_8 (Nat.le_add_left 4 _) rfl
theorem d_93_9 : decode (mB 93) 9 = .ok (.aload_n 3, 1) := by decide +kernel
theorem s_93_9 {d : Nat} {Q : wQ} {L : List (Option Value)} {st : List Value} {w : aw} {cn sn : Nat} {a0 a1 a2 : Option Value} {v : Nat} : wp d 93 Q 9 (a0 :: a1 :: a2 :: some (.ref v) :: L) st w cn sn = wp d 93 Q 10 (a0 :: a1 :: a2 :: some (.ref v) :: L) (.ref v :: st) w cn sn := w_aload_n d_93_9 rfl
theorem s_93_9n {d : Nat} {Q : wQ} {L : List (Option Value)} {st : List Value} {w : aw} {cn sn : Nat} {a0 a1 a2 : Option Value} : wp d 93 Q 9 (a0 :: a1 :: a2 :: some .null :: L) st w cn sn = wp d 93 Q 10 (a0 :: a1 :: a2 :: some .null :: L) (.null :: st) w cn sn := w_aload_nN d_93_9 rfl
theorem d_93_10 : decode (mB 93) 10 = .ok (.ifnonnull 7, 3) := by decide +kernel
theorem s_93_10 {d : Nat} {Q : wQ} {L : List (Option Value)} {st : List Value} {w : aw} {cn sn : Nat} {q : Nat} : wp d 93 Q 10 L (.ref q :: st) w cn sn = wp d 93 Q 17 L st w cn sn := w_ifnn d_93_10 (t := 17) (by decide)
theorem s_93_10n {d : Nat} {Q : wQ} {L : List (Option Value)} {st : List Value} {w : aw} {cn sn : Nat}  : wp d 93 Q 10 L (.null :: st) w cn sn = wp d 93 Q 13 L st w cn sn := w_ifnnN d_93_10 (t := 17) (by decide)
theorem d_93_13 : decode (mB 93) 13 = .ok (.iconst (-1), 1) := by decide +kernel
theorem s_93_13 {d : Nat} {Q : wQ} {L : List (Option Value)} {st : List Value} {w : aw} {cn sn : Nat}  : wp d 93 Q 13 L st w cn sn = wp d 93 Q 14 L (.int (-1) :: st) w cn sn := w_iconst d_93_13 (by decide)
theorem d_93_14 : decode (mB 93) 14 = .ok (.goto 8, 3) := by decide +kernel
theorem s_93_14 {d : Nat} {Q : wQ} {L : List (Option Value)} {st : List Value} {w : aw} {cn sn : Nat}  : wp d 93 Q 14 L st w cn sn = wp d 93 Q 22 L st w cn sn := w_goto d_93_14 (by decide)
theorem d_93_17 : decode (mB 93) 17 = .ok (.aload_n 3, 1) := by decide +kernel
theorem s_93_17 {d : Nat} {Q : wQ} {L : List (Option Value)} {st : List Value} {w : aw} {cn sn : Nat} {a0 a1 a2 : Option Value} {v : Nat} : wp d 93 Q 17 (a0 :: a1 :: a2 :: some (.ref v) :: L) st w cn sn = wp d 93 Q 18 (a0 :: a1 :: a2 :: some (.ref v) :: L) (.ref v :: st) w cn sn := w_aload_n d_93_17 rfl
theorem s_93_17n {d : Nat} {Q : wQ} {L : List (Option Value)} {st : List Value} {w : aw} {cn sn : Nat} {a0 a1 a2 : Option Value} : wp d 93 Q 17 (a0 :: a1 :: a2 :: some .null :: L) st w cn sn = wp d 93 Q 18 (a0 :: a1 :: a2 :: some .null :: L) (.null :: st) w cn sn := w_aload_nN d_93_17 rfl
theorem d_93_18 : decode (mB 93) 18 = .ok (.iload_n 2, 1) := by decide +kernel
theorem s_93_18 {d : Nat} {Q : wQ} {L : List (Option Value)} {st : List Value} {w : aw} {cn sn : Nat} {a0 a1 : Option Value} {v : Int32} : wp d 93 Q 18 (a0 :: a1 :: some (.int v) :: L) st w cn sn = wp d 93 Q 19 (a0 :: a1 :: some (.int v) :: L) (.int v :: st) w cn sn := w_iload_n d_93_18 rfl
theorem d_93_19 : decode (mB 93) 19 = .ok (.invokevirtual 130, 3) := by decide +kernel
theorem s_93_19 {d : Nat} {Q : wQ} {L : List (Option Value)} {st : List Value} {w : aw} {cn sn : Nat} {v0 : Value} {b : Nat} : wp d 93 Q 19 L (v0 :: .ref b :: st) w cn sn = (kd w b = 7 ∧ catS st ≤ 8 ∧ wpD d 76 [.ref b, v0] w (fun v w' => wp d 93 Q 22 L (v.toList ++ st) w' cn sn)) := w_virtual (As := [v0]) d_93_19 (by decide +kernel : cT (mO 93) 130 = some (0, 76)) rfl (by decide +kernel) rfl (by decide +kernel) rfl
theorem d_93_22 : decode (mB 93) 22 = .ok (.ireturn, 1) := by decide +kernel
theorem s_93_22 {d : Nat} {Q : wQ} {L : List (Option Value)} {w : aw} {cn sn : Nat} {v : Int32} : wp d 93 Q 22 L [.int v] w cn sn = Q (some (.int v)) w := w_ireturn d_93_22 rfl
theorem d_94_0 : decode (mB 94) 0 = .ok (.aload_n 0, 1) := by decide +kernel
theorem s_94_0 {d : Nat} {Q : wQ} {L : List (Option Value)} {st : List Value} {w : aw} {cn sn : Nat} {v : Nat} : wp d 94 Q 0 (some (.ref v) :: L) st w cn sn = wp d 94 Q 1 (some (.ref v) :: L) (.ref v :: st) w cn sn := w_aload_n d_94_0 rfl
theorem d_94_1 : decode (mB 94) 1 = .ok (.getfield 28, 3) := by decide +kernel
theorem s_94_1 {d : Nat} {Q : wQ} {L : List (Option Value)} {st : List Value} {w : aw} {cn sn : Nat} {a : Nat} : wp d 94 Q 1 L (.ref a :: st) w cn sn = (kd w a = 8 ∧ wp d 94 Q 4 L (fd w 450 a :: st) w cn sn) := w_getfield d_94_1 (by decide +kernel : fT (mO 94) 28 = some (7, 2))
theorem d_94_4 : decode (mB 94) 4 = .ok (.iload_n 1, 1) := by decide +kernel
theorem s_94_4 {d : Nat} {Q : wQ} {L : List (Option Value)} {st : List Value} {w : aw} {cn sn : Nat} {a0 : Option Value} {v : Int32} : wp d 94 Q 4 (a0 :: some (.int v) :: L) st w cn sn = wp d 94 Q 5 (a0 :: some (.int v) :: L) (.int v :: st) w cn sn := w_iload_n d_94_4 rfl
theorem d_94_5 : decode (mB 94) 5 = .ok (.invokevirtual 59, 3) := by decide +kernel
theorem s_94_5 {d : Nat} {Q : wQ} {L : List (Option Value)} {st : List Value} {w : aw} {cn sn : Nat} {v0 : Value} {b : Nat} : wp d 94 Q 5 L (v0 :: .ref b :: st) w cn sn = (kd w b = 2 ∧ catS st ≤ 8 ∧ wpD d 16 [.ref b, v0] w (fun v w' => wp d 94 Q 8 L (v.toList ++ st) w' cn sn)) := w_virtual (As := [v0]) d_94_5 (by decide +kernel : cT (mO 94) 59 = some (0, 16)) rfl (by decide +kernel) rfl (by decide +kernel) rfl
theorem d_94_8 : decode (mB 94) 8 = .ok (.astore_n 3, 1) := by decide +kernel
theorem s_94_8 {d : Nat} {Q : wQ} {L : List (Option Value)} {st : List Value} {w : aw} {cn sn : Nat} {a0 a1 a2 a3 : Option Value} {v : Nat} : wp d 94 Q 8 (a0 :: a1 :: a2 :: a3 :: L) (.ref v :: st) w cn sn = wp d 94 Q 9 (a0 :: a1 :: clr a2 :: some (.ref v) :: L) st w cn sn := w_astore_n d_94_8 (Nat.le_add_left 4 _) rfl
theorem s_94_8n {d : Nat} {Q : wQ} {L : List (Option Value)} {st : List Value} {w : aw} {cn sn : Nat} {a0 a1 a2 a3 : Option Value} : wp d 94 Q 8 (a0 :: a1 :: a2 :: a3 :: L) (.null :: st) w cn sn = wp d 94 Q 9 (a0 :: a1 :: clr a2 :: some .null :: L) st w cn sn := w_astore_nN d_94_8 (Nat.le_add_left 4 _) rfl
theorem d_94_9 : decode (mB 94) 9 = .ok (.aload_n 3, 1) := by decide +kernel
theorem s_94_9 {d : Nat} {Q : wQ} {L : List (Option Value)} {st : List Value} {w : aw} {cn sn : Nat} {a0 a1 a2 : Option Value} {v : Nat} : wp d 94 Q 9 (a0 :: a1 :: a2 :: some (.ref v) :: L) st w cn sn = wp d 94 Q 10 (a0 :: a1 :: a2 :: some (.ref v) :: L) (.ref v :: st) w cn sn := w_aload_n d_94_9 rfl
theorem s_94_9n {d : Nat} {Q : wQ} {L : List (Option Value)} {st : List Value} {w : aw} {cn sn : Nat} {a0 a1 a2 : Option Value} : wp d 94 Q 9 (a0 :: a1 :: a2 :: some .null :: L) st w cn sn = wp d 94 Q 10 (a0 :: a1 :: a2 :: some .null :: L) (.null :: st) w cn sn := w_aload_nN d_94_9 rfl
theorem d_94_10 : decode (mB 94) 10 = .ok (.ifnonnull 7, 3) := by decide +kernel
theorem s_94_10 {d : Nat} {Q : wQ} {L : List (Option Value)} {st : List Value} {w : aw} {cn sn : Nat} {q : Nat} : wp d 94 Q 10 L (.ref q :: st) w cn sn = wp d 94 Q 17 L st w cn sn := w_ifnn d_94_10 (t := 17) (by decide)
theorem s_94_10n {d : Nat} {Q : wQ} {L : List (Option Value)} {st : List Value} {w : aw} {cn sn : Nat}  : wp d 94 Q 10 L (.null :: st) w cn sn = wp d 94 Q 13 L st w cn sn := w_ifnnN d_94_10 (t := 17) (by decide)
theorem d_94_13 : decode (mB 94) 13 = .ok (.iconst (-1), 1) := by decide +kernel
theorem s_94_13 {d : Nat} {Q : wQ} {L : List (Option Value)} {st : List Value} {w : aw} {cn sn : Nat}  : wp d 94 Q 13 L st w cn sn = wp d 94 Q 14 L (.int (-1) :: st) w cn sn := w_iconst d_94_13 (by decide)
theorem d_94_14 : decode (mB 94) 14 = .ok (.goto 11, 3) := by decide +kernel
theorem s_94_14 {d : Nat} {Q : wQ} {L : List (Option Value)} {st : List Value} {w : aw} {cn sn : Nat}  : wp d 94 Q 14 L st w cn sn = wp d 94 Q 25 L st w cn sn := w_goto d_94_14 (by decide)
theorem d_94_17 : decode (mB 94) 17 = .ok (.aload_n 3, 1) := by decide +kernel
theorem s_94_17 {d : Nat} {Q : wQ} {L : List (Option Value)} {st : List Value} {w : aw} {cn sn : Nat} {a0 a1 a2 : Option Value} {v : Nat} : wp d 94 Q 17 (a0 :: a1 :: a2 :: some (.ref v) :: L) st w cn sn = wp d 94 Q 18 (a0 :: a1 :: a2 :: some (.ref v) :: L) (.ref v :: st) w cn sn := w_aload_n d_94_17 rfl
theorem s_94_17n {d : Nat} {Q : wQ} {L : List (Option Value)} {st : List Value} {w : aw} {cn sn : Nat} {a0 a1 a2 : Option Value} : wp d 94 Q 17 (a0 :: a1 :: a2 :: some .null :: L) st w cn sn = wp d 94 Q 18 (a0 :: a1 :: a2 :: some .null :: L) (.null :: st) w cn sn := w_aload_nN d_94_17 rfl
theorem d_94_18 : decode (mB 94) 18 = .ok (.getfield 111, 3) := by decide +kernel
theorem s_94_18 {d : Nat} {Q : wQ} {L : List (Option Value)} {st : List Value} {w : aw} {cn sn : Nat} {a : Nat} : wp d 94 Q 18 L (.ref a :: st) w cn sn = (kd w a = 7 ∧ wp d 94 Q 21 L (fd w 388 a :: st) w cn sn) := w_getfield d_94_18 (by decide +kernel : fT (mO 94) 111 = some (6, 4))
theorem d_94_21 : decode (mB 94) 21 = .ok (.iload_n 2, 1) := by decide +kernel
theorem s_94_21 {d : Nat} {Q : wQ} {L : List (Option Value)} {st : List Value} {w : aw} {cn sn : Nat} {a0 a1 : Option Value} {v : Int32} : wp d 94 Q 21 (a0 :: a1 :: some (.int v) :: L) st w cn sn = wp d 94 Q 22 (a0 :: a1 :: some (.int v) :: L) (.int v :: st) w cn sn := w_iload_n d_94_21 rfl
theorem d_94_22 : decode (mB 94) 22 = .ok (.invokevirtual 133, 3) := by decide +kernel
theorem s_94_22 {d : Nat} {Q : wQ} {L : List (Option Value)} {st : List Value} {w : aw} {cn sn : Nat} {v0 : Value} {b : Nat} : wp d 94 Q 22 L (v0 :: .ref b :: st) w cn sn = (kd w b = 3 ∧ catS st ≤ 8 ∧ wpD d 30 [.ref b, v0] w (fun v w' => wp d 94 Q 25 L (v.toList ++ st) w' cn sn)) := w_virtual (As := [v0]) d_94_22 (by decide +kernel : cT (mO 94) 133 = some (0, 30)) rfl (by decide +kernel) rfl (by decide +kernel) rfl
theorem d_94_25 : decode (mB 94) 25 = .ok (.ireturn, 1) := by decide +kernel
theorem s_94_25 {d : Nat} {Q : wQ} {L : List (Option Value)} {w : aw} {cn sn : Nat} {v : Int32} : wp d 94 Q 25 L [.int v] w cn sn = Q (some (.int v)) w := w_ireturn d_94_25 rfl
theorem d_95_0 : decode (mB 95) 0 = .ok (.aload_n 0, 1) := by decide +kernel
theorem s_95_0 {d : Nat} {Q : wQ} {L : List (Option Value)} {st : List Value} {w : aw} {cn sn : Nat} {v : Nat} : wp d 95 Q 0 (some (.ref v) :: L) st w cn sn = wp d 95 Q 1 (some (.ref v) :: L) (.ref v :: st) w cn sn := w_aload_n d_95_0 rfl
theorem d_95_1 : decode (mB 95) 1 = .ok (.getfield 28, 3) := by decide +kernel
theorem s_95_1 {d : Nat} {Q : wQ} {L : List (Option Value)} {st : List Value} {w : aw} {cn sn : Nat} {a : Nat} : wp d 95 Q 1 L (.ref a :: st) w cn sn = (kd w a = 8 ∧ wp d 95 Q 4 L (fd w 450 a :: st) w cn sn) := w_getfield d_95_1 (by decide +kernel : fT (mO 95) 28 = some (7, 2))
theorem d_95_4 : decode (mB 95) 4 = .ok (.iload_n 1, 1) := by decide +kernel
theorem s_95_4 {d : Nat} {Q : wQ} {L : List (Option Value)} {st : List Value} {w : aw} {cn sn : Nat} {a0 : Option Value} {v : Int32} : wp d 95 Q 4 (a0 :: some (.int v) :: L) st w cn sn = wp d 95 Q 5 (a0 :: some (.int v) :: L) (.int v :: st) w cn sn := w_iload_n d_95_4 rfl
theorem d_95_5 : decode (mB 95) 5 = .ok (.invokevirtual 59, 3) := by decide +kernel
theorem s_95_5 {d : Nat} {Q : wQ} {L : List (Option Value)} {st : List Value} {w : aw} {cn sn : Nat} {v0 : Value} {b : Nat} : wp d 95 Q 5 L (v0 :: .ref b :: st) w cn sn = (kd w b = 2 ∧ catS st ≤ 8 ∧ wpD d 16 [.ref b, v0] w (fun v w' => wp d 95 Q 8 L (v.toList ++ st) w' cn sn)) := w_virtual (As := [v0]) d_95_5 (by decide +kernel : cT (mO 95) 59 = some (0, 16)) rfl (by decide +kernel) rfl (by decide +kernel) rfl
theorem d_95_8 : decode (mB 95) 8 = .ok (.astore_n 3, 1) := by decide +kernel
theorem s_95_8 {d : Nat} {Q : wQ} {L : List (Option Value)} {st : List Value} {w : aw} {cn sn : Nat} {a0 a1 a2 a3 : Option Value} {v : Nat} : wp d 95 Q 8 (a0 :: a1 :: a2 :: a3 :: L) (.ref v :: st) w cn sn = wp d 95 Q 9 (a0 :: a1 :: clr a2 :: some (.ref v) :: L) st w cn sn := w_astore_n d_95_8 (Nat.le_add_left 4 _) rfl
theorem s_95_8n {d : Nat} {Q : wQ} {L : List (Option Value)} {st : List Value} {w : aw} {cn sn : Nat} {a0 a1 a2 a3 : Option Value} : wp d 95 Q 8 (a0 :: a1 :: a2 :: a3 :: L) (.null :: st) w cn sn = wp d 95 Q 9 (a0 :: a1 :: clr a2 :: some .null :: L) st w cn sn := w_astore_nN d_95_8 (Nat.le_add_left 4 _) rfl
theorem d_95_9 : decode (mB 95) 9 = .ok (.aload_n 3, 1) := by decide +kernel
theorem s_95_9 {d : Nat} {Q : wQ} {L : List (Option Value)} {st : List Value} {w : aw} {cn sn : Nat} {a0 a1 a2 : Option Value} {v : Nat} : wp d 95 Q 9 (a0 :: a1 :: a2 :: some (.ref v) :: L) st w cn sn = wp d 95 Q 10 (a0 :: a1 :: a2 :: some (.ref v) :: L) (.ref v :: st) w cn sn := w_aload_n d_95_9 rfl
theorem s_95_9n {d : Nat} {Q : wQ} {L : List (Option Value)} {st : List Value} {w : aw} {cn sn : Nat} {a0 a1 a2 : Option Value} : wp d 95 Q 9 (a0 :: a1 :: a2 :: some .null :: L) st w cn sn = wp d 95 Q 10 (a0 :: a1 :: a2 :: some .null :: L) (.null :: st) w cn sn := w_aload_nN d_95_9 rfl
theorem d_95_10 : decode (mB 95) 10 = .ok (.ifnonnull 7, 3) := by decide +kernel
theorem s_95_10 {d : Nat} {Q : wQ} {L : List (Option Value)} {st : List Value} {w : aw} {cn sn : Nat} {q : Nat} : wp d 95 Q 10 L (.ref q :: st) w cn sn = wp d 95 Q 17 L st w cn sn := w_ifnn d_95_10 (t := 17) (by decide)
theorem s_95_10n {d : Nat} {Q : wQ} {L : List (Option Value)} {st : List Value} {w : aw} {cn sn : Nat}  : wp d 95 Q 10 L (.null :: st) w cn sn = wp d 95 Q 13 L st w cn sn := w_ifnnN d_95_10 (t := 17) (by decide)
theorem d_95_13 : decode (mB 95) 13 = .ok (.iconst (-1), 1) := by decide +kernel
theorem s_95_13 {d : Nat} {Q : wQ} {L : List (Option Value)} {st : List Value} {w : aw} {cn sn : Nat}  : wp d 95 Q 13 L st w cn sn = wp d 95 Q 14 L (.int (-1) :: st) w cn sn := w_iconst d_95_13 (by decide)
theorem d_95_14 : decode (mB 95) 14 = .ok (.goto 11, 3) := by decide +kernel
theorem s_95_14 {d : Nat} {Q : wQ} {L : List (Option Value)} {st : List Value} {w : aw} {cn sn : Nat}  : wp d 95 Q 14 L st w cn sn = wp d 95 Q 25 L st w cn sn := w_goto d_95_14 (by decide)
theorem d_95_17 : decode (mB 95) 17 = .ok (.aload_n 3, 1) := by decide +kernel
theorem s_95_17 {d : Nat} {Q : wQ} {L : List (Option Value)} {st : List Value} {w : aw} {cn sn : Nat} {a0 a1 a2 : Option Value} {v : Nat} : wp d 95 Q 17 (a0 :: a1 :: a2 :: some (.ref v) :: L) st w cn sn = wp d 95 Q 18 (a0 :: a1 :: a2 :: some (.ref v) :: L) (.ref v :: st) w cn sn := w_aload_n d_95_17 rfl
theorem s_95_17n {d : Nat} {Q : wQ} {L : List (Option Value)} {st : List Value} {w : aw} {cn sn : Nat} {a0 a1 a2 : Option Value} : wp d 95 Q 17 (a0 :: a1 :: a2 :: some .null :: L) st w cn sn = wp d 95 Q 18 (a0 :: a1 :: a2 :: some .null :: L) (.null :: st) w cn sn := w_aload_nN d_95_17 rfl
theorem d_95_18 : decode (mB 95) 18 = .ok (.getfield 136, 3) := by decide +kernel
theorem s_95_18 {d : Nat} {Q : wQ} {L : List (Option Value)} {st : List Value} {w : aw} {cn sn : Nat} {a : Nat} : wp d 95 Q 18 L (.ref a :: st) w cn sn = (kd w a = 7 ∧ wp d 95 Q 21 L (fd w 389 a :: st) w cn sn) := w_getfield d_95_18 (by decide +kernel : fT (mO 95) 136 = some (6, 5))
theorem d_95_21 : decode (mB 95) 21 = .ok (.iload_n 2, 1) := by decide +kernel
theorem s_95_21 {d : Nat} {Q : wQ} {L : List (Option Value)} {st : List Value} {w : aw} {cn sn : Nat} {a0 a1 : Option Value} {v : Int32} : wp d 95 Q 21 (a0 :: a1 :: some (.int v) :: L) st w cn sn = wp d 95 Q 22 (a0 :: a1 :: some (.int v) :: L) (.int v :: st) w cn sn := w_iload_n d_95_21 rfl
theorem d_95_22 : decode (mB 95) 22 = .ok (.invokevirtual 133, 3) := by decide +kernel
theorem s_95_22 {d : Nat} {Q : wQ} {L : List (Option Value)} {st : List Value} {w : aw} {cn sn : Nat} {v0 : Value} {b : Nat} : wp d 95 Q 22 L (v0 :: .ref b :: st) w cn sn = (kd w b = 3 ∧ catS st ≤ 8 ∧ wpD d 30 [.ref b, v0] w (fun v w' => wp d 95 Q 25 L (v.toList ++ st) w' cn sn)) := w_virtual (As := [v0]) d_95_22 (by decide +kernel : cT (mO 95) 133 = some (0, 30)) rfl (by decide +kernel) rfl (by decide +kernel) rfl
theorem d_95_25 : decode (mB 95) 25 = .ok (.ireturn, 1) := by decide +kernel
theorem s_95_25 {d : Nat} {Q : wQ} {L : List (Option Value)} {w : aw} {cn sn : Nat} {v : Int32} : wp d 95 Q 25 L [.int v] w cn sn = Q (some (.int v)) w := w_ireturn d_95_25 rfl
theorem d_96_0 : decode (mB 96) 0 = .ok (.aload_n 0, 1) := by decide +kernel
theorem s_96_0 {d : Nat} {Q : wQ} {L : List (Option Value)} {st : List Value} {w : aw} {cn sn : Nat} {v : Nat} : wp d 96 Q 0 (some (.ref v) :: L) st w cn sn = wp d 96 Q 1 (some (.ref v) :: L) (.ref v :: st) w cn sn := w_aload_n d_96_0 rfl
theorem d_96_1 : decode (mB 96) 1 = .ok (.getfield 28, 3) := by decide +kernel
theorem s_96_1 {d : Nat} {Q : wQ} {L : List (Option Value)} {st : List Value} {w : aw} {cn sn : Nat} {a : Nat} : wp d 96 Q 1 L (.ref a :: st) w cn sn = (kd w a = 8 ∧ wp d 96 Q 4 L (fd w 450 a :: st) w cn sn) := w_getfield d_96_1 (by decide +kernel : fT (mO 96) 28 = some (7, 2))
theorem d_96_4 : decode (mB 96) 4 = .ok (.iload_n 1, 1) := by decide +kernel
theorem s_96_4 {d : Nat} {Q : wQ} {L : List (Option Value)} {st : List Value} {w : aw} {cn sn : Nat} {a0 : Option Value} {v : Int32} : wp d 96 Q 4 (a0 :: some (.int v) :: L) st w cn sn = wp d 96 Q 5 (a0 :: some (.int v) :: L) (.int v :: st) w cn sn := w_iload_n d_96_4 rfl
theorem d_96_5 : decode (mB 96) 5 = .ok (.invokevirtual 139, 3) := by decide +kernel
theorem s_96_5 {d : Nat} {Q : wQ} {L : List (Option Value)} {st : List Value} {w : aw} {cn sn : Nat} {v0 : Value} {b : Nat} : wp d 96 Q 5 L (v0 :: .ref b :: st) w cn sn = (kd w b = 2 ∧ catS st ≤ 8 ∧ wpD d 26 [.ref b, v0] w (fun v w' => wp d 96 Q 8 L (v.toList ++ st) w' cn sn)) := w_virtual (As := [v0]) d_96_5 (by decide +kernel : cT (mO 96) 139 = some (0, 26)) rfl (by decide +kernel) rfl (by decide +kernel) rfl
theorem d_96_8 : decode (mB 96) 8 = .ok (.ireturn, 1) := by decide +kernel
theorem s_96_8 {d : Nat} {Q : wQ} {L : List (Option Value)} {w : aw} {cn sn : Nat} {v : Int32} : wp d 96 Q 8 L [.int v] w cn sn = Q (some (.int v)) w := w_ireturn d_96_8 rfl
theorem d_97_0 : decode (mB 97) 0 = .ok (.aload_n 0, 1) := by decide +kernel
theorem s_97_0 {d : Nat} {Q : wQ} {L : List (Option Value)} {st : List Value} {w : aw} {cn sn : Nat} {v : Nat} : wp d 97 Q 0 (some (.ref v) :: L) st w cn sn = wp d 97 Q 1 (some (.ref v) :: L) (.ref v :: st) w cn sn := w_aload_n d_97_0 rfl
theorem d_97_1 : decode (mB 97) 1 = .ok (.getfield 28, 3) := by decide +kernel
theorem s_97_1 {d : Nat} {Q : wQ} {L : List (Option Value)} {st : List Value} {w : aw} {cn sn : Nat} {a : Nat} : wp d 97 Q 1 L (.ref a :: st) w cn sn = (kd w a = 8 ∧ wp d 97 Q 4 L (fd w 450 a :: st) w cn sn) := w_getfield d_97_1 (by decide +kernel : fT (mO 97) 28 = some (7, 2))
theorem d_97_4 : decode (mB 97) 4 = .ok (.iload_n 1, 1) := by decide +kernel
theorem s_97_4 {d : Nat} {Q : wQ} {L : List (Option Value)} {st : List Value} {w : aw} {cn sn : Nat} {a0 : Option Value} {v : Int32} : wp d 97 Q 4 (a0 :: some (.int v) :: L) st w cn sn = wp d 97 Q 5 (a0 :: some (.int v) :: L) (.int v :: st) w cn sn := w_iload_n d_97_4 rfl
theorem d_97_5 : decode (mB 97) 5 = .ok (.invokevirtual 140, 3) := by decide +kernel
theorem s_97_5 {d : Nat} {Q : wQ} {L : List (Option Value)} {st : List Value} {w : aw} {cn sn : Nat} {v0 : Value} {b : Nat} : wp d 97 Q 5 L (v0 :: .ref b :: st) w cn sn = (kd w b = 2 ∧ catS st ≤ 8 ∧ wpD d 25 [.ref b, v0] w (fun v w' => wp d 97 Q 8 L (v.toList ++ st) w' cn sn)) := w_virtual (As := [v0]) d_97_5 (by decide +kernel : cT (mO 97) 140 = some (0, 25)) rfl (by decide +kernel) rfl (by decide +kernel) rfl
theorem d_97_8 : decode (mB 97) 8 = .ok (.ireturn, 1) := by decide +kernel
theorem s_97_8 {d : Nat} {Q : wQ} {L : List (Option Value)} {w : aw} {cn sn : Nat} {v : Int32} : wp d 97 Q 8 L [.int v] w cn sn = Q (some (.int v)) w := w_ireturn d_97_8 rfl
theorem d_98_0 : decode (mB 98) 0 = .ok (.ldc2_w 143, 3) := by decide +kernel
theorem s_98_0 {d : Nat} {Q : wQ} {L : List (Option Value)} {st : List Value} {w : aw} {cn sn : Nat}  : wp d 98 Q 0 L st w cn sn = wp d 98 Q 3 L (.long 7 :: st) w cn sn := w_ldc2 d_98_0 (by decide +kernel : kT (mO 98) 143 = some (.long 7))
theorem d_98_3 : decode (mB 98) 3 = .ok (.lstore_n 1, 1) := by decide +kernel
theorem s_98_3 {d : Nat} {Q : wQ} {L : List (Option Value)} {st : List Value} {w : aw} {cn sn : Nat} {a0 a1 a2 : Option Value} {v : Int64} : wp d 98 Q 3 (a0 :: a1 :: a2 :: L) (.long v :: st) w cn sn = wp d 98 Q 4 (clr a0 :: some (.long v) :: none :: L) st w cn sn := w_lstore_n d_98_3 (Nat.le_add_left 3 _) rfl
theorem d_98_4 : decode (mB 98) 4 = .ok (.iconst 0, 1) := by decide +kernel
theorem s_98_4 {d : Nat} {Q : wQ} {L : List (Option Value)} {st : List Value} {w : aw} {cn sn : Nat}  : wp d 98 Q 4 L st w cn sn = wp d 98 Q 5 L (.int 0 :: st) w cn sn := w_iconst d_98_4 (by decide)
theorem d_98_5 : decode (mB 98) 5 = .ok (.istore_n 3, 1) := by decide +kernel
theorem s_98_5 {d : Nat} {Q : wQ} {L : List (Option Value)} {st : List Value} {w : aw} {cn sn : Nat} {a0 a1 a2 a3 : Option Value} {v : Int32} : wp d 98 Q 5 (a0 :: a1 :: a2 :: a3 :: L) (.int v :: st) w cn sn = wp d 98 Q 6 (a0 :: a1 :: clr a2 :: some (.int v) :: L) st w cn sn := w_istore_n d_98_5 (Nat.le_add_left 4 _) rfl
theorem d_98_6 : decode (mB 98) 6 = .ok (.iload_n 3, 1) := by decide +kernel
theorem s_98_6 {d : Nat} {Q : wQ} {L : List (Option Value)} {st : List Value} {w : aw} {cn sn : Nat} {a0 a1 a2 : Option Value} {v : Int32} : wp d 98 Q 6 (a0 :: a1 :: a2 :: some (.int v) :: L) st w cn sn = wp d 98 Q 7 (a0 :: a1 :: a2 :: some (.int v) :: L) (.int v :: st) w cn sn := w_iload_n d_98_6 rfl
theorem d_98_7 : decode (mB 98) 7 = .ok (.bipush 11, 2) := by decide +kernel
theorem s_98_7 {d : Nat} {Q : wQ} {L : List (Option Value)} {st : List Value} {w : aw} {cn sn : Nat}  : wp d 98 Q 7 L st w cn sn = wp d 98 Q 9 L (.int 11 :: st) w cn sn := w_bipush d_98_7 (by decide)
theorem d_98_9 : decode (mB 98) 9 = .ok (.if_icmp .ge 22, 3) := by decide +kernel
theorem s_98_9 {d : Nat} {Q : wQ} {L : List (Option Value)} {st : List Value} {w : aw} {cn sn : Nat} {a b : Int32} : wp d 98 Q 9 L (.int b :: .int a :: st) w cn sn = ((b ≤ a → wp d 98 Q 31 L st w cn sn) ∧ (¬ b ≤ a → wp d 98 Q 12 L st w cn sn)) := w_icge d_98_9 (by decide)
theorem d_98_12 : decode (mB 98) 12 = .ok (.lload_n 1, 1) := by decide +kernel
theorem s_98_12 {d : Nat} {Q : wQ} {L : List (Option Value)} {st : List Value} {w : aw} {cn sn : Nat} {a0 : Option Value} {v : Int64} : wp d 98 Q 12 (a0 :: some (.long v) :: L) st w cn sn = wp d 98 Q 13 (a0 :: some (.long v) :: L) (.long v :: st) w cn sn := w_lload_n d_98_12 rfl
theorem d_98_13 : decode (mB 98) 13 = .ok (.ldc2_w 145, 3) := by decide +kernel
theorem s_98_13 {d : Nat} {Q : wQ} {L : List (Option Value)} {st : List Value} {w : aw} {cn sn : Nat}  : wp d 98 Q 13 L st w cn sn = wp d 98 Q 16 L (.long 31 :: st) w cn sn := w_ldc2 d_98_13 (by decide +kernel : kT (mO 98) 145 = some (.long 31))
theorem d_98_16 : decode (mB 98) 16 = .ok (.lmul, 1) := by decide +kernel
theorem s_98_16 {d : Nat} {Q : wQ} {L : List (Option Value)} {st : List Value} {w : aw} {cn sn : Nat} {a b : Int64} : wp d 98 Q 16 L (.long b :: .long a :: st) w cn sn = wp d 98 Q 17 L (.long (a * b) :: st) w cn sn := wp_row d_98_16 _ _ _ _ _
theorem d_98_17 : decode (mB 98) 17 = .ok (.aload_n 0, 1) := by decide +kernel
theorem s_98_17 {d : Nat} {Q : wQ} {L : List (Option Value)} {st : List Value} {w : aw} {cn sn : Nat} {v : Nat} : wp d 98 Q 17 (some (.ref v) :: L) st w cn sn = wp d 98 Q 18 (some (.ref v) :: L) (.ref v :: st) w cn sn := w_aload_n d_98_17 rfl
theorem d_98_18 : decode (mB 98) 18 = .ok (.iload_n 3, 1) := by decide +kernel
theorem s_98_18 {d : Nat} {Q : wQ} {L : List (Option Value)} {st : List Value} {w : aw} {cn sn : Nat} {a0 a1 a2 : Option Value} {v : Int32} : wp d 98 Q 18 (a0 :: a1 :: a2 :: some (.int v) :: L) st w cn sn = wp d 98 Q 19 (a0 :: a1 :: a2 :: some (.int v) :: L) (.int v :: st) w cn sn := w_iload_n d_98_18 rfl
theorem d_98_19 : decode (mB 98) 19 = .ok (.invokevirtual 147, 3) := by decide +kernel
theorem s_98_19 {d : Nat} {Q : wQ} {L : List (Option Value)} {st : List Value} {w : aw} {cn sn : Nat} {v0 : Value} {b : Nat} : wp d 98 Q 19 L (v0 :: .ref b :: st) w cn sn = (kd w b = 8 ∧ catS st ≤ 8 ∧ wpD d 96 [.ref b, v0] w (fun v w' => wp d 98 Q 22 L (v.toList ++ st) w' cn sn)) := w_virtual (As := [v0]) d_98_19 (by decide +kernel : cT (mO 98) 147 = some (0, 96)) rfl (by decide +kernel) rfl (by decide +kernel) rfl
theorem d_98_22 : decode (mB 98) 22 = .ok (.i2l, 1) := by decide +kernel
theorem s_98_22 {d : Nat} {Q : wQ} {L : List (Option Value)} {st : List Value} {w : aw} {cn sn : Nat} {a : Int32} : wp d 98 Q 22 L (.int a :: st) w cn sn = wp d 98 Q 23 L (.long a.toInt64 :: st) w cn sn := wp_row d_98_22 _ _ _ _ _
theorem d_98_23 : decode (mB 98) 23 = .ok (.ladd, 1) := by decide +kernel
theorem s_98_23 {d : Nat} {Q : wQ} {L : List (Option Value)} {st : List Value} {w : aw} {cn sn : Nat} {a b : Int64} : wp d 98 Q 23 L (.long b :: .long a :: st) w cn sn = wp d 98 Q 24 L (.long (a + b) :: st) w cn sn := wp_row d_98_23 _ _ _ _ _
theorem d_98_24 : decode (mB 98) 24 = .ok (.lstore_n 1, 1) := by decide +kernel
theorem s_98_24 {d : Nat} {Q : wQ} {L : List (Option Value)} {st : List Value} {w : aw} {cn sn : Nat} {a0 a1 a2 : Option Value} {v : Int64} : wp d 98 Q 24 (a0 :: a1 :: a2 :: L) (.long v :: st) w cn sn = wp d 98 Q 25 (clr a0 :: some (.long v) :: none :: L) st w cn sn := w_lstore_n d_98_24 (Nat.le_add_left 3 _) rfl
theorem d_98_25 : decode (mB 98) 25 = .ok (.iinc 3 1, 3) := by decide +kernel
theorem s_98_25 {d : Nat} {Q : wQ} {L : List (Option Value)} {st : List Value} {w : aw} {cn sn : Nat} {a0 a1 a2 : Option Value} {v : Int32} : wp d 98 Q 25 (a0 :: a1 :: a2 :: some (.int v) :: L) st w cn sn = wp d 98 Q 28 (a0 :: a1 :: clr a2 :: some (.int (v + 1)) :: L) st w cn sn := w_iinc d_98_25 rfl (by decide) rfl
theorem d_98_28 : decode (mB 98) 28 = .ok (.goto (-22), 3) := by decide +kernel
theorem s_98_28 {d : Nat} {Q : wQ} {L : List (Option Value)} {st : List Value} {w : aw} {cn sn : Nat}  : wp d 98 Q 28 L st w cn sn = wp d 98 Q 6 L st w cn sn := w_goto d_98_28 (by decide)
theorem d_98_31 : decode (mB 98) 31 = .ok (.iconst 0, 1) := by decide +kernel
theorem s_98_31 {d : Nat} {Q : wQ} {L : List (Option Value)} {st : List Value} {w : aw} {cn sn : Nat}  : wp d 98 Q 31 L st w cn sn = wp d 98 Q 32 L (.int 0 :: st) w cn sn := w_iconst d_98_31 (by decide)
theorem d_98_32 : decode (mB 98) 32 = .ok (.istore_n 3, 1) := by decide +kernel
theorem s_98_32 {d : Nat} {Q : wQ} {L : List (Option Value)} {st : List Value} {w : aw} {cn sn : Nat} {a0 a1 a2 a3 : Option Value} {v : Int32} : wp d 98 Q 32 (a0 :: a1 :: a2 :: a3 :: L) (.int v :: st) w cn sn = wp d 98 Q 33 (a0 :: a1 :: clr a2 :: some (.int v) :: L) st w cn sn := w_istore_n d_98_32 (Nat.le_add_left 4 _) rfl
theorem d_98_33 : decode (mB 98) 33 = .ok (.iload_n 3, 1) := by decide +kernel
theorem s_98_33 {d : Nat} {Q : wQ} {L : List (Option Value)} {st : List Value} {w : aw} {cn sn : Nat} {a0 a1 a2 : Option Value} {v : Int32} : wp d 98 Q 33 (a0 :: a1 :: a2 :: some (.int v) :: L) st w cn sn = wp d 98 Q 34 (a0 :: a1 :: a2 :: some (.int v) :: L) (.int v :: st) w cn sn := w_iload_n d_98_33 rfl
theorem d_98_34 : decode (mB 98) 34 = .ok (.bipush 8, 2) := by decide +kernel
theorem s_98_34 {d : Nat} {Q : wQ} {L : List (Option Value)} {st : List Value} {w : aw} {cn sn : Nat}  : wp d 98 Q 34 L st w cn sn = wp d 98 Q 36 L (.int 8 :: st) w cn sn := w_bipush d_98_34 (by decide)
theorem d_98_36 : decode (mB 98) 36 = .ok (.if_icmp .ge 31, 3) := by decide +kernel
theorem s_98_36 {d : Nat} {Q : wQ} {L : List (Option Value)} {st : List Value} {w : aw} {cn sn : Nat} {a b : Int32} : wp d 98 Q 36 L (.int b :: .int a :: st) w cn sn = ((b ≤ a → wp d 98 Q 67 L st w cn sn) ∧ (¬ b ≤ a → wp d 98 Q 39 L st w cn sn)) := w_icge d_98_36 (by decide)
theorem d_98_39 : decode (mB 98) 39 = .ok (.aload_n 0, 1) := by decide +kernel
theorem s_98_39 {d : Nat} {Q : wQ} {L : List (Option Value)} {st : List Value} {w : aw} {cn sn : Nat} {v : Nat} : wp d 98 Q 39 (some (.ref v) :: L) st w cn sn = wp d 98 Q 40 (some (.ref v) :: L) (.ref v :: st) w cn sn := w_aload_n d_98_39 rfl
theorem d_98_40 : decode (mB 98) 40 = .ok (.getfield 28, 3) := by decide +kernel
theorem s_98_40 {d : Nat} {Q : wQ} {L : List (Option Value)} {st : List Value} {w : aw} {cn sn : Nat} {a : Nat} : wp d 98 Q 40 L (.ref a :: st) w cn sn = (kd w a = 8 ∧ wp d 98 Q 43 L (fd w 450 a :: st) w cn sn) := w_getfield d_98_40 (by decide +kernel : fT (mO 98) 28 = some (7, 2))
theorem d_98_43 : decode (mB 98) 43 = .ok (.iload_n 3, 1) := by decide +kernel
theorem s_98_43 {d : Nat} {Q : wQ} {L : List (Option Value)} {st : List Value} {w : aw} {cn sn : Nat} {a0 a1 a2 : Option Value} {v : Int32} : wp d 98 Q 43 (a0 :: a1 :: a2 :: some (.int v) :: L) st w cn sn = wp d 98 Q 44 (a0 :: a1 :: a2 :: some (.int v) :: L) (.int v :: st) w cn sn := w_iload_n d_98_43 rfl
theorem d_98_44 : decode (mB 98) 44 = .ok (.invokevirtual 59, 3) := by decide +kernel
theorem s_98_44 {d : Nat} {Q : wQ} {L : List (Option Value)} {st : List Value} {w : aw} {cn sn : Nat} {v0 : Value} {b : Nat} : wp d 98 Q 44 L (v0 :: .ref b :: st) w cn sn = (kd w b = 2 ∧ catS st ≤ 8 ∧ wpD d 16 [.ref b, v0] w (fun v w' => wp d 98 Q 47 L (v.toList ++ st) w' cn sn)) := w_virtual (As := [v0]) d_98_44 (by decide +kernel : cT (mO 98) 59 = some (0, 16)) rfl (by decide +kernel) rfl (by decide +kernel) rfl
theorem d_98_47 : decode (mB 98) 47 = .ok (.astore 4, 2) := by decide +kernel
theorem s_98_47 {d : Nat} {Q : wQ} {L : List (Option Value)} {st : List Value} {w : aw} {cn sn : Nat} {a0 a1 a2 a3 a4 : Option Value} {v : Nat} : wp d 98 Q 47 (a0 :: a1 :: a2 :: a3 :: a4 :: L) (.ref v :: st) w cn sn = wp d 98 Q 49 (a0 :: a1 :: a2 :: clr a3 :: some (.ref v) :: L) st w cn sn := w_astore d_98_47 (Nat.le_add_left 5 _) rfl
theorem s_98_47n {d : Nat} {Q : wQ} {L : List (Option Value)} {st : List Value} {w : aw} {cn sn : Nat} {a0 a1 a2 a3 a4 : Option Value} : wp d 98 Q 47 (a0 :: a1 :: a2 :: a3 :: a4 :: L) (.null :: st) w cn sn = wp d 98 Q 49 (a0 :: a1 :: a2 :: clr a3 :: some .null :: L) st w cn sn := w_astoreN d_98_47 (Nat.le_add_left 5 _) rfl
theorem d_98_49 : decode (mB 98) 49 = .ok (.aload 4, 2) := by decide +kernel
theorem s_98_49 {d : Nat} {Q : wQ} {L : List (Option Value)} {st : List Value} {w : aw} {cn sn : Nat} {a0 a1 a2 a3 : Option Value} {v : Nat} : wp d 98 Q 49 (a0 :: a1 :: a2 :: a3 :: some (.ref v) :: L) st w cn sn = wp d 98 Q 51 (a0 :: a1 :: a2 :: a3 :: some (.ref v) :: L) (.ref v :: st) w cn sn := w_aload d_98_49 rfl
theorem s_98_49n {d : Nat} {Q : wQ} {L : List (Option Value)} {st : List Value} {w : aw} {cn sn : Nat} {a0 a1 a2 a3 : Option Value} : wp d 98 Q 49 (a0 :: a1 :: a2 :: a3 :: some .null :: L) st w cn sn = wp d 98 Q 51 (a0 :: a1 :: a2 :: a3 :: some .null :: L) (.null :: st) w cn sn := w_aloadN d_98_49 rfl
theorem d_98_51 : decode (mB 98) 51 = .ok (.ifnull 10, 3) := by decide +kernel
theorem s_98_51 {d : Nat} {Q : wQ} {L : List (Option Value)} {st : List Value} {w : aw} {cn sn : Nat} {q : Nat} : wp d 98 Q 51 L (.ref q :: st) w cn sn = wp d 98 Q 54 L st w cn sn := w_ifnull d_98_51 (t := 61) (by decide)
theorem s_98_51n {d : Nat} {Q : wQ} {L : List (Option Value)} {st : List Value} {w : aw} {cn sn : Nat}  : wp d 98 Q 51 L (.null :: st) w cn sn = wp d 98 Q 61 L st w cn sn := w_ifnullN d_98_51 (t := 61) (by decide)
theorem d_98_54 : decode (mB 98) 54 = .ok (.aload 4, 2) := by decide +kernel
theorem s_98_54 {d : Nat} {Q : wQ} {L : List (Option Value)} {st : List Value} {w : aw} {cn sn : Nat} {a0 a1 a2 a3 : Option Value} {v : Nat} : wp d 98 Q 54 (a0 :: a1 :: a2 :: a3 :: some (.ref v) :: L) st w cn sn = wp d 98 Q 56 (a0 :: a1 :: a2 :: a3 :: some (.ref v) :: L) (.ref v :: st) w cn sn := w_aload d_98_54 rfl
theorem s_98_54n {d : Nat} {Q : wQ} {L : List (Option Value)} {st : List Value} {w : aw} {cn sn : Nat} {a0 a1 a2 a3 : Option Value} : wp d 98 Q 54 (a0 :: a1 :: a2 :: a3 :: some .null :: L) st w cn sn = wp d 98 Q 56 (a0 :: a1 :: a2 :: a3 :: some .null :: L) (.null :: st) w cn sn := w_aloadN d_98_54 rfl
theorem d_98_56 : decode (mB 98) 56 = .ok (.lload_n 1, 1) := by decide +kernel
theorem s_98_56 {d : Nat} {Q : wQ} {L : List (Option Value)} {st : List Value} {w : aw} {cn sn : Nat} {a0 : Option Value} {v : Int64} : wp d 98 Q 56 (a0 :: some (.long v) :: L) st w cn sn = wp d 98 Q 57 (a0 :: some (.long v) :: L) (.long v :: st) w cn sn := w_lload_n d_98_56 rfl
theorem d_98_57 : decode (mB 98) 57 = .ok (.invokestatic 150, 3) := by decide +kernel
theorem s_98_57 {d : Nat} {Q : wQ} {L : List (Option Value)} {st : List Value} {w : aw} {cn sn : Nat} {v0 v1 : Value} : wp d 98 Q 57 L (v1 :: v0 :: st) w cn sn = (catS st ≤ 8 ∧ wpD d 99 [v0, v1] w (fun v w' => wp d 98 Q 60 L (v.toList ++ st) w' cn sn)) := w_static (As := [v0, v1]) d_98_57 (by decide +kernel : cT (mO 98) 150 = some (2, 99)) (by decide +kernel) rfl (by decide +kernel) rfl
theorem d_98_60 : decode (mB 98) 60 = .ok (.lstore_n 1, 1) := by decide +kernel
theorem s_98_60 {d : Nat} {Q : wQ} {L : List (Option Value)} {st : List Value} {w : aw} {cn sn : Nat} {a0 a1 a2 : Option Value} {v : Int64} : wp d 98 Q 60 (a0 :: a1 :: a2 :: L) (.long v :: st) w cn sn = wp d 98 Q 61 (clr a0 :: some (.long v) :: none :: L) st w cn sn := w_lstore_n d_98_60 (Nat.le_add_left 3 _) rfl
theorem d_98_61 : decode (mB 98) 61 = .ok (.iinc 3 1, 3) := by decide +kernel
theorem s_98_61 {d : Nat} {Q : wQ} {L : List (Option Value)} {st : List Value} {w : aw} {cn sn : Nat} {a0 a1 a2 : Option Value} {v : Int32} : wp d 98 Q 61 (a0 :: a1 :: a2 :: some (.int v) :: L) st w cn sn = wp d 98 Q 64 (a0 :: a1 :: clr a2 :: some (.int (v + 1)) :: L) st w cn sn := w_iinc d_98_61 rfl (by decide) rfl
theorem d_98_64 : decode (mB 98) 64 = .ok (.goto (-31), 3) := by decide +kernel
theorem s_98_64 {d : Nat} {Q : wQ} {L : List (Option Value)} {st : List Value} {w : aw} {cn sn : Nat}  : wp d 98 Q 64 L st w cn sn = wp d 98 Q 33 L st w cn sn := w_goto d_98_64 (by decide)
theorem d_98_67 : decode (mB 98) 67 = .ok (.lload_n 1, 1) := by decide +kernel
theorem s_98_67 {d : Nat} {Q : wQ} {L : List (Option Value)} {st : List Value} {w : aw} {cn sn : Nat} {a0 : Option Value} {v : Int64} : wp d 98 Q 67 (a0 :: some (.long v) :: L) st w cn sn = wp d 98 Q 68 (a0 :: some (.long v) :: L) (.long v :: st) w cn sn := w_lload_n d_98_67 rfl
theorem d_98_68 : decode (mB 98) 68 = .ok (.lreturn, 1) := by decide +kernel
theorem s_98_68 {d : Nat} {Q : wQ} {L : List (Option Value)} {w : aw} {cn sn : Nat} {v : Int64} : wp d 98 Q 68 L [.long v] w cn sn = Q (some (.long v)) w := w_lreturn d_98_68 rfl
theorem d_99_0 : decode (mB 99) 0 = .ok (.lload_n 1, 1) := by decide +kernel
theorem s_99_0 {d : Nat} {Q : wQ} {L : List (Option Value)} {st : List Value} {w : aw} {cn sn : Nat} {a0 : Option Value} {v : Int64} : wp d 99 Q 0 (a0 :: some (.long v) :: L) st w cn sn = wp d 99 Q 1 (a0 :: some (.long v) :: L) (.long v :: st) w cn sn := w_lload_n d_99_0 rfl
theorem d_99_1 : decode (mB 99) 1 = .ok (.lstore_n 3, 1) := by decide +kernel
theorem s_99_1 {d : Nat} {Q : wQ} {L : List (Option Value)} {st : List Value} {w : aw} {cn sn : Nat} {a0 a1 a2 a3 a4 : Option Value} {v : Int64} : wp d 99 Q 1 (a0 :: a1 :: a2 :: a3 :: a4 :: L) (.long v :: st) w cn sn = wp d 99 Q 2 (a0 :: a1 :: clr a2 :: some (.long v) :: none :: L) st w cn sn := w_lstore_n d_99_1 (Nat.le_add_left 5 _) rfl
theorem d_99_2 : decode (mB 99) 2 = .ok (.iconst 0, 1) := by decide +kernel
theorem s_99_2 {d : Nat} {Q : wQ} {L : List (Option Value)} {st : List Value} {w : aw} {cn sn : Nat}  : wp d 99 Q 2 L st w cn sn = wp d 99 Q 3 L (.int 0 :: st) w cn sn := w_iconst d_99_2 (by decide)
theorem d_99_3 : decode (mB 99) 3 = .ok (.istore 5, 2) := by decide +kernel
theorem s_99_3 {d : Nat} {Q : wQ} {L : List (Option Value)} {st : List Value} {w : aw} {cn sn : Nat} {a0 a1 a2 a3 a4 a5 : Option Value} {v : Int32} : wp d 99 Q 3 (a0 :: a1 :: a2 :: a3 :: a4 :: a5 :: L) (.int v :: st) w cn sn = wp d 99 Q 5 (a0 :: a1 :: a2 :: a3 :: clr a4 :: some (.int v) :: L) st w cn sn := w_istore d_99_3 (Nat.le_add_left 6 _) rfl
theorem d_99_5 : decode (mB 99) 5 = .ok (.iload 5, 2) := by decide +kernel
theorem s_99_5 {d : Nat} {Q : wQ} {L : List (Option Value)} {st : List Value} {w : aw} {cn sn : Nat} {a0 a1 a2 a3 a4 : Option Value} {v : Int32} : wp d 99 Q 5 (a0 :: a1 :: a2 :: a3 :: a4 :: some (.int v) :: L) st w cn sn = wp d 99 Q 7 (a0 :: a1 :: a2 :: a3 :: a4 :: some (.int v) :: L) (.int v :: st) w cn sn := w_iload d_99_5 rfl
theorem d_99_7 : decode (mB 99) 7 = .ok (.bipush 12, 2) := by decide +kernel
theorem s_99_7 {d : Nat} {Q : wQ} {L : List (Option Value)} {st : List Value} {w : aw} {cn sn : Nat}  : wp d 99 Q 7 L st w cn sn = wp d 99 Q 9 L (.int 12 :: st) w cn sn := w_bipush d_99_7 (by decide)
theorem d_99_9 : decode (mB 99) 9 = .ok (.if_icmp .ge 23, 3) := by decide +kernel
theorem s_99_9 {d : Nat} {Q : wQ} {L : List (Option Value)} {st : List Value} {w : aw} {cn sn : Nat} {a b : Int32} : wp d 99 Q 9 L (.int b :: .int a :: st) w cn sn = ((b ≤ a → wp d 99 Q 32 L st w cn sn) ∧ (¬ b ≤ a → wp d 99 Q 12 L st w cn sn)) := w_icge d_99_9 (by decide)
theorem d_99_12 : decode (mB 99) 12 = .ok (.lload_n 3, 1) := by decide +kernel
theorem s_99_12 {d : Nat} {Q : wQ} {L : List (Option Value)} {st : List Value} {w : aw} {cn sn : Nat} {a0 a1 a2 : Option Value} {v : Int64} : wp d 99 Q 12 (a0 :: a1 :: a2 :: some (.long v) :: L) st w cn sn = wp d 99 Q 13 (a0 :: a1 :: a2 :: some (.long v) :: L) (.long v :: st) w cn sn := w_lload_n d_99_12 rfl
theorem d_99_13 : decode (mB 99) 13 = .ok (.ldc2_w 145, 3) := by decide +kernel
theorem s_99_13 {d : Nat} {Q : wQ} {L : List (Option Value)} {st : List Value} {w : aw} {cn sn : Nat}  : wp d 99 Q 13 L st w cn sn = wp d 99 Q 16 L (.long 31 :: st) w cn sn := w_ldc2 d_99_13 (by decide +kernel : kT (mO 99) 145 = some (.long 31))
theorem d_99_16 : decode (mB 99) 16 = .ok (.lmul, 1) := by decide +kernel
theorem s_99_16 {d : Nat} {Q : wQ} {L : List (Option Value)} {st : List Value} {w : aw} {cn sn : Nat} {a b : Int64} : wp d 99 Q 16 L (.long b :: .long a :: st) w cn sn = wp d 99 Q 17 L (.long (a * b) :: st) w cn sn := wp_row d_99_16 _ _ _ _ _
theorem d_99_17 : decode (mB 99) 17 = .ok (.aload_n 0, 1) := by decide +kernel
theorem s_99_17 {d : Nat} {Q : wQ} {L : List (Option Value)} {st : List Value} {w : aw} {cn sn : Nat} {v : Nat} : wp d 99 Q 17 (some (.ref v) :: L) st w cn sn = wp d 99 Q 18 (some (.ref v) :: L) (.ref v :: st) w cn sn := w_aload_n d_99_17 rfl
theorem s_99_17n {d : Nat} {Q : wQ} {L : List (Option Value)} {st : List Value} {w : aw} {cn sn : Nat}  : wp d 99 Q 17 (some .null :: L) st w cn sn = wp d 99 Q 18 (some .null :: L) (.null :: st) w cn sn := w_aload_nN d_99_17 rfl
theorem d_99_18 : decode (mB 99) 18 = .ok (.iload 5, 2) := by decide +kernel
theorem s_99_18 {d : Nat} {Q : wQ} {L : List (Option Value)} {st : List Value} {w : aw} {cn sn : Nat} {a0 a1 a2 a3 a4 : Option Value} {v : Int32} : wp d 99 Q 18 (a0 :: a1 :: a2 :: a3 :: a4 :: some (.int v) :: L) st w cn sn = wp d 99 Q 20 (a0 :: a1 :: a2 :: a3 :: a4 :: some (.int v) :: L) (.int v :: st) w cn sn := w_iload d_99_18 rfl
theorem d_99_20 : decode (mB 99) 20 = .ok (.invokevirtual 126, 3) := by decide +kernel
theorem s_99_20 {d : Nat} {Q : wQ} {L : List (Option Value)} {st : List Value} {w : aw} {cn sn : Nat} {v0 : Value} {b : Nat} : wp d 99 Q 20 L (v0 :: .ref b :: st) w cn sn = (kd w b = 7 ∧ catS st ≤ 8 ∧ wpD d 77 [.ref b, v0] w (fun v w' => wp d 99 Q 23 L (v.toList ++ st) w' cn sn)) := w_virtual (As := [v0]) d_99_20 (by decide +kernel : cT (mO 99) 126 = some (0, 77)) rfl (by decide +kernel) rfl (by decide +kernel) rfl
theorem d_99_23 : decode (mB 99) 23 = .ok (.i2l, 1) := by decide +kernel
theorem s_99_23 {d : Nat} {Q : wQ} {L : List (Option Value)} {st : List Value} {w : aw} {cn sn : Nat} {a : Int32} : wp d 99 Q 23 L (.int a :: st) w cn sn = wp d 99 Q 24 L (.long a.toInt64 :: st) w cn sn := wp_row d_99_23 _ _ _ _ _
theorem d_99_24 : decode (mB 99) 24 = .ok (.ladd, 1) := by decide +kernel
theorem s_99_24 {d : Nat} {Q : wQ} {L : List (Option Value)} {st : List Value} {w : aw} {cn sn : Nat} {a b : Int64} : wp d 99 Q 24 L (.long b :: .long a :: st) w cn sn = wp d 99 Q 25 L (.long (a + b) :: st) w cn sn := wp_row d_99_24 _ _ _ _ _
theorem d_99_25 : decode (mB 99) 25 = .ok (.lstore_n 3, 1) := by decide +kernel
theorem s_99_25 {d : Nat} {Q : wQ} {L : List (Option Value)} {st : List Value} {w : aw} {cn sn : Nat} {a0 a1 a2 a3 a4 : Option Value} {v : Int64} : wp d 99 Q 25 (a0 :: a1 :: a2 :: a3 :: a4 :: L) (.long v :: st) w cn sn = wp d 99 Q 26 (a0 :: a1 :: clr a2 :: some (.long v) :: none :: L) st w cn sn := w_lstore_n d_99_25 (Nat.le_add_left 5 _) rfl
theorem d_99_26 : decode (mB 99) 26 = .ok (.iinc 5 1, 3) := by decide +kernel
theorem s_99_26 {d : Nat} {Q : wQ} {L : List (Option Value)} {st : List Value} {w : aw} {cn sn : Nat} {a0 a1 a2 a3 a4 : Option Value} {v : Int32} : wp d 99 Q 26 (a0 :: a1 :: a2 :: a3 :: a4 :: some (.int v) :: L) st w cn sn = wp d 99 Q 29 (a0 :: a1 :: a2 :: a3 :: clr a4 :: some (.int (v + 1)) :: L) st w cn sn := w_iinc d_99_26 rfl (by decide) rfl
theorem d_99_29 : decode (mB 99) 29 = .ok (.goto (-24), 3) := by decide +kernel
theorem s_99_29 {d : Nat} {Q : wQ} {L : List (Option Value)} {st : List Value} {w : aw} {cn sn : Nat}  : wp d 99 Q 29 L st w cn sn = wp d 99 Q 5 L st w cn sn := w_goto d_99_29 (by decide)
theorem d_99_32 : decode (mB 99) 32 = .ok (.aload_n 0, 1) := by decide +kernel
theorem s_99_32 {d : Nat} {Q : wQ} {L : List (Option Value)} {st : List Value} {w : aw} {cn sn : Nat} {v : Nat} : wp d 99 Q 32 (some (.ref v) :: L) st w cn sn = wp d 99 Q 33 (some (.ref v) :: L) (.ref v :: st) w cn sn := w_aload_n d_99_32 rfl
theorem s_99_32n {d : Nat} {Q : wQ} {L : List (Option Value)} {st : List Value} {w : aw} {cn sn : Nat}  : wp d 99 Q 32 (some .null :: L) st w cn sn = wp d 99 Q 33 (some .null :: L) (.null :: st) w cn sn := w_aload_nN d_99_32 rfl
theorem d_99_33 : decode (mB 99) 33 = .ok (.getfield 69, 3) := by decide +kernel
theorem s_99_33 {d : Nat} {Q : wQ} {L : List (Option Value)} {st : List Value} {w : aw} {cn sn : Nat} {a : Nat} : wp d 99 Q 33 L (.ref a :: st) w cn sn = (kd w a = 7 ∧ wp d 99 Q 36 L (fd w 385 a :: st) w cn sn) := w_getfield d_99_33 (by decide +kernel : fT (mO 99) 69 = some (6, 1))
theorem d_99_36 : decode (mB 99) 36 = .ok (.astore 5, 2) := by decide +kernel
theorem s_99_36 {d : Nat} {Q : wQ} {L : List (Option Value)} {st : List Value} {w : aw} {cn sn : Nat} {a0 a1 a2 a3 a4 a5 : Option Value} {v : Nat} : wp d 99 Q 36 (a0 :: a1 :: a2 :: a3 :: a4 :: a5 :: L) (.ref v :: st) w cn sn = wp d 99 Q 38 (a0 :: a1 :: a2 :: a3 :: clr a4 :: some (.ref v) :: L) st w cn sn := w_astore d_99_36 (Nat.le_add_left 6 _) rfl
theorem s_99_36n {d : Nat} {Q : wQ} {L : List (Option Value)} {st : List Value} {w : aw} {cn sn : Nat} {a0 a1 a2 a3 a4 a5 : Option Value} : wp d 99 Q 36 (a0 :: a1 :: a2 :: a3 :: a4 :: a5 :: L) (.null :: st) w cn sn = wp d 99 Q 38 (a0 :: a1 :: a2 :: a3 :: clr a4 :: some .null :: L) st w cn sn := w_astoreN d_99_36 (Nat.le_add_left 6 _) rfl
theorem d_99_38 : decode (mB 99) 38 = .ok (.aload 5, 2) := by decide +kernel
theorem s_99_38 {d : Nat} {Q : wQ} {L : List (Option Value)} {st : List Value} {w : aw} {cn sn : Nat} {a0 a1 a2 a3 a4 : Option Value} {v : Nat} : wp d 99 Q 38 (a0 :: a1 :: a2 :: a3 :: a4 :: some (.ref v) :: L) st w cn sn = wp d 99 Q 40 (a0 :: a1 :: a2 :: a3 :: a4 :: some (.ref v) :: L) (.ref v :: st) w cn sn := w_aload d_99_38 rfl
theorem s_99_38n {d : Nat} {Q : wQ} {L : List (Option Value)} {st : List Value} {w : aw} {cn sn : Nat} {a0 a1 a2 a3 a4 : Option Value} : wp d 99 Q 38 (a0 :: a1 :: a2 :: a3 :: a4 :: some .null :: L) st w cn sn = wp d 99 Q 40 (a0 :: a1 :: a2 :: a3 :: a4 :: some .null :: L) (.null :: st) w cn sn := w_aloadN d_99_38 rfl
theorem d_99_40 : decode (mB 99) 40 = .ok (.arraylength, 1) := by decide +kernel
theorem s_99_40 {d : Nat} {Q : wQ} {L : List (Option Value)} {st : List Value} {w : aw} {cn sn : Nat} {a : Nat} : wp d 99 Q 40 L (.ref a :: st) w cn sn = ((tyA (kd w a)).isSome = true ∧ wp d 99 Q 41 L (.int (nI (ln w a)) :: st) w cn sn) := wp_row d_99_40 _ _ _ _ _
theorem d_99_41 : decode (mB 99) 41 = .ok (.istore 6, 2) := by decide +kernel
theorem s_99_41 {d : Nat} {Q : wQ} {L : List (Option Value)} {st : List Value} {w : aw} {cn sn : Nat} {a0 a1 a2 a3 a4 a5 a6 : Option Value} {v : Int32} : wp d 99 Q 41 (a0 :: a1 :: a2 :: a3 :: a4 :: a5 :: a6 :: L) (.int v :: st) w cn sn = wp d 99 Q 43 (a0 :: a1 :: a2 :: a3 :: a4 :: clr a5 :: some (.int v) :: L) st w cn sn := w_istore d_99_41 (Nat.le_add_left 7 _) rfl
theorem d_99_43 : decode (mB 99) 43 = .ok (.iconst 0, 1) := by decide +kernel
theorem s_99_43 {d : Nat} {Q : wQ} {L : List (Option Value)} {st : List Value} {w : aw} {cn sn : Nat}  : wp d 99 Q 43 L st w cn sn = wp d 99 Q 44 L (.int 0 :: st) w cn sn := w_iconst d_99_43 (by decide)
theorem d_99_44 : decode (mB 99) 44 = .ok (.istore 7, 2) := by decide +kernel
theorem s_99_44 {d : Nat} {Q : wQ} {L : List (Option Value)} {st : List Value} {w : aw} {cn sn : Nat} {a0 a1 a2 a3 a4 a5 a6 a7 : Option Value} {v : Int32} : wp d 99 Q 44 (a0 :: a1 :: a2 :: a3 :: a4 :: a5 :: a6 :: a7 :: L) (.int v :: st) w cn sn = wp d 99 Q 46 (a0 :: a1 :: a2 :: a3 :: a4 :: a5 :: clr a6 :: some (.int v) :: L) st w cn sn := w_istore d_99_44 (Nat.le_add_left 8 _) rfl
theorem d_99_46 : decode (mB 99) 46 = .ok (.iload 7, 2) := by decide +kernel
theorem s_99_46 {d : Nat} {Q : wQ} {L : List (Option Value)} {st : List Value} {w : aw} {cn sn : Nat} {a0 a1 a2 a3 a4 a5 a6 : Option Value} {v : Int32} : wp d 99 Q 46 (a0 :: a1 :: a2 :: a3 :: a4 :: a5 :: a6 :: some (.int v) :: L) st w cn sn = wp d 99 Q 48 (a0 :: a1 :: a2 :: a3 :: a4 :: a5 :: a6 :: some (.int v) :: L) (.int v :: st) w cn sn := w_iload d_99_46 rfl
theorem d_99_48 : decode (mB 99) 48 = .ok (.iload 6, 2) := by decide +kernel
theorem s_99_48 {d : Nat} {Q : wQ} {L : List (Option Value)} {st : List Value} {w : aw} {cn sn : Nat} {a0 a1 a2 a3 a4 a5 : Option Value} {v : Int32} : wp d 99 Q 48 (a0 :: a1 :: a2 :: a3 :: a4 :: a5 :: some (.int v) :: L) st w cn sn = wp d 99 Q 50 (a0 :: a1 :: a2 :: a3 :: a4 :: a5 :: some (.int v) :: L) (.int v :: st) w cn sn := w_iload d_99_48 rfl
theorem d_99_50 : decode (mB 99) 50 = .ok (.if_icmp .ge 26, 3) := by decide +kernel
theorem s_99_50 {d : Nat} {Q : wQ} {L : List (Option Value)} {st : List Value} {w : aw} {cn sn : Nat} {a b : Int32} : wp d 99 Q 50 L (.int b :: .int a :: st) w cn sn = ((b ≤ a → wp d 99 Q 76 L st w cn sn) ∧ (¬ b ≤ a → wp d 99 Q 53 L st w cn sn)) := w_icge d_99_50 (by decide)
theorem d_99_53 : decode (mB 99) 53 = .ok (.aload 5, 2) := by decide +kernel
theorem s_99_53 {d : Nat} {Q : wQ} {L : List (Option Value)} {st : List Value} {w : aw} {cn sn : Nat} {a0 a1 a2 a3 a4 : Option Value} {v : Nat} : wp d 99 Q 53 (a0 :: a1 :: a2 :: a3 :: a4 :: some (.ref v) :: L) st w cn sn = wp d 99 Q 55 (a0 :: a1 :: a2 :: a3 :: a4 :: some (.ref v) :: L) (.ref v :: st) w cn sn := w_aload d_99_53 rfl
theorem s_99_53n {d : Nat} {Q : wQ} {L : List (Option Value)} {st : List Value} {w : aw} {cn sn : Nat} {a0 a1 a2 a3 a4 : Option Value} : wp d 99 Q 53 (a0 :: a1 :: a2 :: a3 :: a4 :: some .null :: L) st w cn sn = wp d 99 Q 55 (a0 :: a1 :: a2 :: a3 :: a4 :: some .null :: L) (.null :: st) w cn sn := w_aloadN d_99_53 rfl
theorem d_99_55 : decode (mB 99) 55 = .ok (.iload 7, 2) := by decide +kernel
theorem s_99_55 {d : Nat} {Q : wQ} {L : List (Option Value)} {st : List Value} {w : aw} {cn sn : Nat} {a0 a1 a2 a3 a4 a5 a6 : Option Value} {v : Int32} : wp d 99 Q 55 (a0 :: a1 :: a2 :: a3 :: a4 :: a5 :: a6 :: some (.int v) :: L) st w cn sn = wp d 99 Q 57 (a0 :: a1 :: a2 :: a3 :: a4 :: a5 :: a6 :: some (.int v) :: L) (.int v :: st) w cn sn := w_iload d_99_55 rfl
theorem d_99_57 : decode (mB 99) 57 = .ok (.iaload, 1) := by decide +kernel
theorem s_99_57 {d : Nat} {Q : wQ} {L : List (Option Value)} {st : List Value} {w : aw} {cn sn : Nat} {a : Nat} {i : Int32} : wp d 99 Q 57 L (.int i :: .ref a :: st) w cn sn = ((kd w a = 20 ∨ kd w a = 30) ∧ inR i (ln w a) ∧ wp d 99 Q 58 L (.int (ai w a i.toNatClampNeg) :: st) w cn sn) := wp_row d_99_57 _ _ _ _ _
theorem d_99_58 : decode (mB 99) 58 = .ok (.istore 8, 2) := by decide +kernel
theorem s_99_58 {d : Nat} {Q : wQ} {L : List (Option Value)} {st : List Value} {w : aw} {cn sn : Nat} {a0 a1 a2 a3 a4 a5 a6 a7 a8 : Option Value} {v : Int32} : wp d 99 Q 58 (a0 :: a1 :: a2 :: a3 :: a4 :: a5 :: a6 :: a7 :: a8 :: L) (.int v :: st) w cn sn = wp d 99 Q 60 (a0 :: a1 :: a2 :: a3 :: a4 :: a5 :: a6 :: clr a7 :: some (.int v) :: L) st w cn sn := w_istore d_99_58 (Nat.le_add_left 9 _) rfl
theorem d_99_60 : decode (mB 99) 60 = .ok (.lload_n 3, 1) := by decide +kernel
theorem s_99_60 {d : Nat} {Q : wQ} {L : List (Option Value)} {st : List Value} {w : aw} {cn sn : Nat} {a0 a1 a2 : Option Value} {v : Int64} : wp d 99 Q 60 (a0 :: a1 :: a2 :: some (.long v) :: L) st w cn sn = wp d 99 Q 61 (a0 :: a1 :: a2 :: some (.long v) :: L) (.long v :: st) w cn sn := w_lload_n d_99_60 rfl
theorem d_99_61 : decode (mB 99) 61 = .ok (.ldc2_w 145, 3) := by decide +kernel
theorem s_99_61 {d : Nat} {Q : wQ} {L : List (Option Value)} {st : List Value} {w : aw} {cn sn : Nat}  : wp d 99 Q 61 L st w cn sn = wp d 99 Q 64 L (.long 31 :: st) w cn sn := w_ldc2 d_99_61 (by decide +kernel : kT (mO 99) 145 = some (.long 31))
theorem d_99_64 : decode (mB 99) 64 = .ok (.lmul, 1) := by decide +kernel
theorem s_99_64 {d : Nat} {Q : wQ} {L : List (Option Value)} {st : List Value} {w : aw} {cn sn : Nat} {a b : Int64} : wp d 99 Q 64 L (.long b :: .long a :: st) w cn sn = wp d 99 Q 65 L (.long (a * b) :: st) w cn sn := wp_row d_99_64 _ _ _ _ _
theorem d_99_65 : decode (mB 99) 65 = .ok (.iload 8, 2) := by decide +kernel
theorem s_99_65 {d : Nat} {Q : wQ} {L : List (Option Value)} {st : List Value} {w : aw} {cn sn : Nat} {a0 a1 a2 a3 a4 a5 a6 a7 : Option Value} {v : Int32} : wp d 99 Q 65 (a0 :: a1 :: a2 :: a3 :: a4 :: a5 :: a6 :: a7 :: some (.int v) :: L) st w cn sn = wp d 99 Q 67 (a0 :: a1 :: a2 :: a3 :: a4 :: a5 :: a6 :: a7 :: some (.int v) :: L) (.int v :: st) w cn sn := w_iload d_99_65 rfl
theorem d_99_67 : decode (mB 99) 67 = .ok (.i2l, 1) := by decide +kernel
theorem s_99_67 {d : Nat} {Q : wQ} {L : List (Option Value)} {st : List Value} {w : aw} {cn sn : Nat} {a : Int32} : wp d 99 Q 67 L (.int a :: st) w cn sn = wp d 99 Q 68 L (.long a.toInt64 :: st) w cn sn := wp_row d_99_67 _ _ _ _ _
theorem d_99_68 : decode (mB 99) 68 = .ok (.ladd, 1) := by decide +kernel
theorem s_99_68 {d : Nat} {Q : wQ} {L : List (Option Value)} {st : List Value} {w : aw} {cn sn : Nat} {a b : Int64} : wp d 99 Q 68 L (.long b :: .long a :: st) w cn sn = wp d 99 Q 69 L (.long (a + b) :: st) w cn sn := wp_row d_99_68 _ _ _ _ _
theorem d_99_69 : decode (mB 99) 69 = .ok (.lstore_n 3, 1) := by decide +kernel
theorem s_99_69 {d : Nat} {Q : wQ} {L : List (Option Value)} {st : List Value} {w : aw} {cn sn : Nat} {a0 a1 a2 a3 a4 : Option Value} {v : Int64} : wp d 99 Q 69 (a0 :: a1 :: a2 :: a3 :: a4 :: L) (.long v :: st) w cn sn = wp d 99 Q 70 (a0 :: a1 :: clr a2 :: some (.long v) :: none :: L) st w cn sn := w_lstore_n d_99_69 (Nat.le_add_left 5 _) rfl
theorem d_99_70 : decode (mB 99) 70 = .ok (.iinc 7 1, 3) := by decide +kernel
theorem s_99_70 {d : Nat} {Q : wQ} {L : List (Option Value)} {st : List Value} {w : aw} {cn sn : Nat} {a0 a1 a2 a3 a4 a5 a6 : Option Value} {v : Int32} : wp d 99 Q 70 (a0 :: a1 :: a2 :: a3 :: a4 :: a5 :: a6 :: some (.int v) :: L) st w cn sn = wp d 99 Q 73 (a0 :: a1 :: a2 :: a3 :: a4 :: a5 :: clr a6 :: some (.int (v + 1)) :: L) st w cn sn := w_iinc d_99_70 rfl (by decide) rfl
theorem d_99_73 : decode (mB 99) 73 = .ok (.goto (-27), 3) := by decide +kernel
theorem s_99_73 {d : Nat} {Q : wQ} {L : List (Option Value)} {st : List Value} {w : aw} {cn sn : Nat}  : wp d 99 Q 73 L st w cn sn = wp d 99 Q 46 L st w cn sn := w_goto d_99_73 (by decide)
theorem d_99_76 : decode (mB 99) 76 = .ok (.aload_n 0, 1) := by decide +kernel
theorem s_99_76 {d : Nat} {Q : wQ} {L : List (Option Value)} {st : List Value} {w : aw} {cn sn : Nat} {v : Nat} : wp d 99 Q 76 (some (.ref v) :: L) st w cn sn = wp d 99 Q 77 (some (.ref v) :: L) (.ref v :: st) w cn sn := w_aload_n d_99_76 rfl
theorem s_99_76n {d : Nat} {Q : wQ} {L : List (Option Value)} {st : List Value} {w : aw} {cn sn : Nat}  : wp d 99 Q 76 (some .null :: L) st w cn sn = wp d 99 Q 77 (some .null :: L) (.null :: st) w cn sn := w_aload_nN d_99_76 rfl
theorem d_99_77 : decode (mB 99) 77 = .ok (.getfield 92, 3) := by decide +kernel
theorem s_99_77 {d : Nat} {Q : wQ} {L : List (Option Value)} {st : List Value} {w : aw} {cn sn : Nat} {a : Nat} : wp d 99 Q 77 L (.ref a :: st) w cn sn = (kd w a = 7 ∧ wp d 99 Q 80 L (fd w 386 a :: st) w cn sn) := w_getfield d_99_77 (by decide +kernel : fT (mO 99) 92 = some (6, 2))
theorem d_99_80 : decode (mB 99) 80 = .ok (.astore 5, 2) := by decide +kernel
theorem s_99_80 {d : Nat} {Q : wQ} {L : List (Option Value)} {st : List Value} {w : aw} {cn sn : Nat} {a0 a1 a2 a3 a4 a5 : Option Value} {v : Nat} : wp d 99 Q 80 (a0 :: a1 :: a2 :: a3 :: a4 :: a5 :: L) (.ref v :: st) w cn sn = wp d 99 Q 82 (a0 :: a1 :: a2 :: a3 :: clr a4 :: some (.ref v) :: L) st w cn sn := w_astore d_99_80 (Nat.le_add_left 6 _) rfl
theorem s_99_80n {d : Nat} {Q : wQ} {L : List (Option Value)} {st : List Value} {w : aw} {cn sn : Nat} {a0 a1 a2 a3 a4 a5 : Option Value} : wp d 99 Q 80 (a0 :: a1 :: a2 :: a3 :: a4 :: a5 :: L) (.null :: st) w cn sn = wp d 99 Q 82 (a0 :: a1 :: a2 :: a3 :: clr a4 :: some .null :: L) st w cn sn := w_astoreN d_99_80 (Nat.le_add_left 6 _) rfl
theorem d_99_82 : decode (mB 99) 82 = .ok (.aload 5, 2) := by decide +kernel
theorem s_99_82 {d : Nat} {Q : wQ} {L : List (Option Value)} {st : List Value} {w : aw} {cn sn : Nat} {a0 a1 a2 a3 a4 : Option Value} {v : Nat} : wp d 99 Q 82 (a0 :: a1 :: a2 :: a3 :: a4 :: some (.ref v) :: L) st w cn sn = wp d 99 Q 84 (a0 :: a1 :: a2 :: a3 :: a4 :: some (.ref v) :: L) (.ref v :: st) w cn sn := w_aload d_99_82 rfl
theorem s_99_82n {d : Nat} {Q : wQ} {L : List (Option Value)} {st : List Value} {w : aw} {cn sn : Nat} {a0 a1 a2 a3 a4 : Option Value} : wp d 99 Q 82 (a0 :: a1 :: a2 :: a3 :: a4 :: some .null :: L) st w cn sn = wp d 99 Q 84 (a0 :: a1 :: a2 :: a3 :: a4 :: some .null :: L) (.null :: st) w cn sn := w_aloadN d_99_82 rfl
theorem d_99_84 : decode (mB 99) 84 = .ok (.arraylength, 1) := by decide +kernel
theorem s_99_84 {d : Nat} {Q : wQ} {L : List (Option Value)} {st : List Value} {w : aw} {cn sn : Nat} {a : Nat} : wp d 99 Q 84 L (.ref a :: st) w cn sn = ((tyA (kd w a)).isSome = true ∧ wp d 99 Q 85 L (.int (nI (ln w a)) :: st) w cn sn) := wp_row d_99_84 _ _ _ _ _
theorem d_99_85 : decode (mB 99) 85 = .ok (.istore 6, 2) := by decide +kernel
theorem s_99_85 {d : Nat} {Q : wQ} {L : List (Option Value)} {st : List Value} {w : aw} {cn sn : Nat} {a0 a1 a2 a3 a4 a5 a6 : Option Value} {v : Int32} : wp d 99 Q 85 (a0 :: a1 :: a2 :: a3 :: a4 :: a5 :: a6 :: L) (.int v :: st) w cn sn = wp d 99 Q 87 (a0 :: a1 :: a2 :: a3 :: a4 :: clr a5 :: some (.int v) :: L) st w cn sn := w_istore d_99_85 (Nat.le_add_left 7 _) rfl
theorem d_99_87 : decode (mB 99) 87 = .ok (.iconst 0, 1) := by decide +kernel
theorem s_99_87 {d : Nat} {Q : wQ} {L : List (Option Value)} {st : List Value} {w : aw} {cn sn : Nat}  : wp d 99 Q 87 L st w cn sn = wp d 99 Q 88 L (.int 0 :: st) w cn sn := w_iconst d_99_87 (by decide)
theorem d_99_88 : decode (mB 99) 88 = .ok (.istore 7, 2) := by decide +kernel
theorem s_99_88 {d : Nat} {Q : wQ} {L : List (Option Value)} {st : List Value} {w : aw} {cn sn : Nat} {a0 a1 a2 a3 a4 a5 a6 a7 : Option Value} {v : Int32} : wp d 99 Q 88 (a0 :: a1 :: a2 :: a3 :: a4 :: a5 :: a6 :: a7 :: L) (.int v :: st) w cn sn = wp d 99 Q 90 (a0 :: a1 :: a2 :: a3 :: a4 :: a5 :: clr a6 :: some (.int v) :: L) st w cn sn := w_istore d_99_88 (Nat.le_add_left 8 _) rfl
theorem d_99_90 : decode (mB 99) 90 = .ok (.iload 7, 2) := by decide +kernel
theorem s_99_90 {d : Nat} {Q : wQ} {L : List (Option Value)} {st : List Value} {w : aw} {cn sn : Nat} {a0 a1 a2 a3 a4 a5 a6 : Option Value} {v : Int32} : wp d 99 Q 90 (a0 :: a1 :: a2 :: a3 :: a4 :: a5 :: a6 :: some (.int v) :: L) st w cn sn = wp d 99 Q 92 (a0 :: a1 :: a2 :: a3 :: a4 :: a5 :: a6 :: some (.int v) :: L) (.int v :: st) w cn sn := w_iload d_99_90 rfl
theorem d_99_92 : decode (mB 99) 92 = .ok (.iload 6, 2) := by decide +kernel
theorem s_99_92 {d : Nat} {Q : wQ} {L : List (Option Value)} {st : List Value} {w : aw} {cn sn : Nat} {a0 a1 a2 a3 a4 a5 : Option Value} {v : Int32} : wp d 99 Q 92 (a0 :: a1 :: a2 :: a3 :: a4 :: a5 :: some (.int v) :: L) st w cn sn = wp d 99 Q 94 (a0 :: a1 :: a2 :: a3 :: a4 :: a5 :: some (.int v) :: L) (.int v :: st) w cn sn := w_iload d_99_92 rfl
theorem d_99_94 : decode (mB 99) 94 = .ok (.if_icmp .ge 26, 3) := by decide +kernel
theorem s_99_94 {d : Nat} {Q : wQ} {L : List (Option Value)} {st : List Value} {w : aw} {cn sn : Nat} {a b : Int32} : wp d 99 Q 94 L (.int b :: .int a :: st) w cn sn = ((b ≤ a → wp d 99 Q 120 L st w cn sn) ∧ (¬ b ≤ a → wp d 99 Q 97 L st w cn sn)) := w_icge d_99_94 (by decide)
theorem d_99_97 : decode (mB 99) 97 = .ok (.aload 5, 2) := by decide +kernel
theorem s_99_97 {d : Nat} {Q : wQ} {L : List (Option Value)} {st : List Value} {w : aw} {cn sn : Nat} {a0 a1 a2 a3 a4 : Option Value} {v : Nat} : wp d 99 Q 97 (a0 :: a1 :: a2 :: a3 :: a4 :: some (.ref v) :: L) st w cn sn = wp d 99 Q 99 (a0 :: a1 :: a2 :: a3 :: a4 :: some (.ref v) :: L) (.ref v :: st) w cn sn := w_aload d_99_97 rfl
theorem s_99_97n {d : Nat} {Q : wQ} {L : List (Option Value)} {st : List Value} {w : aw} {cn sn : Nat} {a0 a1 a2 a3 a4 : Option Value} : wp d 99 Q 97 (a0 :: a1 :: a2 :: a3 :: a4 :: some .null :: L) st w cn sn = wp d 99 Q 99 (a0 :: a1 :: a2 :: a3 :: a4 :: some .null :: L) (.null :: st) w cn sn := w_aloadN d_99_97 rfl
theorem d_99_99 : decode (mB 99) 99 = .ok (.iload 7, 2) := by decide +kernel
theorem s_99_99 {d : Nat} {Q : wQ} {L : List (Option Value)} {st : List Value} {w : aw} {cn sn : Nat} {a0 a1 a2 a3 a4 a5 a6 : Option Value} {v : Int32} : wp d 99 Q 99 (a0 :: a1 :: a2 :: a3 :: a4 :: a5 :: a6 :: some (.int v) :: L) st w cn sn = wp d 99 Q 101 (a0 :: a1 :: a2 :: a3 :: a4 :: a5 :: a6 :: some (.int v) :: L) (.int v :: st) w cn sn := w_iload d_99_99 rfl
theorem d_99_101 : decode (mB 99) 101 = .ok (.iaload, 1) := by decide +kernel
theorem s_99_101 {d : Nat} {Q : wQ} {L : List (Option Value)} {st : List Value} {w : aw} {cn sn : Nat} {a : Nat} {i : Int32} : wp d 99 Q 101 L (.int i :: .ref a :: st) w cn sn = ((kd w a = 20 ∨ kd w a = 30) ∧ inR i (ln w a) ∧ wp d 99 Q 102 L (.int (ai w a i.toNatClampNeg) :: st) w cn sn) := wp_row d_99_101 _ _ _ _ _
theorem d_99_102 : decode (mB 99) 102 = .ok (.istore 8, 2) := by decide +kernel
theorem s_99_102 {d : Nat} {Q : wQ} {L : List (Option Value)} {st : List Value} {w : aw} {cn sn : Nat} {a0 a1 a2 a3 a4 a5 a6 a7 a8 : Option Value} {v : Int32} : wp d 99 Q 102 (a0 :: a1 :: a2 :: a3 :: a4 :: a5 :: a6 :: a7 :: a8 :: L) (.int v :: st) w cn sn = wp d 99 Q 104 (a0 :: a1 :: a2 :: a3 :: a4 :: a5 :: a6 :: clr a7 :: some (.int v) :: L) st w cn sn := w_istore d_99_102 (Nat.le_add_left 9 _) rfl
theorem d_99_104 : decode (mB 99) 104 = .ok (.lload_n 3, 1) := by decide +kernel
theorem s_99_104 {d : Nat} {Q : wQ} {L : List (Option Value)} {st : List Value} {w : aw} {cn sn : Nat} {a0 a1 a2 : Option Value} {v : Int64} : wp d 99 Q 104 (a0 :: a1 :: a2 :: some (.long v) :: L) st w cn sn = wp d 99 Q 105 (a0 :: a1 :: a2 :: some (.long v) :: L) (.long v :: st) w cn sn := w_lload_n d_99_104 rfl
theorem d_99_105 : decode (mB 99) 105 = .ok (.ldc2_w 145, 3) := by decide +kernel
theorem s_99_105 {d : Nat} {Q : wQ} {L : List (Option Value)} {st : List Value} {w : aw} {cn sn : Nat}  : wp d 99 Q 105 L st w cn sn = wp d 99 Q 108 L (.long 31 :: st) w cn sn := w_ldc2 d_99_105 (by decide +kernel : kT (mO 99) 145 = some (.long 31))
theorem d_99_108 : decode (mB 99) 108 = .ok (.lmul, 1) := by decide +kernel
theorem s_99_108 {d : Nat} {Q : wQ} {L : List (Option Value)} {st : List Value} {w : aw} {cn sn : Nat} {a b : Int64} : wp d 99 Q 108 L (.long b :: .long a :: st) w cn sn = wp d 99 Q 109 L (.long (a * b) :: st) w cn sn := wp_row d_99_108 _ _ _ _ _
theorem d_99_109 : decode (mB 99) 109 = .ok (.iload 8, 2) := by decide +kernel
theorem s_99_109 {d : Nat} {Q : wQ} {L : List (Option Value)} {st : List Value} {w : aw} {cn sn : Nat} {a0 a1 a2 a3 a4 a5 a6 a7 : Option Value} {v : Int32} : wp d 99 Q 109 (a0 :: a1 :: a2 :: a3 :: a4 :: a5 :: a6 :: a7 :: some (.int v) :: L) st w cn sn = wp d 99 Q 111 (a0 :: a1 :: a2 :: a3 :: a4 :: a5 :: a6 :: a7 :: some (.int v) :: L) (.int v :: st) w cn sn := w_iload d_99_109 rfl
theorem d_99_111 : decode (mB 99) 111 = .ok (.i2l, 1) := by decide +kernel
theorem s_99_111 {d : Nat} {Q : wQ} {L : List (Option Value)} {st : List Value} {w : aw} {cn sn : Nat} {a : Int32} : wp d 99 Q 111 L (.int a :: st) w cn sn = wp d 99 Q 112 L (.long a.toInt64 :: st) w cn sn := wp_row d_99_111 _ _ _ _ _
theorem d_99_112 : decode (mB 99) 112 = .ok (.ladd, 1) := by decide +kernel
theorem s_99_112 {d : Nat} {Q : wQ} {L : List (Option Value)} {st : List Value} {w : aw} {cn sn : Nat} {a b : Int64} : wp d 99 Q 112 L (.long b :: .long a :: st) w cn sn = wp d 99 Q 113 L (.long (a + b) :: st) w cn sn := wp_row d_99_112 _ _ _ _ _
theorem d_99_113 : decode (mB 99) 113 = .ok (.lstore_n 3, 1) := by decide +kernel
theorem s_99_113 {d : Nat} {Q : wQ} {L : List (Option Value)} {st : List Value} {w : aw} {cn sn : Nat} {a0 a1 a2 a3 a4 : Option Value} {v : Int64} : wp d 99 Q 113 (a0 :: a1 :: a2 :: a3 :: a4 :: L) (.long v :: st) w cn sn = wp d 99 Q 114 (a0 :: a1 :: clr a2 :: some (.long v) :: none :: L) st w cn sn := w_lstore_n d_99_113 (Nat.le_add_left 5 _) rfl
theorem d_99_114 : decode (mB 99) 114 = .ok (.iinc 7 1, 3) := by decide +kernel
theorem s_99_114 {d : Nat} {Q : wQ} {L : List (Option Value)} {st : List Value} {w : aw} {cn sn : Nat} {a0 a1 a2 a3 a4 a5 a6 : Option Value} {v : Int32} : wp d 99 Q 114 (a0 :: a1 :: a2 :: a3 :: a4 :: a5 :: a6 :: some (.int v) :: L) st w cn sn = wp d 99 Q 117 (a0 :: a1 :: a2 :: a3 :: a4 :: a5 :: clr a6 :: some (.int (v + 1)) :: L) st w cn sn := w_iinc d_99_114 rfl (by decide) rfl
theorem d_99_117 : decode (mB 99) 117 = .ok (.goto (-27), 3) := by decide +kernel
theorem s_99_117 {d : Nat} {Q : wQ} {L : List (Option Value)} {st : List Value} {w : aw} {cn sn : Nat}  : wp d 99 Q 117 L st w cn sn = wp d 99 Q 90 L st w cn sn := w_goto d_99_117 (by decide)
theorem d_99_120 : decode (mB 99) 120 = .ok (.lload_n 3, 1) := by decide +kernel
theorem s_99_120 {d : Nat} {Q : wQ} {L : List (Option Value)} {st : List Value} {w : aw} {cn sn : Nat} {a0 a1 a2 : Option Value} {v : Int64} : wp d 99 Q 120 (a0 :: a1 :: a2 :: some (.long v) :: L) st w cn sn = wp d 99 Q 121 (a0 :: a1 :: a2 :: some (.long v) :: L) (.long v :: st) w cn sn := w_lload_n d_99_120 rfl
theorem d_99_121 : decode (mB 99) 121 = .ok (.lreturn, 1) := by decide +kernel
theorem s_99_121 {d : Nat} {Q : wQ} {L : List (Option Value)} {w : aw} {cn sn : Nat} {v : Int64} : wp d 99 Q 121 L [.long v] w cn sn = Q (some (.long v)) w := w_lreturn d_99_121 rfl
theorem d_100_0 : decode (mB 100) 0 = .ok (.iload_n 0, 1) := by decide +kernel
theorem s_100_0 {d : Nat} {Q : wQ} {L : List (Option Value)} {st : List Value} {w : aw} {cn sn : Nat} {v : Int32} : wp d 100 Q 0 (some (.int v) :: L) st w cn sn = wp d 100 Q 1 (some (.int v) :: L) (.int v :: st) w cn sn := w_iload_n d_100_0 rfl
theorem d_100_1 : decode (mB 100) 1 = .ok (.iload_n 1, 1) := by decide +kernel
theorem s_100_1 {d : Nat} {Q : wQ} {L : List (Option Value)} {st : List Value} {w : aw} {cn sn : Nat} {a0 : Option Value} {v : Int32} : wp d 100 Q 1 (a0 :: some (.int v) :: L) st w cn sn = wp d 100 Q 2 (a0 :: some (.int v) :: L) (.int v :: st) w cn sn := w_iload_n d_100_1 rfl
theorem d_100_2 : decode (mB 100) 2 = .ok (.if_icmp .lt 12, 3) := by decide +kernel
theorem s_100_2 {d : Nat} {Q : wQ} {L : List (Option Value)} {st : List Value} {w : aw} {cn sn : Nat} {a b : Int32} : wp d 100 Q 2 L (.int b :: .int a :: st) w cn sn = ((a < b → wp d 100 Q 14 L st w cn sn) ∧ (¬ a < b → wp d 100 Q 5 L st w cn sn)) := w_iclt d_100_2 (by decide)
theorem d_100_5 : decode (mB 100) 5 = .ok (.iload_n 0, 1) := by decide +kernel
theorem s_100_5 {d : Nat} {Q : wQ} {L : List (Option Value)} {st : List Value} {w : aw} {cn sn : Nat} {v : Int32} : wp d 100 Q 5 (some (.int v) :: L) st w cn sn = wp d 100 Q 6 (some (.int v) :: L) (.int v :: st) w cn sn := w_iload_n d_100_5 rfl
theorem d_100_6 : decode (mB 100) 6 = .ok (.iload_n 2, 1) := by decide +kernel
theorem s_100_6 {d : Nat} {Q : wQ} {L : List (Option Value)} {st : List Value} {w : aw} {cn sn : Nat} {a0 a1 : Option Value} {v : Int32} : wp d 100 Q 6 (a0 :: a1 :: some (.int v) :: L) st w cn sn = wp d 100 Q 7 (a0 :: a1 :: some (.int v) :: L) (.int v :: st) w cn sn := w_iload_n d_100_6 rfl
theorem d_100_7 : decode (mB 100) 7 = .ok (.if_icmp .gt 7, 3) := by decide +kernel
theorem s_100_7 {d : Nat} {Q : wQ} {L : List (Option Value)} {st : List Value} {w : aw} {cn sn : Nat} {a b : Int32} : wp d 100 Q 7 L (.int b :: .int a :: st) w cn sn = ((b < a → wp d 100 Q 14 L st w cn sn) ∧ (¬ b < a → wp d 100 Q 10 L st w cn sn)) := w_icgt d_100_7 (by decide)
theorem d_100_10 : decode (mB 100) 10 = .ok (.iconst 1, 1) := by decide +kernel
theorem s_100_10 {d : Nat} {Q : wQ} {L : List (Option Value)} {st : List Value} {w : aw} {cn sn : Nat}  : wp d 100 Q 10 L st w cn sn = wp d 100 Q 11 L (.int 1 :: st) w cn sn := w_iconst d_100_10 (by decide)
theorem d_100_11 : decode (mB 100) 11 = .ok (.goto 4, 3) := by decide +kernel
theorem s_100_11 {d : Nat} {Q : wQ} {L : List (Option Value)} {st : List Value} {w : aw} {cn sn : Nat}  : wp d 100 Q 11 L st w cn sn = wp d 100 Q 15 L st w cn sn := w_goto d_100_11 (by decide)
theorem d_100_14 : decode (mB 100) 14 = .ok (.iconst 0, 1) := by decide +kernel
theorem s_100_14 {d : Nat} {Q : wQ} {L : List (Option Value)} {st : List Value} {w : aw} {cn sn : Nat}  : wp d 100 Q 14 L st w cn sn = wp d 100 Q 15 L (.int 0 :: st) w cn sn := w_iconst d_100_14 (by decide)
theorem d_100_15 : decode (mB 100) 15 = .ok (.ireturn, 1) := by decide +kernel
theorem s_100_15 {d : Nat} {Q : wQ} {L : List (Option Value)} {w : aw} {cn sn : Nat} {v : Int32} : wp d 100 Q 15 L [.int v] w cn sn = (narrow .boolean (.int v) = .int v ∧ Q (some (.int v)) w) := w_zreturn d_100_15 rfl
theorem d_101_0 : decode (mB 101) 0 = .ok (.iload_n 0, 1) := by decide +kernel
theorem s_101_0 {d : Nat} {Q : wQ} {L : List (Option Value)} {st : List Value} {w : aw} {cn sn : Nat} {v : Int32} : wp d 101 Q 0 (some (.int v) :: L) st w cn sn = wp d 101 Q 1 (some (.int v) :: L) (.int v :: st) w cn sn := w_iload_n d_101_0 rfl
theorem d_101_1 : decode (mB 101) 1 = .ok (.ifCond .lt 14, 3) := by decide +kernel
theorem s_101_1 {d : Nat} {Q : wQ} {L : List (Option Value)} {st : List Value} {w : aw} {cn sn : Nat} {x : Int32} : wp d 101 Q 1 L (.int x :: st) w cn sn = ((x < 0 → wp d 101 Q 15 L st w cn sn) ∧ (¬ x < 0 → wp d 101 Q 4 L st w cn sn)) := w_iflt d_101_1 (by decide)
theorem d_101_4 : decode (mB 101) 4 = .ok (.iload_n 0, 1) := by decide +kernel
theorem s_101_4 {d : Nat} {Q : wQ} {L : List (Option Value)} {st : List Value} {w : aw} {cn sn : Nat} {v : Int32} : wp d 101 Q 4 (some (.int v) :: L) st w cn sn = wp d 101 Q 5 (some (.int v) :: L) (.int v :: st) w cn sn := w_iload_n d_101_4 rfl
theorem d_101_5 : decode (mB 101) 5 = .ok (.sipush 4096, 3) := by decide +kernel
theorem s_101_5 {d : Nat} {Q : wQ} {L : List (Option Value)} {st : List Value} {w : aw} {cn sn : Nat}  : wp d 101 Q 5 L st w cn sn = wp d 101 Q 8 L (.int 4096 :: st) w cn sn := w_sipush d_101_5 (by decide)
theorem d_101_8 : decode (mB 101) 8 = .ok (.if_icmp .ge 7, 3) := by decide +kernel
theorem s_101_8 {d : Nat} {Q : wQ} {L : List (Option Value)} {st : List Value} {w : aw} {cn sn : Nat} {a b : Int32} : wp d 101 Q 8 L (.int b :: .int a :: st) w cn sn = ((b ≤ a → wp d 101 Q 15 L st w cn sn) ∧ (¬ b ≤ a → wp d 101 Q 11 L st w cn sn)) := w_icge d_101_8 (by decide)
theorem d_101_11 : decode (mB 101) 11 = .ok (.iconst 1, 1) := by decide +kernel
theorem s_101_11 {d : Nat} {Q : wQ} {L : List (Option Value)} {st : List Value} {w : aw} {cn sn : Nat}  : wp d 101 Q 11 L st w cn sn = wp d 101 Q 12 L (.int 1 :: st) w cn sn := w_iconst d_101_11 (by decide)
theorem d_101_12 : decode (mB 101) 12 = .ok (.goto 4, 3) := by decide +kernel
theorem s_101_12 {d : Nat} {Q : wQ} {L : List (Option Value)} {st : List Value} {w : aw} {cn sn : Nat}  : wp d 101 Q 12 L st w cn sn = wp d 101 Q 16 L st w cn sn := w_goto d_101_12 (by decide)
theorem d_101_15 : decode (mB 101) 15 = .ok (.iconst 0, 1) := by decide +kernel
theorem s_101_15 {d : Nat} {Q : wQ} {L : List (Option Value)} {st : List Value} {w : aw} {cn sn : Nat}  : wp d 101 Q 15 L st w cn sn = wp d 101 Q 16 L (.int 0 :: st) w cn sn := w_iconst d_101_15 (by decide)
theorem d_101_16 : decode (mB 101) 16 = .ok (.ireturn, 1) := by decide +kernel
theorem s_101_16 {d : Nat} {Q : wQ} {L : List (Option Value)} {w : aw} {cn sn : Nat} {v : Int32} : wp d 101 Q 16 L [.int v] w cn sn = (narrow .boolean (.int v) = .int v ∧ Q (some (.int v)) w) := w_zreturn d_101_16 rfl
theorem d_102_0 : decode (mB 102) 0 = .ok (.iload_n 0, 1) := by decide +kernel
theorem s_102_0 {d : Nat} {Q : wQ} {L : List (Option Value)} {st : List Value} {w : aw} {cn sn : Nat} {v : Int32} : wp d 102 Q 0 (some (.int v) :: L) st w cn sn = wp d 102 Q 1 (some (.int v) :: L) (.int v :: st) w cn sn := w_iload_n d_102_0 rfl
theorem d_102_1 : decode (mB 102) 1 = .ok (.iconst 0, 1) := by decide +kernel
theorem s_102_1 {d : Nat} {Q : wQ} {L : List (Option Value)} {st : List Value} {w : aw} {cn sn : Nat}  : wp d 102 Q 1 L st w cn sn = wp d 102 Q 2 L (.int 0 :: st) w cn sn := w_iconst d_102_1 (by decide)
theorem d_102_2 : decode (mB 102) 2 = .ok (.bipush 31, 2) := by decide +kernel
theorem s_102_2 {d : Nat} {Q : wQ} {L : List (Option Value)} {st : List Value} {w : aw} {cn sn : Nat}  : wp d 102 Q 2 L st w cn sn = wp d 102 Q 4 L (.int 31 :: st) w cn sn := w_bipush d_102_2 (by decide)
theorem d_102_4 : decode (mB 102) 4 = .ok (.invokestatic 36, 3) := by decide +kernel
theorem s_102_4 {d : Nat} {Q : wQ} {L : List (Option Value)} {st : List Value} {w : aw} {cn sn : Nat} {v0 v1 v2 : Value} : wp d 102 Q 4 L (v2 :: v1 :: v0 :: st) w cn sn = (catS st ≤ 8 ∧ wpD d 100 [v0, v1, v2] w (fun v w' => wp d 102 Q 7 L (v.toList ++ st) w' cn sn)) := w_static (As := [v0, v1, v2]) d_102_4 (by decide +kernel : cT (mO 102) 36 = some (2, 100)) (by decide +kernel) rfl (by decide +kernel) rfl
theorem d_102_7 : decode (mB 102) 7 = .ok (.ifCond .eq 17, 3) := by decide +kernel
theorem s_102_7 {d : Nat} {Q : wQ} {L : List (Option Value)} {st : List Value} {w : aw} {cn sn : Nat} {x : Int32} : wp d 102 Q 7 L (.int x :: st) w cn sn = ((x = 0 → wp d 102 Q 24 L st w cn sn) ∧ (¬ x = 0 → wp d 102 Q 10 L st w cn sn)) := w_ifeq d_102_7 (by decide)
theorem d_102_10 : decode (mB 102) 10 = .ok (.iload_n 1, 1) := by decide +kernel
theorem s_102_10 {d : Nat} {Q : wQ} {L : List (Option Value)} {st : List Value} {w : aw} {cn sn : Nat} {a0 : Option Value} {v : Int32} : wp d 102 Q 10 (a0 :: some (.int v) :: L) st w cn sn = wp d 102 Q 11 (a0 :: some (.int v) :: L) (.int v :: st) w cn sn := w_iload_n d_102_10 rfl
theorem d_102_11 : decode (mB 102) 11 = .ok (.iconst 0, 1) := by decide +kernel
theorem s_102_11 {d : Nat} {Q : wQ} {L : List (Option Value)} {st : List Value} {w : aw} {cn sn : Nat}  : wp d 102 Q 11 L st w cn sn = wp d 102 Q 12 L (.int 0 :: st) w cn sn := w_iconst d_102_11 (by decide)
theorem d_102_12 : decode (mB 102) 12 = .ok (.bipush 127, 2) := by decide +kernel
theorem s_102_12 {d : Nat} {Q : wQ} {L : List (Option Value)} {st : List Value} {w : aw} {cn sn : Nat}  : wp d 102 Q 12 L st w cn sn = wp d 102 Q 14 L (.int 127 :: st) w cn sn := w_bipush d_102_12 (by decide)
theorem d_102_14 : decode (mB 102) 14 = .ok (.invokestatic 36, 3) := by decide +kernel
theorem s_102_14 {d : Nat} {Q : wQ} {L : List (Option Value)} {st : List Value} {w : aw} {cn sn : Nat} {v0 v1 v2 : Value} : wp d 102 Q 14 L (v2 :: v1 :: v0 :: st) w cn sn = (catS st ≤ 8 ∧ wpD d 100 [v0, v1, v2] w (fun v w' => wp d 102 Q 17 L (v.toList ++ st) w' cn sn)) := w_static (As := [v0, v1, v2]) d_102_14 (by decide +kernel : cT (mO 102) 36 = some (2, 100)) (by decide +kernel) rfl (by decide +kernel) rfl
theorem d_102_17 : decode (mB 102) 17 = .ok (.ifCond .eq 7, 3) := by decide +kernel
theorem s_102_17 {d : Nat} {Q : wQ} {L : List (Option Value)} {st : List Value} {w : aw} {cn sn : Nat} {x : Int32} : wp d 102 Q 17 L (.int x :: st) w cn sn = ((x = 0 → wp d 102 Q 24 L st w cn sn) ∧ (¬ x = 0 → wp d 102 Q 20 L st w cn sn)) := w_ifeq d_102_17 (by decide)
theorem d_102_20 : decode (mB 102) 20 = .ok (.iconst 1, 1) := by decide +kernel
theorem s_102_20 {d : Nat} {Q : wQ} {L : List (Option Value)} {st : List Value} {w : aw} {cn sn : Nat}  : wp d 102 Q 20 L st w cn sn = wp d 102 Q 21 L (.int 1 :: st) w cn sn := w_iconst d_102_20 (by decide)
theorem d_102_21 : decode (mB 102) 21 = .ok (.goto 4, 3) := by decide +kernel
theorem s_102_21 {d : Nat} {Q : wQ} {L : List (Option Value)} {st : List Value} {w : aw} {cn sn : Nat}  : wp d 102 Q 21 L st w cn sn = wp d 102 Q 25 L st w cn sn := w_goto d_102_21 (by decide)
theorem d_102_24 : decode (mB 102) 24 = .ok (.iconst 0, 1) := by decide +kernel
theorem s_102_24 {d : Nat} {Q : wQ} {L : List (Option Value)} {st : List Value} {w : aw} {cn sn : Nat}  : wp d 102 Q 24 L st w cn sn = wp d 102 Q 25 L (.int 0 :: st) w cn sn := w_iconst d_102_24 (by decide)
theorem d_102_25 : decode (mB 102) 25 = .ok (.ireturn, 1) := by decide +kernel
theorem s_102_25 {d : Nat} {Q : wQ} {L : List (Option Value)} {w : aw} {cn sn : Nat} {v : Int32} : wp d 102 Q 25 L [.int v] w cn sn = (narrow .boolean (.int v) = .int v ∧ Q (some (.int v)) w) := w_zreturn d_102_25 rfl
