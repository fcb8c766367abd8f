theorem d_58_0 : decode (mB 58) 0 = .ok (.aload_n 0, 1) := by decide +kernel
theorem s_58_0 {d : Nat} {Q : wQ} {L : List (Option Value)} {st : List Value} {w : aw} {cn sn : Nat} {v : Nat} : wp d 58 Q 0 (some (.ref v) :: L) st w cn sn = wp d 58 Q 1 (some (.ref v) :: L) (.ref v :: st) w cn sn := w_aload_n d_58_0 rfl
theorem d_58_1 : decode (mB 58) 1 = .ok (.invokespecial 3, 3) := by decide +kernel
theorem s_58_1 {d : Nat} {Q : wQ} {L : List (Option Value)} {st : List Value} {w : aw} {cn sn : Nat} {b : Nat} : wp d 58 Q 1 L (.ref b :: st) w cn sn = (catS st ≤ 8 ∧ wp d 58 Q 4 L st w cn sn) := w_objinit d_58_1 (by decide +kernel : cT (mO 58) 3 = some (3, 0))
theorem d_58_4 : decode (mB 58) 4 = .ok (.aload_n 0, 1) := by decide +kernel
theorem s_58_4 {d : Nat} {Q : wQ} {L : List (Option Value)} {st : List Value} {w : aw} {cn sn : Nat} {v : Nat} : wp d 58 Q 4 (some (.ref v) :: L) st w cn sn = wp d 58 Q 5 (some (.ref v) :: L) (.ref v :: st) w cn sn := w_aload_n d_58_4 rfl
theorem d_58_5 : decode (mB 58) 5 = .ok (.sipush 4096, 3) := by decide +kernel
theorem s_58_5 {d : Nat} {Q : wQ} {L : List (Option Value)} {st : List Value} {w : aw} {cn sn : Nat}  : wp d 58 Q 5 L st w cn sn = wp d 58 Q 8 L (.int 4096 :: st) w cn sn := w_sipush d_58_5 (by decide)
theorem d_58_8 : decode (mB 58) 8 = .ok (.newarray .int, 2) := by decide +kernel
theorem s_58_8 {d : Nat} {Q : wQ} {L : List (Option Value)} {st : List Value} {w : aw} {cn sn : Nat} {v : Int32} : wp d 58 Q 8 L (.int v :: st) w cn sn = (¬ v < 0 ∧ v.toNatClampNeg * 4 ≤ 536870912 ∧ cn + 1 ≤ 7 ∧ sn + v.toNatClampNeg ≤ 8742 ∧ wp d 58 Q 10 L (.ref (zs w) :: st) (nw w 20 v.toNatClampNeg) (cn + 1) (sn + v.toNatClampNeg)) := w_newarray d_58_8 rfl (by decide +kernel) (by decide +kernel)
theorem d_58_10 : decode (mB 58) 10 = .ok (.putfield 9, 3) := by decide +kernel
theorem s_58_10 {d : Nat} {Q : wQ} {L : List (Option Value)} {st : List Value} {w : aw} {cn sn : Nat} {x : Nat} {a : Nat} : wp d 58 Q 10 L (.ref x :: .ref a :: st) w cn sn = (kd w a = 7 ∧ wp d 58 Q 13 L st (uF w 385 a (.ref x)) cn sn) := w_putfield d_58_10 (by decide +kernel : fT (mO 58) 9 = some (6, 1)) (by decide +kernel) ok_arr
theorem d_58_13 : decode (mB 58) 13 = .ok (.aload_n 0, 1) := by decide +kernel
theorem s_58_13 {d : Nat} {Q : wQ} {L : List (Option Value)} {st : List Value} {w : aw} {cn sn : Nat} {v : Nat} : wp d 58 Q 13 (some (.ref v) :: L) st w cn sn = wp d 58 Q 14 (some (.ref v) :: L) (.ref v :: st) w cn sn := w_aload_n d_58_13 rfl
theorem d_58_14 : decode (mB 58) 14 = .ok (.sipush 4096, 3) := by decide +kernel
theorem s_58_14 {d : Nat} {Q : wQ} {L : List (Option Value)} {st : List Value} {w : aw} {cn sn : Nat}  : wp d 58 Q 14 L st w cn sn = wp d 58 Q 17 L (.int 4096 :: st) w cn sn := w_sipush d_58_14 (by decide)
theorem d_58_17 : decode (mB 58) 17 = .ok (.newarray .int, 2) := by decide +kernel
theorem s_58_17 {d : Nat} {Q : wQ} {L : List (Option Value)} {st : List Value} {w : aw} {cn sn : Nat} {v : Int32} : wp d 58 Q 17 L (.int v :: st) w cn sn = (¬ v < 0 ∧ v.toNatClampNeg * 4 ≤ 536870912 ∧ cn + 1 ≤ 7 ∧ sn + v.toNatClampNeg ≤ 8742 ∧ wp d 58 Q 19 L (.ref (zs w) :: st) (nw w 20 v.toNatClampNeg) (cn + 1) (sn + v.toNatClampNeg)) := w_newarray d_58_17 rfl (by decide +kernel) (by decide +kernel)
theorem d_58_19 : decode (mB 58) 19 = .ok (.putfield 15, 3) := by decide +kernel
theorem s_58_19 {d : Nat} {Q : wQ} {L : List (Option Value)} {st : List Value} {w : aw} {cn sn : Nat} {x : Nat} {a : Nat} : wp d 58 Q 19 L (.ref x :: .ref a :: st) w cn sn = (kd w a = 7 ∧ wp d 58 Q 22 L st (uF w 386 a (.ref x)) cn sn) := w_putfield d_58_19 (by decide +kernel : fT (mO 58) 15 = some (6, 2)) (by decide +kernel) ok_arr
theorem d_58_22 : decode (mB 58) 22 = .ok (.aload_n 0, 1) := by decide +kernel
theorem s_58_22 {d : Nat} {Q : wQ} {L : List (Option Value)} {st : List Value} {w : aw} {cn sn : Nat} {v : Nat} : wp d 58 Q 22 (some (.ref v) :: L) st w cn sn = wp d 58 Q 23 (some (.ref v) :: L) (.ref v :: st) w cn sn := w_aload_n d_58_22 rfl
theorem d_58_23 : decode (mB 58) 23 = .ok (.sipush 512, 3) := by decide +kernel
theorem s_58_23 {d : Nat} {Q : wQ} {L : List (Option Value)} {st : List Value} {w : aw} {cn sn : Nat}  : wp d 58 Q 23 L st w cn sn = wp d 58 Q 26 L (.int 512 :: st) w cn sn := w_sipush d_58_23 (by decide)
theorem d_58_26 : decode (mB 58) 26 = .ok (.newarray .int, 2) := by decide +kernel
theorem s_58_26 {d : Nat} {Q : wQ} {L : List (Option Value)} {st : List Value} {w : aw} {cn sn : Nat} {v : Int32} : wp d 58 Q 26 L (.int v :: st) w cn sn = (¬ v < 0 ∧ v.toNatClampNeg * 4 ≤ 536870912 ∧ cn + 1 ≤ 7 ∧ sn + v.toNatClampNeg ≤ 8742 ∧ wp d 58 Q 28 L (.ref (zs w) :: st) (nw w 20 v.toNatClampNeg) (cn + 1) (sn + v.toNatClampNeg)) := w_newarray d_58_26 rfl (by decide +kernel) (by decide +kernel)
theorem d_58_28 : decode (mB 58) 28 = .ok (.putfield 18, 3) := by decide +kernel
theorem s_58_28 {d : Nat} {Q : wQ} {L : List (Option Value)} {st : List Value} {w : aw} {cn sn : Nat} {x : Nat} {a : Nat} : wp d 58 Q 28 L (.ref x :: .ref a :: st) w cn sn = (kd w a = 7 ∧ wp d 58 Q 31 L st (uF w 387 a (.ref x)) cn sn) := w_putfield d_58_28 (by decide +kernel : fT (mO 58) 18 = some (6, 3)) (by decide +kernel) ok_arr
theorem d_58_31 : decode (mB 58) 31 = .ok (.aload_n 0, 1) := by decide +kernel
theorem s_58_31 {d : Nat} {Q : wQ} {L : List (Option Value)} {st : List Value} {w : aw} {cn sn : Nat} {v : Nat} : wp d 58 Q 31 (some (.ref v) :: L) st w cn sn = wp d 58 Q 32 (some (.ref v) :: L) (.ref v :: st) w cn sn := w_aload_n d_58_31 rfl
theorem d_58_32 : decode (mB 58) 32 = .ok (.new 21, 3) := by decide +kernel
theorem s_58_32 {d : Nat} {Q : wQ} {L : List (Option Value)} {st : List Value} {w : aw} {cn sn : Nat}  : wp d 58 Q 32 L st w cn sn = (cn + 1 ≤ 7 ∧ sn + 3 ≤ 8742 ∧ wp d 58 Q 35 L (.ref (zs w) :: st) (nw w 3 0) (cn + 1) (sn + 3)) := w_new d_58_32 (by decide +kernel : nT (mO 58) 21 = some 2) (by decide +kernel) (by decide +kernel) (by decide +kernel)
theorem d_58_35 : decode (mB 58) 35 = .ok (.dup, 1) := by decide +kernel
theorem s_58_35 {d : Nat} {Q : wQ} {L : List (Option Value)} {st : List Value} {w : aw} {cn sn : Nat} {v : Value} : wp d 58 Q 35 L (v :: st) w cn sn = (v.category = 1 ∧ wp d 58 Q 36 L (v :: v :: st) w cn sn) := wp_row d_58_35 _ _ _ _ _
theorem d_58_36 : decode (mB 58) 36 = .ok (.invokespecial 23, 3) := by decide +kernel
theorem s_58_36 {d : Nat} {Q : wQ} {L : List (Option Value)} {st : List Value} {w : aw} {cn sn : Nat} {b : Nat} : wp d 58 Q 36 L (.ref b :: st) w cn sn = (catS st ≤ 8 ∧ alc 58 24 cn sn (fun c2 s2 => wpD d 24 [.ref b] w (fun v w' => wp d 58 Q 39 L (v.toList ++ st) w' c2 s2))) := w_special (As := []) d_58_36 (by decide +kernel : cT (mO 58) 23 = some (4, 24)) (by decide +kernel) rfl rfl
theorem d_58_39 : decode (mB 58) 39 = .ok (.putfield 24, 3) := by decide +kernel
theorem s_58_39 {d : Nat} {Q : wQ} {L : List (Option Value)} {st : List Value} {w : aw} {cn sn : Nat} {x : Nat} {a : Nat} : wp d 58 Q 39 L (.ref x :: .ref a :: st) w cn sn = (kd w a = 7 ∧ wp d 58 Q 42 L st (uF w 388 a (.ref x)) cn sn) := w_putfield d_58_39 (by decide +kernel : fT (mO 58) 24 = some (6, 4)) (by decide +kernel) ok_ref
theorem s_58_39n {d : Nat} {Q : wQ} {L : List (Option Value)} {st : List Value} {w : aw} {cn sn : Nat} {a : Nat} : wp d 58 Q 39 L (.null :: .ref a :: st) w cn sn = (kd w a = 7 ∧ wp d 58 Q 42 L st (uF w 388 a (.null)) cn sn) := w_putfield d_58_39 (by decide +kernel : fT (mO 58) 24 = some (6, 4)) (by decide +kernel) ok_null
theorem d_58_42 : decode (mB 58) 42 = .ok (.aload_n 0, 1) := by decide +kernel
theorem s_58_42 {d : Nat} {Q : wQ} {L : List (Option Value)} {st : List Value} {w : aw} {cn sn : Nat} {v : Nat} : wp d 58 Q 42 (some (.ref v) :: L) st w cn sn = wp d 58 Q 43 (some (.ref v) :: L) (.ref v :: st) w cn sn := w_aload_n d_58_42 rfl
theorem d_58_43 : decode (mB 58) 43 = .ok (.new 21, 3) := by decide +kernel
theorem s_58_43 {d : Nat} {Q : wQ} {L : List (Option Value)} {st : List Value} {w : aw} {cn sn : Nat}  : wp d 58 Q 43 L st w cn sn = (cn + 1 ≤ 7 ∧ sn + 3 ≤ 8742 ∧ wp d 58 Q 46 L (.ref (zs w) :: st) (nw w 3 0) (cn + 1) (sn + 3)) := w_new d_58_43 (by decide +kernel : nT (mO 58) 21 = some 2) (by decide +kernel) (by decide +kernel) (by decide +kernel)
theorem d_58_46 : decode (mB 58) 46 = .ok (.dup, 1) := by decide +kernel
theorem s_58_46 {d : Nat} {Q : wQ} {L : List (Option Value)} {st : List Value} {w : aw} {cn sn : Nat} {v : Value} : wp d 58 Q 46 L (v :: st) w cn sn = (v.category = 1 ∧ wp d 58 Q 47 L (v :: v :: st) w cn sn) := wp_row d_58_46 _ _ _ _ _
theorem d_58_47 : decode (mB 58) 47 = .ok (.invokespecial 23, 3) := by decide +kernel
theorem s_58_47 {d : Nat} {Q : wQ} {L : List (Option Value)} {st : List Value} {w : aw} {cn sn : Nat} {b : Nat} : wp d 58 Q 47 L (.ref b :: st) w cn sn = (catS st ≤ 8 ∧ alc 58 24 cn sn (fun c2 s2 => wpD d 24 [.ref b] w (fun v w' => wp d 58 Q 50 L (v.toList ++ st) w' c2 s2))) := w_special (As := []) d_58_47 (by decide +kernel : cT (mO 58) 23 = some (4, 24)) (by decide +kernel) rfl rfl
theorem d_58_50 : decode (mB 58) 50 = .ok (.putfield 28, 3) := by decide +kernel
theorem s_58_50 {d : Nat} {Q : wQ} {L : List (Option Value)} {st : List Value} {w : aw} {cn sn : Nat} {x : Nat} {a : Nat} : wp d 58 Q 50 L (.ref x :: .ref a :: st) w cn sn = (kd w a = 7 ∧ wp d 58 Q 53 L st (uF w 389 a (.ref x)) cn sn) := w_putfield d_58_50 (by decide +kernel : fT (mO 58) 28 = some (6, 5)) (by decide +kernel) ok_ref
theorem s_58_50n {d : Nat} {Q : wQ} {L : List (Option Value)} {st : List Value} {w : aw} {cn sn : Nat} {a : Nat} : wp d 58 Q 50 L (.null :: .ref a :: st) w cn sn = (kd w a = 7 ∧ wp d 58 Q 53 L st (uF w 389 a (.null)) cn sn) := w_putfield d_58_50 (by decide +kernel : fT (mO 58) 28 = some (6, 5)) (by decide +kernel) ok_null
theorem d_58_53 : decode (mB 58) 53 = .ok (.aload_n 0, 1) := by decide +kernel
theorem s_58_53 {d : Nat} {Q : wQ} {L : List (Option Value)} {st : List Value} {w : aw} {cn sn : Nat} {v : Nat} : wp d 58 Q 53 (some (.ref v) :: L) st w cn sn = wp d 58 Q 54 (some (.ref v) :: L) (.ref v :: st) w cn sn := w_aload_n d_58_53 rfl
theorem d_58_54 : decode (mB 58) 54 = .ok (.iload_n 1, 1) := by decide +kernel
theorem s_58_54 {d : Nat} {Q : wQ} {L : List (Option Value)} {st : List Value} {w : aw} {cn sn : Nat} {a0 : Option Value} {v : Int32} : wp d 58 Q 54 (a0 :: some (.int v) :: L) st w cn sn = wp d 58 Q 55 (a0 :: some (.int v) :: L) (.int v :: st) w cn sn := w_iload_n d_58_54 rfl
theorem d_58_55 : decode (mB 58) 55 = .ok (.putfield 31, 3) := by decide +kernel
theorem s_58_55 {d : Nat} {Q : wQ} {L : List (Option Value)} {st : List Value} {w : aw} {cn sn : Nat} {x : Int32} {a : Nat} : wp d 58 Q 55 L (.int x :: .ref a :: st) w cn sn = (kd w a = 7 ∧ wp d 58 Q 58 L st (uF w 384 a (.int x)) cn sn) := w_putfield d_58_55 (by decide +kernel : fT (mO 58) 31 = some (6, 0)) (by decide +kernel) ok_int
theorem d_58_58 : decode (mB 58) 58 = .ok (.return_, 1) := by decide +kernel
theorem s_58_58 {d : Nat} {Q : wQ} {L : List (Option Value)} {w : aw} {cn sn : Nat}  : wp d 58 Q 58 L [] w cn sn = Q none w := w_return d_58_58 rfl
theorem d_59_0 : decode (mB 59) 0 = .ok (.aload_n 0, 1) := by decide +kernel
theorem s_59_0 {d : Nat} {Q : wQ} {L : List (Option Value)} {st : List Value} {w : aw} {cn sn : Nat} {v : Nat} : wp d 59 Q 0 (some (.ref v) :: L) st w cn sn = wp d 59 Q 1 (some (.ref v) :: L) (.ref v :: st) w cn sn := w_aload_n d_59_0 rfl
theorem d_59_1 : decode (mB 59) 1 = .ok (.getfield 35, 3) := by decide +kernel
theorem s_59_1 {d : Nat} {Q : wQ} {L : List (Option Value)} {st : List Value} {w : aw} {cn sn : Nat} {a : Nat} : wp d 59 Q 1 L (.ref a :: st) w cn sn = (kd w a = 7 ∧ wp d 59 Q 4 L (fd w 390 a :: st) w cn sn) := w_getfield d_59_1 (by decide +kernel : fT (mO 59) 35 = some (6, 6))
theorem d_59_4 : decode (mB 59) 4 = .ok (.sipush 4095, 3) := by decide +kernel
theorem s_59_4 {d : Nat} {Q : wQ} {L : List (Option Value)} {st : List Value} {w : aw} {cn sn : Nat}  : wp d 59 Q 4 L st w cn sn = wp d 59 Q 7 L (.int 4095 :: st) w cn sn := w_sipush d_59_4 (by decide)
theorem d_59_7 : decode (mB 59) 7 = .ok (.iand, 1) := by decide +kernel
theorem s_59_7 {d : Nat} {Q : wQ} {L : List (Option Value)} {st : List Value} {w : aw} {cn sn : Nat} {a b : Int32} : wp d 59 Q 7 L (.int b :: .int a :: st) w cn sn = wp d 59 Q 8 L (.int (a &&& b) :: st) w cn sn := wp_row d_59_7 _ _ _ _ _
theorem d_59_8 : decode (mB 59) 8 = .ok (.istore_n 1, 1) := by decide +kernel
theorem s_59_8 {d : Nat} {Q : wQ} {L : List (Option Value)} {st : List Value} {w : aw} {cn sn : Nat} {a0 a1 : Option Value} {v : Int32} : wp d 59 Q 8 (a0 :: a1 :: L) (.int v :: st) w cn sn = wp d 59 Q 9 (clr a0 :: some (.int v) :: L) st w cn sn := w_istore_n d_59_8 (Nat.le_add_left 2 _) rfl
theorem d_59_9 : decode (mB 59) 9 = .ok (.aload_n 0, 1) := by decide +kernel
theorem s_59_9 {d : Nat} {Q : wQ} {L : List (Option Value)} {st : List Value} {w : aw} {cn sn : Nat} {v : Nat} : wp d 59 Q 9 (some (.ref v) :: L) st w cn sn = wp d 59 Q 10 (some (.ref v) :: L) (.ref v :: st) w cn sn := w_aload_n d_59_9 rfl
theorem d_59_10 : decode (mB 59) 10 = .ok (.getfield 9, 3) := by decide +kernel
theorem s_59_10 {d : Nat} {Q : wQ} {L : List (Option Value)} {st : List Value} {w : aw} {cn sn : Nat} {a : Nat} : wp d 59 Q 10 L (.ref a :: st) w cn sn = (kd w a = 7 ∧ wp d 59 Q 13 L (fd w 385 a :: st) w cn sn) := w_getfield d_59_10 (by decide +kernel : fT (mO 59) 9 = some (6, 1))
theorem d_59_13 : decode (mB 59) 13 = .ok (.iload_n 1, 1) := by decide +kernel
theorem s_59_13 {d : Nat} {Q : wQ} {L : List (Option Value)} {st : List Value} {w : aw} {cn sn : Nat} {a0 : Option Value} {v : Int32} : wp d 59 Q 13 (a0 :: some (.int v) :: L) st w cn sn = wp d 59 Q 14 (a0 :: some (.int v) :: L) (.int v :: st) w cn sn := w_iload_n d_59_13 rfl
theorem d_59_14 : decode (mB 59) 14 = .ok (.iaload, 1) := by decide +kernel
theorem s_59_14 {d : Nat} {Q : wQ} {L : List (Option Value)} {st : List Value} {w : aw} {cn sn : Nat} {a : Nat} {i : Int32} : wp d 59 Q 14 L (.int i :: .ref a :: st) w cn sn = ((kd w a = 20 ∨ kd w a = 30) ∧ inR i (ln w a) ∧ wp d 59 Q 15 L (.int (ai w a i.toNatClampNeg) :: st) w cn sn) := wp_row d_59_14 _ _ _ _ _
theorem d_59_15 : decode (mB 59) 15 = .ok (.istore_n 2, 1) := by decide +kernel
theorem s_59_15 {d : Nat} {Q : wQ} {L : List (Option Value)} {st : List Value} {w : aw} {cn sn : Nat} {a0 a1 a2 : Option Value} {v : Int32} : wp d 59 Q 15 (a0 :: a1 :: a2 :: L) (.int v :: st) w cn sn = wp d 59 Q 16 (a0 :: clr a1 :: some (.int v) :: L) st w cn sn := w_istore_n d_59_15 (Nat.le_add_left 3 _) rfl
theorem d_59_16 : decode (mB 59) 16 = .ok (.aload_n 0, 1) := by decide +kernel
theorem s_59_16 {d : Nat} {Q : wQ} {L : List (Option Value)} {st : List Value} {w : aw} {cn sn : Nat} {v : Nat} : wp d 59 Q 16 (some (.ref v) :: L) st w cn sn = wp d 59 Q 17 (some (.ref v) :: L) (.ref v :: st) w cn sn := w_aload_n d_59_16 rfl
theorem d_59_17 : decode (mB 59) 17 = .ok (.dup, 1) := by decide +kernel
theorem s_59_17 {d : Nat} {Q : wQ} {L : List (Option Value)} {st : List Value} {w : aw} {cn sn : Nat} {v : Value} : wp d 59 Q 17 L (v :: st) w cn sn = (v.category = 1 ∧ wp d 59 Q 18 L (v :: v :: st) w cn sn) := wp_row d_59_17 _ _ _ _ _
theorem d_59_18 : decode (mB 59) 18 = .ok (.getfield 38, 3) := by decide +kernel
theorem s_59_18 {d : Nat} {Q : wQ} {L : List (Option Value)} {st : List Value} {w : aw} {cn sn : Nat} {a : Nat} : wp d 59 Q 18 L (.ref a :: st) w cn sn = (kd w a = 7 ∧ wp d 59 Q 21 L (fd w 400 a :: st) w cn sn) := w_getfield d_59_18 (by decide +kernel : fT (mO 59) 38 = some (6, 16))
theorem d_59_21 : decode (mB 59) 21 = .ok (.iconst 1, 1) := by decide +kernel
theorem s_59_21 {d : Nat} {Q : wQ} {L : List (Option Value)} {st : List Value} {w : aw} {cn sn : Nat}  : wp d 59 Q 21 L st w cn sn = wp d 59 Q 22 L (.int 1 :: st) w cn sn := w_iconst d_59_21 (by decide)
theorem d_59_22 : decode (mB 59) 22 = .ok (.iadd, 1) := by decide +kernel
theorem s_59_22 {d : Nat} {Q : wQ} {L : List (Option Value)} {st : List Value} {w : aw} {cn sn : Nat} {a b : Int32} : wp d 59 Q 22 L (.int b :: .int a :: st) w cn sn = wp d 59 Q 23 L (.int (a + b) :: st) w cn sn := wp_row d_59_22 _ _ _ _ _
theorem d_59_23 : decode (mB 59) 23 = .ok (.putfield 38, 3) := by decide +kernel
theorem s_59_23 {d : Nat} {Q : wQ} {L : List (Option Value)} {st : List Value} {w : aw} {cn sn : Nat} {x : Int32} {a : Nat} : wp d 59 Q 23 L (.int x :: .ref a :: st) w cn sn = (kd w a = 7 ∧ wp d 59 Q 26 L st (uF w 400 a (.int x)) cn sn) := w_putfield d_59_23 (by decide +kernel : fT (mO 59) 38 = some (6, 16)) (by decide +kernel) ok_int
theorem d_59_26 : decode (mB 59) 26 = .ok (.aload_n 0, 1) := by decide +kernel
theorem s_59_26 {d : Nat} {Q : wQ} {L : List (Option Value)} {st : List Value} {w : aw} {cn sn : Nat} {v : Nat} : wp d 59 Q 26 (some (.ref v) :: L) st w cn sn = wp d 59 Q 27 (some (.ref v) :: L) (.ref v :: st) w cn sn := w_aload_n d_59_26 rfl
theorem d_59_27 : decode (mB 59) 27 = .ok (.invokevirtual 41, 3) := by decide +kernel
theorem s_59_27 {d : Nat} {Q : wQ} {L : List (Option Value)} {st : List Value} {w : aw} {cn sn : Nat} {b : Nat} : wp d 59 Q 27 L (.ref b :: st) w cn sn = (kd w b = 7 ∧ catS st ≤ 8 ∧ wpD d 60 [.ref b] w (fun v w' => wp d 59 Q 30 L (v.toList ++ st) w' cn sn)) := w_virtual (As := []) d_59_27 (by decide +kernel : cT (mO 59) 41 = some (0, 60)) rfl (by decide +kernel) rfl (by decide +kernel) rfl
theorem d_59_30 : decode (mB 59) 30 = .ok (.iload_n 2, 1) := by decide +kernel
theorem s_59_30 {d : Nat} {Q : wQ} {L : List (Option Value)} {st : List Value} {w : aw} {cn sn : Nat} {a0 a1 : Option Value} {v : Int32} : wp d 59 Q 30 (a0 :: a1 :: some (.int v) :: L) st w cn sn = wp d 59 Q 31 (a0 :: a1 :: some (.int v) :: L) (.int v :: st) w cn sn := w_iload_n d_59_30 rfl
theorem d_59_31 : decode (mB 59) 31 = .ok (.sipush 3072, 3) := by decide +kernel
theorem s_59_31 {d : Nat} {Q : wQ} {L : List (Option Value)} {st : List Value} {w : aw} {cn sn : Nat}  : wp d 59 Q 31 L st w cn sn = wp d 59 Q 34 L (.int 3072 :: st) w cn sn := w_sipush d_59_31 (by decide)
theorem d_59_34 : decode (mB 59) 34 = .ok (.if_icmp .ge 12, 3) := by decide +kernel
theorem s_59_34 {d : Nat} {Q : wQ} {L : List (Option Value)} {st : List Value} {w : aw} {cn sn : Nat} {a b : Int32} : wp d 59 Q 34 L (.int b :: .int a :: st) w cn sn = ((b ≤ a → wp d 59 Q 46 L st w cn sn) ∧ (¬ b ≤ a → wp d 59 Q 37 L st w cn sn)) := w_icge d_59_34 (by decide)
theorem d_59_37 : decode (mB 59) 37 = .ok (.aload_n 0, 1) := by decide +kernel
theorem s_59_37 {d : Nat} {Q : wQ} {L : List (Option Value)} {st : List Value} {w : aw} {cn sn : Nat} {v : Nat} : wp d 59 Q 37 (some (.ref v) :: L) st w cn sn = wp d 59 Q 38 (some (.ref v) :: L) (.ref v :: st) w cn sn := w_aload_n d_59_37 rfl
theorem d_59_38 : decode (mB 59) 38 = .ok (.iload_n 2, 1) := by decide +kernel
theorem s_59_38 {d : Nat} {Q : wQ} {L : List (Option Value)} {st : List Value} {w : aw} {cn sn : Nat} {a0 a1 : Option Value} {v : Int32} : wp d 59 Q 38 (a0 :: a1 :: some (.int v) :: L) st w cn sn = wp d 59 Q 39 (a0 :: a1 :: some (.int v) :: L) (.int v :: st) w cn sn := w_iload_n d_59_38 rfl
theorem d_59_39 : decode (mB 59) 39 = .ok (.iload_n 1, 1) := by decide +kernel
theorem s_59_39 {d : Nat} {Q : wQ} {L : List (Option Value)} {st : List Value} {w : aw} {cn sn : Nat} {a0 : Option Value} {v : Int32} : wp d 59 Q 39 (a0 :: some (.int v) :: L) st w cn sn = wp d 59 Q 40 (a0 :: some (.int v) :: L) (.int v :: st) w cn sn := w_iload_n d_59_39 rfl
theorem d_59_40 : decode (mB 59) 40 = .ok (.invokevirtual 44, 3) := by decide +kernel
theorem s_59_40 {d : Nat} {Q : wQ} {L : List (Option Value)} {st : List Value} {w : aw} {cn sn : Nat} {v0 v1 : Value} {b : Nat} : wp d 59 Q 40 L (v1 :: v0 :: .ref b :: st) w cn sn = (kd w b = 7 ∧ catS st ≤ 8 ∧ wpD d 62 [.ref b, v0, v1] w (fun v w' => wp d 59 Q 43 L (v.toList ++ st) w' cn sn)) := w_virtual (As := [v0, v1]) d_59_40 (by decide +kernel : cT (mO 59) 44 = some (0, 62)) rfl (by decide +kernel) rfl (by decide +kernel) rfl
theorem d_59_43 : decode (mB 59) 43 = .ok (.goto 46, 3) := by decide +kernel
theorem s_59_43 {d : Nat} {Q : wQ} {L : List (Option Value)} {st : List Value} {w : aw} {cn sn : Nat}  : wp d 59 Q 43 L st w cn sn = wp d 59 Q 89 L st w cn sn := w_goto d_59_43 (by decide)
theorem d_59_46 : decode (mB 59) 46 = .ok (.iload_n 2, 1) := by decide +kernel
theorem s_59_46 {d : Nat} {Q : wQ} {L : List (Option Value)} {st : List Value} {w : aw} {cn sn : Nat} {a0 a1 : Option Value} {v : Int32} : wp d 59 Q 46 (a0 :: a1 :: some (.int v) :: L) st w cn sn = wp d 59 Q 47 (a0 :: a1 :: some (.int v) :: L) (.int v :: st) w cn sn := w_iload_n d_59_46 rfl
theorem d_59_47 : decode (mB 59) 47 = .ok (.sipush 3584, 3) := by decide +kernel
theorem s_59_47 {d : Nat} {Q : wQ} {L : List (Option Value)} {st : List Value} {w : aw} {cn sn : Nat}  : wp d 59 Q 47 L st w cn sn = wp d 59 Q 50 L (.int 3584 :: st) w cn sn := w_sipush d_59_47 (by decide)
theorem d_59_50 : decode (mB 59) 50 = .ok (.if_icmp .ge 12, 3) := by decide +kernel
theorem s_59_50 {d : Nat} {Q : wQ} {L : List (Option Value)} {st : List Value} {w : aw} {cn sn : Nat} {a b : Int32} : wp d 59 Q 50 L (.int b :: .int a :: st) w cn sn = ((b ≤ a → wp d 59 Q 62 L st w cn sn) ∧ (¬ b ≤ a → wp d 59 Q 53 L st w cn sn)) := w_icge d_59_50 (by decide)
theorem d_59_53 : decode (mB 59) 53 = .ok (.aload_n 0, 1) := by decide +kernel
theorem s_59_53 {d : Nat} {Q : wQ} {L : List (Option Value)} {st : List Value} {w : aw} {cn sn : Nat} {v : Nat} : wp d 59 Q 53 (some (.ref v) :: L) st w cn sn = wp d 59 Q 54 (some (.ref v) :: L) (.ref v :: st) w cn sn := w_aload_n d_59_53 rfl
theorem d_59_54 : decode (mB 59) 54 = .ok (.iload_n 2, 1) := by decide +kernel
theorem s_59_54 {d : Nat} {Q : wQ} {L : List (Option Value)} {st : List Value} {w : aw} {cn sn : Nat} {a0 a1 : Option Value} {v : Int32} : wp d 59 Q 54 (a0 :: a1 :: some (.int v) :: L) st w cn sn = wp d 59 Q 55 (a0 :: a1 :: some (.int v) :: L) (.int v :: st) w cn sn := w_iload_n d_59_54 rfl
theorem d_59_55 : decode (mB 59) 55 = .ok (.iload_n 1, 1) := by decide +kernel
theorem s_59_55 {d : Nat} {Q : wQ} {L : List (Option Value)} {st : List Value} {w : aw} {cn sn : Nat} {a0 : Option Value} {v : Int32} : wp d 59 Q 55 (a0 :: some (.int v) :: L) st w cn sn = wp d 59 Q 56 (a0 :: some (.int v) :: L) (.int v :: st) w cn sn := w_iload_n d_59_55 rfl
theorem d_59_56 : decode (mB 59) 56 = .ok (.invokevirtual 48, 3) := by decide +kernel
theorem s_59_56 {d : Nat} {Q : wQ} {L : List (Option Value)} {st : List Value} {w : aw} {cn sn : Nat} {v0 v1 : Value} {b : Nat} : wp d 59 Q 56 L (v1 :: v0 :: .ref b :: st) w cn sn = (kd w b = 7 ∧ catS st ≤ 8 ∧ wpD d 67 [.ref b, v0, v1] w (fun v w' => wp d 59 Q 59 L (v.toList ++ st) w' cn sn)) := w_virtual (As := [v0, v1]) d_59_56 (by decide +kernel : cT (mO 59) 48 = some (0, 67)) rfl (by decide +kernel) rfl (by decide +kernel) rfl
theorem d_59_59 : decode (mB 59) 59 = .ok (.goto 30, 3) := by decide +kernel
theorem s_59_59 {d : Nat} {Q : wQ} {L : List (Option Value)} {st : List Value} {w : aw} {cn sn : Nat}  : wp d 59 Q 59 L st w cn sn = wp d 59 Q 89 L st w cn sn := w_goto d_59_59 (by decide)
theorem d_59_62 : decode (mB 59) 62 = .ok (.iload_n 2, 1) := by decide +kernel
theorem s_59_62 {d : Nat} {Q : wQ} {L : List (Option Value)} {st : List Value} {w : aw} {cn sn : Nat} {a0 a1 : Option Value} {v : Int32} : wp d 59 Q 62 (a0 :: a1 :: some (.int v) :: L) st w cn sn = wp d 59 Q 63 (a0 :: a1 :: some (.int v) :: L) (.int v :: st) w cn sn := w_iload_n d_59_62 rfl
theorem d_59_63 : decode (mB 59) 63 = .ok (.sipush 256, 3) := by decide +kernel
theorem s_59_63 {d : Nat} {Q : wQ} {L : List (Option Value)} {st : List Value} {w : aw} {cn sn : Nat}  : wp d 59 Q 63 L st w cn sn = wp d 59 Q 66 L (.int 256 :: st) w cn sn := w_sipush d_59_63 (by decide)
theorem d_59_66 : decode (mB 59) 66 = .ok (.iand, 1) := by decide +kernel
theorem s_59_66 {d : Nat} {Q : wQ} {L : List (Option Value)} {st : List Value} {w : aw} {cn sn : Nat} {a b : Int32} : wp d 59 Q 66 L (.int b :: .int a :: st) w cn sn = wp d 59 Q 67 L (.int (a &&& b) :: st) w cn sn := wp_row d_59_66 _ _ _ _ _
theorem d_59_67 : decode (mB 59) 67 = .ok (.ifCond .ne 11, 3) := by decide +kernel
theorem s_59_67 {d : Nat} {Q : wQ} {L : List (Option Value)} {st : List Value} {w : aw} {cn sn : Nat} {x : Int32} : wp d 59 Q 67 L (.int x :: st) w cn sn = ((¬ x = 0 → wp d 59 Q 78 L st w cn sn) ∧ (x = 0 → wp d 59 Q 70 L st w cn sn)) := w_ifne d_59_67 (by decide)
theorem d_59_70 : decode (mB 59) 70 = .ok (.aload_n 0, 1) := by decide +kernel
theorem s_59_70 {d : Nat} {Q : wQ} {L : List (Option Value)} {st : List Value} {w : aw} {cn sn : Nat} {v : Nat} : wp d 59 Q 70 (some (.ref v) :: L) st w cn sn = wp d 59 Q 71 (some (.ref v) :: L) (.ref v :: st) w cn sn := w_aload_n d_59_70 rfl
theorem d_59_71 : decode (mB 59) 71 = .ok (.iload_n 2, 1) := by decide +kernel
theorem s_59_71 {d : Nat} {Q : wQ} {L : List (Option Value)} {st : List Value} {w : aw} {cn sn : Nat} {a0 a1 : Option Value} {v : Int32} : wp d 59 Q 71 (a0 :: a1 :: some (.int v) :: L) st w cn sn = wp d 59 Q 72 (a0 :: a1 :: some (.int v) :: L) (.int v :: st) w cn sn := w_iload_n d_59_71 rfl
theorem d_59_72 : decode (mB 59) 72 = .ok (.invokevirtual 51, 3) := by decide +kernel
theorem s_59_72 {d : Nat} {Q : wQ} {L : List (Option Value)} {st : List Value} {w : aw} {cn sn : Nat} {v0 : Value} {b : Nat} : wp d 59 Q 72 L (v0 :: .ref b :: st) w cn sn = (kd w b = 7 ∧ catS st ≤ 8 ∧ wpD d 64 [.ref b, v0] w (fun v w' => wp d 59 Q 75 L (v.toList ++ st) w' cn sn)) := w_virtual (As := [v0]) d_59_72 (by decide +kernel : cT (mO 59) 51 = some (0, 64)) rfl (by decide +kernel) rfl (by decide +kernel) rfl
theorem d_59_75 : decode (mB 59) 75 = .ok (.goto 14, 3) := by decide +kernel
theorem s_59_75 {d : Nat} {Q : wQ} {L : List (Option Value)} {st : List Value} {w : aw} {cn sn : Nat}  : wp d 59 Q 75 L st w cn sn = wp d 59 Q 89 L st w cn sn := w_goto d_59_75 (by decide)
theorem d_59_78 : decode (mB 59) 78 = .ok (.iload_n 2, 1) := by decide +kernel
theorem s_59_78 {d : Nat} {Q : wQ} {L : List (Option Value)} {st : List Value} {w : aw} {cn sn : Nat} {a0 a1 : Option Value} {v : Int32} : wp d 59 Q 78 (a0 :: a1 :: some (.int v) :: L) st w cn sn = wp d 59 Q 79 (a0 :: a1 :: some (.int v) :: L) (.int v :: st) w cn sn := w_iload_n d_59_78 rfl
theorem d_59_79 : decode (mB 59) 79 = .ok (.iconst 1, 1) := by decide +kernel
theorem s_59_79 {d : Nat} {Q : wQ} {L : List (Option Value)} {st : List Value} {w : aw} {cn sn : Nat}  : wp d 59 Q 79 L st w cn sn = wp d 59 Q 80 L (.int 1 :: st) w cn sn := w_iconst d_59_79 (by decide)
theorem d_59_80 : decode (mB 59) 80 = .ok (.iand, 1) := by decide +kernel
theorem s_59_80 {d : Nat} {Q : wQ} {L : List (Option Value)} {st : List Value} {w : aw} {cn sn : Nat} {a b : Int32} : wp d 59 Q 80 L (.int b :: .int a :: st) w cn sn = wp d 59 Q 81 L (.int (a &&& b) :: st) w cn sn := wp_row d_59_80 _ _ _ _ _
theorem d_59_81 : decode (mB 59) 81 = .ok (.ifCond .ne 8, 3) := by decide +kernel
theorem s_59_81 {d : Nat} {Q : wQ} {L : List (Option Value)} {st : List Value} {w : aw} {cn sn : Nat} {x : Int32} : wp d 59 Q 81 L (.int x :: st) w cn sn = ((¬ x = 0 → wp d 59 Q 89 L st w cn sn) ∧ (x = 0 → wp d 59 Q 84 L st w cn sn)) := w_ifne d_59_81 (by decide)
theorem d_59_84 : decode (mB 59) 84 = .ok (.aload_n 0, 1) := by decide +kernel
theorem s_59_84 {d : Nat} {Q : wQ} {L : List (Option Value)} {st : List Value} {w : aw} {cn sn : Nat} {v : Nat} : wp d 59 Q 84 (some (.ref v) :: L) st w cn sn = wp d 59 Q 85 (some (.ref v) :: L) (.ref v :: st) w cn sn := w_aload_n d_59_84 rfl
theorem d_59_85 : decode (mB 59) 85 = .ok (.iload_n 2, 1) := by decide +kernel
theorem s_59_85 {d : Nat} {Q : wQ} {L : List (Option Value)} {st : List Value} {w : aw} {cn sn : Nat} {a0 a1 : Option Value} {v : Int32} : wp d 59 Q 85 (a0 :: a1 :: some (.int v) :: L) st w cn sn = wp d 59 Q 86 (a0 :: a1 :: some (.int v) :: L) (.int v :: st) w cn sn := w_iload_n d_59_85 rfl
theorem d_59_86 : decode (mB 59) 86 = .ok (.invokevirtual 55, 3) := by decide +kernel
theorem s_59_86 {d : Nat} {Q : wQ} {L : List (Option Value)} {st : List Value} {w : aw} {cn sn : Nat} {v0 : Value} {b : Nat} : wp d 59 Q 86 L (v0 :: .ref b :: st) w cn sn = (kd w b = 7 ∧ catS st ≤ 8 ∧ wpD d 66 [.ref b, v0] w (fun v w' => wp d 59 Q 89 L (v.toList ++ st) w' cn sn)) := w_virtual (As := [v0]) d_59_86 (by decide +kernel : cT (mO 59) 55 = some (0, 66)) rfl (by decide +kernel) rfl (by decide +kernel) rfl
theorem d_59_89 : decode (mB 59) 89 = .ok (.return_, 1) := by decide +kernel
theorem s_59_89 {d : Nat} {Q : wQ} {L : List (Option Value)} {w : aw} {cn sn : Nat}  : wp d 59 Q 89 L [] w cn sn = Q none w := w_return d_59_89 rfl
theorem d_60_0 : decode (mB 60) 0 = .ok (.aload_n 0, 1) := by decide +kernel
theorem s_60_0 {d : Nat} {Q : wQ} {L : List (Option Value)} {st : List Value} {w : aw} {cn sn : Nat} {v : Nat} : wp d 60 Q 0 (some (.ref v) :: L) st w cn sn = wp d 60 Q 1 (some (.ref v) :: L) (.ref v :: st) w cn sn := w_aload_n d_60_0 rfl
theorem d_60_1 : decode (mB 60) 1 = .ok (.aload_n 0, 1) := by decide +kernel
theorem s_60_1 {d : Nat} {Q : wQ} {L : List (Option Value)} {st : List Value} {w : aw} {cn sn : Nat} {v : Nat} : wp d 60 Q 1 (some (.ref v) :: L) st w cn sn = wp d 60 Q 2 (some (.ref v) :: L) (.ref v :: st) w cn sn := w_aload_n d_60_1 rfl
theorem d_60_2 : decode (mB 60) 2 = .ok (.getfield 35, 3) := by decide +kernel
theorem s_60_2 {d : Nat} {Q : wQ} {L : List (Option Value)} {st : List Value} {w : aw} {cn sn : Nat} {a : Nat} : wp d 60 Q 2 L (.ref a :: st) w cn sn = (kd w a = 7 ∧ wp d 60 Q 5 L (fd w 390 a :: st) w cn sn) := w_getfield d_60_2 (by decide +kernel : fT (mO 60) 35 = some (6, 6))
theorem d_60_5 : decode (mB 60) 5 = .ok (.iconst 1, 1) := by decide +kernel
theorem s_60_5 {d : Nat} {Q : wQ} {L : List (Option Value)} {st : List Value} {w : aw} {cn sn : Nat}  : wp d 60 Q 5 L st w cn sn = wp d 60 Q 6 L (.int 1 :: st) w cn sn := w_iconst d_60_5 (by decide)
theorem d_60_6 : decode (mB 60) 6 = .ok (.iadd, 1) := by decide +kernel
theorem s_60_6 {d : Nat} {Q : wQ} {L : List (Option Value)} {st : List Value} {w : aw} {cn sn : Nat} {a b : Int32} : wp d 60 Q 6 L (.int b :: .int a :: st) w cn sn = wp d 60 Q 7 L (.int (a + b) :: st) w cn sn := wp_row d_60_6 _ _ _ _ _
theorem d_60_7 : decode (mB 60) 7 = .ok (.sipush 4095, 3) := by decide +kernel
theorem s_60_7 {d : Nat} {Q : wQ} {L : List (Option Value)} {st : List Value} {w : aw} {cn sn : Nat}  : wp d 60 Q 7 L st w cn sn = wp d 60 Q 10 L (.int 4095 :: st) w cn sn := w_sipush d_60_7 (by decide)
theorem d_60_10 : decode (mB 60) 10 = .ok (.iand, 1) := by decide +kernel
theorem s_60_10 {d : Nat} {Q : wQ} {L : List (Option Value)} {st : List Value} {w : aw} {cn sn : Nat} {a b : Int32} : wp d 60 Q 10 L (.int b :: .int a :: st) w cn sn = wp d 60 Q 11 L (.int (a &&& b) :: st) w cn sn := wp_row d_60_10 _ _ _ _ _
theorem d_60_11 : decode (mB 60) 11 = .ok (.putfield 35, 3) := by decide +kernel
theorem s_60_11 {d : Nat} {Q : wQ} {L : List (Option Value)} {st : List Value} {w : aw} {cn sn : Nat} {x : Int32} {a : Nat} : wp d 60 Q 11 L (.int x :: .ref a :: st) w cn sn = (kd w a = 7 ∧ wp d 60 Q 14 L st (uF w 390 a (.int x)) cn sn) := w_putfield d_60_11 (by decide +kernel : fT (mO 60) 35 = some (6, 6)) (by decide +kernel) ok_int
theorem d_60_14 : decode (mB 60) 14 = .ok (.return_, 1) := by decide +kernel
theorem s_60_14 {d : Nat} {Q : wQ} {L : List (Option Value)} {w : aw} {cn sn : Nat}  : wp d 60 Q 14 L [] w cn sn = Q none w := w_return d_60_14 rfl
theorem d_61_0 : decode (mB 61) 0 = .ok (.aload_n 0, 1) := by decide +kernel
theorem s_61_0 {d : Nat} {Q : wQ} {L : List (Option Value)} {st : List Value} {w : aw} {cn sn : Nat} {v : Nat} : wp d 61 Q 0 (some (.ref v) :: L) st w cn sn = wp d 61 Q 1 (some (.ref v) :: L) (.ref v :: st) w cn sn := w_aload_n d_61_0 rfl
theorem d_61_1 : decode (mB 61) 1 = .ok (.getfield 58, 3) := by decide +kernel
theorem s_61_1 {d : Nat} {Q : wQ} {L : List (Option Value)} {st : List Value} {w : aw} {cn sn : Nat} {a : Nat} : wp d 61 Q 1 L (.ref a :: st) w cn sn = (kd w a = 7 ∧ wp d 61 Q 4 L (fd w 391 a :: st) w cn sn) := w_getfield d_61_1 (by decide +kernel : fT (mO 61) 58 = some (6, 7))
theorem d_61_4 : decode (mB 61) 4 = .ok (.iload_n 1, 1) := by decide +kernel
theorem s_61_4 {d : Nat} {Q : wQ} {L : List (Option Value)} {st : List Value} {w : aw} {cn sn : Nat} {a0 : Option Value} {v : Int32} : wp d 61 Q 4 (a0 :: some (.int v) :: L) st w cn sn = wp d 61 Q 5 (a0 :: some (.int v) :: L) (.int v :: st) w cn sn := w_iload_n d_61_4 rfl
theorem d_61_5 : decode (mB 61) 5 = .ok (.iadd, 1) := by decide +kernel
theorem s_61_5 {d : Nat} {Q : wQ} {L : List (Option Value)} {st : List Value} {w : aw} {cn sn : Nat} {a b : Int32} : wp d 61 Q 5 L (.int b :: .int a :: st) w cn sn = wp d 61 Q 6 L (.int (a + b) :: st) w cn sn := wp_row d_61_5 _ _ _ _ _
theorem d_61_6 : decode (mB 61) 6 = .ok (.istore_n 2, 1) := by decide +kernel
theorem s_61_6 {d : Nat} {Q : wQ} {L : List (Option Value)} {st : List Value} {w : aw} {cn sn : Nat} {a0 a1 a2 : Option Value} {v : Int32} : wp d 61 Q 6 (a0 :: a1 :: a2 :: L) (.int v :: st) w cn sn = wp d 61 Q 7 (a0 :: clr a1 :: some (.int v) :: L) st w cn sn := w_istore_n d_61_6 (Nat.le_add_left 3 _) rfl
theorem d_61_7 : decode (mB 61) 7 = .ok (.iload_n 2, 1) := by decide +kernel
theorem s_61_7 {d : Nat} {Q : wQ} {L : List (Option Value)} {st : List Value} {w : aw} {cn sn : Nat} {a0 a1 : Option Value} {v : Int32} : wp d 61 Q 7 (a0 :: a1 :: some (.int v) :: L) st w cn sn = wp d 61 Q 8 (a0 :: a1 :: some (.int v) :: L) (.int v :: st) w cn sn := w_iload_n d_61_7 rfl
theorem d_61_8 : decode (mB 61) 8 = .ok (.sipush 4096, 3) := by decide +kernel
theorem s_61_8 {d : Nat} {Q : wQ} {L : List (Option Value)} {st : List Value} {w : aw} {cn sn : Nat}  : wp d 61 Q 8 L st w cn sn = wp d 61 Q 11 L (.int 4096 :: st) w cn sn := w_sipush d_61_8 (by decide)
theorem d_61_11 : decode (mB 61) 11 = .ok (.if_icmp .lt 13, 3) := by decide +kernel
theorem s_61_11 {d : Nat} {Q : wQ} {L : List (Option Value)} {st : List Value} {w : aw} {cn sn : Nat} {a b : Int32} : wp d 61 Q 11 L (.int b :: .int a :: st) w cn sn = ((a < b → wp d 61 Q 24 L st w cn sn) ∧ (¬ a < b → wp d 61 Q 14 L st w cn sn)) := w_iclt d_61_11 (by decide)
theorem d_61_14 : decode (mB 61) 14 = .ok (.aload_n 0, 1) := by decide +kernel
theorem s_61_14 {d : Nat} {Q : wQ} {L : List (Option Value)} {st : List Value} {w : aw} {cn sn : Nat} {v : Nat} : wp d 61 Q 14 (some (.ref v) :: L) st w cn sn = wp d 61 Q 15 (some (.ref v) :: L) (.ref v :: st) w cn sn := w_aload_n d_61_14 rfl
theorem d_61_15 : decode (mB 61) 15 = .ok (.dup, 1) := by decide +kernel
theorem s_61_15 {d : Nat} {Q : wQ} {L : List (Option Value)} {st : List Value} {w : aw} {cn sn : Nat} {v : Value} : wp d 61 Q 15 L (v :: st) w cn sn = (v.category = 1 ∧ wp d 61 Q 16 L (v :: v :: st) w cn sn) := wp_row d_61_15 _ _ _ _ _
theorem d_61_16 : decode (mB 61) 16 = .ok (.getfield 61, 3) := by decide +kernel
theorem s_61_16 {d : Nat} {Q : wQ} {L : List (Option Value)} {st : List Value} {w : aw} {cn sn : Nat} {a : Nat} : wp d 61 Q 16 L (.ref a :: st) w cn sn = (kd w a = 7 ∧ wp d 61 Q 19 L (fd w 392 a :: st) w cn sn) := w_getfield d_61_16 (by decide +kernel : fT (mO 61) 61 = some (6, 8))
theorem d_61_19 : decode (mB 61) 19 = .ok (.iconst 1, 1) := by decide +kernel
theorem s_61_19 {d : Nat} {Q : wQ} {L : List (Option Value)} {st : List Value} {w : aw} {cn sn : Nat}  : wp d 61 Q 19 L st w cn sn = wp d 61 Q 20 L (.int 1 :: st) w cn sn := w_iconst d_61_19 (by decide)
theorem d_61_20 : decode (mB 61) 20 = .ok (.ixor, 1) := by decide +kernel
theorem s_61_20 {d : Nat} {Q : wQ} {L : List (Option Value)} {st : List Value} {w : aw} {cn sn : Nat} {a b : Int32} : wp d 61 Q 20 L (.int b :: .int a :: st) w cn sn = wp d 61 Q 21 L (.int (a ^^^ b) :: st) w cn sn := wp_row d_61_20 _ _ _ _ _
theorem d_61_21 : decode (mB 61) 21 = .ok (.putfield 61, 3) := by decide +kernel
theorem s_61_21 {d : Nat} {Q : wQ} {L : List (Option Value)} {st : List Value} {w : aw} {cn sn : Nat} {x : Int32} {a : Nat} : wp d 61 Q 21 L (.int x :: .ref a :: st) w cn sn = (kd w a = 7 ∧ wp d 61 Q 24 L st (uF w 392 a (.int x)) cn sn) := w_putfield d_61_21 (by decide +kernel : fT (mO 61) 61 = some (6, 8)) (by decide +kernel) ok_int
theorem d_61_24 : decode (mB 61) 24 = .ok (.aload_n 0, 1) := by decide +kernel
theorem s_61_24 {d : Nat} {Q : wQ} {L : List (Option Value)} {st : List Value} {w : aw} {cn sn : Nat} {v : Nat} : wp d 61 Q 24 (some (.ref v) :: L) st w cn sn = wp d 61 Q 25 (some (.ref v) :: L) (.ref v :: st) w cn sn := w_aload_n d_61_24 rfl
theorem d_61_25 : decode (mB 61) 25 = .ok (.iload_n 2, 1) := by decide +kernel
theorem s_61_25 {d : Nat} {Q : wQ} {L : List (Option Value)} {st : List Value} {w : aw} {cn sn : Nat} {a0 a1 : Option Value} {v : Int32} : wp d 61 Q 25 (a0 :: a1 :: some (.int v) :: L) st w cn sn = wp d 61 Q 26 (a0 :: a1 :: some (.int v) :: L) (.int v :: st) w cn sn := w_iload_n d_61_25 rfl
theorem d_61_26 : decode (mB 61) 26 = .ok (.sipush 4095, 3) := by decide +kernel
theorem s_61_26 {d : Nat} {Q : wQ} {L : List (Option Value)} {st : List Value} {w : aw} {cn sn : Nat}  : wp d 61 Q 26 L st w cn sn = wp d 61 Q 29 L (.int 4095 :: st) w cn sn := w_sipush d_61_26 (by decide)
theorem d_61_29 : decode (mB 61) 29 = .ok (.iand, 1) := by decide +kernel
theorem s_61_29 {d : Nat} {Q : wQ} {L : List (Option Value)} {st : List Value} {w : aw} {cn sn : Nat} {a b : Int32} : wp d 61 Q 29 L (.int b :: .int a :: st) w cn sn = wp d 61 Q 30 L (.int (a &&& b) :: st) w cn sn := wp_row d_61_29 _ _ _ _ _
theorem d_61_30 : decode (mB 61) 30 = .ok (.putfield 58, 3) := by decide +kernel
theorem s_61_30 {d : Nat} {Q : wQ} {L : List (Option Value)} {st : List Value} {w : aw} {cn sn : Nat} {x : Int32} {a : Nat} : wp d 61 Q 30 L (.int x :: .ref a :: st) w cn sn = (kd w a = 7 ∧ wp d 61 Q 33 L st (uF w 391 a (.int x)) cn sn) := w_putfield d_61_30 (by decide +kernel : fT (mO 61) 58 = some (6, 7)) (by decide +kernel) ok_int
theorem d_61_33 : decode (mB 61) 33 = .ok (.return_, 1) := by decide +kernel
theorem s_61_33 {d : Nat} {Q : wQ} {L : List (Option Value)} {w : aw} {cn sn : Nat}  : wp d 61 Q 33 L [] w cn sn = Q none w := w_return d_61_33 rfl
theorem d_62_0 : decode (mB 62) 0 = .ok (.aload_n 0, 1) := by decide +kernel
theorem s_62_0 {d : Nat} {Q : wQ} {L : List (Option Value)} {st : List Value} {w : aw} {cn sn : Nat} {v : Nat} : wp d 62 Q 0 (some (.ref v) :: L) st w cn sn = wp d 62 Q 1 (some (.ref v) :: L) (.ref v :: st) w cn sn := w_aload_n d_62_0 rfl
theorem d_62_1 : decode (mB 62) 1 = .ok (.iload_n 1, 1) := by decide +kernel
theorem s_62_1 {d : Nat} {Q : wQ} {L : List (Option Value)} {st : List Value} {w : aw} {cn sn : Nat} {a0 : Option Value} {v : Int32} : wp d 62 Q 1 (a0 :: some (.int v) :: L) st w cn sn = wp d 62 Q 2 (a0 :: some (.int v) :: L) (.int v :: st) w cn sn := w_iload_n d_62_1 rfl
theorem d_62_2 : decode (mB 62) 2 = .ok (.iload_n 2, 1) := by decide +kernel
theorem s_62_2 {d : Nat} {Q : wQ} {L : List (Option Value)} {st : List Value} {w : aw} {cn sn : Nat} {a0 a1 : Option Value} {v : Int32} : wp d 62 Q 2 (a0 :: a1 :: some (.int v) :: L) st w cn sn = wp d 62 Q 3 (a0 :: a1 :: some (.int v) :: L) (.int v :: st) w cn sn := w_iload_n d_62_2 rfl
theorem d_62_3 : decode (mB 62) 3 = .ok (.invokevirtual 64, 3) := by decide +kernel
theorem s_62_3 {d : Nat} {Q : wQ} {L : List (Option Value)} {st : List Value} {w : aw} {cn sn : Nat} {v0 v1 : Value} {b : Nat} : wp d 62 Q 3 L (v1 :: v0 :: .ref b :: st) w cn sn = (kd w b = 7 ∧ catS st ≤ 8 ∧ wpD d 63 [.ref b, v0, v1] w (fun v w' => wp d 62 Q 6 L (v.toList ++ st) w' cn sn)) := w_virtual (As := [v0, v1]) d_62_3 (by decide +kernel : cT (mO 62) 64 = some (0, 63)) rfl (by decide +kernel) rfl (by decide +kernel) rfl
theorem d_62_6 : decode (mB 62) 6 = .ok (.istore_n 3, 1) := by decide +kernel
theorem s_62_6 {d : Nat} {Q : wQ} {L : List (Option Value)} {st : List Value} {w : aw} {cn sn : Nat} {a0 a1 a2 a3 : Option Value} {v : Int32} : wp d 62 Q 6 (a0 :: a1 :: a2 :: a3 :: L) (.int v :: st) w cn sn = wp d 62 Q 7 (a0 :: a1 :: clr a2 :: some (.int v) :: L) st w cn sn := w_istore_n d_62_6 (Nat.le_add_left 4 _) rfl
theorem d_62_7 : decode (mB 62) 7 = .ok (.iload_n 1, 1) := by decide +kernel
theorem s_62_7 {d : Nat} {Q : wQ} {L : List (Option Value)} {st : List Value} {w : aw} {cn sn : Nat} {a0 : Option Value} {v : Int32} : wp d 62 Q 7 (a0 :: some (.int v) :: L) st w cn sn = wp d 62 Q 8 (a0 :: some (.int v) :: L) (.int v :: st) w cn sn := w_iload_n d_62_7 rfl
theorem d_62_8 : decode (mB 62) 8 = .ok (.bipush 9, 2) := by decide +kernel
theorem s_62_8 {d : Nat} {Q : wQ} {L : List (Option Value)} {st : List Value} {w : aw} {cn sn : Nat}  : wp d 62 Q 8 L st w cn sn = wp d 62 Q 10 L (.int 9 :: st) w cn sn := w_bipush d_62_8 (by decide)
theorem d_62_10 : decode (mB 62) 10 = .ok (.ishr, 1) := by decide +kernel
theorem s_62_10 {d : Nat} {Q : wQ} {L : List (Option Value)} {st : List Value} {w : aw} {cn sn : Nat} {a b : Int32} : wp d 62 Q 10 L (.int b :: .int a :: st) w cn sn = wp d 62 Q 11 L (.int (a >>> (b &&& 31)) :: st) w cn sn := wp_row d_62_10 _ _ _ _ _
theorem d_62_11 : decode (mB 62) 11 = .ok (.tableswitch 140 0 4 #[33, 51, 64, 98, 116], 33) := by decide +kernel
theorem s_62_11 {d : Nat} {Q : wQ} {L : List (Option Value)} {st : List Value} {w : aw} {cn sn : Nat} {x : Int32} : wp d 62 Q 11 L (.int x :: st) w cn sn = ((x.toInt < 0 ∨ 4 < x.toInt → wp d 62 Q 151 L st w cn sn) ∧ ∀ (i t : Nat), ([44, 62, 75, 109, 127] : List Nat)[i]? = some t → x.toInt = 0 + i → wp d 62 Q t L st w cn sn) := w_table d_62_11 (by decide) (by decide) (by decide)
theorem d_62_44 : decode (mB 62) 44 = .ok (.aload_n 0, 1) := by decide +kernel
theorem s_62_44 {d : Nat} {Q : wQ} {L : List (Option Value)} {st : List Value} {w : aw} {cn sn : Nat} {v : Nat} : wp d 62 Q 44 (some (.ref v) :: L) st w cn sn = wp d 62 Q 45 (some (.ref v) :: L) (.ref v :: st) w cn sn := w_aload_n d_62_44 rfl
theorem d_62_45 : decode (mB 62) 45 = .ok (.dup, 1) := by decide +kernel
theorem s_62_45 {d : Nat} {Q : wQ} {L : List (Option Value)} {st : List Value} {w : aw} {cn sn : Nat} {v : Value} : wp d 62 Q 45 L (v :: st) w cn sn = (v.category = 1 ∧ wp d 62 Q 46 L (v :: v :: st) w cn sn) := wp_row d_62_45 _ _ _ _ _
theorem d_62_46 : decode (mB 62) 46 = .ok (.getfield 58, 3) := by decide +kernel
theorem s_62_46 {d : Nat} {Q : wQ} {L : List (Option Value)} {st : List Value} {w : aw} {cn sn : Nat} {a : Nat} : wp d 62 Q 46 L (.ref a :: st) w cn sn = (kd w a = 7 ∧ wp d 62 Q 49 L (fd w 391 a :: st) w cn sn) := w_getfield d_62_46 (by decide +kernel : fT (mO 62) 58 = some (6, 7))
theorem d_62_49 : decode (mB 62) 49 = .ok (.aload_n 0, 1) := by decide +kernel
theorem s_62_49 {d : Nat} {Q : wQ} {L : List (Option Value)} {st : List Value} {w : aw} {cn sn : Nat} {v : Nat} : wp d 62 Q 49 (some (.ref v) :: L) st w cn sn = wp d 62 Q 50 (some (.ref v) :: L) (.ref v :: st) w cn sn := w_aload_n d_62_49 rfl
theorem d_62_50 : decode (mB 62) 50 = .ok (.getfield 9, 3) := by decide +kernel
theorem s_62_50 {d : Nat} {Q : wQ} {L : List (Option Value)} {st : List Value} {w : aw} {cn sn : Nat} {a : Nat} : wp d 62 Q 50 L (.ref a :: st) w cn sn = (kd w a = 7 ∧ wp d 62 Q 53 L (fd w 385 a :: st) w cn sn) := w_getfield d_62_50 (by decide +kernel : fT (mO 62) 9 = some (6, 1))
theorem d_62_53 : decode (mB 62) 53 = .ok (.iload_n 3, 1) := by decide +kernel
theorem s_62_53 {d : Nat} {Q : wQ} {L : List (Option Value)} {st : List Value} {w : aw} {cn sn : Nat} {a0 a1 a2 : Option Value} {v : Int32} : wp d 62 Q 53 (a0 :: a1 :: a2 :: some (.int v) :: L) st w cn sn = wp d 62 Q 54 (a0 :: a1 :: a2 :: some (.int v) :: L) (.int v :: st) w cn sn := w_iload_n d_62_53 rfl
theorem d_62_54 : decode (mB 62) 54 = .ok (.iaload, 1) := by decide +kernel
theorem s_62_54 {d : Nat} {Q : wQ} {L : List (Option Value)} {st : List Value} {w : aw} {cn sn : Nat} {a : Nat} {i : Int32} : wp d 62 Q 54 L (.int i :: .ref a :: st) w cn sn = ((kd w a = 20 ∨ kd w a = 30) ∧ inR i (ln w a) ∧ wp d 62 Q 55 L (.int (ai w a i.toNatClampNeg) :: st) w cn sn) := wp_row d_62_54 _ _ _ _ _
theorem d_62_55 : decode (mB 62) 55 = .ok (.iand, 1) := by decide +kernel
theorem s_62_55 {d : Nat} {Q : wQ} {L : List (Option Value)} {st : List Value} {w : aw} {cn sn : Nat} {a b : Int32} : wp d 62 Q 55 L (.int b :: .int a :: st) w cn sn = wp d 62 Q 56 L (.int (a &&& b) :: st) w cn sn := wp_row d_62_55 _ _ _ _ _
theorem d_62_56 : decode (mB 62) 56 = .ok (.putfield 58, 3) := by decide +kernel
theorem s_62_56 {d : Nat} {Q : wQ} {L : List (Option Value)} {st : List Value} {w : aw} {cn sn : Nat} {x : Int32} {a : Nat} : wp d 62 Q 56 L (.int x :: .ref a :: st) w cn sn = (kd w a = 7 ∧ wp d 62 Q 59 L st (uF w 391 a (.int x)) cn sn) := w_putfield d_62_56 (by decide +kernel : fT (mO 62) 58 = some (6, 7)) (by decide +kernel) ok_int
theorem d_62_59 : decode (mB 62) 59 = .ok (.goto 97, 3) := by decide +kernel
theorem s_62_59 {d : Nat} {Q : wQ} {L : List (Option Value)} {st : List Value} {w : aw} {cn sn : Nat}  : wp d 62 Q 59 L st w cn sn = wp d 62 Q 156 L st w cn sn := w_goto d_62_59 (by decide)
theorem d_62_62 : decode (mB 62) 62 = .ok (.aload_n 0, 1) := by decide +kernel
theorem s_62_62 {d : Nat} {Q : wQ} {L : List (Option Value)} {st : List Value} {w : aw} {cn sn : Nat} {v : Nat} : wp d 62 Q 62 (some (.ref v) :: L) st w cn sn = wp d 62 Q 63 (some (.ref v) :: L) (.ref v :: st) w cn sn := w_aload_n d_62_62 rfl
theorem d_62_63 : decode (mB 62) 63 = .ok (.aload_n 0, 1) := by decide +kernel
theorem s_62_63 {d : Nat} {Q : wQ} {L : List (Option Value)} {st : List Value} {w : aw} {cn sn : Nat} {v : Nat} : wp d 62 Q 63 (some (.ref v) :: L) st w cn sn = wp d 62 Q 64 (some (.ref v) :: L) (.ref v :: st) w cn sn := w_aload_n d_62_63 rfl
theorem d_62_64 : decode (mB 62) 64 = .ok (.getfield 9, 3) := by decide +kernel
theorem s_62_64 {d : Nat} {Q : wQ} {L : List (Option Value)} {st : List Value} {w : aw} {cn sn : Nat} {a : Nat} : wp d 62 Q 64 L (.ref a :: st) w cn sn = (kd w a = 7 ∧ wp d 62 Q 67 L (fd w 385 a :: st) w cn sn) := w_getfield d_62_64 (by decide +kernel : fT (mO 62) 9 = some (6, 1))
theorem d_62_67 : decode (mB 62) 67 = .ok (.iload_n 3, 1) := by decide +kernel
theorem s_62_67 {d : Nat} {Q : wQ} {L : List (Option Value)} {st : List Value} {w : aw} {cn sn : Nat} {a0 a1 a2 : Option Value} {v : Int32} : wp d 62 Q 67 (a0 :: a1 :: a2 :: some (.int v) :: L) st w cn sn = wp d 62 Q 68 (a0 :: a1 :: a2 :: some (.int v) :: L) (.int v :: st) w cn sn := w_iload_n d_62_67 rfl
theorem d_62_68 : decode (mB 62) 68 = .ok (.iaload, 1) := by decide +kernel
theorem s_62_68 {d : Nat} {Q : wQ} {L : List (Option Value)} {st : List Value} {w : aw} {cn sn : Nat} {a : Nat} {i : Int32} : wp d 62 Q 68 L (.int i :: .ref a :: st) w cn sn = ((kd w a = 20 ∨ kd w a = 30) ∧ inR i (ln w a) ∧ wp d 62 Q 69 L (.int (ai w a i.toNatClampNeg) :: st) w cn sn) := wp_row d_62_68 _ _ _ _ _
theorem d_62_69 : decode (mB 62) 69 = .ok (.invokevirtual 68, 3) := by decide +kernel
theorem s_62_69 {d : Nat} {Q : wQ} {L : List (Option Value)} {st : List Value} {w : aw} {cn sn : Nat} {v0 : Value} {b : Nat} : wp d 62 Q 69 L (v0 :: .ref b :: st) w cn sn = (kd w b = 7 ∧ catS st ≤ 8 ∧ wpD d 61 [.ref b, v0] w (fun v w' => wp d 62 Q 72 L (v.toList ++ st) w' cn sn)) := w_virtual (As := [v0]) d_62_69 (by decide +kernel : cT (mO 62) 68 = some (0, 61)) rfl (by decide +kernel) rfl (by decide +kernel) rfl
theorem d_62_72 : decode (mB 62) 72 = .ok (.goto 84, 3) := by decide +kernel
theorem s_62_72 {d : Nat} {Q : wQ} {L : List (Option Value)} {st : List Value} {w : aw} {cn sn : Nat}  : wp d 62 Q 72 L st w cn sn = wp d 62 Q 156 L st w cn sn := w_goto d_62_72 (by decide)
theorem d_62_75 : decode (mB 62) 75 = .ok (.aload_n 0, 1) := by decide +kernel
theorem s_62_75 {d : Nat} {Q : wQ} {L : List (Option Value)} {st : List Value} {w : aw} {cn sn : Nat} {v : Nat} : wp d 62 Q 75 (some (.ref v) :: L) st w cn sn = wp d 62 Q 76 (some (.ref v) :: L) (.ref v :: st) w cn sn := w_aload_n d_62_75 rfl
theorem d_62_76 : decode (mB 62) 76 = .ok (.getfield 9, 3) := by decide +kernel
theorem s_62_76 {d : Nat} {Q : wQ} {L : List (Option Value)} {st : List Value} {w : aw} {cn sn : Nat} {a : Nat} : wp d 62 Q 76 L (.ref a :: st) w cn sn = (kd w a = 7 ∧ wp d 62 Q 79 L (fd w 385 a :: st) w cn sn) := w_getfield d_62_76 (by decide +kernel : fT (mO 62) 9 = some (6, 1))
theorem d_62_79 : decode (mB 62) 79 = .ok (.iload_n 3, 1) := by decide +kernel
theorem s_62_79 {d : Nat} {Q : wQ} {L : List (Option Value)} {st : List Value} {w : aw} {cn sn : Nat} {a0 a1 a2 : Option Value} {v : Int32} : wp d 62 Q 79 (a0 :: a1 :: a2 :: some (.int v) :: L) st w cn sn = wp d 62 Q 80 (a0 :: a1 :: a2 :: some (.int v) :: L) (.int v :: st) w cn sn := w_iload_n d_62_79 rfl
theorem d_62_80 : decode (mB 62) 80 = .ok (.aload_n 0, 1) := by decide +kernel
theorem s_62_80 {d : Nat} {Q : wQ} {L : List (Option Value)} {st : List Value} {w : aw} {cn sn : Nat} {v : Nat} : wp d 62 Q 80 (some (.ref v) :: L) st w cn sn = wp d 62 Q 81 (some (.ref v) :: L) (.ref v :: st) w cn sn := w_aload_n d_62_80 rfl
theorem d_62_81 : decode (mB 62) 81 = .ok (.getfield 9, 3) := by decide +kernel
theorem s_62_81 {d : Nat} {Q : wQ} {L : List (Option Value)} {st : List Value} {w : aw} {cn sn : Nat} {a : Nat} : wp d 62 Q 81 L (.ref a :: st) w cn sn = (kd w a = 7 ∧ wp d 62 Q 84 L (fd w 385 a :: st) w cn sn) := w_getfield d_62_81 (by decide +kernel : fT (mO 62) 9 = some (6, 1))
theorem d_62_84 : decode (mB 62) 84 = .ok (.iload_n 3, 1) := by decide +kernel
theorem s_62_84 {d : Nat} {Q : wQ} {L : List (Option Value)} {st : List Value} {w : aw} {cn sn : Nat} {a0 a1 a2 : Option Value} {v : Int32} : wp d 62 Q 84 (a0 :: a1 :: a2 :: some (.int v) :: L) st w cn sn = wp d 62 Q 85 (a0 :: a1 :: a2 :: some (.int v) :: L) (.int v :: st) w cn sn := w_iload_n d_62_84 rfl
theorem d_62_85 : decode (mB 62) 85 = .ok (.iaload, 1) := by decide +kernel
theorem s_62_85 {d : Nat} {Q : wQ} {L : List (Option Value)} {st : List Value} {w : aw} {cn sn : Nat} {a : Nat} {i : Int32} : wp d 62 Q 85 L (.int i :: .ref a :: st) w cn sn = ((kd w a = 20 ∨ kd w a = 30) ∧ inR i (ln w a) ∧ wp d 62 Q 86 L (.int (ai w a i.toNatClampNeg) :: st) w cn sn) := wp_row d_62_85 _ _ _ _ _
theorem d_62_86 : decode (mB 62) 86 = .ok (.iconst 1, 1) := by decide +kernel
theorem s_62_86 {d : Nat} {Q : wQ} {L : List (Option Value)} {st : List Value} {w : aw} {cn sn : Nat}  : wp d 62 Q 86 L st w cn sn = wp d 62 Q 87 L (.int 1 :: st) w cn sn := w_iconst d_62_86 (by decide)
theorem d_62_87 : decode (mB 62) 87 = .ok (.iadd, 1) := by decide +kernel
theorem s_62_87 {d : Nat} {Q : wQ} {L : List (Option Value)} {st : List Value} {w : aw} {cn sn : Nat} {a b : Int32} : wp d 62 Q 87 L (.int b :: .int a :: st) w cn sn = wp d 62 Q 88 L (.int (a + b) :: st) w cn sn := wp_row d_62_87 _ _ _ _ _
theorem d_62_88 : decode (mB 62) 88 = .ok (.sipush 4095, 3) := by decide +kernel
theorem s_62_88 {d : Nat} {Q : wQ} {L : List (Option Value)} {st : List Value} {w : aw} {cn sn : Nat}  : wp d 62 Q 88 L st w cn sn = wp d 62 Q 91 L (.int 4095 :: st) w cn sn := w_sipush d_62_88 (by decide)
theorem d_62_91 : decode (mB 62) 91 = .ok (.iand, 1) := by decide +kernel
theorem s_62_91 {d : Nat} {Q : wQ} {L : List (Option Value)} {st : List Value} {w : aw} {cn sn : Nat} {a b : Int32} : wp d 62 Q 91 L (.int b :: .int a :: st) w cn sn = wp d 62 Q 92 L (.int (a &&& b) :: st) w cn sn := wp_row d_62_91 _ _ _ _ _
theorem d_62_92 : decode (mB 62) 92 = .ok (.iastore, 1) := by decide +kernel
theorem s_62_92 {d : Nat} {Q : wQ} {L : List (Option Value)} {st : List Value} {w : aw} {cn sn : Nat} {a : Nat} {i x : Int32} : wp d 62 Q 92 L (.int x :: .int i :: .ref a :: st) w cn sn = (kd w a = 20 ∧ inR i (ln w a) ∧ wp d 62 Q 93 L st (uA w a i.toNatClampNeg x) cn sn) := wp_row d_62_92 _ _ _ _ _
theorem d_62_93 : decode (mB 62) 93 = .ok (.aload_n 0, 1) := by decide +kernel
theorem s_62_93 {d : Nat} {Q : wQ} {L : List (Option Value)} {st : List Value} {w : aw} {cn sn : Nat} {v : Nat} : wp d 62 Q 93 (some (.ref v) :: L) st w cn sn = wp d 62 Q 94 (some (.ref v) :: L) (.ref v :: st) w cn sn := w_aload_n d_62_93 rfl
theorem d_62_94 : decode (mB 62) 94 = .ok (.getfield 9, 3) := by decide +kernel
theorem s_62_94 {d : Nat} {Q : wQ} {L : List (Option Value)} {st : List Value} {w : aw} {cn sn : Nat} {a : Nat} : wp d 62 Q 94 L (.ref a :: st) w cn sn = (kd w a = 7 ∧ wp d 62 Q 97 L (fd w 385 a :: st) w cn sn) := w_getfield d_62_94 (by decide +kernel : fT (mO 62) 9 = some (6, 1))
theorem d_62_97 : decode (mB 62) 97 = .ok (.iload_n 3, 1) := by decide +kernel
theorem s_62_97 {d : Nat} {Q : wQ} {L : List (Option Value)} {st : List Value} {w : aw} {cn sn : Nat} {a0 a1 a2 : Option Value} {v : Int32} : wp d 62 Q 97 (a0 :: a1 :: a2 :: some (.int v) :: L) st w cn sn = wp d 62 Q 98 (a0 :: a1 :: a2 :: some (.int v) :: L) (.int v :: st) w cn sn := w_iload_n d_62_97 rfl
theorem d_62_98 : decode (mB 62) 98 = .ok (.iaload, 1) := by decide +kernel
theorem s_62_98 {d : Nat} {Q : wQ} {L : List (Option Value)} {st : List Value} {w : aw} {cn sn : Nat} {a : Nat} {i : Int32} : wp d 62 Q 98 L (.int i :: .ref a :: st) w cn sn = ((kd w a = 20 ∨ kd w a = 30) ∧ inR i (ln w a) ∧ wp d 62 Q 99 L (.int (ai w a i.toNatClampNeg) :: st) w cn sn) := wp_row d_62_98 _ _ _ _ _
theorem d_62_99 : decode (mB 62) 99 = .ok (.ifCond .ne 57, 3) := by decide +kernel
theorem s_62_99 {d : Nat} {Q : wQ} {L : List (Option Value)} {st : List Value} {w : aw} {cn sn : Nat} {x : Int32} : wp d 62 Q 99 L (.int x :: st) w cn sn = ((¬ x = 0 → wp d 62 Q 156 L st w cn sn) ∧ (x = 0 → wp d 62 Q 102 L st w cn sn)) := w_ifne d_62_99 (by decide)
theorem d_62_102 : decode (mB 62) 102 = .ok (.aload_n 0, 1) := by decide +kernel
theorem s_62_102 {d : Nat} {Q : wQ} {L : List (Option Value)} {st : List Value} {w : aw} {cn sn : Nat} {v : Nat} : wp d 62 Q 102 (some (.ref v) :: L) st w cn sn = wp d 62 Q 103 (some (.ref v) :: L) (.ref v :: st) w cn sn := w_aload_n d_62_102 rfl
theorem d_62_103 : decode (mB 62) 103 = .ok (.invokevirtual 41, 3) := by decide +kernel
theorem s_62_103 {d : Nat} {Q : wQ} {L : List (Option Value)} {st : List Value} {w : aw} {cn sn : Nat} {b : Nat} : wp d 62 Q 103 L (.ref b :: st) w cn sn = (kd w b = 7 ∧ catS st ≤ 8 ∧ wpD d 60 [.ref b] w (fun v w' => wp d 62 Q 106 L (v.toList ++ st) w' cn sn)) := w_virtual (As := []) d_62_103 (by decide +kernel : cT (mO 62) 41 = some (0, 60)) rfl (by decide +kernel) rfl (by decide +kernel) rfl
theorem d_62_106 : decode (mB 62) 106 = .ok (.goto 50, 3) := by decide +kernel
theorem s_62_106 {d : Nat} {Q : wQ} {L : List (Option Value)} {st : List Value} {w : aw} {cn sn : Nat}  : wp d 62 Q 106 L st w cn sn = wp d 62 Q 156 L st w cn sn := w_goto d_62_106 (by decide)
theorem d_62_109 : decode (mB 62) 109 = .ok (.aload_n 0, 1) := by decide +kernel
theorem s_62_109 {d : Nat} {Q : wQ} {L : List (Option Value)} {st : List Value} {w : aw} {cn sn : Nat} {v : Nat} : wp d 62 Q 109 (some (.ref v) :: L) st w cn sn = wp d 62 Q 110 (some (.ref v) :: L) (.ref v :: st) w cn sn := w_aload_n d_62_109 rfl
theorem d_62_110 : decode (mB 62) 110 = .ok (.getfield 9, 3) := by decide +kernel
theorem s_62_110 {d : Nat} {Q : wQ} {L : List (Option Value)} {st : List Value} {w : aw} {cn sn : Nat} {a : Nat} : wp d 62 Q 110 L (.ref a :: st) w cn sn = (kd w a = 7 ∧ wp d 62 Q 113 L (fd w 385 a :: st) w cn sn) := w_getfield d_62_110 (by decide +kernel : fT (mO 62) 9 = some (6, 1))
theorem d_62_113 : decode (mB 62) 113 = .ok (.iload_n 3, 1) := by decide +kernel
theorem s_62_113 {d : Nat} {Q : wQ} {L : List (Option Value)} {st : List Value} {w : aw} {cn sn : Nat} {a0 a1 a2 : Option Value} {v : Int32} : wp d 62 Q 113 (a0 :: a1 :: a2 :: some (.int v) :: L) st w cn sn = wp d 62 Q 114 (a0 :: a1 :: a2 :: some (.int v) :: L) (.int v :: st) w cn sn := w_iload_n d_62_113 rfl
theorem d_62_114 : decode (mB 62) 114 = .ok (.aload_n 0, 1) := by decide +kernel
theorem s_62_114 {d : Nat} {Q : wQ} {L : List (Option Value)} {st : List Value} {w : aw} {cn sn : Nat} {v : Nat} : wp d 62 Q 114 (some (.ref v) :: L) st w cn sn = wp d 62 Q 115 (some (.ref v) :: L) (.ref v :: st) w cn sn := w_aload_n d_62_114 rfl
theorem d_62_115 : decode (mB 62) 115 = .ok (.getfield 58, 3) := by decide +kernel
theorem s_62_115 {d : Nat} {Q : wQ} {L : List (Option Value)} {st : List Value} {w : aw} {cn sn : Nat} {a : Nat} : wp d 62 Q 115 L (.ref a :: st) w cn sn = (kd w a = 7 ∧ wp d 62 Q 118 L (fd w 391 a :: st) w cn sn) := w_getfield d_62_115 (by decide +kernel : fT (mO 62) 58 = some (6, 7))
theorem d_62_118 : decode (mB 62) 118 = .ok (.iastore, 1) := by decide +kernel
theorem s_62_118 {d : Nat} {Q : wQ} {L : List (Option Value)} {st : List Value} {w : aw} {cn sn : Nat} {a : Nat} {i x : Int32} : wp d 62 Q 118 L (.int x :: .int i :: .ref a :: st) w cn sn = (kd w a = 20 ∧ inR i (ln w a) ∧ wp d 62 Q 119 L st (uA w a i.toNatClampNeg x) cn sn) := wp_row d_62_118 _ _ _ _ _
theorem d_62_119 : decode (mB 62) 119 = .ok (.aload_n 0, 1) := by decide +kernel
theorem s_62_119 {d : Nat} {Q : wQ} {L : List (Option Value)} {st : List Value} {w : aw} {cn sn : Nat} {v : Nat} : wp d 62 Q 119 (some (.ref v) :: L) st w cn sn = wp d 62 Q 120 (some (.ref v) :: L) (.ref v :: st) w cn sn := w_aload_n d_62_119 rfl
theorem d_62_120 : decode (mB 62) 120 = .ok (.iconst 0, 1) := by decide +kernel
theorem s_62_120 {d : Nat} {Q : wQ} {L : List (Option Value)} {st : List Value} {w : aw} {cn sn : Nat}  : wp d 62 Q 120 L st w cn sn = wp d 62 Q 121 L (.int 0 :: st) w cn sn := w_iconst d_62_120 (by decide)
theorem d_62_121 : decode (mB 62) 121 = .ok (.putfield 58, 3) := by decide +kernel
theorem s_62_121 {d : Nat} {Q : wQ} {L : List (Option Value)} {st : List Value} {w : aw} {cn sn : Nat} {x : Int32} {a : Nat} : wp d 62 Q 121 L (.int x :: .ref a :: st) w cn sn = (kd w a = 7 ∧ wp d 62 Q 124 L st (uF w 391 a (.int x)) cn sn) := w_putfield d_62_121 (by decide +kernel : fT (mO 62) 58 = some (6, 7)) (by decide +kernel) ok_int
theorem d_62_124 : decode (mB 62) 124 = .ok (.goto 32, 3) := by decide +kernel
theorem s_62_124 {d : Nat} {Q : wQ} {L : List (Option Value)} {st : List Value} {w : aw} {cn sn : Nat}  : wp d 62 Q 124 L st w cn sn = wp d 62 Q 156 L st w cn sn := w_goto d_62_124 (by decide)
theorem d_62_127 : decode (mB 62) 127 = .ok (.aload_n 0, 1) := by decide +kernel
theorem s_62_127 {d : Nat} {Q : wQ} {L : List (Option Value)} {st : List Value} {w : aw} {cn sn : Nat} {v : Nat} : wp d 62 Q 127 (some (.ref v) :: L) st w cn sn = wp d 62 Q 128 (some (.ref v) :: L) (.ref v :: st) w cn sn := w_aload_n d_62_127 rfl
theorem d_62_128 : decode (mB 62) 128 = .ok (.getfield 9, 3) := by decide +kernel
theorem s_62_128 {d : Nat} {Q : wQ} {L : List (Option Value)} {st : List Value} {w : aw} {cn sn : Nat} {a : Nat} : wp d 62 Q 128 L (.ref a :: st) w cn sn = (kd w a = 7 ∧ wp d 62 Q 131 L (fd w 385 a :: st) w cn sn) := w_getfield d_62_128 (by decide +kernel : fT (mO 62) 9 = some (6, 1))
theorem d_62_131 : decode (mB 62) 131 = .ok (.iload_n 3, 1) := by decide +kernel
theorem s_62_131 {d : Nat} {Q : wQ} {L : List (Option Value)} {st : List Value} {w : aw} {cn sn : Nat} {a0 a1 a2 : Option Value} {v : Int32} : wp d 62 Q 131 (a0 :: a1 :: a2 :: some (.int v) :: L) st w cn sn = wp d 62 Q 132 (a0 :: a1 :: a2 :: some (.int v) :: L) (.int v :: st) w cn sn := w_iload_n d_62_131 rfl
theorem d_62_132 : decode (mB 62) 132 = .ok (.aload_n 0, 1) := by decide +kernel
theorem s_62_132 {d : Nat} {Q : wQ} {L : List (Option Value)} {st : List Value} {w : aw} {cn sn : Nat} {v : Nat} : wp d 62 Q 132 (some (.ref v) :: L) st w cn sn = wp d 62 Q 133 (some (.ref v) :: L) (.ref v :: st) w cn sn := w_aload_n d_62_132 rfl
theorem d_62_133 : decode (mB 62) 133 = .ok (.getfield 35, 3) := by decide +kernel
theorem s_62_133 {d : Nat} {Q : wQ} {L : List (Option Value)} {st : List Value} {w : aw} {cn sn : Nat} {a : Nat} : wp d 62 Q 133 L (.ref a :: st) w cn sn = (kd w a = 7 ∧ wp d 62 Q 136 L (fd w 390 a :: st) w cn sn) := w_getfield d_62_133 (by decide +kernel : fT (mO 62) 35 = some (6, 6))
theorem d_62_136 : decode (mB 62) 136 = .ok (.iastore, 1) := by decide +kernel
theorem s_62_136 {d : Nat} {Q : wQ} {L : List (Option Value)} {st : List Value} {w : aw} {cn sn : Nat} {a : Nat} {i x : Int32} : wp d 62 Q 136 L (.int x :: .int i :: .ref a :: st) w cn sn = (kd w a = 20 ∧ inR i (ln w a) ∧ wp d 62 Q 137 L st (uA w a i.toNatClampNeg x) cn sn) := wp_row d_62_136 _ _ _ _ _
theorem d_62_137 : decode (mB 62) 137 = .ok (.aload_n 0, 1) := by decide +kernel
theorem s_62_137 {d : Nat} {Q : wQ} {L : List (Option Value)} {st : List Value} {w : aw} {cn sn : Nat} {v : Nat} : wp d 62 Q 137 (some (.ref v) :: L) st w cn sn = wp d 62 Q 138 (some (.ref v) :: L) (.ref v :: st) w cn sn := w_aload_n d_62_137 rfl
theorem d_62_138 : decode (mB 62) 138 = .ok (.iload_n 3, 1) := by decide +kernel
theorem s_62_138 {d : Nat} {Q : wQ} {L : List (Option Value)} {st : List Value} {w : aw} {cn sn : Nat} {a0 a1 a2 : Option Value} {v : Int32} : wp d 62 Q 138 (a0 :: a1 :: a2 :: some (.int v) :: L) st w cn sn = wp d 62 Q 139 (a0 :: a1 :: a2 :: some (.int v) :: L) (.int v :: st) w cn sn := w_iload_n d_62_138 rfl
theorem d_62_139 : decode (mB 62) 139 = .ok (.iconst 1, 1) := by decide +kernel
theorem s_62_139 {d : Nat} {Q : wQ} {L : List (Option Value)} {st : List Value} {w : aw} {cn sn : Nat}  : wp d 62 Q 139 L st w cn sn = wp d 62 Q 140 L (.int 1 :: st) w cn sn := w_iconst d_62_139 (by decide)
theorem d_62_140 : decode (mB 62) 140 = .ok (.iadd, 1) := by decide +kernel
theorem s_62_140 {d : Nat} {Q : wQ} {L : List (Option Value)} {st : List Value} {w : aw} {cn sn : Nat} {a b : Int32} : wp d 62 Q 140 L (.int b :: .int a :: st) w cn sn = wp d 62 Q 141 L (.int (a + b) :: st) w cn sn := wp_row d_62_140 _ _ _ _ _
theorem d_62_141 : decode (mB 62) 141 = .ok (.sipush 4095, 3) := by decide +kernel
theorem s_62_141 {d : Nat} {Q : wQ} {L : List (Option Value)} {st : List Value} {w : aw} {cn sn : Nat}  : wp d 62 Q 141 L st w cn sn = wp d 62 Q 144 L (.int 4095 :: st) w cn sn := w_sipush d_62_141 (by decide)
theorem d_62_144 : decode (mB 62) 144 = .ok (.iand, 1) := by decide +kernel
theorem s_62_144 {d : Nat} {Q : wQ} {L : List (Option Value)} {st : List Value} {w : aw} {cn sn : Nat} {a b : Int32} : wp d 62 Q 144 L (.int b :: .int a :: st) w cn sn = wp d 62 Q 145 L (.int (a &&& b) :: st) w cn sn := wp_row d_62_144 _ _ _ _ _
theorem d_62_145 : decode (mB 62) 145 = .ok (.putfield 35, 3) := by decide +kernel
theorem s_62_145 {d : Nat} {Q : wQ} {L : List (Option Value)} {st : List Value} {w : aw} {cn sn : Nat} {x : Int32} {a : Nat} : wp d 62 Q 145 L (.int x :: .ref a :: st) w cn sn = (kd w a = 7 ∧ wp d 62 Q 148 L st (uF w 390 a (.int x)) cn sn) := w_putfield d_62_145 (by decide +kernel : fT (mO 62) 35 = some (6, 6)) (by decide +kernel) ok_int
theorem d_62_148 : decode (mB 62) 148 = .ok (.goto 8, 3) := by decide +kernel
theorem s_62_148 {d : Nat} {Q : wQ} {L : List (Option Value)} {st : List Value} {w : aw} {cn sn : Nat}  : wp d 62 Q 148 L st w cn sn = wp d 62 Q 156 L st w cn sn := w_goto d_62_148 (by decide)
theorem d_62_151 : decode (mB 62) 151 = .ok (.aload_n 0, 1) := by decide +kernel
theorem s_62_151 {d : Nat} {Q : wQ} {L : List (Option Value)} {st : List Value} {w : aw} {cn sn : Nat} {v : Nat} : wp d 62 Q 151 (some (.ref v) :: L) st w cn sn = wp d 62 Q 152 (some (.ref v) :: L) (.ref v :: st) w cn sn := w_aload_n d_62_151 rfl
theorem d_62_152 : decode (mB 62) 152 = .ok (.iload_n 3, 1) := by decide +kernel
theorem s_62_152 {d : Nat} {Q : wQ} {L : List (Option Value)} {st : List Value} {w : aw} {cn sn : Nat} {a0 a1 a2 : Option Value} {v : Int32} : wp d 62 Q 152 (a0 :: a1 :: a2 :: some (.int v) :: L) st w cn sn = wp d 62 Q 153 (a0 :: a1 :: a2 :: some (.int v) :: L) (.int v :: st) w cn sn := w_iload_n d_62_152 rfl
theorem d_62_153 : decode (mB 62) 153 = .ok (.putfield 35, 3) := by decide +kernel
theorem s_62_153 {d : Nat} {Q : wQ} {L : List (Option Value)} {st : List Value} {w : aw} {cn sn : Nat} {x : Int32} {a : Nat} : wp d 62 Q 153 L (.int x :: .ref a :: st) w cn sn = (kd w a = 7 ∧ wp d 62 Q 156 L st (uF w 390 a (.int x)) cn sn) := w_putfield d_62_153 (by decide +kernel : fT (mO 62) 35 = some (6, 6)) (by decide +kernel) ok_int
theorem d_62_156 : decode (mB 62) 156 = .ok (.return_, 1) := by decide +kernel
theorem s_62_156 {d : Nat} {Q : wQ} {L : List (Option Value)} {w : aw} {cn sn : Nat}  : wp d 62 Q 156 L [] w cn sn = Q none w := w_return d_62_156 rfl
theorem d_63_0 : decode (mB 63) 0 = .ok (.iload_n 1, 1) := by decide +kernel
theorem s_63_0 {d : Nat} {Q : wQ} {L : List (Option Value)} {st : List Value} {w : aw} {cn sn : Nat} {a0 : Option Value} {v : Int32} : wp d 63 Q 0 (a0 :: some (.int v) :: L) st w cn sn = wp d 63 Q 1 (a0 :: some (.int v) :: L) (.int v :: st) w cn sn := w_iload_n d_63_0 rfl
theorem d_63_1 : decode (mB 63) 1 = .ok (.bipush 127, 2) := by decide +kernel
theorem s_63_1 {d : Nat} {Q : wQ} {L : List (Option Value)} {st : List Value} {w : aw} {cn sn : Nat}  : wp d 63 Q 1 L st w cn sn = wp d 63 Q 3 L (.int 127 :: st) w cn sn := w_bipush d_63_1 (by decide)
theorem d_63_3 : decode (mB 63) 3 = .ok (.iand, 1) := by decide +kernel
theorem s_63_3 {d : Nat} {Q : wQ} {L : List (Option Value)} {st : List Value} {w : aw} {cn sn : Nat} {a b : Int32} : wp d 63 Q 3 L (.int b :: .int a :: st) w cn sn = wp d 63 Q 4 L (.int (a &&& b) :: st) w cn sn := wp_row d_63_3 _ _ _ _ _
theorem d_63_4 : decode (mB 63) 4 = .ok (.istore_n 3, 1) := by decide +kernel
theorem s_63_4 {d : Nat} {Q : wQ} {L : List (Option Value)} {st : List Value} {w : aw} {cn sn : Nat} {a0 a1 a2 a3 : Option Value} {v : Int32} : wp d 63 Q 4 (a0 :: a1 :: a2 :: a3 :: L) (.int v :: st) w cn sn = wp d 63 Q 5 (a0 :: a1 :: clr a2 :: some (.int v) :: L) st w cn sn := w_istore_n d_63_4 (Nat.le_add_left 4 _) rfl
theorem d_63_5 : decode (mB 63) 5 = .ok (.iload_n 1, 1) := by decide +kernel
theorem s_63_5 {d : Nat} {Q : wQ} {L : List (Option Value)} {st : List Value} {w : aw} {cn sn : Nat} {a0 : Option Value} {v : Int32} : wp d 63 Q 5 (a0 :: some (.int v) :: L) st w cn sn = wp d 63 Q 6 (a0 :: some (.int v) :: L) (.int v :: st) w cn sn := w_iload_n d_63_5 rfl
theorem d_63_6 : decode (mB 63) 6 = .ok (.sipush 128, 3) := by decide +kernel
theorem s_63_6 {d : Nat} {Q : wQ} {L : List (Option Value)} {st : List Value} {w : aw} {cn sn : Nat}  : wp d 63 Q 6 L st w cn sn = wp d 63 Q 9 L (.int 128 :: st) w cn sn := w_sipush d_63_6 (by decide)
theorem d_63_9 : decode (mB 63) 9 = .ok (.iand, 1) := by decide +kernel
theorem s_63_9 {d : Nat} {Q : wQ} {L : List (Option Value)} {st : List Value} {w : aw} {cn sn : Nat} {a b : Int32} : wp d 63 Q 9 L (.int b :: .int a :: st) w cn sn = wp d 63 Q 10 L (.int (a &&& b) :: st) w cn sn := wp_row d_63_9 _ _ _ _ _
theorem d_63_10 : decode (mB 63) 10 = .ok (.ifCond .eq 11, 3) := by decide +kernel
theorem s_63_10 {d : Nat} {Q : wQ} {L : List (Option Value)} {st : List Value} {w : aw} {cn sn : Nat} {x : Int32} : wp d 63 Q 10 L (.int x :: st) w cn sn = ((x = 0 → wp d 63 Q 21 L st w cn sn) ∧ (¬ x = 0 → wp d 63 Q 13 L st w cn sn)) := w_ifeq d_63_10 (by decide)
theorem d_63_13 : decode (mB 63) 13 = .ok (.iload_n 3, 1) := by decide +kernel
theorem s_63_13 {d : Nat} {Q : wQ} {L : List (Option Value)} {st : List Value} {w : aw} {cn sn : Nat} {a0 a1 a2 : Option Value} {v : Int32} : wp d 63 Q 13 (a0 :: a1 :: a2 :: some (.int v) :: L) st w cn sn = wp d 63 Q 14 (a0 :: a1 :: a2 :: some (.int v) :: L) (.int v :: st) w cn sn := w_iload_n d_63_13 rfl
theorem d_63_14 : decode (mB 63) 14 = .ok (.iload_n 2, 1) := by decide +kernel
theorem s_63_14 {d : Nat} {Q : wQ} {L : List (Option Value)} {st : List Value} {w : aw} {cn sn : Nat} {a0 a1 : Option Value} {v : Int32} : wp d 63 Q 14 (a0 :: a1 :: some (.int v) :: L) st w cn sn = wp d 63 Q 15 (a0 :: a1 :: some (.int v) :: L) (.int v :: st) w cn sn := w_iload_n d_63_14 rfl
theorem d_63_15 : decode (mB 63) 15 = .ok (.sipush 3968, 3) := by decide +kernel
theorem s_63_15 {d : Nat} {Q : wQ} {L : List (Option Value)} {st : List Value} {w : aw} {cn sn : Nat}  : wp d 63 Q 15 L st w cn sn = wp d 63 Q 18 L (.int 3968 :: st) w cn sn := w_sipush d_63_15 (by decide)
theorem d_63_18 : decode (mB 63) 18 = .ok (.iand, 1) := by decide +kernel
theorem s_63_18 {d : Nat} {Q : wQ} {L : List (Option Value)} {st : List Value} {w : aw} {cn sn : Nat} {a b : Int32} : wp d 63 Q 18 L (.int b :: .int a :: st) w cn sn = wp d 63 Q 19 L (.int (a &&& b) :: st) w cn sn := wp_row d_63_18 _ _ _ _ _
theorem d_63_19 : decode (mB 63) 19 = .ok (.ior, 1) := by decide +kernel
theorem s_63_19 {d : Nat} {Q : wQ} {L : List (Option Value)} {st : List Value} {w : aw} {cn sn : Nat} {a b : Int32} : wp d 63 Q 19 L (.int b :: .int a :: st) w cn sn = wp d 63 Q 20 L (.int (a ||| b) :: st) w cn sn := wp_row d_63_19 _ _ _ _ _
theorem d_63_20 : decode (mB 63) 20 = .ok (.istore_n 3, 1) := by decide +kernel
theorem s_63_20 {d : Nat} {Q : wQ} {L : List (Option Value)} {st : List Value} {w : aw} {cn sn : Nat} {a0 a1 a2 a3 : Option Value} {v : Int32} : wp d 63 Q 20 (a0 :: a1 :: a2 :: a3 :: L) (.int v :: st) w cn sn = wp d 63 Q 21 (a0 :: a1 :: clr a2 :: some (.int v) :: L) st w cn sn := w_istore_n d_63_20 (Nat.le_add_left 4 _) rfl
theorem d_63_21 : decode (mB 63) 21 = .ok (.iload_n 1, 1) := by decide +kernel
theorem s_63_21 {d : Nat} {Q : wQ} {L : List (Option Value)} {st : List Value} {w : aw} {cn sn : Nat} {a0 : Option Value} {v : Int32} : wp d 63 Q 21 (a0 :: some (.int v) :: L) st w cn sn = wp d 63 Q 22 (a0 :: some (.int v) :: L) (.int v :: st) w cn sn := w_iload_n d_63_21 rfl
theorem d_63_22 : decode (mB 63) 22 = .ok (.sipush 256, 3) := by decide +kernel
theorem s_63_22 {d : Nat} {Q : wQ} {L : List (Option Value)} {st : List Value} {w : aw} {cn sn : Nat}  : wp d 63 Q 22 L st w cn sn = wp d 63 Q 25 L (.int 256 :: st) w cn sn := w_sipush d_63_22 (by decide)
theorem d_63_25 : decode (mB 63) 25 = .ok (.iand, 1) := by decide +kernel
theorem s_63_25 {d : Nat} {Q : wQ} {L : List (Option Value)} {st : List Value} {w : aw} {cn sn : Nat} {a b : Int32} : wp d 63 Q 25 L (.int b :: .int a :: st) w cn sn = wp d 63 Q 26 L (.int (a &&& b) :: st) w cn sn := wp_row d_63_25 _ _ _ _ _
theorem d_63_26 : decode (mB 63) 26 = .ok (.ifCond .ne 5, 3) := by decide +kernel
theorem s_63_26 {d : Nat} {Q : wQ} {L : List (Option Value)} {st : List Value} {w : aw} {cn sn : Nat} {x : Int32} : wp d 63 Q 26 L (.int x :: st) w cn sn = ((¬ x = 0 → wp d 63 Q 31 L st w cn sn) ∧ (x = 0 → wp d 63 Q 29 L st w cn sn)) := w_ifne d_63_26 (by decide)
theorem d_63_29 : decode (mB 63) 29 = .ok (.iload_n 3, 1) := by decide +kernel
theorem s_63_29 {d : Nat} {Q : wQ} {L : List (Option Value)} {st : List Value} {w : aw} {cn sn : Nat} {a0 a1 a2 : Option Value} {v : Int32} : wp d 63 Q 29 (a0 :: a1 :: a2 :: some (.int v) :: L) st w cn sn = wp d 63 Q 30 (a0 :: a1 :: a2 :: some (.int v) :: L) (.int v :: st) w cn sn := w_iload_n d_63_29 rfl
theorem d_63_30 : decode (mB 63) 30 = .ok (.ireturn, 1) := by decide +kernel
theorem s_63_30 {d : Nat} {Q : wQ} {L : List (Option Value)} {w : aw} {cn sn : Nat} {v : Int32} : wp d 63 Q 30 L [.int v] w cn sn = Q (some (.int v)) w := w_ireturn d_63_30 rfl
theorem d_63_31 : decode (mB 63) 31 = .ok (.iload_n 3, 1) := by decide +kernel
theorem s_63_31 {d : Nat} {Q : wQ} {L : List (Option Value)} {st : List Value} {w : aw} {cn sn : Nat} {a0 a1 a2 : Option Value} {v : Int32} : wp d 63 Q 31 (a0 :: a1 :: a2 :: some (.int v) :: L) st w cn sn = wp d 63 Q 32 (a0 :: a1 :: a2 :: some (.int v) :: L) (.int v :: st) w cn sn := w_iload_n d_63_31 rfl
theorem d_63_32 : decode (mB 63) 32 = .ok (.bipush 8, 2) := by decide +kernel
theorem s_63_32 {d : Nat} {Q : wQ} {L : List (Option Value)} {st : List Value} {w : aw} {cn sn : Nat}  : wp d 63 Q 32 L st w cn sn = wp d 63 Q 34 L (.int 8 :: st) w cn sn := w_bipush d_63_32 (by decide)
theorem d_63_34 : decode (mB 63) 34 = .ok (.if_icmp .lt 27, 3) := by decide +kernel
theorem s_63_34 {d : Nat} {Q : wQ} {L : List (Option Value)} {st : List Value} {w : aw} {cn sn : Nat} {a b : Int32} : wp d 63 Q 34 L (.int b :: .int a :: st) w cn sn = ((a < b → wp d 63 Q 61 L st w cn sn) ∧ (¬ a < b → wp d 63 Q 37 L st w cn sn)) := w_iclt d_63_34 (by decide)
theorem d_63_37 : decode (mB 63) 37 = .ok (.iload_n 3, 1) := by decide +kernel
theorem s_63_37 {d : Nat} {Q : wQ} {L : List (Option Value)} {st : List Value} {w : aw} {cn sn : Nat} {a0 a1 a2 : Option Value} {v : Int32} : wp d 63 Q 37 (a0 :: a1 :: a2 :: some (.int v) :: L) st w cn sn = wp d 63 Q 38 (a0 :: a1 :: a2 :: some (.int v) :: L) (.int v :: st) w cn sn := w_iload_n d_63_37 rfl
theorem d_63_38 : decode (mB 63) 38 = .ok (.bipush 15, 2) := by decide +kernel
theorem s_63_38 {d : Nat} {Q : wQ} {L : List (Option Value)} {st : List Value} {w : aw} {cn sn : Nat}  : wp d 63 Q 38 L st w cn sn = wp d 63 Q 40 L (.int 15 :: st) w cn sn := w_bipush d_63_38 (by decide)
theorem d_63_40 : decode (mB 63) 40 = .ok (.if_icmp .gt 21, 3) := by decide +kernel
theorem s_63_40 {d : Nat} {Q : wQ} {L : List (Option Value)} {st : List Value} {w : aw} {cn sn : Nat} {a b : Int32} : wp d 63 Q 40 L (.int b :: .int a :: st) w cn sn = ((b < a → wp d 63 Q 61 L st w cn sn) ∧ (¬ b < a → wp d 63 Q 43 L st w cn sn)) := w_icgt d_63_40 (by decide)
theorem d_63_43 : decode (mB 63) 43 = .ok (.aload_n 0, 1) := by decide +kernel
theorem s_63_43 {d : Nat} {Q : wQ} {L : List (Option Value)} {st : List Value} {w : aw} {cn sn : Nat} {v : Nat} : wp d 63 Q 43 (some (.ref v) :: L) st w cn sn = wp d 63 Q 44 (some (.ref v) :: L) (.ref v :: st) w cn sn := w_aload_n d_63_43 rfl
theorem d_63_44 : decode (mB 63) 44 = .ok (.getfield 9, 3) := by decide +kernel
theorem s_63_44 {d : Nat} {Q : wQ} {L : List (Option Value)} {st : List Value} {w : aw} {cn sn : Nat} {a : Nat} : wp d 63 Q 44 L (.ref a :: st) w cn sn = (kd w a = 7 ∧ wp d 63 Q 47 L (fd w 385 a :: st) w cn sn) := w_getfield d_63_44 (by decide +kernel : fT (mO 63) 9 = some (6, 1))
theorem d_63_47 : decode (mB 63) 47 = .ok (.iload_n 3, 1) := by decide +kernel
theorem s_63_47 {d : Nat} {Q : wQ} {L : List (Option Value)} {st : List Value} {w : aw} {cn sn : Nat} {a0 a1 a2 : Option Value} {v : Int32} : wp d 63 Q 47 (a0 :: a1 :: a2 :: some (.int v) :: L) st w cn sn = wp d 63 Q 48 (a0 :: a1 :: a2 :: some (.int v) :: L) (.int v :: st) w cn sn := w_iload_n d_63_47 rfl
theorem d_63_48 : decode (mB 63) 48 = .ok (.aload_n 0, 1) := by decide +kernel
theorem s_63_48 {d : Nat} {Q : wQ} {L : List (Option Value)} {st : List Value} {w : aw} {cn sn : Nat} {v : Nat} : wp d 63 Q 48 (some (.ref v) :: L) st w cn sn = wp d 63 Q 49 (some (.ref v) :: L) (.ref v :: st) w cn sn := w_aload_n d_63_48 rfl
theorem d_63_49 : decode (mB 63) 49 = .ok (.getfield 9, 3) := by decide +kernel
theorem s_63_49 {d : Nat} {Q : wQ} {L : List (Option Value)} {st : List Value} {w : aw} {cn sn : Nat} {a : Nat} : wp d 63 Q 49 L (.ref a :: st) w cn sn = (kd w a = 7 ∧ wp d 63 Q 52 L (fd w 385 a :: st) w cn sn) := w_getfield d_63_49 (by decide +kernel : fT (mO 63) 9 = some (6, 1))
theorem d_63_52 : decode (mB 63) 52 = .ok (.iload_n 3, 1) := by decide +kernel
theorem s_63_52 {d : Nat} {Q : wQ} {L : List (Option Value)} {st : List Value} {w : aw} {cn sn : Nat} {a0 a1 a2 : Option Value} {v : Int32} : wp d 63 Q 52 (a0 :: a1 :: a2 :: some (.int v) :: L) st w cn sn = wp d 63 Q 53 (a0 :: a1 :: a2 :: some (.int v) :: L) (.int v :: st) w cn sn := w_iload_n d_63_52 rfl
theorem d_63_53 : decode (mB 63) 53 = .ok (.iaload, 1) := by decide +kernel
theorem s_63_53 {d : Nat} {Q : wQ} {L : List (Option Value)} {st : List Value} {w : aw} {cn sn : Nat} {a : Nat} {i : Int32} : wp d 63 Q 53 L (.int i :: .ref a :: st) w cn sn = ((kd w a = 20 ∨ kd w a = 30) ∧ inR i (ln w a) ∧ wp d 63 Q 54 L (.int (ai w a i.toNatClampNeg) :: st) w cn sn) := wp_row d_63_53 _ _ _ _ _
theorem d_63_54 : decode (mB 63) 54 = .ok (.iconst 1, 1) := by decide +kernel
theorem s_63_54 {d : Nat} {Q : wQ} {L : List (Option Value)} {st : List Value} {w : aw} {cn sn : Nat}  : wp d 63 Q 54 L st w cn sn = wp d 63 Q 55 L (.int 1 :: st) w cn sn := w_iconst d_63_54 (by decide)
theorem d_63_55 : decode (mB 63) 55 = .ok (.iadd, 1) := by decide +kernel
theorem s_63_55 {d : Nat} {Q : wQ} {L : List (Option Value)} {st : List Value} {w : aw} {cn sn : Nat} {a b : Int32} : wp d 63 Q 55 L (.int b :: .int a :: st) w cn sn = wp d 63 Q 56 L (.int (a + b) :: st) w cn sn := wp_row d_63_55 _ _ _ _ _
theorem d_63_56 : decode (mB 63) 56 = .ok (.sipush 4095, 3) := by decide +kernel
theorem s_63_56 {d : Nat} {Q : wQ} {L : List (Option Value)} {st : List Value} {w : aw} {cn sn : Nat}  : wp d 63 Q 56 L st w cn sn = wp d 63 Q 59 L (.int 4095 :: st) w cn sn := w_sipush d_63_56 (by decide)
theorem d_63_59 : decode (mB 63) 59 = .ok (.iand, 1) := by decide +kernel
theorem s_63_59 {d : Nat} {Q : wQ} {L : List (Option Value)} {st : List Value} {w : aw} {cn sn : Nat} {a b : Int32} : wp d 63 Q 59 L (.int b :: .int a :: st) w cn sn = wp d 63 Q 60 L (.int (a &&& b) :: st) w cn sn := wp_row d_63_59 _ _ _ _ _
theorem d_63_60 : decode (mB 63) 60 = .ok (.iastore, 1) := by decide +kernel
theorem s_63_60 {d : Nat} {Q : wQ} {L : List (Option Value)} {st : List Value} {w : aw} {cn sn : Nat} {a : Nat} {i x : Int32} : wp d 63 Q 60 L (.int x :: .int i :: .ref a :: st) w cn sn = (kd w a = 20 ∧ inR i (ln w a) ∧ wp d 63 Q 61 L st (uA w a i.toNatClampNeg x) cn sn) := wp_row d_63_60 _ _ _ _ _
theorem d_63_61 : decode (mB 63) 61 = .ok (.aload_n 0, 1) := by decide +kernel
theorem s_63_61 {d : Nat} {Q : wQ} {L : List (Option Value)} {st : List Value} {w : aw} {cn sn : Nat} {v : Nat} : wp d 63 Q 61 (some (.ref v) :: L) st w cn sn = wp d 63 Q 62 (some (.ref v) :: L) (.ref v :: st) w cn sn := w_aload_n d_63_61 rfl
theorem d_63_62 : decode (mB 63) 62 = .ok (.getfield 9, 3) := by decide +kernel
theorem s_63_62 {d : Nat} {Q : wQ} {L : List (Option Value)} {st : List Value} {w : aw} {cn sn : Nat} {a : Nat} : wp d 63 Q 62 L (.ref a :: st) w cn sn = (kd w a = 7 ∧ wp d 63 Q 65 L (fd w 385 a :: st) w cn sn) := w_getfield d_63_62 (by decide +kernel : fT (mO 63) 9 = some (6, 1))
theorem d_63_65 : decode (mB 63) 65 = .ok (.iload_n 3, 1) := by decide +kernel
theorem s_63_65 {d : Nat} {Q : wQ} {L : List (Option Value)} {st : List Value} {w : aw} {cn sn : Nat} {a0 a1 a2 : Option Value} {v : Int32} : wp d 63 Q 65 (a0 :: a1 :: a2 :: some (.int v) :: L) st w cn sn = wp d 63 Q 66 (a0 :: a1 :: a2 :: some (.int v) :: L) (.int v :: st) w cn sn := w_iload_n d_63_65 rfl
theorem d_63_66 : decode (mB 63) 66 = .ok (.iaload, 1) := by decide +kernel
theorem s_63_66 {d : Nat} {Q : wQ} {L : List (Option Value)} {st : List Value} {w : aw} {cn sn : Nat} {a : Nat} {i : Int32} : wp d 63 Q 66 L (.int i :: .ref a :: st) w cn sn = ((kd w a = 20 ∨ kd w a = 30) ∧ inR i (ln w a) ∧ wp d 63 Q 67 L (.int (ai w a i.toNatClampNeg) :: st) w cn sn) := wp_row d_63_66 _ _ _ _ _
theorem d_63_67 : decode (mB 63) 67 = .ok (.sipush 4095, 3) := by decide +kernel
theorem s_63_67 {d : Nat} {Q : wQ} {L : List (Option Value)} {st : List Value} {w : aw} {cn sn : Nat}  : wp d 63 Q 67 L st w cn sn = wp d 63 Q 70 L (.int 4095 :: st) w cn sn := w_sipush d_63_67 (by decide)
theorem d_63_70 : decode (mB 63) 70 = .ok (.iand, 1) := by decide +kernel
theorem s_63_70 {d : Nat} {Q : wQ} {L : List (Option Value)} {st : List Value} {w : aw} {cn sn : Nat} {a b : Int32} : wp d 63 Q 70 L (.int b :: .int a :: st) w cn sn = wp d 63 Q 71 L (.int (a &&& b) :: st) w cn sn := wp_row d_63_70 _ _ _ _ _
theorem d_63_71 : decode (mB 63) 71 = .ok (.ireturn, 1) := by decide +kernel
theorem s_63_71 {d : Nat} {Q : wQ} {L : List (Option Value)} {w : aw} {cn sn : Nat} {v : Int32} : wp d 63 Q 71 L [.int v] w cn sn = Q (some (.int v)) w := w_ireturn d_63_71 rfl
theorem d_64_0 : decode (mB 64) 0 = .ok (.iload_n 1, 1) := by decide +kernel
theorem s_64_0 {d : Nat} {Q : wQ} {L : List (Option Value)} {st : List Value} {w : aw} {cn sn : Nat} {a0 : Option Value} {v : Int32} : wp d 64 Q 0 (a0 :: some (.int v) :: L) st w cn sn = wp d 64 Q 1 (a0 :: some (.int v) :: L) (.int v :: st) w cn sn := w_iload_n d_64_0 rfl
theorem d_64_1 : decode (mB 64) 1 = .ok (.sipush 128, 3) := by decide +kernel
theorem s_64_1 {d : Nat} {Q : wQ} {L : List (Option Value)} {st : List Value} {w : aw} {cn sn : Nat}  : wp d 64 Q 1 L st w cn sn = wp d 64 Q 4 L (.int 128 :: st) w cn sn := w_sipush d_64_1 (by decide)
theorem d_64_4 : decode (mB 64) 4 = .ok (.iand, 1) := by decide +kernel
theorem s_64_4 {d : Nat} {Q : wQ} {L : List (Option Value)} {st : List Value} {w : aw} {cn sn : Nat} {a b : Int32} : wp d 64 Q 4 L (.int b :: .int a :: st) w cn sn = wp d 64 Q 5 L (.int (a &&& b) :: st) w cn sn := wp_row d_64_4 _ _ _ _ _
theorem d_64_5 : decode (mB 64) 5 = .ok (.ifCond .eq 8, 3) := by decide +kernel
theorem s_64_5 {d : Nat} {Q : wQ} {L : List (Option Value)} {st : List Value} {w : aw} {cn sn : Nat} {x : Int32} : wp d 64 Q 5 L (.int x :: st) w cn sn = ((x = 0 → wp d 64 Q 13 L st w cn sn) ∧ (¬ x = 0 → wp d 64 Q 8 L st w cn sn)) := w_ifeq d_64_5 (by decide)
theorem d_64_8 : decode (mB 64) 8 = .ok (.aload_n 0, 1) := by decide +kernel
theorem s_64_8 {d : Nat} {Q : wQ} {L : List (Option Value)} {st : List Value} {w : aw} {cn sn : Nat} {v : Nat} : wp d 64 Q 8 (some (.ref v) :: L) st w cn sn = wp d 64 Q 9 (some (.ref v) :: L) (.ref v :: st) w cn sn := w_aload_n d_64_8 rfl
theorem d_64_9 : decode (mB 64) 9 = .ok (.iconst 0, 1) := by decide +kernel
theorem s_64_9 {d : Nat} {Q : wQ} {L : List (Option Value)} {st : List Value} {w : aw} {cn sn : Nat}  : wp d 64 Q 9 L st w cn sn = wp d 64 Q 10 L (.int 0 :: st) w cn sn := w_iconst d_64_9 (by decide)
theorem d_64_10 : decode (mB 64) 10 = .ok (.putfield 58, 3) := by decide +kernel
theorem s_64_10 {d : Nat} {Q : wQ} {L : List (Option Value)} {st : List Value} {w : aw} {cn sn : Nat} {x : Int32} {a : Nat} : wp d 64 Q 10 L (.int x :: .ref a :: st) w cn sn = (kd w a = 7 ∧ wp d 64 Q 13 L st (uF w 391 a (.int x)) cn sn) := w_putfield d_64_10 (by decide +kernel : fT (mO 64) 58 = some (6, 7)) (by decide +kernel) ok_int
theorem d_64_13 : decode (mB 64) 13 = .ok (.iload_n 1, 1) := by decide +kernel
theorem s_64_13 {d : Nat} {Q : wQ} {L : List (Option Value)} {st : List Value} {w : aw} {cn sn : Nat} {a0 : Option Value} {v : Int32} : wp d 64 Q 13 (a0 :: some (.int v) :: L) st w cn sn = wp d 64 Q 14 (a0 :: some (.int v) :: L) (.int v :: st) w cn sn := w_iload_n d_64_13 rfl
theorem d_64_14 : decode (mB 64) 14 = .ok (.bipush 64, 2) := by decide +kernel
theorem s_64_14 {d : Nat} {Q : wQ} {L : List (Option Value)} {st : List Value} {w : aw} {cn sn : Nat}  : wp d 64 Q 14 L st w cn sn = wp d 64 Q 16 L (.int 64 :: st) w cn sn := w_bipush d_64_14 (by decide)
theorem d_64_16 : decode (mB 64) 16 = .ok (.iand, 1) := by decide +kernel
theorem s_64_16 {d : Nat} {Q : wQ} {L : List (Option Value)} {st : List Value} {w : aw} {cn sn : Nat} {a b : Int32} : wp d 64 Q 16 L (.int b :: .int a :: st) w cn sn = wp d 64 Q 17 L (.int (a &&& b) :: st) w cn sn := wp_row d_64_16 _ _ _ _ _
theorem d_64_17 : decode (mB 64) 17 = .ok (.ifCond .eq 8, 3) := by decide +kernel
theorem s_64_17 {d : Nat} {Q : wQ} {L : List (Option Value)} {st : List Value} {w : aw} {cn sn : Nat} {x : Int32} : wp d 64 Q 17 L (.int x :: st) w cn sn = ((x = 0 → wp d 64 Q 25 L st w cn sn) ∧ (¬ x = 0 → wp d 64 Q 20 L st w cn sn)) := w_ifeq d_64_17 (by decide)
theorem d_64_20 : decode (mB 64) 20 = .ok (.aload_n 0, 1) := by decide +kernel
theorem s_64_20 {d : Nat} {Q : wQ} {L : List (Option Value)} {st : List Value} {w : aw} {cn sn : Nat} {v : Nat} : wp d 64 Q 20 (some (.ref v) :: L) st w cn sn = wp d 64 Q 21 (some (.ref v) :: L) (.ref v :: st) w cn sn := w_aload_n d_64_20 rfl
theorem d_64_21 : decode (mB 64) 21 = .ok (.iconst 0, 1) := by decide +kernel
theorem s_64_21 {d : Nat} {Q : wQ} {L : List (Option Value)} {st : List Value} {w : aw} {cn sn : Nat}  : wp d 64 Q 21 L st w cn sn = wp d 64 Q 22 L (.int 0 :: st) w cn sn := w_iconst d_64_21 (by decide)
theorem d_64_22 : decode (mB 64) 22 = .ok (.putfield 61, 3) := by decide +kernel
theorem s_64_22 {d : Nat} {Q : wQ} {L : List (Option Value)} {st : List Value} {w : aw} {cn sn : Nat} {x : Int32} {a : Nat} : wp d 64 Q 22 L (.int x :: .ref a :: st) w cn sn = (kd w a = 7 ∧ wp d 64 Q 25 L st (uF w 392 a (.int x)) cn sn) := w_putfield d_64_22 (by decide +kernel : fT (mO 64) 61 = some (6, 8)) (by decide +kernel) ok_int
theorem d_64_25 : decode (mB 64) 25 = .ok (.iload_n 1, 1) := by decide +kernel
theorem s_64_25 {d : Nat} {Q : wQ} {L : List (Option Value)} {st : List Value} {w : aw} {cn sn : Nat} {a0 : Option Value} {v : Int32} : wp d 64 Q 25 (a0 :: some (.int v) :: L) st w cn sn = wp d 64 Q 26 (a0 :: some (.int v) :: L) (.int v :: st) w cn sn := w_iload_n d_64_25 rfl
theorem d_64_26 : decode (mB 64) 26 = .ok (.bipush 32, 2) := by decide +kernel
theorem s_64_26 {d : Nat} {Q : wQ} {L : List (Option Value)} {st : List Value} {w : aw} {cn sn : Nat}  : wp d 64 Q 26 L st w cn sn = wp d 64 Q 28 L (.int 32 :: st) w cn sn := w_bipush d_64_26 (by decide)
theorem d_64_28 : decode (mB 64) 28 = .ok (.iand, 1) := by decide +kernel
theorem s_64_28 {d : Nat} {Q : wQ} {L : List (Option Value)} {st : List Value} {w : aw} {cn sn : Nat} {a b : Int32} : wp d 64 Q 28 L (.int b :: .int a :: st) w cn sn = wp d 64 Q 29 L (.int (a &&& b) :: st) w cn sn := wp_row d_64_28 _ _ _ _ _
theorem d_64_29 : decode (mB 64) 29 = .ok (.ifCond .eq 15, 3) := by decide +kernel
theorem s_64_29 {d : Nat} {Q : wQ} {L : List (Option Value)} {st : List Value} {w : aw} {cn sn : Nat} {x : Int32} : wp d 64 Q 29 L (.int x :: st) w cn sn = ((x = 0 → wp d 64 Q 44 L st w cn sn) ∧ (¬ x = 0 → wp d 64 Q 32 L st w cn sn)) := w_ifeq d_64_29 (by decide)
theorem d_64_32 : decode (mB 64) 32 = .ok (.aload_n 0, 1) := by decide +kernel
theorem s_64_32 {d : Nat} {Q : wQ} {L : List (Option Value)} {st : List Value} {w : aw} {cn sn : Nat} {v : Nat} : wp d 64 Q 32 (some (.ref v) :: L) st w cn sn = wp d 64 Q 33 (some (.ref v) :: L) (.ref v :: st) w cn sn := w_aload_n d_64_32 rfl
theorem d_64_33 : decode (mB 64) 33 = .ok (.dup, 1) := by decide +kernel
theorem s_64_33 {d : Nat} {Q : wQ} {L : List (Option Value)} {st : List Value} {w : aw} {cn sn : Nat} {v : Value} : wp d 64 Q 33 L (v :: st) w cn sn = (v.category = 1 ∧ wp d 64 Q 34 L (v :: v :: st) w cn sn) := wp_row d_64_33 _ _ _ _ _
theorem d_64_34 : decode (mB 64) 34 = .ok (.getfield 58, 3) := by decide +kernel
theorem s_64_34 {d : Nat} {Q : wQ} {L : List (Option Value)} {st : List Value} {w : aw} {cn sn : Nat} {a : Nat} : wp d 64 Q 34 L (.ref a :: st) w cn sn = (kd w a = 7 ∧ wp d 64 Q 37 L (fd w 391 a :: st) w cn sn) := w_getfield d_64_34 (by decide +kernel : fT (mO 64) 58 = some (6, 7))
theorem d_64_37 : decode (mB 64) 37 = .ok (.sipush 4095, 3) := by decide +kernel
theorem s_64_37 {d : Nat} {Q : wQ} {L : List (Option Value)} {st : List Value} {w : aw} {cn sn : Nat}  : wp d 64 Q 37 L st w cn sn = wp d 64 Q 40 L (.int 4095 :: st) w cn sn := w_sipush d_64_37 (by decide)
theorem d_64_40 : decode (mB 64) 40 = .ok (.ixor, 1) := by decide +kernel
theorem s_64_40 {d : Nat} {Q : wQ} {L : List (Option Value)} {st : List Value} {w : aw} {cn sn : Nat} {a b : Int32} : wp d 64 Q 40 L (.int b :: .int a :: st) w cn sn = wp d 64 Q 41 L (.int (a ^^^ b) :: st) w cn sn := wp_row d_64_40 _ _ _ _ _
theorem d_64_41 : decode (mB 64) 41 = .ok (.putfield 58, 3) := by decide +kernel
theorem s_64_41 {d : Nat} {Q : wQ} {L : List (Option Value)} {st : List Value} {w : aw} {cn sn : Nat} {x : Int32} {a : Nat} : wp d 64 Q 41 L (.int x :: .ref a :: st) w cn sn = (kd w a = 7 ∧ wp d 64 Q 44 L st (uF w 391 a (.int x)) cn sn) := w_putfield d_64_41 (by decide +kernel : fT (mO 64) 58 = some (6, 7)) (by decide +kernel) ok_int
theorem d_64_44 : decode (mB 64) 44 = .ok (.iload_n 1, 1) := by decide +kernel
theorem s_64_44 {d : Nat} {Q : wQ} {L : List (Option Value)} {st : List Value} {w : aw} {cn sn : Nat} {a0 : Option Value} {v : Int32} : wp d 64 Q 44 (a0 :: some (.int v) :: L) st w cn sn = wp d 64 Q 45 (a0 :: some (.int v) :: L) (.int v :: st) w cn sn := w_iload_n d_64_44 rfl
theorem d_64_45 : decode (mB 64) 45 = .ok (.bipush 16, 2) := by decide +kernel
theorem s_64_45 {d : Nat} {Q : wQ} {L : List (Option Value)} {st : List Value} {w : aw} {cn sn : Nat}  : wp d 64 Q 45 L st w cn sn = wp d 64 Q 47 L (.int 16 :: st) w cn sn := w_bipush d_64_45 (by decide)
theorem d_64_47 : decode (mB 64) 47 = .ok (.iand, 1) := by decide +kernel
theorem s_64_47 {d : Nat} {Q : wQ} {L : List (Option Value)} {st : List Value} {w : aw} {cn sn : Nat} {a b : Int32} : wp d 64 Q 47 L (.int b :: .int a :: st) w cn sn = wp d 64 Q 48 L (.int (a &&& b) :: st) w cn sn := wp_row d_64_47 _ _ _ _ _
theorem d_64_48 : decode (mB 64) 48 = .ok (.ifCond .eq 13, 3) := by decide +kernel
theorem s_64_48 {d : Nat} {Q : wQ} {L : List (Option Value)} {st : List Value} {w : aw} {cn sn : Nat} {x : Int32} : wp d 64 Q 48 L (.int x :: st) w cn sn = ((x = 0 → wp d 64 Q 61 L st w cn sn) ∧ (¬ x = 0 → wp d 64 Q 51 L st w cn sn)) := w_ifeq d_64_48 (by decide)
theorem d_64_51 : decode (mB 64) 51 = .ok (.aload_n 0, 1) := by decide +kernel
theorem s_64_51 {d : Nat} {Q : wQ} {L : List (Option Value)} {st : List Value} {w : aw} {cn sn : Nat} {v : Nat} : wp d 64 Q 51 (some (.ref v) :: L) st w cn sn = wp d 64 Q 52 (some (.ref v) :: L) (.ref v :: st) w cn sn := w_aload_n d_64_51 rfl
theorem d_64_52 : decode (mB 64) 52 = .ok (.dup, 1) := by decide +kernel
theorem s_64_52 {d : Nat} {Q : wQ} {L : List (Option Value)} {st : List Value} {w : aw} {cn sn : Nat} {v : Value} : wp d 64 Q 52 L (v :: st) w cn sn = (v.category = 1 ∧ wp d 64 Q 53 L (v :: v :: st) w cn sn) := wp_row d_64_52 _ _ _ _ _
theorem d_64_53 : decode (mB 64) 53 = .ok (.getfield 61, 3) := by decide +kernel
theorem s_64_53 {d : Nat} {Q : wQ} {L : List (Option Value)} {st : List Value} {w : aw} {cn sn : Nat} {a : Nat} : wp d 64 Q 53 L (.ref a :: st) w cn sn = (kd w a = 7 ∧ wp d 64 Q 56 L (fd w 392 a :: st) w cn sn) := w_getfield d_64_53 (by decide +kernel : fT (mO 64) 61 = some (6, 8))
theorem d_64_56 : decode (mB 64) 56 = .ok (.iconst 1, 1) := by decide +kernel
theorem s_64_56 {d : Nat} {Q : wQ} {L : List (Option Value)} {st : List Value} {w : aw} {cn sn : Nat}  : wp d 64 Q 56 L st w cn sn = wp d 64 Q 57 L (.int 1 :: st) w cn sn := w_iconst d_64_56 (by decide)
theorem d_64_57 : decode (mB 64) 57 = .ok (.ixor, 1) := by decide +kernel
theorem s_64_57 {d : Nat} {Q : wQ} {L : List (Option Value)} {st : List Value} {w : aw} {cn sn : Nat} {a b : Int32} : wp d 64 Q 57 L (.int b :: .int a :: st) w cn sn = wp d 64 Q 58 L (.int (a ^^^ b) :: st) w cn sn := wp_row d_64_57 _ _ _ _ _
theorem d_64_58 : decode (mB 64) 58 = .ok (.putfield 61, 3) := by decide +kernel
theorem s_64_58 {d : Nat} {Q : wQ} {L : List (Option Value)} {st : List Value} {w : aw} {cn sn : Nat} {x : Int32} {a : Nat} : wp d 64 Q 58 L (.int x :: .ref a :: st) w cn sn = (kd w a = 7 ∧ wp d 64 Q 61 L st (uF w 392 a (.int x)) cn sn) := w_putfield d_64_58 (by decide +kernel : fT (mO 64) 61 = some (6, 8)) (by decide +kernel) ok_int
theorem d_64_61 : decode (mB 64) 61 = .ok (.iload_n 1, 1) := by decide +kernel
theorem s_64_61 {d : Nat} {Q : wQ} {L : List (Option Value)} {st : List Value} {w : aw} {cn sn : Nat} {a0 : Option Value} {v : Int32} : wp d 64 Q 61 (a0 :: some (.int v) :: L) st w cn sn = wp d 64 Q 62 (a0 :: some (.int v) :: L) (.int v :: st) w cn sn := w_iload_n d_64_61 rfl
theorem d_64_62 : decode (mB 64) 62 = .ok (.iconst 1, 1) := by decide +kernel
theorem s_64_62 {d : Nat} {Q : wQ} {L : List (Option Value)} {st : List Value} {w : aw} {cn sn : Nat}  : wp d 64 Q 62 L st w cn sn = wp d 64 Q 63 L (.int 1 :: st) w cn sn := w_iconst d_64_62 (by decide)
theorem d_64_63 : decode (mB 64) 63 = .ok (.iand, 1) := by decide +kernel
theorem s_64_63 {d : Nat} {Q : wQ} {L : List (Option Value)} {st : List Value} {w : aw} {cn sn : Nat} {a b : Int32} : wp d 64 Q 63 L (.int b :: .int a :: st) w cn sn = wp d 64 Q 64 L (.int (a &&& b) :: st) w cn sn := wp_row d_64_63 _ _ _ _ _
theorem d_64_64 : decode (mB 64) 64 = .ok (.ifCond .eq 8, 3) := by decide +kernel
theorem s_64_64 {d : Nat} {Q : wQ} {L : List (Option Value)} {st : List Value} {w : aw} {cn sn : Nat} {x : Int32} : wp d 64 Q 64 L (.int x :: st) w cn sn = ((x = 0 → wp d 64 Q 72 L st w cn sn) ∧ (¬ x = 0 → wp d 64 Q 67 L st w cn sn)) := w_ifeq d_64_64 (by decide)
theorem d_64_67 : decode (mB 64) 67 = .ok (.aload_n 0, 1) := by decide +kernel
theorem s_64_67 {d : Nat} {Q : wQ} {L : List (Option Value)} {st : List Value} {w : aw} {cn sn : Nat} {v : Nat} : wp d 64 Q 67 (some (.ref v) :: L) st w cn sn = wp d 64 Q 68 (some (.ref v) :: L) (.ref v :: st) w cn sn := w_aload_n d_64_67 rfl
theorem d_64_68 : decode (mB 64) 68 = .ok (.iconst 1, 1) := by decide +kernel
theorem s_64_68 {d : Nat} {Q : wQ} {L : List (Option Value)} {st : List Value} {w : aw} {cn sn : Nat}  : wp d 64 Q 68 L st w cn sn = wp d 64 Q 69 L (.int 1 :: st) w cn sn := w_iconst d_64_68 (by decide)
theorem d_64_69 : decode (mB 64) 69 = .ok (.invokevirtual 68, 3) := by decide +kernel
theorem s_64_69 {d : Nat} {Q : wQ} {L : List (Option Value)} {st : List Value} {w : aw} {cn sn : Nat} {v0 : Value} {b : Nat} : wp d 64 Q 69 L (v0 :: .ref b :: st) w cn sn = (kd w b = 7 ∧ catS st ≤ 8 ∧ wpD d 61 [.ref b, v0] w (fun v w' => wp d 64 Q 72 L (v.toList ++ st) w' cn sn)) := w_virtual (As := [v0]) d_64_69 (by decide +kernel : cT (mO 64) 68 = some (0, 61)) rfl (by decide +kernel) rfl (by decide +kernel) rfl
theorem d_64_72 : decode (mB 64) 72 = .ok (.iload_n 1, 1) := by decide +kernel
theorem s_64_72 {d : Nat} {Q : wQ} {L : List (Option Value)} {st : List Value} {w : aw} {cn sn : Nat} {a0 : Option Value} {v : Int32} : wp d 64 Q 72 (a0 :: some (.int v) :: L) st w cn sn = wp d 64 Q 73 (a0 :: some (.int v) :: L) (.int v :: st) w cn sn := w_iload_n d_64_72 rfl
theorem d_64_73 : decode (mB 64) 73 = .ok (.bipush 8, 2) := by decide +kernel
theorem s_64_73 {d : Nat} {Q : wQ} {L : List (Option Value)} {st : List Value} {w : aw} {cn sn : Nat}  : wp d 64 Q 73 L st w cn sn = wp d 64 Q 75 L (.int 8 :: st) w cn sn := w_bipush d_64_73 (by decide)
theorem d_64_75 : decode (mB 64) 75 = .ok (.iand, 1) := by decide +kernel
theorem s_64_75 {d : Nat} {Q : wQ} {L : List (Option Value)} {st : List Value} {w : aw} {cn sn : Nat} {a b : Int32} : wp d 64 Q 75 L (.int b :: .int a :: st) w cn sn = wp d 64 Q 76 L (.int (a &&& b) :: st) w cn sn := wp_row d_64_75 _ _ _ _ _
theorem d_64_76 : decode (mB 64) 76 = .ok (.ifCond .eq 7, 3) := by decide +kernel
theorem s_64_76 {d : Nat} {Q : wQ} {L : List (Option Value)} {st : List Value} {w : aw} {cn sn : Nat} {x : Int32} : wp d 64 Q 76 L (.int x :: st) w cn sn = ((x = 0 → wp d 64 Q 83 L st w cn sn) ∧ (¬ x = 0 → wp d 64 Q 79 L st w cn sn)) := w_ifeq d_64_76 (by decide)
theorem d_64_79 : decode (mB 64) 79 = .ok (.iconst 1, 1) := by decide +kernel
theorem s_64_79 {d : Nat} {Q : wQ} {L : List (Option Value)} {st : List Value} {w : aw} {cn sn : Nat}  : wp d 64 Q 79 L st w cn sn = wp d 64 Q 80 L (.int 1 :: st) w cn sn := w_iconst d_64_79 (by decide)
theorem d_64_80 : decode (mB 64) 80 = .ok (.goto 4, 3) := by decide +kernel
theorem s_64_80 {d : Nat} {Q : wQ} {L : List (Option Value)} {st : List Value} {w : aw} {cn sn : Nat}  : wp d 64 Q 80 L st w cn sn = wp d 64 Q 84 L st w cn sn := w_goto d_64_80 (by decide)
theorem d_64_83 : decode (mB 64) 83 = .ok (.iconst 0, 1) := by decide +kernel
theorem s_64_83 {d : Nat} {Q : wQ} {L : List (Option Value)} {st : List Value} {w : aw} {cn sn : Nat}  : wp d 64 Q 83 L st w cn sn = wp d 64 Q 84 L (.int 0 :: st) w cn sn := w_iconst d_64_83 (by decide)
theorem d_64_84 : decode (mB 64) 84 = .ok (.istore_n 2, 1) := by decide +kernel
theorem s_64_84 {d : Nat} {Q : wQ} {L : List (Option Value)} {st : List Value} {w : aw} {cn sn : Nat} {a0 a1 a2 : Option Value} {v : Int32} : wp d 64 Q 84 (a0 :: a1 :: a2 :: L) (.int v :: st) w cn sn = wp d 64 Q 85 (a0 :: clr a1 :: some (.int v) :: L) st w cn sn := w_istore_n d_64_84 (Nat.le_add_left 3 _) rfl
theorem d_64_85 : decode (mB 64) 85 = .ok (.iload_n 1, 1) := by decide +kernel
theorem s_64_85 {d : Nat} {Q : wQ} {L : List (Option Value)} {st : List Value} {w : aw} {cn sn : Nat} {a0 : Option Value} {v : Int32} : wp d 64 Q 85 (a0 :: some (.int v) :: L) st w cn sn = wp d 64 Q 86 (a0 :: some (.int v) :: L) (.int v :: st) w cn sn := w_iload_n d_64_85 rfl
theorem d_64_86 : decode (mB 64) 86 = .ok (.iconst 4, 1) := by decide +kernel
theorem s_64_86 {d : Nat} {Q : wQ} {L : List (Option Value)} {st : List Value} {w : aw} {cn sn : Nat}  : wp d 64 Q 86 L st w cn sn = wp d 64 Q 87 L (.int 4 :: st) w cn sn := w_iconst d_64_86 (by decide)
theorem d_64_87 : decode (mB 64) 87 = .ok (.iand, 1) := by decide +kernel
theorem s_64_87 {d : Nat} {Q : wQ} {L : List (Option Value)} {st : List Value} {w : aw} {cn sn : Nat} {a b : Int32} : wp d 64 Q 87 L (.int b :: .int a :: st) w cn sn = wp d 64 Q 88 L (.int (a &&& b) :: st) w cn sn := wp_row d_64_87 _ _ _ _ _
theorem d_64_88 : decode (mB 64) 88 = .ok (.ifCond .eq 7, 3) := by decide +kernel
theorem s_64_88 {d : Nat} {Q : wQ} {L : List (Option Value)} {st : List Value} {w : aw} {cn sn : Nat} {x : Int32} : wp d 64 Q 88 L (.int x :: st) w cn sn = ((x = 0 → wp d 64 Q 95 L st w cn sn) ∧ (¬ x = 0 → wp d 64 Q 91 L st w cn sn)) := w_ifeq d_64_88 (by decide)
theorem d_64_91 : decode (mB 64) 91 = .ok (.iconst 1, 1) := by decide +kernel
theorem s_64_91 {d : Nat} {Q : wQ} {L : List (Option Value)} {st : List Value} {w : aw} {cn sn : Nat}  : wp d 64 Q 91 L st w cn sn = wp d 64 Q 92 L (.int 1 :: st) w cn sn := w_iconst d_64_91 (by decide)
theorem d_64_92 : decode (mB 64) 92 = .ok (.goto 4, 3) := by decide +kernel
theorem s_64_92 {d : Nat} {Q : wQ} {L : List (Option Value)} {st : List Value} {w : aw} {cn sn : Nat}  : wp d 64 Q 92 L st w cn sn = wp d 64 Q 96 L st w cn sn := w_goto d_64_92 (by decide)
theorem d_64_95 : decode (mB 64) 95 = .ok (.iconst 0, 1) := by decide +kernel
theorem s_64_95 {d : Nat} {Q : wQ} {L : List (Option Value)} {st : List Value} {w : aw} {cn sn : Nat}  : wp d 64 Q 95 L st w cn sn = wp d 64 Q 96 L (.int 0 :: st) w cn sn := w_iconst d_64_95 (by decide)
theorem d_64_96 : decode (mB 64) 96 = .ok (.istore_n 3, 1) := by decide +kernel
theorem s_64_96 {d : Nat} {Q : wQ} {L : List (Option Value)} {st : List Value} {w : aw} {cn sn : Nat} {a0 a1 a2 a3 : Option Value} {v : Int32} : wp d 64 Q 96 (a0 :: a1 :: a2 :: a3 :: L) (.int v :: st) w cn sn = wp d 64 Q 97 (a0 :: a1 :: clr a2 :: some (.int v) :: L) st w cn sn := w_istore_n d_64_96 (Nat.le_add_left 4 _) rfl
theorem d_64_97 : decode (mB 64) 97 = .ok (.iload_n 2, 1) := by decide +kernel
theorem s_64_97 {d : Nat} {Q : wQ} {L : List (Option Value)} {st : List Value} {w : aw} {cn sn : Nat} {a0 a1 : Option Value} {v : Int32} : wp d 64 Q 97 (a0 :: a1 :: some (.int v) :: L) st w cn sn = wp d 64 Q 98 (a0 :: a1 :: some (.int v) :: L) (.int v :: st) w cn sn := w_iload_n d_64_97 rfl
theorem d_64_98 : decode (mB 64) 98 = .ok (.iload_n 3, 1) := by decide +kernel
theorem s_64_98 {d : Nat} {Q : wQ} {L : List (Option Value)} {st : List Value} {w : aw} {cn sn : Nat} {a0 a1 a2 : Option Value} {v : Int32} : wp d 64 Q 98 (a0 :: a1 :: a2 :: some (.int v) :: L) st w cn sn = wp d 64 Q 99 (a0 :: a1 :: a2 :: some (.int v) :: L) (.int v :: st) w cn sn := w_iload_n d_64_98 rfl
theorem d_64_99 : decode (mB 64) 99 = .ok (.if_icmp .eq 28, 3) := by decide +kernel
theorem s_64_99 {d : Nat} {Q : wQ} {L : List (Option Value)} {st : List Value} {w : aw} {cn sn : Nat} {a b : Int32} : wp d 64 Q 99 L (.int b :: .int a :: st) w cn sn = ((a = b → wp d 64 Q 127 L st w cn sn) ∧ (¬ a = b → wp d 64 Q 102 L st w cn sn)) := w_iceq d_64_99 (by decide)
theorem d_64_102 : decode (mB 64) 102 = .ok (.aload_n 0, 1) := by decide +kernel
theorem s_64_102 {d : Nat} {Q : wQ} {L : List (Option Value)} {st : List Value} {w : aw} {cn sn : Nat} {v : Nat} : wp d 64 Q 102 (some (.ref v) :: L) st w cn sn = wp d 64 Q 103 (some (.ref v) :: L) (.ref v :: st) w cn sn := w_aload_n d_64_102 rfl
theorem d_64_103 : decode (mB 64) 103 = .ok (.iload_n 2, 1) := by decide +kernel
theorem s_64_103 {d : Nat} {Q : wQ} {L : List (Option Value)} {st : List Value} {w : aw} {cn sn : Nat} {a0 a1 : Option Value} {v : Int32} : wp d 64 Q 103 (a0 :: a1 :: some (.int v) :: L) st w cn sn = wp d 64 Q 104 (a0 :: a1 :: some (.int v) :: L) (.int v :: st) w cn sn := w_iload_n d_64_103 rfl
theorem d_64_104 : decode (mB 64) 104 = .ok (.ifCond .eq 7, 3) := by decide +kernel
theorem s_64_104 {d : Nat} {Q : wQ} {L : List (Option Value)} {st : List Value} {w : aw} {cn sn : Nat} {x : Int32} : wp d 64 Q 104 L (.int x :: st) w cn sn = ((x = 0 → wp d 64 Q 111 L st w cn sn) ∧ (¬ x = 0 → wp d 64 Q 107 L st w cn sn)) := w_ifeq d_64_104 (by decide)
theorem d_64_107 : decode (mB 64) 107 = .ok (.iconst 1, 1) := by decide +kernel
theorem s_64_107 {d : Nat} {Q : wQ} {L : List (Option Value)} {st : List Value} {w : aw} {cn sn : Nat}  : wp d 64 Q 107 L st w cn sn = wp d 64 Q 108 L (.int 1 :: st) w cn sn := w_iconst d_64_107 (by decide)
theorem d_64_108 : decode (mB 64) 108 = .ok (.goto 5, 3) := by decide +kernel
theorem s_64_108 {d : Nat} {Q : wQ} {L : List (Option Value)} {st : List Value} {w : aw} {cn sn : Nat}  : wp d 64 Q 108 L st w cn sn = wp d 64 Q 113 L st w cn sn := w_goto d_64_108 (by decide)
theorem d_64_111 : decode (mB 64) 111 = .ok (.bipush 12, 2) := by decide +kernel
theorem s_64_111 {d : Nat} {Q : wQ} {L : List (Option Value)} {st : List Value} {w : aw} {cn sn : Nat}  : wp d 64 Q 111 L st w cn sn = wp d 64 Q 113 L (.int 12 :: st) w cn sn := w_bipush d_64_111 (by decide)
theorem d_64_113 : decode (mB 64) 113 = .ok (.iload_n 1, 1) := by decide +kernel
theorem s_64_113 {d : Nat} {Q : wQ} {L : List (Option Value)} {st : List Value} {w : aw} {cn sn : Nat} {a0 : Option Value} {v : Int32} : wp d 64 Q 113 (a0 :: some (.int v) :: L) st w cn sn = wp d 64 Q 114 (a0 :: some (.int v) :: L) (.int v :: st) w cn sn := w_iload_n d_64_113 rfl
theorem d_64_114 : decode (mB 64) 114 = .ok (.iconst 2, 1) := by decide +kernel
theorem s_64_114 {d : Nat} {Q : wQ} {L : List (Option Value)} {st : List Value} {w : aw} {cn sn : Nat}  : wp d 64 Q 114 L st w cn sn = wp d 64 Q 115 L (.int 2 :: st) w cn sn := w_iconst d_64_114 (by decide)
theorem d_64_115 : decode (mB 64) 115 = .ok (.iand, 1) := by decide +kernel
theorem s_64_115 {d : Nat} {Q : wQ} {L : List (Option Value)} {st : List Value} {w : aw} {cn sn : Nat} {a b : Int32} : wp d 64 Q 115 L (.int b :: .int a :: st) w cn sn = wp d 64 Q 116 L (.int (a &&& b) :: st) w cn sn := wp_row d_64_115 _ _ _ _ _
theorem d_64_116 : decode (mB 64) 116 = .ok (.ifCond .eq 7, 3) := by decide +kernel
theorem s_64_116 {d : Nat} {Q : wQ} {L : List (Option Value)} {st : List Value} {w : aw} {cn sn : Nat} {x : Int32} : wp d 64 Q 116 L (.int x :: st) w cn sn = ((x = 0 → wp d 64 Q 123 L st w cn sn) ∧ (¬ x = 0 → wp d 64 Q 119 L st w cn sn)) := w_ifeq d_64_116 (by decide)
theorem d_64_119 : decode (mB 64) 119 = .ok (.iconst 2, 1) := by decide +kernel
theorem s_64_119 {d : Nat} {Q : wQ} {L : List (Option Value)} {st : List Value} {w : aw} {cn sn : Nat}  : wp d 64 Q 119 L st w cn sn = wp d 64 Q 120 L (.int 2 :: st) w cn sn := w_iconst d_64_119 (by decide)
theorem d_64_120 : decode (mB 64) 120 = .ok (.goto 4, 3) := by decide +kernel
theorem s_64_120 {d : Nat} {Q : wQ} {L : List (Option Value)} {st : List Value} {w : aw} {cn sn : Nat}  : wp d 64 Q 120 L st w cn sn = wp d 64 Q 124 L st w cn sn := w_goto d_64_120 (by decide)
theorem d_64_123 : decode (mB 64) 123 = .ok (.iconst 1, 1) := by decide +kernel
theorem s_64_123 {d : Nat} {Q : wQ} {L : List (Option Value)} {st : List Value} {w : aw} {cn sn : Nat}  : wp d 64 Q 123 L st w cn sn = wp d 64 Q 124 L (.int 1 :: st) w cn sn := w_iconst d_64_123 (by decide)
theorem d_64_124 : decode (mB 64) 124 = .ok (.invokevirtual 71, 3) := by decide +kernel
theorem s_64_124 {d : Nat} {Q : wQ} {L : List (Option Value)} {st : List Value} {w : aw} {cn sn : Nat} {v0 v1 : Value} {b : Nat} : wp d 64 Q 124 L (v1 :: v0 :: .ref b :: st) w cn sn = (kd w b = 7 ∧ catS st ≤ 8 ∧ wpD d 65 [.ref b, v0, v1] w (fun v w' => wp d 64 Q 127 L (v.toList ++ st) w' cn sn)) := w_virtual (As := [v0, v1]) d_64_124 (by decide +kernel : cT (mO 64) 71 = some (0, 65)) rfl (by decide +kernel) rfl (by decide +kernel) rfl
theorem d_64_127 : decode (mB 64) 127 = .ok (.return_, 1) := by decide +kernel
theorem s_64_127 {d : Nat} {Q : wQ} {L : List (Option Value)} {w : aw} {cn sn : Nat}  : wp d 64 Q 127 L [] w cn sn = Q none w := w_return d_64_127 rfl
theorem d_65_0 : decode (mB 65) 0 = .ok (.aload_n 0, 1) := by decide +kernel
theorem s_65_0 {d : Nat} {Q : wQ} {L : List (Option Value)} {st : List Value} {w : aw} {cn sn : Nat} {v : Nat} : wp d 65 Q 0 (some (.ref v) :: L) st w cn sn = wp d 65 Q 1 (some (.ref v) :: L) (.ref v :: st) w cn sn := w_aload_n d_65_0 rfl
theorem d_65_1 : decode (mB 65) 1 = .ok (.getfield 61, 3) := by decide +kernel
theorem s_65_1 {d : Nat} {Q : wQ} {L : List (Option Value)} {st : List Value} {w : aw} {cn sn : Nat} {a : Nat} : wp d 65 Q 1 L (.ref a :: st) w cn sn = (kd w a = 7 ∧ wp d 65 Q 4 L (fd w 392 a :: st) w cn sn) := w_getfield d_65_1 (by decide +kernel : fT (mO 65) 61 = some (6, 8))
theorem d_65_4 : decode (mB 65) 4 = .ok (.bipush 12, 2) := by decide +kernel
theorem s_65_4 {d : Nat} {Q : wQ} {L : List (Option Value)} {st : List Value} {w : aw} {cn sn : Nat}  : wp d 65 Q 4 L st w cn sn = wp d 65 Q 6 L (.int 12 :: st) w cn sn := w_bipush d_65_4 (by decide)
theorem d_65_6 : decode (mB 65) 6 = .ok (.ishl, 1) := by decide +kernel
theorem s_65_6 {d : Nat} {Q : wQ} {L : List (Option Value)} {st : List Value} {w : aw} {cn sn : Nat} {a b : Int32} : wp d 65 Q 6 L (.int b :: .int a :: st) w cn sn = wp d 65 Q 7 L (.int (a <<< (b &&& 31)) :: st) w cn sn := wp_row d_65_6 _ _ _ _ _
theorem d_65_7 : decode (mB 65) 7 = .ok (.aload_n 0, 1) := by decide +kernel
theorem s_65_7 {d : Nat} {Q : wQ} {L : List (Option Value)} {st : List Value} {w : aw} {cn sn : Nat} {v : Nat} : wp d 65 Q 7 (some (.ref v) :: L) st w cn sn = wp d 65 Q 8 (some (.ref v) :: L) (.ref v :: st) w cn sn := w_aload_n d_65_7 rfl
theorem d_65_8 : decode (mB 65) 8 = .ok (.getfield 58, 3) := by decide +kernel
theorem s_65_8 {d : Nat} {Q : wQ} {L : List (Option Value)} {st : List Value} {w : aw} {cn sn : Nat} {a : Nat} : wp d 65 Q 8 L (.ref a :: st) w cn sn = (kd w a = 7 ∧ wp d 65 Q 11 L (fd w 391 a :: st) w cn sn) := w_getfield d_65_8 (by decide +kernel : fT (mO 65) 58 = some (6, 7))
theorem d_65_11 : decode (mB 65) 11 = .ok (.ior, 1) := by decide +kernel
theorem s_65_11 {d : Nat} {Q : wQ} {L : List (Option Value)} {st : List Value} {w : aw} {cn sn : Nat} {a b : Int32} : wp d 65 Q 11 L (.int b :: .int a :: st) w cn sn = wp d 65 Q 12 L (.int (a ||| b) :: st) w cn sn := wp_row d_65_11 _ _ _ _ _
theorem d_65_12 : decode (mB 65) 12 = .ok (.istore_n 3, 1) := by decide +kernel
theorem s_65_12 {d : Nat} {Q : wQ} {L : List (Option Value)} {st : List Value} {w : aw} {cn sn : Nat} {a0 a1 a2 a3 : Option Value} {v : Int32} : wp d 65 Q 12 (a0 :: a1 :: a2 :: a3 :: L) (.int v :: st) w cn sn = wp d 65 Q 13 (a0 :: a1 :: clr a2 :: some (.int v) :: L) st w cn sn := w_istore_n d_65_12 (Nat.le_add_left 4 _) rfl
theorem d_65_13 : decode (mB 65) 13 = .ok (.iconst 0, 1) := by decide +kernel
theorem s_65_13 {d : Nat} {Q : wQ} {L : List (Option Value)} {st : List Value} {w : aw} {cn sn : Nat}  : wp d 65 Q 13 L st w cn sn = wp d 65 Q 14 L (.int 0 :: st) w cn sn := w_iconst d_65_13 (by decide)
theorem d_65_14 : decode (mB 65) 14 = .ok (.istore 4, 2) := by decide +kernel
theorem s_65_14 {d : Nat} {Q : wQ} {L : List (Option Value)} {st : List Value} {w : aw} {cn sn : Nat} {a0 a1 a2 a3 a4 : Option Value} {v : Int32} : wp d 65 Q 14 (a0 :: a1 :: a2 :: a3 :: a4 :: L) (.int v :: st) w cn sn = wp d 65 Q 16 (a0 :: a1 :: a2 :: clr a3 :: some (.int v) :: L) st w cn sn := w_istore d_65_14 (Nat.le_add_left 5 _) rfl
theorem d_65_16 : decode (mB 65) 16 = .ok (.iload 4, 2) := by decide +kernel
theorem s_65_16 {d : Nat} {Q : wQ} {L : List (Option Value)} {st : List Value} {w : aw} {cn sn : Nat} {a0 a1 a2 a3 : Option Value} {v : Int32} : wp d 65 Q 16 (a0 :: a1 :: a2 :: a3 :: some (.int v) :: L) st w cn sn = wp d 65 Q 18 (a0 :: a1 :: a2 :: a3 :: some (.int v) :: L) (.int v :: st) w cn sn := w_iload d_65_16 rfl
theorem d_65_18 : decode (mB 65) 18 = .ok (.iload_n 2, 1) := by decide +kernel
theorem s_65_18 {d : Nat} {Q : wQ} {L : List (Option Value)} {st : List Value} {w : aw} {cn sn : Nat} {a0 a1 : Option Value} {v : Int32} : wp d 65 Q 18 (a0 :: a1 :: some (.int v) :: L) st w cn sn = wp d 65 Q 19 (a0 :: a1 :: some (.int v) :: L) (.int v :: st) w cn sn := w_iload_n d_65_18 rfl
theorem d_65_19 : decode (mB 65) 19 = .ok (.if_icmp .ge 24, 3) := by decide +kernel
theorem s_65_19 {d : Nat} {Q : wQ} {L : List (Option Value)} {st : List Value} {w : aw} {cn sn : Nat} {a b : Int32} : wp d 65 Q 19 L (.int b :: .int a :: st) w cn sn = ((b ≤ a → wp d 65 Q 43 L st w cn sn) ∧ (¬ b ≤ a → wp d 65 Q 22 L st w cn sn)) := w_icge d_65_19 (by decide)
theorem d_65_22 : decode (mB 65) 22 = .ok (.iload_n 3, 1) := by decide +kernel
theorem s_65_22 {d : Nat} {Q : wQ} {L : List (Option Value)} {st : List Value} {w : aw} {cn sn : Nat} {a0 a1 a2 : Option Value} {v : Int32} : wp d 65 Q 22 (a0 :: a1 :: a2 :: some (.int v) :: L) st w cn sn = wp d 65 Q 23 (a0 :: a1 :: a2 :: some (.int v) :: L) (.int v :: st) w cn sn := w_iload_n d_65_22 rfl
theorem d_65_23 : decode (mB 65) 23 = .ok (.iload_n 1, 1) := by decide +kernel
theorem s_65_23 {d : Nat} {Q : wQ} {L : List (Option Value)} {st : List Value} {w : aw} {cn sn : Nat} {a0 : Option Value} {v : Int32} : wp d 65 Q 23 (a0 :: some (.int v) :: L) st w cn sn = wp d 65 Q 24 (a0 :: some (.int v) :: L) (.int v :: st) w cn sn := w_iload_n d_65_23 rfl
theorem d_65_24 : decode (mB 65) 24 = .ok (.ishr, 1) := by decide +kernel
theorem s_65_24 {d : Nat} {Q : wQ} {L : List (Option Value)} {st : List Value} {w : aw} {cn sn : Nat} {a b : Int32} : wp d 65 Q 24 L (.int b :: .int a :: st) w cn sn = wp d 65 Q 25 L (.int (a >>> (b &&& 31)) :: st) w cn sn := wp_row d_65_24 _ _ _ _ _
theorem d_65_25 : decode (mB 65) 25 = .ok (.iload_n 3, 1) := by decide +kernel
theorem s_65_25 {d : Nat} {Q : wQ} {L : List (Option Value)} {st : List Value} {w : aw} {cn sn : Nat} {a0 a1 a2 : Option Value} {v : Int32} : wp d 65 Q 25 (a0 :: a1 :: a2 :: some (.int v) :: L) st w cn sn = wp d 65 Q 26 (a0 :: a1 :: a2 :: some (.int v) :: L) (.int v :: st) w cn sn := w_iload_n d_65_25 rfl
theorem d_65_26 : decode (mB 65) 26 = .ok (.bipush 13, 2) := by decide +kernel
theorem s_65_26 {d : Nat} {Q : wQ} {L : List (Option Value)} {st : List Value} {w : aw} {cn sn : Nat}  : wp d 65 Q 26 L st w cn sn = wp d 65 Q 28 L (.int 13 :: st) w cn sn := w_bipush d_65_26 (by decide)
theorem d_65_28 : decode (mB 65) 28 = .ok (.iload_n 1, 1) := by decide +kernel
theorem s_65_28 {d : Nat} {Q : wQ} {L : List (Option Value)} {st : List Value} {w : aw} {cn sn : Nat} {a0 : Option Value} {v : Int32} : wp d 65 Q 28 (a0 :: some (.int v) :: L) st w cn sn = wp d 65 Q 29 (a0 :: some (.int v) :: L) (.int v :: st) w cn sn := w_iload_n d_65_28 rfl
theorem d_65_29 : decode (mB 65) 29 = .ok (.isub, 1) := by decide +kernel
theorem s_65_29 {d : Nat} {Q : wQ} {L : List (Option Value)} {st : List Value} {w : aw} {cn sn : Nat} {a b : Int32} : wp d 65 Q 29 L (.int b :: .int a :: st) w cn sn = wp d 65 Q 30 L (.int (a - b) :: st) w cn sn := wp_row d_65_29 _ _ _ _ _
theorem d_65_30 : decode (mB 65) 30 = .ok (.ishl, 1) := by decide +kernel
theorem s_65_30 {d : Nat} {Q : wQ} {L : List (Option Value)} {st : List Value} {w : aw} {cn sn : Nat} {a b : Int32} : wp d 65 Q 30 L (.int b :: .int a :: st) w cn sn = wp d 65 Q 31 L (.int (a <<< (b &&& 31)) :: st) w cn sn := wp_row d_65_30 _ _ _ _ _
theorem d_65_31 : decode (mB 65) 31 = .ok (.ior, 1) := by decide +kernel
theorem s_65_31 {d : Nat} {Q : wQ} {L : List (Option Value)} {st : List Value} {w : aw} {cn sn : Nat} {a b : Int32} : wp d 65 Q 31 L (.int b :: .int a :: st) w cn sn = wp d 65 Q 32 L (.int (a ||| b) :: st) w cn sn := wp_row d_65_31 _ _ _ _ _
theorem d_65_32 : decode (mB 65) 32 = .ok (.sipush 8191, 3) := by decide +kernel
theorem s_65_32 {d : Nat} {Q : wQ} {L : List (Option Value)} {st : List Value} {w : aw} {cn sn : Nat}  : wp d 65 Q 32 L st w cn sn = wp d 65 Q 35 L (.int 8191 :: st) w cn sn := w_sipush d_65_32 (by decide)
theorem d_65_35 : decode (mB 65) 35 = .ok (.iand, 1) := by decide +kernel
theorem s_65_35 {d : Nat} {Q : wQ} {L : List (Option Value)} {st : List Value} {w : aw} {cn sn : Nat} {a b : Int32} : wp d 65 Q 35 L (.int b :: .int a :: st) w cn sn = wp d 65 Q 36 L (.int (a &&& b) :: st) w cn sn := wp_row d_65_35 _ _ _ _ _
theorem d_65_36 : decode (mB 65) 36 = .ok (.istore_n 3, 1) := by decide +kernel
theorem s_65_36 {d : Nat} {Q : wQ} {L : List (Option Value)} {st : List Value} {w : aw} {cn sn : Nat} {a0 a1 a2 a3 : Option Value} {v : Int32} : wp d 65 Q 36 (a0 :: a1 :: a2 :: a3 :: L) (.int v :: st) w cn sn = wp d 65 Q 37 (a0 :: a1 :: clr a2 :: some (.int v) :: L) st w cn sn := w_istore_n d_65_36 (Nat.le_add_left 4 _) rfl
theorem d_65_37 : decode (mB 65) 37 = .ok (.iinc 4 1, 3) := by decide +kernel
theorem s_65_37 {d : Nat} {Q : wQ} {L : List (Option Value)} {st : List Value} {w : aw} {cn sn : Nat} {a0 a1 a2 a3 : Option Value} {v : Int32} : wp d 65 Q 37 (a0 :: a1 :: a2 :: a3 :: some (.int v) :: L) st w cn sn = wp d 65 Q 40 (a0 :: a1 :: a2 :: clr a3 :: some (.int (v + 1)) :: L) st w cn sn := w_iinc d_65_37 rfl (by decide) rfl
theorem d_65_40 : decode (mB 65) 40 = .ok (.goto (-24), 3) := by decide +kernel
theorem s_65_40 {d : Nat} {Q : wQ} {L : List (Option Value)} {st : List Value} {w : aw} {cn sn : Nat}  : wp d 65 Q 40 L st w cn sn = wp d 65 Q 16 L st w cn sn := w_goto d_65_40 (by decide)
theorem d_65_43 : decode (mB 65) 43 = .ok (.aload_n 0, 1) := by decide +kernel
theorem s_65_43 {d : Nat} {Q : wQ} {L : List (Option Value)} {st : List Value} {w : aw} {cn sn : Nat} {v : Nat} : wp d 65 Q 43 (some (.ref v) :: L) st w cn sn = wp d 65 Q 44 (some (.ref v) :: L) (.ref v :: st) w cn sn := w_aload_n d_65_43 rfl
theorem d_65_44 : decode (mB 65) 44 = .ok (.iload_n 3, 1) := by decide +kernel
theorem s_65_44 {d : Nat} {Q : wQ} {L : List (Option Value)} {st : List Value} {w : aw} {cn sn : Nat} {a0 a1 a2 : Option Value} {v : Int32} : wp d 65 Q 44 (a0 :: a1 :: a2 :: some (.int v) :: L) st w cn sn = wp d 65 Q 45 (a0 :: a1 :: a2 :: some (.int v) :: L) (.int v :: st) w cn sn := w_iload_n d_65_44 rfl
theorem d_65_45 : decode (mB 65) 45 = .ok (.bipush 12, 2) := by decide +kernel
theorem s_65_45 {d : Nat} {Q : wQ} {L : List (Option Value)} {st : List Value} {w : aw} {cn sn : Nat}  : wp d 65 Q 45 L st w cn sn = wp d 65 Q 47 L (.int 12 :: st) w cn sn := w_bipush d_65_45 (by decide)
theorem d_65_47 : decode (mB 65) 47 = .ok (.ishr, 1) := by decide +kernel
theorem s_65_47 {d : Nat} {Q : wQ} {L : List (Option Value)} {st : List Value} {w : aw} {cn sn : Nat} {a b : Int32} : wp d 65 Q 47 L (.int b :: .int a :: st) w cn sn = wp d 65 Q 48 L (.int (a >>> (b &&& 31)) :: st) w cn sn := wp_row d_65_47 _ _ _ _ _
theorem d_65_48 : decode (mB 65) 48 = .ok (.putfield 61, 3) := by decide +kernel
theorem s_65_48 {d : Nat} {Q : wQ} {L : List (Option Value)} {st : List Value} {w : aw} {cn sn : Nat} {x : Int32} {a : Nat} : wp d 65 Q 48 L (.int x :: .ref a :: st) w cn sn = (kd w a = 7 ∧ wp d 65 Q 51 L st (uF w 392 a (.int x)) cn sn) := w_putfield d_65_48 (by decide +kernel : fT (mO 65) 61 = some (6, 8)) (by decide +kernel) ok_int
theorem d_65_51 : decode (mB 65) 51 = .ok (.aload_n 0, 1) := by decide +kernel
theorem s_65_51 {d : Nat} {Q : wQ} {L : List (Option Value)} {st : List Value} {w : aw} {cn sn : Nat} {v : Nat} : wp d 65 Q 51 (some (.ref v) :: L) st w cn sn = wp d 65 Q 52 (some (.ref v) :: L) (.ref v :: st) w cn sn := w_aload_n d_65_51 rfl
theorem d_65_52 : decode (mB 65) 52 = .ok (.iload_n 3, 1) := by decide +kernel
theorem s_65_52 {d : Nat} {Q : wQ} {L : List (Option Value)} {st : List Value} {w : aw} {cn sn : Nat} {a0 a1 a2 : Option Value} {v : Int32} : wp d 65 Q 52 (a0 :: a1 :: a2 :: some (.int v) :: L) st w cn sn = wp d 65 Q 53 (a0 :: a1 :: a2 :: some (.int v) :: L) (.int v :: st) w cn sn := w_iload_n d_65_52 rfl
theorem d_65_53 : decode (mB 65) 53 = .ok (.sipush 4095, 3) := by decide +kernel
theorem s_65_53 {d : Nat} {Q : wQ} {L : List (Option Value)} {st : List Value} {w : aw} {cn sn : Nat}  : wp d 65 Q 53 L st w cn sn = wp d 65 Q 56 L (.int 4095 :: st) w cn sn := w_sipush d_65_53 (by decide)
theorem d_65_56 : decode (mB 65) 56 = .ok (.iand, 1) := by decide +kernel
theorem s_65_56 {d : Nat} {Q : wQ} {L : List (Option Value)} {st : List Value} {w : aw} {cn sn : Nat} {a b : Int32} : wp d 65 Q 56 L (.int b :: .int a :: st) w cn sn = wp d 65 Q 57 L (.int (a &&& b) :: st) w cn sn := wp_row d_65_56 _ _ _ _ _
theorem d_65_57 : decode (mB 65) 57 = .ok (.putfield 58, 3) := by decide +kernel
theorem s_65_57 {d : Nat} {Q : wQ} {L : List (Option Value)} {st : List Value} {w : aw} {cn sn : Nat} {x : Int32} {a : Nat} : wp d 65 Q 57 L (.int x :: .ref a :: st) w cn sn = (kd w a = 7 ∧ wp d 65 Q 60 L st (uF w 391 a (.int x)) cn sn) := w_putfield d_65_57 (by decide +kernel : fT (mO 65) 58 = some (6, 7)) (by decide +kernel) ok_int
theorem d_65_60 : decode (mB 65) 60 = .ok (.return_, 1) := by decide +kernel
theorem s_65_60 {d : Nat} {Q : wQ} {L : List (Option Value)} {w : aw} {cn sn : Nat}  : wp d 65 Q 60 L [] w cn sn = Q none w := w_return d_65_60 rfl
theorem d_66_0 : decode (mB 66) 0 = .ok (.iload_n 1, 1) := by decide +kernel
theorem s_66_0 {d : Nat} {Q : wQ} {L : List (Option Value)} {st : List Value} {w : aw} {cn sn : Nat} {a0 : Option Value} {v : Int32} : wp d 66 Q 0 (a0 :: some (.int v) :: L) st w cn sn = wp d 66 Q 1 (a0 :: some (.int v) :: L) (.int v :: st) w cn sn := w_iload_n d_66_0 rfl
theorem d_66_1 : decode (mB 66) 1 = .ok (.bipush 64, 2) := by decide +kernel
theorem s_66_1 {d : Nat} {Q : wQ} {L : List (Option Value)} {st : List Value} {w : aw} {cn sn : Nat}  : wp d 66 Q 1 L st w cn sn = wp d 66 Q 3 L (.int 64 :: st) w cn sn := w_bipush d_66_1 (by decide)
theorem d_66_3 : decode (mB 66) 3 = .ok (.iand, 1) := by decide +kernel
theorem s_66_3 {d : Nat} {Q : wQ} {L : List (Option Value)} {st : List Value} {w : aw} {cn sn : Nat} {a b : Int32} : wp d 66 Q 3 L (.int b :: .int a :: st) w cn sn = wp d 66 Q 4 L (.int (a &&& b) :: st) w cn sn := wp_row d_66_3 _ _ _ _ _
theorem d_66_4 : decode (mB 66) 4 = .ok (.ifCond .eq 13, 3) := by decide +kernel
theorem s_66_4 {d : Nat} {Q : wQ} {L : List (Option Value)} {st : List Value} {w : aw} {cn sn : Nat} {x : Int32} : wp d 66 Q 4 L (.int x :: st) w cn sn = ((x = 0 → wp d 66 Q 17 L st w cn sn) ∧ (¬ x = 0 → wp d 66 Q 7 L st w cn sn)) := w_ifeq d_66_4 (by decide)
theorem d_66_7 : decode (mB 66) 7 = .ok (.aload_n 0, 1) := by decide +kernel
theorem s_66_7 {d : Nat} {Q : wQ} {L : List (Option Value)} {st : List Value} {w : aw} {cn sn : Nat} {v : Nat} : wp d 66 Q 7 (some (.ref v) :: L) st w cn sn = wp d 66 Q 8 (some (.ref v) :: L) (.ref v :: st) w cn sn := w_aload_n d_66_7 rfl
theorem d_66_8 : decode (mB 66) 8 = .ok (.getfield 58, 3) := by decide +kernel
theorem s_66_8 {d : Nat} {Q : wQ} {L : List (Option Value)} {st : List Value} {w : aw} {cn sn : Nat} {a : Nat} : wp d 66 Q 8 L (.ref a :: st) w cn sn = (kd w a = 7 ∧ wp d 66 Q 11 L (fd w 391 a :: st) w cn sn) := w_getfield d_66_8 (by decide +kernel : fT (mO 66) 58 = some (6, 7))
theorem d_66_11 : decode (mB 66) 11 = .ok (.sipush 2048, 3) := by decide +kernel
theorem s_66_11 {d : Nat} {Q : wQ} {L : List (Option Value)} {st : List Value} {w : aw} {cn sn : Nat}  : wp d 66 Q 11 L st w cn sn = wp d 66 Q 14 L (.int 2048 :: st) w cn sn := w_sipush d_66_11 (by decide)
theorem d_66_14 : decode (mB 66) 14 = .ok (.if_icmp .ge 32, 3) := by decide +kernel
theorem s_66_14 {d : Nat} {Q : wQ} {L : List (Option Value)} {st : List Value} {w : aw} {cn sn : Nat} {a b : Int32} : wp d 66 Q 14 L (.int b :: .int a :: st) w cn sn = ((b ≤ a → wp d 66 Q 46 L st w cn sn) ∧ (¬ b ≤ a → wp d 66 Q 17 L st w cn sn)) := w_icge d_66_14 (by decide)
theorem d_66_17 : decode (mB 66) 17 = .ok (.iload_n 1, 1) := by decide +kernel
theorem s_66_17 {d : Nat} {Q : wQ} {L : List (Option Value)} {st : List Value} {w : aw} {cn sn : Nat} {a0 : Option Value} {v : Int32} : wp d 66 Q 17 (a0 :: some (.int v) :: L) st w cn sn = wp d 66 Q 18 (a0 :: some (.int v) :: L) (.int v :: st) w cn sn := w_iload_n d_66_17 rfl
theorem d_66_18 : decode (mB 66) 18 = .ok (.bipush 32, 2) := by decide +kernel
theorem s_66_18 {d : Nat} {Q : wQ} {L : List (Option Value)} {st : List Value} {w : aw} {cn sn : Nat}  : wp d 66 Q 18 L st w cn sn = wp d 66 Q 20 L (.int 32 :: st) w cn sn := w_bipush d_66_18 (by decide)
theorem d_66_20 : decode (mB 66) 20 = .ok (.iand, 1) := by decide +kernel
theorem s_66_20 {d : Nat} {Q : wQ} {L : List (Option Value)} {st : List Value} {w : aw} {cn sn : Nat} {a b : Int32} : wp d 66 Q 20 L (.int b :: .int a :: st) w cn sn = wp d 66 Q 21 L (.int (a &&& b) :: st) w cn sn := wp_row d_66_20 _ _ _ _ _
theorem d_66_21 : decode (mB 66) 21 = .ok (.ifCond .eq 10, 3) := by decide +kernel
theorem s_66_21 {d : Nat} {Q : wQ} {L : List (Option Value)} {st : List Value} {w : aw} {cn sn : Nat} {x : Int32} : wp d 66 Q 21 L (.int x :: st) w cn sn = ((x = 0 → wp d 66 Q 31 L st w cn sn) ∧ (¬ x = 0 → wp d 66 Q 24 L st w cn sn)) := w_ifeq d_66_21 (by decide)
theorem d_66_24 : decode (mB 66) 24 = .ok (.aload_n 0, 1) := by decide +kernel
theorem s_66_24 {d : Nat} {Q : wQ} {L : List (Option Value)} {st : List Value} {w : aw} {cn sn : Nat} {v : Nat} : wp d 66 Q 24 (some (.ref v) :: L) st w cn sn = wp d 66 Q 25 (some (.ref v) :: L) (.ref v :: st) w cn sn := w_aload_n d_66_24 rfl
theorem d_66_25 : decode (mB 66) 25 = .ok (.getfield 58, 3) := by decide +kernel
theorem s_66_25 {d : Nat} {Q : wQ} {L : List (Option Value)} {st : List Value} {w : aw} {cn sn : Nat} {a : Nat} : wp d 66 Q 25 L (.ref a :: st) w cn sn = (kd w a = 7 ∧ wp d 66 Q 28 L (fd w 391 a :: st) w cn sn) := w_getfield d_66_25 (by decide +kernel : fT (mO 66) 58 = some (6, 7))
theorem d_66_28 : decode (mB 66) 28 = .ok (.ifCond .eq 18, 3) := by decide +kernel
theorem s_66_28 {d : Nat} {Q : wQ} {L : List (Option Value)} {st : List Value} {w : aw} {cn sn : Nat} {x : Int32} : wp d 66 Q 28 L (.int x :: st) w cn sn = ((x = 0 → wp d 66 Q 46 L st w cn sn) ∧ (¬ x = 0 → wp d 66 Q 31 L st w cn sn)) := w_ifeq d_66_28 (by decide)
theorem d_66_31 : decode (mB 66) 31 = .ok (.iload_n 1, 1) := by decide +kernel
theorem s_66_31 {d : Nat} {Q : wQ} {L : List (Option Value)} {st : List Value} {w : aw} {cn sn : Nat} {a0 : Option Value} {v : Int32} : wp d 66 Q 31 (a0 :: some (.int v) :: L) st w cn sn = wp d 66 Q 32 (a0 :: some (.int v) :: L) (.int v :: st) w cn sn := w_iload_n d_66_31 rfl
theorem d_66_32 : decode (mB 66) 32 = .ok (.bipush 16, 2) := by decide +kernel
theorem s_66_32 {d : Nat} {Q : wQ} {L : List (Option Value)} {st : List Value} {w : aw} {cn sn : Nat}  : wp d 66 Q 32 L st w cn sn = wp d 66 Q 34 L (.int 16 :: st) w cn sn := w_bipush d_66_32 (by decide)
theorem d_66_34 : decode (mB 66) 34 = .ok (.iand, 1) := by decide +kernel
theorem s_66_34 {d : Nat} {Q : wQ} {L : List (Option Value)} {st : List Value} {w : aw} {cn sn : Nat} {a b : Int32} : wp d 66 Q 34 L (.int b :: .int a :: st) w cn sn = wp d 66 Q 35 L (.int (a &&& b) :: st) w cn sn := wp_row d_66_34 _ _ _ _ _
theorem d_66_35 : decode (mB 66) 35 = .ok (.ifCond .eq 15, 3) := by decide +kernel
theorem s_66_35 {d : Nat} {Q : wQ} {L : List (Option Value)} {st : List Value} {w : aw} {cn sn : Nat} {x : Int32} : wp d 66 Q 35 L (.int x :: st) w cn sn = ((x = 0 → wp d 66 Q 50 L st w cn sn) ∧ (¬ x = 0 → wp d 66 Q 38 L st w cn sn)) := w_ifeq d_66_35 (by decide)
theorem d_66_38 : decode (mB 66) 38 = .ok (.aload_n 0, 1) := by decide +kernel
theorem s_66_38 {d : Nat} {Q : wQ} {L : List (Option Value)} {st : List Value} {w : aw} {cn sn : Nat} {v : Nat} : wp d 66 Q 38 (some (.ref v) :: L) st w cn sn = wp d 66 Q 39 (some (.ref v) :: L) (.ref v :: st) w cn sn := w_aload_n d_66_38 rfl
theorem d_66_39 : decode (mB 66) 39 = .ok (.getfield 61, 3) := by decide +kernel
theorem s_66_39 {d : Nat} {Q : wQ} {L : List (Option Value)} {st : List Value} {w : aw} {cn sn : Nat} {a : Nat} : wp d 66 Q 39 L (.ref a :: st) w cn sn = (kd w a = 7 ∧ wp d 66 Q 42 L (fd w 392 a :: st) w cn sn) := w_getfield d_66_39 (by decide +kernel : fT (mO 66) 61 = some (6, 8))
theorem d_66_42 : decode (mB 66) 42 = .ok (.iconst 1, 1) := by decide +kernel
theorem s_66_42 {d : Nat} {Q : wQ} {L : List (Option Value)} {st : List Value} {w : aw} {cn sn : Nat}  : wp d 66 Q 42 L st w cn sn = wp d 66 Q 43 L (.int 1 :: st) w cn sn := w_iconst d_66_42 (by decide)
theorem d_66_43 : decode (mB 66) 43 = .ok (.if_icmp .ne 7, 3) := by decide +kernel
theorem s_66_43 {d : Nat} {Q : wQ} {L : List (Option Value)} {st : List Value} {w : aw} {cn sn : Nat} {a b : Int32} : wp d 66 Q 43 L (.int b :: .int a :: st) w cn sn = ((¬ a = b → wp d 66 Q 50 L st w cn sn) ∧ (a = b → wp d 66 Q 46 L st w cn sn)) := w_icne d_66_43 (by decide)
theorem d_66_46 : decode (mB 66) 46 = .ok (.iconst 1, 1) := by decide +kernel
theorem s_66_46 {d : Nat} {Q : wQ} {L : List (Option Value)} {st : List Value} {w : aw} {cn sn : Nat}  : wp d 66 Q 46 L st w cn sn = wp d 66 Q 47 L (.int 1 :: st) w cn sn := w_iconst d_66_46 (by decide)
theorem d_66_47 : decode (mB 66) 47 = .ok (.goto 4, 3) := by decide +kernel
theorem s_66_47 {d : Nat} {Q : wQ} {L : List (Option Value)} {st : List Value} {w : aw} {cn sn : Nat}  : wp d 66 Q 47 L st w cn sn = wp d 66 Q 51 L st w cn sn := w_goto d_66_47 (by decide)
theorem d_66_50 : decode (mB 66) 50 = .ok (.iconst 0, 1) := by decide +kernel
theorem s_66_50 {d : Nat} {Q : wQ} {L : List (Option Value)} {st : List Value} {w : aw} {cn sn : Nat}  : wp d 66 Q 50 L st w cn sn = wp d 66 Q 51 L (.int 0 :: st) w cn sn := w_iconst d_66_50 (by decide)
theorem d_66_51 : decode (mB 66) 51 = .ok (.istore_n 2, 1) := by decide +kernel
theorem s_66_51 {d : Nat} {Q : wQ} {L : List (Option Value)} {st : List Value} {w : aw} {cn sn : Nat} {a0 a1 a2 : Option Value} {v : Int32} : wp d 66 Q 51 (a0 :: a1 :: a2 :: L) (.int v :: st) w cn sn = wp d 66 Q 52 (a0 :: clr a1 :: some (.int v) :: L) st w cn sn := w_istore_n d_66_51 (Nat.le_add_left 3 _) rfl
theorem d_66_52 : decode (mB 66) 52 = .ok (.iload_n 1, 1) := by decide +kernel
theorem s_66_52 {d : Nat} {Q : wQ} {L : List (Option Value)} {st : List Value} {w : aw} {cn sn : Nat} {a0 : Option Value} {v : Int32} : wp d 66 Q 52 (a0 :: some (.int v) :: L) st w cn sn = wp d 66 Q 53 (a0 :: some (.int v) :: L) (.int v :: st) w cn sn := w_iload_n d_66_52 rfl
theorem d_66_53 : decode (mB 66) 53 = .ok (.bipush 8, 2) := by decide +kernel
theorem s_66_53 {d : Nat} {Q : wQ} {L : List (Option Value)} {st : List Value} {w : aw} {cn sn : Nat}  : wp d 66 Q 53 L st w cn sn = wp d 66 Q 55 L (.int 8 :: st) w cn sn := w_bipush d_66_53 (by decide)
theorem d_66_55 : decode (mB 66) 55 = .ok (.iand, 1) := by decide +kernel
theorem s_66_55 {d : Nat} {Q : wQ} {L : List (Option Value)} {st : List Value} {w : aw} {cn sn : Nat} {a b : Int32} : wp d 66 Q 55 L (.int b :: .int a :: st) w cn sn = wp d 66 Q 56 L (.int (a &&& b) :: st) w cn sn := wp_row d_66_55 _ _ _ _ _
theorem d_66_56 : decode (mB 66) 56 = .ok (.ifCond .eq 7, 3) := by decide +kernel
theorem s_66_56 {d : Nat} {Q : wQ} {L : List (Option Value)} {st : List Value} {w : aw} {cn sn : Nat} {x : Int32} : wp d 66 Q 56 L (.int x :: st) w cn sn = ((x = 0 → wp d 66 Q 63 L st w cn sn) ∧ (¬ x = 0 → wp d 66 Q 59 L st w cn sn)) := w_ifeq d_66_56 (by decide)
theorem d_66_59 : decode (mB 66) 59 = .ok (.iconst 1, 1) := by decide +kernel
theorem s_66_59 {d : Nat} {Q : wQ} {L : List (Option Value)} {st : List Value} {w : aw} {cn sn : Nat}  : wp d 66 Q 59 L st w cn sn = wp d 66 Q 60 L (.int 1 :: st) w cn sn := w_iconst d_66_59 (by decide)
theorem d_66_60 : decode (mB 66) 60 = .ok (.goto 4, 3) := by decide +kernel
theorem s_66_60 {d : Nat} {Q : wQ} {L : List (Option Value)} {st : List Value} {w : aw} {cn sn : Nat}  : wp d 66 Q 60 L st w cn sn = wp d 66 Q 64 L st w cn sn := w_goto d_66_60 (by decide)
theorem d_66_63 : decode (mB 66) 63 = .ok (.iconst 0, 1) := by decide +kernel
theorem s_66_63 {d : Nat} {Q : wQ} {L : List (Option Value)} {st : List Value} {w : aw} {cn sn : Nat}  : wp d 66 Q 63 L st w cn sn = wp d 66 Q 64 L (.int 0 :: st) w cn sn := w_iconst d_66_63 (by decide)
theorem d_66_64 : decode (mB 66) 64 = .ok (.istore_n 3, 1) := by decide +kernel
theorem s_66_64 {d : Nat} {Q : wQ} {L : List (Option Value)} {st : List Value} {w : aw} {cn sn : Nat} {a0 a1 a2 a3 : Option Value} {v : Int32} : wp d 66 Q 64 (a0 :: a1 :: a2 :: a3 :: L) (.int v :: st) w cn sn = wp d 66 Q 65 (a0 :: a1 :: clr a2 :: some (.int v) :: L) st w cn sn := w_istore_n d_66_64 (Nat.le_add_left 4 _) rfl
theorem d_66_65 : decode (mB 66) 65 = .ok (.iload_n 2, 1) := by decide +kernel
theorem s_66_65 {d : Nat} {Q : wQ} {L : List (Option Value)} {st : List Value} {w : aw} {cn sn : Nat} {a0 a1 : Option Value} {v : Int32} : wp d 66 Q 65 (a0 :: a1 :: some (.int v) :: L) st w cn sn = wp d 66 Q 66 (a0 :: a1 :: some (.int v) :: L) (.int v :: st) w cn sn := w_iload_n d_66_65 rfl
theorem d_66_66 : decode (mB 66) 66 = .ok (.iload_n 3, 1) := by decide +kernel
theorem s_66_66 {d : Nat} {Q : wQ} {L : List (Option Value)} {st : List Value} {w : aw} {cn sn : Nat} {a0 a1 a2 : Option Value} {v : Int32} : wp d 66 Q 66 (a0 :: a1 :: a2 :: some (.int v) :: L) st w cn sn = wp d 66 Q 67 (a0 :: a1 :: a2 :: some (.int v) :: L) (.int v :: st) w cn sn := w_iload_n d_66_66 rfl
theorem d_66_67 : decode (mB 66) 67 = .ok (.if_icmp .eq 7, 3) := by decide +kernel
theorem s_66_67 {d : Nat} {Q : wQ} {L : List (Option Value)} {st : List Value} {w : aw} {cn sn : Nat} {a b : Int32} : wp d 66 Q 67 L (.int b :: .int a :: st) w cn sn = ((a = b → wp d 66 Q 74 L st w cn sn) ∧ (¬ a = b → wp d 66 Q 70 L st w cn sn)) := w_iceq d_66_67 (by decide)
theorem d_66_70 : decode (mB 66) 70 = .ok (.aload_n 0, 1) := by decide +kernel
theorem s_66_70 {d : Nat} {Q : wQ} {L : List (Option Value)} {st : List Value} {w : aw} {cn sn : Nat} {v : Nat} : wp d 66 Q 70 (some (.ref v) :: L) st w cn sn = wp d 66 Q 71 (some (.ref v) :: L) (.ref v :: st) w cn sn := w_aload_n d_66_70 rfl
theorem d_66_71 : decode (mB 66) 71 = .ok (.invokevirtual 41, 3) := by decide +kernel
theorem s_66_71 {d : Nat} {Q : wQ} {L : List (Option Value)} {st : List Value} {w : aw} {cn sn : Nat} {b : Nat} : wp d 66 Q 71 L (.ref b :: st) w cn sn = (kd w b = 7 ∧ catS st ≤ 8 ∧ wpD d 60 [.ref b] w (fun v w' => wp d 66 Q 74 L (v.toList ++ st) w' cn sn)) := w_virtual (As := []) d_66_71 (by decide +kernel : cT (mO 66) 41 = some (0, 60)) rfl (by decide +kernel) rfl (by decide +kernel) rfl
theorem d_66_74 : decode (mB 66) 74 = .ok (.iload_n 1, 1) := by decide +kernel
theorem s_66_74 {d : Nat} {Q : wQ} {L : List (Option Value)} {st : List Value} {w : aw} {cn sn : Nat} {a0 : Option Value} {v : Int32} : wp d 66 Q 74 (a0 :: some (.int v) :: L) st w cn sn = wp d 66 Q 75 (a0 :: some (.int v) :: L) (.int v :: st) w cn sn := w_iload_n d_66_74 rfl
theorem d_66_75 : decode (mB 66) 75 = .ok (.sipush 128, 3) := by decide +kernel
theorem s_66_75 {d : Nat} {Q : wQ} {L : List (Option Value)} {st : List Value} {w : aw} {cn sn : Nat}  : wp d 66 Q 75 L st w cn sn = wp d 66 Q 78 L (.int 128 :: st) w cn sn := w_sipush d_66_75 (by decide)
theorem d_66_78 : decode (mB 66) 78 = .ok (.iand, 1) := by decide +kernel
theorem s_66_78 {d : Nat} {Q : wQ} {L : List (Option Value)} {st : List Value} {w : aw} {cn sn : Nat} {a b : Int32} : wp d 66 Q 78 L (.int b :: .int a :: st) w cn sn = wp d 66 Q 79 L (.int (a &&& b) :: st) w cn sn := wp_row d_66_78 _ _ _ _ _
theorem d_66_79 : decode (mB 66) 79 = .ok (.ifCond .eq 8, 3) := by decide +kernel
theorem s_66_79 {d : Nat} {Q : wQ} {L : List (Option Value)} {st : List Value} {w : aw} {cn sn : Nat} {x : Int32} : wp d 66 Q 79 L (.int x :: st) w cn sn = ((x = 0 → wp d 66 Q 87 L st w cn sn) ∧ (¬ x = 0 → wp d 66 Q 82 L st w cn sn)) := w_ifeq d_66_79 (by decide)
theorem d_66_82 : decode (mB 66) 82 = .ok (.aload_n 0, 1) := by decide +kernel
theorem s_66_82 {d : Nat} {Q : wQ} {L : List (Option Value)} {st : List Value} {w : aw} {cn sn : Nat} {v : Nat} : wp d 66 Q 82 (some (.ref v) :: L) st w cn sn = wp d 66 Q 83 (some (.ref v) :: L) (.ref v :: st) w cn sn := w_aload_n d_66_82 rfl
theorem d_66_83 : decode (mB 66) 83 = .ok (.iconst 0, 1) := by decide +kernel
theorem s_66_83 {d : Nat} {Q : wQ} {L : List (Option Value)} {st : List Value} {w : aw} {cn sn : Nat}  : wp d 66 Q 83 L st w cn sn = wp d 66 Q 84 L (.int 0 :: st) w cn sn := w_iconst d_66_83 (by decide)
theorem d_66_84 : decode (mB 66) 84 = .ok (.putfield 58, 3) := by decide +kernel
theorem s_66_84 {d : Nat} {Q : wQ} {L : List (Option Value)} {st : List Value} {w : aw} {cn sn : Nat} {x : Int32} {a : Nat} : wp d 66 Q 84 L (.int x :: .ref a :: st) w cn sn = (kd w a = 7 ∧ wp d 66 Q 87 L st (uF w 391 a (.int x)) cn sn) := w_putfield d_66_84 (by decide +kernel : fT (mO 66) 58 = some (6, 7)) (by decide +kernel) ok_int
theorem d_66_87 : decode (mB 66) 87 = .ok (.iload_n 1, 1) := by decide +kernel
theorem s_66_87 {d : Nat} {Q : wQ} {L : List (Option Value)} {st : List Value} {w : aw} {cn sn : Nat} {a0 : Option Value} {v : Int32} : wp d 66 Q 87 (a0 :: some (.int v) :: L) st w cn sn = wp d 66 Q 88 (a0 :: some (.int v) :: L) (.int v :: st) w cn sn := w_iload_n d_66_87 rfl
theorem d_66_88 : decode (mB 66) 88 = .ok (.iconst 4, 1) := by decide +kernel
theorem s_66_88 {d : Nat} {Q : wQ} {L : List (Option Value)} {st : List Value} {w : aw} {cn sn : Nat}  : wp d 66 Q 88 L st w cn sn = wp d 66 Q 89 L (.int 4 :: st) w cn sn := w_iconst d_66_88 (by decide)
theorem d_66_89 : decode (mB 66) 89 = .ok (.iand, 1) := by decide +kernel
theorem s_66_89 {d : Nat} {Q : wQ} {L : List (Option Value)} {st : List Value} {w : aw} {cn sn : Nat} {a b : Int32} : wp d 66 Q 89 L (.int b :: .int a :: st) w cn sn = wp d 66 Q 90 L (.int (a &&& b) :: st) w cn sn := wp_row d_66_89 _ _ _ _ _
theorem d_66_90 : decode (mB 66) 90 = .ok (.ifCond .eq 16, 3) := by decide +kernel
theorem s_66_90 {d : Nat} {Q : wQ} {L : List (Option Value)} {st : List Value} {w : aw} {cn sn : Nat} {x : Int32} : wp d 66 Q 90 L (.int x :: st) w cn sn = ((x = 0 → wp d 66 Q 106 L st w cn sn) ∧ (¬ x = 0 → wp d 66 Q 93 L st w cn sn)) := w_ifeq d_66_90 (by decide)
theorem d_66_93 : decode (mB 66) 93 = .ok (.aload_n 0, 1) := by decide +kernel
theorem s_66_93 {d : Nat} {Q : wQ} {L : List (Option Value)} {st : List Value} {w : aw} {cn sn : Nat} {v : Nat} : wp d 66 Q 93 (some (.ref v) :: L) st w cn sn = wp d 66 Q 94 (some (.ref v) :: L) (.ref v :: st) w cn sn := w_aload_n d_66_93 rfl
theorem d_66_94 : decode (mB 66) 94 = .ok (.dup, 1) := by decide +kernel
theorem s_66_94 {d : Nat} {Q : wQ} {L : List (Option Value)} {st : List Value} {w : aw} {cn sn : Nat} {v : Value} : wp d 66 Q 94 L (v :: st) w cn sn = (v.category = 1 ∧ wp d 66 Q 95 L (v :: v :: st) w cn sn) := wp_row d_66_94 _ _ _ _ _
theorem d_66_95 : decode (mB 66) 95 = .ok (.getfield 58, 3) := by decide +kernel
theorem s_66_95 {d : Nat} {Q : wQ} {L : List (Option Value)} {st : List Value} {w : aw} {cn sn : Nat} {a : Nat} : wp d 66 Q 95 L (.ref a :: st) w cn sn = (kd w a = 7 ∧ wp d 66 Q 98 L (fd w 391 a :: st) w cn sn) := w_getfield d_66_95 (by decide +kernel : fT (mO 66) 58 = some (6, 7))
theorem d_66_98 : decode (mB 66) 98 = .ok (.aload_n 0, 1) := by decide +kernel
theorem s_66_98 {d : Nat} {Q : wQ} {L : List (Option Value)} {st : List Value} {w : aw} {cn sn : Nat} {v : Nat} : wp d 66 Q 98 (some (.ref v) :: L) st w cn sn = wp d 66 Q 99 (some (.ref v) :: L) (.ref v :: st) w cn sn := w_aload_n d_66_98 rfl
theorem d_66_99 : decode (mB 66) 99 = .ok (.getfield 74, 3) := by decide +kernel
theorem s_66_99 {d : Nat} {Q : wQ} {L : List (Option Value)} {st : List Value} {w : aw} {cn sn : Nat} {a : Nat} : wp d 66 Q 99 L (.ref a :: st) w cn sn = (kd w a = 7 ∧ wp d 66 Q 102 L (fd w 393 a :: st) w cn sn) := w_getfield d_66_99 (by decide +kernel : fT (mO 66) 74 = some (6, 9))
theorem d_66_102 : decode (mB 66) 102 = .ok (.ior, 1) := by decide +kernel
theorem s_66_102 {d : Nat} {Q : wQ} {L : List (Option Value)} {st : List Value} {w : aw} {cn sn : Nat} {a b : Int32} : wp d 66 Q 102 L (.int b :: .int a :: st) w cn sn = wp d 66 Q 103 L (.int (a ||| b) :: st) w cn sn := wp_row d_66_102 _ _ _ _ _
theorem d_66_103 : decode (mB 66) 103 = .ok (.putfield 58, 3) := by decide +kernel
theorem s_66_103 {d : Nat} {Q : wQ} {L : List (Option Value)} {st : List Value} {w : aw} {cn sn : Nat} {x : Int32} {a : Nat} : wp d 66 Q 103 L (.int x :: .ref a :: st) w cn sn = (kd w a = 7 ∧ wp d 66 Q 106 L st (uF w 391 a (.int x)) cn sn) := w_putfield d_66_103 (by decide +kernel : fT (mO 66) 58 = some (6, 7)) (by decide +kernel) ok_int
theorem d_66_106 : decode (mB 66) 106 = .ok (.iload_n 1, 1) := by decide +kernel
theorem s_66_106 {d : Nat} {Q : wQ} {L : List (Option Value)} {st : List Value} {w : aw} {cn sn : Nat} {a0 : Option Value} {v : Int32} : wp d 66 Q 106 (a0 :: some (.int v) :: L) st w cn sn = wp d 66 Q 107 (a0 :: some (.int v) :: L) (.int v :: st) w cn sn := w_iload_n d_66_106 rfl
theorem d_66_107 : decode (mB 66) 107 = .ok (.iconst 2, 1) := by decide +kernel
theorem s_66_107 {d : Nat} {Q : wQ} {L : List (Option Value)} {st : List Value} {w : aw} {cn sn : Nat}  : wp d 66 Q 107 L st w cn sn = wp d 66 Q 108 L (.int 2 :: st) w cn sn := w_iconst d_66_107 (by decide)
theorem d_66_108 : decode (mB 66) 108 = .ok (.iand, 1) := by decide +kernel
theorem s_66_108 {d : Nat} {Q : wQ} {L : List (Option Value)} {st : List Value} {w : aw} {cn sn : Nat} {a b : Int32} : wp d 66 Q 108 L (.int b :: .int a :: st) w cn sn = wp d 66 Q 109 L (.int (a &&& b) :: st) w cn sn := wp_row d_66_108 _ _ _ _ _
theorem d_66_109 : decode (mB 66) 109 = .ok (.ifCond .eq 8, 3) := by decide +kernel
theorem s_66_109 {d : Nat} {Q : wQ} {L : List (Option Value)} {st : List Value} {w : aw} {cn sn : Nat} {x : Int32} : wp d 66 Q 109 L (.int x :: st) w cn sn = ((x = 0 → wp d 66 Q 117 L st w cn sn) ∧ (¬ x = 0 → wp d 66 Q 112 L st w cn sn)) := w_ifeq d_66_109 (by decide)
theorem d_66_112 : decode (mB 66) 112 = .ok (.aload_n 0, 1) := by decide +kernel
theorem s_66_112 {d : Nat} {Q : wQ} {L : List (Option Value)} {st : List Value} {w : aw} {cn sn : Nat} {v : Nat} : wp d 66 Q 112 (some (.ref v) :: L) st w cn sn = wp d 66 Q 113 (some (.ref v) :: L) (.ref v :: st) w cn sn := w_aload_n d_66_112 rfl
theorem d_66_113 : decode (mB 66) 113 = .ok (.iconst 0, 1) := by decide +kernel
theorem s_66_113 {d : Nat} {Q : wQ} {L : List (Option Value)} {st : List Value} {w : aw} {cn sn : Nat}  : wp d 66 Q 113 L st w cn sn = wp d 66 Q 114 L (.int 0 :: st) w cn sn := w_iconst d_66_113 (by decide)
theorem d_66_114 : decode (mB 66) 114 = .ok (.putfield 77, 3) := by decide +kernel
theorem s_66_114 {d : Nat} {Q : wQ} {L : List (Option Value)} {st : List Value} {w : aw} {cn sn : Nat} {x : Int32} {a : Nat} : wp d 66 Q 114 L (.int x :: .ref a :: st) w cn sn = (kd w a = 7 ∧ wp d 66 Q 117 L st (uF w 394 a (.int x)) cn sn) := w_putfield d_66_114 (by decide +kernel : fT (mO 66) 77 = some (6, 10)) (by decide +kernel) ok_int
theorem d_66_117 : decode (mB 66) 117 = .ok (.return_, 1) := by decide +kernel
theorem s_66_117 {d : Nat} {Q : wQ} {L : List (Option Value)} {w : aw} {cn sn : Nat}  : wp d 66 Q 117 L [] w cn sn = Q none w := w_return d_66_117 rfl
theorem d_67_0 : decode (mB 67) 0 = .ok (.iload_n 1, 1) := by decide +kernel
theorem s_67_0 {d : Nat} {Q : wQ} {L : List (Option Value)} {st : List Value} {w : aw} {cn sn : Nat} {a0 : Option Value} {v : Int32} : wp d 67 Q 0 (a0 :: some (.int v) :: L) st w cn sn = wp d 67 Q 1 (a0 :: some (.int v) :: L) (.int v :: st) w cn sn := w_iload_n d_67_0 rfl
theorem d_67_1 : decode (mB 67) 1 = .ok (.tableswitch 203 3097 3116 #[95, 203, 203, 203, 203, 112, 203, 203, 120, 203, 203, 203, 203, 139, 203, 203, 166, 173, 173, 192], 95) := by decide +kernel
theorem s_67_1 {d : Nat} {Q : wQ} {L : List (Option Value)} {st : List Value} {w : aw} {cn sn : Nat} {x : Int32} : wp d 67 Q 1 L (.int x :: st) w cn sn = ((x.toInt < 3097 ∨ 3116 < x.toInt → wp d 67 Q 204 L st w cn sn) ∧ ∀ (i t : Nat), ([96, 204, 204, 204, 204, 113, 204, 204, 121, 204, 204, 204, 204, 140, 204, 204, 167, 174, 174, 193] : List Nat)[i]? = some t → x.toInt = 3097 + i → wp d 67 Q t L st w cn sn) := w_table d_67_1 (by decide) (by decide) (by decide)
theorem d_67_96 : decode (mB 67) 96 = .ok (.aload_n 0, 1) := by decide +kernel
theorem s_67_96 {d : Nat} {Q : wQ} {L : List (Option Value)} {st : List Value} {w : aw} {cn sn : Nat} {v : Nat} : wp d 67 Q 96 (some (.ref v) :: L) st w cn sn = wp d 67 Q 97 (some (.ref v) :: L) (.ref v :: st) w cn sn := w_aload_n d_67_96 rfl
theorem d_67_97 : decode (mB 67) 97 = .ok (.getfield 24, 3) := by decide +kernel
theorem s_67_97 {d : Nat} {Q : wQ} {L : List (Option Value)} {st : List Value} {w : aw} {cn sn : Nat} {a : Nat} : wp d 67 Q 97 L (.ref a :: st) w cn sn = (kd w a = 7 ∧ wp d 67 Q 100 L (fd w 388 a :: st) w cn sn) := w_getfield d_67_97 (by decide +kernel : fT (mO 67) 24 = some (6, 4))
theorem d_67_100 : decode (mB 67) 100 = .ok (.getfield 80, 3) := by decide +kernel
theorem s_67_100 {d : Nat} {Q : wQ} {L : List (Option Value)} {st : List Value} {w : aw} {cn sn : Nat} {a : Nat} : wp d 67 Q 100 L (.ref a :: st) w cn sn = (kd w a = 3 ∧ wp d 67 Q 103 L (fd w 130 a :: st) w cn sn) := w_getfield d_67_100 (by decide +kernel : fT (mO 67) 80 = some (2, 2))
theorem d_67_103 : decode (mB 67) 103 = .ok (.ifCond .le 101, 3) := by decide +kernel
theorem s_67_103 {d : Nat} {Q : wQ} {L : List (Option Value)} {st : List Value} {w : aw} {cn sn : Nat} {x : Int32} : wp d 67 Q 103 L (.int x :: st) w cn sn = ((x ≤ 0 → wp d 67 Q 204 L st w cn sn) ∧ (¬ x ≤ 0 → wp d 67 Q 106 L st w cn sn)) := w_ifle d_67_103 (by decide)
theorem d_67_106 : decode (mB 67) 106 = .ok (.aload_n 0, 1) := by decide +kernel
theorem s_67_106 {d : Nat} {Q : wQ} {L : List (Option Value)} {st : List Value} {w : aw} {cn sn : Nat} {v : Nat} : wp d 67 Q 106 (some (.ref v) :: L) st w cn sn = wp d 67 Q 107 (some (.ref v) :: L) (.ref v :: st) w cn sn := w_aload_n d_67_106 rfl
theorem d_67_107 : decode (mB 67) 107 = .ok (.invokevirtual 41, 3) := by decide +kernel
theorem s_67_107 {d : Nat} {Q : wQ} {L : List (Option Value)} {st : List Value} {w : aw} {cn sn : Nat} {b : Nat} : wp d 67 Q 107 L (.ref b :: st) w cn sn = (kd w b = 7 ∧ catS st ≤ 8 ∧ wpD d 60 [.ref b] w (fun v w' => wp d 67 Q 110 L (v.toList ++ st) w' cn sn)) := w_virtual (As := []) d_67_107 (by decide +kernel : cT (mO 67) 41 = some (0, 60)) rfl (by decide +kernel) rfl (by decide +kernel) rfl
theorem d_67_110 : decode (mB 67) 110 = .ok (.goto 94, 3) := by decide +kernel
theorem s_67_110 {d : Nat} {Q : wQ} {L : List (Option Value)} {st : List Value} {w : aw} {cn sn : Nat}  : wp d 67 Q 110 L st w cn sn = wp d 67 Q 204 L st w cn sn := w_goto d_67_110 (by decide)
theorem d_67_113 : decode (mB 67) 113 = .ok (.aload_n 0, 1) := by decide +kernel
theorem s_67_113 {d : Nat} {Q : wQ} {L : List (Option Value)} {st : List Value} {w : aw} {cn sn : Nat} {v : Nat} : wp d 67 Q 113 (some (.ref v) :: L) st w cn sn = wp d 67 Q 114 (some (.ref v) :: L) (.ref v :: st) w cn sn := w_aload_n d_67_113 rfl
theorem d_67_114 : decode (mB 67) 114 = .ok (.iload_n 2, 1) := by decide +kernel
theorem s_67_114 {d : Nat} {Q : wQ} {L : List (Option Value)} {st : List Value} {w : aw} {cn sn : Nat} {a0 a1 : Option Value} {v : Int32} : wp d 67 Q 114 (a0 :: a1 :: some (.int v) :: L) st w cn sn = wp d 67 Q 115 (a0 :: a1 :: some (.int v) :: L) (.int v :: st) w cn sn := w_iload_n d_67_114 rfl
theorem d_67_115 : decode (mB 67) 115 = .ok (.invokevirtual 83, 3) := by decide +kernel
theorem s_67_115 {d : Nat} {Q : wQ} {L : List (Option Value)} {st : List Value} {w : aw} {cn sn : Nat} {v0 : Value} {b : Nat} : wp d 67 Q 115 L (v0 :: .ref b :: st) w cn sn = (kd w b = 7 ∧ catS st ≤ 8 ∧ wpD d 68 [.ref b, v0] w (fun v w' => wp d 67 Q 118 L (v.toList ++ st) w' cn sn)) := w_virtual (As := [v0]) d_67_115 (by decide +kernel : cT (mO 67) 83 = some (0, 68)) rfl (by decide +kernel) rfl (by decide +kernel) rfl
theorem d_67_118 : decode (mB 67) 118 = .ok (.goto 86, 3) := by decide +kernel
theorem s_67_118 {d : Nat} {Q : wQ} {L : List (Option Value)} {st : List Value} {w : aw} {cn sn : Nat}  : wp d 67 Q 118 L st w cn sn = wp d 67 Q 204 L st w cn sn := w_goto d_67_118 (by decide)
theorem d_67_121 : decode (mB 67) 121 = .ok (.aload_n 0, 1) := by decide +kernel
theorem s_67_121 {d : Nat} {Q : wQ} {L : List (Option Value)} {st : List Value} {w : aw} {cn sn : Nat} {v : Nat} : wp d 67 Q 121 (some (.ref v) :: L) st w cn sn = wp d 67 Q 122 (some (.ref v) :: L) (.ref v :: st) w cn sn := w_aload_n d_67_121 rfl
theorem d_67_122 : decode (mB 67) 122 = .ok (.getfield 28, 3) := by decide +kernel
theorem s_67_122 {d : Nat} {Q : wQ} {L : List (Option Value)} {st : List Value} {w : aw} {cn sn : Nat} {a : Nat} : wp d 67 Q 122 L (.ref a :: st) w cn sn = (kd w a = 7 ∧ wp d 67 Q 125 L (fd w 389 a :: st) w cn sn) := w_getfield d_67_122 (by decide +kernel : fT (mO 67) 28 = some (6, 5))
theorem d_67_125 : decode (mB 67) 125 = .ok (.getfield 80, 3) := by decide +kernel
theorem s_67_125 {d : Nat} {Q : wQ} {L : List (Option Value)} {st : List Value} {w : aw} {cn sn : Nat} {a : Nat} : wp d 67 Q 125 L (.ref a :: st) w cn sn = (kd w a = 3 ∧ wp d 67 Q 128 L (fd w 130 a :: st) w cn sn) := w_getfield d_67_125 (by decide +kernel : fT (mO 67) 80 = some (2, 2))
theorem d_67_128 : decode (mB 67) 128 = .ok (.bipush 16, 2) := by decide +kernel
theorem s_67_128 {d : Nat} {Q : wQ} {L : List (Option Value)} {st : List Value} {w : aw} {cn sn : Nat}  : wp d 67 Q 128 L st w cn sn = wp d 67 Q 130 L (.int 16 :: st) w cn sn := w_bipush d_67_128 (by decide)
theorem d_67_130 : decode (mB 67) 130 = .ok (.if_icmp .ge 74, 3) := by decide +kernel
theorem s_67_130 {d : Nat} {Q : wQ} {L : List (Option Value)} {st : List Value} {w : aw} {cn sn : Nat} {a b : Int32} : wp d 67 Q 130 L (.int b :: .int a :: st) w cn sn = ((b ≤ a → wp d 67 Q 204 L st w cn sn) ∧ (¬ b ≤ a → wp d 67 Q 133 L st w cn sn)) := w_icge d_67_130 (by decide)
theorem d_67_133 : decode (mB 67) 133 = .ok (.aload_n 0, 1) := by decide +kernel
theorem s_67_133 {d : Nat} {Q : wQ} {L : List (Option Value)} {st : List Value} {w : aw} {cn sn : Nat} {v : Nat} : wp d 67 Q 133 (some (.ref v) :: L) st w cn sn = wp d 67 Q 134 (some (.ref v) :: L) (.ref v :: st) w cn sn := w_aload_n d_67_133 rfl
theorem d_67_134 : decode (mB 67) 134 = .ok (.invokevirtual 41, 3) := by decide +kernel
theorem s_67_134 {d : Nat} {Q : wQ} {L : List (Option Value)} {st : List Value} {w : aw} {cn sn : Nat} {b : Nat} : wp d 67 Q 134 L (.ref b :: st) w cn sn = (kd w b = 7 ∧ catS st ≤ 8 ∧ wpD d 60 [.ref b] w (fun v w' => wp d 67 Q 137 L (v.toList ++ st) w' cn sn)) := w_virtual (As := []) d_67_134 (by decide +kernel : cT (mO 67) 41 = some (0, 60)) rfl (by decide +kernel) rfl (by decide +kernel) rfl
theorem d_67_137 : decode (mB 67) 137 = .ok (.goto 67, 3) := by decide +kernel
theorem s_67_137 {d : Nat} {Q : wQ} {L : List (Option Value)} {st : List Value} {w : aw} {cn sn : Nat}  : wp d 67 Q 137 L st w cn sn = wp d 67 Q 204 L st w cn sn := w_goto d_67_137 (by decide)
theorem d_67_140 : decode (mB 67) 140 = .ok (.aload_n 0, 1) := by decide +kernel
theorem s_67_140 {d : Nat} {Q : wQ} {L : List (Option Value)} {st : List Value} {w : aw} {cn sn : Nat} {v : Nat} : wp d 67 Q 140 (some (.ref v) :: L) st w cn sn = wp d 67 Q 141 (some (.ref v) :: L) (.ref v :: st) w cn sn := w_aload_n d_67_140 rfl
theorem d_67_141 : decode (mB 67) 141 = .ok (.getfield 28, 3) := by decide +kernel
theorem s_67_141 {d : Nat} {Q : wQ} {L : List (Option Value)} {st : List Value} {w : aw} {cn sn : Nat} {a : Nat} : wp d 67 Q 141 L (.ref a :: st) w cn sn = (kd w a = 7 ∧ wp d 67 Q 144 L (fd w 389 a :: st) w cn sn) := w_getfield d_67_141 (by decide +kernel : fT (mO 67) 28 = some (6, 5))
theorem d_67_144 : decode (mB 67) 144 = .ok (.aload_n 0, 1) := by decide +kernel
theorem s_67_144 {d : Nat} {Q : wQ} {L : List (Option Value)} {st : List Value} {w : aw} {cn sn : Nat} {v : Nat} : wp d 67 Q 144 (some (.ref v) :: L) st w cn sn = wp d 67 Q 145 (some (.ref v) :: L) (.ref v :: st) w cn sn := w_aload_n d_67_144 rfl
theorem d_67_145 : decode (mB 67) 145 = .ok (.getfield 58, 3) := by decide +kernel
theorem s_67_145 {d : Nat} {Q : wQ} {L : List (Option Value)} {st : List Value} {w : aw} {cn sn : Nat} {a : Nat} : wp d 67 Q 145 L (.ref a :: st) w cn sn = (kd w a = 7 ∧ wp d 67 Q 148 L (fd w 391 a :: st) w cn sn) := w_getfield d_67_145 (by decide +kernel : fT (mO 67) 58 = some (6, 7))
theorem d_67_148 : decode (mB 67) 148 = .ok (.sipush 255, 3) := by decide +kernel
theorem s_67_148 {d : Nat} {Q : wQ} {L : List (Option Value)} {st : List Value} {w : aw} {cn sn : Nat}  : wp d 67 Q 148 L st w cn sn = wp d 67 Q 151 L (.int 255 :: st) w cn sn := w_sipush d_67_148 (by decide)
theorem d_67_151 : decode (mB 67) 151 = .ok (.iand, 1) := by decide +kernel
theorem s_67_151 {d : Nat} {Q : wQ} {L : List (Option Value)} {st : List Value} {w : aw} {cn sn : Nat} {a b : Int32} : wp d 67 Q 151 L (.int b :: .int a :: st) w cn sn = wp d 67 Q 152 L (.int (a &&& b) :: st) w cn sn := wp_row d_67_151 _ _ _ _ _
theorem d_67_152 : decode (mB 67) 152 = .ok (.invokevirtual 86, 3) := by decide +kernel
theorem s_67_152 {d : Nat} {Q : wQ} {L : List (Option Value)} {st : List Value} {w : aw} {cn sn : Nat} {v0 : Value} {b : Nat} : wp d 67 Q 152 L (v0 :: .ref b :: st) w cn sn = (kd w b = 3 ∧ catS st ≤ 8 ∧ wpD d 25 [.ref b, v0] w (fun v w' => wp d 67 Q 155 L (v.toList ++ st) w' cn sn)) := w_virtual (As := [v0]) d_67_152 (by decide +kernel : cT (mO 67) 86 = some (0, 25)) rfl (by decide +kernel) rfl (by decide +kernel) rfl
theorem d_67_155 : decode (mB 67) 155 = .ok (.ifCond .ne 49, 3) := by decide +kernel
theorem s_67_155 {d : Nat} {Q : wQ} {L : List (Option Value)} {st : List Value} {w : aw} {cn sn : Nat} {x : Int32} : wp d 67 Q 155 L (.int x :: st) w cn sn = ((¬ x = 0 → wp d 67 Q 204 L st w cn sn) ∧ (x = 0 → wp d 67 Q 158 L st w cn sn)) := w_ifne d_67_155 (by decide)
theorem d_67_158 : decode (mB 67) 158 = .ok (.aload_n 0, 1) := by decide +kernel
theorem s_67_158 {d : Nat} {Q : wQ} {L : List (Option Value)} {st : List Value} {w : aw} {cn sn : Nat} {v : Nat} : wp d 67 Q 158 (some (.ref v) :: L) st w cn sn = wp d 67 Q 159 (some (.ref v) :: L) (.ref v :: st) w cn sn := w_aload_n d_67_158 rfl
theorem d_67_159 : decode (mB 67) 159 = .ok (.iload_n 2, 1) := by decide +kernel
theorem s_67_159 {d : Nat} {Q : wQ} {L : List (Option Value)} {st : List Value} {w : aw} {cn sn : Nat} {a0 a1 : Option Value} {v : Int32} : wp d 67 Q 159 (a0 :: a1 :: some (.int v) :: L) st w cn sn = wp d 67 Q 160 (a0 :: a1 :: some (.int v) :: L) (.int v :: st) w cn sn := w_iload_n d_67_159 rfl
theorem d_67_160 : decode (mB 67) 160 = .ok (.iconst 4, 1) := by decide +kernel
theorem s_67_160 {d : Nat} {Q : wQ} {L : List (Option Value)} {st : List Value} {w : aw} {cn sn : Nat}  : wp d 67 Q 160 L st w cn sn = wp d 67 Q 161 L (.int 4 :: st) w cn sn := w_iconst d_67_160 (by decide)
theorem d_67_161 : decode (mB 67) 161 = .ok (.invokevirtual 89, 3) := by decide +kernel
theorem s_67_161 {d : Nat} {Q : wQ} {L : List (Option Value)} {st : List Value} {w : aw} {cn sn : Nat} {v0 v1 : Value} {b : Nat} : wp d 67 Q 161 L (v1 :: v0 :: .ref b :: st) w cn sn = (kd w b = 7 ∧ catS st ≤ 8 ∧ wpD d 69 [.ref b, v0, v1] w (fun v w' => wp d 67 Q 164 L (v.toList ++ st) w' cn sn)) := w_virtual (As := [v0, v1]) d_67_161 (by decide +kernel : cT (mO 67) 89 = some (0, 69)) rfl (by decide +kernel) rfl (by decide +kernel) rfl
theorem d_67_164 : decode (mB 67) 164 = .ok (.goto 40, 3) := by decide +kernel
theorem s_67_164 {d : Nat} {Q : wQ} {L : List (Option Value)} {st : List Value} {w : aw} {cn sn : Nat}  : wp d 67 Q 164 L st w cn sn = wp d 67 Q 204 L st w cn sn := w_goto d_67_164 (by decide)
theorem d_67_167 : decode (mB 67) 167 = .ok (.aload_n 0, 1) := by decide +kernel
theorem s_67_167 {d : Nat} {Q : wQ} {L : List (Option Value)} {st : List Value} {w : aw} {cn sn : Nat} {v : Nat} : wp d 67 Q 167 (some (.ref v) :: L) st w cn sn = wp d 67 Q 168 (some (.ref v) :: L) (.ref v :: st) w cn sn := w_aload_n d_67_167 rfl
theorem d_67_168 : decode (mB 67) 168 = .ok (.invokevirtual 92, 3) := by decide +kernel
theorem s_67_168 {d : Nat} {Q : wQ} {L : List (Option Value)} {st : List Value} {w : aw} {cn sn : Nat} {b : Nat} : wp d 67 Q 168 L (.ref b :: st) w cn sn = (kd w b = 7 ∧ catS st ≤ 8 ∧ wpD d 70 [.ref b] w (fun v w' => wp d 67 Q 171 L (v.toList ++ st) w' cn sn)) := w_virtual (As := []) d_67_168 (by decide +kernel : cT (mO 67) 92 = some (0, 70)) rfl (by decide +kernel) rfl (by decide +kernel) rfl
theorem d_67_171 : decode (mB 67) 171 = .ok (.goto 33, 3) := by decide +kernel
theorem s_67_171 {d : Nat} {Q : wQ} {L : List (Option Value)} {st : List Value} {w : aw} {cn sn : Nat}  : wp d 67 Q 171 L st w cn sn = wp d 67 Q 204 L st w cn sn := w_goto d_67_171 (by decide)
theorem d_67_174 : decode (mB 67) 174 = .ok (.aload_n 0, 1) := by decide +kernel
theorem s_67_174 {d : Nat} {Q : wQ} {L : List (Option Value)} {st : List Value} {w : aw} {cn sn : Nat} {v : Nat} : wp d 67 Q 174 (some (.ref v) :: L) st w cn sn = wp d 67 Q 175 (some (.ref v) :: L) (.ref v :: st) w cn sn := w_aload_n d_67_174 rfl
theorem d_67_175 : decode (mB 67) 175 = .ok (.iload_n 1, 1) := by decide +kernel
theorem s_67_175 {d : Nat} {Q : wQ} {L : List (Option Value)} {st : List Value} {w : aw} {cn sn : Nat} {a0 : Option Value} {v : Int32} : wp d 67 Q 175 (a0 :: some (.int v) :: L) st w cn sn = wp d 67 Q 176 (a0 :: some (.int v) :: L) (.int v :: st) w cn sn := w_iload_n d_67_175 rfl
theorem d_67_176 : decode (mB 67) 176 = .ok (.sipush 3114, 3) := by decide +kernel
theorem s_67_176 {d : Nat} {Q : wQ} {L : List (Option Value)} {st : List Value} {w : aw} {cn sn : Nat}  : wp d 67 Q 176 L st w cn sn = wp d 67 Q 179 L (.int 3114 :: st) w cn sn := w_sipush d_67_176 (by decide)
theorem d_67_179 : decode (mB 67) 179 = .ok (.if_icmp .ne 7, 3) := by decide +kernel
theorem s_67_179 {d : Nat} {Q : wQ} {L : List (Option Value)} {st : List Value} {w : aw} {cn sn : Nat} {a b : Int32} : wp d 67 Q 179 L (.int b :: .int a :: st) w cn sn = ((¬ a = b → wp d 67 Q 186 L st w cn sn) ∧ (a = b → wp d 67 Q 182 L st w cn sn)) := w_icne d_67_179 (by decide)
theorem d_67_182 : decode (mB 67) 182 = .ok (.iconst 1, 1) := by decide +kernel
theorem s_67_182 {d : Nat} {Q : wQ} {L : List (Option Value)} {st : List Value} {w : aw} {cn sn : Nat}  : wp d 67 Q 182 L st w cn sn = wp d 67 Q 183 L (.int 1 :: st) w cn sn := w_iconst d_67_182 (by decide)
theorem d_67_183 : decode (mB 67) 183 = .ok (.goto 4, 3) := by decide +kernel
theorem s_67_183 {d : Nat} {Q : wQ} {L : List (Option Value)} {st : List Value} {w : aw} {cn sn : Nat}  : wp d 67 Q 183 L st w cn sn = wp d 67 Q 187 L st w cn sn := w_goto d_67_183 (by decide)
theorem d_67_186 : decode (mB 67) 186 = .ok (.iconst 0, 1) := by decide +kernel
theorem s_67_186 {d : Nat} {Q : wQ} {L : List (Option Value)} {st : List Value} {w : aw} {cn sn : Nat}  : wp d 67 Q 186 L st w cn sn = wp d 67 Q 187 L (.int 0 :: st) w cn sn := w_iconst d_67_186 (by decide)
theorem d_67_187 : decode (mB 67) 187 = .ok (.invokevirtual 95, 3) := by decide +kernel
theorem s_67_187 {d : Nat} {Q : wQ} {L : List (Option Value)} {st : List Value} {w : aw} {cn sn : Nat} {v0 : Value} {b : Nat} : wp d 67 Q 187 L (v0 :: .ref b :: st) w cn sn = (kd w b = 7 ∧ catS st ≤ 8 ∧ wpD d 71 [.ref b, v0] w (fun v w' => wp d 67 Q 190 L (v.toList ++ st) w' cn sn)) := w_virtual (As := [v0]) d_67_187 (by decide +kernel : cT (mO 67) 95 = some (0, 71)) rfl (by decide +kernel) rfl (by decide +kernel) rfl
theorem d_67_190 : decode (mB 67) 190 = .ok (.goto 14, 3) := by decide +kernel
theorem s_67_190 {d : Nat} {Q : wQ} {L : List (Option Value)} {st : List Value} {w : aw} {cn sn : Nat}  : wp d 67 Q 190 L st w cn sn = wp d 67 Q 204 L st w cn sn := w_goto d_67_190 (by decide)
theorem d_67_193 : decode (mB 67) 193 = .ok (.aload_n 0, 1) := by decide +kernel
theorem s_67_193 {d : Nat} {Q : wQ} {L : List (Option Value)} {st : List Value} {w : aw} {cn sn : Nat} {v : Nat} : wp d 67 Q 193 (some (.ref v) :: L) st w cn sn = wp d 67 Q 194 (some (.ref v) :: L) (.ref v :: st) w cn sn := w_aload_n d_67_193 rfl
theorem d_67_194 : decode (mB 67) 194 = .ok (.aload_n 0, 1) := by decide +kernel
theorem s_67_194 {d : Nat} {Q : wQ} {L : List (Option Value)} {st : List Value} {w : aw} {cn sn : Nat} {v : Nat} : wp d 67 Q 194 (some (.ref v) :: L) st w cn sn = wp d 67 Q 195 (some (.ref v) :: L) (.ref v :: st) w cn sn := w_aload_n d_67_194 rfl
theorem d_67_195 : decode (mB 67) 195 = .ok (.getfield 31, 3) := by decide +kernel
theorem s_67_195 {d : Nat} {Q : wQ} {L : List (Option Value)} {st : List Value} {w : aw} {cn sn : Nat} {a : Nat} : wp d 67 Q 195 L (.ref a :: st) w cn sn = (kd w a = 7 ∧ wp d 67 Q 198 L (fd w 384 a :: st) w cn sn) := w_getfield d_67_195 (by decide +kernel : fT (mO 67) 31 = some (6, 0))
theorem d_67_198 : decode (mB 67) 198 = .ok (.putfield 58, 3) := by decide +kernel
theorem s_67_198 {d : Nat} {Q : wQ} {L : List (Option Value)} {st : List Value} {w : aw} {cn sn : Nat} {x : Int32} {a : Nat} : wp d 67 Q 198 L (.int x :: .ref a :: st) w cn sn = (kd w a = 7 ∧ wp d 67 Q 201 L st (uF w 391 a (.int x)) cn sn) := w_putfield d_67_198 (by decide +kernel : fT (mO 67) 58 = some (6, 7)) (by decide +kernel) ok_int
theorem d_67_201 : decode (mB 67) 201 = .ok (.goto 3, 3) := by decide +kernel
theorem s_67_201 {d : Nat} {Q : wQ} {L : List (Option Value)} {st : List Value} {w : aw} {cn sn : Nat}  : wp d 67 Q 201 L st w cn sn = wp d 67 Q 204 L st w cn sn := w_goto d_67_201 (by decide)
theorem d_67_204 : decode (mB 67) 204 = .ok (.return_, 1) := by decide +kernel
theorem s_67_204 {d : Nat} {Q : wQ} {L : List (Option Value)} {w : aw} {cn sn : Nat}  : wp d 67 Q 204 L [] w cn sn = Q none w := w_return d_67_204 rfl
theorem d_68_0 : decode (mB 68) 0 = .ok (.aload_n 0, 1) := by decide +kernel
theorem s_68_0 {d : Nat} {Q : wQ} {L : List (Option Value)} {st : List Value} {w : aw} {cn sn : Nat} {v : Nat} : wp d 68 Q 0 (some (.ref v) :: L) st w cn sn = wp d 68 Q 1 (some (.ref v) :: L) (.ref v :: st) w cn sn := w_aload_n d_68_0 rfl
theorem d_68_1 : decode (mB 68) 1 = .ok (.getfield 24, 3) := by decide +kernel
theorem s_68_1 {d : Nat} {Q : wQ} {L : List (Option Value)} {st : List Value} {w : aw} {cn sn : Nat} {a : Nat} : wp d 68 Q 1 L (.ref a :: st) w cn sn = (kd w a = 7 ∧ wp d 68 Q 4 L (fd w 388 a :: st) w cn sn) := w_getfield d_68_1 (by decide +kernel : fT (mO 68) 24 = some (6, 4))
theorem d_68_4 : decode (mB 68) 4 = .ok (.invokevirtual 99, 3) := by decide +kernel
theorem s_68_4 {d : Nat} {Q : wQ} {L : List (Option Value)} {st : List Value} {w : aw} {cn sn : Nat} {b : Nat} : wp d 68 Q 4 L (.ref b :: st) w cn sn = (kd w b = 3 ∧ catS st ≤ 8 ∧ wpD d 26 [.ref b] w (fun v w' => wp d 68 Q 7 L (v.toList ++ st) w' cn sn)) := w_virtual (As := []) d_68_4 (by decide +kernel : cT (mO 68) 99 = some (0, 26)) rfl (by decide +kernel) rfl (by decide +kernel) rfl
theorem d_68_7 : decode (mB 68) 7 = .ok (.istore_n 2, 1) := by decide +kernel
theorem s_68_7 {d : Nat} {Q : wQ} {L : List (Option Value)} {st : List Value} {w : aw} {cn sn : Nat} {a0 a1 a2 : Option Value} {v : Int32} : wp d 68 Q 7 (a0 :: a1 :: a2 :: L) (.int v :: st) w cn sn = wp d 68 Q 8 (a0 :: clr a1 :: some (.int v) :: L) st w cn sn := w_istore_n d_68_7 (Nat.le_add_left 3 _) rfl
theorem d_68_8 : decode (mB 68) 8 = .ok (.iload_n 2, 1) := by decide +kernel
theorem s_68_8 {d : Nat} {Q : wQ} {L : List (Option Value)} {st : List Value} {w : aw} {cn sn : Nat} {a0 a1 : Option Value} {v : Int32} : wp d 68 Q 8 (a0 :: a1 :: some (.int v) :: L) st w cn sn = wp d 68 Q 9 (a0 :: a1 :: some (.int v) :: L) (.int v :: st) w cn sn := w_iload_n d_68_8 rfl
theorem d_68_9 : decode (mB 68) 9 = .ok (.ifCond .ge 12, 3) := by decide +kernel
theorem s_68_9 {d : Nat} {Q : wQ} {L : List (Option Value)} {st : List Value} {w : aw} {cn sn : Nat} {x : Int32} : wp d 68 Q 9 L (.int x :: st) w cn sn = ((0 ≤ x → wp d 68 Q 21 L st w cn sn) ∧ (¬ 0 ≤ x → wp d 68 Q 12 L st w cn sn)) := w_ifge d_68_9 (by decide)
theorem d_68_12 : decode (mB 68) 12 = .ok (.aload_n 0, 1) := by decide +kernel
theorem s_68_12 {d : Nat} {Q : wQ} {L : List (Option Value)} {st : List Value} {w : aw} {cn sn : Nat} {v : Nat} : wp d 68 Q 12 (some (.ref v) :: L) st w cn sn = wp d 68 Q 13 (some (.ref v) :: L) (.ref v :: st) w cn sn := w_aload_n d_68_12 rfl
theorem d_68_13 : decode (mB 68) 13 = .ok (.iload_n 1, 1) := by decide +kernel
theorem s_68_13 {d : Nat} {Q : wQ} {L : List (Option Value)} {st : List Value} {w : aw} {cn sn : Nat} {a0 : Option Value} {v : Int32} : wp d 68 Q 13 (a0 :: some (.int v) :: L) st w cn sn = wp d 68 Q 14 (a0 :: some (.int v) :: L) (.int v :: st) w cn sn := w_iload_n d_68_13 rfl
theorem d_68_14 : decode (mB 68) 14 = .ok (.iconst 3, 1) := by decide +kernel
theorem s_68_14 {d : Nat} {Q : wQ} {L : List (Option Value)} {st : List Value} {w : aw} {cn sn : Nat}  : wp d 68 Q 14 L st w cn sn = wp d 68 Q 15 L (.int 3 :: st) w cn sn := w_iconst d_68_14 (by decide)
theorem d_68_15 : decode (mB 68) 15 = .ok (.invokevirtual 89, 3) := by decide +kernel
theorem s_68_15 {d : Nat} {Q : wQ} {L : List (Option Value)} {st : List Value} {w : aw} {cn sn : Nat} {v0 v1 : Value} {b : Nat} : wp d 68 Q 15 L (v1 :: v0 :: .ref b :: st) w cn sn = (kd w b = 7 ∧ catS st ≤ 8 ∧ wpD d 69 [.ref b, v0, v1] w (fun v w' => wp d 68 Q 18 L (v.toList ++ st) w' cn sn)) := w_virtual (As := [v0, v1]) d_68_15 (by decide +kernel : cT (mO 68) 89 = some (0, 69)) rfl (by decide +kernel) rfl (by decide +kernel) rfl
theorem d_68_18 : decode (mB 68) 18 = .ok (.goto 8, 3) := by decide +kernel
theorem s_68_18 {d : Nat} {Q : wQ} {L : List (Option Value)} {st : List Value} {w : aw} {cn sn : Nat}  : wp d 68 Q 18 L st w cn sn = wp d 68 Q 26 L st w cn sn := w_goto d_68_18 (by decide)
theorem d_68_21 : decode (mB 68) 21 = .ok (.aload_n 0, 1) := by decide +kernel
theorem s_68_21 {d : Nat} {Q : wQ} {L : List (Option Value)} {st : List Value} {w : aw} {cn sn : Nat} {v : Nat} : wp d 68 Q 21 (some (.ref v) :: L) st w cn sn = wp d 68 Q 22 (some (.ref v) :: L) (.ref v :: st) w cn sn := w_aload_n d_68_21 rfl
theorem d_68_22 : decode (mB 68) 22 = .ok (.iload_n 2, 1) := by decide +kernel
theorem s_68_22 {d : Nat} {Q : wQ} {L : List (Option Value)} {st : List Value} {w : aw} {cn sn : Nat} {a0 a1 : Option Value} {v : Int32} : wp d 68 Q 22 (a0 :: a1 :: some (.int v) :: L) st w cn sn = wp d 68 Q 23 (a0 :: a1 :: some (.int v) :: L) (.int v :: st) w cn sn := w_iload_n d_68_22 rfl
theorem d_68_23 : decode (mB 68) 23 = .ok (.putfield 58, 3) := by decide +kernel
theorem s_68_23 {d : Nat} {Q : wQ} {L : List (Option Value)} {st : List Value} {w : aw} {cn sn : Nat} {x : Int32} {a : Nat} : wp d 68 Q 23 L (.int x :: .ref a :: st) w cn sn = (kd w a = 7 ∧ wp d 68 Q 26 L st (uF w 391 a (.int x)) cn sn) := w_putfield d_68_23 (by decide +kernel : fT (mO 68) 58 = some (6, 7)) (by decide +kernel) ok_int
theorem d_68_26 : decode (mB 68) 26 = .ok (.return_, 1) := by decide +kernel
theorem s_68_26 {d : Nat} {Q : wQ} {L : List (Option Value)} {w : aw} {cn sn : Nat}  : wp d 68 Q 26 L [] w cn sn = Q none w := w_return d_68_26 rfl
theorem d_69_0 : decode (mB 69) 0 = .ok (.aload_n 0, 1) := by decide +kernel
theorem s_69_0 {d : Nat} {Q : wQ} {L : List (Option Value)} {st : List Value} {w : aw} {cn sn : Nat} {v : Nat} : wp d 69 Q 0 (some (.ref v) :: L) st w cn sn = wp d 69 Q 1 (some (.ref v) :: L) (.ref v :: st) w cn sn := w_aload_n d_69_0 rfl
theorem d_69_1 : decode (mB 69) 1 = .ok (.iload_n 1, 1) := by decide +kernel
theorem s_69_1 {d : Nat} {Q : wQ} {L : List (Option Value)} {st : List Value} {w : aw} {cn sn : Nat} {a0 : Option Value} {v : Int32} : wp d 69 Q 1 (a0 :: some (.int v) :: L) st w cn sn = wp d 69 Q 2 (a0 :: some (.int v) :: L) (.int v :: st) w cn sn := w_iload_n d_69_1 rfl
theorem d_69_2 : decode (mB 69) 2 = .ok (.putfield 35, 3) := by decide +kernel
theorem s_69_2 {d : Nat} {Q : wQ} {L : List (Option Value)} {st : List Value} {w : aw} {cn sn : Nat} {x : Int32} {a : Nat} : wp d 69 Q 2 L (.int x :: .ref a :: st) w cn sn = (kd w a = 7 ∧ wp d 69 Q 5 L st (uF w 390 a (.int x)) cn sn) := w_putfield d_69_2 (by decide +kernel : fT (mO 69) 35 = some (6, 6)) (by decide +kernel) ok_int
theorem d_69_5 : decode (mB 69) 5 = .ok (.aload_n 0, 1) := by decide +kernel
theorem s_69_5 {d : Nat} {Q : wQ} {L : List (Option Value)} {st : List Value} {w : aw} {cn sn : Nat} {v : Nat} : wp d 69 Q 5 (some (.ref v) :: L) st w cn sn = wp d 69 Q 6 (some (.ref v) :: L) (.ref v :: st) w cn sn := w_aload_n d_69_5 rfl
theorem d_69_6 : decode (mB 69) 6 = .ok (.iload_n 2, 1) := by decide +kernel
theorem s_69_6 {d : Nat} {Q : wQ} {L : List (Option Value)} {st : List Value} {w : aw} {cn sn : Nat} {a0 a1 : Option Value} {v : Int32} : wp d 69 Q 6 (a0 :: a1 :: some (.int v) :: L) st w cn sn = wp d 69 Q 7 (a0 :: a1 :: some (.int v) :: L) (.int v :: st) w cn sn := w_iload_n d_69_6 rfl
theorem d_69_7 : decode (mB 69) 7 = .ok (.putfield 77, 3) := by decide +kernel
theorem s_69_7 {d : Nat} {Q : wQ} {L : List (Option Value)} {st : List Value} {w : aw} {cn sn : Nat} {x : Int32} {a : Nat} : wp d 69 Q 7 L (.int x :: .ref a :: st) w cn sn = (kd w a = 7 ∧ wp d 69 Q 10 L st (uF w 394 a (.int x)) cn sn) := w_putfield d_69_7 (by decide +kernel : fT (mO 69) 77 = some (6, 10)) (by decide +kernel) ok_int
theorem d_69_10 : decode (mB 69) 10 = .ok (.return_, 1) := by decide +kernel
theorem s_69_10 {d : Nat} {Q : wQ} {L : List (Option Value)} {w : aw} {cn sn : Nat}  : wp d 69 Q 10 L [] w cn sn = Q none w := w_return d_69_10 rfl
theorem d_70_0 : decode (mB 70) 0 = .ok (.aload_n 0, 1) := by decide +kernel
theorem s_70_0 {d : Nat} {Q : wQ} {L : List (Option Value)} {st : List Value} {w : aw} {cn sn : Nat} {v : Nat} : wp d 70 Q 0 (some (.ref v) :: L) st w cn sn = wp d 70 Q 1 (some (.ref v) :: L) (.ref v :: st) w cn sn := w_aload_n d_70_0 rfl
theorem d_70_1 : decode (mB 70) 1 = .ok (.getfield 58, 3) := by decide +kernel
theorem s_70_1 {d : Nat} {Q : wQ} {L : List (Option Value)} {st : List Value} {w : aw} {cn sn : Nat} {a : Nat} : wp d 70 Q 1 L (.ref a :: st) w cn sn = (kd w a = 7 ∧ wp d 70 Q 4 L (fd w 391 a :: st) w cn sn) := w_getfield d_70_1 (by decide +kernel : fT (mO 70) 58 = some (6, 7))
theorem d_70_4 : decode (mB 70) 4 = .ok (.ifCond .eq 21, 3) := by decide +kernel
theorem s_70_4 {d : Nat} {Q : wQ} {L : List (Option Value)} {st : List Value} {w : aw} {cn sn : Nat} {x : Int32} : wp d 70 Q 4 L (.int x :: st) w cn sn = ((x = 0 → wp d 70 Q 25 L st w cn sn) ∧ (¬ x = 0 → wp d 70 Q 7 L st w cn sn)) := w_ifeq d_70_4 (by decide)
theorem d_70_7 : decode (mB 70) 7 = .ok (.aload_n 0, 1) := by decide +kernel
theorem s_70_7 {d : Nat} {Q : wQ} {L : List (Option Value)} {st : List Value} {w : aw} {cn sn : Nat} {v : Nat} : wp d 70 Q 7 (some (.ref v) :: L) st w cn sn = wp d 70 Q 8 (some (.ref v) :: L) (.ref v :: st) w cn sn := w_aload_n d_70_7 rfl
theorem d_70_8 : decode (mB 70) 8 = .ok (.iconst 5, 1) := by decide +kernel
theorem s_70_8 {d : Nat} {Q : wQ} {L : List (Option Value)} {st : List Value} {w : aw} {cn sn : Nat}  : wp d 70 Q 8 L st w cn sn = wp d 70 Q 9 L (.int 5 :: st) w cn sn := w_iconst d_70_8 (by decide)
theorem d_70_9 : decode (mB 70) 9 = .ok (.putfield 77, 3) := by decide +kernel
theorem s_70_9 {d : Nat} {Q : wQ} {L : List (Option Value)} {st : List Value} {w : aw} {cn sn : Nat} {x : Int32} {a : Nat} : wp d 70 Q 9 L (.int x :: .ref a :: st) w cn sn = (kd w a = 7 ∧ wp d 70 Q 12 L st (uF w 394 a (.int x)) cn sn) := w_putfield d_70_9 (by decide +kernel : fT (mO 70) 77 = some (6, 10)) (by decide +kernel) ok_int
theorem d_70_12 : decode (mB 70) 12 = .ok (.aload_n 0, 1) := by decide +kernel
theorem s_70_12 {d : Nat} {Q : wQ} {L : List (Option Value)} {st : List Value} {w : aw} {cn sn : Nat} {v : Nat} : wp d 70 Q 12 (some (.ref v) :: L) st w cn sn = wp d 70 Q 13 (some (.ref v) :: L) (.ref v :: st) w cn sn := w_aload_n d_70_12 rfl
theorem d_70_13 : decode (mB 70) 13 = .ok (.aload_n 0, 1) := by decide +kernel
theorem s_70_13 {d : Nat} {Q : wQ} {L : List (Option Value)} {st : List Value} {w : aw} {cn sn : Nat} {v : Nat} : wp d 70 Q 13 (some (.ref v) :: L) st w cn sn = wp d 70 Q 14 (some (.ref v) :: L) (.ref v :: st) w cn sn := w_aload_n d_70_13 rfl
theorem d_70_14 : decode (mB 70) 14 = .ok (.getfield 58, 3) := by decide +kernel
theorem s_70_14 {d : Nat} {Q : wQ} {L : List (Option Value)} {st : List Value} {w : aw} {cn sn : Nat} {a : Nat} : wp d 70 Q 14 L (.ref a :: st) w cn sn = (kd w a = 7 ∧ wp d 70 Q 17 L (fd w 391 a :: st) w cn sn) := w_getfield d_70_14 (by decide +kernel : fT (mO 70) 58 = some (6, 7))
theorem d_70_17 : decode (mB 70) 17 = .ok (.putfield 103, 3) := by decide +kernel
theorem s_70_17 {d : Nat} {Q : wQ} {L : List (Option Value)} {st : List Value} {w : aw} {cn sn : Nat} {x : Int32} {a : Nat} : wp d 70 Q 17 L (.int x :: .ref a :: st) w cn sn = (kd w a = 7 ∧ wp d 70 Q 20 L st (uF w 395 a (.int x)) cn sn) := w_putfield d_70_17 (by decide +kernel : fT (mO 70) 103 = some (6, 11)) (by decide +kernel) ok_int
theorem d_70_20 : decode (mB 70) 20 = .ok (.aload_n 0, 1) := by decide +kernel
theorem s_70_20 {d : Nat} {Q : wQ} {L : List (Option Value)} {st : List Value} {w : aw} {cn sn : Nat} {v : Nat} : wp d 70 Q 20 (some (.ref v) :: L) st w cn sn = wp d 70 Q 21 (some (.ref v) :: L) (.ref v :: st) w cn sn := w_aload_n d_70_20 rfl
theorem d_70_21 : decode (mB 70) 21 = .ok (.iconst 0, 1) := by decide +kernel
theorem s_70_21 {d : Nat} {Q : wQ} {L : List (Option Value)} {st : List Value} {w : aw} {cn sn : Nat}  : wp d 70 Q 21 L st w cn sn = wp d 70 Q 22 L (.int 0 :: st) w cn sn := w_iconst d_70_21 (by decide)
theorem d_70_22 : decode (mB 70) 22 = .ok (.putfield 58, 3) := by decide +kernel
theorem s_70_22 {d : Nat} {Q : wQ} {L : List (Option Value)} {st : List Value} {w : aw} {cn sn : Nat} {x : Int32} {a : Nat} : wp d 70 Q 22 L (.int x :: .ref a :: st) w cn sn = (kd w a = 7 ∧ wp d 70 Q 25 L st (uF w 391 a (.int x)) cn sn) := w_putfield d_70_22 (by decide +kernel : fT (mO 70) 58 = some (6, 7)) (by decide +kernel) ok_int
theorem d_70_25 : decode (mB 70) 25 = .ok (.return_, 1) := by decide +kernel
theorem s_70_25 {d : Nat} {Q : wQ} {L : List (Option Value)} {w : aw} {cn sn : Nat}  : wp d 70 Q 25 L [] w cn sn = Q none w := w_return d_70_25 rfl
theorem d_71_0 : decode (mB 71) 0 = .ok (.aload_n 0, 1) := by decide +kernel
theorem s_71_0 {d : Nat} {Q : wQ} {L : List (Option Value)} {st : List Value} {w : aw} {cn sn : Nat} {v : Nat} : wp d 71 Q 0 (some (.ref v) :: L) st w cn sn = wp d 71 Q 1 (some (.ref v) :: L) (.ref v :: st) w cn sn := w_aload_n d_71_0 rfl
theorem d_71_1 : decode (mB 71) 1 = .ok (.getfield 9, 3) := by decide +kernel
theorem s_71_1 {d : Nat} {Q : wQ} {L : List (Option Value)} {st : List Value} {w : aw} {cn sn : Nat} {a : Nat} : wp d 71 Q 1 L (.ref a :: st) w cn sn = (kd w a = 7 ∧ wp d 71 Q 4 L (fd w 385 a :: st) w cn sn) := w_getfield d_71_1 (by decide +kernel : fT (mO 71) 9 = some (6, 1))
theorem d_71_4 : decode (mB 71) 4 = .ok (.aload_n 0, 1) := by decide +kernel
theorem s_71_4 {d : Nat} {Q : wQ} {L : List (Option Value)} {st : List Value} {w : aw} {cn sn : Nat} {v : Nat} : wp d 71 Q 4 (some (.ref v) :: L) st w cn sn = wp d 71 Q 5 (some (.ref v) :: L) (.ref v :: st) w cn sn := w_aload_n d_71_4 rfl
theorem d_71_5 : decode (mB 71) 5 = .ok (.getfield 35, 3) := by decide +kernel
theorem s_71_5 {d : Nat} {Q : wQ} {L : List (Option Value)} {st : List Value} {w : aw} {cn sn : Nat} {a : Nat} : wp d 71 Q 5 L (.ref a :: st) w cn sn = (kd w a = 7 ∧ wp d 71 Q 8 L (fd w 390 a :: st) w cn sn) := w_getfield d_71_5 (by decide +kernel : fT (mO 71) 35 = some (6, 6))
theorem d_71_8 : decode (mB 71) 8 = .ok (.sipush 4095, 3) := by decide +kernel
theorem s_71_8 {d : Nat} {Q : wQ} {L : List (Option Value)} {st : List Value} {w : aw} {cn sn : Nat}  : wp d 71 Q 8 L st w cn sn = wp d 71 Q 11 L (.int 4095 :: st) w cn sn := w_sipush d_71_8 (by decide)
theorem d_71_11 : decode (mB 71) 11 = .ok (.iand, 1) := by decide +kernel
theorem s_71_11 {d : Nat} {Q : wQ} {L : List (Option Value)} {st : List Value} {w : aw} {cn sn : Nat} {a b : Int32} : wp d 71 Q 11 L (.int b :: .int a :: st) w cn sn = wp d 71 Q 12 L (.int (a &&& b) :: st) w cn sn := wp_row d_71_11 _ _ _ _ _
theorem d_71_12 : decode (mB 71) 12 = .ok (.iaload, 1) := by decide +kernel
theorem s_71_12 {d : Nat} {Q : wQ} {L : List (Option Value)} {st : List Value} {w : aw} {cn sn : Nat} {a : Nat} {i : Int32} : wp d 71 Q 12 L (.int i :: .ref a :: st) w cn sn = ((kd w a = 20 ∨ kd w a = 30) ∧ inR i (ln w a) ∧ wp d 71 Q 13 L (.int (ai w a i.toNatClampNeg) :: st) w cn sn) := wp_row d_71_12 _ _ _ _ _
theorem d_71_13 : decode (mB 71) 13 = .ok (.istore_n 2, 1) := by decide +kernel
theorem s_71_13 {d : Nat} {Q : wQ} {L : List (Option Value)} {st : List Value} {w : aw} {cn sn : Nat} {a0 a1 a2 : Option Value} {v : Int32} : wp d 71 Q 13 (a0 :: a1 :: a2 :: L) (.int v :: st) w cn sn = wp d 71 Q 14 (a0 :: clr a1 :: some (.int v) :: L) st w cn sn := w_istore_n d_71_13 (Nat.le_add_left 3 _) rfl
theorem d_71_14 : decode (mB 71) 14 = .ok (.aload_n 0, 1) := by decide +kernel
theorem s_71_14 {d : Nat} {Q : wQ} {L : List (Option Value)} {st : List Value} {w : aw} {cn sn : Nat} {v : Nat} : wp d 71 Q 14 (some (.ref v) :: L) st w cn sn = wp d 71 Q 15 (some (.ref v) :: L) (.ref v :: st) w cn sn := w_aload_n d_71_14 rfl
theorem d_71_15 : decode (mB 71) 15 = .ok (.invokevirtual 41, 3) := by decide +kernel
theorem s_71_15 {d : Nat} {Q : wQ} {L : List (Option Value)} {st : List Value} {w : aw} {cn sn : Nat} {b : Nat} : wp d 71 Q 15 L (.ref b :: st) w cn sn = (kd w b = 7 ∧ catS st ≤ 8 ∧ wpD d 60 [.ref b] w (fun v w' => wp d 71 Q 18 L (v.toList ++ st) w' cn sn)) := w_virtual (As := []) d_71_15 (by decide +kernel : cT (mO 71) 41 = some (0, 60)) rfl (by decide +kernel) rfl (by decide +kernel) rfl
theorem d_71_18 : decode (mB 71) 18 = .ok (.aload_n 0, 1) := by decide +kernel
theorem s_71_18 {d : Nat} {Q : wQ} {L : List (Option Value)} {st : List Value} {w : aw} {cn sn : Nat} {v : Nat} : wp d 71 Q 18 (some (.ref v) :: L) st w cn sn = wp d 71 Q 19 (some (.ref v) :: L) (.ref v :: st) w cn sn := w_aload_n d_71_18 rfl
theorem d_71_19 : decode (mB 71) 19 = .ok (.getfield 58, 3) := by decide +kernel
theorem s_71_19 {d : Nat} {Q : wQ} {L : List (Option Value)} {st : List Value} {w : aw} {cn sn : Nat} {a : Nat} : wp d 71 Q 19 L (.ref a :: st) w cn sn = (kd w a = 7 ∧ wp d 71 Q 22 L (fd w 391 a :: st) w cn sn) := w_getfield d_71_19 (by decide +kernel : fT (mO 71) 58 = some (6, 7))
theorem d_71_22 : decode (mB 71) 22 = .ok (.bipush 32, 2) := by decide +kernel
theorem s_71_22 {d : Nat} {Q : wQ} {L : List (Option Value)} {st : List Value} {w : aw} {cn sn : Nat}  : wp d 71 Q 22 L st w cn sn = wp d 71 Q 24 L (.int 32 :: st) w cn sn := w_bipush d_71_22 (by decide)
theorem d_71_24 : decode (mB 71) 24 = .ok (.if_icmp .lt 11, 3) := by decide +kernel
theorem s_71_24 {d : Nat} {Q : wQ} {L : List (Option Value)} {st : List Value} {w : aw} {cn sn : Nat} {a b : Int32} : wp d 71 Q 24 L (.int b :: .int a :: st) w cn sn = ((a < b → wp d 71 Q 35 L st w cn sn) ∧ (¬ a < b → wp d 71 Q 27 L st w cn sn)) := w_iclt d_71_24 (by decide)
theorem d_71_27 : decode (mB 71) 27 = .ok (.aload_n 0, 1) := by decide +kernel
theorem s_71_27 {d : Nat} {Q : wQ} {L : List (Option Value)} {st : List Value} {w : aw} {cn sn : Nat} {v : Nat} : wp d 71 Q 27 (some (.ref v) :: L) st w cn sn = wp d 71 Q 28 (some (.ref v) :: L) (.ref v :: st) w cn sn := w_aload_n d_71_27 rfl
theorem d_71_28 : decode (mB 71) 28 = .ok (.sipush 4095, 3) := by decide +kernel
theorem s_71_28 {d : Nat} {Q : wQ} {L : List (Option Value)} {st : List Value} {w : aw} {cn sn : Nat}  : wp d 71 Q 28 L st w cn sn = wp d 71 Q 31 L (.int 4095 :: st) w cn sn := w_sipush d_71_28 (by decide)
theorem d_71_31 : decode (mB 71) 31 = .ok (.putfield 58, 3) := by decide +kernel
theorem s_71_31 {d : Nat} {Q : wQ} {L : List (Option Value)} {st : List Value} {w : aw} {cn sn : Nat} {x : Int32} {a : Nat} : wp d 71 Q 31 L (.int x :: .ref a :: st) w cn sn = (kd w a = 7 ∧ wp d 71 Q 34 L st (uF w 391 a (.int x)) cn sn) := w_putfield d_71_31 (by decide +kernel : fT (mO 71) 58 = some (6, 7)) (by decide +kernel) ok_int
theorem d_71_34 : decode (mB 71) 34 = .ok (.return_, 1) := by decide +kernel
theorem s_71_34 {d : Nat} {Q : wQ} {L : List (Option Value)} {w : aw} {cn sn : Nat}  : wp d 71 Q 34 L [] w cn sn = Q none w := w_return d_71_34 rfl
theorem d_71_35 : decode (mB 71) 35 = .ok (.aload_n 0, 1) := by decide +kernel
theorem s_71_35 {d : Nat} {Q : wQ} {L : List (Option Value)} {st : List Value} {w : aw} {cn sn : Nat} {v : Nat} : wp d 71 Q 35 (some (.ref v) :: L) st w cn sn = wp d 71 Q 36 (some (.ref v) :: L) (.ref v :: st) w cn sn := w_aload_n d_71_35 rfl
theorem d_71_36 : decode (mB 71) 36 = .ok (.getfield 58, 3) := by decide +kernel
theorem s_71_36 {d : Nat} {Q : wQ} {L : List (Option Value)} {st : List Value} {w : aw} {cn sn : Nat} {a : Nat} : wp d 71 Q 36 L (.ref a :: st) w cn sn = (kd w a = 7 ∧ wp d 71 Q 39 L (fd w 391 a :: st) w cn sn) := w_getfield d_71_36 (by decide +kernel : fT (mO 71) 58 = some (6, 7))
theorem d_71_39 : decode (mB 71) 39 = .ok (.sipush 128, 3) := by decide +kernel
theorem s_71_39 {d : Nat} {Q : wQ} {L : List (Option Value)} {st : List Value} {w : aw} {cn sn : Nat}  : wp d 71 Q 39 L st w cn sn = wp d 71 Q 42 L (.int 128 :: st) w cn sn := w_sipush d_71_39 (by decide)
theorem d_71_42 : decode (mB 71) 42 = .ok (.imul, 1) := by decide +kernel
theorem s_71_42 {d : Nat} {Q : wQ} {L : List (Option Value)} {st : List Value} {w : aw} {cn sn : Nat} {a b : Int32} : wp d 71 Q 42 L (.int b :: .int a :: st) w cn sn = wp d 71 Q 43 L (.int (a * b) :: st) w cn sn := wp_row d_71_42 _ _ _ _ _
theorem d_71_43 : decode (mB 71) 43 = .ok (.istore_n 3, 1) := by decide +kernel
theorem s_71_43 {d : Nat} {Q : wQ} {L : List (Option Value)} {st : List Value} {w : aw} {cn sn : Nat} {a0 a1 a2 a3 : Option Value} {v : Int32} : wp d 71 Q 43 (a0 :: a1 :: a2 :: a3 :: L) (.int v :: st) w cn sn = wp d 71 Q 44 (a0 :: a1 :: clr a2 :: some (.int v) :: L) st w cn sn := w_istore_n d_71_43 (Nat.le_add_left 4 _) rfl
theorem d_71_44 : decode (mB 71) 44 = .ok (.iconst 0, 1) := by decide +kernel
theorem s_71_44 {d : Nat} {Q : wQ} {L : List (Option Value)} {st : List Value} {w : aw} {cn sn : Nat}  : wp d 71 Q 44 L st w cn sn = wp d 71 Q 45 L (.int 0 :: st) w cn sn := w_iconst d_71_44 (by decide)
theorem d_71_45 : decode (mB 71) 45 = .ok (.istore 4, 2) := by decide +kernel
theorem s_71_45 {d : Nat} {Q : wQ} {L : List (Option Value)} {st : List Value} {w : aw} {cn sn : Nat} {a0 a1 a2 a3 a4 : Option Value} {v : Int32} : wp d 71 Q 45 (a0 :: a1 :: a2 :: a3 :: a4 :: L) (.int v :: st) w cn sn = wp d 71 Q 47 (a0 :: a1 :: a2 :: clr a3 :: some (.int v) :: L) st w cn sn := w_istore d_71_45 (Nat.le_add_left 5 _) rfl
theorem d_71_47 : decode (mB 71) 47 = .ok (.iload 4, 2) := by decide +kernel
theorem s_71_47 {d : Nat} {Q : wQ} {L : List (Option Value)} {st : List Value} {w : aw} {cn sn : Nat} {a0 a1 a2 a3 : Option Value} {v : Int32} : wp d 71 Q 47 (a0 :: a1 :: a2 :: a3 :: some (.int v) :: L) st w cn sn = wp d 71 Q 49 (a0 :: a1 :: a2 :: a3 :: some (.int v) :: L) (.int v :: st) w cn sn := w_iload d_71_47 rfl
theorem d_71_49 : decode (mB 71) 49 = .ok (.sipush 128, 3) := by decide +kernel
theorem s_71_49 {d : Nat} {Q : wQ} {L : List (Option Value)} {st : List Value} {w : aw} {cn sn : Nat}  : wp d 71 Q 49 L st w cn sn = wp d 71 Q 52 L (.int 128 :: st) w cn sn := w_sipush d_71_49 (by decide)
theorem d_71_52 : decode (mB 71) 52 = .ok (.if_icmp .ge 58, 3) := by decide +kernel
theorem s_71_52 {d : Nat} {Q : wQ} {L : List (Option Value)} {st : List Value} {w : aw} {cn sn : Nat} {a b : Int32} : wp d 71 Q 52 L (.int b :: .int a :: st) w cn sn = ((b ≤ a → wp d 71 Q 110 L st w cn sn) ∧ (¬ b ≤ a → wp d 71 Q 55 L st w cn sn)) := w_icge d_71_52 (by decide)
theorem d_71_55 : decode (mB 71) 55 = .ok (.iload_n 2, 1) := by decide +kernel
theorem s_71_55 {d : Nat} {Q : wQ} {L : List (Option Value)} {st : List Value} {w : aw} {cn sn : Nat} {a0 a1 : Option Value} {v : Int32} : wp d 71 Q 55 (a0 :: a1 :: some (.int v) :: L) st w cn sn = wp d 71 Q 56 (a0 :: a1 :: some (.int v) :: L) (.int v :: st) w cn sn := w_iload_n d_71_55 rfl
theorem d_71_56 : decode (mB 71) 56 = .ok (.iload 4, 2) := by decide +kernel
theorem s_71_56 {d : Nat} {Q : wQ} {L : List (Option Value)} {st : List Value} {w : aw} {cn sn : Nat} {a0 a1 a2 a3 : Option Value} {v : Int32} : wp d 71 Q 56 (a0 :: a1 :: a2 :: a3 :: some (.int v) :: L) st w cn sn = wp d 71 Q 58 (a0 :: a1 :: a2 :: a3 :: some (.int v) :: L) (.int v :: st) w cn sn := w_iload d_71_56 rfl
theorem d_71_58 : decode (mB 71) 58 = .ok (.iadd, 1) := by decide +kernel
theorem s_71_58 {d : Nat} {Q : wQ} {L : List (Option Value)} {st : List Value} {w : aw} {cn sn : Nat} {a b : Int32} : wp d 71 Q 58 L (.int b :: .int a :: st) w cn sn = wp d 71 Q 59 L (.int (a + b) :: st) w cn sn := wp_row d_71_58 _ _ _ _ _
theorem d_71_59 : decode (mB 71) 59 = .ok (.sipush 4095, 3) := by decide +kernel
theorem s_71_59 {d : Nat} {Q : wQ} {L : List (Option Value)} {st : List Value} {w : aw} {cn sn : Nat}  : wp d 71 Q 59 L st w cn sn = wp d 71 Q 62 L (.int 4095 :: st) w cn sn := w_sipush d_71_59 (by decide)
theorem d_71_62 : decode (mB 71) 62 = .ok (.iand, 1) := by decide +kernel
theorem s_71_62 {d : Nat} {Q : wQ} {L : List (Option Value)} {st : List Value} {w : aw} {cn sn : Nat} {a b : Int32} : wp d 71 Q 62 L (.int b :: .int a :: st) w cn sn = wp d 71 Q 63 L (.int (a &&& b) :: st) w cn sn := wp_row d_71_62 _ _ _ _ _
theorem d_71_63 : decode (mB 71) 63 = .ok (.istore 5, 2) := by decide +kernel
theorem s_71_63 {d : Nat} {Q : wQ} {L : List (Option Value)} {st : List Value} {w : aw} {cn sn : Nat} {a0 a1 a2 a3 a4 a5 : Option Value} {v : Int32} : wp d 71 Q 63 (a0 :: a1 :: a2 :: a3 :: a4 :: a5 :: L) (.int v :: st) w cn sn = wp d 71 Q 65 (a0 :: a1 :: a2 :: a3 :: clr a4 :: some (.int v) :: L) st w cn sn := w_istore d_71_63 (Nat.le_add_left 6 _) rfl
theorem d_71_65 : decode (mB 71) 65 = .ok (.iload_n 1, 1) := by decide +kernel
theorem s_71_65 {d : Nat} {Q : wQ} {L : List (Option Value)} {st : List Value} {w : aw} {cn sn : Nat} {a0 : Option Value} {v : Int32} : wp d 71 Q 65 (a0 :: some (.int v) :: L) st w cn sn = wp d 71 Q 66 (a0 :: some (.int v) :: L) (.int v :: st) w cn sn := w_iload_n d_71_65 rfl
theorem d_71_66 : decode (mB 71) 66 = .ok (.ifCond .eq 22, 3) := by decide +kernel
theorem s_71_66 {d : Nat} {Q : wQ} {L : List (Option Value)} {st : List Value} {w : aw} {cn sn : Nat} {x : Int32} : wp d 71 Q 66 L (.int x :: st) w cn sn = ((x = 0 → wp d 71 Q 88 L st w cn sn) ∧ (¬ x = 0 → wp d 71 Q 69 L st w cn sn)) := w_ifeq d_71_66 (by decide)
theorem d_71_69 : decode (mB 71) 69 = .ok (.aload_n 0, 1) := by decide +kernel
theorem s_71_69 {d : Nat} {Q : wQ} {L : List (Option Value)} {st : List Value} {w : aw} {cn sn : Nat} {v : Nat} : wp d 71 Q 69 (some (.ref v) :: L) st w cn sn = wp d 71 Q 70 (some (.ref v) :: L) (.ref v :: st) w cn sn := w_aload_n d_71_69 rfl
theorem d_71_70 : decode (mB 71) 70 = .ok (.getfield 9, 3) := by decide +kernel
theorem s_71_70 {d : Nat} {Q : wQ} {L : List (Option Value)} {st : List Value} {w : aw} {cn sn : Nat} {a : Nat} : wp d 71 Q 70 L (.ref a :: st) w cn sn = (kd w a = 7 ∧ wp d 71 Q 73 L (fd w 385 a :: st) w cn sn) := w_getfield d_71_70 (by decide +kernel : fT (mO 71) 9 = some (6, 1))
theorem d_71_73 : decode (mB 71) 73 = .ok (.iload 5, 2) := by decide +kernel
theorem s_71_73 {d : Nat} {Q : wQ} {L : List (Option Value)} {st : List Value} {w : aw} {cn sn : Nat} {a0 a1 a2 a3 a4 : Option Value} {v : Int32} : wp d 71 Q 73 (a0 :: a1 :: a2 :: a3 :: a4 :: some (.int v) :: L) st w cn sn = wp d 71 Q 75 (a0 :: a1 :: a2 :: a3 :: a4 :: some (.int v) :: L) (.int v :: st) w cn sn := w_iload d_71_73 rfl
theorem d_71_75 : decode (mB 71) 75 = .ok (.aload_n 0, 1) := by decide +kernel
theorem s_71_75 {d : Nat} {Q : wQ} {L : List (Option Value)} {st : List Value} {w : aw} {cn sn : Nat} {v : Nat} : wp d 71 Q 75 (some (.ref v) :: L) st w cn sn = wp d 71 Q 76 (some (.ref v) :: L) (.ref v :: st) w cn sn := w_aload_n d_71_75 rfl
theorem d_71_76 : decode (mB 71) 76 = .ok (.getfield 15, 3) := by decide +kernel
theorem s_71_76 {d : Nat} {Q : wQ} {L : List (Option Value)} {st : List Value} {w : aw} {cn sn : Nat} {a : Nat} : wp d 71 Q 76 L (.ref a :: st) w cn sn = (kd w a = 7 ∧ wp d 71 Q 79 L (fd w 386 a :: st) w cn sn) := w_getfield d_71_76 (by decide +kernel : fT (mO 71) 15 = some (6, 2))
theorem d_71_79 : decode (mB 71) 79 = .ok (.iload_n 3, 1) := by decide +kernel
theorem s_71_79 {d : Nat} {Q : wQ} {L : List (Option Value)} {st : List Value} {w : aw} {cn sn : Nat} {a0 a1 a2 : Option Value} {v : Int32} : wp d 71 Q 79 (a0 :: a1 :: a2 :: some (.int v) :: L) st w cn sn = wp d 71 Q 80 (a0 :: a1 :: a2 :: some (.int v) :: L) (.int v :: st) w cn sn := w_iload_n d_71_79 rfl
theorem d_71_80 : decode (mB 71) 80 = .ok (.iload 4, 2) := by decide +kernel
theorem s_71_80 {d : Nat} {Q : wQ} {L : List (Option Value)} {st : List Value} {w : aw} {cn sn : Nat} {a0 a1 a2 a3 : Option Value} {v : Int32} : wp d 71 Q 80 (a0 :: a1 :: a2 :: a3 :: some (.int v) :: L) st w cn sn = wp d 71 Q 82 (a0 :: a1 :: a2 :: a3 :: some (.int v) :: L) (.int v :: st) w cn sn := w_iload d_71_80 rfl
theorem d_71_82 : decode (mB 71) 82 = .ok (.iadd, 1) := by decide +kernel
theorem s_71_82 {d : Nat} {Q : wQ} {L : List (Option Value)} {st : List Value} {w : aw} {cn sn : Nat} {a b : Int32} : wp d 71 Q 82 L (.int b :: .int a :: st) w cn sn = wp d 71 Q 83 L (.int (a + b) :: st) w cn sn := wp_row d_71_82 _ _ _ _ _
theorem d_71_83 : decode (mB 71) 83 = .ok (.iaload, 1) := by decide +kernel
theorem s_71_83 {d : Nat} {Q : wQ} {L : List (Option Value)} {st : List Value} {w : aw} {cn sn : Nat} {a : Nat} {i : Int32} : wp d 71 Q 83 L (.int i :: .ref a :: st) w cn sn = ((kd w a = 20 ∨ kd w a = 30) ∧ inR i (ln w a) ∧ wp d 71 Q 84 L (.int (ai w a i.toNatClampNeg) :: st) w cn sn) := wp_row d_71_83 _ _ _ _ _
theorem d_71_84 : decode (mB 71) 84 = .ok (.iastore, 1) := by decide +kernel
theorem s_71_84 {d : Nat} {Q : wQ} {L : List (Option Value)} {st : List Value} {w : aw} {cn sn : Nat} {a : Nat} {i x : Int32} : wp d 71 Q 84 L (.int x :: .int i :: .ref a :: st) w cn sn = (kd w a = 20 ∧ inR i (ln w a) ∧ wp d 71 Q 85 L st (uA w a i.toNatClampNeg x) cn sn) := wp_row d_71_84 _ _ _ _ _
theorem d_71_85 : decode (mB 71) 85 = .ok (.goto 19, 3) := by decide +kernel
theorem s_71_85 {d : Nat} {Q : wQ} {L : List (Option Value)} {st : List Value} {w : aw} {cn sn : Nat}  : wp d 71 Q 85 L st w cn sn = wp d 71 Q 104 L st w cn sn := w_goto d_71_85 (by decide)
theorem d_71_88 : decode (mB 71) 88 = .ok (.aload_n 0, 1) := by decide +kernel
theorem s_71_88 {d : Nat} {Q : wQ} {L : List (Option Value)} {st : List Value} {w : aw} {cn sn : Nat} {v : Nat} : wp d 71 Q 88 (some (.ref v) :: L) st w cn sn = wp d 71 Q 89 (some (.ref v) :: L) (.ref v :: st) w cn sn := w_aload_n d_71_88 rfl
theorem d_71_89 : decode (mB 71) 89 = .ok (.getfield 15, 3) := by decide +kernel
theorem s_71_89 {d : Nat} {Q : wQ} {L : List (Option Value)} {st : List Value} {w : aw} {cn sn : Nat} {a : Nat} : wp d 71 Q 89 L (.ref a :: st) w cn sn = (kd w a = 7 ∧ wp d 71 Q 92 L (fd w 386 a :: st) w cn sn) := w_getfield d_71_89 (by decide +kernel : fT (mO 71) 15 = some (6, 2))
theorem d_71_92 : decode (mB 71) 92 = .ok (.iload_n 3, 1) := by decide +kernel
theorem s_71_92 {d : Nat} {Q : wQ} {L : List (Option Value)} {st : List Value} {w : aw} {cn sn : Nat} {a0 a1 a2 : Option Value} {v : Int32} : wp d 71 Q 92 (a0 :: a1 :: a2 :: some (.int v) :: L) st w cn sn = wp d 71 Q 93 (a0 :: a1 :: a2 :: some (.int v) :: L) (.int v :: st) w cn sn := w_iload_n d_71_92 rfl
theorem d_71_93 : decode (mB 71) 93 = .ok (.iload 4, 2) := by decide +kernel
theorem s_71_93 {d : Nat} {Q : wQ} {L : List (Option Value)} {st : List Value} {w : aw} {cn sn : Nat} {a0 a1 a2 a3 : Option Value} {v : Int32} : wp d 71 Q 93 (a0 :: a1 :: a2 :: a3 :: some (.int v) :: L) st w cn sn = wp d 71 Q 95 (a0 :: a1 :: a2 :: a3 :: some (.int v) :: L) (.int v :: st) w cn sn := w_iload d_71_93 rfl
theorem d_71_95 : decode (mB 71) 95 = .ok (.iadd, 1) := by decide +kernel
theorem s_71_95 {d : Nat} {Q : wQ} {L : List (Option Value)} {st : List Value} {w : aw} {cn sn : Nat} {a b : Int32} : wp d 71 Q 95 L (.int b :: .int a :: st) w cn sn = wp d 71 Q 96 L (.int (a + b) :: st) w cn sn := wp_row d_71_95 _ _ _ _ _
theorem d_71_96 : decode (mB 71) 96 = .ok (.aload_n 0, 1) := by decide +kernel
theorem s_71_96 {d : Nat} {Q : wQ} {L : List (Option Value)} {st : List Value} {w : aw} {cn sn : Nat} {v : Nat} : wp d 71 Q 96 (some (.ref v) :: L) st w cn sn = wp d 71 Q 97 (some (.ref v) :: L) (.ref v :: st) w cn sn := w_aload_n d_71_96 rfl
theorem d_71_97 : decode (mB 71) 97 = .ok (.getfield 9, 3) := by decide +kernel
theorem s_71_97 {d : Nat} {Q : wQ} {L : List (Option Value)} {st : List Value} {w : aw} {cn sn : Nat} {a : Nat} : wp d 71 Q 97 L (.ref a :: st) w cn sn = (kd w a = 7 ∧ wp d 71 Q 100 L (fd w 385 a :: st) w cn sn) := w_getfield d_71_97 (by decide +kernel : fT (mO 71) 9 = some (6, 1))
theorem d_71_100 : decode (mB 71) 100 = .ok (.iload 5, 2) := by decide +kernel
theorem s_71_100 {d : Nat} {Q : wQ} {L : List (Option Value)} {st : List Value} {w : aw} {cn sn : Nat} {a0 a1 a2 a3 a4 : Option Value} {v : Int32} : wp d 71 Q 100 (a0 :: a1 :: a2 :: a3 :: a4 :: some (.int v) :: L) st w cn sn = wp d 71 Q 102 (a0 :: a1 :: a2 :: a3 :: a4 :: some (.int v) :: L) (.int v :: st) w cn sn := w_iload d_71_100 rfl
theorem d_71_102 : decode (mB 71) 102 = .ok (.iaload, 1) := by decide +kernel
theorem s_71_102 {d : Nat} {Q : wQ} {L : List (Option Value)} {st : List Value} {w : aw} {cn sn : Nat} {a : Nat} {i : Int32} : wp d 71 Q 102 L (.int i :: .ref a :: st) w cn sn = ((kd w a = 20 ∨ kd w a = 30) ∧ inR i (ln w a) ∧ wp d 71 Q 103 L (.int (ai w a i.toNatClampNeg) :: st) w cn sn) := wp_row d_71_102 _ _ _ _ _
theorem d_71_103 : decode (mB 71) 103 = .ok (.iastore, 1) := by decide +kernel
theorem s_71_103 {d : Nat} {Q : wQ} {L : List (Option Value)} {st : List Value} {w : aw} {cn sn : Nat} {a : Nat} {i x : Int32} : wp d 71 Q 103 L (.int x :: .int i :: .ref a :: st) w cn sn = (kd w a = 20 ∧ inR i (ln w a) ∧ wp d 71 Q 104 L st (uA w a i.toNatClampNeg x) cn sn) := wp_row d_71_103 _ _ _ _ _
theorem d_71_104 : decode (mB 71) 104 = .ok (.iinc 4 1, 3) := by decide +kernel
theorem s_71_104 {d : Nat} {Q : wQ} {L : List (Option Value)} {st : List Value} {w : aw} {cn sn : Nat} {a0 a1 a2 a3 : Option Value} {v : Int32} : wp d 71 Q 104 (a0 :: a1 :: a2 :: a3 :: some (.int v) :: L) st w cn sn = wp d 71 Q 107 (a0 :: a1 :: a2 :: clr a3 :: some (.int (v + 1)) :: L) st w cn sn := w_iinc d_71_104 rfl (by decide) rfl
theorem d_71_107 : decode (mB 71) 107 = .ok (.goto (-60), 3) := by decide +kernel
theorem s_71_107 {d : Nat} {Q : wQ} {L : List (Option Value)} {st : List Value} {w : aw} {cn sn : Nat}  : wp d 71 Q 107 L st w cn sn = wp d 71 Q 47 L st w cn sn := w_goto d_71_107 (by decide)
theorem d_71_110 : decode (mB 71) 110 = .ok (.aload_n 0, 1) := by decide +kernel
theorem s_71_110 {d : Nat} {Q : wQ} {L : List (Option Value)} {st : List Value} {w : aw} {cn sn : Nat} {v : Nat} : wp d 71 Q 110 (some (.ref v) :: L) st w cn sn = wp d 71 Q 111 (some (.ref v) :: L) (.ref v :: st) w cn sn := w_aload_n d_71_110 rfl
theorem d_71_111 : decode (mB 71) 111 = .ok (.iconst 0, 1) := by decide +kernel
theorem s_71_111 {d : Nat} {Q : wQ} {L : List (Option Value)} {st : List Value} {w : aw} {cn sn : Nat}  : wp d 71 Q 111 L st w cn sn = wp d 71 Q 112 L (.int 0 :: st) w cn sn := w_iconst d_71_111 (by decide)
theorem d_71_112 : decode (mB 71) 112 = .ok (.putfield 58, 3) := by decide +kernel
theorem s_71_112 {d : Nat} {Q : wQ} {L : List (Option Value)} {st : List Value} {w : aw} {cn sn : Nat} {x : Int32} {a : Nat} : wp d 71 Q 112 L (.int x :: .ref a :: st) w cn sn = (kd w a = 7 ∧ wp d 71 Q 115 L st (uF w 391 a (.int x)) cn sn) := w_putfield d_71_112 (by decide +kernel : fT (mO 71) 58 = some (6, 7)) (by decide +kernel) ok_int
theorem d_71_115 : decode (mB 71) 115 = .ok (.return_, 1) := by decide +kernel
theorem s_71_115 {d : Nat} {Q : wQ} {L : List (Option Value)} {w : aw} {cn sn : Nat}  : wp d 71 Q 115 L [] w cn sn = Q none w := w_return d_71_115 rfl
theorem d_72_0 : decode (mB 72) 0 = .ok (.aload_n 0, 1) := by decide +kernel
theorem s_72_0 {d : Nat} {Q : wQ} {L : List (Option Value)} {st : List Value} {w : aw} {cn sn : Nat} {v : Nat} : wp d 72 Q 0 (some (.ref v) :: L) st w cn sn = wp d 72 Q 1 (some (.ref v) :: L) (.ref v :: st) w cn sn := w_aload_n d_72_0 rfl
theorem d_72_1 : decode (mB 72) 1 = .ok (.getfield 28, 3) := by decide +kernel
theorem s_72_1 {d : Nat} {Q : wQ} {L : List (Option Value)} {st : List Value} {w : aw} {cn sn : Nat} {a : Nat} : wp d 72 Q 1 L (.ref a :: st) w cn sn = (kd w a = 7 ∧ wp d 72 Q 4 L (fd w 389 a :: st) w cn sn) := w_getfield d_72_1 (by decide +kernel : fT (mO 72) 28 = some (6, 5))
theorem d_72_4 : decode (mB 72) 4 = .ok (.invokevirtual 99, 3) := by decide +kernel
theorem s_72_4 {d : Nat} {Q : wQ} {L : List (Option Value)} {st : List Value} {w : aw} {cn sn : Nat} {b : Nat} : wp d 72 Q 4 L (.ref b :: st) w cn sn = (kd w b = 3 ∧ catS st ≤ 8 ∧ wpD d 26 [.ref b] w (fun v w' => wp d 72 Q 7 L (v.toList ++ st) w' cn sn)) := w_virtual (As := []) d_72_4 (by decide +kernel : cT (mO 72) 99 = some (0, 26)) rfl (by decide +kernel) rfl (by decide +kernel) rfl
theorem d_72_7 : decode (mB 72) 7 = .ok (.istore_n 1, 1) := by decide +kernel
theorem s_72_7 {d : Nat} {Q : wQ} {L : List (Option Value)} {st : List Value} {w : aw} {cn sn : Nat} {a0 a1 : Option Value} {v : Int32} : wp d 72 Q 7 (a0 :: a1 :: L) (.int v :: st) w cn sn = wp d 72 Q 8 (clr a0 :: some (.int v) :: L) st w cn sn := w_istore_n d_72_7 (Nat.le_add_left 2 _) rfl
theorem d_72_8 : decode (mB 72) 8 = .ok (.iload_n 1, 1) := by decide +kernel
theorem s_72_8 {d : Nat} {Q : wQ} {L : List (Option Value)} {st : List Value} {w : aw} {cn sn : Nat} {a0 : Option Value} {v : Int32} : wp d 72 Q 8 (a0 :: some (.int v) :: L) st w cn sn = wp d 72 Q 9 (a0 :: some (.int v) :: L) (.int v :: st) w cn sn := w_iload_n d_72_8 rfl
theorem d_72_9 : decode (mB 72) 9 = .ok (.ifCond .ge 5, 3) := by decide +kernel
theorem s_72_9 {d : Nat} {Q : wQ} {L : List (Option Value)} {st : List Value} {w : aw} {cn sn : Nat} {x : Int32} : wp d 72 Q 9 L (.int x :: st) w cn sn = ((0 ≤ x → wp d 72 Q 14 L st w cn sn) ∧ (¬ 0 ≤ x → wp d 72 Q 12 L st w cn sn)) := w_ifge d_72_9 (by decide)
theorem d_72_12 : decode (mB 72) 12 = .ok (.iconst 0, 1) := by decide +kernel
theorem s_72_12 {d : Nat} {Q : wQ} {L : List (Option Value)} {st : List Value} {w : aw} {cn sn : Nat}  : wp d 72 Q 12 L st w cn sn = wp d 72 Q 13 L (.int 0 :: st) w cn sn := w_iconst d_72_12 (by decide)
theorem d_72_13 : decode (mB 72) 13 = .ok (.ireturn, 1) := by decide +kernel
theorem s_72_13 {d : Nat} {Q : wQ} {L : List (Option Value)} {w : aw} {cn sn : Nat} {v : Int32} : wp d 72 Q 13 L [.int v] w cn sn = (narrow .boolean (.int v) = .int v ∧ Q (some (.int v)) w) := w_zreturn d_72_13 rfl
theorem d_72_14 : decode (mB 72) 14 = .ok (.aload_n 0, 1) := by decide +kernel
theorem s_72_14 {d : Nat} {Q : wQ} {L : List (Option Value)} {st : List Value} {w : aw} {cn sn : Nat} {v : Nat} : wp d 72 Q 14 (some (.ref v) :: L) st w cn sn = wp d 72 Q 15 (some (.ref v) :: L) (.ref v :: st) w cn sn := w_aload_n d_72_14 rfl
theorem d_72_15 : decode (mB 72) 15 = .ok (.getfield 18, 3) := by decide +kernel
theorem s_72_15 {d : Nat} {Q : wQ} {L : List (Option Value)} {st : List Value} {w : aw} {cn sn : Nat} {a : Nat} : wp d 72 Q 15 L (.ref a :: st) w cn sn = (kd w a = 7 ∧ wp d 72 Q 18 L (fd w 387 a :: st) w cn sn) := w_getfield d_72_15 (by decide +kernel : fT (mO 72) 18 = some (6, 3))
theorem d_72_18 : decode (mB 72) 18 = .ok (.aload_n 0, 1) := by decide +kernel
theorem s_72_18 {d : Nat} {Q : wQ} {L : List (Option Value)} {st : List Value} {w : aw} {cn sn : Nat} {v : Nat} : wp d 72 Q 18 (some (.ref v) :: L) st w cn sn = wp d 72 Q 19 (some (.ref v) :: L) (.ref v :: st) w cn sn := w_aload_n d_72_18 rfl
theorem d_72_19 : decode (mB 72) 19 = .ok (.getfield 106, 3) := by decide +kernel
theorem s_72_19 {d : Nat} {Q : wQ} {L : List (Option Value)} {st : List Value} {w : aw} {cn sn : Nat} {a : Nat} : wp d 72 Q 19 L (.ref a :: st) w cn sn = (kd w a = 7 ∧ wp d 72 Q 22 L (fd w 399 a :: st) w cn sn) := w_getfield d_72_19 (by decide +kernel : fT (mO 72) 106 = some (6, 15))
theorem d_72_22 : decode (mB 72) 22 = .ok (.sipush 512, 3) := by decide +kernel
theorem s_72_22 {d : Nat} {Q : wQ} {L : List (Option Value)} {st : List Value} {w : aw} {cn sn : Nat}  : wp d 72 Q 22 L st w cn sn = wp d 72 Q 25 L (.int 512 :: st) w cn sn := w_sipush d_72_22 (by decide)
theorem d_72_25 : decode (mB 72) 25 = .ok (.irem, 1) := by decide +kernel
theorem s_72_25 {d : Nat} {Q : wQ} {L : List (Option Value)} {st : List Value} {w : aw} {cn sn : Nat} {a b : Int32} : wp d 72 Q 25 L (.int b :: .int a :: st) w cn sn = (¬ b = 0 ∧ wp d 72 Q 26 L (.int (a - a / b * b) :: st) w cn sn) := wp_row d_72_25 _ _ _ _ _
theorem d_72_26 : decode (mB 72) 26 = .ok (.iload_n 1, 1) := by decide +kernel
theorem s_72_26 {d : Nat} {Q : wQ} {L : List (Option Value)} {st : List Value} {w : aw} {cn sn : Nat} {a0 : Option Value} {v : Int32} : wp d 72 Q 26 (a0 :: some (.int v) :: L) st w cn sn = wp d 72 Q 27 (a0 :: some (.int v) :: L) (.int v :: st) w cn sn := w_iload_n d_72_26 rfl
theorem d_72_27 : decode (mB 72) 27 = .ok (.iastore, 1) := by decide +kernel
theorem s_72_27 {d : Nat} {Q : wQ} {L : List (Option Value)} {st : List Value} {w : aw} {cn sn : Nat} {a : Nat} {i x : Int32} : wp d 72 Q 27 L (.int x :: .int i :: .ref a :: st) w cn sn = (kd w a = 20 ∧ inR i (ln w a) ∧ wp d 72 Q 28 L st (uA w a i.toNatClampNeg x) cn sn) := wp_row d_72_27 _ _ _ _ _
theorem d_72_28 : decode (mB 72) 28 = .ok (.aload_n 0, 1) := by decide +kernel
theorem s_72_28 {d : Nat} {Q : wQ} {L : List (Option Value)} {st : List Value} {w : aw} {cn sn : Nat} {v : Nat} : wp d 72 Q 28 (some (.ref v) :: L) st w cn sn = wp d 72 Q 29 (some (.ref v) :: L) (.ref v :: st) w cn sn := w_aload_n d_72_28 rfl
theorem d_72_29 : decode (mB 72) 29 = .ok (.dup, 1) := by decide +kernel
theorem s_72_29 {d : Nat} {Q : wQ} {L : List (Option Value)} {st : List Value} {w : aw} {cn sn : Nat} {v : Value} : wp d 72 Q 29 L (v :: st) w cn sn = (v.category = 1 ∧ wp d 72 Q 30 L (v :: v :: st) w cn sn) := wp_row d_72_29 _ _ _ _ _
theorem d_72_30 : decode (mB 72) 30 = .ok (.getfield 106, 3) := by decide +kernel
theorem s_72_30 {d : Nat} {Q : wQ} {L : List (Option Value)} {st : List Value} {w : aw} {cn sn : Nat} {a : Nat} : wp d 72 Q 30 L (.ref a :: st) w cn sn = (kd w a = 7 ∧ wp d 72 Q 33 L (fd w 399 a :: st) w cn sn) := w_getfield d_72_30 (by decide +kernel : fT (mO 72) 106 = some (6, 15))
theorem d_72_33 : decode (mB 72) 33 = .ok (.iconst 1, 1) := by decide +kernel
theorem s_72_33 {d : Nat} {Q : wQ} {L : List (Option Value)} {st : List Value} {w : aw} {cn sn : Nat}  : wp d 72 Q 33 L st w cn sn = wp d 72 Q 34 L (.int 1 :: st) w cn sn := w_iconst d_72_33 (by decide)
theorem d_72_34 : decode (mB 72) 34 = .ok (.iadd, 1) := by decide +kernel
theorem s_72_34 {d : Nat} {Q : wQ} {L : List (Option Value)} {st : List Value} {w : aw} {cn sn : Nat} {a b : Int32} : wp d 72 Q 34 L (.int b :: .int a :: st) w cn sn = wp d 72 Q 35 L (.int (a + b) :: st) w cn sn := wp_row d_72_34 _ _ _ _ _
theorem d_72_35 : decode (mB 72) 35 = .ok (.putfield 106, 3) := by decide +kernel
theorem s_72_35 {d : Nat} {Q : wQ} {L : List (Option Value)} {st : List Value} {w : aw} {cn sn : Nat} {x : Int32} {a : Nat} : wp d 72 Q 35 L (.int x :: .ref a :: st) w cn sn = (kd w a = 7 ∧ wp d 72 Q 38 L st (uF w 399 a (.int x)) cn sn) := w_putfield d_72_35 (by decide +kernel : fT (mO 72) 106 = some (6, 15)) (by decide +kernel) ok_int
theorem d_72_38 : decode (mB 72) 38 = .ok (.iconst 1, 1) := by decide +kernel
theorem s_72_38 {d : Nat} {Q : wQ} {L : List (Option Value)} {st : List Value} {w : aw} {cn sn : Nat}  : wp d 72 Q 38 L st w cn sn = wp d 72 Q 39 L (.int 1 :: st) w cn sn := w_iconst d_72_38 (by decide)
theorem d_72_39 : decode (mB 72) 39 = .ok (.ireturn, 1) := by decide +kernel
theorem s_72_39 {d : Nat} {Q : wQ} {L : List (Option Value)} {w : aw} {cn sn : Nat} {v : Int32} : wp d 72 Q 39 L [.int v] w cn sn = (narrow .boolean (.int v) = .int v ∧ Q (some (.int v)) w) := w_zreturn d_72_39 rfl
theorem d_73_0 : decode (mB 73) 0 = .ok (.iload_n 1, 1) := by decide +kernel
theorem s_73_0 {d : Nat} {Q : wQ} {L : List (Option Value)} {st : List Value} {w : aw} {cn sn : Nat} {a0 : Option Value} {v : Int32} : wp d 73 Q 0 (a0 :: some (.int v) :: L) st w cn sn = wp d 73 Q 1 (a0 :: some (.int v) :: L) (.int v :: st) w cn sn := w_iload_n d_73_0 rfl
theorem d_73_1 : decode (mB 73) 1 = .ok (.ifCond .lt 27, 3) := by decide +kernel
theorem s_73_1 {d : Nat} {Q : wQ} {L : List (Option Value)} {st : List Value} {w : aw} {cn sn : Nat} {x : Int32} : wp d 73 Q 1 L (.int x :: st) w cn sn = ((x < 0 → wp d 73 Q 28 L st w cn sn) ∧ (¬ x < 0 → wp d 73 Q 4 L st w cn sn)) := w_iflt d_73_1 (by decide)
theorem d_73_4 : decode (mB 73) 4 = .ok (.iload_n 1, 1) := by decide +kernel
theorem s_73_4 {d : Nat} {Q : wQ} {L : List (Option Value)} {st : List Value} {w : aw} {cn sn : Nat} {a0 : Option Value} {v : Int32} : wp d 73 Q 4 (a0 :: some (.int v) :: L) st w cn sn = wp d 73 Q 5 (a0 :: some (.int v) :: L) (.int v :: st) w cn sn := w_iload_n d_73_4 rfl
theorem d_73_5 : decode (mB 73) 5 = .ok (.aload_n 0, 1) := by decide +kernel
theorem s_73_5 {d : Nat} {Q : wQ} {L : List (Option Value)} {st : List Value} {w : aw} {cn sn : Nat} {v : Nat} : wp d 73 Q 5 (some (.ref v) :: L) st w cn sn = wp d 73 Q 6 (some (.ref v) :: L) (.ref v :: st) w cn sn := w_aload_n d_73_5 rfl
theorem d_73_6 : decode (mB 73) 6 = .ok (.getfield 106, 3) := by decide +kernel
theorem s_73_6 {d : Nat} {Q : wQ} {L : List (Option Value)} {st : List Value} {w : aw} {cn sn : Nat} {a : Nat} : wp d 73 Q 6 L (.ref a :: st) w cn sn = (kd w a = 7 ∧ wp d 73 Q 9 L (fd w 399 a :: st) w cn sn) := w_getfield d_73_6 (by decide +kernel : fT (mO 73) 106 = some (6, 15))
theorem d_73_9 : decode (mB 73) 9 = .ok (.if_icmp .ge 19, 3) := by decide +kernel
theorem s_73_9 {d : Nat} {Q : wQ} {L : List (Option Value)} {st : List Value} {w : aw} {cn sn : Nat} {a b : Int32} : wp d 73 Q 9 L (.int b :: .int a :: st) w cn sn = ((b ≤ a → wp d 73 Q 28 L st w cn sn) ∧ (¬ b ≤ a → wp d 73 Q 12 L st w cn sn)) := w_icge d_73_9 (by decide)
theorem d_73_12 : decode (mB 73) 12 = .ok (.iload_n 1, 1) := by decide +kernel
theorem s_73_12 {d : Nat} {Q : wQ} {L : List (Option Value)} {st : List Value} {w : aw} {cn sn : Nat} {a0 : Option Value} {v : Int32} : wp d 73 Q 12 (a0 :: some (.int v) :: L) st w cn sn = wp d 73 Q 13 (a0 :: some (.int v) :: L) (.int v :: st) w cn sn := w_iload_n d_73_12 rfl
theorem d_73_13 : decode (mB 73) 13 = .ok (.aload_n 0, 1) := by decide +kernel
theorem s_73_13 {d : Nat} {Q : wQ} {L : List (Option Value)} {st : List Value} {w : aw} {cn sn : Nat} {v : Nat} : wp d 73 Q 13 (some (.ref v) :: L) st w cn sn = wp d 73 Q 14 (some (.ref v) :: L) (.ref v :: st) w cn sn := w_aload_n d_73_13 rfl
theorem d_73_14 : decode (mB 73) 14 = .ok (.getfield 106, 3) := by decide +kernel
theorem s_73_14 {d : Nat} {Q : wQ} {L : List (Option Value)} {st : List Value} {w : aw} {cn sn : Nat} {a : Nat} : wp d 73 Q 14 L (.ref a :: st) w cn sn = (kd w a = 7 ∧ wp d 73 Q 17 L (fd w 399 a :: st) w cn sn) := w_getfield d_73_14 (by decide +kernel : fT (mO 73) 106 = some (6, 15))
theorem d_73_17 : decode (mB 73) 17 = .ok (.sipush 512, 3) := by decide +kernel
theorem s_73_17 {d : Nat} {Q : wQ} {L : List (Option Value)} {st : List Value} {w : aw} {cn sn : Nat}  : wp d 73 Q 17 L st w cn sn = wp d 73 Q 20 L (.int 512 :: st) w cn sn := w_sipush d_73_17 (by decide)
theorem d_73_20 : decode (mB 73) 20 = .ok (.isub, 1) := by decide +kernel
theorem s_73_20 {d : Nat} {Q : wQ} {L : List (Option Value)} {st : List Value} {w : aw} {cn sn : Nat} {a b : Int32} : wp d 73 Q 20 L (.int b :: .int a :: st) w cn sn = wp d 73 Q 21 L (.int (a - b) :: st) w cn sn := wp_row d_73_20 _ _ _ _ _
theorem d_73_21 : decode (mB 73) 21 = .ok (.if_icmp .lt 7, 3) := by decide +kernel
theorem s_73_21 {d : Nat} {Q : wQ} {L : List (Option Value)} {st : List Value} {w : aw} {cn sn : Nat} {a b : Int32} : wp d 73 Q 21 L (.int b :: .int a :: st) w cn sn = ((a < b → wp d 73 Q 28 L st w cn sn) ∧ (¬ a < b → wp d 73 Q 24 L st w cn sn)) := w_iclt d_73_21 (by decide)
theorem d_73_24 : decode (mB 73) 24 = .ok (.iconst 1, 1) := by decide +kernel
theorem s_73_24 {d : Nat} {Q : wQ} {L : List (Option Value)} {st : List Value} {w : aw} {cn sn : Nat}  : wp d 73 Q 24 L st w cn sn = wp d 73 Q 25 L (.int 1 :: st) w cn sn := w_iconst d_73_24 (by decide)
theorem d_73_25 : decode (mB 73) 25 = .ok (.goto 4, 3) := by decide +kernel
theorem s_73_25 {d : Nat} {Q : wQ} {L : List (Option Value)} {st : List Value} {w : aw} {cn sn : Nat}  : wp d 73 Q 25 L st w cn sn = wp d 73 Q 29 L st w cn sn := w_goto d_73_25 (by decide)
theorem d_73_28 : decode (mB 73) 28 = .ok (.iconst 0, 1) := by decide +kernel
theorem s_73_28 {d : Nat} {Q : wQ} {L : List (Option Value)} {st : List Value} {w : aw} {cn sn : Nat}  : wp d 73 Q 28 L st w cn sn = wp d 73 Q 29 L (.int 0 :: st) w cn sn := w_iconst d_73_28 (by decide)
theorem d_73_29 : decode (mB 73) 29 = .ok (.istore_n 2, 1) := by decide +kernel
theorem s_73_29 {d : Nat} {Q : wQ} {L : List (Option Value)} {st : List Value} {w : aw} {cn sn : Nat} {a0 a1 a2 : Option Value} {v : Int32} : wp d 73 Q 29 (a0 :: a1 :: a2 :: L) (.int v :: st) w cn sn = wp d 73 Q 30 (a0 :: clr a1 :: some (.int v) :: L) st w cn sn := w_istore_n d_73_29 (Nat.le_add_left 3 _) rfl
theorem d_73_30 : decode (mB 73) 30 = .ok (.iload_n 2, 1) := by decide +kernel
theorem s_73_30 {d : Nat} {Q : wQ} {L : List (Option Value)} {st : List Value} {w : aw} {cn sn : Nat} {a0 a1 : Option Value} {v : Int32} : wp d 73 Q 30 (a0 :: a1 :: some (.int v) :: L) st w cn sn = wp d 73 Q 31 (a0 :: a1 :: some (.int v) :: L) (.int v :: st) w cn sn := w_iload_n d_73_30 rfl
theorem d_73_31 : decode (mB 73) 31 = .ok (.ifCond .eq 16, 3) := by decide +kernel
theorem s_73_31 {d : Nat} {Q : wQ} {L : List (Option Value)} {st : List Value} {w : aw} {cn sn : Nat} {x : Int32} : wp d 73 Q 31 L (.int x :: st) w cn sn = ((x = 0 → wp d 73 Q 47 L st w cn sn) ∧ (¬ x = 0 → wp d 73 Q 34 L st w cn sn)) := w_ifeq d_73_31 (by decide)
theorem d_73_34 : decode (mB 73) 34 = .ok (.aload_n 0, 1) := by decide +kernel
theorem s_73_34 {d : Nat} {Q : wQ} {L : List (Option Value)} {st : List Value} {w : aw} {cn sn : Nat} {v : Nat} : wp d 73 Q 34 (some (.ref v) :: L) st w cn sn = wp d 73 Q 35 (some (.ref v) :: L) (.ref v :: st) w cn sn := w_aload_n d_73_34 rfl
theorem d_73_35 : decode (mB 73) 35 = .ok (.getfield 18, 3) := by decide +kernel
theorem s_73_35 {d : Nat} {Q : wQ} {L : List (Option Value)} {st : List Value} {w : aw} {cn sn : Nat} {a : Nat} : wp d 73 Q 35 L (.ref a :: st) w cn sn = (kd w a = 7 ∧ wp d 73 Q 38 L (fd w 387 a :: st) w cn sn) := w_getfield d_73_35 (by decide +kernel : fT (mO 73) 18 = some (6, 3))
theorem d_73_38 : decode (mB 73) 38 = .ok (.iload_n 1, 1) := by decide +kernel
theorem s_73_38 {d : Nat} {Q : wQ} {L : List (Option Value)} {st : List Value} {w : aw} {cn sn : Nat} {a0 : Option Value} {v : Int32} : wp d 73 Q 38 (a0 :: some (.int v) :: L) st w cn sn = wp d 73 Q 39 (a0 :: some (.int v) :: L) (.int v :: st) w cn sn := w_iload_n d_73_38 rfl
theorem d_73_39 : decode (mB 73) 39 = .ok (.sipush 512, 3) := by decide +kernel
theorem s_73_39 {d : Nat} {Q : wQ} {L : List (Option Value)} {st : List Value} {w : aw} {cn sn : Nat}  : wp d 73 Q 39 L st w cn sn = wp d 73 Q 42 L (.int 512 :: st) w cn sn := w_sipush d_73_39 (by decide)
theorem d_73_42 : decode (mB 73) 42 = .ok (.irem, 1) := by decide +kernel
theorem s_73_42 {d : Nat} {Q : wQ} {L : List (Option Value)} {st : List Value} {w : aw} {cn sn : Nat} {a b : Int32} : wp d 73 Q 42 L (.int b :: .int a :: st) w cn sn = (¬ b = 0 ∧ wp d 73 Q 43 L (.int (a - a / b * b) :: st) w cn sn) := wp_row d_73_42 _ _ _ _ _
theorem d_73_43 : decode (mB 73) 43 = .ok (.iaload, 1) := by decide +kernel
theorem s_73_43 {d : Nat} {Q : wQ} {L : List (Option Value)} {st : List Value} {w : aw} {cn sn : Nat} {a : Nat} {i : Int32} : wp d 73 Q 43 L (.int i :: .ref a :: st) w cn sn = ((kd w a = 20 ∨ kd w a = 30) ∧ inR i (ln w a) ∧ wp d 73 Q 44 L (.int (ai w a i.toNatClampNeg) :: st) w cn sn) := wp_row d_73_43 _ _ _ _ _
theorem d_73_44 : decode (mB 73) 44 = .ok (.goto 4, 3) := by decide +kernel
theorem s_73_44 {d : Nat} {Q : wQ} {L : List (Option Value)} {st : List Value} {w : aw} {cn sn : Nat}  : wp d 73 Q 44 L st w cn sn = wp d 73 Q 48 L st w cn sn := w_goto d_73_44 (by decide)
theorem d_73_47 : decode (mB 73) 47 = .ok (.iconst (-1), 1) := by decide +kernel
theorem s_73_47 {d : Nat} {Q : wQ} {L : List (Option Value)} {st : List Value} {w : aw} {cn sn : Nat}  : wp d 73 Q 47 L st w cn sn = wp d 73 Q 48 L (.int (-1) :: st) w cn sn := w_iconst d_73_47 (by decide)
theorem d_73_48 : decode (mB 73) 48 = .ok (.ireturn, 1) := by decide +kernel
theorem s_73_48 {d : Nat} {Q : wQ} {L : List (Option Value)} {w : aw} {cn sn : Nat} {v : Int32} : wp d 73 Q 48 L [.int v] w cn sn = Q (some (.int v)) w := w_ireturn d_73_48 rfl
theorem d_74_0 : decode (mB 74) 0 = .ok (.iload_n 1, 1) := by decide +kernel
theorem s_74_0 {d : Nat} {Q : wQ} {L : List (Option Value)} {st : List Value} {w : aw} {cn sn : Nat} {a0 : Option Value} {v : Int32} : wp d 74 Q 0 (a0 :: some (.int v) :: L) st w cn sn = wp d 74 Q 1 (a0 :: some (.int v) :: L) (.int v :: st) w cn sn := w_iload_n d_74_0 rfl
theorem d_74_1 : decode (mB 74) 1 = .ok (.tableswitch 129 0 11 #[63, 68, 73, 78, 83, 88, 96, 104, 109, 114, 119, 124], 63) := by decide +kernel
theorem s_74_1 {d : Nat} {Q : wQ} {L : List (Option Value)} {st : List Value} {w : aw} {cn sn : Nat} {x : Int32} : wp d 74 Q 1 L (.int x :: st) w cn sn = ((x.toInt < 0 ∨ 11 < x.toInt → wp d 74 Q 130 L st w cn sn) ∧ ∀ (i t : Nat), ([64, 69, 74, 79, 84, 89, 97, 105, 110, 115, 120, 125] : List Nat)[i]? = some t → x.toInt = 0 + i → wp d 74 Q t L st w cn sn) := w_table d_74_1 (by decide) (by decide) (by decide)
theorem d_74_64 : decode (mB 74) 64 = .ok (.aload_n 0, 1) := by decide +kernel
theorem s_74_64 {d : Nat} {Q : wQ} {L : List (Option Value)} {st : List Value} {w : aw} {cn sn : Nat} {v : Nat} : wp d 74 Q 64 (some (.ref v) :: L) st w cn sn = wp d 74 Q 65 (some (.ref v) :: L) (.ref v :: st) w cn sn := w_aload_n d_74_64 rfl
theorem d_74_65 : decode (mB 74) 65 = .ok (.getfield 35, 3) := by decide +kernel
theorem s_74_65 {d : Nat} {Q : wQ} {L : List (Option Value)} {st : List Value} {w : aw} {cn sn : Nat} {a : Nat} : wp d 74 Q 65 L (.ref a :: st) w cn sn = (kd w a = 7 ∧ wp d 74 Q 68 L (fd w 390 a :: st) w cn sn) := w_getfield d_74_65 (by decide +kernel : fT (mO 74) 35 = some (6, 6))
theorem d_74_68 : decode (mB 74) 68 = .ok (.ireturn, 1) := by decide +kernel
theorem s_74_68 {d : Nat} {Q : wQ} {L : List (Option Value)} {w : aw} {cn sn : Nat} {v : Int32} : wp d 74 Q 68 L [.int v] w cn sn = Q (some (.int v)) w := w_ireturn d_74_68 rfl
theorem d_74_69 : decode (mB 74) 69 = .ok (.aload_n 0, 1) := by decide +kernel
theorem s_74_69 {d : Nat} {Q : wQ} {L : List (Option Value)} {st : List Value} {w : aw} {cn sn : Nat} {v : Nat} : wp d 74 Q 69 (some (.ref v) :: L) st w cn sn = wp d 74 Q 70 (some (.ref v) :: L) (.ref v :: st) w cn sn := w_aload_n d_74_69 rfl
theorem d_74_70 : decode (mB 74) 70 = .ok (.getfield 58, 3) := by decide +kernel
theorem s_74_70 {d : Nat} {Q : wQ} {L : List (Option Value)} {st : List Value} {w : aw} {cn sn : Nat} {a : Nat} : wp d 74 Q 70 L (.ref a :: st) w cn sn = (kd w a = 7 ∧ wp d 74 Q 73 L (fd w 391 a :: st) w cn sn) := w_getfield d_74_70 (by decide +kernel : fT (mO 74) 58 = some (6, 7))
theorem d_74_73 : decode (mB 74) 73 = .ok (.ireturn, 1) := by decide +kernel
theorem s_74_73 {d : Nat} {Q : wQ} {L : List (Option Value)} {w : aw} {cn sn : Nat} {v : Int32} : wp d 74 Q 73 L [.int v] w cn sn = Q (some (.int v)) w := w_ireturn d_74_73 rfl
theorem d_74_74 : decode (mB 74) 74 = .ok (.aload_n 0, 1) := by decide +kernel
theorem s_74_74 {d : Nat} {Q : wQ} {L : List (Option Value)} {st : List Value} {w : aw} {cn sn : Nat} {v : Nat} : wp d 74 Q 74 (some (.ref v) :: L) st w cn sn = wp d 74 Q 75 (some (.ref v) :: L) (.ref v :: st) w cn sn := w_aload_n d_74_74 rfl
theorem d_74_75 : decode (mB 74) 75 = .ok (.getfield 61, 3) := by decide +kernel
theorem s_74_75 {d : Nat} {Q : wQ} {L : List (Option Value)} {st : List Value} {w : aw} {cn sn : Nat} {a : Nat} : wp d 74 Q 75 L (.ref a :: st) w cn sn = (kd w a = 7 ∧ wp d 74 Q 78 L (fd w 392 a :: st) w cn sn) := w_getfield d_74_75 (by decide +kernel : fT (mO 74) 61 = some (6, 8))
theorem d_74_78 : decode (mB 74) 78 = .ok (.ireturn, 1) := by decide +kernel
theorem s_74_78 {d : Nat} {Q : wQ} {L : List (Option Value)} {w : aw} {cn sn : Nat} {v : Int32} : wp d 74 Q 78 L [.int v] w cn sn = Q (some (.int v)) w := w_ireturn d_74_78 rfl
theorem d_74_79 : decode (mB 74) 79 = .ok (.aload_n 0, 1) := by decide +kernel
theorem s_74_79 {d : Nat} {Q : wQ} {L : List (Option Value)} {st : List Value} {w : aw} {cn sn : Nat} {v : Nat} : wp d 74 Q 79 (some (.ref v) :: L) st w cn sn = wp d 74 Q 80 (some (.ref v) :: L) (.ref v :: st) w cn sn := w_aload_n d_74_79 rfl
theorem d_74_80 : decode (mB 74) 80 = .ok (.getfield 77, 3) := by decide +kernel
theorem s_74_80 {d : Nat} {Q : wQ} {L : List (Option Value)} {st : List Value} {w : aw} {cn sn : Nat} {a : Nat} : wp d 74 Q 80 L (.ref a :: st) w cn sn = (kd w a = 7 ∧ wp d 74 Q 83 L (fd w 394 a :: st) w cn sn) := w_getfield d_74_80 (by decide +kernel : fT (mO 74) 77 = some (6, 10))
theorem d_74_83 : decode (mB 74) 83 = .ok (.ireturn, 1) := by decide +kernel
theorem s_74_83 {d : Nat} {Q : wQ} {L : List (Option Value)} {w : aw} {cn sn : Nat} {v : Int32} : wp d 74 Q 83 L [.int v] w cn sn = Q (some (.int v)) w := w_ireturn d_74_83 rfl
theorem d_74_84 : decode (mB 74) 84 = .ok (.aload_n 0, 1) := by decide +kernel
theorem s_74_84 {d : Nat} {Q : wQ} {L : List (Option Value)} {st : List Value} {w : aw} {cn sn : Nat} {v : Nat} : wp d 74 Q 84 (some (.ref v) :: L) st w cn sn = wp d 74 Q 85 (some (.ref v) :: L) (.ref v :: st) w cn sn := w_aload_n d_74_84 rfl
theorem d_74_85 : decode (mB 74) 85 = .ok (.getfield 103, 3) := by decide +kernel
theorem s_74_85 {d : Nat} {Q : wQ} {L : List (Option Value)} {st : List Value} {w : aw} {cn sn : Nat} {a : Nat} : wp d 74 Q 85 L (.ref a :: st) w cn sn = (kd w a = 7 ∧ wp d 74 Q 88 L (fd w 395 a :: st) w cn sn) := w_getfield d_74_85 (by decide +kernel : fT (mO 74) 103 = some (6, 11))
theorem d_74_88 : decode (mB 74) 88 = .ok (.ireturn, 1) := by decide +kernel
theorem s_74_88 {d : Nat} {Q : wQ} {L : List (Option Value)} {w : aw} {cn sn : Nat} {v : Int32} : wp d 74 Q 88 L [.int v] w cn sn = Q (some (.int v)) w := w_ireturn d_74_88 rfl
theorem d_74_89 : decode (mB 74) 89 = .ok (.aload_n 0, 1) := by decide +kernel
theorem s_74_89 {d : Nat} {Q : wQ} {L : List (Option Value)} {st : List Value} {w : aw} {cn sn : Nat} {v : Nat} : wp d 74 Q 89 (some (.ref v) :: L) st w cn sn = wp d 74 Q 90 (some (.ref v) :: L) (.ref v :: st) w cn sn := w_aload_n d_74_89 rfl
theorem d_74_90 : decode (mB 74) 90 = .ok (.getfield 24, 3) := by decide +kernel
theorem s_74_90 {d : Nat} {Q : wQ} {L : List (Option Value)} {st : List Value} {w : aw} {cn sn : Nat} {a : Nat} : wp d 74 Q 90 L (.ref a :: st) w cn sn = (kd w a = 7 ∧ wp d 74 Q 93 L (fd w 388 a :: st) w cn sn) := w_getfield d_74_90 (by decide +kernel : fT (mO 74) 24 = some (6, 4))
theorem d_74_93 : decode (mB 74) 93 = .ok (.getfield 80, 3) := by decide +kernel
theorem s_74_93 {d : Nat} {Q : wQ} {L : List (Option Value)} {st : List Value} {w : aw} {cn sn : Nat} {a : Nat} : wp d 74 Q 93 L (.ref a :: st) w cn sn = (kd w a = 3 ∧ wp d 74 Q 96 L (fd w 130 a :: st) w cn sn) := w_getfield d_74_93 (by decide +kernel : fT (mO 74) 80 = some (2, 2))
theorem d_74_96 : decode (mB 74) 96 = .ok (.ireturn, 1) := by decide +kernel
theorem s_74_96 {d : Nat} {Q : wQ} {L : List (Option Value)} {w : aw} {cn sn : Nat} {v : Int32} : wp d 74 Q 96 L [.int v] w cn sn = Q (some (.int v)) w := w_ireturn d_74_96 rfl
theorem d_74_97 : decode (mB 74) 97 = .ok (.aload_n 0, 1) := by decide +kernel
theorem s_74_97 {d : Nat} {Q : wQ} {L : List (Option Value)} {st : List Value} {w : aw} {cn sn : Nat} {v : Nat} : wp d 74 Q 97 (some (.ref v) :: L) st w cn sn = wp d 74 Q 98 (some (.ref v) :: L) (.ref v :: st) w cn sn := w_aload_n d_74_97 rfl
theorem d_74_98 : decode (mB 74) 98 = .ok (.getfield 28, 3) := by decide +kernel
theorem s_74_98 {d : Nat} {Q : wQ} {L : List (Option Value)} {st : List Value} {w : aw} {cn sn : Nat} {a : Nat} : wp d 74 Q 98 L (.ref a :: st) w cn sn = (kd w a = 7 ∧ wp d 74 Q 101 L (fd w 389 a :: st) w cn sn) := w_getfield d_74_98 (by decide +kernel : fT (mO 74) 28 = some (6, 5))
theorem d_74_101 : decode (mB 74) 101 = .ok (.getfield 80, 3) := by decide +kernel
theorem s_74_101 {d : Nat} {Q : wQ} {L : List (Option Value)} {st : List Value} {w : aw} {cn sn : Nat} {a : Nat} : wp d 74 Q 101 L (.ref a :: st) w cn sn = (kd w a = 3 ∧ wp d 74 Q 104 L (fd w 130 a :: st) w cn sn) := w_getfield d_74_101 (by decide +kernel : fT (mO 74) 80 = some (2, 2))
theorem d_74_104 : decode (mB 74) 104 = .ok (.ireturn, 1) := by decide +kernel
theorem s_74_104 {d : Nat} {Q : wQ} {L : List (Option Value)} {w : aw} {cn sn : Nat} {v : Int32} : wp d 74 Q 104 L [.int v] w cn sn = Q (some (.int v)) w := w_ireturn d_74_104 rfl
theorem d_74_105 : decode (mB 74) 105 = .ok (.aload_n 0, 1) := by decide +kernel
theorem s_74_105 {d : Nat} {Q : wQ} {L : List (Option Value)} {st : List Value} {w : aw} {cn sn : Nat} {v : Nat} : wp d 74 Q 105 (some (.ref v) :: L) st w cn sn = wp d 74 Q 106 (some (.ref v) :: L) (.ref v :: st) w cn sn := w_aload_n d_74_105 rfl
theorem d_74_106 : decode (mB 74) 106 = .ok (.getfield 109, 3) := by decide +kernel
theorem s_74_106 {d : Nat} {Q : wQ} {L : List (Option Value)} {st : List Value} {w : aw} {cn sn : Nat} {a : Nat} : wp d 74 Q 106 L (.ref a :: st) w cn sn = (kd w a = 7 ∧ wp d 74 Q 109 L (fd w 397 a :: st) w cn sn) := w_getfield d_74_106 (by decide +kernel : fT (mO 74) 109 = some (6, 13))
theorem d_74_109 : decode (mB 74) 109 = .ok (.ireturn, 1) := by decide +kernel
theorem s_74_109 {d : Nat} {Q : wQ} {L : List (Option Value)} {w : aw} {cn sn : Nat} {v : Int32} : wp d 74 Q 109 L [.int v] w cn sn = Q (some (.int v)) w := w_ireturn d_74_109 rfl
theorem d_74_110 : decode (mB 74) 110 = .ok (.aload_n 0, 1) := by decide +kernel
theorem s_74_110 {d : Nat} {Q : wQ} {L : List (Option Value)} {st : List Value} {w : aw} {cn sn : Nat} {v : Nat} : wp d 74 Q 110 (some (.ref v) :: L) st w cn sn = wp d 74 Q 111 (some (.ref v) :: L) (.ref v :: st) w cn sn := w_aload_n d_74_110 rfl
theorem d_74_111 : decode (mB 74) 111 = .ok (.getfield 112, 3) := by decide +kernel
theorem s_74_111 {d : Nat} {Q : wQ} {L : List (Option Value)} {st : List Value} {w : aw} {cn sn : Nat} {a : Nat} : wp d 74 Q 111 L (.ref a :: st) w cn sn = (kd w a = 7 ∧ wp d 74 Q 114 L (fd w 398 a :: st) w cn sn) := w_getfield d_74_111 (by decide +kernel : fT (mO 74) 112 = some (6, 14))
theorem d_74_114 : decode (mB 74) 114 = .ok (.ireturn, 1) := by decide +kernel
theorem s_74_114 {d : Nat} {Q : wQ} {L : List (Option Value)} {w : aw} {cn sn : Nat} {v : Int32} : wp d 74 Q 114 L [.int v] w cn sn = Q (some (.int v)) w := w_ireturn d_74_114 rfl
theorem d_74_115 : decode (mB 74) 115 = .ok (.aload_n 0, 1) := by decide +kernel
theorem s_74_115 {d : Nat} {Q : wQ} {L : List (Option Value)} {st : List Value} {w : aw} {cn sn : Nat} {v : Nat} : wp d 74 Q 115 (some (.ref v) :: L) st w cn sn = wp d 74 Q 116 (some (.ref v) :: L) (.ref v :: st) w cn sn := w_aload_n d_74_115 rfl
theorem d_74_116 : decode (mB 74) 116 = .ok (.getfield 106, 3) := by decide +kernel
theorem s_74_116 {d : Nat} {Q : wQ} {L : List (Option Value)} {st : List Value} {w : aw} {cn sn : Nat} {a : Nat} : wp d 74 Q 116 L (.ref a :: st) w cn sn = (kd w a = 7 ∧ wp d 74 Q 119 L (fd w 399 a :: st) w cn sn) := w_getfield d_74_116 (by decide +kernel : fT (mO 74) 106 = some (6, 15))
theorem d_74_119 : decode (mB 74) 119 = .ok (.ireturn, 1) := by decide +kernel
theorem s_74_119 {d : Nat} {Q : wQ} {L : List (Option Value)} {w : aw} {cn sn : Nat} {v : Int32} : wp d 74 Q 119 L [.int v] w cn sn = Q (some (.int v)) w := w_ireturn d_74_119 rfl
theorem d_74_120 : decode (mB 74) 120 = .ok (.aload_n 0, 1) := by decide +kernel
theorem s_74_120 {d : Nat} {Q : wQ} {L : List (Option Value)} {st : List Value} {w : aw} {cn sn : Nat} {v : Nat} : wp d 74 Q 120 (some (.ref v) :: L) st w cn sn = wp d 74 Q 121 (some (.ref v) :: L) (.ref v :: st) w cn sn := w_aload_n d_74_120 rfl
theorem d_74_121 : decode (mB 74) 121 = .ok (.getfield 115, 3) := by decide +kernel
theorem s_74_121 {d : Nat} {Q : wQ} {L : List (Option Value)} {st : List Value} {w : aw} {cn sn : Nat} {a : Nat} : wp d 74 Q 121 L (.ref a :: st) w cn sn = (kd w a = 7 ∧ wp d 74 Q 124 L (fd w 396 a :: st) w cn sn) := w_getfield d_74_121 (by decide +kernel : fT (mO 74) 115 = some (6, 12))
theorem d_74_124 : decode (mB 74) 124 = .ok (.ireturn, 1) := by decide +kernel
theorem s_74_124 {d : Nat} {Q : wQ} {L : List (Option Value)} {w : aw} {cn sn : Nat} {v : Int32} : wp d 74 Q 124 L [.int v] w cn sn = Q (some (.int v)) w := w_ireturn d_74_124 rfl
theorem d_74_125 : decode (mB 74) 125 = .ok (.aload_n 0, 1) := by decide +kernel
theorem s_74_125 {d : Nat} {Q : wQ} {L : List (Option Value)} {st : List Value} {w : aw} {cn sn : Nat} {v : Nat} : wp d 74 Q 125 (some (.ref v) :: L) st w cn sn = wp d 74 Q 126 (some (.ref v) :: L) (.ref v :: st) w cn sn := w_aload_n d_74_125 rfl
theorem d_74_126 : decode (mB 74) 126 = .ok (.getfield 38, 3) := by decide +kernel
theorem s_74_126 {d : Nat} {Q : wQ} {L : List (Option Value)} {st : List Value} {w : aw} {cn sn : Nat} {a : Nat} : wp d 74 Q 126 L (.ref a :: st) w cn sn = (kd w a = 7 ∧ wp d 74 Q 129 L (fd w 400 a :: st) w cn sn) := w_getfield d_74_126 (by decide +kernel : fT (mO 74) 38 = some (6, 16))
theorem d_74_129 : decode (mB 74) 129 = .ok (.ireturn, 1) := by decide +kernel
theorem s_74_129 {d : Nat} {Q : wQ} {L : List (Option Value)} {w : aw} {cn sn : Nat} {v : Int32} : wp d 74 Q 129 L [.int v] w cn sn = Q (some (.int v)) w := w_ireturn d_74_129 rfl
theorem d_74_130 : decode (mB 74) 130 = .ok (.iconst (-1), 1) := by decide +kernel
theorem s_74_130 {d : Nat} {Q : wQ} {L : List (Option Value)} {st : List Value} {w : aw} {cn sn : Nat}  : wp d 74 Q 130 L st w cn sn = wp d 74 Q 131 L (.int (-1) :: st) w cn sn := w_iconst d_74_130 (by decide)
theorem d_74_131 : decode (mB 74) 131 = .ok (.ireturn, 1) := by decide +kernel
theorem s_74_131 {d : Nat} {Q : wQ} {L : List (Option Value)} {w : aw} {cn sn : Nat} {v : Int32} : wp d 74 Q 131 L [.int v] w cn sn = Q (some (.int v)) w := w_ireturn d_74_131 rfl
