theorem d_61_0 : decode (mB 61) 0 = .ok (.aload_n 0, 1) := by decide +kernel
theorem s_61_0 {d : Nat} {Q : wQ} {L : List (Option Value)} {st : List Value} {w : aw} {cn sn : Nat} {v : Nat} : wp d 61 Q 0 (some (.ref v) :: L) st w cn sn = wp d 61 Q 1 (some (.ref v) :: L) (.ref v :: st) w cn sn := w_aload_n d_61_0 rfl
theorem d_61_1 : decode (mB 61) 1 = .ok (.invokespecial 3, 3) := by decide +kernel
theorem s_61_1 {d : Nat} {Q : wQ} {L : List (Option Value)} {st : List Value} {w : aw} {cn sn : Nat} {b : Nat} : wp d 61 Q 1 L (.ref b :: st) w cn sn = (catS st ≤ 8 ∧ wp d 61 Q 4 L st w cn sn) := w_objinit d_61_1 (by decide +kernel : cT (mO 61) 3 = some (3, 0))
theorem d_61_4 : decode (mB 61) 4 = .ok (.aload_n 0, 1) := by decide +kernel
theorem s_61_4 {d : Nat} {Q : wQ} {L : List (Option Value)} {st : List Value} {w : aw} {cn sn : Nat} {v : Nat} : wp d 61 Q 4 (some (.ref v) :: L) st w cn sn = wp d 61 Q 5 (some (.ref v) :: L) (.ref v :: st) w cn sn := w_aload_n d_61_4 rfl
theorem d_61_5 : decode (mB 61) 5 = .ok (.sipush 4096, 3) := by decide +kernel
theorem s_61_5 {d : Nat} {Q : wQ} {L : List (Option Value)} {st : List Value} {w : aw} {cn sn : Nat}  : wp d 61 Q 5 L st w cn sn = wp d 61 Q 8 L (.int 4096 :: st) w cn sn := w_sipush d_61_5 (by decide)
theorem d_61_8 : decode (mB 61) 8 = .ok (.newarray .int, 2) := by decide +kernel
theorem s_61_8 {d : Nat} {Q : wQ} {L : List (Option Value)} {st : List Value} {w : aw} {cn sn : Nat} {v : Int32} : wp d 61 Q 8 L (.int v :: st) w cn sn = (¬ v < 0 ∧ v.toNatClampNeg * 4 ≤ 536870912 ∧ cn + 1 ≤ 7 ∧ sn + v.toNatClampNeg ≤ 8742 ∧ wp d 61 Q 10 L (.ref (zs w) :: st) (nw w 20 v.toNatClampNeg) (cn + 1) (sn + v.toNatClampNeg)) := w_newarray d_61_8 rfl (by decide +kernel) (by decide +kernel)
theorem d_61_10 : decode (mB 61) 10 = .ok (.putfield 9, 3) := by decide +kernel
theorem s_61_10 {d : Nat} {Q : wQ} {L : List (Option Value)} {st : List Value} {w : aw} {cn sn : Nat} {x : Nat} {a : Nat} : wp d 61 Q 10 L (.ref x :: .ref a :: st) w cn sn = (kd w a = 7 ∧ wp d 61 Q 13 L st (uF w 385 a (.ref x)) cn sn) := w_putfield d_61_10 (by decide +kernel : fT (mO 61) 9 = some (6, 1)) (by decide +kernel) ok_arr
theorem d_61_13 : decode (mB 61) 13 = .ok (.aload_n 0, 1) := by decide +kernel
theorem s_61_13 {d : Nat} {Q : wQ} {L : List (Option Value)} {st : List Value} {w : aw} {cn sn : Nat} {v : Nat} : wp d 61 Q 13 (some (.ref v) :: L) st w cn sn = wp d 61 Q 14 (some (.ref v) :: L) (.ref v :: st) w cn sn := w_aload_n d_61_13 rfl
theorem d_61_14 : decode (mB 61) 14 = .ok (.sipush 4096, 3) := by decide +kernel
theorem s_61_14 {d : Nat} {Q : wQ} {L : List (Option Value)} {st : List Value} {w : aw} {cn sn : Nat}  : wp d 61 Q 14 L st w cn sn = wp d 61 Q 17 L (.int 4096 :: st) w cn sn := w_sipush d_61_14 (by decide)
theorem d_61_17 : decode (mB 61) 17 = .ok (.newarray .int, 2) := by decide +kernel
theorem s_61_17 {d : Nat} {Q : wQ} {L : List (Option Value)} {st : List Value} {w : aw} {cn sn : Nat} {v : Int32} : wp d 61 Q 17 L (.int v :: st) w cn sn = (¬ v < 0 ∧ v.toNatClampNeg * 4 ≤ 536870912 ∧ cn + 1 ≤ 7 ∧ sn + v.toNatClampNeg ≤ 8742 ∧ wp d 61 Q 19 L (.ref (zs w) :: st) (nw w 20 v.toNatClampNeg) (cn + 1) (sn + v.toNatClampNeg)) := w_newarray d_61_17 rfl (by decide +kernel) (by decide +kernel)
theorem d_61_19 : decode (mB 61) 19 = .ok (.putfield 15, 3) := by decide +kernel
theorem s_61_19 {d : Nat} {Q : wQ} {L : List (Option Value)} {st : List Value} {w : aw} {cn sn : Nat} {x : Nat} {a : Nat} : wp d 61 Q 19 L (.ref x :: .ref a :: st) w cn sn = (kd w a = 7 ∧ wp d 61 Q 22 L st (uF w 386 a (.ref x)) cn sn) := w_putfield d_61_19 (by decide +kernel : fT (mO 61) 15 = some (6, 2)) (by decide +kernel) ok_arr
theorem d_61_22 : decode (mB 61) 22 = .ok (.aload_n 0, 1) := by decide +kernel
theorem s_61_22 {d : Nat} {Q : wQ} {L : List (Option Value)} {st : List Value} {w : aw} {cn sn : Nat} {v : Nat} : wp d 61 Q 22 (some (.ref v) :: L) st w cn sn = wp d 61 Q 23 (some (.ref v) :: L) (.ref v :: st) w cn sn := w_aload_n d_61_22 rfl
theorem d_61_23 : decode (mB 61) 23 = .ok (.sipush 512, 3) := by decide +kernel
theorem s_61_23 {d : Nat} {Q : wQ} {L : List (Option Value)} {st : List Value} {w : aw} {cn sn : Nat}  : wp d 61 Q 23 L st w cn sn = wp d 61 Q 26 L (.int 512 :: st) w cn sn := w_sipush d_61_23 (by decide)
theorem d_61_26 : decode (mB 61) 26 = .ok (.newarray .int, 2) := by decide +kernel
theorem s_61_26 {d : Nat} {Q : wQ} {L : List (Option Value)} {st : List Value} {w : aw} {cn sn : Nat} {v : Int32} : wp d 61 Q 26 L (.int v :: st) w cn sn = (¬ v < 0 ∧ v.toNatClampNeg * 4 ≤ 536870912 ∧ cn + 1 ≤ 7 ∧ sn + v.toNatClampNeg ≤ 8742 ∧ wp d 61 Q 28 L (.ref (zs w) :: st) (nw w 20 v.toNatClampNeg) (cn + 1) (sn + v.toNatClampNeg)) := w_newarray d_61_26 rfl (by decide +kernel) (by decide +kernel)
theorem d_61_28 : decode (mB 61) 28 = .ok (.putfield 18, 3) := by decide +kernel
theorem s_61_28 {d : Nat} {Q : wQ} {L : List (Option Value)} {st : List Value} {w : aw} {cn sn : Nat} {x : Nat} {a : Nat} : wp d 61 Q 28 L (.ref x :: .ref a :: st) w cn sn = (kd w a = 7 ∧ wp d 61 Q 31 L st (uF w 387 a (.ref x)) cn sn) := w_putfield d_61_28 (by decide +kernel : fT (mO 61) 18 = some (6, 3)) (by decide +kernel) ok_arr
theorem d_61_31 : decode (mB 61) 31 = .ok (.aload_n 0, 1) := by decide +kernel
theorem s_61_31 {d : Nat} {Q : wQ} {L : List (Option Value)} {st : List Value} {w : aw} {cn sn : Nat} {v : Nat} : wp d 61 Q 31 (some (.ref v) :: L) st w cn sn = wp d 61 Q 32 (some (.ref v) :: L) (.ref v :: st) w cn sn := w_aload_n d_61_31 rfl
theorem d_61_32 : decode (mB 61) 32 = .ok (.new 21, 3) := by decide +kernel
theorem s_61_32 {d : Nat} {Q : wQ} {L : List (Option Value)} {st : List Value} {w : aw} {cn sn : Nat}  : wp d 61 Q 32 L st w cn sn = (cn + 1 ≤ 7 ∧ sn + 3 ≤ 8742 ∧ wp d 61 Q 35 L (.ref (zs w) :: st) (nw w 3 0) (cn + 1) (sn + 3)) := w_new d_61_32 (by decide +kernel : nT (mO 61) 21 = some 2) (by decide +kernel) (by decide +kernel) (by decide +kernel)
theorem d_61_35 : decode (mB 61) 35 = .ok (.dup, 1) := by decide +kernel
theorem s_61_35 {d : Nat} {Q : wQ} {L : List (Option Value)} {st : List Value} {w : aw} {cn sn : Nat} {v : Value} : wp d 61 Q 35 L (v :: st) w cn sn = (v.category = 1 ∧ wp d 61 Q 36 L (v :: v :: st) w cn sn) := wp_row d_61_35 _ _ _ _ _
theorem d_61_36 : decode (mB 61) 36 = .ok (.invokespecial 23, 3) := by decide +kernel
theorem s_61_36 {d : Nat} {Q : wQ} {L : List (Option Value)} {st : List Value} {w : aw} {cn sn : Nat} {b : Nat} : wp d 61 Q 36 L (.ref b :: st) w cn sn = (catS st ≤ 8 ∧ alc 61 27 cn sn (fun c2 s2 => wpD d 27 [.ref b] w (fun v w' => wp d 61 Q 39 L (v.toList ++ st) w' c2 s2))) := w_special (As := []) d_61_36 (by decide +kernel : cT (mO 61) 23 = some (4, 27)) (by decide +kernel) rfl rfl
theorem d_61_39 : decode (mB 61) 39 = .ok (.putfield 24, 3) := by decide +kernel
theorem s_61_39 {d : Nat} {Q : wQ} {L : List (Option Value)} {st : List Value} {w : aw} {cn sn : Nat} {x : Nat} {a : Nat} : wp d 61 Q 39 L (.ref x :: .ref a :: st) w cn sn = (kd w a = 7 ∧ wp d 61 Q 42 L st (uF w 388 a (.ref x)) cn sn) := w_putfield d_61_39 (by decide +kernel : fT (mO 61) 24 = some (6, 4)) (by decide +kernel) ok_ref
theorem s_61_39n {d : Nat} {Q : wQ} {L : List (Option Value)} {st : List Value} {w : aw} {cn sn : Nat} {a : Nat} : wp d 61 Q 39 L (.null :: .ref a :: st) w cn sn = (kd w a = 7 ∧ wp d 61 Q 42 L st (uF w 388 a (.null)) cn sn) := w_putfield d_61_39 (by decide +kernel : fT (mO 61) 24 = some (6, 4)) (by decide +kernel) ok_null
theorem d_61_42 : decode (mB 61) 42 = .ok (.aload_n 0, 1) := by decide +kernel
theorem s_61_42 {d : Nat} {Q : wQ} {L : List (Option Value)} {st : List Value} {w : aw} {cn sn : Nat} {v : Nat} : wp d 61 Q 42 (some (.ref v) :: L) st w cn sn = wp d 61 Q 43 (some (.ref v) :: L) (.ref v :: st) w cn sn := w_aload_n d_61_42 rfl
theorem d_61_43 : decode (mB 61) 43 = .ok (.new 21, 3) := by decide +kernel
theorem s_61_43 {d : Nat} {Q : wQ} {L : List (Option Value)} {st : List Value} {w : aw} {cn sn : Nat}  : wp d 61 Q 43 L st w cn sn = (cn + 1 ≤ 7 ∧ sn + 3 ≤ 8742 ∧ wp d 61 Q 46 L (.ref (zs w) :: st) (nw w 3 0) (cn + 1) (sn + 3)) := w_new d_61_43 (by decide +kernel : nT (mO 61) 21 = some 2) (by decide +kernel) (by decide +kernel) (by decide +kernel)
theorem d_61_46 : decode (mB 61) 46 = .ok (.dup, 1) := by decide +kernel
theorem s_61_46 {d : Nat} {Q : wQ} {L : List (Option Value)} {st : List Value} {w : aw} {cn sn : Nat} {v : Value} : wp d 61 Q 46 L (v :: st) w cn sn = (v.category = 1 ∧ wp d 61 Q 47 L (v :: v :: st) w cn sn) := wp_row d_61_46 _ _ _ _ _
theorem d_61_47 : decode (mB 61) 47 = .ok (.invokespecial 23, 3) := by decide +kernel
theorem s_61_47 {d : Nat} {Q : wQ} {L : List (Option Value)} {st : List Value} {w : aw} {cn sn : Nat} {b : Nat} : wp d 61 Q 47 L (.ref b :: st) w cn sn = (catS st ≤ 8 ∧ alc 61 27 cn sn (fun c2 s2 => wpD d 27 [.ref b] w (fun v w' => wp d 61 Q 50 L (v.toList ++ st) w' c2 s2))) := w_special (As := []) d_61_47 (by decide +kernel : cT (mO 61) 23 = some (4, 27)) (by decide +kernel) rfl rfl
theorem d_61_50 : decode (mB 61) 50 = .ok (.putfield 28, 3) := by decide +kernel
theorem s_61_50 {d : Nat} {Q : wQ} {L : List (Option Value)} {st : List Value} {w : aw} {cn sn : Nat} {x : Nat} {a : Nat} : wp d 61 Q 50 L (.ref x :: .ref a :: st) w cn sn = (kd w a = 7 ∧ wp d 61 Q 53 L st (uF w 389 a (.ref x)) cn sn) := w_putfield d_61_50 (by decide +kernel : fT (mO 61) 28 = some (6, 5)) (by decide +kernel) ok_ref
theorem s_61_50n {d : Nat} {Q : wQ} {L : List (Option Value)} {st : List Value} {w : aw} {cn sn : Nat} {a : Nat} : wp d 61 Q 50 L (.null :: .ref a :: st) w cn sn = (kd w a = 7 ∧ wp d 61 Q 53 L st (uF w 389 a (.null)) cn sn) := w_putfield d_61_50 (by decide +kernel : fT (mO 61) 28 = some (6, 5)) (by decide +kernel) ok_null
theorem d_61_53 : decode (mB 61) 53 = .ok (.aload_n 0, 1) := by decide +kernel
theorem s_61_53 {d : Nat} {Q : wQ} {L : List (Option Value)} {st : List Value} {w : aw} {cn sn : Nat} {v : Nat} : wp d 61 Q 53 (some (.ref v) :: L) st w cn sn = wp d 61 Q 54 (some (.ref v) :: L) (.ref v :: st) w cn sn := w_aload_n d_61_53 rfl
theorem d_61_54 : decode (mB 61) 54 = .ok (.iload_n 1, 1) := by decide +kernel
theorem s_61_54 {d : Nat} {Q : wQ} {L : List (Option Value)} {st : List Value} {w : aw} {cn sn : Nat} {a0 : Option Value} {v : Int32} : wp d 61 Q 54 (a0 :: some (.int v) :: L) st w cn sn = wp d 61 Q 55 (a0 :: some (.int v) :: L) (.int v :: st) w cn sn := w_iload_n d_61_54 rfl
theorem d_61_55 : decode (mB 61) 55 = .ok (.putfield 31, 3) := by decide +kernel
theorem s_61_55 {d : Nat} {Q : wQ} {L : List (Option Value)} {st : List Value} {w : aw} {cn sn : Nat} {x : Int32} {a : Nat} : wp d 61 Q 55 L (.int x :: .ref a :: st) w cn sn = (kd w a = 7 ∧ wp d 61 Q 58 L st (uF w 384 a (.int x)) cn sn) := w_putfield d_61_55 (by decide +kernel : fT (mO 61) 31 = some (6, 0)) (by decide +kernel) ok_int
theorem d_61_58 : decode (mB 61) 58 = .ok (.return_, 1) := by decide +kernel
theorem s_61_58 {d : Nat} {Q : wQ} {L : List (Option Value)} {w : aw} {cn sn : Nat}  : wp d 61 Q 58 L [] w cn sn = Q none w := w_return d_61_58 rfl
theorem d_62_0 : decode (mB 62) 0 = .ok (.aload_n 0, 1) := by decide +kernel
theorem s_62_0 {d : Nat} {Q : wQ} {L : List (Option Value)} {st : List Value} {w : aw} {cn sn : Nat} {v : Nat} : wp d 62 Q 0 (some (.ref v) :: L) st w cn sn = wp d 62 Q 1 (some (.ref v) :: L) (.ref v :: st) w cn sn := w_aload_n d_62_0 rfl
theorem d_62_1 : decode (mB 62) 1 = .ok (.getfield 35, 3) := by decide +kernel
theorem s_62_1 {d : Nat} {Q : wQ} {L : List (Option Value)} {st : List Value} {w : aw} {cn sn : Nat} {a : Nat} : wp d 62 Q 1 L (.ref a :: st) w cn sn = (kd w a = 7 ∧ wp d 62 Q 4 L (fd w 390 a :: st) w cn sn) := w_getfield d_62_1 (by decide +kernel : fT (mO 62) 35 = some (6, 6))
theorem d_62_4 : decode (mB 62) 4 = .ok (.sipush 4095, 3) := by decide +kernel
theorem s_62_4 {d : Nat} {Q : wQ} {L : List (Option Value)} {st : List Value} {w : aw} {cn sn : Nat}  : wp d 62 Q 4 L st w cn sn = wp d 62 Q 7 L (.int 4095 :: st) w cn sn := w_sipush d_62_4 (by decide)
theorem d_62_7 : decode (mB 62) 7 = .ok (.iand, 1) := by decide +kernel
theorem s_62_7 {d : Nat} {Q : wQ} {L : List (Option Value)} {st : List Value} {w : aw} {cn sn : Nat} {a b : Int32} : wp d 62 Q 7 L (.int b :: .int a :: st) w cn sn = wp d 62 Q 8 L (.int (a &&& b) :: st) w cn sn := wp_row d_62_7 _ _ _ _ _
theorem d_62_8 : decode (mB 62) 8 = .ok (.istore_n 1, 1) := by decide +kernel
theorem s_62_8 {d : Nat} {Q : wQ} {L : List (Option Value)} {st : List Value} {w : aw} {cn sn : Nat} {a0 a1 : Option Value} {v : Int32} : wp d 62 Q 8 (a0 :: a1 :: L) (.int v :: st) w cn sn = wp d 62 Q 9 (clr a0 :: some (.int v) :: L) st w cn sn := w_istore_n d_62_8 (Nat.le_add_left 2 _) rfl
theorem d_62_9 : decode (mB 62) 9 = .ok (.aload_n 0, 1) := by decide +kernel
theorem s_62_9 {d : Nat} {Q : wQ} {L : List (Option Value)} {st : List Value} {w : aw} {cn sn : Nat} {v : Nat} : wp d 62 Q 9 (some (.ref v) :: L) st w cn sn = wp d 62 Q 10 (some (.ref v) :: L) (.ref v :: st) w cn sn := w_aload_n d_62_9 rfl
theorem d_62_10 : decode (mB 62) 10 = .ok (.getfield 9, 3) := by decide +kernel
theorem s_62_10 {d : Nat} {Q : wQ} {L : List (Option Value)} {st : List Value} {w : aw} {cn sn : Nat} {a : Nat} : wp d 62 Q 10 L (.ref a :: st) w cn sn = (kd w a = 7 ∧ wp d 62 Q 13 L (fd w 385 a :: st) w cn sn) := w_getfield d_62_10 (by decide +kernel : fT (mO 62) 9 = some (6, 1))
theorem d_62_13 : decode (mB 62) 13 = .ok (.iload_n 1, 1) := by decide +kernel
theorem s_62_13 {d : Nat} {Q : wQ} {L : List (Option Value)} {st : List Value} {w : aw} {cn sn : Nat} {a0 : Option Value} {v : Int32} : wp d 62 Q 13 (a0 :: some (.int v) :: L) st w cn sn = wp d 62 Q 14 (a0 :: some (.int v) :: L) (.int v :: st) w cn sn := w_iload_n d_62_13 rfl
theorem d_62_14 : decode (mB 62) 14 = .ok (.iaload, 1) := by decide +kernel
theorem s_62_14 {d : Nat} {Q : wQ} {L : List (Option Value)} {st : List Value} {w : aw} {cn sn : Nat} {a : Nat} {i : Int32} : wp d 62 Q 14 L (.int i :: .ref a :: st) w cn sn = ((kd w a = 20 ∨ kd w a = 30) ∧ inR i (ln w a) ∧ wp d 62 Q 15 L (.int (ai w a i.toNatClampNeg) :: st) w cn sn) := wp_row d_62_14 _ _ _ _ _
theorem d_62_15 : decode (mB 62) 15 = .ok (.istore_n 2, 1) := by decide +kernel
theorem s_62_15 {d : Nat} {Q : wQ} {L : List (Option Value)} {st : List Value} {w : aw} {cn sn : Nat} {a0 a1 a2 : Option Value} {v : Int32} : wp d 62 Q 15 (a0 :: a1 :: a2 :: L) (.int v :: st) w cn sn = wp d 62 Q 16 (a0 :: clr a1 :: some (.int v) :: L) st w cn sn := w_istore_n d_62_15 (Nat.le_add_left 3 _) rfl
theorem d_62_16 : decode (mB 62) 16 = .ok (.aload_n 0, 1) := by decide +kernel
theorem s_62_16 {d : Nat} {Q : wQ} {L : List (Option Value)} {st : List Value} {w : aw} {cn sn : Nat} {v : Nat} : wp d 62 Q 16 (some (.ref v) :: L) st w cn sn = wp d 62 Q 17 (some (.ref v) :: L) (.ref v :: st) w cn sn := w_aload_n d_62_16 rfl
theorem d_62_17 : decode (mB 62) 17 = .ok (.dup, 1) := by decide +kernel
theorem s_62_17 {d : Nat} {Q : wQ} {L : List (Option Value)} {st : List Value} {w : aw} {cn sn : Nat} {v : Value} : wp d 62 Q 17 L (v :: st) w cn sn = (v.category = 1 ∧ wp d 62 Q 18 L (v :: v :: st) w cn sn) := wp_row d_62_17 _ _ _ _ _
theorem d_62_18 : decode (mB 62) 18 = .ok (.getfield 38, 3) := by decide +kernel
theorem s_62_18 {d : Nat} {Q : wQ} {L : List (Option Value)} {st : List Value} {w : aw} {cn sn : Nat} {a : Nat} : wp d 62 Q 18 L (.ref a :: st) w cn sn = (kd w a = 7 ∧ wp d 62 Q 21 L (fd w 400 a :: st) w cn sn) := w_getfield d_62_18 (by decide +kernel : fT (mO 62) 38 = some (6, 16))
theorem d_62_21 : decode (mB 62) 21 = .ok (.iconst 1, 1) := by decide +kernel
theorem s_62_21 {d : Nat} {Q : wQ} {L : List (Option Value)} {st : List Value} {w : aw} {cn sn : Nat}  : wp d 62 Q 21 L st w cn sn = wp d 62 Q 22 L (.int 1 :: st) w cn sn := w_iconst d_62_21 (by decide)
theorem d_62_22 : decode (mB 62) 22 = .ok (.iadd, 1) := by decide +kernel
theorem s_62_22 {d : Nat} {Q : wQ} {L : List (Option Value)} {st : List Value} {w : aw} {cn sn : Nat} {a b : Int32} : wp d 62 Q 22 L (.int b :: .int a :: st) w cn sn = wp d 62 Q 23 L (.int (a + b) :: st) w cn sn := wp_row d_62_22 _ _ _ _ _
theorem d_62_23 : decode (mB 62) 23 = .ok (.putfield 38, 3) := by decide +kernel
theorem s_62_23 {d : Nat} {Q : wQ} {L : List (Option Value)} {st : List Value} {w : aw} {cn sn : Nat} {x : Int32} {a : Nat} : wp d 62 Q 23 L (.int x :: .ref a :: st) w cn sn = (kd w a = 7 ∧ wp d 62 Q 26 L st (uF w 400 a (.int x)) cn sn) := w_putfield d_62_23 (by decide +kernel : fT (mO 62) 38 = some (6, 16)) (by decide +kernel) ok_int
theorem d_62_26 : decode (mB 62) 26 = .ok (.aload_n 0, 1) := by decide +kernel
theorem s_62_26 {d : Nat} {Q : wQ} {L : List (Option Value)} {st : List Value} {w : aw} {cn sn : Nat} {v : Nat} : wp d 62 Q 26 (some (.ref v) :: L) st w cn sn = wp d 62 Q 27 (some (.ref v) :: L) (.ref v :: st) w cn sn := w_aload_n d_62_26 rfl
theorem d_62_27 : decode (mB 62) 27 = .ok (.invokevirtual 41, 3) := by decide +kernel
theorem s_62_27 {d : Nat} {Q : wQ} {L : List (Option Value)} {st : List Value} {w : aw} {cn sn : Nat} {b : Nat} : wp d 62 Q 27 L (.ref b :: st) w cn sn = (kd w b = 7 ∧ catS st ≤ 8 ∧ wpD d 63 [.ref b] w (fun v w' => wp d 62 Q 30 L (v.toList ++ st) w' cn sn)) := w_virtual (As := []) d_62_27 (by decide +kernel : cT (mO 62) 41 = some (0, 63)) rfl (by decide +kernel) rfl (by decide +kernel) rfl
theorem d_62_30 : decode (mB 62) 30 = .ok (.iload_n 2, 1) := by decide +kernel
theorem s_62_30 {d : Nat} {Q : wQ} {L : List (Option Value)} {st : List Value} {w : aw} {cn sn : Nat} {a0 a1 : Option Value} {v : Int32} : wp d 62 Q 30 (a0 :: a1 :: some (.int v) :: L) st w cn sn = wp d 62 Q 31 (a0 :: a1 :: some (.int v) :: L) (.int v :: st) w cn sn := w_iload_n d_62_30 rfl
theorem d_62_31 : decode (mB 62) 31 = .ok (.sipush 3072, 3) := by decide +kernel
theorem s_62_31 {d : Nat} {Q : wQ} {L : List (Option Value)} {st : List Value} {w : aw} {cn sn : Nat}  : wp d 62 Q 31 L st w cn sn = wp d 62 Q 34 L (.int 3072 :: st) w cn sn := w_sipush d_62_31 (by decide)
theorem d_62_34 : decode (mB 62) 34 = .ok (.if_icmp .ge 12, 3) := by decide +kernel
theorem s_62_34 {d : Nat} {Q : wQ} {L : List (Option Value)} {st : List Value} {w : aw} {cn sn : Nat} {a b : Int32} : wp d 62 Q 34 L (.int b :: .int a :: st) w cn sn = ((b ≤ a → wp d 62 Q 46 L st w cn sn) ∧ (¬ b ≤ a → wp d 62 Q 37 L st w cn sn)) := w_icge d_62_34 (by decide)
theorem d_62_37 : decode (mB 62) 37 = .ok (.aload_n 0, 1) := by decide +kernel
theorem s_62_37 {d : Nat} {Q : wQ} {L : List (Option Value)} {st : List Value} {w : aw} {cn sn : Nat} {v : Nat} : wp d 62 Q 37 (some (.ref v) :: L) st w cn sn = wp d 62 Q 38 (some (.ref v) :: L) (.ref v :: st) w cn sn := w_aload_n d_62_37 rfl
theorem d_62_38 : decode (mB 62) 38 = .ok (.iload_n 2, 1) := by decide +kernel
theorem s_62_38 {d : Nat} {Q : wQ} {L : List (Option Value)} {st : List Value} {w : aw} {cn sn : Nat} {a0 a1 : Option Value} {v : Int32} : wp d 62 Q 38 (a0 :: a1 :: some (.int v) :: L) st w cn sn = wp d 62 Q 39 (a0 :: a1 :: some (.int v) :: L) (.int v :: st) w cn sn := w_iload_n d_62_38 rfl
theorem d_62_39 : decode (mB 62) 39 = .ok (.iload_n 1, 1) := by decide +kernel
theorem s_62_39 {d : Nat} {Q : wQ} {L : List (Option Value)} {st : List Value} {w : aw} {cn sn : Nat} {a0 : Option Value} {v : Int32} : wp d 62 Q 39 (a0 :: some (.int v) :: L) st w cn sn = wp d 62 Q 40 (a0 :: some (.int v) :: L) (.int v :: st) w cn sn := w_iload_n d_62_39 rfl
theorem d_62_40 : decode (mB 62) 40 = .ok (.invokevirtual 44, 3) := by decide +kernel
theorem s_62_40 {d : Nat} {Q : wQ} {L : List (Option Value)} {st : List Value} {w : aw} {cn sn : Nat} {v0 v1 : Value} {b : Nat} : wp d 62 Q 40 L (v1 :: v0 :: .ref b :: st) w cn sn = (kd w b = 7 ∧ catS st ≤ 8 ∧ wpD d 65 [.ref b, v0, v1] w (fun v w' => wp d 62 Q 43 L (v.toList ++ st) w' cn sn)) := w_virtual (As := [v0, v1]) d_62_40 (by decide +kernel : cT (mO 62) 44 = some (0, 65)) rfl (by decide +kernel) rfl (by decide +kernel) rfl
theorem d_62_43 : decode (mB 62) 43 = .ok (.goto 46, 3) := by decide +kernel
theorem s_62_43 {d : Nat} {Q : wQ} {L : List (Option Value)} {st : List Value} {w : aw} {cn sn : Nat}  : wp d 62 Q 43 L st w cn sn = wp d 62 Q 89 L st w cn sn := w_goto d_62_43 (by decide)
theorem d_62_46 : decode (mB 62) 46 = .ok (.iload_n 2, 1) := by decide +kernel
theorem s_62_46 {d : Nat} {Q : wQ} {L : List (Option Value)} {st : List Value} {w : aw} {cn sn : Nat} {a0 a1 : Option Value} {v : Int32} : wp d 62 Q 46 (a0 :: a1 :: some (.int v) :: L) st w cn sn = wp d 62 Q 47 (a0 :: a1 :: some (.int v) :: L) (.int v :: st) w cn sn := w_iload_n d_62_46 rfl
theorem d_62_47 : decode (mB 62) 47 = .ok (.sipush 3584, 3) := by decide +kernel
theorem s_62_47 {d : Nat} {Q : wQ} {L : List (Option Value)} {st : List Value} {w : aw} {cn sn : Nat}  : wp d 62 Q 47 L st w cn sn = wp d 62 Q 50 L (.int 3584 :: st) w cn sn := w_sipush d_62_47 (by decide)
theorem d_62_50 : decode (mB 62) 50 = .ok (.if_icmp .ge 12, 3) := by decide +kernel
theorem s_62_50 {d : Nat} {Q : wQ} {L : List (Option Value)} {st : List Value} {w : aw} {cn sn : Nat} {a b : Int32} : wp d 62 Q 50 L (.int b :: .int a :: st) w cn sn = ((b ≤ a → wp d 62 Q 62 L st w cn sn) ∧ (¬ b ≤ a → wp d 62 Q 53 L st w cn sn)) := w_icge d_62_50 (by decide)
theorem d_62_53 : decode (mB 62) 53 = .ok (.aload_n 0, 1) := by decide +kernel
theorem s_62_53 {d : Nat} {Q : wQ} {L : List (Option Value)} {st : List Value} {w : aw} {cn sn : Nat} {v : Nat} : wp d 62 Q 53 (some (.ref v) :: L) st w cn sn = wp d 62 Q 54 (some (.ref v) :: L) (.ref v :: st) w cn sn := w_aload_n d_62_53 rfl
theorem d_62_54 : decode (mB 62) 54 = .ok (.iload_n 2, 1) := by decide +kernel
theorem s_62_54 {d : Nat} {Q : wQ} {L : List (Option Value)} {st : List Value} {w : aw} {cn sn : Nat} {a0 a1 : Option Value} {v : Int32} : wp d 62 Q 54 (a0 :: a1 :: some (.int v) :: L) st w cn sn = wp d 62 Q 55 (a0 :: a1 :: some (.int v) :: L) (.int v :: st) w cn sn := w_iload_n d_62_54 rfl
theorem d_62_55 : decode (mB 62) 55 = .ok (.iload_n 1, 1) := by decide +kernel
theorem s_62_55 {d : Nat} {Q : wQ} {L : List (Option Value)} {st : List Value} {w : aw} {cn sn : Nat} {a0 : Option Value} {v : Int32} : wp d 62 Q 55 (a0 :: some (.int v) :: L) st w cn sn = wp d 62 Q 56 (a0 :: some (.int v) :: L) (.int v :: st) w cn sn := w_iload_n d_62_55 rfl
theorem d_62_56 : decode (mB 62) 56 = .ok (.invokevirtual 48, 3) := by decide +kernel
theorem s_62_56 {d : Nat} {Q : wQ} {L : List (Option Value)} {st : List Value} {w : aw} {cn sn : Nat} {v0 v1 : Value} {b : Nat} : wp d 62 Q 56 L (v1 :: v0 :: .ref b :: st) w cn sn = (kd w b = 7 ∧ catS st ≤ 8 ∧ wpD d 70 [.ref b, v0, v1] w (fun v w' => wp d 62 Q 59 L (v.toList ++ st) w' cn sn)) := w_virtual (As := [v0, v1]) d_62_56 (by decide +kernel : cT (mO 62) 48 = some (0, 70)) rfl (by decide +kernel) rfl (by decide +kernel) rfl
theorem d_62_59 : decode (mB 62) 59 = .ok (.goto 30, 3) := by decide +kernel
theorem s_62_59 {d : Nat} {Q : wQ} {L : List (Option Value)} {st : List Value} {w : aw} {cn sn : Nat}  : wp d 62 Q 59 L st w cn sn = wp d 62 Q 89 L st w cn sn := w_goto d_62_59 (by decide)
theorem d_62_62 : decode (mB 62) 62 = .ok (.iload_n 2, 1) := by decide +kernel
theorem s_62_62 {d : Nat} {Q : wQ} {L : List (Option Value)} {st : List Value} {w : aw} {cn sn : Nat} {a0 a1 : Option Value} {v : Int32} : wp d 62 Q 62 (a0 :: a1 :: some (.int v) :: L) st w cn sn = wp d 62 Q 63 (a0 :: a1 :: some (.int v) :: L) (.int v :: st) w cn sn := w_iload_n d_62_62 rfl
theorem d_62_63 : decode (mB 62) 63 = .ok (.sipush 256, 3) := by decide +kernel
theorem s_62_63 {d : Nat} {Q : wQ} {L : List (Option Value)} {st : List Value} {w : aw} {cn sn : Nat}  : wp d 62 Q 63 L st w cn sn = wp d 62 Q 66 L (.int 256 :: st) w cn sn := w_sipush d_62_63 (by decide)
theorem d_62_66 : decode (mB 62) 66 = .ok (.iand, 1) := by decide +kernel
theorem s_62_66 {d : Nat} {Q : wQ} {L : List (Option Value)} {st : List Value} {w : aw} {cn sn : Nat} {a b : Int32} : wp d 62 Q 66 L (.int b :: .int a :: st) w cn sn = wp d 62 Q 67 L (.int (a &&& b) :: st) w cn sn := wp_row d_62_66 _ _ _ _ _
theorem d_62_67 : decode (mB 62) 67 = .ok (.ifCond .ne 11, 3) := by decide +kernel
theorem s_62_67 {d : Nat} {Q : wQ} {L : List (Option Value)} {st : List Value} {w : aw} {cn sn : Nat} {x : Int32} : wp d 62 Q 67 L (.int x :: st) w cn sn = ((¬ x = 0 → wp d 62 Q 78 L st w cn sn) ∧ (x = 0 → wp d 62 Q 70 L st w cn sn)) := w_ifne d_62_67 (by decide)
theorem d_62_70 : decode (mB 62) 70 = .ok (.aload_n 0, 1) := by decide +kernel
theorem s_62_70 {d : Nat} {Q : wQ} {L : List (Option Value)} {st : List Value} {w : aw} {cn sn : Nat} {v : Nat} : wp d 62 Q 70 (some (.ref v) :: L) st w cn sn = wp d 62 Q 71 (some (.ref v) :: L) (.ref v :: st) w cn sn := w_aload_n d_62_70 rfl
theorem d_62_71 : decode (mB 62) 71 = .ok (.iload_n 2, 1) := by decide +kernel
theorem s_62_71 {d : Nat} {Q : wQ} {L : List (Option Value)} {st : List Value} {w : aw} {cn sn : Nat} {a0 a1 : Option Value} {v : Int32} : wp d 62 Q 71 (a0 :: a1 :: some (.int v) :: L) st w cn sn = wp d 62 Q 72 (a0 :: a1 :: some (.int v) :: L) (.int v :: st) w cn sn := w_iload_n d_62_71 rfl
theorem d_62_72 : decode (mB 62) 72 = .ok (.invokevirtual 51, 3) := by decide +kernel
theorem s_62_72 {d : Nat} {Q : wQ} {L : List (Option Value)} {st : List Value} {w : aw} {cn sn : Nat} {v0 : Value} {b : Nat} : wp d 62 Q 72 L (v0 :: .ref b :: st) w cn sn = (kd w b = 7 ∧ catS st ≤ 8 ∧ wpD d 67 [.ref b, v0] w (fun v w' => wp d 62 Q 75 L (v.toList ++ st) w' cn sn)) := w_virtual (As := [v0]) d_62_72 (by decide +kernel : cT (mO 62) 51 = some (0, 67)) rfl (by decide +kernel) rfl (by decide +kernel) rfl
theorem d_62_75 : decode (mB 62) 75 = .ok (.goto 14, 3) := by decide +kernel
theorem s_62_75 {d : Nat} {Q : wQ} {L : List (Option Value)} {st : List Value} {w : aw} {cn sn : Nat}  : wp d 62 Q 75 L st w cn sn = wp d 62 Q 89 L st w cn sn := w_goto d_62_75 (by decide)
theorem d_62_78 : decode (mB 62) 78 = .ok (.iload_n 2, 1) := by decide +kernel
theorem s_62_78 {d : Nat} {Q : wQ} {L : List (Option Value)} {st : List Value} {w : aw} {cn sn : Nat} {a0 a1 : Option Value} {v : Int32} : wp d 62 Q 78 (a0 :: a1 :: some (.int v) :: L) st w cn sn = wp d 62 Q 79 (a0 :: a1 :: some (.int v) :: L) (.int v :: st) w cn sn := w_iload_n d_62_78 rfl
theorem d_62_79 : decode (mB 62) 79 = .ok (.iconst 1, 1) := by decide +kernel
theorem s_62_79 {d : Nat} {Q : wQ} {L : List (Option Value)} {st : List Value} {w : aw} {cn sn : Nat}  : wp d 62 Q 79 L st w cn sn = wp d 62 Q 80 L (.int 1 :: st) w cn sn := w_iconst d_62_79 (by decide)
theorem d_62_80 : decode (mB 62) 80 = .ok (.iand, 1) := by decide +kernel
theorem s_62_80 {d : Nat} {Q : wQ} {L : List (Option Value)} {st : List Value} {w : aw} {cn sn : Nat} {a b : Int32} : wp d 62 Q 80 L (.int b :: .int a :: st) w cn sn = wp d 62 Q 81 L (.int (a &&& b) :: st) w cn sn := wp_row d_62_80 _ _ _ _ _
theorem d_62_81 : decode (mB 62) 81 = .ok (.ifCond .ne 8, 3) := by decide +kernel
theorem s_62_81 {d : Nat} {Q : wQ} {L : List (Option Value)} {st : List Value} {w : aw} {cn sn : Nat} {x : Int32} : wp d 62 Q 81 L (.int x :: st) w cn sn = ((¬ x = 0 → wp d 62 Q 89 L st w cn sn) ∧ (x = 0 → wp d 62 Q 84 L st w cn sn)) := w_ifne d_62_81 (by decide)
theorem d_62_84 : decode (mB 62) 84 = .ok (.aload_n 0, 1) := by decide +kernel
theorem s_62_84 {d : Nat} {Q : wQ} {L : List (Option Value)} {st : List Value} {w : aw} {cn sn : Nat} {v : Nat} : wp d 62 Q 84 (some (.ref v) :: L) st w cn sn = wp d 62 Q 85 (some (.ref v) :: L) (.ref v :: st) w cn sn := w_aload_n d_62_84 rfl
theorem d_62_85 : decode (mB 62) 85 = .ok (.iload_n 2, 1) := by decide +kernel
theorem s_62_85 {d : Nat} {Q : wQ} {L : List (Option Value)} {st : List Value} {w : aw} {cn sn : Nat} {a0 a1 : Option Value} {v : Int32} : wp d 62 Q 85 (a0 :: a1 :: some (.int v) :: L) st w cn sn = wp d 62 Q 86 (a0 :: a1 :: some (.int v) :: L) (.int v :: st) w cn sn := w_iload_n d_62_85 rfl
theorem d_62_86 : decode (mB 62) 86 = .ok (.invokevirtual 55, 3) := by decide +kernel
theorem s_62_86 {d : Nat} {Q : wQ} {L : List (Option Value)} {st : List Value} {w : aw} {cn sn : Nat} {v0 : Value} {b : Nat} : wp d 62 Q 86 L (v0 :: .ref b :: st) w cn sn = (kd w b = 7 ∧ catS st ≤ 8 ∧ wpD d 69 [.ref b, v0] w (fun v w' => wp d 62 Q 89 L (v.toList ++ st) w' cn sn)) := w_virtual (As := [v0]) d_62_86 (by decide +kernel : cT (mO 62) 55 = some (0, 69)) rfl (by decide +kernel) rfl (by decide +kernel) rfl
theorem d_62_89 : decode (mB 62) 89 = .ok (.return_, 1) := by decide +kernel
theorem s_62_89 {d : Nat} {Q : wQ} {L : List (Option Value)} {w : aw} {cn sn : Nat}  : wp d 62 Q 89 L [] w cn sn = Q none w := w_return d_62_89 rfl
theorem d_63_0 : decode (mB 63) 0 = .ok (.aload_n 0, 1) := by decide +kernel
theorem s_63_0 {d : Nat} {Q : wQ} {L : List (Option Value)} {st : List Value} {w : aw} {cn sn : Nat} {v : Nat} : wp d 63 Q 0 (some (.ref v) :: L) st w cn sn = wp d 63 Q 1 (some (.ref v) :: L) (.ref v :: st) w cn sn := w_aload_n d_63_0 rfl
theorem d_63_1 : decode (mB 63) 1 = .ok (.aload_n 0, 1) := by decide +kernel
theorem s_63_1 {d : Nat} {Q : wQ} {L : List (Option Value)} {st : List Value} {w : aw} {cn sn : Nat} {v : Nat} : wp d 63 Q 1 (some (.ref v) :: L) st w cn sn = wp d 63 Q 2 (some (.ref v) :: L) (.ref v :: st) w cn sn := w_aload_n d_63_1 rfl
theorem d_63_2 : decode (mB 63) 2 = .ok (.getfield 35, 3) := by decide +kernel
theorem s_63_2 {d : Nat} {Q : wQ} {L : List (Option Value)} {st : List Value} {w : aw} {cn sn : Nat} {a : Nat} : wp d 63 Q 2 L (.ref a :: st) w cn sn = (kd w a = 7 ∧ wp d 63 Q 5 L (fd w 390 a :: st) w cn sn) := w_getfield d_63_2 (by decide +kernel : fT (mO 63) 35 = some (6, 6))
theorem d_63_5 : decode (mB 63) 5 = .ok (.iconst 1, 1) := by decide +kernel
theorem s_63_5 {d : Nat} {Q : wQ} {L : List (Option Value)} {st : List Value} {w : aw} {cn sn : Nat}  : wp d 63 Q 5 L st w cn sn = wp d 63 Q 6 L (.int 1 :: st) w cn sn := w_iconst d_63_5 (by decide)
theorem d_63_6 : decode (mB 63) 6 = .ok (.iadd, 1) := by decide +kernel
theorem s_63_6 {d : Nat} {Q : wQ} {L : List (Option Value)} {st : List Value} {w : aw} {cn sn : Nat} {a b : Int32} : wp d 63 Q 6 L (.int b :: .int a :: st) w cn sn = wp d 63 Q 7 L (.int (a + b) :: st) w cn sn := wp_row d_63_6 _ _ _ _ _
theorem d_63_7 : decode (mB 63) 7 = .ok (.sipush 4095, 3) := by decide +kernel
theorem s_63_7 {d : Nat} {Q : wQ} {L : List (Option Value)} {st : List Value} {w : aw} {cn sn : Nat}  : wp d 63 Q 7 L st w cn sn = wp d 63 Q 10 L (.int 4095 :: st) w cn sn := w_sipush d_63_7 (by decide)
theorem d_63_10 : decode (mB 63) 10 = .ok (.iand, 1) := by decide +kernel
theorem s_63_10 {d : Nat} {Q : wQ} {L : List (Option Value)} {st : List Value} {w : aw} {cn sn : Nat} {a b : Int32} : wp d 63 Q 10 L (.int b :: .int a :: st) w cn sn = wp d 63 Q 11 L (.int (a &&& b) :: st) w cn sn := wp_row d_63_10 _ _ _ _ _
theorem d_63_11 : decode (mB 63) 11 = .ok (.putfield 35, 3) := by decide +kernel
theorem s_63_11 {d : Nat} {Q : wQ} {L : List (Option Value)} {st : List Value} {w : aw} {cn sn : Nat} {x : Int32} {a : Nat} : wp d 63 Q 11 L (.int x :: .ref a :: st) w cn sn = (kd w a = 7 ∧ wp d 63 Q 14 L st (uF w 390 a (.int x)) cn sn) := w_putfield d_63_11 (by decide +kernel : fT (mO 63) 35 = some (6, 6)) (by decide +kernel) ok_int
theorem d_63_14 : decode (mB 63) 14 = .ok (.return_, 1) := by decide +kernel
theorem s_63_14 {d : Nat} {Q : wQ} {L : List (Option Value)} {w : aw} {cn sn : Nat}  : wp d 63 Q 14 L [] w cn sn = Q none w := w_return d_63_14 rfl
theorem d_64_0 : decode (mB 64) 0 = .ok (.aload_n 0, 1) := by decide +kernel
theorem s_64_0 {d : Nat} {Q : wQ} {L : List (Option Value)} {st : List Value} {w : aw} {cn sn : Nat} {v : Nat} : wp d 64 Q 0 (some (.ref v) :: L) st w cn sn = wp d 64 Q 1 (some (.ref v) :: L) (.ref v :: st) w cn sn := w_aload_n d_64_0 rfl
theorem d_64_1 : decode (mB 64) 1 = .ok (.getfield 58, 3) := by decide +kernel
theorem s_64_1 {d : Nat} {Q : wQ} {L : List (Option Value)} {st : List Value} {w : aw} {cn sn : Nat} {a : Nat} : wp d 64 Q 1 L (.ref a :: st) w cn sn = (kd w a = 7 ∧ wp d 64 Q 4 L (fd w 391 a :: st) w cn sn) := w_getfield d_64_1 (by decide +kernel : fT (mO 64) 58 = some (6, 7))
theorem d_64_4 : decode (mB 64) 4 = .ok (.iload_n 1, 1) := by decide +kernel
theorem s_64_4 {d : Nat} {Q : wQ} {L : List (Option Value)} {st : List Value} {w : aw} {cn sn : Nat} {a0 : Option Value} {v : Int32} : wp d 64 Q 4 (a0 :: some (.int v) :: L) st w cn sn = wp d 64 Q 5 (a0 :: some (.int v) :: L) (.int v :: st) w cn sn := w_iload_n d_64_4 rfl
theorem d_64_5 : decode (mB 64) 5 = .ok (.iadd, 1) := by decide +kernel
theorem s_64_5 {d : Nat} {Q : wQ} {L : List (Option Value)} {st : List Value} {w : aw} {cn sn : Nat} {a b : Int32} : wp d 64 Q 5 L (.int b :: .int a :: st) w cn sn = wp d 64 Q 6 L (.int (a + b) :: st) w cn sn := wp_row d_64_5 _ _ _ _ _
theorem d_64_6 : decode (mB 64) 6 = .ok (.istore_n 2, 1) := by decide +kernel
theorem s_64_6 {d : Nat} {Q : wQ} {L : List (Option Value)} {st : List Value} {w : aw} {cn sn : Nat} {a0 a1 a2 : Option Value} {v : Int32} : wp d 64 Q 6 (a0 :: a1 :: a2 :: L) (.int v :: st) w cn sn = wp d 64 Q 7 (a0 :: clr a1 :: some (.int v) :: L) st w cn sn := w_istore_n d_64_6 (Nat.le_add_left 3 _) rfl
theorem d_64_7 : decode (mB 64) 7 = .ok (.iload_n 2, 1) := by decide +kernel
theorem s_64_7 {d : Nat} {Q : wQ} {L : List (Option Value)} {st : List Value} {w : aw} {cn sn : Nat} {a0 a1 : Option Value} {v : Int32} : wp d 64 Q 7 (a0 :: a1 :: some (.int v) :: L) st w cn sn = wp d 64 Q 8 (a0 :: a1 :: some (.int v) :: L) (.int v :: st) w cn sn := w_iload_n d_64_7 rfl
theorem d_64_8 : decode (mB 64) 8 = .ok (.sipush 4096, 3) := by decide +kernel
theorem s_64_8 {d : Nat} {Q : wQ} {L : List (Option Value)} {st : List Value} {w : aw} {cn sn : Nat}  : wp d 64 Q 8 L st w cn sn = wp d 64 Q 11 L (.int 4096 :: st) w cn sn := w_sipush d_64_8 (by decide)
theorem d_64_11 : decode (mB 64) 11 = .ok (.if_icmp .lt 13, 3) := by decide +kernel
theorem s_64_11 {d : Nat} {Q : wQ} {L : List (Option Value)} {st : List Value} {w : aw} {cn sn : Nat} {a b : Int32} : wp d 64 Q 11 L (.int b :: .int a :: st) w cn sn = ((a < b → wp d 64 Q 24 L st w cn sn) ∧ (¬ a < b → wp d 64 Q 14 L st w cn sn)) := w_iclt d_64_11 (by decide)
theorem d_64_14 : decode (mB 64) 14 = .ok (.aload_n 0, 1) := by decide +kernel
theorem s_64_14 {d : Nat} {Q : wQ} {L : List (Option Value)} {st : List Value} {w : aw} {cn sn : Nat} {v : Nat} : wp d 64 Q 14 (some (.ref v) :: L) st w cn sn = wp d 64 Q 15 (some (.ref v) :: L) (.ref v :: st) w cn sn := w_aload_n d_64_14 rfl
theorem d_64_15 : decode (mB 64) 15 = .ok (.dup, 1) := by decide +kernel
theorem s_64_15 {d : Nat} {Q : wQ} {L : List (Option Value)} {st : List Value} {w : aw} {cn sn : Nat} {v : Value} : wp d 64 Q 15 L (v :: st) w cn sn = (v.category = 1 ∧ wp d 64 Q 16 L (v :: v :: st) w cn sn) := wp_row d_64_15 _ _ _ _ _
theorem d_64_16 : decode (mB 64) 16 = .ok (.getfield 61, 3) := by decide +kernel
theorem s_64_16 {d : Nat} {Q : wQ} {L : List (Option Value)} {st : List Value} {w : aw} {cn sn : Nat} {a : Nat} : wp d 64 Q 16 L (.ref a :: st) w cn sn = (kd w a = 7 ∧ wp d 64 Q 19 L (fd w 392 a :: st) w cn sn) := w_getfield d_64_16 (by decide +kernel : fT (mO 64) 61 = some (6, 8))
theorem d_64_19 : decode (mB 64) 19 = .ok (.iconst 1, 1) := by decide +kernel
theorem s_64_19 {d : Nat} {Q : wQ} {L : List (Option Value)} {st : List Value} {w : aw} {cn sn : Nat}  : wp d 64 Q 19 L st w cn sn = wp d 64 Q 20 L (.int 1 :: st) w cn sn := w_iconst d_64_19 (by decide)
theorem d_64_20 : decode (mB 64) 20 = .ok (.ixor, 1) := by decide +kernel
theorem s_64_20 {d : Nat} {Q : wQ} {L : List (Option Value)} {st : List Value} {w : aw} {cn sn : Nat} {a b : Int32} : wp d 64 Q 20 L (.int b :: .int a :: st) w cn sn = wp d 64 Q 21 L (.int (a ^^^ b) :: st) w cn sn := wp_row d_64_20 _ _ _ _ _
theorem d_64_21 : decode (mB 64) 21 = .ok (.putfield 61, 3) := by decide +kernel
theorem s_64_21 {d : Nat} {Q : wQ} {L : List (Option Value)} {st : List Value} {w : aw} {cn sn : Nat} {x : Int32} {a : Nat} : wp d 64 Q 21 L (.int x :: .ref a :: st) w cn sn = (kd w a = 7 ∧ wp d 64 Q 24 L st (uF w 392 a (.int x)) cn sn) := w_putfield d_64_21 (by decide +kernel : fT (mO 64) 61 = some (6, 8)) (by decide +kernel) ok_int
theorem d_64_24 : decode (mB 64) 24 = .ok (.aload_n 0, 1) := by decide +kernel
theorem s_64_24 {d : Nat} {Q : wQ} {L : List (Option Value)} {st : List Value} {w : aw} {cn sn : Nat} {v : Nat} : wp d 64 Q 24 (some (.ref v) :: L) st w cn sn = wp d 64 Q 25 (some (.ref v) :: L) (.ref v :: st) w cn sn := w_aload_n d_64_24 rfl
theorem d_64_25 : decode (mB 64) 25 = .ok (.iload_n 2, 1) := by decide +kernel
theorem s_64_25 {d : Nat} {Q : wQ} {L : List (Option Value)} {st : List Value} {w : aw} {cn sn : Nat} {a0 a1 : Option Value} {v : Int32} : wp d 64 Q 25 (a0 :: a1 :: some (.int v) :: L) st w cn sn = wp d 64 Q 26 (a0 :: a1 :: some (.int v) :: L) (.int v :: st) w cn sn := w_iload_n d_64_25 rfl
theorem d_64_26 : decode (mB 64) 26 = .ok (.sipush 4095, 3) := by decide +kernel
theorem s_64_26 {d : Nat} {Q : wQ} {L : List (Option Value)} {st : List Value} {w : aw} {cn sn : Nat}  : wp d 64 Q 26 L st w cn sn = wp d 64 Q 29 L (.int 4095 :: st) w cn sn := w_sipush d_64_26 (by decide)
theorem d_64_29 : decode (mB 64) 29 = .ok (.iand, 1) := by decide +kernel
theorem s_64_29 {d : Nat} {Q : wQ} {L : List (Option Value)} {st : List Value} {w : aw} {cn sn : Nat} {a b : Int32} : wp d 64 Q 29 L (.int b :: .int a :: st) w cn sn = wp d 64 Q 30 L (.int (a &&& b) :: st) w cn sn := wp_row d_64_29 _ _ _ _ _
theorem d_64_30 : decode (mB 64) 30 = .ok (.putfield 58, 3) := by decide +kernel
theorem s_64_30 {d : Nat} {Q : wQ} {L : List (Option Value)} {st : List Value} {w : aw} {cn sn : Nat} {x : Int32} {a : Nat} : wp d 64 Q 30 L (.int x :: .ref a :: st) w cn sn = (kd w a = 7 ∧ wp d 64 Q 33 L st (uF w 391 a (.int x)) cn sn) := w_putfield d_64_30 (by decide +kernel : fT (mO 64) 58 = some (6, 7)) (by decide +kernel) ok_int
theorem d_64_33 : decode (mB 64) 33 = .ok (.return_, 1) := by decide +kernel
theorem s_64_33 {d : Nat} {Q : wQ} {L : List (Option Value)} {w : aw} {cn sn : Nat}  : wp d 64 Q 33 L [] w cn sn = Q none w := w_return d_64_33 rfl
theorem d_65_0 : decode (mB 65) 0 = .ok (.aload_n 0, 1) := by decide +kernel
theorem s_65_0 {d : Nat} {Q : wQ} {L : List (Option Value)} {st : List Value} {w : aw} {cn sn : Nat} {v : Nat} : wp d 65 Q 0 (some (.ref v) :: L) st w cn sn = wp d 65 Q 1 (some (.ref v) :: L) (.ref v :: st) w cn sn := w_aload_n d_65_0 rfl
theorem d_65_1 : decode (mB 65) 1 = .ok (.iload_n 1, 1) := by decide +kernel
theorem s_65_1 {d : Nat} {Q : wQ} {L : List (Option Value)} {st : List Value} {w : aw} {cn sn : Nat} {a0 : Option Value} {v : Int32} : wp d 65 Q 1 (a0 :: some (.int v) :: L) st w cn sn = wp d 65 Q 2 (a0 :: some (.int v) :: L) (.int v :: st) w cn sn := w_iload_n d_65_1 rfl
theorem d_65_2 : decode (mB 65) 2 = .ok (.iload_n 2, 1) := by decide +kernel
theorem s_65_2 {d : Nat} {Q : wQ} {L : List (Option Value)} {st : List Value} {w : aw} {cn sn : Nat} {a0 a1 : Option Value} {v : Int32} : wp d 65 Q 2 (a0 :: a1 :: some (.int v) :: L) st w cn sn = wp d 65 Q 3 (a0 :: a1 :: some (.int v) :: L) (.int v :: st) w cn sn := w_iload_n d_65_2 rfl
theorem d_65_3 : decode (mB 65) 3 = .ok (.invokevirtual 64, 3) := by decide +kernel
theorem s_65_3 {d : Nat} {Q : wQ} {L : List (Option Value)} {st : List Value} {w : aw} {cn sn : Nat} {v0 v1 : Value} {b : Nat} : wp d 65 Q 3 L (v1 :: v0 :: .ref b :: st) w cn sn = (kd w b = 7 ∧ catS st ≤ 8 ∧ wpD d 66 [.ref b, v0, v1] w (fun v w' => wp d 65 Q 6 L (v.toList ++ st) w' cn sn)) := w_virtual (As := [v0, v1]) d_65_3 (by decide +kernel : cT (mO 65) 64 = some (0, 66)) rfl (by decide +kernel) rfl (by decide +kernel) rfl
theorem d_65_6 : decode (mB 65) 6 = .ok (.istore_n 3, 1) := by decide +kernel
theorem s_65_6 {d : Nat} {Q : wQ} {L : List (Option Value)} {st : List Value} {w : aw} {cn sn : Nat} {a0 a1 a2 a3 : Option Value} {v : Int32} : wp d 65 Q 6 (a0 :: a1 :: a2 :: a3 :: L) (.int v :: st) w cn sn = wp d 65 Q 7 (a0 :: a1 :: clr a2 :: some (.int v) :: L) st w cn sn := w_istore_n d_65_6 (Nat.le_add_left 4 _) rfl
theorem d_65_7 : decode (mB 65) 7 = .ok (.iload_n 1, 1) := by decide +kernel
theorem s_65_7 {d : Nat} {Q : wQ} {L : List (Option Value)} {st : List Value} {w : aw} {cn sn : Nat} {a0 : Option Value} {v : Int32} : wp d 65 Q 7 (a0 :: some (.int v) :: L) st w cn sn = wp d 65 Q 8 (a0 :: some (.int v) :: L) (.int v :: st) w cn sn := w_iload_n d_65_7 rfl
theorem d_65_8 : decode (mB 65) 8 = .ok (.bipush 9, 2) := by decide +kernel
theorem s_65_8 {d : Nat} {Q : wQ} {L : List (Option Value)} {st : List Value} {w : aw} {cn sn : Nat}  : wp d 65 Q 8 L st w cn sn = wp d 65 Q 10 L (.int 9 :: st) w cn sn := w_bipush d_65_8 (by decide)
theorem d_65_10 : decode (mB 65) 10 = .ok (.ishr, 1) := by decide +kernel
theorem s_65_10 {d : Nat} {Q : wQ} {L : List (Option Value)} {st : List Value} {w : aw} {cn sn : Nat} {a b : Int32} : wp d 65 Q 10 L (.int b :: .int a :: st) w cn sn = wp d 65 Q 11 L (.int (a >>> (b &&& 31)) :: st) w cn sn := wp_row d_65_10 _ _ _ _ _
theorem d_65_11 : decode (mB 65) 11 = .ok (.tableswitch 140 0 4 #[33, 51, 64, 98, 116], 33) := by decide +kernel
theorem s_65_11 {d : Nat} {Q : wQ} {L : List (Option Value)} {st : List Value} {w : aw} {cn sn : Nat} {x : Int32} : wp d 65 Q 11 L (.int x :: st) w cn sn = ((x.toInt < 0 ∨ 4 < x.toInt → wp d 65 Q 151 L st w cn sn) ∧ ∀ (i t : Nat), ([44, 62, 75, 109, 127] : List Nat)[i]? = some t → x.toInt = 0 + i → wp d 65 Q t L st w cn sn) := w_table d_65_11 (by decide) (by decide) (by decide)
theorem d_65_44 : decode (mB 65) 44 = .ok (.aload_n 0, 1) := by decide +kernel
theorem s_65_44 {d : Nat} {Q : wQ} {L : List (Option Value)} {st : List Value} {w : aw} {cn sn : Nat} {v : Nat} : wp d 65 Q 44 (some (.ref v) :: L) st w cn sn = wp d 65 Q 45 (some (.ref v) :: L) (.ref v :: st) w cn sn := w_aload_n d_65_44 rfl
theorem d_65_45 : decode (mB 65) 45 = .ok (.dup, 1) := by decide +kernel
theorem s_65_45 {d : Nat} {Q : wQ} {L : List (Option Value)} {st : List Value} {w : aw} {cn sn : Nat} {v : Value} : wp d 65 Q 45 L (v :: st) w cn sn = (v.category = 1 ∧ wp d 65 Q 46 L (v :: v :: st) w cn sn) := wp_row d_65_45 _ _ _ _ _
theorem d_65_46 : decode (mB 65) 46 = .ok (.getfield 58, 3) := by decide +kernel
theorem s_65_46 {d : Nat} {Q : wQ} {L : List (Option Value)} {st : List Value} {w : aw} {cn sn : Nat} {a : Nat} : wp d 65 Q 46 L (.ref a :: st) w cn sn = (kd w a = 7 ∧ wp d 65 Q 49 L (fd w 391 a :: st) w cn sn) := w_getfield d_65_46 (by decide +kernel : fT (mO 65) 58 = some (6, 7))
theorem d_65_49 : decode (mB 65) 49 = .ok (.aload_n 0, 1) := by decide +kernel
theorem s_65_49 {d : Nat} {Q : wQ} {L : List (Option Value)} {st : List Value} {w : aw} {cn sn : Nat} {v : Nat} : wp d 65 Q 49 (some (.ref v) :: L) st w cn sn = wp d 65 Q 50 (some (.ref v) :: L) (.ref v :: st) w cn sn := w_aload_n d_65_49 rfl
theorem d_65_50 : decode (mB 65) 50 = .ok (.getfield 9, 3) := by decide +kernel
theorem s_65_50 {d : Nat} {Q : wQ} {L : List (Option Value)} {st : List Value} {w : aw} {cn sn : Nat} {a : Nat} : wp d 65 Q 50 L (.ref a :: st) w cn sn = (kd w a = 7 ∧ wp d 65 Q 53 L (fd w 385 a :: st) w cn sn) := w_getfield d_65_50 (by decide +kernel : fT (mO 65) 9 = some (6, 1))
theorem d_65_53 : decode (mB 65) 53 = .ok (.iload_n 3, 1) := by decide +kernel
theorem s_65_53 {d : Nat} {Q : wQ} {L : List (Option Value)} {st : List Value} {w : aw} {cn sn : Nat} {a0 a1 a2 : Option Value} {v : Int32} : wp d 65 Q 53 (a0 :: a1 :: a2 :: some (.int v) :: L) st w cn sn = wp d 65 Q 54 (a0 :: a1 :: a2 :: some (.int v) :: L) (.int v :: st) w cn sn := w_iload_n d_65_53 rfl
theorem d_65_54 : decode (mB 65) 54 = .ok (.iaload, 1) := by decide +kernel
theorem s_65_54 {d : Nat} {Q : wQ} {L : List (Option Value)} {st : List Value} {w : aw} {cn sn : Nat} {a : Nat} {i : Int32} : wp d 65 Q 54 L (.int i :: .ref a :: st) w cn sn = ((kd w a = 20 ∨ kd w a = 30) ∧ inR i (ln w a) ∧ wp d 65 Q 55 L (.int (ai w a i.toNatClampNeg) :: st) w cn sn) := wp_row d_65_54 _ _ _ _ _
theorem d_65_55 : decode (mB 65) 55 = .ok (.iand, 1) := by decide +kernel
theorem s_65_55 {d : Nat} {Q : wQ} {L : List (Option Value)} {st : List Value} {w : aw} {cn sn : Nat} {a b : Int32} : wp d 65 Q 55 L (.int b :: .int a :: st) w cn sn = wp d 65 Q 56 L (.int (a &&& b) :: st) w cn sn := wp_row d_65_55 _ _ _ _ _
theorem d_65_56 : decode (mB 65) 56 = .ok (.putfield 58, 3) := by decide +kernel
theorem s_65_56 {d : Nat} {Q : wQ} {L : List (Option Value)} {st : List Value} {w : aw} {cn sn : Nat} {x : Int32} {a : Nat} : wp d 65 Q 56 L (.int x :: .ref a :: st) w cn sn = (kd w a = 7 ∧ wp d 65 Q 59 L st (uF w 391 a (.int x)) cn sn) := w_putfield d_65_56 (by decide +kernel : fT (mO 65) 58 = some (6, 7)) (by decide +kernel) ok_int
theorem d_65_59 : decode (mB 65) 59 = .ok (.goto 97, 3) := by decide +kernel
theorem s_65_59 {d : Nat} {Q : wQ} {L : List (Option Value)} {st : List Value} {w : aw} {cn sn : Nat}  : wp d 65 Q 59 L st w cn sn = wp d 65 Q 156 L st w cn sn := w_goto d_65_59 (by decide)
theorem d_65_62 : decode (mB 65) 62 = .ok (.aload_n 0, 1) := by decide +kernel
theorem s_65_62 {d : Nat} {Q : wQ} {L : List (Option Value)} {st : List Value} {w : aw} {cn sn : Nat} {v : Nat} : wp d 65 Q 62 (some (.ref v) :: L) st w cn sn = wp d 65 Q 63 (some (.ref v) :: L) (.ref v :: st) w cn sn := w_aload_n d_65_62 rfl
theorem d_65_63 : decode (mB 65) 63 = .ok (.aload_n 0, 1) := by decide +kernel
theorem s_65_63 {d : Nat} {Q : wQ} {L : List (Option Value)} {st : List Value} {w : aw} {cn sn : Nat} {v : Nat} : wp d 65 Q 63 (some (.ref v) :: L) st w cn sn = wp d 65 Q 64 (some (.ref v) :: L) (.ref v :: st) w cn sn := w_aload_n d_65_63 rfl
theorem d_65_64 : decode (mB 65) 64 = .ok (.getfield 9, 3) := by decide +kernel
theorem s_65_64 {d : Nat} {Q : wQ} {L : List (Option Value)} {st : List Value} {w : aw} {cn sn : Nat} {a : Nat} : wp d 65 Q 64 L (.ref a :: st) w cn sn = (kd w a = 7 ∧ wp d 65 Q 67 L (fd w 385 a :: st) w cn sn) := w_getfield d_65_64 (by decide +kernel : fT (mO 65) 9 = some (6, 1))
theorem d_65_67 : decode (mB 65) 67 = .ok (.iload_n 3, 1) := by decide +kernel
theorem s_65_67 {d : Nat} {Q : wQ} {L : List (Option Value)} {st : List Value} {w : aw} {cn sn : Nat} {a0 a1 a2 : Option Value} {v : Int32} : wp d 65 Q 67 (a0 :: a1 :: a2 :: some (.int v) :: L) st w cn sn = wp d 65 Q 68 (a0 :: a1 :: a2 :: some (.int v) :: L) (.int v :: st) w cn sn := w_iload_n d_65_67 rfl
theorem d_65_68 : decode (mB 65) 68 = .ok (.iaload, 1) := by decide +kernel
theorem s_65_68 {d : Nat} {Q : wQ} {L : List (Option Value)} {st : List Value} {w : aw} {cn sn : Nat} {a : Nat} {i : Int32} : wp d 65 Q 68 L (.int i :: .ref a :: st) w cn sn = ((kd w a = 20 ∨ kd w a = 30) ∧ inR i (ln w a) ∧ wp d 65 Q 69 L (.int (ai w a i.toNatClampNeg) :: st) w cn sn) := wp_row d_65_68 _ _ _ _ _
theorem d_65_69 : decode (mB 65) 69 = .ok (.invokevirtual 68, 3) := by decide +kernel
theorem s_65_69 {d : Nat} {Q : wQ} {L : List (Option Value)} {st : List Value} {w : aw} {cn sn : Nat} {v0 : Value} {b : Nat} : wp d 65 Q 69 L (v0 :: .ref b :: st) w cn sn = (kd w b = 7 ∧ catS st ≤ 8 ∧ wpD d 64 [.ref b, v0] w (fun v w' => wp d 65 Q 72 L (v.toList ++ st) w' cn sn)) := w_virtual (As := [v0]) d_65_69 (by decide +kernel : cT (mO 65) 68 = some (0, 64)) rfl (by decide +kernel) rfl (by decide +kernel) rfl
theorem d_65_72 : decode (mB 65) 72 = .ok (.goto 84, 3) := by decide +kernel
theorem s_65_72 {d : Nat} {Q : wQ} {L : List (Option Value)} {st : List Value} {w : aw} {cn sn : Nat}  : wp d 65 Q 72 L st w cn sn = wp d 65 Q 156 L st w cn sn := w_goto d_65_72 (by decide)
theorem d_65_75 : decode (mB 65) 75 = .ok (.aload_n 0, 1) := by decide +kernel
theorem s_65_75 {d : Nat} {Q : wQ} {L : List (Option Value)} {st : List Value} {w : aw} {cn sn : Nat} {v : Nat} : wp d 65 Q 75 (some (.ref v) :: L) st w cn sn = wp d 65 Q 76 (some (.ref v) :: L) (.ref v :: st) w cn sn := w_aload_n d_65_75 rfl
theorem d_65_76 : decode (mB 65) 76 = .ok (.getfield 9, 3) := by decide +kernel
theorem s_65_76 {d : Nat} {Q : wQ} {L : List (Option Value)} {st : List Value} {w : aw} {cn sn : Nat} {a : Nat} : wp d 65 Q 76 L (.ref a :: st) w cn sn = (kd w a = 7 ∧ wp d 65 Q 79 L (fd w 385 a :: st) w cn sn) := w_getfield d_65_76 (by decide +kernel : fT (mO 65) 9 = some (6, 1))
theorem d_65_79 : decode (mB 65) 79 = .ok (.iload_n 3, 1) := by decide +kernel
theorem s_65_79 {d : Nat} {Q : wQ} {L : List (Option Value)} {st : List Value} {w : aw} {cn sn : Nat} {a0 a1 a2 : Option Value} {v : Int32} : wp d 65 Q 79 (a0 :: a1 :: a2 :: some (.int v) :: L) st w cn sn = wp d 65 Q 80 (a0 :: a1 :: a2 :: some (.int v) :: L) (.int v :: st) w cn sn := w_iload_n d_65_79 rfl
theorem d_65_80 : decode (mB 65) 80 = .ok (.aload_n 0, 1) := by decide +kernel
theorem s_65_80 {d : Nat} {Q : wQ} {L : List (Option Value)} {st : List Value} {w : aw} {cn sn : Nat} {v : Nat} : wp d 65 Q 80 (some (.ref v) :: L) st w cn sn = wp d 65 Q 81 (some (.ref v) :: L) (.ref v :: st) w cn sn := w_aload_n d_65_80 rfl
theorem d_65_81 : decode (mB 65) 81 = .ok (.getfield 9, 3) := by decide +kernel
theorem s_65_81 {d : Nat} {Q : wQ} {L : List (Option Value)} {st : List Value} {w : aw} {cn sn : Nat} {a : Nat} : wp d 65 Q 81 L (.ref a :: st) w cn sn = (kd w a = 7 ∧ wp d 65 Q 84 L (fd w 385 a :: st) w cn sn) := w_getfield d_65_81 (by decide +kernel : fT (mO 65) 9 = some (6, 1))
theorem d_65_84 : decode (mB 65) 84 = .ok (.iload_n 3, 1) := by decide +kernel
theorem s_65_84 {d : Nat} {Q : wQ} {L : List (Option Value)} {st : List Value} {w : aw} {cn sn : Nat} {a0 a1 a2 : Option Value} {v : Int32} : wp d 65 Q 84 (a0 :: a1 :: a2 :: some (.int v) :: L) st w cn sn = wp d 65 Q 85 (a0 :: a1 :: a2 :: some (.int v) :: L) (.int v :: st) w cn sn := w_iload_n d_65_84 rfl
theorem d_65_85 : decode (mB 65) 85 = .ok (.iaload, 1) := by decide +kernel
theorem s_65_85 {d : Nat} {Q : wQ} {L : List (Option Value)} {st : List Value} {w : aw} {cn sn : Nat} {a : Nat} {i : Int32} : wp d 65 Q 85 L (.int i :: .ref a :: st) w cn sn = ((kd w a = 20 ∨ kd w a = 30) ∧ inR i (ln w a) ∧ wp d 65 Q 86 L (.int (ai w a i.toNatClampNeg) :: st) w cn sn) := wp_row d_65_85 _ _ _ _ _
theorem d_65_86 : decode (mB 65) 86 = .ok (.iconst 1, 1) := by decide +kernel
theorem s_65_86 {d : Nat} {Q : wQ} {L : List (Option Value)} {st : List Value} {w : aw} {cn sn : Nat}  : wp d 65 Q 86 L st w cn sn = wp d 65 Q 87 L (.int 1 :: st) w cn sn := w_iconst d_65_86 (by decide)
theorem d_65_87 : decode (mB 65) 87 = .ok (.iadd, 1) := by decide +kernel
theorem s_65_87 {d : Nat} {Q : wQ} {L : List (Option Value)} {st : List Value} {w : aw} {cn sn : Nat} {a b : Int32} : wp d 65 Q 87 L (.int b :: .int a :: st) w cn sn = wp d 65 Q 88 L (.int (a + b) :: st) w cn sn := wp_row d_65_87 _ _ _ _ _
theorem d_65_88 : decode (mB 65) 88 = .ok (.sipush 4095, 3) := by decide +kernel
theorem s_65_88 {d : Nat} {Q : wQ} {L : List (Option Value)} {st : List Value} {w : aw} {cn sn : Nat}  : wp d 65 Q 88 L st w cn sn = wp d 65 Q 91 L (.int 4095 :: st) w cn sn := w_sipush d_65_88 (by decide)
theorem d_65_91 : decode (mB 65) 91 = .ok (.iand, 1) := by decide +kernel
theorem s_65_91 {d : Nat} {Q : wQ} {L : List (Option Value)} {st : List Value} {w : aw} {cn sn : Nat} {a b : Int32} : wp d 65 Q 91 L (.int b :: .int a :: st) w cn sn = wp d 65 Q 92 L (.int (a &&& b) :: st) w cn sn := wp_row d_65_91 _ _ _ _ _
theorem d_65_92 : decode (mB 65) 92 = .ok (.iastore, 1) := by decide +kernel
theorem s_65_92 {d : Nat} {Q : wQ} {L : List (Option Value)} {st : List Value} {w : aw} {cn sn : Nat} {a : Nat} {i x : Int32} : wp d 65 Q 92 L (.int x :: .int i :: .ref a :: st) w cn sn = (kd w a = 20 ∧ inR i (ln w a) ∧ wp d 65 Q 93 L st (uA w a i.toNatClampNeg x) cn sn) := wp_row d_65_92 _ _ _ _ _
theorem d_65_93 : decode (mB 65) 93 = .ok (.aload_n 0, 1) := by decide +kernel
theorem s_65_93 {d : Nat} {Q : wQ} {L : List (Option Value)} {st : List Value} {w : aw} {cn sn : Nat} {v : Nat} : wp d 65 Q 93 (some (.ref v) :: L) st w cn sn = wp d 65 Q 94 (some (.ref v) :: L) (.ref v :: st) w cn sn := w_aload_n d_65_93 rfl
theorem d_65_94 : decode (mB 65) 94 = .ok (.getfield 9, 3) := by decide +kernel
theorem s_65_94 {d : Nat} {Q : wQ} {L : List (Option Value)} {st : List Value} {w : aw} {cn sn : Nat} {a : Nat} : wp d 65 Q 94 L (.ref a :: st) w cn sn = (kd w a = 7 ∧ wp d 65 Q 97 L (fd w 385 a :: st) w cn sn) := w_getfield d_65_94 (by decide +kernel : fT (mO 65) 9 = some (6, 1))
theorem d_65_97 : decode (mB 65) 97 = .ok (.iload_n 3, 1) := by decide +kernel
theorem s_65_97 {d : Nat} {Q : wQ} {L : List (Option Value)} {st : List Value} {w : aw} {cn sn : Nat} {a0 a1 a2 : Option Value} {v : Int32} : wp d 65 Q 97 (a0 :: a1 :: a2 :: some (.int v) :: L) st w cn sn = wp d 65 Q 98 (a0 :: a1 :: a2 :: some (.int v) :: L) (.int v :: st) w cn sn := w_iload_n d_65_97 rfl
theorem d_65_98 : decode (mB 65) 98 = .ok (.iaload, 1) := by decide +kernel
theorem s_65_98 {d : Nat} {Q : wQ} {L : List (Option Value)} {st : List Value} {w : aw} {cn sn : Nat} {a : Nat} {i : Int32} : wp d 65 Q 98 L (.int i :: .ref a :: st) w cn sn = ((kd w a = 20 ∨ kd w a = 30) ∧ inR i (ln w a) ∧ wp d 65 Q 99 L (.int (ai w a i.toNatClampNeg) :: st) w cn sn) := wp_row d_65_98 _ _ _ _ _
theorem d_65_99 : decode (mB 65) 99 = .ok (.ifCond .ne 57, 3) := by decide +kernel
theorem s_65_99 {d : Nat} {Q : wQ} {L : List (Option Value)} {st : List Value} {w : aw} {cn sn : Nat} {x : Int32} : wp d 65 Q 99 L (.int x :: st) w cn sn = ((¬ x = 0 → wp d 65 Q 156 L st w cn sn) ∧ (x = 0 → wp d 65 Q 102 L st w cn sn)) := w_ifne d_65_99 (by decide)
theorem d_65_102 : decode (mB 65) 102 = .ok (.aload_n 0, 1) := by decide +kernel
theorem s_65_102 {d : Nat} {Q : wQ} {L : List (Option Value)} {st : List Value} {w : aw} {cn sn : Nat} {v : Nat} : wp d 65 Q 102 (some (.ref v) :: L) st w cn sn = wp d 65 Q 103 (some (.ref v) :: L) (.ref v :: st) w cn sn := w_aload_n d_65_102 rfl
theorem d_65_103 : decode (mB 65) 103 = .ok (.invokevirtual 41, 3) := by decide +kernel
theorem s_65_103 {d : Nat} {Q : wQ} {L : List (Option Value)} {st : List Value} {w : aw} {cn sn : Nat} {b : Nat} : wp d 65 Q 103 L (.ref b :: st) w cn sn = (kd w b = 7 ∧ catS st ≤ 8 ∧ wpD d 63 [.ref b] w (fun v w' => wp d 65 Q 106 L (v.toList ++ st) w' cn sn)) := w_virtual (As := []) d_65_103 (by decide +kernel : cT (mO 65) 41 = some (0, 63)) rfl (by decide +kernel) rfl (by decide +kernel) rfl
theorem d_65_106 : decode (mB 65) 106 = .ok (.goto 50, 3) := by decide +kernel
theorem s_65_106 {d : Nat} {Q : wQ} {L : List (Option Value)} {st : List Value} {w : aw} {cn sn : Nat}  : wp d 65 Q 106 L st w cn sn = wp d 65 Q 156 L st w cn sn := w_goto d_65_106 (by decide)
theorem d_65_109 : decode (mB 65) 109 = .ok (.aload_n 0, 1) := by decide +kernel
theorem s_65_109 {d : Nat} {Q : wQ} {L : List (Option Value)} {st : List Value} {w : aw} {cn sn : Nat} {v : Nat} : wp d 65 Q 109 (some (.ref v) :: L) st w cn sn = wp d 65 Q 110 (some (.ref v) :: L) (.ref v :: st) w cn sn := w_aload_n d_65_109 rfl
theorem d_65_110 : decode (mB 65) 110 = .ok (.getfield 9, 3) := by decide +kernel
theorem s_65_110 {d : Nat} {Q : wQ} {L : List (Option Value)} {st : List Value} {w : aw} {cn sn : Nat} {a : Nat} : wp d 65 Q 110 L (.ref a :: st) w cn sn = (kd w a = 7 ∧ wp d 65 Q 113 L (fd w 385 a :: st) w cn sn) := w_getfield d_65_110 (by decide +kernel : fT (mO 65) 9 = some (6, 1))
theorem d_65_113 : decode (mB 65) 113 = .ok (.iload_n 3, 1) := by decide +kernel
theorem s_65_113 {d : Nat} {Q : wQ} {L : List (Option Value)} {st : List Value} {w : aw} {cn sn : Nat} {a0 a1 a2 : Option Value} {v : Int32} : wp d 65 Q 113 (a0 :: a1 :: a2 :: some (.int v) :: L) st w cn sn = wp d 65 Q 114 (a0 :: a1 :: a2 :: some (.int v) :: L) (.int v :: st) w cn sn := w_iload_n d_65_113 rfl
theorem d_65_114 : decode (mB 65) 114 = .ok (.aload_n 0, 1) := by decide +kernel
theorem s_65_114 {d : Nat} {Q : wQ} {L : List (Option Value)} {st : List Value} {w : aw} {cn sn : Nat} {v : Nat} : wp d 65 Q 114 (some (.ref v) :: L) st w cn sn = wp d 65 Q 115 (some (.ref v) :: L) (.ref v :: st) w cn sn := w_aload_n d_65_114 rfl
theorem d_65_115 : decode (mB 65) 115 = .ok (.getfield 58, 3) := by decide +kernel
theorem s_65_115 {d : Nat} {Q : wQ} {L : List (Option Value)} {st : List Value} {w : aw} {cn sn : Nat} {a : Nat} : wp d 65 Q 115 L (.ref a :: st) w cn sn = (kd w a = 7 ∧ wp d 65 Q 118 L (fd w 391 a :: st) w cn sn) := w_getfield d_65_115 (by decide +kernel : fT (mO 65) 58 = some (6, 7))
theorem d_65_118 : decode (mB 65) 118 = .ok (.iastore, 1) := by decide +kernel
theorem s_65_118 {d : Nat} {Q : wQ} {L : List (Option Value)} {st : List Value} {w : aw} {cn sn : Nat} {a : Nat} {i x : Int32} : wp d 65 Q 118 L (.int x :: .int i :: .ref a :: st) w cn sn = (kd w a = 20 ∧ inR i (ln w a) ∧ wp d 65 Q 119 L st (uA w a i.toNatClampNeg x) cn sn) := wp_row d_65_118 _ _ _ _ _
theorem d_65_119 : decode (mB 65) 119 = .ok (.aload_n 0, 1) := by decide +kernel
theorem s_65_119 {d : Nat} {Q : wQ} {L : List (Option Value)} {st : List Value} {w : aw} {cn sn : Nat} {v : Nat} : wp d 65 Q 119 (some (.ref v) :: L) st w cn sn = wp d 65 Q 120 (some (.ref v) :: L) (.ref v :: st) w cn sn := w_aload_n d_65_119 rfl
theorem d_65_120 : decode (mB 65) 120 = .ok (.iconst 0, 1) := by decide +kernel
theorem s_65_120 {d : Nat} {Q : wQ} {L : List (Option Value)} {st : List Value} {w : aw} {cn sn : Nat}  : wp d 65 Q 120 L st w cn sn = wp d 65 Q 121 L (.int 0 :: st) w cn sn := w_iconst d_65_120 (by decide)
theorem d_65_121 : decode (mB 65) 121 = .ok (.putfield 58, 3) := by decide +kernel
theorem s_65_121 {d : Nat} {Q : wQ} {L : List (Option Value)} {st : List Value} {w : aw} {cn sn : Nat} {x : Int32} {a : Nat} : wp d 65 Q 121 L (.int x :: .ref a :: st) w cn sn = (kd w a = 7 ∧ wp d 65 Q 124 L st (uF w 391 a (.int x)) cn sn) := w_putfield d_65_121 (by decide +kernel : fT (mO 65) 58 = some (6, 7)) (by decide +kernel) ok_int
theorem d_65_124 : decode (mB 65) 124 = .ok (.goto 32, 3) := by decide +kernel
theorem s_65_124 {d : Nat} {Q : wQ} {L : List (Option Value)} {st : List Value} {w : aw} {cn sn : Nat}  : wp d 65 Q 124 L st w cn sn = wp d 65 Q 156 L st w cn sn := w_goto d_65_124 (by decide)
theorem d_65_127 : decode (mB 65) 127 = .ok (.aload_n 0, 1) := by decide +kernel
theorem s_65_127 {d : Nat} {Q : wQ} {L : List (Option Value)} {st : List Value} {w : aw} {cn sn : Nat} {v : Nat} : wp d 65 Q 127 (some (.ref v) :: L) st w cn sn = wp d 65 Q 128 (some (.ref v) :: L) (.ref v :: st) w cn sn := w_aload_n d_65_127 rfl
theorem d_65_128 : decode (mB 65) 128 = .ok (.getfield 9, 3) := by decide +kernel
theorem s_65_128 {d : Nat} {Q : wQ} {L : List (Option Value)} {st : List Value} {w : aw} {cn sn : Nat} {a : Nat} : wp d 65 Q 128 L (.ref a :: st) w cn sn = (kd w a = 7 ∧ wp d 65 Q 131 L (fd w 385 a :: st) w cn sn) := w_getfield d_65_128 (by decide +kernel : fT (mO 65) 9 = some (6, 1))
theorem d_65_131 : decode (mB 65) 131 = .ok (.iload_n 3, 1) := by decide +kernel
theorem s_65_131 {d : Nat} {Q : wQ} {L : List (Option Value)} {st : List Value} {w : aw} {cn sn : Nat} {a0 a1 a2 : Option Value} {v : Int32} : wp d 65 Q 131 (a0 :: a1 :: a2 :: some (.int v) :: L) st w cn sn = wp d 65 Q 132 (a0 :: a1 :: a2 :: some (.int v) :: L) (.int v :: st) w cn sn := w_iload_n d_65_131 rfl
theorem d_65_132 : decode (mB 65) 132 = .ok (.aload_n 0, 1) := by decide +kernel
theorem s_65_132 {d : Nat} {Q : wQ} {L : List (Option Value)} {st : List Value} {w : aw} {cn sn : Nat} {v : Nat} : wp d 65 Q 132 (some (.ref v) :: L) st w cn sn = wp d 65 Q 133 (some (.ref v) :: L) (.ref v :: st) w cn sn := w_aload_n d_65_132 rfl
theorem d_65_133 : decode (mB 65) 133 = .ok (.getfield 35, 3) := by decide +kernel
theorem s_65_133 {d : Nat} {Q : wQ} {L : List (Option Value)} {st : List Value} {w : aw} {cn sn : Nat} {a : Nat} : wp d 65 Q 133 L (.ref a :: st) w cn sn = (kd w a = 7 ∧ wp d 65 Q 136 L (fd w 390 a :: st) w cn sn) := w_getfield d_65_133 (by decide +kernel : fT (mO 65) 35 = some (6, 6))
theorem d_65_136 : decode (mB 65) 136 = .ok (.iastore, 1) := by decide +kernel
theorem s_65_136 {d : Nat} {Q : wQ} {L : List (Option Value)} {st : List Value} {w : aw} {cn sn : Nat} {a : Nat} {i x : Int32} : wp d 65 Q 136 L (.int x :: .int i :: .ref a :: st) w cn sn = (kd w a = 20 ∧ inR i (ln w a) ∧ wp d 65 Q 137 L st (uA w a i.toNatClampNeg x) cn sn) := wp_row d_65_136 _ _ _ _ _
theorem d_65_137 : decode (mB 65) 137 = .ok (.aload_n 0, 1) := by decide +kernel
theorem s_65_137 {d : Nat} {Q : wQ} {L : List (Option Value)} {st : List Value} {w : aw} {cn sn : Nat} {v : Nat} : wp d 65 Q 137 (some (.ref v) :: L) st w cn sn = wp d 65 Q 138 (some (.ref v) :: L) (.ref v :: st) w cn sn := w_aload_n d_65_137 rfl
theorem d_65_138 : decode (mB 65) 138 = .ok (.iload_n 3, 1) := by decide +kernel
theorem s_65_138 {d : Nat} {Q : wQ} {L : List (Option Value)} {st : List Value} {w : aw} {cn sn : Nat} {a0 a1 a2 : Option Value} {v : Int32} : wp d 65 Q 138 (a0 :: a1 :: a2 :: some (.int v) :: L) st w cn sn = wp d 65 Q 139 (a0 :: a1 :: a2 :: some (.int v) :: L) (.int v :: st) w cn sn := w_iload_n d_65_138 rfl
theorem d_65_139 : decode (mB 65) 139 = .ok (.iconst 1, 1) := by decide +kernel
theorem s_65_139 {d : Nat} {Q : wQ} {L : List (Option Value)} {st : List Value} {w : aw} {cn sn : Nat}  : wp d 65 Q 139 L st w cn sn = wp d 65 Q 140 L (.int 1 :: st) w cn sn := w_iconst d_65_139 (by decide)
theorem d_65_140 : decode (mB 65) 140 = .ok (.iadd, 1) := by decide +kernel
theorem s_65_140 {d : Nat} {Q : wQ} {L : List (Option Value)} {st : List Value} {w : aw} {cn sn : Nat} {a b : Int32} : wp d 65 Q 140 L (.int b :: .int a :: st) w cn sn = wp d 65 Q 141 L (.int (a + b) :: st) w cn sn := wp_row d_65_140 _ _ _ _ _
theorem d_65_141 : decode (mB 65) 141 = .ok (.sipush 4095, 3) := by decide +kernel
theorem s_65_141 {d : Nat} {Q : wQ} {L : List (Option Value)} {st : List Value} {w : aw} {cn sn : Nat}  : wp d 65 Q 141 L st w cn sn = wp d 65 Q 144 L (.int 4095 :: st) w cn sn := w_sipush d_65_141 (by decide)
theorem d_65_144 : decode (mB 65) 144 = .ok (.iand, 1) := by decide +kernel
theorem s_65_144 {d : Nat} {Q : wQ} {L : List (Option Value)} {st : List Value} {w : aw} {cn sn : Nat} {a b : Int32} : wp d 65 Q 144 L (.int b :: .int a :: st) w cn sn = wp d 65 Q 145 L (.int (a &&& b) :: st) w cn sn := wp_row d_65_144 _ _ _ _ _
theorem d_65_145 : decode (mB 65) 145 = .ok (.putfield 35, 3) := by decide +kernel
theorem s_65_145 {d : Nat} {Q : wQ} {L : List (Option Value)} {st : List Value} {w : aw} {cn sn : Nat} {x : Int32} {a : Nat} : wp d 65 Q 145 L (.int x :: .ref a :: st) w cn sn = (kd w a = 7 ∧ wp d 65 Q 148 L st (uF w 390 a (.int x)) cn sn) := w_putfield d_65_145 (by decide +kernel : fT (mO 65) 35 = some (6, 6)) (by decide +kernel) ok_int
theorem d_65_148 : decode (mB 65) 148 = .ok (.goto 8, 3) := by decide +kernel
theorem s_65_148 {d : Nat} {Q : wQ} {L : List (Option Value)} {st : List Value} {w : aw} {cn sn : Nat}  : wp d 65 Q 148 L st w cn sn = wp d 65 Q 156 L st w cn sn := w_goto d_65_148 (by decide)
theorem d_65_151 : decode (mB 65) 151 = .ok (.aload_n 0, 1) := by decide +kernel
theorem s_65_151 {d : Nat} {Q : wQ} {L : List (Option Value)} {st : List Value} {w : aw} {cn sn : Nat} {v : Nat} : wp d 65 Q 151 (some (.ref v) :: L) st w cn sn = wp d 65 Q 152 (some (.ref v) :: L) (.ref v :: st) w cn sn := w_aload_n d_65_151 rfl
theorem d_65_152 : decode (mB 65) 152 = .ok (.iload_n 3, 1) := by decide +kernel
theorem s_65_152 {d : Nat} {Q : wQ} {L : List (Option Value)} {st : List Value} {w : aw} {cn sn : Nat} {a0 a1 a2 : Option Value} {v : Int32} : wp d 65 Q 152 (a0 :: a1 :: a2 :: some (.int v) :: L) st w cn sn = wp d 65 Q 153 (a0 :: a1 :: a2 :: some (.int v) :: L) (.int v :: st) w cn sn := w_iload_n d_65_152 rfl
theorem d_65_153 : decode (mB 65) 153 = .ok (.putfield 35, 3) := by decide +kernel
theorem s_65_153 {d : Nat} {Q : wQ} {L : List (Option Value)} {st : List Value} {w : aw} {cn sn : Nat} {x : Int32} {a : Nat} : wp d 65 Q 153 L (.int x :: .ref a :: st) w cn sn = (kd w a = 7 ∧ wp d 65 Q 156 L st (uF w 390 a (.int x)) cn sn) := w_putfield d_65_153 (by decide +kernel : fT (mO 65) 35 = some (6, 6)) (by decide +kernel) ok_int
theorem d_65_156 : decode (mB 65) 156 = .ok (.return_, 1) := by decide +kernel
theorem s_65_156 {d : Nat} {Q : wQ} {L : List (Option Value)} {w : aw} {cn sn : Nat}  : wp d 65 Q 156 L [] w cn sn = Q none w := w_return d_65_156 rfl
theorem d_66_0 : decode (mB 66) 0 = .ok (.iload_n 1, 1) := by decide +kernel
theorem s_66_0 {d : Nat} {Q : wQ} {L : List (Option Value)} {st : List Value} {w : aw} {cn sn : Nat} {a0 : Option Value} {v : Int32} : wp d 66 Q 0 (a0 :: some (.int v) :: L) st w cn sn = wp d 66 Q 1 (a0 :: some (.int v) :: L) (.int v :: st) w cn sn := w_iload_n d_66_0 rfl
theorem d_66_1 : decode (mB 66) 1 = .ok (.bipush 127, 2) := by decide +kernel
theorem s_66_1 {d : Nat} {Q : wQ} {L : List (Option Value)} {st : List Value} {w : aw} {cn sn : Nat}  : wp d 66 Q 1 L st w cn sn = wp d 66 Q 3 L (.int 127 :: st) w cn sn := w_bipush d_66_1 (by decide)
theorem d_66_3 : decode (mB 66) 3 = .ok (.iand, 1) := by decide +kernel
theorem s_66_3 {d : Nat} {Q : wQ} {L : List (Option Value)} {st : List Value} {w : aw} {cn sn : Nat} {a b : Int32} : wp d 66 Q 3 L (.int b :: .int a :: st) w cn sn = wp d 66 Q 4 L (.int (a &&& b) :: st) w cn sn := wp_row d_66_3 _ _ _ _ _
theorem d_66_4 : decode (mB 66) 4 = .ok (.istore_n 3, 1) := by decide +kernel
theorem s_66_4 {d : Nat} {Q : wQ} {L : List (Option Value)} {st : List Value} {w : aw} {cn sn : Nat} {a0 a1 a2 a3 : Option Value} {v : Int32} : wp d 66 Q 4 (a0 :: a1 :: a2 :: a3 :: L) (.int v :: st) w cn sn = wp d 66 Q 5 (a0 :: a1 :: clr a2 :: some (.int v) :: L) st w cn sn := w_istore_n d_66_4 (Nat.le_add_left 4 _) rfl
theorem d_66_5 : decode (mB 66) 5 = .ok (.iload_n 1, 1) := by decide +kernel
theorem s_66_5 {d : Nat} {Q : wQ} {L : List (Option Value)} {st : List Value} {w : aw} {cn sn : Nat} {a0 : Option Value} {v : Int32} : wp d 66 Q 5 (a0 :: some (.int v) :: L) st w cn sn = wp d 66 Q 6 (a0 :: some (.int v) :: L) (.int v :: st) w cn sn := w_iload_n d_66_5 rfl
theorem d_66_6 : decode (mB 66) 6 = .ok (.sipush 128, 3) := by decide +kernel
theorem s_66_6 {d : Nat} {Q : wQ} {L : List (Option Value)} {st : List Value} {w : aw} {cn sn : Nat}  : wp d 66 Q 6 L st w cn sn = wp d 66 Q 9 L (.int 128 :: st) w cn sn := w_sipush d_66_6 (by decide)
theorem d_66_9 : decode (mB 66) 9 = .ok (.iand, 1) := by decide +kernel
theorem s_66_9 {d : Nat} {Q : wQ} {L : List (Option Value)} {st : List Value} {w : aw} {cn sn : Nat} {a b : Int32} : wp d 66 Q 9 L (.int b :: .int a :: st) w cn sn = wp d 66 Q 10 L (.int (a &&& b) :: st) w cn sn := wp_row d_66_9 _ _ _ _ _
theorem d_66_10 : decode (mB 66) 10 = .ok (.ifCond .eq 11, 3) := by decide +kernel
theorem s_66_10 {d : Nat} {Q : wQ} {L : List (Option Value)} {st : List Value} {w : aw} {cn sn : Nat} {x : Int32} : wp d 66 Q 10 L (.int x :: st) w cn sn = ((x = 0 → wp d 66 Q 21 L st w cn sn) ∧ (¬ x = 0 → wp d 66 Q 13 L st w cn sn)) := w_ifeq d_66_10 (by decide)
theorem d_66_13 : decode (mB 66) 13 = .ok (.iload_n 3, 1) := by decide +kernel
theorem s_66_13 {d : Nat} {Q : wQ} {L : List (Option Value)} {st : List Value} {w : aw} {cn sn : Nat} {a0 a1 a2 : Option Value} {v : Int32} : wp d 66 Q 13 (a0 :: a1 :: a2 :: some (.int v) :: L) st w cn sn = wp d 66 Q 14 (a0 :: a1 :: a2 :: some (.int v) :: L) (.int v :: st) w cn sn := w_iload_n d_66_13 rfl
theorem d_66_14 : decode (mB 66) 14 = .ok (.iload_n 2, 1) := by decide +kernel
theorem s_66_14 {d : Nat} {Q : wQ} {L : List (Option Value)} {st : List Value} {w : aw} {cn sn : Nat} {a0 a1 : Option Value} {v : Int32} : wp d 66 Q 14 (a0 :: a1 :: some (.int v) :: L) st w cn sn = wp d 66 Q 15 (a0 :: a1 :: some (.int v) :: L) (.int v :: st) w cn sn := w_iload_n d_66_14 rfl
theorem d_66_15 : decode (mB 66) 15 = .ok (.sipush 3968, 3) := by decide +kernel
theorem s_66_15 {d : Nat} {Q : wQ} {L : List (Option Value)} {st : List Value} {w : aw} {cn sn : Nat}  : wp d 66 Q 15 L st w cn sn = wp d 66 Q 18 L (.int 3968 :: st) w cn sn := w_sipush d_66_15 (by decide)
theorem d_66_18 : decode (mB 66) 18 = .ok (.iand, 1) := by decide +kernel
theorem s_66_18 {d : Nat} {Q : wQ} {L : List (Option Value)} {st : List Value} {w : aw} {cn sn : Nat} {a b : Int32} : wp d 66 Q 18 L (.int b :: .int a :: st) w cn sn = wp d 66 Q 19 L (.int (a &&& b) :: st) w cn sn := wp_row d_66_18 _ _ _ _ _
theorem d_66_19 : decode (mB 66) 19 = .ok (.ior, 1) := by decide +kernel
theorem s_66_19 {d : Nat} {Q : wQ} {L : List (Option Value)} {st : List Value} {w : aw} {cn sn : Nat} {a b : Int32} : wp d 66 Q 19 L (.int b :: .int a :: st) w cn sn = wp d 66 Q 20 L (.int (a ||| b) :: st) w cn sn := wp_row d_66_19 _ _ _ _ _
theorem d_66_20 : decode (mB 66) 20 = .ok (.istore_n 3, 1) := by decide +kernel
theorem s_66_20 {d : Nat} {Q : wQ} {L : List (Option Value)} {st : List Value} {w : aw} {cn sn : Nat} {a0 a1 a2 a3 : Option Value} {v : Int32} : wp d 66 Q 20 (a0 :: a1 :: a2 :: a3 :: L) (.int v :: st) w cn sn = wp d 66 Q 21 (a0 :: a1 :: clr a2 :: some (.int v) :: L) st w cn sn := w_istore_n d_66_20 (Nat.le_add_left 4 _) rfl
theorem d_66_21 : decode (mB 66) 21 = .ok (.iload_n 1, 1) := by decide +kernel
theorem s_66_21 {d : Nat} {Q : wQ} {L : List (Option Value)} {st : List Value} {w : aw} {cn sn : Nat} {a0 : Option Value} {v : Int32} : wp d 66 Q 21 (a0 :: some (.int v) :: L) st w cn sn = wp d 66 Q 22 (a0 :: some (.int v) :: L) (.int v :: st) w cn sn := w_iload_n d_66_21 rfl
theorem d_66_22 : decode (mB 66) 22 = .ok (.sipush 256, 3) := by decide +kernel
theorem s_66_22 {d : Nat} {Q : wQ} {L : List (Option Value)} {st : List Value} {w : aw} {cn sn : Nat}  : wp d 66 Q 22 L st w cn sn = wp d 66 Q 25 L (.int 256 :: st) w cn sn := w_sipush d_66_22 (by decide)
theorem d_66_25 : decode (mB 66) 25 = .ok (.iand, 1) := by decide +kernel
theorem s_66_25 {d : Nat} {Q : wQ} {L : List (Option Value)} {st : List Value} {w : aw} {cn sn : Nat} {a b : Int32} : wp d 66 Q 25 L (.int b :: .int a :: st) w cn sn = wp d 66 Q 26 L (.int (a &&& b) :: st) w cn sn := wp_row d_66_25 _ _ _ _ _
theorem d_66_26 : decode (mB 66) 26 = .ok (.ifCond .ne 5, 3) := by decide +kernel
theorem s_66_26 {d : Nat} {Q : wQ} {L : List (Option Value)} {st : List Value} {w : aw} {cn sn : Nat} {x : Int32} : wp d 66 Q 26 L (.int x :: st) w cn sn = ((¬ x = 0 → wp d 66 Q 31 L st w cn sn) ∧ (x = 0 → wp d 66 Q 29 L st w cn sn)) := w_ifne d_66_26 (by decide)
theorem d_66_29 : decode (mB 66) 29 = .ok (.iload_n 3, 1) := by decide +kernel
theorem s_66_29 {d : Nat} {Q : wQ} {L : List (Option Value)} {st : List Value} {w : aw} {cn sn : Nat} {a0 a1 a2 : Option Value} {v : Int32} : wp d 66 Q 29 (a0 :: a1 :: a2 :: some (.int v) :: L) st w cn sn = wp d 66 Q 30 (a0 :: a1 :: a2 :: some (.int v) :: L) (.int v :: st) w cn sn := w_iload_n d_66_29 rfl
theorem d_66_30 : decode (mB 66) 30 = .ok (.ireturn, 1) := by decide +kernel
theorem s_66_30 {d : Nat} {Q : wQ} {L : List (Option Value)} {w : aw} {cn sn : Nat} {v : Int32} : wp d 66 Q 30 L [.int v] w cn sn = Q (some (.int v)) w := w_ireturn d_66_30 rfl
theorem d_66_31 : decode (mB 66) 31 = .ok (.iload_n 3, 1) := by decide +kernel
theorem s_66_31 {d : Nat} {Q : wQ} {L : List (Option Value)} {st : List Value} {w : aw} {cn sn : Nat} {a0 a1 a2 : Option Value} {v : Int32} : wp d 66 Q 31 (a0 :: a1 :: a2 :: some (.int v) :: L) st w cn sn = wp d 66 Q 32 (a0 :: a1 :: a2 :: some (.int v) :: L) (.int v :: st) w cn sn := w_iload_n d_66_31 rfl
theorem d_66_32 : decode (mB 66) 32 = .ok (.bipush 8, 2) := by decide +kernel
theorem s_66_32 {d : Nat} {Q : wQ} {L : List (Option Value)} {st : List Value} {w : aw} {cn sn : Nat}  : wp d 66 Q 32 L st w cn sn = wp d 66 Q 34 L (.int 8 :: st) w cn sn := w_bipush d_66_32 (by decide)
theorem d_66_34 : decode (mB 66) 34 = .ok (.if_icmp .lt 27, 3) := by decide +kernel
theorem s_66_34 {d : Nat} {Q : wQ} {L : List (Option Value)} {st : List Value} {w : aw} {cn sn : Nat} {a b : Int32} : wp d 66 Q 34 L (.int b :: .int a :: st) w cn sn = ((a < b → wp d 66 Q 61 L st w cn sn) ∧ (¬ a < b → wp d 66 Q 37 L st w cn sn)) := w_iclt d_66_34 (by decide)
theorem d_66_37 : decode (mB 66) 37 = .ok (.iload_n 3, 1) := by decide +kernel
theorem s_66_37 {d : Nat} {Q : wQ} {L : List (Option Value)} {st : List Value} {w : aw} {cn sn : Nat} {a0 a1 a2 : Option Value} {v : Int32} : wp d 66 Q 37 (a0 :: a1 :: a2 :: some (.int v) :: L) st w cn sn = wp d 66 Q 38 (a0 :: a1 :: a2 :: some (.int v) :: L) (.int v :: st) w cn sn := w_iload_n d_66_37 rfl
theorem d_66_38 : decode (mB 66) 38 = .ok (.bipush 15, 2) := by decide +kernel
theorem s_66_38 {d : Nat} {Q : wQ} {L : List (Option Value)} {st : List Value} {w : aw} {cn sn : Nat}  : wp d 66 Q 38 L st w cn sn = wp d 66 Q 40 L (.int 15 :: st) w cn sn := w_bipush d_66_38 (by decide)
theorem d_66_40 : decode (mB 66) 40 = .ok (.if_icmp .gt 21, 3) := by decide +kernel
theorem s_66_40 {d : Nat} {Q : wQ} {L : List (Option Value)} {st : List Value} {w : aw} {cn sn : Nat} {a b : Int32} : wp d 66 Q 40 L (.int b :: .int a :: st) w cn sn = ((b < a → wp d 66 Q 61 L st w cn sn) ∧ (¬ b < a → wp d 66 Q 43 L st w cn sn)) := w_icgt d_66_40 (by decide)
theorem d_66_43 : decode (mB 66) 43 = .ok (.aload_n 0, 1) := by decide +kernel
theorem s_66_43 {d : Nat} {Q : wQ} {L : List (Option Value)} {st : List Value} {w : aw} {cn sn : Nat} {v : Nat} : wp d 66 Q 43 (some (.ref v) :: L) st w cn sn = wp d 66 Q 44 (some (.ref v) :: L) (.ref v :: st) w cn sn := w_aload_n d_66_43 rfl
theorem d_66_44 : decode (mB 66) 44 = .ok (.getfield 9, 3) := by decide +kernel
theorem s_66_44 {d : Nat} {Q : wQ} {L : List (Option Value)} {st : List Value} {w : aw} {cn sn : Nat} {a : Nat} : wp d 66 Q 44 L (.ref a :: st) w cn sn = (kd w a = 7 ∧ wp d 66 Q 47 L (fd w 385 a :: st) w cn sn) := w_getfield d_66_44 (by decide +kernel : fT (mO 66) 9 = some (6, 1))
theorem d_66_47 : decode (mB 66) 47 = .ok (.iload_n 3, 1) := by decide +kernel
theorem s_66_47 {d : Nat} {Q : wQ} {L : List (Option Value)} {st : List Value} {w : aw} {cn sn : Nat} {a0 a1 a2 : Option Value} {v : Int32} : wp d 66 Q 47 (a0 :: a1 :: a2 :: some (.int v) :: L) st w cn sn = wp d 66 Q 48 (a0 :: a1 :: a2 :: some (.int v) :: L) (.int v :: st) w cn sn := w_iload_n d_66_47 rfl
theorem d_66_48 : decode (mB 66) 48 = .ok (.aload_n 0, 1) := by decide +kernel
theorem s_66_48 {d : Nat} {Q : wQ} {L : List (Option Value)} {st : List Value} {w : aw} {cn sn : Nat} {v : Nat} : wp d 66 Q 48 (some (.ref v) :: L) st w cn sn = wp d 66 Q 49 (some (.ref v) :: L) (.ref v :: st) w cn sn := w_aload_n d_66_48 rfl
theorem d_66_49 : decode (mB 66) 49 = .ok (.getfield 9, 3) := by decide +kernel
theorem s_66_49 {d : Nat} {Q : wQ} {L : List (Option Value)} {st : List Value} {w : aw} {cn sn : Nat} {a : Nat} : wp d 66 Q 49 L (.ref a :: st) w cn sn = (kd w a = 7 ∧ wp d 66 Q 52 L (fd w 385 a :: st) w cn sn) := w_getfield d_66_49 (by decide +kernel : fT (mO 66) 9 = some (6, 1))
theorem d_66_52 : decode (mB 66) 52 = .ok (.iload_n 3, 1) := by decide +kernel
theorem s_66_52 {d : Nat} {Q : wQ} {L : List (Option Value)} {st : List Value} {w : aw} {cn sn : Nat} {a0 a1 a2 : Option Value} {v : Int32} : wp d 66 Q 52 (a0 :: a1 :: a2 :: some (.int v) :: L) st w cn sn = wp d 66 Q 53 (a0 :: a1 :: a2 :: some (.int v) :: L) (.int v :: st) w cn sn := w_iload_n d_66_52 rfl
theorem d_66_53 : decode (mB 66) 53 = .ok (.iaload, 1) := by decide +kernel
theorem s_66_53 {d : Nat} {Q : wQ} {L : List (Option Value)} {st : List Value} {w : aw} {cn sn : Nat} {a : Nat} {i : Int32} : wp d 66 Q 53 L (.int i :: .ref a :: st) w cn sn = ((kd w a = 20 ∨ kd w a = 30) ∧ inR i (ln w a) ∧ wp d 66 Q 54 L (.int (ai w a i.toNatClampNeg) :: st) w cn sn) := wp_row d_66_53 _ _ _ _ _
theorem d_66_54 : decode (mB 66) 54 = .ok (.iconst 1, 1) := by decide +kernel
theorem s_66_54 {d : Nat} {Q : wQ} {L : List (Option Value)} {st : List Value} {w : aw} {cn sn : Nat}  : wp d 66 Q 54 L st w cn sn = wp d 66 Q 55 L (.int 1 :: st) w cn sn := w_iconst d_66_54 (by decide)
theorem d_66_55 : decode (mB 66) 55 = .ok (.iadd, 1) := by decide +kernel
theorem s_66_55 {d : Nat} {Q : wQ} {L : List (Option Value)} {st : List Value} {w : aw} {cn sn : Nat} {a b : Int32} : wp d 66 Q 55 L (.int b :: .int a :: st) w cn sn = wp d 66 Q 56 L (.int (a + b) :: st) w cn sn := wp_row d_66_55 _ _ _ _ _
theorem d_66_56 : decode (mB 66) 56 = .ok (.sipush 4095, 3) := by decide +kernel
theorem s_66_56 {d : Nat} {Q : wQ} {L : List (Option Value)} {st : List Value} {w : aw} {cn sn : Nat}  : wp d 66 Q 56 L st w cn sn = wp d 66 Q 59 L (.int 4095 :: st) w cn sn := w_sipush d_66_56 (by decide)
theorem d_66_59 : decode (mB 66) 59 = .ok (.iand, 1) := by decide +kernel
theorem s_66_59 {d : Nat} {Q : wQ} {L : List (Option Value)} {st : List Value} {w : aw} {cn sn : Nat} {a b : Int32} : wp d 66 Q 59 L (.int b :: .int a :: st) w cn sn = wp d 66 Q 60 L (.int (a &&& b) :: st) w cn sn := wp_row d_66_59 _ _ _ _ _
theorem d_66_60 : decode (mB 66) 60 = .ok (.iastore, 1) := by decide +kernel
theorem s_66_60 {d : Nat} {Q : wQ} {L : List (Option Value)} {st : List Value} {w : aw} {cn sn : Nat} {a : Nat} {i x : Int32} : wp d 66 Q 60 L (.int x :: .int i :: .ref a :: st) w cn sn = (kd w a = 20 ∧ inR i (ln w a) ∧ wp d 66 Q 61 L st (uA w a i.toNatClampNeg x) cn sn) := wp_row d_66_60 _ _ _ _ _
theorem d_66_61 : decode (mB 66) 61 = .ok (.aload_n 0, 1) := by decide +kernel
theorem s_66_61 {d : Nat} {Q : wQ} {L : List (Option Value)} {st : List Value} {w : aw} {cn sn : Nat} {v : Nat} : wp d 66 Q 61 (some (.ref v) :: L) st w cn sn = wp d 66 Q 62 (some (.ref v) :: L) (.ref v :: st) w cn sn := w_aload_n d_66_61 rfl
theorem d_66_62 : decode (mB 66) 62 = .ok (.getfield 9, 3) := by decide +kernel
theorem s_66_62 {d : Nat} {Q : wQ} {L : List (Option Value)} {st : List Value} {w : aw} {cn sn : Nat} {a : Nat} : wp d 66 Q 62 L (.ref a :: st) w cn sn = (kd w a = 7 ∧ wp d 66 Q 65 L (fd w 385 a :: st) w cn sn) := w_getfield d_66_62 (by decide +kernel : fT (mO 66) 9 = some (6, 1))
theorem d_66_65 : decode (mB 66) 65 = .ok (.iload_n 3, 1) := by decide +kernel
theorem s_66_65 {d : Nat} {Q : wQ} {L : List (Option Value)} {st : List Value} {w : aw} {cn sn : Nat} {a0 a1 a2 : Option Value} {v : Int32} : wp d 66 Q 65 (a0 :: a1 :: a2 :: some (.int v) :: L) st w cn sn = wp d 66 Q 66 (a0 :: a1 :: a2 :: some (.int v) :: L) (.int v :: st) w cn sn := w_iload_n d_66_65 rfl
theorem d_66_66 : decode (mB 66) 66 = .ok (.iaload, 1) := by decide +kernel
theorem s_66_66 {d : Nat} {Q : wQ} {L : List (Option Value)} {st : List Value} {w : aw} {cn sn : Nat} {a : Nat} {i : Int32} : wp d 66 Q 66 L (.int i :: .ref a :: st) w cn sn = ((kd w a = 20 ∨ kd w a = 30) ∧ inR i (ln w a) ∧ wp d 66 Q 67 L (.int (ai w a i.toNatClampNeg) :: st) w cn sn) := wp_row d_66_66 _ _ _ _ _
theorem d_66_67 : decode (mB 66) 67 = .ok (.sipush 4095, 3) := by decide +kernel
theorem s_66_67 {d : Nat} {Q : wQ} {L : List (Option Value)} {st : List Value} {w : aw} {cn sn : Nat}  : wp d 66 Q 67 L st w cn sn = wp d 66 Q 70 L (.int 4095 :: st) w cn sn := w_sipush d_66_67 (by decide)
theorem d_66_70 : decode (mB 66) 70 = .ok (.iand, 1) := by decide +kernel
theorem s_66_70 {d : Nat} {Q : wQ} {L : List (Option Value)} {st : List Value} {w : aw} {cn sn : Nat} {a b : Int32} : wp d 66 Q 70 L (.int b :: .int a :: st) w cn sn = wp d 66 Q 71 L (.int (a &&& b) :: st) w cn sn := wp_row d_66_70 _ _ _ _ _
theorem d_66_71 : decode (mB 66) 71 = .ok (.ireturn, 1) := by decide +kernel
theorem s_66_71 {d : Nat} {Q : wQ} {L : List (Option Value)} {w : aw} {cn sn : Nat} {v : Int32} : wp d 66 Q 71 L [.int v] w cn sn = Q (some (.int v)) w := w_ireturn d_66_71 rfl
theorem d_67_0 : decode (mB 67) 0 = .ok (.iload_n 1, 1) := by decide +kernel
theorem s_67_0 {d : Nat} {Q : wQ} {L : List (Option Value)} {st : List Value} {w : aw} {cn sn : Nat} {a0 : Option Value} {v : Int32} : wp d 67 Q 0 (a0 :: some (.int v) :: L) st w cn sn = wp d 67 Q 1 (a0 :: some (.int v) :: L) (.int v :: st) w cn sn := w_iload_n d_67_0 rfl
theorem d_67_1 : decode (mB 67) 1 = .ok (.sipush 128, 3) := by decide +kernel
theorem s_67_1 {d : Nat} {Q : wQ} {L : List (Option Value)} {st : List Value} {w : aw} {cn sn : Nat}  : wp d 67 Q 1 L st w cn sn = wp d 67 Q 4 L (.int 128 :: st) w cn sn := w_sipush d_67_1 (by decide)
theorem d_67_4 : decode (mB 67) 4 = .ok (.iand, 1) := by decide +kernel
theorem s_67_4 {d : Nat} {Q : wQ} {L : List (Option Value)} {st : List Value} {w : aw} {cn sn : Nat} {a b : Int32} : wp d 67 Q 4 L (.int b :: .int a :: st) w cn sn = wp d 67 Q 5 L (.int (a &&& b) :: st) w cn sn := wp_row d_67_4 _ _ _ _ _
theorem d_67_5 : decode (mB 67) 5 = .ok (.ifCond .eq 8, 3) := by decide +kernel
theorem s_67_5 {d : Nat} {Q : wQ} {L : List (Option Value)} {st : List Value} {w : aw} {cn sn : Nat} {x : Int32} : wp d 67 Q 5 L (.int x :: st) w cn sn = ((x = 0 → wp d 67 Q 13 L st w cn sn) ∧ (¬ x = 0 → wp d 67 Q 8 L st w cn sn)) := w_ifeq d_67_5 (by decide)
theorem d_67_8 : decode (mB 67) 8 = .ok (.aload_n 0, 1) := by decide +kernel
theorem s_67_8 {d : Nat} {Q : wQ} {L : List (Option Value)} {st : List Value} {w : aw} {cn sn : Nat} {v : Nat} : wp d 67 Q 8 (some (.ref v) :: L) st w cn sn = wp d 67 Q 9 (some (.ref v) :: L) (.ref v :: st) w cn sn := w_aload_n d_67_8 rfl
theorem d_67_9 : decode (mB 67) 9 = .ok (.iconst 0, 1) := by decide +kernel
theorem s_67_9 {d : Nat} {Q : wQ} {L : List (Option Value)} {st : List Value} {w : aw} {cn sn : Nat}  : wp d 67 Q 9 L st w cn sn = wp d 67 Q 10 L (.int 0 :: st) w cn sn := w_iconst d_67_9 (by decide)
theorem d_67_10 : decode (mB 67) 10 = .ok (.putfield 58, 3) := by decide +kernel
theorem s_67_10 {d : Nat} {Q : wQ} {L : List (Option Value)} {st : List Value} {w : aw} {cn sn : Nat} {x : Int32} {a : Nat} : wp d 67 Q 10 L (.int x :: .ref a :: st) w cn sn = (kd w a = 7 ∧ wp d 67 Q 13 L st (uF w 391 a (.int x)) cn sn) := w_putfield d_67_10 (by decide +kernel : fT (mO 67) 58 = some (6, 7)) (by decide +kernel) ok_int
theorem d_67_13 : decode (mB 67) 13 = .ok (.iload_n 1, 1) := by decide +kernel
theorem s_67_13 {d : Nat} {Q : wQ} {L : List (Option Value)} {st : List Value} {w : aw} {cn sn : Nat} {a0 : Option Value} {v : Int32} : wp d 67 Q 13 (a0 :: some (.int v) :: L) st w cn sn = wp d 67 Q 14 (a0 :: some (.int v) :: L) (.int v :: st) w cn sn := w_iload_n d_67_13 rfl
theorem d_67_14 : decode (mB 67) 14 = .ok (.bipush 64, 2) := by decide +kernel
theorem s_67_14 {d : Nat} {Q : wQ} {L : List (Option Value)} {st : List Value} {w : aw} {cn sn : Nat}  : wp d 67 Q 14 L st w cn sn = wp d 67 Q 16 L (.int 64 :: st) w cn sn := w_bipush d_67_14 (by decide)
theorem d_67_16 : decode (mB 67) 16 = .ok (.iand, 1) := by decide +kernel
theorem s_67_16 {d : Nat} {Q : wQ} {L : List (Option Value)} {st : List Value} {w : aw} {cn sn : Nat} {a b : Int32} : wp d 67 Q 16 L (.int b :: .int a :: st) w cn sn = wp d 67 Q 17 L (.int (a &&& b) :: st) w cn sn := wp_row d_67_16 _ _ _ _ _
theorem d_67_17 : decode (mB 67) 17 = .ok (.ifCond .eq 8, 3) := by decide +kernel
theorem s_67_17 {d : Nat} {Q : wQ} {L : List (Option Value)} {st : List Value} {w : aw} {cn sn : Nat} {x : Int32} : wp d 67 Q 17 L (.int x :: st) w cn sn = ((x = 0 → wp d 67 Q 25 L st w cn sn) ∧ (¬ x = 0 → wp d 67 Q 20 L st w cn sn)) := w_ifeq d_67_17 (by decide)
theorem d_67_20 : decode (mB 67) 20 = .ok (.aload_n 0, 1) := by decide +kernel
theorem s_67_20 {d : Nat} {Q : wQ} {L : List (Option Value)} {st : List Value} {w : aw} {cn sn : Nat} {v : Nat} : wp d 67 Q 20 (some (.ref v) :: L) st w cn sn = wp d 67 Q 21 (some (.ref v) :: L) (.ref v :: st) w cn sn := w_aload_n d_67_20 rfl
theorem d_67_21 : decode (mB 67) 21 = .ok (.iconst 0, 1) := by decide +kernel
theorem s_67_21 {d : Nat} {Q : wQ} {L : List (Option Value)} {st : List Value} {w : aw} {cn sn : Nat}  : wp d 67 Q 21 L st w cn sn = wp d 67 Q 22 L (.int 0 :: st) w cn sn := w_iconst d_67_21 (by decide)
theorem d_67_22 : decode (mB 67) 22 = .ok (.putfield 61, 3) := by decide +kernel
theorem s_67_22 {d : Nat} {Q : wQ} {L : List (Option Value)} {st : List Value} {w : aw} {cn sn : Nat} {x : Int32} {a : Nat} : wp d 67 Q 22 L (.int x :: .ref a :: st) w cn sn = (kd w a = 7 ∧ wp d 67 Q 25 L st (uF w 392 a (.int x)) cn sn) := w_putfield d_67_22 (by decide +kernel : fT (mO 67) 61 = some (6, 8)) (by decide +kernel) ok_int
theorem d_67_25 : decode (mB 67) 25 = .ok (.iload_n 1, 1) := by decide +kernel
theorem s_67_25 {d : Nat} {Q : wQ} {L : List (Option Value)} {st : List Value} {w : aw} {cn sn : Nat} {a0 : Option Value} {v : Int32} : wp d 67 Q 25 (a0 :: some (.int v) :: L) st w cn sn = wp d 67 Q 26 (a0 :: some (.int v) :: L) (.int v :: st) w cn sn := w_iload_n d_67_25 rfl
theorem d_67_26 : decode (mB 67) 26 = .ok (.bipush 32, 2) := by decide +kernel
theorem s_67_26 {d : Nat} {Q : wQ} {L : List (Option Value)} {st : List Value} {w : aw} {cn sn : Nat}  : wp d 67 Q 26 L st w cn sn = wp d 67 Q 28 L (.int 32 :: st) w cn sn := w_bipush d_67_26 (by decide)
theorem d_67_28 : decode (mB 67) 28 = .ok (.iand, 1) := by decide +kernel
theorem s_67_28 {d : Nat} {Q : wQ} {L : List (Option Value)} {st : List Value} {w : aw} {cn sn : Nat} {a b : Int32} : wp d 67 Q 28 L (.int b :: .int a :: st) w cn sn = wp d 67 Q 29 L (.int (a &&& b) :: st) w cn sn := wp_row d_67_28 _ _ _ _ _
theorem d_67_29 : decode (mB 67) 29 = .ok (.ifCond .eq 15, 3) := by decide +kernel
theorem s_67_29 {d : Nat} {Q : wQ} {L : List (Option Value)} {st : List Value} {w : aw} {cn sn : Nat} {x : Int32} : wp d 67 Q 29 L (.int x :: st) w cn sn = ((x = 0 → wp d 67 Q 44 L st w cn sn) ∧ (¬ x = 0 → wp d 67 Q 32 L st w cn sn)) := w_ifeq d_67_29 (by decide)
theorem d_67_32 : decode (mB 67) 32 = .ok (.aload_n 0, 1) := by decide +kernel
theorem s_67_32 {d : Nat} {Q : wQ} {L : List (Option Value)} {st : List Value} {w : aw} {cn sn : Nat} {v : Nat} : wp d 67 Q 32 (some (.ref v) :: L) st w cn sn = wp d 67 Q 33 (some (.ref v) :: L) (.ref v :: st) w cn sn := w_aload_n d_67_32 rfl
theorem d_67_33 : decode (mB 67) 33 = .ok (.dup, 1) := by decide +kernel
theorem s_67_33 {d : Nat} {Q : wQ} {L : List (Option Value)} {st : List Value} {w : aw} {cn sn : Nat} {v : Value} : wp d 67 Q 33 L (v :: st) w cn sn = (v.category = 1 ∧ wp d 67 Q 34 L (v :: v :: st) w cn sn) := wp_row d_67_33 _ _ _ _ _
theorem d_67_34 : decode (mB 67) 34 = .ok (.getfield 58, 3) := by decide +kernel
theorem s_67_34 {d : Nat} {Q : wQ} {L : List (Option Value)} {st : List Value} {w : aw} {cn sn : Nat} {a : Nat} : wp d 67 Q 34 L (.ref a :: st) w cn sn = (kd w a = 7 ∧ wp d 67 Q 37 L (fd w 391 a :: st) w cn sn) := w_getfield d_67_34 (by decide +kernel : fT (mO 67) 58 = some (6, 7))
theorem d_67_37 : decode (mB 67) 37 = .ok (.sipush 4095, 3) := by decide +kernel
theorem s_67_37 {d : Nat} {Q : wQ} {L : List (Option Value)} {st : List Value} {w : aw} {cn sn : Nat}  : wp d 67 Q 37 L st w cn sn = wp d 67 Q 40 L (.int 4095 :: st) w cn sn := w_sipush d_67_37 (by decide)
theorem d_67_40 : decode (mB 67) 40 = .ok (.ixor, 1) := by decide +kernel
theorem s_67_40 {d : Nat} {Q : wQ} {L : List (Option Value)} {st : List Value} {w : aw} {cn sn : Nat} {a b : Int32} : wp d 67 Q 40 L (.int b :: .int a :: st) w cn sn = wp d 67 Q 41 L (.int (a ^^^ b) :: st) w cn sn := wp_row d_67_40 _ _ _ _ _
theorem d_67_41 : decode (mB 67) 41 = .ok (.putfield 58, 3) := by decide +kernel
theorem s_67_41 {d : Nat} {Q : wQ} {L : List (Option Value)} {st : List Value} {w : aw} {cn sn : Nat} {x : Int32} {a : Nat} : wp d 67 Q 41 L (.int x :: .ref a :: st) w cn sn = (kd w a = 7 ∧ wp d 67 Q 44 L st (uF w 391 a (.int x)) cn sn) := w_putfield d_67_41 (by decide +kernel : fT (mO 67) 58 = some (6, 7)) (by decide +kernel) ok_int
theorem d_67_44 : decode (mB 67) 44 = .ok (.iload_n 1, 1) := by decide +kernel
theorem s_67_44 {d : Nat} {Q : wQ} {L : List (Option Value)} {st : List Value} {w : aw} {cn sn : Nat} {a0 : Option Value} {v : Int32} : wp d 67 Q 44 (a0 :: some (.int v) :: L) st w cn sn = wp d 67 Q 45 (a0 :: some (.int v) :: L) (.int v :: st) w cn sn := w_iload_n d_67_44 rfl
theorem d_67_45 : decode (mB 67) 45 = .ok (.bipush 16, 2) := by decide +kernel
theorem s_67_45 {d : Nat} {Q : wQ} {L : List (Option Value)} {st : List Value} {w : aw} {cn sn : Nat}  : wp d 67 Q 45 L st w cn sn = wp d 67 Q 47 L (.int 16 :: st) w cn sn := w_bipush d_67_45 (by decide)
theorem d_67_47 : decode (mB 67) 47 = .ok (.iand, 1) := by decide +kernel
theorem s_67_47 {d : Nat} {Q : wQ} {L : List (Option Value)} {st : List Value} {w : aw} {cn sn : Nat} {a b : Int32} : wp d 67 Q 47 L (.int b :: .int a :: st) w cn sn = wp d 67 Q 48 L (.int (a &&& b) :: st) w cn sn := wp_row d_67_47 _ _ _ _ _
theorem d_67_48 : decode (mB 67) 48 = .ok (.ifCond .eq 13, 3) := by decide +kernel
theorem s_67_48 {d : Nat} {Q : wQ} {L : List (Option Value)} {st : List Value} {w : aw} {cn sn : Nat} {x : Int32} : wp d 67 Q 48 L (.int x :: st) w cn sn = ((x = 0 → wp d 67 Q 61 L st w cn sn) ∧ (¬ x = 0 → wp d 67 Q 51 L st w cn sn)) := w_ifeq d_67_48 (by decide)
theorem d_67_51 : decode (mB 67) 51 = .ok (.aload_n 0, 1) := by decide +kernel
theorem s_67_51 {d : Nat} {Q : wQ} {L : List (Option Value)} {st : List Value} {w : aw} {cn sn : Nat} {v : Nat} : wp d 67 Q 51 (some (.ref v) :: L) st w cn sn = wp d 67 Q 52 (some (.ref v) :: L) (.ref v :: st) w cn sn := w_aload_n d_67_51 rfl
theorem d_67_52 : decode (mB 67) 52 = .ok (.dup, 1) := by decide +kernel
theorem s_67_52 {d : Nat} {Q : wQ} {L : List (Option Value)} {st : List Value} {w : aw} {cn sn : Nat} {v : Value} : wp d 67 Q 52 L (v :: st) w cn sn = (v.category = 1 ∧ wp d 67 Q 53 L (v :: v :: st) w cn sn) := wp_row d_67_52 _ _ _ _ _
theorem d_67_53 : decode (mB 67) 53 = .ok (.getfield 61, 3) := by decide +kernel
theorem s_67_53 {d : Nat} {Q : wQ} {L : List (Option Value)} {st : List Value} {w : aw} {cn sn : Nat} {a : Nat} : wp d 67 Q 53 L (.ref a :: st) w cn sn = (kd w a = 7 ∧ wp d 67 Q 56 L (fd w 392 a :: st) w cn sn) := w_getfield d_67_53 (by decide +kernel : fT (mO 67) 61 = some (6, 8))
theorem d_67_56 : decode (mB 67) 56 = .ok (.iconst 1, 1) := by decide +kernel
theorem s_67_56 {d : Nat} {Q : wQ} {L : List (Option Value)} {st : List Value} {w : aw} {cn sn : Nat}  : wp d 67 Q 56 L st w cn sn = wp d 67 Q 57 L (.int 1 :: st) w cn sn := w_iconst d_67_56 (by decide)
theorem d_67_57 : decode (mB 67) 57 = .ok (.ixor, 1) := by decide +kernel
theorem s_67_57 {d : Nat} {Q : wQ} {L : List (Option Value)} {st : List Value} {w : aw} {cn sn : Nat} {a b : Int32} : wp d 67 Q 57 L (.int b :: .int a :: st) w cn sn = wp d 67 Q 58 L (.int (a ^^^ b) :: st) w cn sn := wp_row d_67_57 _ _ _ _ _
theorem d_67_58 : decode (mB 67) 58 = .ok (.putfield 61, 3) := by decide +kernel
theorem s_67_58 {d : Nat} {Q : wQ} {L : List (Option Value)} {st : List Value} {w : aw} {cn sn : Nat} {x : Int32} {a : Nat} : wp d 67 Q 58 L (.int x :: .ref a :: st) w cn sn = (kd w a = 7 ∧ wp d 67 Q 61 L st (uF w 392 a (.int x)) cn sn) := w_putfield d_67_58 (by decide +kernel : fT (mO 67) 61 = some (6, 8)) (by decide +kernel) ok_int
theorem d_67_61 : decode (mB 67) 61 = .ok (.iload_n 1, 1) := by decide +kernel
theorem s_67_61 {d : Nat} {Q : wQ} {L : List (Option Value)} {st : List Value} {w : aw} {cn sn : Nat} {a0 : Option Value} {v : Int32} : wp d 67 Q 61 (a0 :: some (.int v) :: L) st w cn sn = wp d 67 Q 62 (a0 :: some (.int v) :: L) (.int v :: st) w cn sn := w_iload_n d_67_61 rfl
theorem d_67_62 : decode (mB 67) 62 = .ok (.iconst 1, 1) := by decide +kernel
theorem s_67_62 {d : Nat} {Q : wQ} {L : List (Option Value)} {st : List Value} {w : aw} {cn sn : Nat}  : wp d 67 Q 62 L st w cn sn = wp d 67 Q 63 L (.int 1 :: st) w cn sn := w_iconst d_67_62 (by decide)
theorem d_67_63 : decode (mB 67) 63 = .ok (.iand, 1) := by decide +kernel
theorem s_67_63 {d : Nat} {Q : wQ} {L : List (Option Value)} {st : List Value} {w : aw} {cn sn : Nat} {a b : Int32} : wp d 67 Q 63 L (.int b :: .int a :: st) w cn sn = wp d 67 Q 64 L (.int (a &&& b) :: st) w cn sn := wp_row d_67_63 _ _ _ _ _
theorem d_67_64 : decode (mB 67) 64 = .ok (.ifCond .eq 8, 3) := by decide +kernel
theorem s_67_64 {d : Nat} {Q : wQ} {L : List (Option Value)} {st : List Value} {w : aw} {cn sn : Nat} {x : Int32} : wp d 67 Q 64 L (.int x :: st) w cn sn = ((x = 0 → wp d 67 Q 72 L st w cn sn) ∧ (¬ x = 0 → wp d 67 Q 67 L st w cn sn)) := w_ifeq d_67_64 (by decide)
theorem d_67_67 : decode (mB 67) 67 = .ok (.aload_n 0, 1) := by decide +kernel
theorem s_67_67 {d : Nat} {Q : wQ} {L : List (Option Value)} {st : List Value} {w : aw} {cn sn : Nat} {v : Nat} : wp d 67 Q 67 (some (.ref v) :: L) st w cn sn = wp d 67 Q 68 (some (.ref v) :: L) (.ref v :: st) w cn sn := w_aload_n d_67_67 rfl
theorem d_67_68 : decode (mB 67) 68 = .ok (.iconst 1, 1) := by decide +kernel
theorem s_67_68 {d : Nat} {Q : wQ} {L : List (Option Value)} {st : List Value} {w : aw} {cn sn : Nat}  : wp d 67 Q 68 L st w cn sn = wp d 67 Q 69 L (.int 1 :: st) w cn sn := w_iconst d_67_68 (by decide)
theorem d_67_69 : decode (mB 67) 69 = .ok (.invokevirtual 68, 3) := by decide +kernel
theorem s_67_69 {d : Nat} {Q : wQ} {L : List (Option Value)} {st : List Value} {w : aw} {cn sn : Nat} {v0 : Value} {b : Nat} : wp d 67 Q 69 L (v0 :: .ref b :: st) w cn sn = (kd w b = 7 ∧ catS st ≤ 8 ∧ wpD d 64 [.ref b, v0] w (fun v w' => wp d 67 Q 72 L (v.toList ++ st) w' cn sn)) := w_virtual (As := [v0]) d_67_69 (by decide +kernel : cT (mO 67) 68 = some (0, 64)) rfl (by decide +kernel) rfl (by decide +kernel) rfl
theorem d_67_72 : decode (mB 67) 72 = .ok (.iload_n 1, 1) := by decide +kernel
theorem s_67_72 {d : Nat} {Q : wQ} {L : List (Option Value)} {st : List Value} {w : aw} {cn sn : Nat} {a0 : Option Value} {v : Int32} : wp d 67 Q 72 (a0 :: some (.int v) :: L) st w cn sn = wp d 67 Q 73 (a0 :: some (.int v) :: L) (.int v :: st) w cn sn := w_iload_n d_67_72 rfl
theorem d_67_73 : decode (mB 67) 73 = .ok (.bipush 8, 2) := by decide +kernel
theorem s_67_73 {d : Nat} {Q : wQ} {L : List (Option Value)} {st : List Value} {w : aw} {cn sn : Nat}  : wp d 67 Q 73 L st w cn sn = wp d 67 Q 75 L (.int 8 :: st) w cn sn := w_bipush d_67_73 (by decide)
theorem d_67_75 : decode (mB 67) 75 = .ok (.iand, 1) := by decide +kernel
theorem s_67_75 {d : Nat} {Q : wQ} {L : List (Option Value)} {st : List Value} {w : aw} {cn sn : Nat} {a b : Int32} : wp d 67 Q 75 L (.int b :: .int a :: st) w cn sn = wp d 67 Q 76 L (.int (a &&& b) :: st) w cn sn := wp_row d_67_75 _ _ _ _ _
theorem d_67_76 : decode (mB 67) 76 = .ok (.ifCond .eq 7, 3) := by decide +kernel
theorem s_67_76 {d : Nat} {Q : wQ} {L : List (Option Value)} {st : List Value} {w : aw} {cn sn : Nat} {x : Int32} : wp d 67 Q 76 L (.int x :: st) w cn sn = ((x = 0 → wp d 67 Q 83 L st w cn sn) ∧ (¬ x = 0 → wp d 67 Q 79 L st w cn sn)) := w_ifeq d_67_76 (by decide)
theorem d_67_79 : decode (mB 67) 79 = .ok (.iconst 1, 1) := by decide +kernel
theorem s_67_79 {d : Nat} {Q : wQ} {L : List (Option Value)} {st : List Value} {w : aw} {cn sn : Nat}  : wp d 67 Q 79 L st w cn sn = wp d 67 Q 80 L (.int 1 :: st) w cn sn := w_iconst d_67_79 (by decide)
theorem d_67_80 : decode (mB 67) 80 = .ok (.goto 4, 3) := by decide +kernel
theorem s_67_80 {d : Nat} {Q : wQ} {L : List (Option Value)} {st : List Value} {w : aw} {cn sn : Nat}  : wp d 67 Q 80 L st w cn sn = wp d 67 Q 84 L st w cn sn := w_goto d_67_80 (by decide)
theorem d_67_83 : decode (mB 67) 83 = .ok (.iconst 0, 1) := by decide +kernel
theorem s_67_83 {d : Nat} {Q : wQ} {L : List (Option Value)} {st : List Value} {w : aw} {cn sn : Nat}  : wp d 67 Q 83 L st w cn sn = wp d 67 Q 84 L (.int 0 :: st) w cn sn := w_iconst d_67_83 (by decide)
theorem d_67_84 : decode (mB 67) 84 = .ok (.istore_n 2, 1) := by decide +kernel
theorem s_67_84 {d : Nat} {Q : wQ} {L : List (Option Value)} {st : List Value} {w : aw} {cn sn : Nat} {a0 a1 a2 : Option Value} {v : Int32} : wp d 67 Q 84 (a0 :: a1 :: a2 :: L) (.int v :: st) w cn sn = wp d 67 Q 85 (a0 :: clr a1 :: some (.int v) :: L) st w cn sn := w_istore_n d_67_84 (Nat.le_add_left 3 _) rfl
theorem d_67_85 : decode (mB 67) 85 = .ok (.iload_n 1, 1) := by decide +kernel
theorem s_67_85 {d : Nat} {Q : wQ} {L : List (Option Value)} {st : List Value} {w : aw} {cn sn : Nat} {a0 : Option Value} {v : Int32} : wp d 67 Q 85 (a0 :: some (.int v) :: L) st w cn sn = wp d 67 Q 86 (a0 :: some (.int v) :: L) (.int v :: st) w cn sn := w_iload_n d_67_85 rfl
theorem d_67_86 : decode (mB 67) 86 = .ok (.iconst 4, 1) := by decide +kernel
theorem s_67_86 {d : Nat} {Q : wQ} {L : List (Option Value)} {st : List Value} {w : aw} {cn sn : Nat}  : wp d 67 Q 86 L st w cn sn = wp d 67 Q 87 L (.int 4 :: st) w cn sn := w_iconst d_67_86 (by decide)
theorem d_67_87 : decode (mB 67) 87 = .ok (.iand, 1) := by decide +kernel
theorem s_67_87 {d : Nat} {Q : wQ} {L : List (Option Value)} {st : List Value} {w : aw} {cn sn : Nat} {a b : Int32} : wp d 67 Q 87 L (.int b :: .int a :: st) w cn sn = wp d 67 Q 88 L (.int (a &&& b) :: st) w cn sn := wp_row d_67_87 _ _ _ _ _
theorem d_67_88 : decode (mB 67) 88 = .ok (.ifCond .eq 7, 3) := by decide +kernel
theorem s_67_88 {d : Nat} {Q : wQ} {L : List (Option Value)} {st : List Value} {w : aw} {cn sn : Nat} {x : Int32} : wp d 67 Q 88 L (.int x :: st) w cn sn = ((x = 0 → wp d 67 Q 95 L st w cn sn) ∧ (¬ x = 0 → wp d 67 Q 91 L st w cn sn)) := w_ifeq d_67_88 (by decide)
theorem d_67_91 : decode (mB 67) 91 = .ok (.iconst 1, 1) := by decide +kernel
theorem s_67_91 {d : Nat} {Q : wQ} {L : List (Option Value)} {st : List Value} {w : aw} {cn sn : Nat}  : wp d 67 Q 91 L st w cn sn = wp d 67 Q 92 L (.int 1 :: st) w cn sn := w_iconst d_67_91 (by decide)
theorem d_67_92 : decode (mB 67) 92 = .ok (.goto 4, 3) := by decide +kernel
theorem s_67_92 {d : Nat} {Q : wQ} {L : List (Option Value)} {st : List Value} {w : aw} {cn sn : Nat}  : wp d 67 Q 92 L st w cn sn = wp d 67 Q 96 L st w cn sn := w_goto d_67_92 (by decide)
theorem d_67_95 : decode (mB 67) 95 = .ok (.iconst 0, 1) := by decide +kernel
theorem s_67_95 {d : Nat} {Q : wQ} {L : List (Option Value)} {st : List Value} {w : aw} {cn sn : Nat}  : wp d 67 Q 95 L st w cn sn = wp d 67 Q 96 L (.int 0 :: st) w cn sn := w_iconst d_67_95 (by decide)
theorem d_67_96 : decode (mB 67) 96 = .ok (.istore_n 3, 1) := by decide +kernel
theorem s_67_96 {d : Nat} {Q : wQ} {L : List (Option Value)} {st : List Value} {w : aw} {cn sn : Nat} {a0 a1 a2 a3 : Option Value} {v : Int32} : wp d 67 Q 96 (a0 :: a1 :: a2 :: a3 :: L) (.int v :: st) w cn sn = wp d 67 Q 97 (a0 :: a1 :: clr a2 :: some (.int v) :: L) st w cn sn := w_istore_n d_67_96 (Nat.le_add_left 4 _) rfl
theorem d_67_97 : decode (mB 67) 97 = .ok (.iload_n 2, 1) := by decide +kernel
theorem s_67_97 {d : Nat} {Q : wQ} {L : List (Option Value)} {st : List Value} {w : aw} {cn sn : Nat} {a0 a1 : Option Value} {v : Int32} : wp d 67 Q 97 (a0 :: a1 :: some (.int v) :: L) st w cn sn = wp d 67 Q 98 (a0 :: a1 :: some (.int v) :: L) (.int v :: st) w cn sn := w_iload_n d_67_97 rfl
theorem d_67_98 : decode (mB 67) 98 = .ok (.iload_n 3, 1) := by decide +kernel
theorem s_67_98 {d : Nat} {Q : wQ} {L : List (Option Value)} {st : List Value} {w : aw} {cn sn : Nat} {a0 a1 a2 : Option Value} {v : Int32} : wp d 67 Q 98 (a0 :: a1 :: a2 :: some (.int v) :: L) st w cn sn = wp d 67 Q 99 (a0 :: a1 :: a2 :: some (.int v) :: L) (.int v :: st) w cn sn := w_iload_n d_67_98 rfl
theorem d_67_99 : decode (mB 67) 99 = .ok (.if_icmp .eq 28, 3) := by decide +kernel
theorem s_67_99 {d : Nat} {Q : wQ} {L : List (Option Value)} {st : List Value} {w : aw} {cn sn : Nat} {a b : Int32} : wp d 67 Q 99 L (.int b :: .int a :: st) w cn sn = ((a = b → wp d 67 Q 127 L st w cn sn) ∧ (¬ a = b → wp d 67 Q 102 L st w cn sn)) := w_iceq d_67_99 (by decide)
theorem d_67_102 : decode (mB 67) 102 = .ok (.aload_n 0, 1) := by decide +kernel
theorem s_67_102 {d : Nat} {Q : wQ} {L : List (Option Value)} {st : List Value} {w : aw} {cn sn : Nat} {v : Nat} : wp d 67 Q 102 (some (.ref v) :: L) st w cn sn = wp d 67 Q 103 (some (.ref v) :: L) (.ref v :: st) w cn sn := w_aload_n d_67_102 rfl
theorem d_67_103 : decode (mB 67) 103 = .ok (.iload_n 2, 1) := by decide +kernel
theorem s_67_103 {d : Nat} {Q : wQ} {L : List (Option Value)} {st : List Value} {w : aw} {cn sn : Nat} {a0 a1 : Option Value} {v : Int32} : wp d 67 Q 103 (a0 :: a1 :: some (.int v) :: L) st w cn sn = wp d 67 Q 104 (a0 :: a1 :: some (.int v) :: L) (.int v :: st) w cn sn := w_iload_n d_67_103 rfl
theorem d_67_104 : decode (mB 67) 104 = .ok (.ifCond .eq 7, 3) := by decide +kernel
theorem s_67_104 {d : Nat} {Q : wQ} {L : List (Option Value)} {st : List Value} {w : aw} {cn sn : Nat} {x : Int32} : wp d 67 Q 104 L (.int x :: st) w cn sn = ((x = 0 → wp d 67 Q 111 L st w cn sn) ∧ (¬ x = 0 → wp d 67 Q 107 L st w cn sn)) := w_ifeq d_67_104 (by decide)
theorem d_67_107 : decode (mB 67) 107 = .ok (.iconst 1, 1) := by decide +kernel
theorem s_67_107 {d : Nat} {Q : wQ} {L : List (Option Value)} {st : List Value} {w : aw} {cn sn : Nat}  : wp d 67 Q 107 L st w cn sn = wp d 67 Q 108 L (.int 1 :: st) w cn sn := w_iconst d_67_107 (by decide)
theorem d_67_108 : decode (mB 67) 108 = .ok (.goto 5, 3) := by decide +kernel
theorem s_67_108 {d : Nat} {Q : wQ} {L : List (Option Value)} {st : List Value} {w : aw} {cn sn : Nat}  : wp d 67 Q 108 L st w cn sn = wp d 67 Q 113 L st w cn sn := w_goto d_67_108 (by decide)
theorem d_67_111 : decode (mB 67) 111 = .ok (.bipush 12, 2) := by decide +kernel
theorem s_67_111 {d : Nat} {Q : wQ} {L : List (Option Value)} {st : List Value} {w : aw} {cn sn : Nat}  : wp d 67 Q 111 L st w cn sn = wp d 67 Q 113 L (.int 12 :: st) w cn sn := w_bipush d_67_111 (by decide)
theorem d_67_113 : decode (mB 67) 113 = .ok (.iload_n 1, 1) := by decide +kernel
theorem s_67_113 {d : Nat} {Q : wQ} {L : List (Option Value)} {st : List Value} {w : aw} {cn sn : Nat} {a0 : Option Value} {v : Int32} : wp d 67 Q 113 (a0 :: some (.int v) :: L) st w cn sn = wp d 67 Q 114 (a0 :: some (.int v) :: L) (.int v :: st) w cn sn := w_iload_n d_67_113 rfl
theorem d_67_114 : decode (mB 67) 114 = .ok (.iconst 2, 1) := by decide +kernel
theorem s_67_114 {d : Nat} {Q : wQ} {L : List (Option Value)} {st : List Value} {w : aw} {cn sn : Nat}  : wp d 67 Q 114 L st w cn sn = wp d 67 Q 115 L (.int 2 :: st) w cn sn := w_iconst d_67_114 (by decide)
theorem d_67_115 : decode (mB 67) 115 = .ok (.iand, 1) := by decide +kernel
theorem s_67_115 {d : Nat} {Q : wQ} {L : List (Option Value)} {st : List Value} {w : aw} {cn sn : Nat} {a b : Int32} : wp d 67 Q 115 L (.int b :: .int a :: st) w cn sn = wp d 67 Q 116 L (.int (a &&& b) :: st) w cn sn := wp_row d_67_115 _ _ _ _ _
theorem d_67_116 : decode (mB 67) 116 = .ok (.ifCond .eq 7, 3) := by decide +kernel
theorem s_67_116 {d : Nat} {Q : wQ} {L : List (Option Value)} {st : List Value} {w : aw} {cn sn : Nat} {x : Int32} : wp d 67 Q 116 L (.int x :: st) w cn sn = ((x = 0 → wp d 67 Q 123 L st w cn sn) ∧ (¬ x = 0 → wp d 67 Q 119 L st w cn sn)) := w_ifeq d_67_116 (by decide)
theorem d_67_119 : decode (mB 67) 119 = .ok (.iconst 2, 1) := by decide +kernel
theorem s_67_119 {d : Nat} {Q : wQ} {L : List (Option Value)} {st : List Value} {w : aw} {cn sn : Nat}  : wp d 67 Q 119 L st w cn sn = wp d 67 Q 120 L (.int 2 :: st) w cn sn := w_iconst d_67_119 (by decide)
theorem d_67_120 : decode (mB 67) 120 = .ok (.goto 4, 3) := by decide +kernel
theorem s_67_120 {d : Nat} {Q : wQ} {L : List (Option Value)} {st : List Value} {w : aw} {cn sn : Nat}  : wp d 67 Q 120 L st w cn sn = wp d 67 Q 124 L st w cn sn := w_goto d_67_120 (by decide)
theorem d_67_123 : decode (mB 67) 123 = .ok (.iconst 1, 1) := by decide +kernel
theorem s_67_123 {d : Nat} {Q : wQ} {L : List (Option Value)} {st : List Value} {w : aw} {cn sn : Nat}  : wp d 67 Q 123 L st w cn sn = wp d 67 Q 124 L (.int 1 :: st) w cn sn := w_iconst d_67_123 (by decide)
theorem d_67_124 : decode (mB 67) 124 = .ok (.invokevirtual 71, 3) := by decide +kernel
theorem s_67_124 {d : Nat} {Q : wQ} {L : List (Option Value)} {st : List Value} {w : aw} {cn sn : Nat} {v0 v1 : Value} {b : Nat} : wp d 67 Q 124 L (v1 :: v0 :: .ref b :: st) w cn sn = (kd w b = 7 ∧ catS st ≤ 8 ∧ wpD d 68 [.ref b, v0, v1] w (fun v w' => wp d 67 Q 127 L (v.toList ++ st) w' cn sn)) := w_virtual (As := [v0, v1]) d_67_124 (by decide +kernel : cT (mO 67) 71 = some (0, 68)) rfl (by decide +kernel) rfl (by decide +kernel) rfl
theorem d_67_127 : decode (mB 67) 127 = .ok (.return_, 1) := by decide +kernel
theorem s_67_127 {d : Nat} {Q : wQ} {L : List (Option Value)} {w : aw} {cn sn : Nat}  : wp d 67 Q 127 L [] w cn sn = Q none w := w_return d_67_127 rfl
theorem d_68_0 : decode (mB 68) 0 = .ok (.aload_n 0, 1) := by decide +kernel
theorem s_68_0 {d : Nat} {Q : wQ} {L : List (Option Value)} {st : List Value} {w : aw} {cn sn : Nat} {v : Nat} : wp d 68 Q 0 (some (.ref v) :: L) st w cn sn = wp d 68 Q 1 (some (.ref v) :: L) (.ref v :: st) w cn sn := w_aload_n d_68_0 rfl
theorem d_68_1 : decode (mB 68) 1 = .ok (.getfield 61, 3) := by decide +kernel
theorem s_68_1 {d : Nat} {Q : wQ} {L : List (Option Value)} {st : List Value} {w : aw} {cn sn : Nat} {a : Nat} : wp d 68 Q 1 L (.ref a :: st) w cn sn = (kd w a = 7 ∧ wp d 68 Q 4 L (fd w 392 a :: st) w cn sn) := w_getfield d_68_1 (by decide +kernel : fT (mO 68) 61 = some (6, 8))
theorem d_68_4 : decode (mB 68) 4 = .ok (.bipush 12, 2) := by decide +kernel
theorem s_68_4 {d : Nat} {Q : wQ} {L : List (Option Value)} {st : List Value} {w : aw} {cn sn : Nat}  : wp d 68 Q 4 L st w cn sn = wp d 68 Q 6 L (.int 12 :: st) w cn sn := w_bipush d_68_4 (by decide)
theorem d_68_6 : decode (mB 68) 6 = .ok (.ishl, 1) := by decide +kernel
theorem s_68_6 {d : Nat} {Q : wQ} {L : List (Option Value)} {st : List Value} {w : aw} {cn sn : Nat} {a b : Int32} : wp d 68 Q 6 L (.int b :: .int a :: st) w cn sn = wp d 68 Q 7 L (.int (a <<< (b &&& 31)) :: st) w cn sn := wp_row d_68_6 _ _ _ _ _
theorem d_68_7 : decode (mB 68) 7 = .ok (.aload_n 0, 1) := by decide +kernel
theorem s_68_7 {d : Nat} {Q : wQ} {L : List (Option Value)} {st : List Value} {w : aw} {cn sn : Nat} {v : Nat} : wp d 68 Q 7 (some (.ref v) :: L) st w cn sn = wp d 68 Q 8 (some (.ref v) :: L) (.ref v :: st) w cn sn := w_aload_n d_68_7 rfl
theorem d_68_8 : decode (mB 68) 8 = .ok (.getfield 58, 3) := by decide +kernel
theorem s_68_8 {d : Nat} {Q : wQ} {L : List (Option Value)} {st : List Value} {w : aw} {cn sn : Nat} {a : Nat} : wp d 68 Q 8 L (.ref a :: st) w cn sn = (kd w a = 7 ∧ wp d 68 Q 11 L (fd w 391 a :: st) w cn sn) := w_getfield d_68_8 (by decide +kernel : fT (mO 68) 58 = some (6, 7))
theorem d_68_11 : decode (mB 68) 11 = .ok (.ior, 1) := by decide +kernel
theorem s_68_11 {d : Nat} {Q : wQ} {L : List (Option Value)} {st : List Value} {w : aw} {cn sn : Nat} {a b : Int32} : wp d 68 Q 11 L (.int b :: .int a :: st) w cn sn = wp d 68 Q 12 L (.int (a ||| b) :: st) w cn sn := wp_row d_68_11 _ _ _ _ _
theorem d_68_12 : decode (mB 68) 12 = .ok (.istore_n 3, 1) := by decide +kernel
theorem s_68_12 {d : Nat} {Q : wQ} {L : List (Option Value)} {st : List Value} {w : aw} {cn sn : Nat} {a0 a1 a2 a3 : Option Value} {v : Int32} : wp d 68 Q 12 (a0 :: a1 :: a2 :: a3 :: L) (.int v :: st) w cn sn = wp d 68 Q 13 (a0 :: a1 :: clr a2 :: some (.int v) :: L) st w cn sn := w_istore_n d_68_12 (Nat.le_add_left 4 _) rfl
theorem d_68_13 : decode (mB 68) 13 = .ok (.iconst 0, 1) := by decide +kernel
theorem s_68_13 {d : Nat} {Q : wQ} {L : List (Option Value)} {st : List Value} {w : aw} {cn sn : Nat}  : wp d 68 Q 13 L st w cn sn = wp d 68 Q 14 L (.int 0 :: st) w cn sn := w_iconst d_68_13 (by decide)
theorem d_68_14 : decode (mB 68) 14 = .ok (.istore 4, 2) := by decide +kernel
theorem s_68_14 {d : Nat} {Q : wQ} {L : List (Option Value)} {st : List Value} {w : aw} {cn sn : Nat} {a0 a1 a2 a3 a4 : Option Value} {v : Int32} : wp d 68 Q 14 (a0 :: a1 :: a2 :: a3 :: a4 :: L) (.int v :: st) w cn sn = wp d 68 Q 16 (a0 :: a1 :: a2 :: clr a3 :: some (.int v) :: L) st w cn sn := w_istore d_68_14 (Nat.le_add_left 5 _) rfl
theorem d_68_16 : decode (mB 68) 16 = .ok (.iload 4, 2) := by decide +kernel
theorem s_68_16 {d : Nat} {Q : wQ} {L : List (Option Value)} {st : List Value} {w : aw} {cn sn : Nat} {a0 a1 a2 a3 : Option Value} {v : Int32} : wp d 68 Q 16 (a0 :: a1 :: a2 :: a3 :: some (.int v) :: L) st w cn sn = wp d 68 Q 18 (a0 :: a1 :: a2 :: a3 :: some (.int v) :: L) (.int v :: st) w cn sn := w_iload d_68_16 rfl
theorem d_68_18 : decode (mB 68) 18 = .ok (.iload_n 2, 1) := by decide +kernel
theorem s_68_18 {d : Nat} {Q : wQ} {L : List (Option Value)} {st : List Value} {w : aw} {cn sn : Nat} {a0 a1 : Option Value} {v : Int32} : wp d 68 Q 18 (a0 :: a1 :: some (.int v) :: L) st w cn sn = wp d 68 Q 19 (a0 :: a1 :: some (.int v) :: L) (.int v :: st) w cn sn := w_iload_n d_68_18 rfl
theorem d_68_19 : decode (mB 68) 19 = .ok (.if_icmp .ge 24, 3) := by decide +kernel
theorem s_68_19 {d : Nat} {Q : wQ} {L : List (Option Value)} {st : List Value} {w : aw} {cn sn : Nat} {a b : Int32} : wp d 68 Q 19 L (.int b :: .int a :: st) w cn sn = ((b ≤ a → wp d 68 Q 43 L st w cn sn) ∧ (¬ b ≤ a → wp d 68 Q 22 L st w cn sn)) := w_icge d_68_19 (by decide)
theorem d_68_22 : decode (mB 68) 22 = .ok (.iload_n 3, 1) := by decide +kernel
theorem s_68_22 {d : Nat} {Q : wQ} {L : List (Option Value)} {st : List Value} {w : aw} {cn sn : Nat} {a0 a1 a2 : Option Value} {v : Int32} : wp d 68 Q 22 (a0 :: a1 :: a2 :: some (.int v) :: L) st w cn sn = wp d 68 Q 23 (a0 :: a1 :: a2 :: some (.int v) :: L) (.int v :: st) w cn sn := w_iload_n d_68_22 rfl
theorem d_68_23 : decode (mB 68) 23 = .ok (.iload_n 1, 1) := by decide +kernel
theorem s_68_23 {d : Nat} {Q : wQ} {L : List (Option Value)} {st : List Value} {w : aw} {cn sn : Nat} {a0 : Option Value} {v : Int32} : wp d 68 Q 23 (a0 :: some (.int v) :: L) st w cn sn = wp d 68 Q 24 (a0 :: some (.int v) :: L) (.int v :: st) w cn sn := w_iload_n d_68_23 rfl
theorem d_68_24 : decode (mB 68) 24 = .ok (.ishr, 1) := by decide +kernel
theorem s_68_24 {d : Nat} {Q : wQ} {L : List (Option Value)} {st : List Value} {w : aw} {cn sn : Nat} {a b : Int32} : wp d 68 Q 24 L (.int b :: .int a :: st) w cn sn = wp d 68 Q 25 L (.int (a >>> (b &&& 31)) :: st) w cn sn := wp_row d_68_24 _ _ _ _ _
theorem d_68_25 : decode (mB 68) 25 = .ok (.iload_n 3, 1) := by decide +kernel
theorem s_68_25 {d : Nat} {Q : wQ} {L : List (Option Value)} {st : List Value} {w : aw} {cn sn : Nat} {a0 a1 a2 : Option Value} {v : Int32} : wp d 68 Q 25 (a0 :: a1 :: a2 :: some (.int v) :: L) st w cn sn = wp d 68 Q 26 (a0 :: a1 :: a2 :: some (.int v) :: L) (.int v :: st) w cn sn := w_iload_n d_68_25 rfl
theorem d_68_26 : decode (mB 68) 26 = .ok (.bipush 13, 2) := by decide +kernel
theorem s_68_26 {d : Nat} {Q : wQ} {L : List (Option Value)} {st : List Value} {w : aw} {cn sn : Nat}  : wp d 68 Q 26 L st w cn sn = wp d 68 Q 28 L (.int 13 :: st) w cn sn := w_bipush d_68_26 (by decide)
theorem d_68_28 : decode (mB 68) 28 = .ok (.iload_n 1, 1) := by decide +kernel
theorem s_68_28 {d : Nat} {Q : wQ} {L : List (Option Value)} {st : List Value} {w : aw} {cn sn : Nat} {a0 : Option Value} {v : Int32} : wp d 68 Q 28 (a0 :: some (.int v) :: L) st w cn sn = wp d 68 Q 29 (a0 :: some (.int v) :: L) (.int v :: st) w cn sn := w_iload_n d_68_28 rfl
theorem d_68_29 : decode (mB 68) 29 = .ok (.isub, 1) := by decide +kernel
theorem s_68_29 {d : Nat} {Q : wQ} {L : List (Option Value)} {st : List Value} {w : aw} {cn sn : Nat} {a b : Int32} : wp d 68 Q 29 L (.int b :: .int a :: st) w cn sn = wp d 68 Q 30 L (.int (a - b) :: st) w cn sn := wp_row d_68_29 _ _ _ _ _
theorem d_68_30 : decode (mB 68) 30 = .ok (.ishl, 1) := by decide +kernel
theorem s_68_30 {d : Nat} {Q : wQ} {L : List (Option Value)} {st : List Value} {w : aw} {cn sn : Nat} {a b : Int32} : wp d 68 Q 30 L (.int b :: .int a :: st) w cn sn = wp d 68 Q 31 L (.int (a <<< (b &&& 31)) :: st) w cn sn := wp_row d_68_30 _ _ _ _ _
theorem d_68_31 : decode (mB 68) 31 = .ok (.ior, 1) := by decide +kernel
theorem s_68_31 {d : Nat} {Q : wQ} {L : List (Option Value)} {st : List Value} {w : aw} {cn sn : Nat} {a b : Int32} : wp d 68 Q 31 L (.int b :: .int a :: st) w cn sn = wp d 68 Q 32 L (.int (a ||| b) :: st) w cn sn := wp_row d_68_31 _ _ _ _ _
theorem d_68_32 : decode (mB 68) 32 = .ok (.sipush 8191, 3) := by decide +kernel
theorem s_68_32 {d : Nat} {Q : wQ} {L : List (Option Value)} {st : List Value} {w : aw} {cn sn : Nat}  : wp d 68 Q 32 L st w cn sn = wp d 68 Q 35 L (.int 8191 :: st) w cn sn := w_sipush d_68_32 (by decide)
theorem d_68_35 : decode (mB 68) 35 = .ok (.iand, 1) := by decide +kernel
theorem s_68_35 {d : Nat} {Q : wQ} {L : List (Option Value)} {st : List Value} {w : aw} {cn sn : Nat} {a b : Int32} : wp d 68 Q 35 L (.int b :: .int a :: st) w cn sn = wp d 68 Q 36 L (.int (a &&& b) :: st) w cn sn := wp_row d_68_35 _ _ _ _ _
theorem d_68_36 : decode (mB 68) 36 = .ok (.istore_n 3, 1) := by decide +kernel
theorem s_68_36 {d : Nat} {Q : wQ} {L : List (Option Value)} {st : List Value} {w : aw} {cn sn : Nat} {a0 a1 a2 a3 : Option Value} {v : Int32} : wp d 68 Q 36 (a0 :: a1 :: a2 :: a3 :: L) (.int v :: st) w cn sn = wp d 68 Q 37 (a0 :: a1 :: clr a2 :: some (.int v) :: L) st w cn sn := w_istore_n d_68_36 (Nat.le_add_left 4 _) rfl
theorem d_68_37 : decode (mB 68) 37 = .ok (.iinc 4 1, 3) := by decide +kernel
theorem s_68_37 {d : Nat} {Q : wQ} {L : List (Option Value)} {st : List Value} {w : aw} {cn sn : Nat} {a0 a1 a2 a3 : Option Value} {v : Int32} : wp d 68 Q 37 (a0 :: a1 :: a2 :: a3 :: some (.int v) :: L) st w cn sn = wp d 68 Q 40 (a0 :: a1 :: a2 :: clr a3 :: some (.int (v + 1)) :: L) st w cn sn := w_iinc d_68_37 rfl (by decide) rfl
theorem d_68_40 : decode (mB 68) 40 = .ok (.goto (-24), 3) := by decide +kernel
theorem s_68_40 {d : Nat} {Q : wQ} {L : List (Option Value)} {st : List Value} {w : aw} {cn sn : Nat}  : wp d 68 Q 40 L st w cn sn = wp d 68 Q 16 L st w cn sn := w_goto d_68_40 (by decide)
theorem d_68_43 : decode (mB 68) 43 = .ok (.aload_n 0, 1) := by decide +kernel
theorem s_68_43 {d : Nat} {Q : wQ} {L : List (Option Value)} {st : List Value} {w : aw} {cn sn : Nat} {v : Nat} : wp d 68 Q 43 (some (.ref v) :: L) st w cn sn = wp d 68 Q 44 (some (.ref v) :: L) (.ref v :: st) w cn sn := w_aload_n d_68_43 rfl
theorem d_68_44 : decode (mB 68) 44 = .ok (.iload_n 3, 1) := by decide +kernel
theorem s_68_44 {d : Nat} {Q : wQ} {L : List (Option Value)} {st : List Value} {w : aw} {cn sn : Nat} {a0 a1 a2 : Option Value} {v : Int32} : wp d 68 Q 44 (a0 :: a1 :: a2 :: some (.int v) :: L) st w cn sn = wp d 68 Q 45 (a0 :: a1 :: a2 :: some (.int v) :: L) (.int v :: st) w cn sn := w_iload_n d_68_44 rfl
theorem d_68_45 : decode (mB 68) 45 = .ok (.bipush 12, 2) := by decide +kernel
theorem s_68_45 {d : Nat} {Q : wQ} {L : List (Option Value)} {st : List Value} {w : aw} {cn sn : Nat}  : wp d 68 Q 45 L st w cn sn = wp d 68 Q 47 L (.int 12 :: st) w cn sn := w_bipush d_68_45 (by decide)
theorem d_68_47 : decode (mB 68) 47 = .ok (.ishr, 1) := by decide +kernel
theorem s_68_47 {d : Nat} {Q : wQ} {L : List (Option Value)} {st : List Value} {w : aw} {cn sn : Nat} {a b : Int32} : wp d 68 Q 47 L (.int b :: .int a :: st) w cn sn = wp d 68 Q 48 L (.int (a >>> (b &&& 31)) :: st) w cn sn := wp_row d_68_47 _ _ _ _ _
theorem d_68_48 : decode (mB 68) 48 = .ok (.putfield 61, 3) := by decide +kernel
theorem s_68_48 {d : Nat} {Q : wQ} {L : List (Option Value)} {st : List Value} {w : aw} {cn sn : Nat} {x : Int32} {a : Nat} : wp d 68 Q 48 L (.int x :: .ref a :: st) w cn sn = (kd w a = 7 ∧ wp d 68 Q 51 L st (uF w 392 a (.int x)) cn sn) := w_putfield d_68_48 (by decide +kernel : fT (mO 68) 61 = some (6, 8)) (by decide +kernel) ok_int
theorem d_68_51 : decode (mB 68) 51 = .ok (.aload_n 0, 1) := by decide +kernel
theorem s_68_51 {d : Nat} {Q : wQ} {L : List (Option Value)} {st : List Value} {w : aw} {cn sn : Nat} {v : Nat} : wp d 68 Q 51 (some (.ref v) :: L) st w cn sn = wp d 68 Q 52 (some (.ref v) :: L) (.ref v :: st) w cn sn := w_aload_n d_68_51 rfl
theorem d_68_52 : decode (mB 68) 52 = .ok (.iload_n 3, 1) := by decide +kernel
theorem s_68_52 {d : Nat} {Q : wQ} {L : List (Option Value)} {st : List Value} {w : aw} {cn sn : Nat} {a0 a1 a2 : Option Value} {v : Int32} : wp d 68 Q 52 (a0 :: a1 :: a2 :: some (.int v) :: L) st w cn sn = wp d 68 Q 53 (a0 :: a1 :: a2 :: some (.int v) :: L) (.int v :: st) w cn sn := w_iload_n d_68_52 rfl
theorem d_68_53 : decode (mB 68) 53 = .ok (.sipush 4095, 3) := by decide +kernel
theorem s_68_53 {d : Nat} {Q : wQ} {L : List (Option Value)} {st : List Value} {w : aw} {cn sn : Nat}  : wp d 68 Q 53 L st w cn sn = wp d 68 Q 56 L (.int 4095 :: st) w cn sn := w_sipush d_68_53 (by decide)
theorem d_68_56 : decode (mB 68) 56 = .ok (.iand, 1) := by decide +kernel
theorem s_68_56 {d : Nat} {Q : wQ} {L : List (Option Value)} {st : List Value} {w : aw} {cn sn : Nat} {a b : Int32} : wp d 68 Q 56 L (.int b :: .int a :: st) w cn sn = wp d 68 Q 57 L (.int (a &&& b) :: st) w cn sn := wp_row d_68_56 _ _ _ _ _
theorem d_68_57 : decode (mB 68) 57 = .ok (.putfield 58, 3) := by decide +kernel
theorem s_68_57 {d : Nat} {Q : wQ} {L : List (Option Value)} {st : List Value} {w : aw} {cn sn : Nat} {x : Int32} {a : Nat} : wp d 68 Q 57 L (.int x :: .ref a :: st) w cn sn = (kd w a = 7 ∧ wp d 68 Q 60 L st (uF w 391 a (.int x)) cn sn) := w_putfield d_68_57 (by decide +kernel : fT (mO 68) 58 = some (6, 7)) (by decide +kernel) ok_int
theorem d_68_60 : decode (mB 68) 60 = .ok (.return_, 1) := by decide +kernel
theorem s_68_60 {d : Nat} {Q : wQ} {L : List (Option Value)} {w : aw} {cn sn : Nat}  : wp d 68 Q 60 L [] w cn sn = Q none w := w_return d_68_60 rfl
theorem d_69_0 : decode (mB 69) 0 = .ok (.iload_n 1, 1) := by decide +kernel
theorem s_69_0 {d : Nat} {Q : wQ} {L : List (Option Value)} {st : List Value} {w : aw} {cn sn : Nat} {a0 : Option Value} {v : Int32} : wp d 69 Q 0 (a0 :: some (.int v) :: L) st w cn sn = wp d 69 Q 1 (a0 :: some (.int v) :: L) (.int v :: st) w cn sn := w_iload_n d_69_0 rfl
theorem d_69_1 : decode (mB 69) 1 = .ok (.bipush 64, 2) := by decide +kernel
theorem s_69_1 {d : Nat} {Q : wQ} {L : List (Option Value)} {st : List Value} {w : aw} {cn sn : Nat}  : wp d 69 Q 1 L st w cn sn = wp d 69 Q 3 L (.int 64 :: st) w cn sn := w_bipush d_69_1 (by decide)
theorem d_69_3 : decode (mB 69) 3 = .ok (.iand, 1) := by decide +kernel
theorem s_69_3 {d : Nat} {Q : wQ} {L : List (Option Value)} {st : List Value} {w : aw} {cn sn : Nat} {a b : Int32} : wp d 69 Q 3 L (.int b :: .int a :: st) w cn sn = wp d 69 Q 4 L (.int (a &&& b) :: st) w cn sn := wp_row d_69_3 _ _ _ _ _
theorem d_69_4 : decode (mB 69) 4 = .ok (.ifCond .eq 13, 3) := by decide +kernel
theorem s_69_4 {d : Nat} {Q : wQ} {L : List (Option Value)} {st : List Value} {w : aw} {cn sn : Nat} {x : Int32} : wp d 69 Q 4 L (.int x :: st) w cn sn = ((x = 0 → wp d 69 Q 17 L st w cn sn) ∧ (¬ x = 0 → wp d 69 Q 7 L st w cn sn)) := w_ifeq d_69_4 (by decide)
theorem d_69_7 : decode (mB 69) 7 = .ok (.aload_n 0, 1) := by decide +kernel
theorem s_69_7 {d : Nat} {Q : wQ} {L : List (Option Value)} {st : List Value} {w : aw} {cn sn : Nat} {v : Nat} : wp d 69 Q 7 (some (.ref v) :: L) st w cn sn = wp d 69 Q 8 (some (.ref v) :: L) (.ref v :: st) w cn sn := w_aload_n d_69_7 rfl
theorem d_69_8 : decode (mB 69) 8 = .ok (.getfield 58, 3) := by decide +kernel
theorem s_69_8 {d : Nat} {Q : wQ} {L : List (Option Value)} {st : List Value} {w : aw} {cn sn : Nat} {a : Nat} : wp d 69 Q 8 L (.ref a :: st) w cn sn = (kd w a = 7 ∧ wp d 69 Q 11 L (fd w 391 a :: st) w cn sn) := w_getfield d_69_8 (by decide +kernel : fT (mO 69) 58 = some (6, 7))
theorem d_69_11 : decode (mB 69) 11 = .ok (.sipush 2048, 3) := by decide +kernel
theorem s_69_11 {d : Nat} {Q : wQ} {L : List (Option Value)} {st : List Value} {w : aw} {cn sn : Nat}  : wp d 69 Q 11 L st w cn sn = wp d 69 Q 14 L (.int 2048 :: st) w cn sn := w_sipush d_69_11 (by decide)
theorem d_69_14 : decode (mB 69) 14 = .ok (.if_icmp .ge 32, 3) := by decide +kernel
theorem s_69_14 {d : Nat} {Q : wQ} {L : List (Option Value)} {st : List Value} {w : aw} {cn sn : Nat} {a b : Int32} : wp d 69 Q 14 L (.int b :: .int a :: st) w cn sn = ((b ≤ a → wp d 69 Q 46 L st w cn sn) ∧ (¬ b ≤ a → wp d 69 Q 17 L st w cn sn)) := w_icge d_69_14 (by decide)
theorem d_69_17 : decode (mB 69) 17 = .ok (.iload_n 1, 1) := by decide +kernel
theorem s_69_17 {d : Nat} {Q : wQ} {L : List (Option Value)} {st : List Value} {w : aw} {cn sn : Nat} {a0 : Option Value} {v : Int32} : wp d 69 Q 17 (a0 :: some (.int v) :: L) st w cn sn = wp d 69 Q 18 (a0 :: some (.int v) :: L) (.int v :: st) w cn sn := w_iload_n d_69_17 rfl
theorem d_69_18 : decode (mB 69) 18 = .ok (.bipush 32, 2) := by decide +kernel
theorem s_69_18 {d : Nat} {Q : wQ} {L : List (Option Value)} {st : List Value} {w : aw} {cn sn : Nat}  : wp d 69 Q 18 L st w cn sn = wp d 69 Q 20 L (.int 32 :: st) w cn sn := w_bipush d_69_18 (by decide)
theorem d_69_20 : decode (mB 69) 20 = .ok (.iand, 1) := by decide +kernel
theorem s_69_20 {d : Nat} {Q : wQ} {L : List (Option Value)} {st : List Value} {w : aw} {cn sn : Nat} {a b : Int32} : wp d 69 Q 20 L (.int b :: .int a :: st) w cn sn = wp d 69 Q 21 L (.int (a &&& b) :: st) w cn sn := wp_row d_69_20 _ _ _ _ _
theorem d_69_21 : decode (mB 69) 21 = .ok (.ifCond .eq 10, 3) := by decide +kernel
theorem s_69_21 {d : Nat} {Q : wQ} {L : List (Option Value)} {st : List Value} {w : aw} {cn sn : Nat} {x : Int32} : wp d 69 Q 21 L (.int x :: st) w cn sn = ((x = 0 → wp d 69 Q 31 L st w cn sn) ∧ (¬ x = 0 → wp d 69 Q 24 L st w cn sn)) := w_ifeq d_69_21 (by decide)
theorem d_69_24 : decode (mB 69) 24 = .ok (.aload_n 0, 1) := by decide +kernel
theorem s_69_24 {d : Nat} {Q : wQ} {L : List (Option Value)} {st : List Value} {w : aw} {cn sn : Nat} {v : Nat} : wp d 69 Q 24 (some (.ref v) :: L) st w cn sn = wp d 69 Q 25 (some (.ref v) :: L) (.ref v :: st) w cn sn := w_aload_n d_69_24 rfl
theorem d_69_25 : decode (mB 69) 25 = .ok (.getfield 58, 3) := by decide +kernel
theorem s_69_25 {d : Nat} {Q : wQ} {L : List (Option Value)} {st : List Value} {w : aw} {cn sn : Nat} {a : Nat} : wp d 69 Q 25 L (.ref a :: st) w cn sn = (kd w a = 7 ∧ wp d 69 Q 28 L (fd w 391 a :: st) w cn sn) := w_getfield d_69_25 (by decide +kernel : fT (mO 69) 58 = some (6, 7))
theorem d_69_28 : decode (mB 69) 28 = .ok (.ifCond .eq 18, 3) := by decide +kernel
theorem s_69_28 {d : Nat} {Q : wQ} {L : List (Option Value)} {st : List Value} {w : aw} {cn sn : Nat} {x : Int32} : wp d 69 Q 28 L (.int x :: st) w cn sn = ((x = 0 → wp d 69 Q 46 L st w cn sn) ∧ (¬ x = 0 → wp d 69 Q 31 L st w cn sn)) := w_ifeq d_69_28 (by decide)
theorem d_69_31 : decode (mB 69) 31 = .ok (.iload_n 1, 1) := by decide +kernel
theorem s_69_31 {d : Nat} {Q : wQ} {L : List (Option Value)} {st : List Value} {w : aw} {cn sn : Nat} {a0 : Option Value} {v : Int32} : wp d 69 Q 31 (a0 :: some (.int v) :: L) st w cn sn = wp d 69 Q 32 (a0 :: some (.int v) :: L) (.int v :: st) w cn sn := w_iload_n d_69_31 rfl
theorem d_69_32 : decode (mB 69) 32 = .ok (.bipush 16, 2) := by decide +kernel
theorem s_69_32 {d : Nat} {Q : wQ} {L : List (Option Value)} {st : List Value} {w : aw} {cn sn : Nat}  : wp d 69 Q 32 L st w cn sn = wp d 69 Q 34 L (.int 16 :: st) w cn sn := w_bipush d_69_32 (by decide)
theorem d_69_34 : decode (mB 69) 34 = .ok (.iand, 1) := by decide +kernel
theorem s_69_34 {d : Nat} {Q : wQ} {L : List (Option Value)} {st : List Value} {w : aw} {cn sn : Nat} {a b : Int32} : wp d 69 Q 34 L (.int b :: .int a :: st) w cn sn = wp d 69 Q 35 L (.int (a &&& b) :: st) w cn sn := wp_row d_69_34 _ _ _ _ _
theorem d_69_35 : decode (mB 69) 35 = .ok (.ifCond .eq 15, 3) := by decide +kernel
theorem s_69_35 {d : Nat} {Q : wQ} {L : List (Option Value)} {st : List Value} {w : aw} {cn sn : Nat} {x : Int32} : wp d 69 Q 35 L (.int x :: st) w cn sn = ((x = 0 → wp d 69 Q 50 L st w cn sn) ∧ (¬ x = 0 → wp d 69 Q 38 L st w cn sn)) := w_ifeq d_69_35 (by decide)
theorem d_69_38 : decode (mB 69) 38 = .ok (.aload_n 0, 1) := by decide +kernel
theorem s_69_38 {d : Nat} {Q : wQ} {L : List (Option Value)} {st : List Value} {w : aw} {cn sn : Nat} {v : Nat} : wp d 69 Q 38 (some (.ref v) :: L) st w cn sn = wp d 69 Q 39 (some (.ref v) :: L) (.ref v :: st) w cn sn := w_aload_n d_69_38 rfl
theorem d_69_39 : decode (mB 69) 39 = .ok (.getfield 61, 3) := by decide +kernel
theorem s_69_39 {d : Nat} {Q : wQ} {L : List (Option Value)} {st : List Value} {w : aw} {cn sn : Nat} {a : Nat} : wp d 69 Q 39 L (.ref a :: st) w cn sn = (kd w a = 7 ∧ wp d 69 Q 42 L (fd w 392 a :: st) w cn sn) := w_getfield d_69_39 (by decide +kernel : fT (mO 69) 61 = some (6, 8))
theorem d_69_42 : decode (mB 69) 42 = .ok (.iconst 1, 1) := by decide +kernel
theorem s_69_42 {d : Nat} {Q : wQ} {L : List (Option Value)} {st : List Value} {w : aw} {cn sn : Nat}  : wp d 69 Q 42 L st w cn sn = wp d 69 Q 43 L (.int 1 :: st) w cn sn := w_iconst d_69_42 (by decide)
theorem d_69_43 : decode (mB 69) 43 = .ok (.if_icmp .ne 7, 3) := by decide +kernel
theorem s_69_43 {d : Nat} {Q : wQ} {L : List (Option Value)} {st : List Value} {w : aw} {cn sn : Nat} {a b : Int32} : wp d 69 Q 43 L (.int b :: .int a :: st) w cn sn = ((¬ a = b → wp d 69 Q 50 L st w cn sn) ∧ (a = b → wp d 69 Q 46 L st w cn sn)) := w_icne d_69_43 (by decide)
theorem d_69_46 : decode (mB 69) 46 = .ok (.iconst 1, 1) := by decide +kernel
theorem s_69_46 {d : Nat} {Q : wQ} {L : List (Option Value)} {st : List Value} {w : aw} {cn sn : Nat}  : wp d 69 Q 46 L st w cn sn = wp d 69 Q 47 L (.int 1 :: st) w cn sn := w_iconst d_69_46 (by decide)
theorem d_69_47 : decode (mB 69) 47 = .ok (.goto 4, 3) := by decide +kernel
theorem s_69_47 {d : Nat} {Q : wQ} {L : List (Option Value)} {st : List Value} {w : aw} {cn sn : Nat}  : wp d 69 Q 47 L st w cn sn = wp d 69 Q 51 L st w cn sn := w_goto d_69_47 (by decide)
theorem d_69_50 : decode (mB 69) 50 = .ok (.iconst 0, 1) := by decide +kernel
theorem s_69_50 {d : Nat} {Q : wQ} {L : List (Option Value)} {st : List Value} {w : aw} {cn sn : Nat}  : wp d 69 Q 50 L st w cn sn = wp d 69 Q 51 L (.int 0 :: st) w cn sn := w_iconst d_69_50 (by decide)
theorem d_69_51 : decode (mB 69) 51 = .ok (.istore_n 2, 1) := by decide +kernel
theorem s_69_51 {d : Nat} {Q : wQ} {L : List (Option Value)} {st : List Value} {w : aw} {cn sn : Nat} {a0 a1 a2 : Option Value} {v : Int32} : wp d 69 Q 51 (a0 :: a1 :: a2 :: L) (.int v :: st) w cn sn = wp d 69 Q 52 (a0 :: clr a1 :: some (.int v) :: L) st w cn sn := w_istore_n d_69_51 (Nat.le_add_left 3 _) rfl
theorem d_69_52 : decode (mB 69) 52 = .ok (.iload_n 1, 1) := by decide +kernel
theorem s_69_52 {d : Nat} {Q : wQ} {L : List (Option Value)} {st : List Value} {w : aw} {cn sn : Nat} {a0 : Option Value} {v : Int32} : wp d 69 Q 52 (a0 :: some (.int v) :: L) st w cn sn = wp d 69 Q 53 (a0 :: some (.int v) :: L) (.int v :: st) w cn sn := w_iload_n d_69_52 rfl
theorem d_69_53 : decode (mB 69) 53 = .ok (.bipush 8, 2) := by decide +kernel
theorem s_69_53 {d : Nat} {Q : wQ} {L : List (Option Value)} {st : List Value} {w : aw} {cn sn : Nat}  : wp d 69 Q 53 L st w cn sn = wp d 69 Q 55 L (.int 8 :: st) w cn sn := w_bipush d_69_53 (by decide)
theorem d_69_55 : decode (mB 69) 55 = .ok (.iand, 1) := by decide +kernel
theorem s_69_55 {d : Nat} {Q : wQ} {L : List (Option Value)} {st : List Value} {w : aw} {cn sn : Nat} {a b : Int32} : wp d 69 Q 55 L (.int b :: .int a :: st) w cn sn = wp d 69 Q 56 L (.int (a &&& b) :: st) w cn sn := wp_row d_69_55 _ _ _ _ _
theorem d_69_56 : decode (mB 69) 56 = .ok (.ifCond .eq 7, 3) := by decide +kernel
theorem s_69_56 {d : Nat} {Q : wQ} {L : List (Option Value)} {st : List Value} {w : aw} {cn sn : Nat} {x : Int32} : wp d 69 Q 56 L (.int x :: st) w cn sn = ((x = 0 → wp d 69 Q 63 L st w cn sn) ∧ (¬ x = 0 → wp d 69 Q 59 L st w cn sn)) := w_ifeq d_69_56 (by decide)
theorem d_69_59 : decode (mB 69) 59 = .ok (.iconst 1, 1) := by decide +kernel
theorem s_69_59 {d : Nat} {Q : wQ} {L : List (Option Value)} {st : List Value} {w : aw} {cn sn : Nat}  : wp d 69 Q 59 L st w cn sn = wp d 69 Q 60 L (.int 1 :: st) w cn sn := w_iconst d_69_59 (by decide)
theorem d_69_60 : decode (mB 69) 60 = .ok (.goto 4, 3) := by decide +kernel
theorem s_69_60 {d : Nat} {Q : wQ} {L : List (Option Value)} {st : List Value} {w : aw} {cn sn : Nat}  : wp d 69 Q 60 L st w cn sn = wp d 69 Q 64 L st w cn sn := w_goto d_69_60 (by decide)
theorem d_69_63 : decode (mB 69) 63 = .ok (.iconst 0, 1) := by decide +kernel
theorem s_69_63 {d : Nat} {Q : wQ} {L : List (Option Value)} {st : List Value} {w : aw} {cn sn : Nat}  : wp d 69 Q 63 L st w cn sn = wp d 69 Q 64 L (.int 0 :: st) w cn sn := w_iconst d_69_63 (by decide)
theorem d_69_64 : decode (mB 69) 64 = .ok (.istore_n 3, 1) := by decide +kernel
theorem s_69_64 {d : Nat} {Q : wQ} {L : List (Option Value)} {st : List Value} {w : aw} {cn sn : Nat} {a0 a1 a2 a3 : Option Value} {v : Int32} : wp d 69 Q 64 (a0 :: a1 :: a2 :: a3 :: L) (.int v :: st) w cn sn = wp d 69 Q 65 (a0 :: a1 :: clr a2 :: some (.int v) :: L) st w cn sn := w_istore_n d_69_64 (Nat.le_add_left 4 _) rfl
theorem d_69_65 : decode (mB 69) 65 = .ok (.iload_n 2, 1) := by decide +kernel
theorem s_69_65 {d : Nat} {Q : wQ} {L : List (Option Value)} {st : List Value} {w : aw} {cn sn : Nat} {a0 a1 : Option Value} {v : Int32} : wp d 69 Q 65 (a0 :: a1 :: some (.int v) :: L) st w cn sn = wp d 69 Q 66 (a0 :: a1 :: some (.int v) :: L) (.int v :: st) w cn sn := w_iload_n d_69_65 rfl
theorem d_69_66 : decode (mB 69) 66 = .ok (.iload_n 3, 1) := by decide +kernel
theorem s_69_66 {d : Nat} {Q : wQ} {L : List (Option Value)} {st : List Value} {w : aw} {cn sn : Nat} {a0 a1 a2 : Option Value} {v : Int32} : wp d 69 Q 66 (a0 :: a1 :: a2 :: some (.int v) :: L) st w cn sn = wp d 69 Q 67 (a0 :: a1 :: a2 :: some (.int v) :: L) (.int v :: st) w cn sn := w_iload_n d_69_66 rfl
theorem d_69_67 : decode (mB 69) 67 = .ok (.if_icmp .eq 7, 3) := by decide +kernel
theorem s_69_67 {d : Nat} {Q : wQ} {L : List (Option Value)} {st : List Value} {w : aw} {cn sn : Nat} {a b : Int32} : wp d 69 Q 67 L (.int b :: .int a :: st) w cn sn = ((a = b → wp d 69 Q 74 L st w cn sn) ∧ (¬ a = b → wp d 69 Q 70 L st w cn sn)) := w_iceq d_69_67 (by decide)
theorem d_69_70 : decode (mB 69) 70 = .ok (.aload_n 0, 1) := by decide +kernel
theorem s_69_70 {d : Nat} {Q : wQ} {L : List (Option Value)} {st : List Value} {w : aw} {cn sn : Nat} {v : Nat} : wp d 69 Q 70 (some (.ref v) :: L) st w cn sn = wp d 69 Q 71 (some (.ref v) :: L) (.ref v :: st) w cn sn := w_aload_n d_69_70 rfl
theorem d_69_71 : decode (mB 69) 71 = .ok (.invokevirtual 41, 3) := by decide +kernel
theorem s_69_71 {d : Nat} {Q : wQ} {L : List (Option Value)} {st : List Value} {w : aw} {cn sn : Nat} {b : Nat} : wp d 69 Q 71 L (.ref b :: st) w cn sn = (kd w b = 7 ∧ catS st ≤ 8 ∧ wpD d 63 [.ref b] w (fun v w' => wp d 69 Q 74 L (v.toList ++ st) w' cn sn)) := w_virtual (As := []) d_69_71 (by decide +kernel : cT (mO 69) 41 = some (0, 63)) rfl (by decide +kernel) rfl (by decide +kernel) rfl
theorem d_69_74 : decode (mB 69) 74 = .ok (.iload_n 1, 1) := by decide +kernel
theorem s_69_74 {d : Nat} {Q : wQ} {L : List (Option Value)} {st : List Value} {w : aw} {cn sn : Nat} {a0 : Option Value} {v : Int32} : wp d 69 Q 74 (a0 :: some (.int v) :: L) st w cn sn = wp d 69 Q 75 (a0 :: some (.int v) :: L) (.int v :: st) w cn sn := w_iload_n d_69_74 rfl
theorem d_69_75 : decode (mB 69) 75 = .ok (.sipush 128, 3) := by decide +kernel
theorem s_69_75 {d : Nat} {Q : wQ} {L : List (Option Value)} {st : List Value} {w : aw} {cn sn : Nat}  : wp d 69 Q 75 L st w cn sn = wp d 69 Q 78 L (.int 128 :: st) w cn sn := w_sipush d_69_75 (by decide)
theorem d_69_78 : decode (mB 69) 78 = .ok (.iand, 1) := by decide +kernel
theorem s_69_78 {d : Nat} {Q : wQ} {L : List (Option Value)} {st : List Value} {w : aw} {cn sn : Nat} {a b : Int32} : wp d 69 Q 78 L (.int b :: .int a :: st) w cn sn = wp d 69 Q 79 L (.int (a &&& b) :: st) w cn sn := wp_row d_69_78 _ _ _ _ _
theorem d_69_79 : decode (mB 69) 79 = .ok (.ifCond .eq 8, 3) := by decide +kernel
theorem s_69_79 {d : Nat} {Q : wQ} {L : List (Option Value)} {st : List Value} {w : aw} {cn sn : Nat} {x : Int32} : wp d 69 Q 79 L (.int x :: st) w cn sn = ((x = 0 → wp d 69 Q 87 L st w cn sn) ∧ (¬ x = 0 → wp d 69 Q 82 L st w cn sn)) := w_ifeq d_69_79 (by decide)
theorem d_69_82 : decode (mB 69) 82 = .ok (.aload_n 0, 1) := by decide +kernel
theorem s_69_82 {d : Nat} {Q : wQ} {L : List (Option Value)} {st : List Value} {w : aw} {cn sn : Nat} {v : Nat} : wp d 69 Q 82 (some (.ref v) :: L) st w cn sn = wp d 69 Q 83 (some (.ref v) :: L) (.ref v :: st) w cn sn := w_aload_n d_69_82 rfl
theorem d_69_83 : decode (mB 69) 83 = .ok (.iconst 0, 1) := by decide +kernel
theorem s_69_83 {d : Nat} {Q : wQ} {L : List (Option Value)} {st : List Value} {w : aw} {cn sn : Nat}  : wp d 69 Q 83 L st w cn sn = wp d 69 Q 84 L (.int 0 :: st) w cn sn := w_iconst d_69_83 (by decide)
theorem d_69_84 : decode (mB 69) 84 = .ok (.putfield 58, 3) := by decide +kernel
theorem s_69_84 {d : Nat} {Q : wQ} {L : List (Option Value)} {st : List Value} {w : aw} {cn sn : Nat} {x : Int32} {a : Nat} : wp d 69 Q 84 L (.int x :: .ref a :: st) w cn sn = (kd w a = 7 ∧ wp d 69 Q 87 L st (uF w 391 a (.int x)) cn sn) := w_putfield d_69_84 (by decide +kernel : fT (mO 69) 58 = some (6, 7)) (by decide +kernel) ok_int
theorem d_69_87 : decode (mB 69) 87 = .ok (.iload_n 1, 1) := by decide +kernel
theorem s_69_87 {d : Nat} {Q : wQ} {L : List (Option Value)} {st : List Value} {w : aw} {cn sn : Nat} {a0 : Option Value} {v : Int32} : wp d 69 Q 87 (a0 :: some (.int v) :: L) st w cn sn = wp d 69 Q 88 (a0 :: some (.int v) :: L) (.int v :: st) w cn sn := w_iload_n d_69_87 rfl
theorem d_69_88 : decode (mB 69) 88 = .ok (.iconst 4, 1) := by decide +kernel
theorem s_69_88 {d : Nat} {Q : wQ} {L : List (Option Value)} {st : List Value} {w : aw} {cn sn : Nat}  : wp d 69 Q 88 L st w cn sn = wp d 69 Q 89 L (.int 4 :: st) w cn sn := w_iconst d_69_88 (by decide)
theorem d_69_89 : decode (mB 69) 89 = .ok (.iand, 1) := by decide +kernel
theorem s_69_89 {d : Nat} {Q : wQ} {L : List (Option Value)} {st : List Value} {w : aw} {cn sn : Nat} {a b : Int32} : wp d 69 Q 89 L (.int b :: .int a :: st) w cn sn = wp d 69 Q 90 L (.int (a &&& b) :: st) w cn sn := wp_row d_69_89 _ _ _ _ _
theorem d_69_90 : decode (mB 69) 90 = .ok (.ifCond .eq 16, 3) := by decide +kernel
theorem s_69_90 {d : Nat} {Q : wQ} {L : List (Option Value)} {st : List Value} {w : aw} {cn sn : Nat} {x : Int32} : wp d 69 Q 90 L (.int x :: st) w cn sn = ((x = 0 → wp d 69 Q 106 L st w cn sn) ∧ (¬ x = 0 → wp d 69 Q 93 L st w cn sn)) := w_ifeq d_69_90 (by decide)
theorem d_69_93 : decode (mB 69) 93 = .ok (.aload_n 0, 1) := by decide +kernel
theorem s_69_93 {d : Nat} {Q : wQ} {L : List (Option Value)} {st : List Value} {w : aw} {cn sn : Nat} {v : Nat} : wp d 69 Q 93 (some (.ref v) :: L) st w cn sn = wp d 69 Q 94 (some (.ref v) :: L) (.ref v :: st) w cn sn := w_aload_n d_69_93 rfl
theorem d_69_94 : decode (mB 69) 94 = .ok (.dup, 1) := by decide +kernel
theorem s_69_94 {d : Nat} {Q : wQ} {L : List (Option Value)} {st : List Value} {w : aw} {cn sn : Nat} {v : Value} : wp d 69 Q 94 L (v :: st) w cn sn = (v.category = 1 ∧ wp d 69 Q 95 L (v :: v :: st) w cn sn) := wp_row d_69_94 _ _ _ _ _
theorem d_69_95 : decode (mB 69) 95 = .ok (.getfield 58, 3) := by decide +kernel
theorem s_69_95 {d : Nat} {Q : wQ} {L : List (Option Value)} {st : List Value} {w : aw} {cn sn : Nat} {a : Nat} : wp d 69 Q 95 L (.ref a :: st) w cn sn = (kd w a = 7 ∧ wp d 69 Q 98 L (fd w 391 a :: st) w cn sn) := w_getfield d_69_95 (by decide +kernel : fT (mO 69) 58 = some (6, 7))
theorem d_69_98 : decode (mB 69) 98 = .ok (.aload_n 0, 1) := by decide +kernel
theorem s_69_98 {d : Nat} {Q : wQ} {L : List (Option Value)} {st : List Value} {w : aw} {cn sn : Nat} {v : Nat} : wp d 69 Q 98 (some (.ref v) :: L) st w cn sn = wp d 69 Q 99 (some (.ref v) :: L) (.ref v :: st) w cn sn := w_aload_n d_69_98 rfl
theorem d_69_99 : decode (mB 69) 99 = .ok (.getfield 74, 3) := by decide +kernel
theorem s_69_99 {d : Nat} {Q : wQ} {L : List (Option Value)} {st : List Value} {w : aw} {cn sn : Nat} {a : Nat} : wp d 69 Q 99 L (.ref a :: st) w cn sn = (kd w a = 7 ∧ wp d 69 Q 102 L (fd w 393 a :: st) w cn sn) := w_getfield d_69_99 (by decide +kernel : fT (mO 69) 74 = some (6, 9))
theorem d_69_102 : decode (mB 69) 102 = .ok (.ior, 1) := by decide +kernel
theorem s_69_102 {d : Nat} {Q : wQ} {L : List (Option Value)} {st : List Value} {w : aw} {cn sn : Nat} {a b : Int32} : wp d 69 Q 102 L (.int b :: .int a :: st) w cn sn = wp d 69 Q 103 L (.int (a ||| b) :: st) w cn sn := wp_row d_69_102 _ _ _ _ _
theorem d_69_103 : decode (mB 69) 103 = .ok (.putfield 58, 3) := by decide +kernel
theorem s_69_103 {d : Nat} {Q : wQ} {L : List (Option Value)} {st : List Value} {w : aw} {cn sn : Nat} {x : Int32} {a : Nat} : wp d 69 Q 103 L (.int x :: .ref a :: st) w cn sn = (kd w a = 7 ∧ wp d 69 Q 106 L st (uF w 391 a (.int x)) cn sn) := w_putfield d_69_103 (by decide +kernel : fT (mO 69) 58 = some (6, 7)) (by decide +kernel) ok_int
theorem d_69_106 : decode (mB 69) 106 = .ok (.iload_n 1, 1) := by decide +kernel
theorem s_69_106 {d : Nat} {Q : wQ} {L : List (Option Value)} {st : List Value} {w : aw} {cn sn : Nat} {a0 : Option Value} {v : Int32} : wp d 69 Q 106 (a0 :: some (.int v) :: L) st w cn sn = wp d 69 Q 107 (a0 :: some (.int v) :: L) (.int v :: st) w cn sn := w_iload_n d_69_106 rfl
theorem d_69_107 : decode (mB 69) 107 = .ok (.iconst 2, 1) := by decide +kernel
theorem s_69_107 {d : Nat} {Q : wQ} {L : List (Option Value)} {st : List Value} {w : aw} {cn sn : Nat}  : wp d 69 Q 107 L st w cn sn = wp d 69 Q 108 L (.int 2 :: st) w cn sn := w_iconst d_69_107 (by decide)
theorem d_69_108 : decode (mB 69) 108 = .ok (.iand, 1) := by decide +kernel
theorem s_69_108 {d : Nat} {Q : wQ} {L : List (Option Value)} {st : List Value} {w : aw} {cn sn : Nat} {a b : Int32} : wp d 69 Q 108 L (.int b :: .int a :: st) w cn sn = wp d 69 Q 109 L (.int (a &&& b) :: st) w cn sn := wp_row d_69_108 _ _ _ _ _
theorem d_69_109 : decode (mB 69) 109 = .ok (.ifCond .eq 8, 3) := by decide +kernel
theorem s_69_109 {d : Nat} {Q : wQ} {L : List (Option Value)} {st : List Value} {w : aw} {cn sn : Nat} {x : Int32} : wp d 69 Q 109 L (.int x :: st) w cn sn = ((x = 0 → wp d 69 Q 117 L st w cn sn) ∧ (¬ x = 0 → wp d 69 Q 112 L st w cn sn)) := w_ifeq d_69_109 (by decide)
theorem d_69_112 : decode (mB 69) 112 = .ok (.aload_n 0, 1) := by decide +kernel
theorem s_69_112 {d : Nat} {Q : wQ} {L : List (Option Value)} {st : List Value} {w : aw} {cn sn : Nat} {v : Nat} : wp d 69 Q 112 (some (.ref v) :: L) st w cn sn = wp d 69 Q 113 (some (.ref v) :: L) (.ref v :: st) w cn sn := w_aload_n d_69_112 rfl
theorem d_69_113 : decode (mB 69) 113 = .ok (.iconst 0, 1) := by decide +kernel
theorem s_69_113 {d : Nat} {Q : wQ} {L : List (Option Value)} {st : List Value} {w : aw} {cn sn : Nat}  : wp d 69 Q 113 L st w cn sn = wp d 69 Q 114 L (.int 0 :: st) w cn sn := w_iconst d_69_113 (by decide)
theorem d_69_114 : decode (mB 69) 114 = .ok (.putfield 77, 3) := by decide +kernel
theorem s_69_114 {d : Nat} {Q : wQ} {L : List (Option Value)} {st : List Value} {w : aw} {cn sn : Nat} {x : Int32} {a : Nat} : wp d 69 Q 114 L (.int x :: .ref a :: st) w cn sn = (kd w a = 7 ∧ wp d 69 Q 117 L st (uF w 394 a (.int x)) cn sn) := w_putfield d_69_114 (by decide +kernel : fT (mO 69) 77 = some (6, 10)) (by decide +kernel) ok_int
theorem d_69_117 : decode (mB 69) 117 = .ok (.return_, 1) := by decide +kernel
theorem s_69_117 {d : Nat} {Q : wQ} {L : List (Option Value)} {w : aw} {cn sn : Nat}  : wp d 69 Q 117 L [] w cn sn = Q none w := w_return d_69_117 rfl
theorem d_70_0 : decode (mB 70) 0 = .ok (.iload_n 1, 1) := by decide +kernel
theorem s_70_0 {d : Nat} {Q : wQ} {L : List (Option Value)} {st : List Value} {w : aw} {cn sn : Nat} {a0 : Option Value} {v : Int32} : wp d 70 Q 0 (a0 :: some (.int v) :: L) st w cn sn = wp d 70 Q 1 (a0 :: some (.int v) :: L) (.int v :: st) w cn sn := w_iload_n d_70_0 rfl
theorem d_70_1 : decode (mB 70) 1 = .ok (.tableswitch 203 3097 3116 #[95, 203, 203, 203, 203, 112, 203, 203, 120, 203, 203, 203, 203, 139, 203, 203, 166, 173, 173, 192], 95) := by decide +kernel
theorem s_70_1 {d : Nat} {Q : wQ} {L : List (Option Value)} {st : List Value} {w : aw} {cn sn : Nat} {x : Int32} : wp d 70 Q 1 L (.int x :: st) w cn sn = ((x.toInt < 3097 ∨ 3116 < x.toInt → wp d 70 Q 204 L st w cn sn) ∧ ∀ (i t : Nat), ([96, 204, 204, 204, 204, 113, 204, 204, 121, 204, 204, 204, 204, 140, 204, 204, 167, 174, 174, 193] : List Nat)[i]? = some t → x.toInt = 3097 + i → wp d 70 Q t L st w cn sn) := w_table d_70_1 (by decide) (by decide) (by decide)
theorem d_70_96 : decode (mB 70) 96 = .ok (.aload_n 0, 1) := by decide +kernel
theorem s_70_96 {d : Nat} {Q : wQ} {L : List (Option Value)} {st : List Value} {w : aw} {cn sn : Nat} {v : Nat} : wp d 70 Q 96 (some (.ref v) :: L) st w cn sn = wp d 70 Q 97 (some (.ref v) :: L) (.ref v :: st) w cn sn := w_aload_n d_70_96 rfl
theorem d_70_97 : decode (mB 70) 97 = .ok (.getfield 24, 3) := by decide +kernel
theorem s_70_97 {d : Nat} {Q : wQ} {L : List (Option Value)} {st : List Value} {w : aw} {cn sn : Nat} {a : Nat} : wp d 70 Q 97 L (.ref a :: st) w cn sn = (kd w a = 7 ∧ wp d 70 Q 100 L (fd w 388 a :: st) w cn sn) := w_getfield d_70_97 (by decide +kernel : fT (mO 70) 24 = some (6, 4))
theorem d_70_100 : decode (mB 70) 100 = .ok (.getfield 80, 3) := by decide +kernel
theorem s_70_100 {d : Nat} {Q : wQ} {L : List (Option Value)} {st : List Value} {w : aw} {cn sn : Nat} {a : Nat} : wp d 70 Q 100 L (.ref a :: st) w cn sn = (kd w a = 3 ∧ wp d 70 Q 103 L (fd w 130 a :: st) w cn sn) := w_getfield d_70_100 (by decide +kernel : fT (mO 70) 80 = some (2, 2))
theorem d_70_103 : decode (mB 70) 103 = .ok (.ifCond .le 101, 3) := by decide +kernel
theorem s_70_103 {d : Nat} {Q : wQ} {L : List (Option Value)} {st : List Value} {w : aw} {cn sn : Nat} {x : Int32} : wp d 70 Q 103 L (.int x :: st) w cn sn = ((x ≤ 0 → wp d 70 Q 204 L st w cn sn) ∧ (¬ x ≤ 0 → wp d 70 Q 106 L st w cn sn)) := w_ifle d_70_103 (by decide)
theorem d_70_106 : decode (mB 70) 106 = .ok (.aload_n 0, 1) := by decide +kernel
theorem s_70_106 {d : Nat} {Q : wQ} {L : List (Option Value)} {st : List Value} {w : aw} {cn sn : Nat} {v : Nat} : wp d 70 Q 106 (some (.ref v) :: L) st w cn sn = wp d 70 Q 107 (some (.ref v) :: L) (.ref v :: st) w cn sn := w_aload_n d_70_106 rfl
theorem d_70_107 : decode (mB 70) 107 = .ok (.invokevirtual 41, 3) := by decide +kernel
theorem s_70_107 {d : Nat} {Q : wQ} {L : List (Option Value)} {st : List Value} {w : aw} {cn sn : Nat} {b : Nat} : wp d 70 Q 107 L (.ref b :: st) w cn sn = (kd w b = 7 ∧ catS st ≤ 8 ∧ wpD d 63 [.ref b] w (fun v w' => wp d 70 Q 110 L (v.toList ++ st) w' cn sn)) := w_virtual (As := []) d_70_107 (by decide +kernel : cT (mO 70) 41 = some (0, 63)) rfl (by decide +kernel) rfl (by decide +kernel) rfl
theorem d_70_110 : decode (mB 70) 110 = .ok (.goto 94, 3) := by decide +kernel
theorem s_70_110 {d : Nat} {Q : wQ} {L : List (Option Value)} {st : List Value} {w : aw} {cn sn : Nat}  : wp d 70 Q 110 L st w cn sn = wp d 70 Q 204 L st w cn sn := w_goto d_70_110 (by decide)
theorem d_70_113 : decode (mB 70) 113 = .ok (.aload_n 0, 1) := by decide +kernel
theorem s_70_113 {d : Nat} {Q : wQ} {L : List (Option Value)} {st : List Value} {w : aw} {cn sn : Nat} {v : Nat} : wp d 70 Q 113 (some (.ref v) :: L) st w cn sn = wp d 70 Q 114 (some (.ref v) :: L) (.ref v :: st) w cn sn := w_aload_n d_70_113 rfl
theorem d_70_114 : decode (mB 70) 114 = .ok (.iload_n 2, 1) := by decide +kernel
theorem s_70_114 {d : Nat} {Q : wQ} {L : List (Option Value)} {st : List Value} {w : aw} {cn sn : Nat} {a0 a1 : Option Value} {v : Int32} : wp d 70 Q 114 (a0 :: a1 :: some (.int v) :: L) st w cn sn = wp d 70 Q 115 (a0 :: a1 :: some (.int v) :: L) (.int v :: st) w cn sn := w_iload_n d_70_114 rfl
theorem d_70_115 : decode (mB 70) 115 = .ok (.invokevirtual 83, 3) := by decide +kernel
theorem s_70_115 {d : Nat} {Q : wQ} {L : List (Option Value)} {st : List Value} {w : aw} {cn sn : Nat} {v0 : Value} {b : Nat} : wp d 70 Q 115 L (v0 :: .ref b :: st) w cn sn = (kd w b = 7 ∧ catS st ≤ 8 ∧ wpD d 71 [.ref b, v0] w (fun v w' => wp d 70 Q 118 L (v.toList ++ st) w' cn sn)) := w_virtual (As := [v0]) d_70_115 (by decide +kernel : cT (mO 70) 83 = some (0, 71)) rfl (by decide +kernel) rfl (by decide +kernel) rfl
theorem d_70_118 : decode (mB 70) 118 = .ok (.goto 86, 3) := by decide +kernel
theorem s_70_118 {d : Nat} {Q : wQ} {L : List (Option Value)} {st : List Value} {w : aw} {cn sn : Nat}  : wp d 70 Q 118 L st w cn sn = wp d 70 Q 204 L st w cn sn := w_goto d_70_118 (by decide)
theorem d_70_121 : decode (mB 70) 121 = .ok (.aload_n 0, 1) := by decide +kernel
theorem s_70_121 {d : Nat} {Q : wQ} {L : List (Option Value)} {st : List Value} {w : aw} {cn sn : Nat} {v : Nat} : wp d 70 Q 121 (some (.ref v) :: L) st w cn sn = wp d 70 Q 122 (some (.ref v) :: L) (.ref v :: st) w cn sn := w_aload_n d_70_121 rfl
theorem d_70_122 : decode (mB 70) 122 = .ok (.getfield 28, 3) := by decide +kernel
theorem s_70_122 {d : Nat} {Q : wQ} {L : List (Option Value)} {st : List Value} {w : aw} {cn sn : Nat} {a : Nat} : wp d 70 Q 122 L (.ref a :: st) w cn sn = (kd w a = 7 ∧ wp d 70 Q 125 L (fd w 389 a :: st) w cn sn) := w_getfield d_70_122 (by decide +kernel : fT (mO 70) 28 = some (6, 5))
theorem d_70_125 : decode (mB 70) 125 = .ok (.getfield 80, 3) := by decide +kernel
theorem s_70_125 {d : Nat} {Q : wQ} {L : List (Option Value)} {st : List Value} {w : aw} {cn sn : Nat} {a : Nat} : wp d 70 Q 125 L (.ref a :: st) w cn sn = (kd w a = 3 ∧ wp d 70 Q 128 L (fd w 130 a :: st) w cn sn) := w_getfield d_70_125 (by decide +kernel : fT (mO 70) 80 = some (2, 2))
theorem d_70_128 : decode (mB 70) 128 = .ok (.bipush 16, 2) := by decide +kernel
theorem s_70_128 {d : Nat} {Q : wQ} {L : List (Option Value)} {st : List Value} {w : aw} {cn sn : Nat}  : wp d 70 Q 128 L st w cn sn = wp d 70 Q 130 L (.int 16 :: st) w cn sn := w_bipush d_70_128 (by decide)
theorem d_70_130 : decode (mB 70) 130 = .ok (.if_icmp .ge 74, 3) := by decide +kernel
theorem s_70_130 {d : Nat} {Q : wQ} {L : List (Option Value)} {st : List Value} {w : aw} {cn sn : Nat} {a b : Int32} : wp d 70 Q 130 L (.int b :: .int a :: st) w cn sn = ((b ≤ a → wp d 70 Q 204 L st w cn sn) ∧ (¬ b ≤ a → wp d 70 Q 133 L st w cn sn)) := w_icge d_70_130 (by decide)
theorem d_70_133 : decode (mB 70) 133 = .ok (.aload_n 0, 1) := by decide +kernel
theorem s_70_133 {d : Nat} {Q : wQ} {L : List (Option Value)} {st : List Value} {w : aw} {cn sn : Nat} {v : Nat} : wp d 70 Q 133 (some (.ref v) :: L) st w cn sn = wp d 70 Q 134 (some (.ref v) :: L) (.ref v :: st) w cn sn := w_aload_n d_70_133 rfl
theorem d_70_134 : decode (mB 70) 134 = .ok (.invokevirtual 41, 3) := by decide +kernel
theorem s_70_134 {d : Nat} {Q : wQ} {L : List (Option Value)} {st : List Value} {w : aw} {cn sn : Nat} {b : Nat} : wp d 70 Q 134 L (.ref b :: st) w cn sn = (kd w b = 7 ∧ catS st ≤ 8 ∧ wpD d 63 [.ref b] w (fun v w' => wp d 70 Q 137 L (v.toList ++ st) w' cn sn)) := w_virtual (As := []) d_70_134 (by decide +kernel : cT (mO 70) 41 = some (0, 63)) rfl (by decide +kernel) rfl (by decide +kernel) rfl
theorem d_70_137 : decode (mB 70) 137 = .ok (.goto 67, 3) := by decide +kernel
theorem s_70_137 {d : Nat} {Q : wQ} {L : List (Option Value)} {st : List Value} {w : aw} {cn sn : Nat}  : wp d 70 Q 137 L st w cn sn = wp d 70 Q 204 L st w cn sn := w_goto d_70_137 (by decide)
theorem d_70_140 : decode (mB 70) 140 = .ok (.aload_n 0, 1) := by decide +kernel
theorem s_70_140 {d : Nat} {Q : wQ} {L : List (Option Value)} {st : List Value} {w : aw} {cn sn : Nat} {v : Nat} : wp d 70 Q 140 (some (.ref v) :: L) st w cn sn = wp d 70 Q 141 (some (.ref v) :: L) (.ref v :: st) w cn sn := w_aload_n d_70_140 rfl
theorem d_70_141 : decode (mB 70) 141 = .ok (.getfield 28, 3) := by decide +kernel
theorem s_70_141 {d : Nat} {Q : wQ} {L : List (Option Value)} {st : List Value} {w : aw} {cn sn : Nat} {a : Nat} : wp d 70 Q 141 L (.ref a :: st) w cn sn = (kd w a = 7 ∧ wp d 70 Q 144 L (fd w 389 a :: st) w cn sn) := w_getfield d_70_141 (by decide +kernel : fT (mO 70) 28 = some (6, 5))
theorem d_70_144 : decode (mB 70) 144 = .ok (.aload_n 0, 1) := by decide +kernel
theorem s_70_144 {d : Nat} {Q : wQ} {L : List (Option Value)} {st : List Value} {w : aw} {cn sn : Nat} {v : Nat} : wp d 70 Q 144 (some (.ref v) :: L) st w cn sn = wp d 70 Q 145 (some (.ref v) :: L) (.ref v :: st) w cn sn := w_aload_n d_70_144 rfl
theorem d_70_145 : decode (mB 70) 145 = .ok (.getfield 58, 3) := by decide +kernel
theorem s_70_145 {d : Nat} {Q : wQ} {L : List (Option Value)} {st : List Value} {w : aw} {cn sn : Nat} {a : Nat} : wp d 70 Q 145 L (.ref a :: st) w cn sn = (kd w a = 7 ∧ wp d 70 Q 148 L (fd w 391 a :: st) w cn sn) := w_getfield d_70_145 (by decide +kernel : fT (mO 70) 58 = some (6, 7))
theorem d_70_148 : decode (mB 70) 148 = .ok (.sipush 255, 3) := by decide +kernel
theorem s_70_148 {d : Nat} {Q : wQ} {L : List (Option Value)} {st : List Value} {w : aw} {cn sn : Nat}  : wp d 70 Q 148 L st w cn sn = wp d 70 Q 151 L (.int 255 :: st) w cn sn := w_sipush d_70_148 (by decide)
theorem d_70_151 : decode (mB 70) 151 = .ok (.iand, 1) := by decide +kernel
theorem s_70_151 {d : Nat} {Q : wQ} {L : List (Option Value)} {st : List Value} {w : aw} {cn sn : Nat} {a b : Int32} : wp d 70 Q 151 L (.int b :: .int a :: st) w cn sn = wp d 70 Q 152 L (.int (a &&& b) :: st) w cn sn := wp_row d_70_151 _ _ _ _ _
theorem d_70_152 : decode (mB 70) 152 = .ok (.invokevirtual 86, 3) := by decide +kernel
theorem s_70_152 {d : Nat} {Q : wQ} {L : List (Option Value)} {st : List Value} {w : aw} {cn sn : Nat} {v0 : Value} {b : Nat} : wp d 70 Q 152 L (v0 :: .ref b :: st) w cn sn = (kd w b = 3 ∧ catS st ≤ 8 ∧ wpD d 28 [.ref b, v0] w (fun v w' => wp d 70 Q 155 L (v.toList ++ st) w' cn sn)) := w_virtual (As := [v0]) d_70_152 (by decide +kernel : cT (mO 70) 86 = some (0, 28)) rfl (by decide +kernel) rfl (by decide +kernel) rfl
theorem d_70_155 : decode (mB 70) 155 = .ok (.ifCond .ne 49, 3) := by decide +kernel
theorem s_70_155 {d : Nat} {Q : wQ} {L : List (Option Value)} {st : List Value} {w : aw} {cn sn : Nat} {x : Int32} : wp d 70 Q 155 L (.int x :: st) w cn sn = ((¬ x = 0 → wp d 70 Q 204 L st w cn sn) ∧ (x = 0 → wp d 70 Q 158 L st w cn sn)) := w_ifne d_70_155 (by decide)
theorem d_70_158 : decode (mB 70) 158 = .ok (.aload_n 0, 1) := by decide +kernel
theorem s_70_158 {d : Nat} {Q : wQ} {L : List (Option Value)} {st : List Value} {w : aw} {cn sn : Nat} {v : Nat} : wp d 70 Q 158 (some (.ref v) :: L) st w cn sn = wp d 70 Q 159 (some (.ref v) :: L) (.ref v :: st) w cn sn := w_aload_n d_70_158 rfl
theorem d_70_159 : decode (mB 70) 159 = .ok (.iload_n 2, 1) := by decide +kernel
theorem s_70_159 {d : Nat} {Q : wQ} {L : List (Option Value)} {st : List Value} {w : aw} {cn sn : Nat} {a0 a1 : Option Value} {v : Int32} : wp d 70 Q 159 (a0 :: a1 :: some (.int v) :: L) st w cn sn = wp d 70 Q 160 (a0 :: a1 :: some (.int v) :: L) (.int v :: st) w cn sn := w_iload_n d_70_159 rfl
theorem d_70_160 : decode (mB 70) 160 = .ok (.iconst 4, 1) := by decide +kernel
theorem s_70_160 {d : Nat} {Q : wQ} {L : List (Option Value)} {st : List Value} {w : aw} {cn sn : Nat}  : wp d 70 Q 160 L st w cn sn = wp d 70 Q 161 L (.int 4 :: st) w cn sn := w_iconst d_70_160 (by decide)
theorem d_70_161 : decode (mB 70) 161 = .ok (.invokevirtual 89, 3) := by decide +kernel
theorem s_70_161 {d : Nat} {Q : wQ} {L : List (Option Value)} {st : List Value} {w : aw} {cn sn : Nat} {v0 v1 : Value} {b : Nat} : wp d 70 Q 161 L (v1 :: v0 :: .ref b :: st) w cn sn = (kd w b = 7 ∧ catS st ≤ 8 ∧ wpD d 72 [.ref b, v0, v1] w (fun v w' => wp d 70 Q 164 L (v.toList ++ st) w' cn sn)) := w_virtual (As := [v0, v1]) d_70_161 (by decide +kernel : cT (mO 70) 89 = some (0, 72)) rfl (by decide +kernel) rfl (by decide +kernel) rfl
theorem d_70_164 : decode (mB 70) 164 = .ok (.goto 40, 3) := by decide +kernel
theorem s_70_164 {d : Nat} {Q : wQ} {L : List (Option Value)} {st : List Value} {w : aw} {cn sn : Nat}  : wp d 70 Q 164 L st w cn sn = wp d 70 Q 204 L st w cn sn := w_goto d_70_164 (by decide)
theorem d_70_167 : decode (mB 70) 167 = .ok (.aload_n 0, 1) := by decide +kernel
theorem s_70_167 {d : Nat} {Q : wQ} {L : List (Option Value)} {st : List Value} {w : aw} {cn sn : Nat} {v : Nat} : wp d 70 Q 167 (some (.ref v) :: L) st w cn sn = wp d 70 Q 168 (some (.ref v) :: L) (.ref v :: st) w cn sn := w_aload_n d_70_167 rfl
theorem d_70_168 : decode (mB 70) 168 = .ok (.invokevirtual 92, 3) := by decide +kernel
theorem s_70_168 {d : Nat} {Q : wQ} {L : List (Option Value)} {st : List Value} {w : aw} {cn sn : Nat} {b : Nat} : wp d 70 Q 168 L (.ref b :: st) w cn sn = (kd w b = 7 ∧ catS st ≤ 8 ∧ wpD d 73 [.ref b] w (fun v w' => wp d 70 Q 171 L (v.toList ++ st) w' cn sn)) := w_virtual (As := []) d_70_168 (by decide +kernel : cT (mO 70) 92 = some (0, 73)) rfl (by decide +kernel) rfl (by decide +kernel) rfl
theorem d_70_171 : decode (mB 70) 171 = .ok (.goto 33, 3) := by decide +kernel
theorem s_70_171 {d : Nat} {Q : wQ} {L : List (Option Value)} {st : List Value} {w : aw} {cn sn : Nat}  : wp d 70 Q 171 L st w cn sn = wp d 70 Q 204 L st w cn sn := w_goto d_70_171 (by decide)
theorem d_70_174 : decode (mB 70) 174 = .ok (.aload_n 0, 1) := by decide +kernel
theorem s_70_174 {d : Nat} {Q : wQ} {L : List (Option Value)} {st : List Value} {w : aw} {cn sn : Nat} {v : Nat} : wp d 70 Q 174 (some (.ref v) :: L) st w cn sn = wp d 70 Q 175 (some (.ref v) :: L) (.ref v :: st) w cn sn := w_aload_n d_70_174 rfl
theorem d_70_175 : decode (mB 70) 175 = .ok (.iload_n 1, 1) := by decide +kernel
theorem s_70_175 {d : Nat} {Q : wQ} {L : List (Option Value)} {st : List Value} {w : aw} {cn sn : Nat} {a0 : Option Value} {v : Int32} : wp d 70 Q 175 (a0 :: some (.int v) :: L) st w cn sn = wp d 70 Q 176 (a0 :: some (.int v) :: L) (.int v :: st) w cn sn := w_iload_n d_70_175 rfl
theorem d_70_176 : decode (mB 70) 176 = .ok (.sipush 3114, 3) := by decide +kernel
theorem s_70_176 {d : Nat} {Q : wQ} {L : List (Option Value)} {st : List Value} {w : aw} {cn sn : Nat}  : wp d 70 Q 176 L st w cn sn = wp d 70 Q 179 L (.int 3114 :: st) w cn sn := w_sipush d_70_176 (by decide)
theorem d_70_179 : decode (mB 70) 179 = .ok (.if_icmp .ne 7, 3) := by decide +kernel
theorem s_70_179 {d : Nat} {Q : wQ} {L : List (Option Value)} {st : List Value} {w : aw} {cn sn : Nat} {a b : Int32} : wp d 70 Q 179 L (.int b :: .int a :: st) w cn sn = ((¬ a = b → wp d 70 Q 186 L st w cn sn) ∧ (a = b → wp d 70 Q 182 L st w cn sn)) := w_icne d_70_179 (by decide)
theorem d_70_182 : decode (mB 70) 182 = .ok (.iconst 1, 1) := by decide +kernel
theorem s_70_182 {d : Nat} {Q : wQ} {L : List (Option Value)} {st : List Value} {w : aw} {cn sn : Nat}  : wp d 70 Q 182 L st w cn sn = wp d 70 Q 183 L (.int 1 :: st) w cn sn := w_iconst d_70_182 (by decide)
theorem d_70_183 : decode (mB 70) 183 = .ok (.goto 4, 3) := by decide +kernel
theorem s_70_183 {d : Nat} {Q : wQ} {L : List (Option Value)} {st : List Value} {w : aw} {cn sn : Nat}  : wp d 70 Q 183 L st w cn sn = wp d 70 Q 187 L st w cn sn := w_goto d_70_183 (by decide)
theorem d_70_186 : decode (mB 70) 186 = .ok (.iconst 0, 1) := by decide +kernel
theorem s_70_186 {d : Nat} {Q : wQ} {L : List (Option Value)} {st : List Value} {w : aw} {cn sn : Nat}  : wp d 70 Q 186 L st w cn sn = wp d 70 Q 187 L (.int 0 :: st) w cn sn := w_iconst d_70_186 (by decide)
theorem d_70_187 : decode (mB 70) 187 = .ok (.invokevirtual 95, 3) := by decide +kernel
theorem s_70_187 {d : Nat} {Q : wQ} {L : List (Option Value)} {st : List Value} {w : aw} {cn sn : Nat} {v0 : Value} {b : Nat} : wp d 70 Q 187 L (v0 :: .ref b :: st) w cn sn = (kd w b = 7 ∧ catS st ≤ 8 ∧ wpD d 74 [.ref b, v0] w (fun v w' => wp d 70 Q 190 L (v.toList ++ st) w' cn sn)) := w_virtual (As := [v0]) d_70_187 (by decide +kernel : cT (mO 70) 95 = some (0, 74)) rfl (by decide +kernel) rfl (by decide +kernel) rfl
theorem d_70_190 : decode (mB 70) 190 = .ok (.goto 14, 3) := by decide +kernel
theorem s_70_190 {d : Nat} {Q : wQ} {L : List (Option Value)} {st : List Value} {w : aw} {cn sn : Nat}  : wp d 70 Q 190 L st w cn sn = wp d 70 Q 204 L st w cn sn := w_goto d_70_190 (by decide)
theorem d_70_193 : decode (mB 70) 193 = .ok (.aload_n 0, 1) := by decide +kernel
theorem s_70_193 {d : Nat} {Q : wQ} {L : List (Option Value)} {st : List Value} {w : aw} {cn sn : Nat} {v : Nat} : wp d 70 Q 193 (some (.ref v) :: L) st w cn sn = wp d 70 Q 194 (some (.ref v) :: L) (.ref v :: st) w cn sn := w_aload_n d_70_193 rfl
theorem d_70_194 : decode (mB 70) 194 = .ok (.aload_n 0, 1) := by decide +kernel
theorem s_70_194 {d : Nat} {Q : wQ} {L : List (Option Value)} {st : List Value} {w : aw} {cn sn : Nat} {v : Nat} : wp d 70 Q 194 (some (.ref v) :: L) st w cn sn = wp d 70 Q 195 (some (.ref v) :: L) (.ref v :: st) w cn sn := w_aload_n d_70_194 rfl
theorem d_70_195 : decode (mB 70) 195 = .ok (.getfield 31, 3) := by decide +kernel
theorem s_70_195 {d : Nat} {Q : wQ} {L : List (Option Value)} {st : List Value} {w : aw} {cn sn : Nat} {a : Nat} : wp d 70 Q 195 L (.ref a :: st) w cn sn = (kd w a = 7 ∧ wp d 70 Q 198 L (fd w 384 a :: st) w cn sn) := w_getfield d_70_195 (by decide +kernel : fT (mO 70) 31 = some (6, 0))
theorem d_70_198 : decode (mB 70) 198 = .ok (.putfield 58, 3) := by decide +kernel
theorem s_70_198 {d : Nat} {Q : wQ} {L : List (Option Value)} {st : List Value} {w : aw} {cn sn : Nat} {x : Int32} {a : Nat} : wp d 70 Q 198 L (.int x :: .ref a :: st) w cn sn = (kd w a = 7 ∧ wp d 70 Q 201 L st (uF w 391 a (.int x)) cn sn) := w_putfield d_70_198 (by decide +kernel : fT (mO 70) 58 = some (6, 7)) (by decide +kernel) ok_int
theorem d_70_201 : decode (mB 70) 201 = .ok (.goto 3, 3) := by decide +kernel
theorem s_70_201 {d : Nat} {Q : wQ} {L : List (Option Value)} {st : List Value} {w : aw} {cn sn : Nat}  : wp d 70 Q 201 L st w cn sn = wp d 70 Q 204 L st w cn sn := w_goto d_70_201 (by decide)
theorem d_70_204 : decode (mB 70) 204 = .ok (.return_, 1) := by decide +kernel
theorem s_70_204 {d : Nat} {Q : wQ} {L : List (Option Value)} {w : aw} {cn sn : Nat}  : wp d 70 Q 204 L [] w cn sn = Q none w := w_return d_70_204 rfl
theorem d_71_0 : decode (mB 71) 0 = .ok (.aload_n 0, 1) := by decide +kernel
theorem s_71_0 {d : Nat} {Q : wQ} {L : List (Option Value)} {st : List Value} {w : aw} {cn sn : Nat} {v : Nat} : wp d 71 Q 0 (some (.ref v) :: L) st w cn sn = wp d 71 Q 1 (some (.ref v) :: L) (.ref v :: st) w cn sn := w_aload_n d_71_0 rfl
theorem d_71_1 : decode (mB 71) 1 = .ok (.getfield 24, 3) := by decide +kernel
theorem s_71_1 {d : Nat} {Q : wQ} {L : List (Option Value)} {st : List Value} {w : aw} {cn sn : Nat} {a : Nat} : wp d 71 Q 1 L (.ref a :: st) w cn sn = (kd w a = 7 ∧ wp d 71 Q 4 L (fd w 388 a :: st) w cn sn) := w_getfield d_71_1 (by decide +kernel : fT (mO 71) 24 = some (6, 4))
theorem d_71_4 : decode (mB 71) 4 = .ok (.invokevirtual 99, 3) := by decide +kernel
theorem s_71_4 {d : Nat} {Q : wQ} {L : List (Option Value)} {st : List Value} {w : aw} {cn sn : Nat} {b : Nat} : wp d 71 Q 4 L (.ref b :: st) w cn sn = (kd w b = 3 ∧ catS st ≤ 8 ∧ wpD d 29 [.ref b] w (fun v w' => wp d 71 Q 7 L (v.toList ++ st) w' cn sn)) := w_virtual (As := []) d_71_4 (by decide +kernel : cT (mO 71) 99 = some (0, 29)) rfl (by decide +kernel) rfl (by decide +kernel) rfl
theorem d_71_7 : decode (mB 71) 7 = .ok (.istore_n 2, 1) := by decide +kernel
theorem s_71_7 {d : Nat} {Q : wQ} {L : List (Option Value)} {st : List Value} {w : aw} {cn sn : Nat} {a0 a1 a2 : Option Value} {v : Int32} : wp d 71 Q 7 (a0 :: a1 :: a2 :: L) (.int v :: st) w cn sn = wp d 71 Q 8 (a0 :: clr a1 :: some (.int v) :: L) st w cn sn := w_istore_n d_71_7 (Nat.le_add_left 3 _) rfl
theorem d_71_8 : decode (mB 71) 8 = .ok (.iload_n 2, 1) := by decide +kernel
theorem s_71_8 {d : Nat} {Q : wQ} {L : List (Option Value)} {st : List Value} {w : aw} {cn sn : Nat} {a0 a1 : Option Value} {v : Int32} : wp d 71 Q 8 (a0 :: a1 :: some (.int v) :: L) st w cn sn = wp d 71 Q 9 (a0 :: a1 :: some (.int v) :: L) (.int v :: st) w cn sn := w_iload_n d_71_8 rfl
theorem d_71_9 : decode (mB 71) 9 = .ok (.ifCond .ge 12, 3) := by decide +kernel
theorem s_71_9 {d : Nat} {Q : wQ} {L : List (Option Value)} {st : List Value} {w : aw} {cn sn : Nat} {x : Int32} : wp d 71 Q 9 L (.int x :: st) w cn sn = ((0 ≤ x → wp d 71 Q 21 L st w cn sn) ∧ (¬ 0 ≤ x → wp d 71 Q 12 L st w cn sn)) := w_ifge d_71_9 (by decide)
theorem d_71_12 : decode (mB 71) 12 = .ok (.aload_n 0, 1) := by decide +kernel
theorem s_71_12 {d : Nat} {Q : wQ} {L : List (Option Value)} {st : List Value} {w : aw} {cn sn : Nat} {v : Nat} : wp d 71 Q 12 (some (.ref v) :: L) st w cn sn = wp d 71 Q 13 (some (.ref v) :: L) (.ref v :: st) w cn sn := w_aload_n d_71_12 rfl
theorem d_71_13 : decode (mB 71) 13 = .ok (.iload_n 1, 1) := by decide +kernel
theorem s_71_13 {d : Nat} {Q : wQ} {L : List (Option Value)} {st : List Value} {w : aw} {cn sn : Nat} {a0 : Option Value} {v : Int32} : wp d 71 Q 13 (a0 :: some (.int v) :: L) st w cn sn = wp d 71 Q 14 (a0 :: some (.int v) :: L) (.int v :: st) w cn sn := w_iload_n d_71_13 rfl
theorem d_71_14 : decode (mB 71) 14 = .ok (.iconst 3, 1) := by decide +kernel
theorem s_71_14 {d : Nat} {Q : wQ} {L : List (Option Value)} {st : List Value} {w : aw} {cn sn : Nat}  : wp d 71 Q 14 L st w cn sn = wp d 71 Q 15 L (.int 3 :: st) w cn sn := w_iconst d_71_14 (by decide)
theorem d_71_15 : decode (mB 71) 15 = .ok (.invokevirtual 89, 3) := by decide +kernel
theorem s_71_15 {d : Nat} {Q : wQ} {L : List (Option Value)} {st : List Value} {w : aw} {cn sn : Nat} {v0 v1 : Value} {b : Nat} : wp d 71 Q 15 L (v1 :: v0 :: .ref b :: st) w cn sn = (kd w b = 7 ∧ catS st ≤ 8 ∧ wpD d 72 [.ref b, v0, v1] w (fun v w' => wp d 71 Q 18 L (v.toList ++ st) w' cn sn)) := w_virtual (As := [v0, v1]) d_71_15 (by decide +kernel : cT (mO 71) 89 = some (0, 72)) rfl (by decide +kernel) rfl (by decide +kernel) rfl
theorem d_71_18 : decode (mB 71) 18 = .ok (.goto 8, 3) := by decide +kernel
theorem s_71_18 {d : Nat} {Q : wQ} {L : List (Option Value)} {st : List Value} {w : aw} {cn sn : Nat}  : wp d 71 Q 18 L st w cn sn = wp d 71 Q 26 L st w cn sn := w_goto d_71_18 (by decide)
theorem d_71_21 : decode (mB 71) 21 = .ok (.aload_n 0, 1) := by decide +kernel
theorem s_71_21 {d : Nat} {Q : wQ} {L : List (Option Value)} {st : List Value} {w : aw} {cn sn : Nat} {v : Nat} : wp d 71 Q 21 (some (.ref v) :: L) st w cn sn = wp d 71 Q 22 (some (.ref v) :: L) (.ref v :: st) w cn sn := w_aload_n d_71_21 rfl
theorem d_71_22 : decode (mB 71) 22 = .ok (.iload_n 2, 1) := by decide +kernel
theorem s_71_22 {d : Nat} {Q : wQ} {L : List (Option Value)} {st : List Value} {w : aw} {cn sn : Nat} {a0 a1 : Option Value} {v : Int32} : wp d 71 Q 22 (a0 :: a1 :: some (.int v) :: L) st w cn sn = wp d 71 Q 23 (a0 :: a1 :: some (.int v) :: L) (.int v :: st) w cn sn := w_iload_n d_71_22 rfl
theorem d_71_23 : decode (mB 71) 23 = .ok (.putfield 58, 3) := by decide +kernel
theorem s_71_23 {d : Nat} {Q : wQ} {L : List (Option Value)} {st : List Value} {w : aw} {cn sn : Nat} {x : Int32} {a : Nat} : wp d 71 Q 23 L (.int x :: .ref a :: st) w cn sn = (kd w a = 7 ∧ wp d 71 Q 26 L st (uF w 391 a (.int x)) cn sn) := w_putfield d_71_23 (by decide +kernel : fT (mO 71) 58 = some (6, 7)) (by decide +kernel) ok_int
theorem d_71_26 : decode (mB 71) 26 = .ok (.return_, 1) := by decide +kernel
theorem s_71_26 {d : Nat} {Q : wQ} {L : List (Option Value)} {w : aw} {cn sn : Nat}  : wp d 71 Q 26 L [] w cn sn = Q none w := w_return d_71_26 rfl
theorem d_72_0 : decode (mB 72) 0 = .ok (.aload_n 0, 1) := by decide +kernel
theorem s_72_0 {d : Nat} {Q : wQ} {L : List (Option Value)} {st : List Value} {w : aw} {cn sn : Nat} {v : Nat} : wp d 72 Q 0 (some (.ref v) :: L) st w cn sn = wp d 72 Q 1 (some (.ref v) :: L) (.ref v :: st) w cn sn := w_aload_n d_72_0 rfl
theorem d_72_1 : decode (mB 72) 1 = .ok (.iload_n 1, 1) := by decide +kernel
theorem s_72_1 {d : Nat} {Q : wQ} {L : List (Option Value)} {st : List Value} {w : aw} {cn sn : Nat} {a0 : Option Value} {v : Int32} : wp d 72 Q 1 (a0 :: some (.int v) :: L) st w cn sn = wp d 72 Q 2 (a0 :: some (.int v) :: L) (.int v :: st) w cn sn := w_iload_n d_72_1 rfl
theorem d_72_2 : decode (mB 72) 2 = .ok (.putfield 35, 3) := by decide +kernel
theorem s_72_2 {d : Nat} {Q : wQ} {L : List (Option Value)} {st : List Value} {w : aw} {cn sn : Nat} {x : Int32} {a : Nat} : wp d 72 Q 2 L (.int x :: .ref a :: st) w cn sn = (kd w a = 7 ∧ wp d 72 Q 5 L st (uF w 390 a (.int x)) cn sn) := w_putfield d_72_2 (by decide +kernel : fT (mO 72) 35 = some (6, 6)) (by decide +kernel) ok_int
theorem d_72_5 : decode (mB 72) 5 = .ok (.aload_n 0, 1) := by decide +kernel
theorem s_72_5 {d : Nat} {Q : wQ} {L : List (Option Value)} {st : List Value} {w : aw} {cn sn : Nat} {v : Nat} : wp d 72 Q 5 (some (.ref v) :: L) st w cn sn = wp d 72 Q 6 (some (.ref v) :: L) (.ref v :: st) w cn sn := w_aload_n d_72_5 rfl
theorem d_72_6 : decode (mB 72) 6 = .ok (.iload_n 2, 1) := by decide +kernel
theorem s_72_6 {d : Nat} {Q : wQ} {L : List (Option Value)} {st : List Value} {w : aw} {cn sn : Nat} {a0 a1 : Option Value} {v : Int32} : wp d 72 Q 6 (a0 :: a1 :: some (.int v) :: L) st w cn sn = wp d 72 Q 7 (a0 :: a1 :: some (.int v) :: L) (.int v :: st) w cn sn := w_iload_n d_72_6 rfl
theorem d_72_7 : decode (mB 72) 7 = .ok (.putfield 77, 3) := by decide +kernel
theorem s_72_7 {d : Nat} {Q : wQ} {L : List (Option Value)} {st : List Value} {w : aw} {cn sn : Nat} {x : Int32} {a : Nat} : wp d 72 Q 7 L (.int x :: .ref a :: st) w cn sn = (kd w a = 7 ∧ wp d 72 Q 10 L st (uF w 394 a (.int x)) cn sn) := w_putfield d_72_7 (by decide +kernel : fT (mO 72) 77 = some (6, 10)) (by decide +kernel) ok_int
theorem d_72_10 : decode (mB 72) 10 = .ok (.return_, 1) := by decide +kernel
theorem s_72_10 {d : Nat} {Q : wQ} {L : List (Option Value)} {w : aw} {cn sn : Nat}  : wp d 72 Q 10 L [] w cn sn = Q none w := w_return d_72_10 rfl
theorem d_73_0 : decode (mB 73) 0 = .ok (.aload_n 0, 1) := by decide +kernel
theorem s_73_0 {d : Nat} {Q : wQ} {L : List (Option Value)} {st : List Value} {w : aw} {cn sn : Nat} {v : Nat} : wp d 73 Q 0 (some (.ref v) :: L) st w cn sn = wp d 73 Q 1 (some (.ref v) :: L) (.ref v :: st) w cn sn := w_aload_n d_73_0 rfl
theorem d_73_1 : decode (mB 73) 1 = .ok (.getfield 58, 3) := by decide +kernel
theorem s_73_1 {d : Nat} {Q : wQ} {L : List (Option Value)} {st : List Value} {w : aw} {cn sn : Nat} {a : Nat} : wp d 73 Q 1 L (.ref a :: st) w cn sn = (kd w a = 7 ∧ wp d 73 Q 4 L (fd w 391 a :: st) w cn sn) := w_getfield d_73_1 (by decide +kernel : fT (mO 73) 58 = some (6, 7))
theorem d_73_4 : decode (mB 73) 4 = .ok (.ifCond .eq 21, 3) := by decide +kernel
theorem s_73_4 {d : Nat} {Q : wQ} {L : List (Option Value)} {st : List Value} {w : aw} {cn sn : Nat} {x : Int32} : wp d 73 Q 4 L (.int x :: st) w cn sn = ((x = 0 → wp d 73 Q 25 L st w cn sn) ∧ (¬ x = 0 → wp d 73 Q 7 L st w cn sn)) := w_ifeq d_73_4 (by decide)
theorem d_73_7 : decode (mB 73) 7 = .ok (.aload_n 0, 1) := by decide +kernel
theorem s_73_7 {d : Nat} {Q : wQ} {L : List (Option Value)} {st : List Value} {w : aw} {cn sn : Nat} {v : Nat} : wp d 73 Q 7 (some (.ref v) :: L) st w cn sn = wp d 73 Q 8 (some (.ref v) :: L) (.ref v :: st) w cn sn := w_aload_n d_73_7 rfl
theorem d_73_8 : decode (mB 73) 8 = .ok (.iconst 5, 1) := by decide +kernel
theorem s_73_8 {d : Nat} {Q : wQ} {L : List (Option Value)} {st : List Value} {w : aw} {cn sn : Nat}  : wp d 73 Q 8 L st w cn sn = wp d 73 Q 9 L (.int 5 :: st) w cn sn := w_iconst d_73_8 (by decide)
theorem d_73_9 : decode (mB 73) 9 = .ok (.putfield 77, 3) := by decide +kernel
theorem s_73_9 {d : Nat} {Q : wQ} {L : List (Option Value)} {st : List Value} {w : aw} {cn sn : Nat} {x : Int32} {a : Nat} : wp d 73 Q 9 L (.int x :: .ref a :: st) w cn sn = (kd w a = 7 ∧ wp d 73 Q 12 L st (uF w 394 a (.int x)) cn sn) := w_putfield d_73_9 (by decide +kernel : fT (mO 73) 77 = some (6, 10)) (by decide +kernel) ok_int
theorem d_73_12 : decode (mB 73) 12 = .ok (.aload_n 0, 1) := by decide +kernel
theorem s_73_12 {d : Nat} {Q : wQ} {L : List (Option Value)} {st : List Value} {w : aw} {cn sn : Nat} {v : Nat} : wp d 73 Q 12 (some (.ref v) :: L) st w cn sn = wp d 73 Q 13 (some (.ref v) :: L) (.ref v :: st) w cn sn := w_aload_n d_73_12 rfl
theorem d_73_13 : decode (mB 73) 13 = .ok (.aload_n 0, 1) := by decide +kernel
theorem s_73_13 {d : Nat} {Q : wQ} {L : List (Option Value)} {st : List Value} {w : aw} {cn sn : Nat} {v : Nat} : wp d 73 Q 13 (some (.ref v) :: L) st w cn sn = wp d 73 Q 14 (some (.ref v) :: L) (.ref v :: st) w cn sn := w_aload_n d_73_13 rfl
theorem d_73_14 : decode (mB 73) 14 = .ok (.getfield 58, 3) := by decide +kernel
theorem s_73_14 {d : Nat} {Q : wQ} {L : List (Option Value)} {st : List Value} {w : aw} {cn sn : Nat} {a : Nat} : wp d 73 Q 14 L (.ref a :: st) w cn sn = (kd w a = 7 ∧ wp d 73 Q 17 L (fd w 391 a :: st) w cn sn) := w_getfield d_73_14 (by decide +kernel : fT (mO 73) 58 = some (6, 7))
theorem d_73_17 : decode (mB 73) 17 = .ok (.putfield 103, 3) := by decide +kernel
theorem s_73_17 {d : Nat} {Q : wQ} {L : List (Option Value)} {st : List Value} {w : aw} {cn sn : Nat} {x : Int32} {a : Nat} : wp d 73 Q 17 L (.int x :: .ref a :: st) w cn sn = (kd w a = 7 ∧ wp d 73 Q 20 L st (uF w 395 a (.int x)) cn sn) := w_putfield d_73_17 (by decide +kernel : fT (mO 73) 103 = some (6, 11)) (by decide +kernel) ok_int
theorem d_73_20 : decode (mB 73) 20 = .ok (.aload_n 0, 1) := by decide +kernel
theorem s_73_20 {d : Nat} {Q : wQ} {L : List (Option Value)} {st : List Value} {w : aw} {cn sn : Nat} {v : Nat} : wp d 73 Q 20 (some (.ref v) :: L) st w cn sn = wp d 73 Q 21 (some (.ref v) :: L) (.ref v :: st) w cn sn := w_aload_n d_73_20 rfl
theorem d_73_21 : decode (mB 73) 21 = .ok (.iconst 0, 1) := by decide +kernel
theorem s_73_21 {d : Nat} {Q : wQ} {L : List (Option Value)} {st : List Value} {w : aw} {cn sn : Nat}  : wp d 73 Q 21 L st w cn sn = wp d 73 Q 22 L (.int 0 :: st) w cn sn := w_iconst d_73_21 (by decide)
theorem d_73_22 : decode (mB 73) 22 = .ok (.putfield 58, 3) := by decide +kernel
theorem s_73_22 {d : Nat} {Q : wQ} {L : List (Option Value)} {st : List Value} {w : aw} {cn sn : Nat} {x : Int32} {a : Nat} : wp d 73 Q 22 L (.int x :: .ref a :: st) w cn sn = (kd w a = 7 ∧ wp d 73 Q 25 L st (uF w 391 a (.int x)) cn sn) := w_putfield d_73_22 (by decide +kernel : fT (mO 73) 58 = some (6, 7)) (by decide +kernel) ok_int
theorem d_73_25 : decode (mB 73) 25 = .ok (.return_, 1) := by decide +kernel
theorem s_73_25 {d : Nat} {Q : wQ} {L : List (Option Value)} {w : aw} {cn sn : Nat}  : wp d 73 Q 25 L [] w cn sn = Q none w := w_return d_73_25 rfl
theorem d_74_0 : decode (mB 74) 0 = .ok (.aload_n 0, 1) := by decide +kernel
theorem s_74_0 {d : Nat} {Q : wQ} {L : List (Option Value)} {st : List Value} {w : aw} {cn sn : Nat} {v : Nat} : wp d 74 Q 0 (some (.ref v) :: L) st w cn sn = wp d 74 Q 1 (some (.ref v) :: L) (.ref v :: st) w cn sn := w_aload_n d_74_0 rfl
theorem d_74_1 : decode (mB 74) 1 = .ok (.getfield 9, 3) := by decide +kernel
theorem s_74_1 {d : Nat} {Q : wQ} {L : List (Option Value)} {st : List Value} {w : aw} {cn sn : Nat} {a : Nat} : wp d 74 Q 1 L (.ref a :: st) w cn sn = (kd w a = 7 ∧ wp d 74 Q 4 L (fd w 385 a :: st) w cn sn) := w_getfield d_74_1 (by decide +kernel : fT (mO 74) 9 = some (6, 1))
theorem d_74_4 : decode (mB 74) 4 = .ok (.aload_n 0, 1) := by decide +kernel
theorem s_74_4 {d : Nat} {Q : wQ} {L : List (Option Value)} {st : List Value} {w : aw} {cn sn : Nat} {v : Nat} : wp d 74 Q 4 (some (.ref v) :: L) st w cn sn = wp d 74 Q 5 (some (.ref v) :: L) (.ref v :: st) w cn sn := w_aload_n d_74_4 rfl
theorem d_74_5 : decode (mB 74) 5 = .ok (.getfield 35, 3) := by decide +kernel
theorem s_74_5 {d : Nat} {Q : wQ} {L : List (Option Value)} {st : List Value} {w : aw} {cn sn : Nat} {a : Nat} : wp d 74 Q 5 L (.ref a :: st) w cn sn = (kd w a = 7 ∧ wp d 74 Q 8 L (fd w 390 a :: st) w cn sn) := w_getfield d_74_5 (by decide +kernel : fT (mO 74) 35 = some (6, 6))
theorem d_74_8 : decode (mB 74) 8 = .ok (.sipush 4095, 3) := by decide +kernel
theorem s_74_8 {d : Nat} {Q : wQ} {L : List (Option Value)} {st : List Value} {w : aw} {cn sn : Nat}  : wp d 74 Q 8 L st w cn sn = wp d 74 Q 11 L (.int 4095 :: st) w cn sn := w_sipush d_74_8 (by decide)
theorem d_74_11 : decode (mB 74) 11 = .ok (.iand, 1) := by decide +kernel
theorem s_74_11 {d : Nat} {Q : wQ} {L : List (Option Value)} {st : List Value} {w : aw} {cn sn : Nat} {a b : Int32} : wp d 74 Q 11 L (.int b :: .int a :: st) w cn sn = wp d 74 Q 12 L (.int (a &&& b) :: st) w cn sn := wp_row d_74_11 _ _ _ _ _
theorem d_74_12 : decode (mB 74) 12 = .ok (.iaload, 1) := by decide +kernel
theorem s_74_12 {d : Nat} {Q : wQ} {L : List (Option Value)} {st : List Value} {w : aw} {cn sn : Nat} {a : Nat} {i : Int32} : wp d 74 Q 12 L (.int i :: .ref a :: st) w cn sn = ((kd w a = 20 ∨ kd w a = 30) ∧ inR i (ln w a) ∧ wp d 74 Q 13 L (.int (ai w a i.toNatClampNeg) :: st) w cn sn) := wp_row d_74_12 _ _ _ _ _
theorem d_74_13 : decode (mB 74) 13 = .ok (.istore_n 2, 1) := by decide +kernel
theorem s_74_13 {d : Nat} {Q : wQ} {L : List (Option Value)} {st : List Value} {w : aw} {cn sn : Nat} {a0 a1 a2 : Option Value} {v : Int32} : wp d 74 Q 13 (a0 :: a1 :: a2 :: L) (.int v :: st) w cn sn = wp d 74 Q 14 (a0 :: clr a1 :: some (.int v) :: L) st w cn sn := w_istore_n d_74_13 (Nat.le_add_left 3 _) rfl
theorem d_74_14 : decode (mB 74) 14 = .ok (.aload_n 0, 1) := by decide +kernel
theorem s_74_14 {d : Nat} {Q : wQ} {L : List (Option Value)} {st : List Value} {w : aw} {cn sn : Nat} {v : Nat} : wp d 74 Q 14 (some (.ref v) :: L) st w cn sn = wp d 74 Q 15 (some (.ref v) :: L) (.ref v :: st) w cn sn := w_aload_n d_74_14 rfl
theorem d_74_15 : decode (mB 74) 15 = .ok (.invokevirtual 41, 3) := by decide +kernel
theorem s_74_15 {d : Nat} {Q : wQ} {L : List (Option Value)} {st : List Value} {w : aw} {cn sn : Nat} {b : Nat} : wp d 74 Q 15 L (.ref b :: st) w cn sn = (kd w b = 7 ∧ catS st ≤ 8 ∧ wpD d 63 [.ref b] w (fun v w' => wp d 74 Q 18 L (v.toList ++ st) w' cn sn)) := w_virtual (As := []) d_74_15 (by decide +kernel : cT (mO 74) 41 = some (0, 63)) rfl (by decide +kernel) rfl (by decide +kernel) rfl
theorem d_74_18 : decode (mB 74) 18 = .ok (.aload_n 0, 1) := by decide +kernel
theorem s_74_18 {d : Nat} {Q : wQ} {L : List (Option Value)} {st : List Value} {w : aw} {cn sn : Nat} {v : Nat} : wp d 74 Q 18 (some (.ref v) :: L) st w cn sn = wp d 74 Q 19 (some (.ref v) :: L) (.ref v :: st) w cn sn := w_aload_n d_74_18 rfl
theorem d_74_19 : decode (mB 74) 19 = .ok (.getfield 58, 3) := by decide +kernel
theorem s_74_19 {d : Nat} {Q : wQ} {L : List (Option Value)} {st : List Value} {w : aw} {cn sn : Nat} {a : Nat} : wp d 74 Q 19 L (.ref a :: st) w cn sn = (kd w a = 7 ∧ wp d 74 Q 22 L (fd w 391 a :: st) w cn sn) := w_getfield d_74_19 (by decide +kernel : fT (mO 74) 58 = some (6, 7))
theorem d_74_22 : decode (mB 74) 22 = .ok (.iconst 0, 1) := by decide +kernel
theorem s_74_22 {d : Nat} {Q : wQ} {L : List (Option Value)} {st : List Value} {w : aw} {cn sn : Nat}  : wp d 74 Q 22 L st w cn sn = wp d 74 Q 23 L (.int 0 :: st) w cn sn := w_iconst d_74_22 (by decide)
theorem d_74_23 : decode (mB 74) 23 = .ok (.bipush 31, 2) := by decide +kernel
theorem s_74_23 {d : Nat} {Q : wQ} {L : List (Option Value)} {st : List Value} {w : aw} {cn sn : Nat}  : wp d 74 Q 23 L st w cn sn = wp d 74 Q 25 L (.int 31 :: st) w cn sn := w_bipush d_74_23 (by decide)
theorem d_74_25 : decode (mB 74) 25 = .ok (.invokestatic 106, 3) := by decide +kernel
theorem s_74_25 {d : Nat} {Q : wQ} {L : List (Option Value)} {st : List Value} {w : aw} {cn sn : Nat} {v0 v1 v2 : Value} : wp d 74 Q 25 L (v2 :: v1 :: v0 :: st) w cn sn = (catS st ≤ 8 ∧ wpD d 100 [v0, v1, v2] w (fun v w' => wp d 74 Q 28 L (v.toList ++ st) w' cn sn)) := w_static (As := [v0, v1, v2]) d_74_25 (by decide +kernel : cT (mO 74) 106 = some (5, 100)) (by decide +kernel) rfl (by decide +kernel) rfl
theorem d_74_28 : decode (mB 74) 28 = .ok (.ifCond .ne 11, 3) := by decide +kernel
theorem s_74_28 {d : Nat} {Q : wQ} {L : List (Option Value)} {st : List Value} {w : aw} {cn sn : Nat} {x : Int32} : wp d 74 Q 28 L (.int x :: st) w cn sn = ((¬ x = 0 → wp d 74 Q 39 L st w cn sn) ∧ (x = 0 → wp d 74 Q 31 L st w cn sn)) := w_ifne d_74_28 (by decide)
theorem d_74_31 : decode (mB 74) 31 = .ok (.aload_n 0, 1) := by decide +kernel
theorem s_74_31 {d : Nat} {Q : wQ} {L : List (Option Value)} {st : List Value} {w : aw} {cn sn : Nat} {v : Nat} : wp d 74 Q 31 (some (.ref v) :: L) st w cn sn = wp d 74 Q 32 (some (.ref v) :: L) (.ref v :: st) w cn sn := w_aload_n d_74_31 rfl
theorem d_74_32 : decode (mB 74) 32 = .ok (.sipush 4095, 3) := by decide +kernel
theorem s_74_32 {d : Nat} {Q : wQ} {L : List (Option Value)} {st : List Value} {w : aw} {cn sn : Nat}  : wp d 74 Q 32 L st w cn sn = wp d 74 Q 35 L (.int 4095 :: st) w cn sn := w_sipush d_74_32 (by decide)
theorem d_74_35 : decode (mB 74) 35 = .ok (.putfield 58, 3) := by decide +kernel
theorem s_74_35 {d : Nat} {Q : wQ} {L : List (Option Value)} {st : List Value} {w : aw} {cn sn : Nat} {x : Int32} {a : Nat} : wp d 74 Q 35 L (.int x :: .ref a :: st) w cn sn = (kd w a = 7 ∧ wp d 74 Q 38 L st (uF w 391 a (.int x)) cn sn) := w_putfield d_74_35 (by decide +kernel : fT (mO 74) 58 = some (6, 7)) (by decide +kernel) ok_int
theorem d_74_38 : decode (mB 74) 38 = .ok (.return_, 1) := by decide +kernel
theorem s_74_38 {d : Nat} {Q : wQ} {L : List (Option Value)} {w : aw} {cn sn : Nat}  : wp d 74 Q 38 L [] w cn sn = Q none w := w_return d_74_38 rfl
theorem d_74_39 : decode (mB 74) 39 = .ok (.aload_n 0, 1) := by decide +kernel
theorem s_74_39 {d : Nat} {Q : wQ} {L : List (Option Value)} {st : List Value} {w : aw} {cn sn : Nat} {v : Nat} : wp d 74 Q 39 (some (.ref v) :: L) st w cn sn = wp d 74 Q 40 (some (.ref v) :: L) (.ref v :: st) w cn sn := w_aload_n d_74_39 rfl
theorem d_74_40 : decode (mB 74) 40 = .ok (.getfield 58, 3) := by decide +kernel
theorem s_74_40 {d : Nat} {Q : wQ} {L : List (Option Value)} {st : List Value} {w : aw} {cn sn : Nat} {a : Nat} : wp d 74 Q 40 L (.ref a :: st) w cn sn = (kd w a = 7 ∧ wp d 74 Q 43 L (fd w 391 a :: st) w cn sn) := w_getfield d_74_40 (by decide +kernel : fT (mO 74) 58 = some (6, 7))
theorem d_74_43 : decode (mB 74) 43 = .ok (.sipush 128, 3) := by decide +kernel
theorem s_74_43 {d : Nat} {Q : wQ} {L : List (Option Value)} {st : List Value} {w : aw} {cn sn : Nat}  : wp d 74 Q 43 L st w cn sn = wp d 74 Q 46 L (.int 128 :: st) w cn sn := w_sipush d_74_43 (by decide)
theorem d_74_46 : decode (mB 74) 46 = .ok (.imul, 1) := by decide +kernel
theorem s_74_46 {d : Nat} {Q : wQ} {L : List (Option Value)} {st : List Value} {w : aw} {cn sn : Nat} {a b : Int32} : wp d 74 Q 46 L (.int b :: .int a :: st) w cn sn = wp d 74 Q 47 L (.int (a * b) :: st) w cn sn := wp_row d_74_46 _ _ _ _ _
theorem d_74_47 : decode (mB 74) 47 = .ok (.istore_n 3, 1) := by decide +kernel
theorem s_74_47 {d : Nat} {Q : wQ} {L : List (Option Value)} {st : List Value} {w : aw} {cn sn : Nat} {a0 a1 a2 a3 : Option Value} {v : Int32} : wp d 74 Q 47 (a0 :: a1 :: a2 :: a3 :: L) (.int v :: st) w cn sn = wp d 74 Q 48 (a0 :: a1 :: clr a2 :: some (.int v) :: L) st w cn sn := w_istore_n d_74_47 (Nat.le_add_left 4 _) rfl
theorem d_74_48 : decode (mB 74) 48 = .ok (.iconst 0, 1) := by decide +kernel
theorem s_74_48 {d : Nat} {Q : wQ} {L : List (Option Value)} {st : List Value} {w : aw} {cn sn : Nat}  : wp d 74 Q 48 L st w cn sn = wp d 74 Q 49 L (.int 0 :: st) w cn sn := w_iconst d_74_48 (by decide)
theorem d_74_49 : decode (mB 74) 49 = .ok (.istore 4, 2) := by decide +kernel
theorem s_74_49 {d : Nat} {Q : wQ} {L : List (Option Value)} {st : List Value} {w : aw} {cn sn : Nat} {a0 a1 a2 a3 a4 : Option Value} {v : Int32} : wp d 74 Q 49 (a0 :: a1 :: a2 :: a3 :: a4 :: L) (.int v :: st) w cn sn = wp d 74 Q 51 (a0 :: a1 :: a2 :: clr a3 :: some (.int v) :: L) st w cn sn := w_istore d_74_49 (Nat.le_add_left 5 _) rfl
theorem d_74_51 : decode (mB 74) 51 = .ok (.iload 4, 2) := by decide +kernel
theorem s_74_51 {d : Nat} {Q : wQ} {L : List (Option Value)} {st : List Value} {w : aw} {cn sn : Nat} {a0 a1 a2 a3 : Option Value} {v : Int32} : wp d 74 Q 51 (a0 :: a1 :: a2 :: a3 :: some (.int v) :: L) st w cn sn = wp d 74 Q 53 (a0 :: a1 :: a2 :: a3 :: some (.int v) :: L) (.int v :: st) w cn sn := w_iload d_74_51 rfl
theorem d_74_53 : decode (mB 74) 53 = .ok (.sipush 128, 3) := by decide +kernel
theorem s_74_53 {d : Nat} {Q : wQ} {L : List (Option Value)} {st : List Value} {w : aw} {cn sn : Nat}  : wp d 74 Q 53 L st w cn sn = wp d 74 Q 56 L (.int 128 :: st) w cn sn := w_sipush d_74_53 (by decide)
theorem d_74_56 : decode (mB 74) 56 = .ok (.if_icmp .ge 58, 3) := by decide +kernel
theorem s_74_56 {d : Nat} {Q : wQ} {L : List (Option Value)} {st : List Value} {w : aw} {cn sn : Nat} {a b : Int32} : wp d 74 Q 56 L (.int b :: .int a :: st) w cn sn = ((b ≤ a → wp d 74 Q 114 L st w cn sn) ∧ (¬ b ≤ a → wp d 74 Q 59 L st w cn sn)) := w_icge d_74_56 (by decide)
theorem d_74_59 : decode (mB 74) 59 = .ok (.iload_n 2, 1) := by decide +kernel
theorem s_74_59 {d : Nat} {Q : wQ} {L : List (Option Value)} {st : List Value} {w : aw} {cn sn : Nat} {a0 a1 : Option Value} {v : Int32} : wp d 74 Q 59 (a0 :: a1 :: some (.int v) :: L) st w cn sn = wp d 74 Q 60 (a0 :: a1 :: some (.int v) :: L) (.int v :: st) w cn sn := w_iload_n d_74_59 rfl
theorem d_74_60 : decode (mB 74) 60 = .ok (.iload 4, 2) := by decide +kernel
theorem s_74_60 {d : Nat} {Q : wQ} {L : List (Option Value)} {st : List Value} {w : aw} {cn sn : Nat} {a0 a1 a2 a3 : Option Value} {v : Int32} : wp d 74 Q 60 (a0 :: a1 :: a2 :: a3 :: some (.int v) :: L) st w cn sn = wp d 74 Q 62 (a0 :: a1 :: a2 :: a3 :: some (.int v) :: L) (.int v :: st) w cn sn := w_iload d_74_60 rfl
theorem d_74_62 : decode (mB 74) 62 = .ok (.iadd, 1) := by decide +kernel
theorem s_74_62 {d : Nat} {Q : wQ} {L : List (Option Value)} {st : List Value} {w : aw} {cn sn : Nat} {a b : Int32} : wp d 74 Q 62 L (.int b :: .int a :: st) w cn sn = wp d 74 Q 63 L (.int (a + b) :: st) w cn sn := wp_row d_74_62 _ _ _ _ _
theorem d_74_63 : decode (mB 74) 63 = .ok (.sipush 4095, 3) := by decide +kernel
theorem s_74_63 {d : Nat} {Q : wQ} {L : List (Option Value)} {st : List Value} {w : aw} {cn sn : Nat}  : wp d 74 Q 63 L st w cn sn = wp d 74 Q 66 L (.int 4095 :: st) w cn sn := w_sipush d_74_63 (by decide)
theorem d_74_66 : decode (mB 74) 66 = .ok (.iand, 1) := by decide +kernel
theorem s_74_66 {d : Nat} {Q : wQ} {L : List (Option Value)} {st : List Value} {w : aw} {cn sn : Nat} {a b : Int32} : wp d 74 Q 66 L (.int b :: .int a :: st) w cn sn = wp d 74 Q 67 L (.int (a &&& b) :: st) w cn sn := wp_row d_74_66 _ _ _ _ _
theorem d_74_67 : decode (mB 74) 67 = .ok (.istore 5, 2) := by decide +kernel
theorem s_74_67 {d : Nat} {Q : wQ} {L : List (Option Value)} {st : List Value} {w : aw} {cn sn : Nat} {a0 a1 a2 a3 a4 a5 : Option Value} {v : Int32} : wp d 74 Q 67 (a0 :: a1 :: a2 :: a3 :: a4 :: a5 :: L) (.int v :: st) w cn sn = wp d 74 Q 69 (a0 :: a1 :: a2 :: a3 :: clr a4 :: some (.int v) :: L) st w cn sn := w_istore d_74_67 (Nat.le_add_left 6 _) rfl
theorem d_74_69 : decode (mB 74) 69 = .ok (.iload_n 1, 1) := by decide +kernel
theorem s_74_69 {d : Nat} {Q : wQ} {L : List (Option Value)} {st : List Value} {w : aw} {cn sn : Nat} {a0 : Option Value} {v : Int32} : wp d 74 Q 69 (a0 :: some (.int v) :: L) st w cn sn = wp d 74 Q 70 (a0 :: some (.int v) :: L) (.int v :: st) w cn sn := w_iload_n d_74_69 rfl
theorem d_74_70 : decode (mB 74) 70 = .ok (.ifCond .eq 22, 3) := by decide +kernel
theorem s_74_70 {d : Nat} {Q : wQ} {L : List (Option Value)} {st : List Value} {w : aw} {cn sn : Nat} {x : Int32} : wp d 74 Q 70 L (.int x :: st) w cn sn = ((x = 0 → wp d 74 Q 92 L st w cn sn) ∧ (¬ x = 0 → wp d 74 Q 73 L st w cn sn)) := w_ifeq d_74_70 (by decide)
theorem d_74_73 : decode (mB 74) 73 = .ok (.aload_n 0, 1) := by decide +kernel
theorem s_74_73 {d : Nat} {Q : wQ} {L : List (Option Value)} {st : List Value} {w : aw} {cn sn : Nat} {v : Nat} : wp d 74 Q 73 (some (.ref v) :: L) st w cn sn = wp d 74 Q 74 (some (.ref v) :: L) (.ref v :: st) w cn sn := w_aload_n d_74_73 rfl
theorem d_74_74 : decode (mB 74) 74 = .ok (.getfield 9, 3) := by decide +kernel
theorem s_74_74 {d : Nat} {Q : wQ} {L : List (Option Value)} {st : List Value} {w : aw} {cn sn : Nat} {a : Nat} : wp d 74 Q 74 L (.ref a :: st) w cn sn = (kd w a = 7 ∧ wp d 74 Q 77 L (fd w 385 a :: st) w cn sn) := w_getfield d_74_74 (by decide +kernel : fT (mO 74) 9 = some (6, 1))
theorem d_74_77 : decode (mB 74) 77 = .ok (.iload 5, 2) := by decide +kernel
theorem s_74_77 {d : Nat} {Q : wQ} {L : List (Option Value)} {st : List Value} {w : aw} {cn sn : Nat} {a0 a1 a2 a3 a4 : Option Value} {v : Int32} : wp d 74 Q 77 (a0 :: a1 :: a2 :: a3 :: a4 :: some (.int v) :: L) st w cn sn = wp d 74 Q 79 (a0 :: a1 :: a2 :: a3 :: a4 :: some (.int v) :: L) (.int v :: st) w cn sn := w_iload d_74_77 rfl
theorem d_74_79 : decode (mB 74) 79 = .ok (.aload_n 0, 1) := by decide +kernel
theorem s_74_79 {d : Nat} {Q : wQ} {L : List (Option Value)} {st : List Value} {w : aw} {cn sn : Nat} {v : Nat} : wp d 74 Q 79 (some (.ref v) :: L) st w cn sn = wp d 74 Q 80 (some (.ref v) :: L) (.ref v :: st) w cn sn := w_aload_n d_74_79 rfl
theorem d_74_80 : decode (mB 74) 80 = .ok (.getfield 15, 3) := by decide +kernel
theorem s_74_80 {d : Nat} {Q : wQ} {L : List (Option Value)} {st : List Value} {w : aw} {cn sn : Nat} {a : Nat} : wp d 74 Q 80 L (.ref a :: st) w cn sn = (kd w a = 7 ∧ wp d 74 Q 83 L (fd w 386 a :: st) w cn sn) := w_getfield d_74_80 (by decide +kernel : fT (mO 74) 15 = some (6, 2))
theorem d_74_83 : decode (mB 74) 83 = .ok (.iload_n 3, 1) := by decide +kernel
theorem s_74_83 {d : Nat} {Q : wQ} {L : List (Option Value)} {st : List Value} {w : aw} {cn sn : Nat} {a0 a1 a2 : Option Value} {v : Int32} : wp d 74 Q 83 (a0 :: a1 :: a2 :: some (.int v) :: L) st w cn sn = wp d 74 Q 84 (a0 :: a1 :: a2 :: some (.int v) :: L) (.int v :: st) w cn sn := w_iload_n d_74_83 rfl
theorem d_74_84 : decode (mB 74) 84 = .ok (.iload 4, 2) := by decide +kernel
theorem s_74_84 {d : Nat} {Q : wQ} {L : List (Option Value)} {st : List Value} {w : aw} {cn sn : Nat} {a0 a1 a2 a3 : Option Value} {v : Int32} : wp d 74 Q 84 (a0 :: a1 :: a2 :: a3 :: some (.int v) :: L) st w cn sn = wp d 74 Q 86 (a0 :: a1 :: a2 :: a3 :: some (.int v) :: L) (.int v :: st) w cn sn := w_iload d_74_84 rfl
theorem d_74_86 : decode (mB 74) 86 = .ok (.iadd, 1) := by decide +kernel
theorem s_74_86 {d : Nat} {Q : wQ} {L : List (Option Value)} {st : List Value} {w : aw} {cn sn : Nat} {a b : Int32} : wp d 74 Q 86 L (.int b :: .int a :: st) w cn sn = wp d 74 Q 87 L (.int (a + b) :: st) w cn sn := wp_row d_74_86 _ _ _ _ _
theorem d_74_87 : decode (mB 74) 87 = .ok (.iaload, 1) := by decide +kernel
theorem s_74_87 {d : Nat} {Q : wQ} {L : List (Option Value)} {st : List Value} {w : aw} {cn sn : Nat} {a : Nat} {i : Int32} : wp d 74 Q 87 L (.int i :: .ref a :: st) w cn sn = ((kd w a = 20 ∨ kd w a = 30) ∧ inR i (ln w a) ∧ wp d 74 Q 88 L (.int (ai w a i.toNatClampNeg) :: st) w cn sn) := wp_row d_74_87 _ _ _ _ _
theorem d_74_88 : decode (mB 74) 88 = .ok (.iastore, 1) := by decide +kernel
theorem s_74_88 {d : Nat} {Q : wQ} {L : List (Option Value)} {st : List Value} {w : aw} {cn sn : Nat} {a : Nat} {i x : Int32} : wp d 74 Q 88 L (.int x :: .int i :: .ref a :: st) w cn sn = (kd w a = 20 ∧ inR i (ln w a) ∧ wp d 74 Q 89 L st (uA w a i.toNatClampNeg x) cn sn) := wp_row d_74_88 _ _ _ _ _
theorem d_74_89 : decode (mB 74) 89 = .ok (.goto 19, 3) := by decide +kernel
theorem s_74_89 {d : Nat} {Q : wQ} {L : List (Option Value)} {st : List Value} {w : aw} {cn sn : Nat}  : wp d 74 Q 89 L st w cn sn = wp d 74 Q 108 L st w cn sn := w_goto d_74_89 (by decide)
theorem d_74_92 : decode (mB 74) 92 = .ok (.aload_n 0, 1) := by decide +kernel
theorem s_74_92 {d : Nat} {Q : wQ} {L : List (Option Value)} {st : List Value} {w : aw} {cn sn : Nat} {v : Nat} : wp d 74 Q 92 (some (.ref v) :: L) st w cn sn = wp d 74 Q 93 (some (.ref v) :: L) (.ref v :: st) w cn sn := w_aload_n d_74_92 rfl
theorem d_74_93 : decode (mB 74) 93 = .ok (.getfield 15, 3) := by decide +kernel
theorem s_74_93 {d : Nat} {Q : wQ} {L : List (Option Value)} {st : List Value} {w : aw} {cn sn : Nat} {a : Nat} : wp d 74 Q 93 L (.ref a :: st) w cn sn = (kd w a = 7 ∧ wp d 74 Q 96 L (fd w 386 a :: st) w cn sn) := w_getfield d_74_93 (by decide +kernel : fT (mO 74) 15 = some (6, 2))
theorem d_74_96 : decode (mB 74) 96 = .ok (.iload_n 3, 1) := by decide +kernel
theorem s_74_96 {d : Nat} {Q : wQ} {L : List (Option Value)} {st : List Value} {w : aw} {cn sn : Nat} {a0 a1 a2 : Option Value} {v : Int32} : wp d 74 Q 96 (a0 :: a1 :: a2 :: some (.int v) :: L) st w cn sn = wp d 74 Q 97 (a0 :: a1 :: a2 :: some (.int v) :: L) (.int v :: st) w cn sn := w_iload_n d_74_96 rfl
theorem d_74_97 : decode (mB 74) 97 = .ok (.iload 4, 2) := by decide +kernel
theorem s_74_97 {d : Nat} {Q : wQ} {L : List (Option Value)} {st : List Value} {w : aw} {cn sn : Nat} {a0 a1 a2 a3 : Option Value} {v : Int32} : wp d 74 Q 97 (a0 :: a1 :: a2 :: a3 :: some (.int v) :: L) st w cn sn = wp d 74 Q 99 (a0 :: a1 :: a2 :: a3 :: some (.int v) :: L) (.int v :: st) w cn sn := w_iload d_74_97 rfl
theorem d_74_99 : decode (mB 74) 99 = .ok (.iadd, 1) := by decide +kernel
theorem s_74_99 {d : Nat} {Q : wQ} {L : List (Option Value)} {st : List Value} {w : aw} {cn sn : Nat} {a b : Int32} : wp d 74 Q 99 L (.int b :: .int a :: st) w cn sn = wp d 74 Q 100 L (.int (a + b) :: st) w cn sn := wp_row d_74_99 _ _ _ _ _
theorem d_74_100 : decode (mB 74) 100 = .ok (.aload_n 0, 1) := by decide +kernel
theorem s_74_100 {d : Nat} {Q : wQ} {L : List (Option Value)} {st : List Value} {w : aw} {cn sn : Nat} {v : Nat} : wp d 74 Q 100 (some (.ref v) :: L) st w cn sn = wp d 74 Q 101 (some (.ref v) :: L) (.ref v :: st) w cn sn := w_aload_n d_74_100 rfl
theorem d_74_101 : decode (mB 74) 101 = .ok (.getfield 9, 3) := by decide +kernel
theorem s_74_101 {d : Nat} {Q : wQ} {L : List (Option Value)} {st : List Value} {w : aw} {cn sn : Nat} {a : Nat} : wp d 74 Q 101 L (.ref a :: st) w cn sn = (kd w a = 7 ∧ wp d 74 Q 104 L (fd w 385 a :: st) w cn sn) := w_getfield d_74_101 (by decide +kernel : fT (mO 74) 9 = some (6, 1))
theorem d_74_104 : decode (mB 74) 104 = .ok (.iload 5, 2) := by decide +kernel
theorem s_74_104 {d : Nat} {Q : wQ} {L : List (Option Value)} {st : List Value} {w : aw} {cn sn : Nat} {a0 a1 a2 a3 a4 : Option Value} {v : Int32} : wp d 74 Q 104 (a0 :: a1 :: a2 :: a3 :: a4 :: some (.int v) :: L) st w cn sn = wp d 74 Q 106 (a0 :: a1 :: a2 :: a3 :: a4 :: some (.int v) :: L) (.int v :: st) w cn sn := w_iload d_74_104 rfl
theorem d_74_106 : decode (mB 74) 106 = .ok (.iaload, 1) := by decide +kernel
theorem s_74_106 {d : Nat} {Q : wQ} {L : List (Option Value)} {st : List Value} {w : aw} {cn sn : Nat} {a : Nat} {i : Int32} : wp d 74 Q 106 L (.int i :: .ref a :: st) w cn sn = ((kd w a = 20 ∨ kd w a = 30) ∧ inR i (ln w a) ∧ wp d 74 Q 107 L (.int (ai w a i.toNatClampNeg) :: st) w cn sn) := wp_row d_74_106 _ _ _ _ _
theorem d_74_107 : decode (mB 74) 107 = .ok (.iastore, 1) := by decide +kernel
theorem s_74_107 {d : Nat} {Q : wQ} {L : List (Option Value)} {st : List Value} {w : aw} {cn sn : Nat} {a : Nat} {i x : Int32} : wp d 74 Q 107 L (.int x :: .int i :: .ref a :: st) w cn sn = (kd w a = 20 ∧ inR i (ln w a) ∧ wp d 74 Q 108 L st (uA w a i.toNatClampNeg x) cn sn) := wp_row d_74_107 _ _ _ _ _
theorem d_74_108 : decode (mB 74) 108 = .ok (.iinc 4 1, 3) := by decide +kernel
theorem s_74_108 {d : Nat} {Q : wQ} {L : List (Option Value)} {st : List Value} {w : aw} {cn sn : Nat} {a0 a1 a2 a3 : Option Value} {v : Int32} : wp d 74 Q 108 (a0 :: a1 :: a2 :: a3 :: some (.int v) :: L) st w cn sn = wp d 74 Q 111 (a0 :: a1 :: a2 :: clr a3 :: some (.int (v + 1)) :: L) st w cn sn := w_iinc d_74_108 rfl (by decide) rfl
theorem d_74_111 : decode (mB 74) 111 = .ok (.goto (-60), 3) := by decide +kernel
theorem s_74_111 {d : Nat} {Q : wQ} {L : List (Option Value)} {st : List Value} {w : aw} {cn sn : Nat}  : wp d 74 Q 111 L st w cn sn = wp d 74 Q 51 L st w cn sn := w_goto d_74_111 (by decide)
theorem d_74_114 : decode (mB 74) 114 = .ok (.aload_n 0, 1) := by decide +kernel
theorem s_74_114 {d : Nat} {Q : wQ} {L : List (Option Value)} {st : List Value} {w : aw} {cn sn : Nat} {v : Nat} : wp d 74 Q 114 (some (.ref v) :: L) st w cn sn = wp d 74 Q 115 (some (.ref v) :: L) (.ref v :: st) w cn sn := w_aload_n d_74_114 rfl
theorem d_74_115 : decode (mB 74) 115 = .ok (.iconst 0, 1) := by decide +kernel
theorem s_74_115 {d : Nat} {Q : wQ} {L : List (Option Value)} {st : List Value} {w : aw} {cn sn : Nat}  : wp d 74 Q 115 L st w cn sn = wp d 74 Q 116 L (.int 0 :: st) w cn sn := w_iconst d_74_115 (by decide)
theorem d_74_116 : decode (mB 74) 116 = .ok (.putfield 58, 3) := by decide +kernel
theorem s_74_116 {d : Nat} {Q : wQ} {L : List (Option Value)} {st : List Value} {w : aw} {cn sn : Nat} {x : Int32} {a : Nat} : wp d 74 Q 116 L (.int x :: .ref a :: st) w cn sn = (kd w a = 7 ∧ wp d 74 Q 119 L st (uF w 391 a (.int x)) cn sn) := w_putfield d_74_116 (by decide +kernel : fT (mO 74) 58 = some (6, 7)) (by decide +kernel) ok_int
theorem d_74_119 : decode (mB 74) 119 = .ok (.return_, 1) := by decide +kernel
theorem s_74_119 {d : Nat} {Q : wQ} {L : List (Option Value)} {w : aw} {cn sn : Nat}  : wp d 74 Q 119 L [] w cn sn = Q none w := w_return d_74_119 rfl
theorem d_75_0 : decode (mB 75) 0 = .ok (.aload_n 0, 1) := by decide +kernel
theorem s_75_0 {d : Nat} {Q : wQ} {L : List (Option Value)} {st : List Value} {w : aw} {cn sn : Nat} {v : Nat} : wp d 75 Q 0 (some (.ref v) :: L) st w cn sn = wp d 75 Q 1 (some (.ref v) :: L) (.ref v :: st) w cn sn := w_aload_n d_75_0 rfl
theorem d_75_1 : decode (mB 75) 1 = .ok (.getfield 28, 3) := by decide +kernel
theorem s_75_1 {d : Nat} {Q : wQ} {L : List (Option Value)} {st : List Value} {w : aw} {cn sn : Nat} {a : Nat} : wp d 75 Q 1 L (.ref a :: st) w cn sn = (kd w a = 7 ∧ wp d 75 Q 4 L (fd w 389 a :: st) w cn sn) := w_getfield d_75_1 (by decide +kernel : fT (mO 75) 28 = some (6, 5))
theorem d_75_4 : decode (mB 75) 4 = .ok (.invokevirtual 99, 3) := by decide +kernel
theorem s_75_4 {d : Nat} {Q : wQ} {L : List (Option Value)} {st : List Value} {w : aw} {cn sn : Nat} {b : Nat} : wp d 75 Q 4 L (.ref b :: st) w cn sn = (kd w b = 3 ∧ catS st ≤ 8 ∧ wpD d 29 [.ref b] w (fun v w' => wp d 75 Q 7 L (v.toList ++ st) w' cn sn)) := w_virtual (As := []) d_75_4 (by decide +kernel : cT (mO 75) 99 = some (0, 29)) rfl (by decide +kernel) rfl (by decide +kernel) rfl
theorem d_75_7 : decode (mB 75) 7 = .ok (.istore_n 1, 1) := by decide +kernel
theorem s_75_7 {d : Nat} {Q : wQ} {L : List (Option Value)} {st : List Value} {w : aw} {cn sn : Nat} {a0 a1 : Option Value} {v : Int32} : wp d 75 Q 7 (a0 :: a1 :: L) (.int v :: st) w cn sn = wp d 75 Q 8 (clr a0 :: some (.int v) :: L) st w cn sn := w_istore_n d_75_7 (Nat.le_add_left 2 _) rfl
theorem d_75_8 : decode (mB 75) 8 = .ok (.iload_n 1, 1) := by decide +kernel
theorem s_75_8 {d : Nat} {Q : wQ} {L : List (Option Value)} {st : List Value} {w : aw} {cn sn : Nat} {a0 : Option Value} {v : Int32} : wp d 75 Q 8 (a0 :: some (.int v) :: L) st w cn sn = wp d 75 Q 9 (a0 :: some (.int v) :: L) (.int v :: st) w cn sn := w_iload_n d_75_8 rfl
theorem d_75_9 : decode (mB 75) 9 = .ok (.ifCond .ge 5, 3) := by decide +kernel
theorem s_75_9 {d : Nat} {Q : wQ} {L : List (Option Value)} {st : List Value} {w : aw} {cn sn : Nat} {x : Int32} : wp d 75 Q 9 L (.int x :: st) w cn sn = ((0 ≤ x → wp d 75 Q 14 L st w cn sn) ∧ (¬ 0 ≤ x → wp d 75 Q 12 L st w cn sn)) := w_ifge d_75_9 (by decide)
theorem d_75_12 : decode (mB 75) 12 = .ok (.iconst 0, 1) := by decide +kernel
theorem s_75_12 {d : Nat} {Q : wQ} {L : List (Option Value)} {st : List Value} {w : aw} {cn sn : Nat}  : wp d 75 Q 12 L st w cn sn = wp d 75 Q 13 L (.int 0 :: st) w cn sn := w_iconst d_75_12 (by decide)
theorem d_75_13 : decode (mB 75) 13 = .ok (.ireturn, 1) := by decide +kernel
theorem s_75_13 {d : Nat} {Q : wQ} {L : List (Option Value)} {w : aw} {cn sn : Nat} {v : Int32} : wp d 75 Q 13 L [.int v] w cn sn = (narrow .boolean (.int v) = .int v ∧ Q (some (.int v)) w) := w_zreturn d_75_13 rfl
theorem d_75_14 : decode (mB 75) 14 = .ok (.aload_n 0, 1) := by decide +kernel
theorem s_75_14 {d : Nat} {Q : wQ} {L : List (Option Value)} {st : List Value} {w : aw} {cn sn : Nat} {v : Nat} : wp d 75 Q 14 (some (.ref v) :: L) st w cn sn = wp d 75 Q 15 (some (.ref v) :: L) (.ref v :: st) w cn sn := w_aload_n d_75_14 rfl
theorem d_75_15 : decode (mB 75) 15 = .ok (.getfield 18, 3) := by decide +kernel
theorem s_75_15 {d : Nat} {Q : wQ} {L : List (Option Value)} {st : List Value} {w : aw} {cn sn : Nat} {a : Nat} : wp d 75 Q 15 L (.ref a :: st) w cn sn = (kd w a = 7 ∧ wp d 75 Q 18 L (fd w 387 a :: st) w cn sn) := w_getfield d_75_15 (by decide +kernel : fT (mO 75) 18 = some (6, 3))
theorem d_75_18 : decode (mB 75) 18 = .ok (.aload_n 0, 1) := by decide +kernel
theorem s_75_18 {d : Nat} {Q : wQ} {L : List (Option Value)} {st : List Value} {w : aw} {cn sn : Nat} {v : Nat} : wp d 75 Q 18 (some (.ref v) :: L) st w cn sn = wp d 75 Q 19 (some (.ref v) :: L) (.ref v :: st) w cn sn := w_aload_n d_75_18 rfl
theorem d_75_19 : decode (mB 75) 19 = .ok (.getfield 110, 3) := by decide +kernel
theorem s_75_19 {d : Nat} {Q : wQ} {L : List (Option Value)} {st : List Value} {w : aw} {cn sn : Nat} {a : Nat} : wp d 75 Q 19 L (.ref a :: st) w cn sn = (kd w a = 7 ∧ wp d 75 Q 22 L (fd w 399 a :: st) w cn sn) := w_getfield d_75_19 (by decide +kernel : fT (mO 75) 110 = some (6, 15))
theorem d_75_22 : decode (mB 75) 22 = .ok (.sipush 511, 3) := by decide +kernel
theorem s_75_22 {d : Nat} {Q : wQ} {L : List (Option Value)} {st : List Value} {w : aw} {cn sn : Nat}  : wp d 75 Q 22 L st w cn sn = wp d 75 Q 25 L (.int 511 :: st) w cn sn := w_sipush d_75_22 (by decide)
theorem d_75_25 : decode (mB 75) 25 = .ok (.iand, 1) := by decide +kernel
theorem s_75_25 {d : Nat} {Q : wQ} {L : List (Option Value)} {st : List Value} {w : aw} {cn sn : Nat} {a b : Int32} : wp d 75 Q 25 L (.int b :: .int a :: st) w cn sn = wp d 75 Q 26 L (.int (a &&& b) :: st) w cn sn := wp_row d_75_25 _ _ _ _ _
theorem d_75_26 : decode (mB 75) 26 = .ok (.iload_n 1, 1) := by decide +kernel
theorem s_75_26 {d : Nat} {Q : wQ} {L : List (Option Value)} {st : List Value} {w : aw} {cn sn : Nat} {a0 : Option Value} {v : Int32} : wp d 75 Q 26 (a0 :: some (.int v) :: L) st w cn sn = wp d 75 Q 27 (a0 :: some (.int v) :: L) (.int v :: st) w cn sn := w_iload_n d_75_26 rfl
theorem d_75_27 : decode (mB 75) 27 = .ok (.iastore, 1) := by decide +kernel
theorem s_75_27 {d : Nat} {Q : wQ} {L : List (Option Value)} {st : List Value} {w : aw} {cn sn : Nat} {a : Nat} {i x : Int32} : wp d 75 Q 27 L (.int x :: .int i :: .ref a :: st) w cn sn = (kd w a = 20 ∧ inR i (ln w a) ∧ wp d 75 Q 28 L st (uA w a i.toNatClampNeg x) cn sn) := wp_row d_75_27 _ _ _ _ _
theorem d_75_28 : decode (mB 75) 28 = .ok (.aload_n 0, 1) := by decide +kernel
theorem s_75_28 {d : Nat} {Q : wQ} {L : List (Option Value)} {st : List Value} {w : aw} {cn sn : Nat} {v : Nat} : wp d 75 Q 28 (some (.ref v) :: L) st w cn sn = wp d 75 Q 29 (some (.ref v) :: L) (.ref v :: st) w cn sn := w_aload_n d_75_28 rfl
theorem d_75_29 : decode (mB 75) 29 = .ok (.dup, 1) := by decide +kernel
theorem s_75_29 {d : Nat} {Q : wQ} {L : List (Option Value)} {st : List Value} {w : aw} {cn sn : Nat} {v : Value} : wp d 75 Q 29 L (v :: st) w cn sn = (v.category = 1 ∧ wp d 75 Q 30 L (v :: v :: st) w cn sn) := wp_row d_75_29 _ _ _ _ _
theorem d_75_30 : decode (mB 75) 30 = .ok (.getfield 110, 3) := by decide +kernel
theorem s_75_30 {d : Nat} {Q : wQ} {L : List (Option Value)} {st : List Value} {w : aw} {cn sn : Nat} {a : Nat} : wp d 75 Q 30 L (.ref a :: st) w cn sn = (kd w a = 7 ∧ wp d 75 Q 33 L (fd w 399 a :: st) w cn sn) := w_getfield d_75_30 (by decide +kernel : fT (mO 75) 110 = some (6, 15))
theorem d_75_33 : decode (mB 75) 33 = .ok (.iconst 1, 1) := by decide +kernel
theorem s_75_33 {d : Nat} {Q : wQ} {L : List (Option Value)} {st : List Value} {w : aw} {cn sn : Nat}  : wp d 75 Q 33 L st w cn sn = wp d 75 Q 34 L (.int 1 :: st) w cn sn := w_iconst d_75_33 (by decide)
theorem d_75_34 : decode (mB 75) 34 = .ok (.iadd, 1) := by decide +kernel
theorem s_75_34 {d : Nat} {Q : wQ} {L : List (Option Value)} {st : List Value} {w : aw} {cn sn : Nat} {a b : Int32} : wp d 75 Q 34 L (.int b :: .int a :: st) w cn sn = wp d 75 Q 35 L (.int (a + b) :: st) w cn sn := wp_row d_75_34 _ _ _ _ _
theorem d_75_35 : decode (mB 75) 35 = .ok (.putfield 110, 3) := by decide +kernel
theorem s_75_35 {d : Nat} {Q : wQ} {L : List (Option Value)} {st : List Value} {w : aw} {cn sn : Nat} {x : Int32} {a : Nat} : wp d 75 Q 35 L (.int x :: .ref a :: st) w cn sn = (kd w a = 7 ∧ wp d 75 Q 38 L st (uF w 399 a (.int x)) cn sn) := w_putfield d_75_35 (by decide +kernel : fT (mO 75) 110 = some (6, 15)) (by decide +kernel) ok_int
theorem d_75_38 : decode (mB 75) 38 = .ok (.iconst 1, 1) := by decide +kernel
theorem s_75_38 {d : Nat} {Q : wQ} {L : List (Option Value)} {st : List Value} {w : aw} {cn sn : Nat}  : wp d 75 Q 38 L st w cn sn = wp d 75 Q 39 L (.int 1 :: st) w cn sn := w_iconst d_75_38 (by decide)
theorem d_75_39 : decode (mB 75) 39 = .ok (.ireturn, 1) := by decide +kernel
theorem s_75_39 {d : Nat} {Q : wQ} {L : List (Option Value)} {w : aw} {cn sn : Nat} {v : Int32} : wp d 75 Q 39 L [.int v] w cn sn = (narrow .boolean (.int v) = .int v ∧ Q (some (.int v)) w) := w_zreturn d_75_39 rfl
theorem d_76_0 : decode (mB 76) 0 = .ok (.iload_n 1, 1) := by decide +kernel
theorem s_76_0 {d : Nat} {Q : wQ} {L : List (Option Value)} {st : List Value} {w : aw} {cn sn : Nat} {a0 : Option Value} {v : Int32} : wp d 76 Q 0 (a0 :: some (.int v) :: L) st w cn sn = wp d 76 Q 1 (a0 :: some (.int v) :: L) (.int v :: st) w cn sn := w_iload_n d_76_0 rfl
theorem d_76_1 : decode (mB 76) 1 = .ok (.ifCond .lt 27, 3) := by decide +kernel
theorem s_76_1 {d : Nat} {Q : wQ} {L : List (Option Value)} {st : List Value} {w : aw} {cn sn : Nat} {x : Int32} : wp d 76 Q 1 L (.int x :: st) w cn sn = ((x < 0 → wp d 76 Q 28 L st w cn sn) ∧ (¬ x < 0 → wp d 76 Q 4 L st w cn sn)) := w_iflt d_76_1 (by decide)
theorem d_76_4 : decode (mB 76) 4 = .ok (.iload_n 1, 1) := by decide +kernel
theorem s_76_4 {d : Nat} {Q : wQ} {L : List (Option Value)} {st : List Value} {w : aw} {cn sn : Nat} {a0 : Option Value} {v : Int32} : wp d 76 Q 4 (a0 :: some (.int v) :: L) st w cn sn = wp d 76 Q 5 (a0 :: some (.int v) :: L) (.int v :: st) w cn sn := w_iload_n d_76_4 rfl
theorem d_76_5 : decode (mB 76) 5 = .ok (.aload_n 0, 1) := by decide +kernel
theorem s_76_5 {d : Nat} {Q : wQ} {L : List (Option Value)} {st : List Value} {w : aw} {cn sn : Nat} {v : Nat} : wp d 76 Q 5 (some (.ref v) :: L) st w cn sn = wp d 76 Q 6 (some (.ref v) :: L) (.ref v :: st) w cn sn := w_aload_n d_76_5 rfl
theorem d_76_6 : decode (mB 76) 6 = .ok (.getfield 110, 3) := by decide +kernel
theorem s_76_6 {d : Nat} {Q : wQ} {L : List (Option Value)} {st : List Value} {w : aw} {cn sn : Nat} {a : Nat} : wp d 76 Q 6 L (.ref a :: st) w cn sn = (kd w a = 7 ∧ wp d 76 Q 9 L (fd w 399 a :: st) w cn sn) := w_getfield d_76_6 (by decide +kernel : fT (mO 76) 110 = some (6, 15))
theorem d_76_9 : decode (mB 76) 9 = .ok (.if_icmp .ge 19, 3) := by decide +kernel
theorem s_76_9 {d : Nat} {Q : wQ} {L : List (Option Value)} {st : List Value} {w : aw} {cn sn : Nat} {a b : Int32} : wp d 76 Q 9 L (.int b :: .int a :: st) w cn sn = ((b ≤ a → wp d 76 Q 28 L st w cn sn) ∧ (¬ b ≤ a → wp d 76 Q 12 L st w cn sn)) := w_icge d_76_9 (by decide)
theorem d_76_12 : decode (mB 76) 12 = .ok (.iload_n 1, 1) := by decide +kernel
theorem s_76_12 {d : Nat} {Q : wQ} {L : List (Option Value)} {st : List Value} {w : aw} {cn sn : Nat} {a0 : Option Value} {v : Int32} : wp d 76 Q 12 (a0 :: some (.int v) :: L) st w cn sn = wp d 76 Q 13 (a0 :: some (.int v) :: L) (.int v :: st) w cn sn := w_iload_n d_76_12 rfl
theorem d_76_13 : decode (mB 76) 13 = .ok (.aload_n 0, 1) := by decide +kernel
theorem s_76_13 {d : Nat} {Q : wQ} {L : List (Option Value)} {st : List Value} {w : aw} {cn sn : Nat} {v : Nat} : wp d 76 Q 13 (some (.ref v) :: L) st w cn sn = wp d 76 Q 14 (some (.ref v) :: L) (.ref v :: st) w cn sn := w_aload_n d_76_13 rfl
theorem d_76_14 : decode (mB 76) 14 = .ok (.getfield 110, 3) := by decide +kernel
theorem s_76_14 {d : Nat} {Q : wQ} {L : List (Option Value)} {st : List Value} {w : aw} {cn sn : Nat} {a : Nat} : wp d 76 Q 14 L (.ref a :: st) w cn sn = (kd w a = 7 ∧ wp d 76 Q 17 L (fd w 399 a :: st) w cn sn) := w_getfield d_76_14 (by decide +kernel : fT (mO 76) 110 = some (6, 15))
theorem d_76_17 : decode (mB 76) 17 = .ok (.sipush 512, 3) := by decide +kernel
theorem s_76_17 {d : Nat} {Q : wQ} {L : List (Option Value)} {st : List Value} {w : aw} {cn sn : Nat}  : wp d 76 Q 17 L st w cn sn = wp d 76 Q 20 L (.int 512 :: st) w cn sn := w_sipush d_76_17 (by decide)
theorem d_76_20 : decode (mB 76) 20 = .ok (.isub, 1) := by decide +kernel
theorem s_76_20 {d : Nat} {Q : wQ} {L : List (Option Value)} {st : List Value} {w : aw} {cn sn : Nat} {a b : Int32} : wp d 76 Q 20 L (.int b :: .int a :: st) w cn sn = wp d 76 Q 21 L (.int (a - b) :: st) w cn sn := wp_row d_76_20 _ _ _ _ _
theorem d_76_21 : decode (mB 76) 21 = .ok (.if_icmp .lt 7, 3) := by decide +kernel
theorem s_76_21 {d : Nat} {Q : wQ} {L : List (Option Value)} {st : List Value} {w : aw} {cn sn : Nat} {a b : Int32} : wp d 76 Q 21 L (.int b :: .int a :: st) w cn sn = ((a < b → wp d 76 Q 28 L st w cn sn) ∧ (¬ a < b → wp d 76 Q 24 L st w cn sn)) := w_iclt d_76_21 (by decide)
theorem d_76_24 : decode (mB 76) 24 = .ok (.iconst 1, 1) := by decide +kernel
theorem s_76_24 {d : Nat} {Q : wQ} {L : List (Option Value)} {st : List Value} {w : aw} {cn sn : Nat}  : wp d 76 Q 24 L st w cn sn = wp d 76 Q 25 L (.int 1 :: st) w cn sn := w_iconst d_76_24 (by decide)
theorem d_76_25 : decode (mB 76) 25 = .ok (.goto 4, 3) := by decide +kernel
theorem s_76_25 {d : Nat} {Q : wQ} {L : List (Option Value)} {st : List Value} {w : aw} {cn sn : Nat}  : wp d 76 Q 25 L st w cn sn = wp d 76 Q 29 L st w cn sn := w_goto d_76_25 (by decide)
theorem d_76_28 : decode (mB 76) 28 = .ok (.iconst 0, 1) := by decide +kernel
theorem s_76_28 {d : Nat} {Q : wQ} {L : List (Option Value)} {st : List Value} {w : aw} {cn sn : Nat}  : wp d 76 Q 28 L st w cn sn = wp d 76 Q 29 L (.int 0 :: st) w cn sn := w_iconst d_76_28 (by decide)
theorem d_76_29 : decode (mB 76) 29 = .ok (.istore_n 2, 1) := by decide +kernel
theorem s_76_29 {d : Nat} {Q : wQ} {L : List (Option Value)} {st : List Value} {w : aw} {cn sn : Nat} {a0 a1 a2 : Option Value} {v : Int32} : wp d 76 Q 29 (a0 :: a1 :: a2 :: L) (.int v :: st) w cn sn = wp d 76 Q 30 (a0 :: clr a1 :: some (.int v) :: L) st w cn sn := w_istore_n d_76_29 (Nat.le_add_left 3 _) rfl
theorem d_76_30 : decode (mB 76) 30 = .ok (.iload_n 2, 1) := by decide +kernel
theorem s_76_30 {d : Nat} {Q : wQ} {L : List (Option Value)} {st : List Value} {w : aw} {cn sn : Nat} {a0 a1 : Option Value} {v : Int32} : wp d 76 Q 30 (a0 :: a1 :: some (.int v) :: L) st w cn sn = wp d 76 Q 31 (a0 :: a1 :: some (.int v) :: L) (.int v :: st) w cn sn := w_iload_n d_76_30 rfl
theorem d_76_31 : decode (mB 76) 31 = .ok (.ifCond .eq 16, 3) := by decide +kernel
theorem s_76_31 {d : Nat} {Q : wQ} {L : List (Option Value)} {st : List Value} {w : aw} {cn sn : Nat} {x : Int32} : wp d 76 Q 31 L (.int x :: st) w cn sn = ((x = 0 → wp d 76 Q 47 L st w cn sn) ∧ (¬ x = 0 → wp d 76 Q 34 L st w cn sn)) := w_ifeq d_76_31 (by decide)
theorem d_76_34 : decode (mB 76) 34 = .ok (.aload_n 0, 1) := by decide +kernel
theorem s_76_34 {d : Nat} {Q : wQ} {L : List (Option Value)} {st : List Value} {w : aw} {cn sn : Nat} {v : Nat} : wp d 76 Q 34 (some (.ref v) :: L) st w cn sn = wp d 76 Q 35 (some (.ref v) :: L) (.ref v :: st) w cn sn := w_aload_n d_76_34 rfl
theorem d_76_35 : decode (mB 76) 35 = .ok (.getfield 18, 3) := by decide +kernel
theorem s_76_35 {d : Nat} {Q : wQ} {L : List (Option Value)} {st : List Value} {w : aw} {cn sn : Nat} {a : Nat} : wp d 76 Q 35 L (.ref a :: st) w cn sn = (kd w a = 7 ∧ wp d 76 Q 38 L (fd w 387 a :: st) w cn sn) := w_getfield d_76_35 (by decide +kernel : fT (mO 76) 18 = some (6, 3))
theorem d_76_38 : decode (mB 76) 38 = .ok (.iload_n 1, 1) := by decide +kernel
theorem s_76_38 {d : Nat} {Q : wQ} {L : List (Option Value)} {st : List Value} {w : aw} {cn sn : Nat} {a0 : Option Value} {v : Int32} : wp d 76 Q 38 (a0 :: some (.int v) :: L) st w cn sn = wp d 76 Q 39 (a0 :: some (.int v) :: L) (.int v :: st) w cn sn := w_iload_n d_76_38 rfl
theorem d_76_39 : decode (mB 76) 39 = .ok (.sipush 511, 3) := by decide +kernel
theorem s_76_39 {d : Nat} {Q : wQ} {L : List (Option Value)} {st : List Value} {w : aw} {cn sn : Nat}  : wp d 76 Q 39 L st w cn sn = wp d 76 Q 42 L (.int 511 :: st) w cn sn := w_sipush d_76_39 (by decide)
theorem d_76_42 : decode (mB 76) 42 = .ok (.iand, 1) := by decide +kernel
theorem s_76_42 {d : Nat} {Q : wQ} {L : List (Option Value)} {st : List Value} {w : aw} {cn sn : Nat} {a b : Int32} : wp d 76 Q 42 L (.int b :: .int a :: st) w cn sn = wp d 76 Q 43 L (.int (a &&& b) :: st) w cn sn := wp_row d_76_42 _ _ _ _ _
theorem d_76_43 : decode (mB 76) 43 = .ok (.iaload, 1) := by decide +kernel
theorem s_76_43 {d : Nat} {Q : wQ} {L : List (Option Value)} {st : List Value} {w : aw} {cn sn : Nat} {a : Nat} {i : Int32} : wp d 76 Q 43 L (.int i :: .ref a :: st) w cn sn = ((kd w a = 20 ∨ kd w a = 30) ∧ inR i (ln w a) ∧ wp d 76 Q 44 L (.int (ai w a i.toNatClampNeg) :: st) w cn sn) := wp_row d_76_43 _ _ _ _ _
theorem d_76_44 : decode (mB 76) 44 = .ok (.goto 4, 3) := by decide +kernel
theorem s_76_44 {d : Nat} {Q : wQ} {L : List (Option Value)} {st : List Value} {w : aw} {cn sn : Nat}  : wp d 76 Q 44 L st w cn sn = wp d 76 Q 48 L st w cn sn := w_goto d_76_44 (by decide)
theorem d_76_47 : decode (mB 76) 47 = .ok (.iconst (-1), 1) := by decide +kernel
theorem s_76_47 {d : Nat} {Q : wQ} {L : List (Option Value)} {st : List Value} {w : aw} {cn sn : Nat}  : wp d 76 Q 47 L st w cn sn = wp d 76 Q 48 L (.int (-1) :: st) w cn sn := w_iconst d_76_47 (by decide)
theorem d_76_48 : decode (mB 76) 48 = .ok (.ireturn, 1) := by decide +kernel
theorem s_76_48 {d : Nat} {Q : wQ} {L : List (Option Value)} {w : aw} {cn sn : Nat} {v : Int32} : wp d 76 Q 48 L [.int v] w cn sn = Q (some (.int v)) w := w_ireturn d_76_48 rfl
theorem d_77_0 : decode (mB 77) 0 = .ok (.iload_n 1, 1) := by decide +kernel
theorem s_77_0 {d : Nat} {Q : wQ} {L : List (Option Value)} {st : List Value} {w : aw} {cn sn : Nat} {a0 : Option Value} {v : Int32} : wp d 77 Q 0 (a0 :: some (.int v) :: L) st w cn sn = wp d 77 Q 1 (a0 :: some (.int v) :: L) (.int v :: st) w cn sn := w_iload_n d_77_0 rfl
theorem d_77_1 : decode (mB 77) 1 = .ok (.tableswitch 129 0 11 #[63, 68, 73, 78, 83, 88, 96, 104, 109, 114, 119, 124], 63) := by decide +kernel
theorem s_77_1 {d : Nat} {Q : wQ} {L : List (Option Value)} {st : List Value} {w : aw} {cn sn : Nat} {x : Int32} : wp d 77 Q 1 L (.int x :: st) w cn sn = ((x.toInt < 0 ∨ 11 < x.toInt → wp d 77 Q 130 L st w cn sn) ∧ ∀ (i t : Nat), ([64, 69, 74, 79, 84, 89, 97, 105, 110, 115, 120, 125] : List Nat)[i]? = some t → x.toInt = 0 + i → wp d 77 Q t L st w cn sn) := w_table d_77_1 (by decide) (by decide) (by decide)
theorem d_77_64 : decode (mB 77) 64 = .ok (.aload_n 0, 1) := by decide +kernel
theorem s_77_64 {d : Nat} {Q : wQ} {L : List (Option Value)} {st : List Value} {w : aw} {cn sn : Nat} {v : Nat} : wp d 77 Q 64 (some (.ref v) :: L) st w cn sn = wp d 77 Q 65 (some (.ref v) :: L) (.ref v :: st) w cn sn := w_aload_n d_77_64 rfl
theorem d_77_65 : decode (mB 77) 65 = .ok (.getfield 35, 3) := by decide +kernel
theorem s_77_65 {d : Nat} {Q : wQ} {L : List (Option Value)} {st : List Value} {w : aw} {cn sn : Nat} {a : Nat} : wp d 77 Q 65 L (.ref a :: st) w cn sn = (kd w a = 7 ∧ wp d 77 Q 68 L (fd w 390 a :: st) w cn sn) := w_getfield d_77_65 (by decide +kernel : fT (mO 77) 35 = some (6, 6))
theorem d_77_68 : decode (mB 77) 68 = .ok (.ireturn, 1) := by decide +kernel
theorem s_77_68 {d : Nat} {Q : wQ} {L : List (Option Value)} {w : aw} {cn sn : Nat} {v : Int32} : wp d 77 Q 68 L [.int v] w cn sn = Q (some (.int v)) w := w_ireturn d_77_68 rfl
theorem d_77_69 : decode (mB 77) 69 = .ok (.aload_n 0, 1) := by decide +kernel
theorem s_77_69 {d : Nat} {Q : wQ} {L : List (Option Value)} {st : List Value} {w : aw} {cn sn : Nat} {v : Nat} : wp d 77 Q 69 (some (.ref v) :: L) st w cn sn = wp d 77 Q 70 (some (.ref v) :: L) (.ref v :: st) w cn sn := w_aload_n d_77_69 rfl
theorem d_77_70 : decode (mB 77) 70 = .ok (.getfield 58, 3) := by decide +kernel
theorem s_77_70 {d : Nat} {Q : wQ} {L : List (Option Value)} {st : List Value} {w : aw} {cn sn : Nat} {a : Nat} : wp d 77 Q 70 L (.ref a :: st) w cn sn = (kd w a = 7 ∧ wp d 77 Q 73 L (fd w 391 a :: st) w cn sn) := w_getfield d_77_70 (by decide +kernel : fT (mO 77) 58 = some (6, 7))
theorem d_77_73 : decode (mB 77) 73 = .ok (.ireturn, 1) := by decide +kernel
theorem s_77_73 {d : Nat} {Q : wQ} {L : List (Option Value)} {w : aw} {cn sn : Nat} {v : Int32} : wp d 77 Q 73 L [.int v] w cn sn = Q (some (.int v)) w := w_ireturn d_77_73 rfl
theorem d_77_74 : decode (mB 77) 74 = .ok (.aload_n 0, 1) := by decide +kernel
theorem s_77_74 {d : Nat} {Q : wQ} {L : List (Option Value)} {st : List Value} {w : aw} {cn sn : Nat} {v : Nat} : wp d 77 Q 74 (some (.ref v) :: L) st w cn sn = wp d 77 Q 75 (some (.ref v) :: L) (.ref v :: st) w cn sn := w_aload_n d_77_74 rfl
theorem d_77_75 : decode (mB 77) 75 = .ok (.getfield 61, 3) := by decide +kernel
theorem s_77_75 {d : Nat} {Q : wQ} {L : List (Option Value)} {st : List Value} {w : aw} {cn sn : Nat} {a : Nat} : wp d 77 Q 75 L (.ref a :: st) w cn sn = (kd w a = 7 ∧ wp d 77 Q 78 L (fd w 392 a :: st) w cn sn) := w_getfield d_77_75 (by decide +kernel : fT (mO 77) 61 = some (6, 8))
theorem d_77_78 : decode (mB 77) 78 = .ok (.ireturn, 1) := by decide +kernel
theorem s_77_78 {d : Nat} {Q : wQ} {L : List (Option Value)} {w : aw} {cn sn : Nat} {v : Int32} : wp d 77 Q 78 L [.int v] w cn sn = Q (some (.int v)) w := w_ireturn d_77_78 rfl
theorem d_77_79 : decode (mB 77) 79 = .ok (.aload_n 0, 1) := by decide +kernel
theorem s_77_79 {d : Nat} {Q : wQ} {L : List (Option Value)} {st : List Value} {w : aw} {cn sn : Nat} {v : Nat} : wp d 77 Q 79 (some (.ref v) :: L) st w cn sn = wp d 77 Q 80 (some (.ref v) :: L) (.ref v :: st) w cn sn := w_aload_n d_77_79 rfl
theorem d_77_80 : decode (mB 77) 80 = .ok (.getfield 77, 3) := by decide +kernel
theorem s_77_80 {d : Nat} {Q : wQ} {L : List (Option Value)} {st : List Value} {w : aw} {cn sn : Nat} {a : Nat} : wp d 77 Q 80 L (.ref a :: st) w cn sn = (kd w a = 7 ∧ wp d 77 Q 83 L (fd w 394 a :: st) w cn sn) := w_getfield d_77_80 (by decide +kernel : fT (mO 77) 77 = some (6, 10))
theorem d_77_83 : decode (mB 77) 83 = .ok (.ireturn, 1) := by decide +kernel
theorem s_77_83 {d : Nat} {Q : wQ} {L : List (Option Value)} {w : aw} {cn sn : Nat} {v : Int32} : wp d 77 Q 83 L [.int v] w cn sn = Q (some (.int v)) w := w_ireturn d_77_83 rfl
theorem d_77_84 : decode (mB 77) 84 = .ok (.aload_n 0, 1) := by decide +kernel
theorem s_77_84 {d : Nat} {Q : wQ} {L : List (Option Value)} {st : List Value} {w : aw} {cn sn : Nat} {v : Nat} : wp d 77 Q 84 (some (.ref v) :: L) st w cn sn = wp d 77 Q 85 (some (.ref v) :: L) (.ref v :: st) w cn sn := w_aload_n d_77_84 rfl
theorem d_77_85 : decode (mB 77) 85 = .ok (.getfield 103, 3) := by decide +kernel
theorem s_77_85 {d : Nat} {Q : wQ} {L : List (Option Value)} {st : List Value} {w : aw} {cn sn : Nat} {a : Nat} : wp d 77 Q 85 L (.ref a :: st) w cn sn = (kd w a = 7 ∧ wp d 77 Q 88 L (fd w 395 a :: st) w cn sn) := w_getfield d_77_85 (by decide +kernel : fT (mO 77) 103 = some (6, 11))
theorem d_77_88 : decode (mB 77) 88 = .ok (.ireturn, 1) := by decide +kernel
theorem s_77_88 {d : Nat} {Q : wQ} {L : List (Option Value)} {w : aw} {cn sn : Nat} {v : Int32} : wp d 77 Q 88 L [.int v] w cn sn = Q (some (.int v)) w := w_ireturn d_77_88 rfl
theorem d_77_89 : decode (mB 77) 89 = .ok (.aload_n 0, 1) := by decide +kernel
theorem s_77_89 {d : Nat} {Q : wQ} {L : List (Option Value)} {st : List Value} {w : aw} {cn sn : Nat} {v : Nat} : wp d 77 Q 89 (some (.ref v) :: L) st w cn sn = wp d 77 Q 90 (some (.ref v) :: L) (.ref v :: st) w cn sn := w_aload_n d_77_89 rfl
theorem d_77_90 : decode (mB 77) 90 = .ok (.getfield 24, 3) := by decide +kernel
theorem s_77_90 {d : Nat} {Q : wQ} {L : List (Option Value)} {st : List Value} {w : aw} {cn sn : Nat} {a : Nat} : wp d 77 Q 90 L (.ref a :: st) w cn sn = (kd w a = 7 ∧ wp d 77 Q 93 L (fd w 388 a :: st) w cn sn) := w_getfield d_77_90 (by decide +kernel : fT (mO 77) 24 = some (6, 4))
theorem d_77_93 : decode (mB 77) 93 = .ok (.getfield 80, 3) := by decide +kernel
theorem s_77_93 {d : Nat} {Q : wQ} {L : List (Option Value)} {st : List Value} {w : aw} {cn sn : Nat} {a : Nat} : wp d 77 Q 93 L (.ref a :: st) w cn sn = (kd w a = 3 ∧ wp d 77 Q 96 L (fd w 130 a :: st) w cn sn) := w_getfield d_77_93 (by decide +kernel : fT (mO 77) 80 = some (2, 2))
theorem d_77_96 : decode (mB 77) 96 = .ok (.ireturn, 1) := by decide +kernel
theorem s_77_96 {d : Nat} {Q : wQ} {L : List (Option Value)} {w : aw} {cn sn : Nat} {v : Int32} : wp d 77 Q 96 L [.int v] w cn sn = Q (some (.int v)) w := w_ireturn d_77_96 rfl
theorem d_77_97 : decode (mB 77) 97 = .ok (.aload_n 0, 1) := by decide +kernel
theorem s_77_97 {d : Nat} {Q : wQ} {L : List (Option Value)} {st : List Value} {w : aw} {cn sn : Nat} {v : Nat} : wp d 77 Q 97 (some (.ref v) :: L) st w cn sn = wp d 77 Q 98 (some (.ref v) :: L) (.ref v :: st) w cn sn := w_aload_n d_77_97 rfl
theorem d_77_98 : decode (mB 77) 98 = .ok (.getfield 28, 3) := by decide +kernel
theorem s_77_98 {d : Nat} {Q : wQ} {L : List (Option Value)} {st : List Value} {w : aw} {cn sn : Nat} {a : Nat} : wp d 77 Q 98 L (.ref a :: st) w cn sn = (kd w a = 7 ∧ wp d 77 Q 101 L (fd w 389 a :: st) w cn sn) := w_getfield d_77_98 (by decide +kernel : fT (mO 77) 28 = some (6, 5))
theorem d_77_101 : decode (mB 77) 101 = .ok (.getfield 80, 3) := by decide +kernel
theorem s_77_101 {d : Nat} {Q : wQ} {L : List (Option Value)} {st : List Value} {w : aw} {cn sn : Nat} {a : Nat} : wp d 77 Q 101 L (.ref a :: st) w cn sn = (kd w a = 3 ∧ wp d 77 Q 104 L (fd w 130 a :: st) w cn sn) := w_getfield d_77_101 (by decide +kernel : fT (mO 77) 80 = some (2, 2))
theorem d_77_104 : decode (mB 77) 104 = .ok (.ireturn, 1) := by decide +kernel
theorem s_77_104 {d : Nat} {Q : wQ} {L : List (Option Value)} {w : aw} {cn sn : Nat} {v : Int32} : wp d 77 Q 104 L [.int v] w cn sn = Q (some (.int v)) w := w_ireturn d_77_104 rfl
theorem d_77_105 : decode (mB 77) 105 = .ok (.aload_n 0, 1) := by decide +kernel
theorem s_77_105 {d : Nat} {Q : wQ} {L : List (Option Value)} {st : List Value} {w : aw} {cn sn : Nat} {v : Nat} : wp d 77 Q 105 (some (.ref v) :: L) st w cn sn = wp d 77 Q 106 (some (.ref v) :: L) (.ref v :: st) w cn sn := w_aload_n d_77_105 rfl
theorem d_77_106 : decode (mB 77) 106 = .ok (.getfield 113, 3) := by decide +kernel
theorem s_77_106 {d : Nat} {Q : wQ} {L : List (Option Value)} {st : List Value} {w : aw} {cn sn : Nat} {a : Nat} : wp d 77 Q 106 L (.ref a :: st) w cn sn = (kd w a = 7 ∧ wp d 77 Q 109 L (fd w 397 a :: st) w cn sn) := w_getfield d_77_106 (by decide +kernel : fT (mO 77) 113 = some (6, 13))
theorem d_77_109 : decode (mB 77) 109 = .ok (.ireturn, 1) := by decide +kernel
theorem s_77_109 {d : Nat} {Q : wQ} {L : List (Option Value)} {w : aw} {cn sn : Nat} {v : Int32} : wp d 77 Q 109 L [.int v] w cn sn = Q (some (.int v)) w := w_ireturn d_77_109 rfl
theorem d_77_110 : decode (mB 77) 110 = .ok (.aload_n 0, 1) := by decide +kernel
theorem s_77_110 {d : Nat} {Q : wQ} {L : List (Option Value)} {st : List Value} {w : aw} {cn sn : Nat} {v : Nat} : wp d 77 Q 110 (some (.ref v) :: L) st w cn sn = wp d 77 Q 111 (some (.ref v) :: L) (.ref v :: st) w cn sn := w_aload_n d_77_110 rfl
theorem d_77_111 : decode (mB 77) 111 = .ok (.getfield 116, 3) := by decide +kernel
theorem s_77_111 {d : Nat} {Q : wQ} {L : List (Option Value)} {st : List Value} {w : aw} {cn sn : Nat} {a : Nat} : wp d 77 Q 111 L (.ref a :: st) w cn sn = (kd w a = 7 ∧ wp d 77 Q 114 L (fd w 398 a :: st) w cn sn) := w_getfield d_77_111 (by decide +kernel : fT (mO 77) 116 = some (6, 14))
theorem d_77_114 : decode (mB 77) 114 = .ok (.ireturn, 1) := by decide +kernel
theorem s_77_114 {d : Nat} {Q : wQ} {L : List (Option Value)} {w : aw} {cn sn : Nat} {v : Int32} : wp d 77 Q 114 L [.int v] w cn sn = Q (some (.int v)) w := w_ireturn d_77_114 rfl
theorem d_77_115 : decode (mB 77) 115 = .ok (.aload_n 0, 1) := by decide +kernel
theorem s_77_115 {d : Nat} {Q : wQ} {L : List (Option Value)} {st : List Value} {w : aw} {cn sn : Nat} {v : Nat} : wp d 77 Q 115 (some (.ref v) :: L) st w cn sn = wp d 77 Q 116 (some (.ref v) :: L) (.ref v :: st) w cn sn := w_aload_n d_77_115 rfl
theorem d_77_116 : decode (mB 77) 116 = .ok (.getfield 110, 3) := by decide +kernel
theorem s_77_116 {d : Nat} {Q : wQ} {L : List (Option Value)} {st : List Value} {w : aw} {cn sn : Nat} {a : Nat} : wp d 77 Q 116 L (.ref a :: st) w cn sn = (kd w a = 7 ∧ wp d 77 Q 119 L (fd w 399 a :: st) w cn sn) := w_getfield d_77_116 (by decide +kernel : fT (mO 77) 110 = some (6, 15))
theorem d_77_119 : decode (mB 77) 119 = .ok (.ireturn, 1) := by decide +kernel
theorem s_77_119 {d : Nat} {Q : wQ} {L : List (Option Value)} {w : aw} {cn sn : Nat} {v : Int32} : wp d 77 Q 119 L [.int v] w cn sn = Q (some (.int v)) w := w_ireturn d_77_119 rfl
theorem d_77_120 : decode (mB 77) 120 = .ok (.aload_n 0, 1) := by decide +kernel
theorem s_77_120 {d : Nat} {Q : wQ} {L : List (Option Value)} {st : List Value} {w : aw} {cn sn : Nat} {v : Nat} : wp d 77 Q 120 (some (.ref v) :: L) st w cn sn = wp d 77 Q 121 (some (.ref v) :: L) (.ref v :: st) w cn sn := w_aload_n d_77_120 rfl
theorem d_77_121 : decode (mB 77) 121 = .ok (.getfield 119, 3) := by decide +kernel
theorem s_77_121 {d : Nat} {Q : wQ} {L : List (Option Value)} {st : List Value} {w : aw} {cn sn : Nat} {a : Nat} : wp d 77 Q 121 L (.ref a :: st) w cn sn = (kd w a = 7 ∧ wp d 77 Q 124 L (fd w 396 a :: st) w cn sn) := w_getfield d_77_121 (by decide +kernel : fT (mO 77) 119 = some (6, 12))
theorem d_77_124 : decode (mB 77) 124 = .ok (.ireturn, 1) := by decide +kernel
theorem s_77_124 {d : Nat} {Q : wQ} {L : List (Option Value)} {w : aw} {cn sn : Nat} {v : Int32} : wp d 77 Q 124 L [.int v] w cn sn = Q (some (.int v)) w := w_ireturn d_77_124 rfl
theorem d_77_125 : decode (mB 77) 125 = .ok (.aload_n 0, 1) := by decide +kernel
theorem s_77_125 {d : Nat} {Q : wQ} {L : List (Option Value)} {st : List Value} {w : aw} {cn sn : Nat} {v : Nat} : wp d 77 Q 125 (some (.ref v) :: L) st w cn sn = wp d 77 Q 126 (some (.ref v) :: L) (.ref v :: st) w cn sn := w_aload_n d_77_125 rfl
theorem d_77_126 : decode (mB 77) 126 = .ok (.getfield 38, 3) := by decide +kernel
theorem s_77_126 {d : Nat} {Q : wQ} {L : List (Option Value)} {st : List Value} {w : aw} {cn sn : Nat} {a : Nat} : wp d 77 Q 126 L (.ref a :: st) w cn sn = (kd w a = 7 ∧ wp d 77 Q 129 L (fd w 400 a :: st) w cn sn) := w_getfield d_77_126 (by decide +kernel : fT (mO 77) 38 = some (6, 16))
theorem d_77_129 : decode (mB 77) 129 = .ok (.ireturn, 1) := by decide +kernel
theorem s_77_129 {d : Nat} {Q : wQ} {L : List (Option Value)} {w : aw} {cn sn : Nat} {v : Int32} : wp d 77 Q 129 L [.int v] w cn sn = Q (some (.int v)) w := w_ireturn d_77_129 rfl
theorem d_77_130 : decode (mB 77) 130 = .ok (.iconst (-1), 1) := by decide +kernel
theorem s_77_130 {d : Nat} {Q : wQ} {L : List (Option Value)} {st : List Value} {w : aw} {cn sn : Nat}  : wp d 77 Q 130 L st w cn sn = wp d 77 Q 131 L (.int (-1) :: st) w cn sn := w_iconst d_77_130 (by decide)
theorem d_77_131 : decode (mB 77) 131 = .ok (.ireturn, 1) := by decide +kernel
theorem s_77_131 {d : Nat} {Q : wQ} {L : List (Option Value)} {w : aw} {cn sn : Nat} {v : Int32} : wp d 77 Q 131 L [.int v] w cn sn = Q (some (.int v)) w := w_ireturn d_77_131 rfl
