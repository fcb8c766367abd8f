theorem d_27_0 : decode (mB 27) 0 = .ok (.aload_n 0, 1) := by decide +kernel
theorem s_27_0 {d : Nat} {Q : wQ} {L : List (Option Value)} {st : List Value} {w : aw} {cn sn : Nat} {v : Nat} : wp d 27 Q 0 (some (.ref v) :: L) st w cn sn = wp d 27 Q 1 (some (.ref v) :: L) (.ref v :: st) w cn sn := w_aload_n d_27_0 rfl
theorem d_27_1 : decode (mB 27) 1 = .ok (.invokespecial 3, 3) := by decide +kernel
theorem s_27_1 {d : Nat} {Q : wQ} {L : List (Option Value)} {st : List Value} {w : aw} {cn sn : Nat} {b : Nat} : wp d 27 Q 1 L (.ref b :: st) w cn sn = (catS st ≤ 8 ∧ wp d 27 Q 4 L st w cn sn) := w_objinit d_27_1 (by decide +kernel : cT (mO 27) 3 = some (3, 0))
theorem d_27_4 : decode (mB 27) 4 = .ok (.aload_n 0, 1) := by decide +kernel
theorem s_27_4 {d : Nat} {Q : wQ} {L : List (Option Value)} {st : List Value} {w : aw} {cn sn : Nat} {v : Nat} : wp d 27 Q 4 (some (.ref v) :: L) st w cn sn = wp d 27 Q 5 (some (.ref v) :: L) (.ref v :: st) w cn sn := w_aload_n d_27_4 rfl
theorem d_27_5 : decode (mB 27) 5 = .ok (.bipush 16, 2) := by decide +kernel
theorem s_27_5 {d : Nat} {Q : wQ} {L : List (Option Value)} {st : List Value} {w : aw} {cn sn : Nat}  : wp d 27 Q 5 L st w cn sn = wp d 27 Q 7 L (.int 16 :: st) w cn sn := w_bipush d_27_5 (by decide)
theorem d_27_7 : decode (mB 27) 7 = .ok (.newarray .int, 2) := by decide +kernel
theorem s_27_7 {d : Nat} {Q : wQ} {L : List (Option Value)} {st : List Value} {w : aw} {cn sn : Nat} {v : Int32} : wp d 27 Q 7 L (.int v :: st) w cn sn = (¬ v < 0 ∧ v.toNatClampNeg * 4 ≤ 536870912 ∧ cn + 1 ≤ 1 ∧ sn + v.toNatClampNeg ≤ 16 ∧ wp d 27 Q 9 L (.ref (zs w) :: st) (nw w 20 v.toNatClampNeg) (cn + 1) (sn + v.toNatClampNeg)) := w_newarray d_27_7 rfl (by decide +kernel) (by decide +kernel)
theorem d_27_9 : decode (mB 27) 9 = .ok (.putfield 9, 3) := by decide +kernel
theorem s_27_9 {d : Nat} {Q : wQ} {L : List (Option Value)} {st : List Value} {w : aw} {cn sn : Nat} {x : Nat} {a : Nat} : wp d 27 Q 9 L (.ref x :: .ref a :: st) w cn sn = (kd w a = 3 ∧ wp d 27 Q 12 L st (uF w 128 a (.ref x)) cn sn) := w_putfield d_27_9 (by decide +kernel : fT (mO 27) 9 = some (2, 0)) (by decide +kernel) ok_arr
theorem d_27_12 : decode (mB 27) 12 = .ok (.return_, 1) := by decide +kernel
theorem s_27_12 {d : Nat} {Q : wQ} {L : List (Option Value)} {w : aw} {cn sn : Nat}  : wp d 27 Q 12 L [] w cn sn = Q none w := w_return d_27_12 rfl
theorem d_28_0 : decode (mB 28) 0 = .ok (.aload_n 0, 1) := by decide +kernel
theorem s_28_0 {d : Nat} {Q : wQ} {L : List (Option Value)} {st : List Value} {w : aw} {cn sn : Nat} {v : Nat} : wp d 28 Q 0 (some (.ref v) :: L) st w cn sn = wp d 28 Q 1 (some (.ref v) :: L) (.ref v :: st) w cn sn := w_aload_n d_28_0 rfl
theorem d_28_1 : decode (mB 28) 1 = .ok (.getfield 15, 3) := by decide +kernel
theorem s_28_1 {d : Nat} {Q : wQ} {L : List (Option Value)} {st : List Value} {w : aw} {cn sn : Nat} {a : Nat} : wp d 28 Q 1 L (.ref a :: st) w cn sn = (kd w a = 3 ∧ wp d 28 Q 4 L (fd w 130 a :: st) w cn sn) := w_getfield d_28_1 (by decide +kernel : fT (mO 28) 15 = some (2, 2))
theorem d_28_4 : decode (mB 28) 4 = .ok (.bipush 16, 2) := by decide +kernel
theorem s_28_4 {d : Nat} {Q : wQ} {L : List (Option Value)} {st : List Value} {w : aw} {cn sn : Nat}  : wp d 28 Q 4 L st w cn sn = wp d 28 Q 6 L (.int 16 :: st) w cn sn := w_bipush d_28_4 (by decide)
theorem d_28_6 : decode (mB 28) 6 = .ok (.if_icmp .lt 5, 3) := by decide +kernel
theorem s_28_6 {d : Nat} {Q : wQ} {L : List (Option Value)} {st : List Value} {w : aw} {cn sn : Nat} {a b : Int32} : wp d 28 Q 6 L (.int b :: .int a :: st) w cn sn = ((a < b → wp d 28 Q 11 L st w cn sn) ∧ (¬ a < b → wp d 28 Q 9 L st w cn sn)) := w_iclt d_28_6 (by decide)
theorem d_28_9 : decode (mB 28) 9 = .ok (.iconst 0, 1) := by decide +kernel
theorem s_28_9 {d : Nat} {Q : wQ} {L : List (Option Value)} {st : List Value} {w : aw} {cn sn : Nat}  : wp d 28 Q 9 L st w cn sn = wp d 28 Q 10 L (.int 0 :: st) w cn sn := w_iconst d_28_9 (by decide)
theorem d_28_10 : decode (mB 28) 10 = .ok (.ireturn, 1) := by decide +kernel
theorem s_28_10 {d : Nat} {Q : wQ} {L : List (Option Value)} {w : aw} {cn sn : Nat} {v : Int32} : wp d 28 Q 10 L [.int v] w cn sn = (narrow .boolean (.int v) = .int v ∧ Q (some (.int v)) w) := w_zreturn d_28_10 rfl
theorem d_28_11 : decode (mB 28) 11 = .ok (.aload_n 0, 1) := by decide +kernel
theorem s_28_11 {d : Nat} {Q : wQ} {L : List (Option Value)} {st : List Value} {w : aw} {cn sn : Nat} {v : Nat} : wp d 28 Q 11 (some (.ref v) :: L) st w cn sn = wp d 28 Q 12 (some (.ref v) :: L) (.ref v :: st) w cn sn := w_aload_n d_28_11 rfl
theorem d_28_12 : decode (mB 28) 12 = .ok (.getfield 9, 3) := by decide +kernel
theorem s_28_12 {d : Nat} {Q : wQ} {L : List (Option Value)} {st : List Value} {w : aw} {cn sn : Nat} {a : Nat} : wp d 28 Q 12 L (.ref a :: st) w cn sn = (kd w a = 3 ∧ wp d 28 Q 15 L (fd w 128 a :: st) w cn sn) := w_getfield d_28_12 (by decide +kernel : fT (mO 28) 9 = some (2, 0))
theorem d_28_15 : decode (mB 28) 15 = .ok (.aload_n 0, 1) := by decide +kernel
theorem s_28_15 {d : Nat} {Q : wQ} {L : List (Option Value)} {st : List Value} {w : aw} {cn sn : Nat} {v : Nat} : wp d 28 Q 15 (some (.ref v) :: L) st w cn sn = wp d 28 Q 16 (some (.ref v) :: L) (.ref v :: st) w cn sn := w_aload_n d_28_15 rfl
theorem d_28_16 : decode (mB 28) 16 = .ok (.getfield 19, 3) := by decide +kernel
theorem s_28_16 {d : Nat} {Q : wQ} {L : List (Option Value)} {st : List Value} {w : aw} {cn sn : Nat} {a : Nat} : wp d 28 Q 16 L (.ref a :: st) w cn sn = (kd w a = 3 ∧ wp d 28 Q 19 L (fd w 129 a :: st) w cn sn) := w_getfield d_28_16 (by decide +kernel : fT (mO 28) 19 = some (2, 1))
theorem d_28_19 : decode (mB 28) 19 = .ok (.aload_n 0, 1) := by decide +kernel
theorem s_28_19 {d : Nat} {Q : wQ} {L : List (Option Value)} {st : List Value} {w : aw} {cn sn : Nat} {v : Nat} : wp d 28 Q 19 (some (.ref v) :: L) st w cn sn = wp d 28 Q 20 (some (.ref v) :: L) (.ref v :: st) w cn sn := w_aload_n d_28_19 rfl
theorem d_28_20 : decode (mB 28) 20 = .ok (.getfield 15, 3) := by decide +kernel
theorem s_28_20 {d : Nat} {Q : wQ} {L : List (Option Value)} {st : List Value} {w : aw} {cn sn : Nat} {a : Nat} : wp d 28 Q 20 L (.ref a :: st) w cn sn = (kd w a = 3 ∧ wp d 28 Q 23 L (fd w 130 a :: st) w cn sn) := w_getfield d_28_20 (by decide +kernel : fT (mO 28) 15 = some (2, 2))
theorem d_28_23 : decode (mB 28) 23 = .ok (.iadd, 1) := by decide +kernel
theorem s_28_23 {d : Nat} {Q : wQ} {L : List (Option Value)} {st : List Value} {w : aw} {cn sn : Nat} {a b : Int32} : wp d 28 Q 23 L (.int b :: .int a :: st) w cn sn = wp d 28 Q 24 L (.int (a + b) :: st) w cn sn := wp_row d_28_23 _ _ _ _ _
theorem d_28_24 : decode (mB 28) 24 = .ok (.bipush 15, 2) := by decide +kernel
theorem s_28_24 {d : Nat} {Q : wQ} {L : List (Option Value)} {st : List Value} {w : aw} {cn sn : Nat}  : wp d 28 Q 24 L st w cn sn = wp d 28 Q 26 L (.int 15 :: st) w cn sn := w_bipush d_28_24 (by decide)
theorem d_28_26 : decode (mB 28) 26 = .ok (.iand, 1) := by decide +kernel
theorem s_28_26 {d : Nat} {Q : wQ} {L : List (Option Value)} {st : List Value} {w : aw} {cn sn : Nat} {a b : Int32} : wp d 28 Q 26 L (.int b :: .int a :: st) w cn sn = wp d 28 Q 27 L (.int (a &&& b) :: st) w cn sn := wp_row d_28_26 _ _ _ _ _
theorem d_28_27 : decode (mB 28) 27 = .ok (.iload_n 1, 1) := by decide +kernel
theorem s_28_27 {d : Nat} {Q : wQ} {L : List (Option Value)} {st : List Value} {w : aw} {cn sn : Nat} {a0 : Option Value} {v : Int32} : wp d 28 Q 27 (a0 :: some (.int v) :: L) st w cn sn = wp d 28 Q 28 (a0 :: some (.int v) :: L) (.int v :: st) w cn sn := w_iload_n d_28_27 rfl
theorem d_28_28 : decode (mB 28) 28 = .ok (.iastore, 1) := by decide +kernel
theorem s_28_28 {d : Nat} {Q : wQ} {L : List (Option Value)} {st : List Value} {w : aw} {cn sn : Nat} {a : Nat} {i x : Int32} : wp d 28 Q 28 L (.int x :: .int i :: .ref a :: st) w cn sn = (kd w a = 20 ∧ inR i (ln w a) ∧ wp d 28 Q 29 L st (uA w a i.toNatClampNeg x) cn sn) := wp_row d_28_28 _ _ _ _ _
theorem d_28_29 : decode (mB 28) 29 = .ok (.aload_n 0, 1) := by decide +kernel
theorem s_28_29 {d : Nat} {Q : wQ} {L : List (Option Value)} {st : List Value} {w : aw} {cn sn : Nat} {v : Nat} : wp d 28 Q 29 (some (.ref v) :: L) st w cn sn = wp d 28 Q 30 (some (.ref v) :: L) (.ref v :: st) w cn sn := w_aload_n d_28_29 rfl
theorem d_28_30 : decode (mB 28) 30 = .ok (.dup, 1) := by decide +kernel
theorem s_28_30 {d : Nat} {Q : wQ} {L : List (Option Value)} {st : List Value} {w : aw} {cn sn : Nat} {v : Value} : wp d 28 Q 30 L (v :: st) w cn sn = (v.category = 1 ∧ wp d 28 Q 31 L (v :: v :: st) w cn sn) := wp_row d_28_30 _ _ _ _ _
theorem d_28_31 : decode (mB 28) 31 = .ok (.getfield 15, 3) := by decide +kernel
theorem s_28_31 {d : Nat} {Q : wQ} {L : List (Option Value)} {st : List Value} {w : aw} {cn sn : Nat} {a : Nat} : wp d 28 Q 31 L (.ref a :: st) w cn sn = (kd w a = 3 ∧ wp d 28 Q 34 L (fd w 130 a :: st) w cn sn) := w_getfield d_28_31 (by decide +kernel : fT (mO 28) 15 = some (2, 2))
theorem d_28_34 : decode (mB 28) 34 = .ok (.iconst 1, 1) := by decide +kernel
theorem s_28_34 {d : Nat} {Q : wQ} {L : List (Option Value)} {st : List Value} {w : aw} {cn sn : Nat}  : wp d 28 Q 34 L st w cn sn = wp d 28 Q 35 L (.int 1 :: st) w cn sn := w_iconst d_28_34 (by decide)
theorem d_28_35 : decode (mB 28) 35 = .ok (.iadd, 1) := by decide +kernel
theorem s_28_35 {d : Nat} {Q : wQ} {L : List (Option Value)} {st : List Value} {w : aw} {cn sn : Nat} {a b : Int32} : wp d 28 Q 35 L (.int b :: .int a :: st) w cn sn = wp d 28 Q 36 L (.int (a + b) :: st) w cn sn := wp_row d_28_35 _ _ _ _ _
theorem d_28_36 : decode (mB 28) 36 = .ok (.putfield 15, 3) := by decide +kernel
theorem s_28_36 {d : Nat} {Q : wQ} {L : List (Option Value)} {st : List Value} {w : aw} {cn sn : Nat} {x : Int32} {a : Nat} : wp d 28 Q 36 L (.int x :: .ref a :: st) w cn sn = (kd w a = 3 ∧ wp d 28 Q 39 L st (uF w 130 a (.int x)) cn sn) := w_putfield d_28_36 (by decide +kernel : fT (mO 28) 15 = some (2, 2)) (by decide +kernel) ok_int
theorem d_28_39 : decode (mB 28) 39 = .ok (.iconst 1, 1) := by decide +kernel
theorem s_28_39 {d : Nat} {Q : wQ} {L : List (Option Value)} {st : List Value} {w : aw} {cn sn : Nat}  : wp d 28 Q 39 L st w cn sn = wp d 28 Q 40 L (.int 1 :: st) w cn sn := w_iconst d_28_39 (by decide)
theorem d_28_40 : decode (mB 28) 40 = .ok (.ireturn, 1) := by decide +kernel
theorem s_28_40 {d : Nat} {Q : wQ} {L : List (Option Value)} {w : aw} {cn sn : Nat} {v : Int32} : wp d 28 Q 40 L [.int v] w cn sn = (narrow .boolean (.int v) = .int v ∧ Q (some (.int v)) w) := w_zreturn d_28_40 rfl
theorem d_29_0 : decode (mB 29) 0 = .ok (.aload_n 0, 1) := by decide +kernel
theorem s_29_0 {d : Nat} {Q : wQ} {L : List (Option Value)} {st : List Value} {w : aw} {cn sn : Nat} {v : Nat} : wp d 29 Q 0 (some (.ref v) :: L) st w cn sn = wp d 29 Q 1 (some (.ref v) :: L) (.ref v :: st) w cn sn := w_aload_n d_29_0 rfl
theorem d_29_1 : decode (mB 29) 1 = .ok (.getfield 15, 3) := by decide +kernel
theorem s_29_1 {d : Nat} {Q : wQ} {L : List (Option Value)} {st : List Value} {w : aw} {cn sn : Nat} {a : Nat} : wp d 29 Q 1 L (.ref a :: st) w cn sn = (kd w a = 3 ∧ wp d 29 Q 4 L (fd w 130 a :: st) w cn sn) := w_getfield d_29_1 (by decide +kernel : fT (mO 29) 15 = some (2, 2))
theorem d_29_4 : decode (mB 29) 4 = .ok (.ifCond .gt 5, 3) := by decide +kernel
theorem s_29_4 {d : Nat} {Q : wQ} {L : List (Option Value)} {st : List Value} {w : aw} {cn sn : Nat} {x : Int32} : wp d 29 Q 4 L (.int x :: st) w cn sn = ((0 < x → wp d 29 Q 9 L st w cn sn) ∧ (¬ 0 < x → wp d 29 Q 7 L st w cn sn)) := w_ifgt d_29_4 (by decide)
theorem d_29_7 : decode (mB 29) 7 = .ok (.iconst (-1), 1) := by decide +kernel
theorem s_29_7 {d : Nat} {Q : wQ} {L : List (Option Value)} {st : List Value} {w : aw} {cn sn : Nat}  : wp d 29 Q 7 L st w cn sn = wp d 29 Q 8 L (.int (-1) :: st) w cn sn := w_iconst d_29_7 (by decide)
theorem d_29_8 : decode (mB 29) 8 = .ok (.ireturn, 1) := by decide +kernel
theorem s_29_8 {d : Nat} {Q : wQ} {L : List (Option Value)} {w : aw} {cn sn : Nat} {v : Int32} : wp d 29 Q 8 L [.int v] w cn sn = Q (some (.int v)) w := w_ireturn d_29_8 rfl
theorem d_29_9 : decode (mB 29) 9 = .ok (.aload_n 0, 1) := by decide +kernel
theorem s_29_9 {d : Nat} {Q : wQ} {L : List (Option Value)} {st : List Value} {w : aw} {cn sn : Nat} {v : Nat} : wp d 29 Q 9 (some (.ref v) :: L) st w cn sn = wp d 29 Q 10 (some (.ref v) :: L) (.ref v :: st) w cn sn := w_aload_n d_29_9 rfl
theorem d_29_10 : decode (mB 29) 10 = .ok (.getfield 9, 3) := by decide +kernel
theorem s_29_10 {d : Nat} {Q : wQ} {L : List (Option Value)} {st : List Value} {w : aw} {cn sn : Nat} {a : Nat} : wp d 29 Q 10 L (.ref a :: st) w cn sn = (kd w a = 3 ∧ wp d 29 Q 13 L (fd w 128 a :: st) w cn sn) := w_getfield d_29_10 (by decide +kernel : fT (mO 29) 9 = some (2, 0))
theorem d_29_13 : decode (mB 29) 13 = .ok (.aload_n 0, 1) := by decide +kernel
theorem s_29_13 {d : Nat} {Q : wQ} {L : List (Option Value)} {st : List Value} {w : aw} {cn sn : Nat} {v : Nat} : wp d 29 Q 13 (some (.ref v) :: L) st w cn sn = wp d 29 Q 14 (some (.ref v) :: L) (.ref v :: st) w cn sn := w_aload_n d_29_13 rfl
theorem d_29_14 : decode (mB 29) 14 = .ok (.getfield 19, 3) := by decide +kernel
theorem s_29_14 {d : Nat} {Q : wQ} {L : List (Option Value)} {st : List Value} {w : aw} {cn sn : Nat} {a : Nat} : wp d 29 Q 14 L (.ref a :: st) w cn sn = (kd w a = 3 ∧ wp d 29 Q 17 L (fd w 129 a :: st) w cn sn) := w_getfield d_29_14 (by decide +kernel : fT (mO 29) 19 = some (2, 1))
theorem d_29_17 : decode (mB 29) 17 = .ok (.bipush 15, 2) := by decide +kernel
theorem s_29_17 {d : Nat} {Q : wQ} {L : List (Option Value)} {st : List Value} {w : aw} {cn sn : Nat}  : wp d 29 Q 17 L st w cn sn = wp d 29 Q 19 L (.int 15 :: st) w cn sn := w_bipush d_29_17 (by decide)
theorem d_29_19 : decode (mB 29) 19 = .ok (.iand, 1) := by decide +kernel
theorem s_29_19 {d : Nat} {Q : wQ} {L : List (Option Value)} {st : List Value} {w : aw} {cn sn : Nat} {a b : Int32} : wp d 29 Q 19 L (.int b :: .int a :: st) w cn sn = wp d 29 Q 20 L (.int (a &&& b) :: st) w cn sn := wp_row d_29_19 _ _ _ _ _
theorem d_29_20 : decode (mB 29) 20 = .ok (.iaload, 1) := by decide +kernel
theorem s_29_20 {d : Nat} {Q : wQ} {L : List (Option Value)} {st : List Value} {w : aw} {cn sn : Nat} {a : Nat} {i : Int32} : wp d 29 Q 20 L (.int i :: .ref a :: st) w cn sn = ((kd w a = 20 ∨ kd w a = 30) ∧ inR i (ln w a) ∧ wp d 29 Q 21 L (.int (ai w a i.toNatClampNeg) :: st) w cn sn) := wp_row d_29_20 _ _ _ _ _
theorem d_29_21 : decode (mB 29) 21 = .ok (.istore_n 1, 1) := by decide +kernel
theorem s_29_21 {d : Nat} {Q : wQ} {L : List (Option Value)} {st : List Value} {w : aw} {cn sn : Nat} {a0 a1 : Option Value} {v : Int32} : wp d 29 Q 21 (a0 :: a1 :: L) (.int v :: st) w cn sn = wp d 29 Q 22 (clr a0 :: some (.int v) :: L) st w cn sn := w_istore_n d_29_21 (Nat.le_add_left 2 _) rfl
theorem d_29_22 : decode (mB 29) 22 = .ok (.aload_n 0, 1) := by decide +kernel
theorem s_29_22 {d : Nat} {Q : wQ} {L : List (Option Value)} {st : List Value} {w : aw} {cn sn : Nat} {v : Nat} : wp d 29 Q 22 (some (.ref v) :: L) st w cn sn = wp d 29 Q 23 (some (.ref v) :: L) (.ref v :: st) w cn sn := w_aload_n d_29_22 rfl
theorem d_29_23 : decode (mB 29) 23 = .ok (.aload_n 0, 1) := by decide +kernel
theorem s_29_23 {d : Nat} {Q : wQ} {L : List (Option Value)} {st : List Value} {w : aw} {cn sn : Nat} {v : Nat} : wp d 29 Q 23 (some (.ref v) :: L) st w cn sn = wp d 29 Q 24 (some (.ref v) :: L) (.ref v :: st) w cn sn := w_aload_n d_29_23 rfl
theorem d_29_24 : decode (mB 29) 24 = .ok (.getfield 19, 3) := by decide +kernel
theorem s_29_24 {d : Nat} {Q : wQ} {L : List (Option Value)} {st : List Value} {w : aw} {cn sn : Nat} {a : Nat} : wp d 29 Q 24 L (.ref a :: st) w cn sn = (kd w a = 3 ∧ wp d 29 Q 27 L (fd w 129 a :: st) w cn sn) := w_getfield d_29_24 (by decide +kernel : fT (mO 29) 19 = some (2, 1))
theorem d_29_27 : decode (mB 29) 27 = .ok (.iconst 1, 1) := by decide +kernel
theorem s_29_27 {d : Nat} {Q : wQ} {L : List (Option Value)} {st : List Value} {w : aw} {cn sn : Nat}  : wp d 29 Q 27 L st w cn sn = wp d 29 Q 28 L (.int 1 :: st) w cn sn := w_iconst d_29_27 (by decide)
theorem d_29_28 : decode (mB 29) 28 = .ok (.iadd, 1) := by decide +kernel
theorem s_29_28 {d : Nat} {Q : wQ} {L : List (Option Value)} {st : List Value} {w : aw} {cn sn : Nat} {a b : Int32} : wp d 29 Q 28 L (.int b :: .int a :: st) w cn sn = wp d 29 Q 29 L (.int (a + b) :: st) w cn sn := wp_row d_29_28 _ _ _ _ _
theorem d_29_29 : decode (mB 29) 29 = .ok (.bipush 15, 2) := by decide +kernel
theorem s_29_29 {d : Nat} {Q : wQ} {L : List (Option Value)} {st : List Value} {w : aw} {cn sn : Nat}  : wp d 29 Q 29 L st w cn sn = wp d 29 Q 31 L (.int 15 :: st) w cn sn := w_bipush d_29_29 (by decide)
theorem d_29_31 : decode (mB 29) 31 = .ok (.iand, 1) := by decide +kernel
theorem s_29_31 {d : Nat} {Q : wQ} {L : List (Option Value)} {st : List Value} {w : aw} {cn sn : Nat} {a b : Int32} : wp d 29 Q 31 L (.int b :: .int a :: st) w cn sn = wp d 29 Q 32 L (.int (a &&& b) :: st) w cn sn := wp_row d_29_31 _ _ _ _ _
theorem d_29_32 : decode (mB 29) 32 = .ok (.putfield 19, 3) := by decide +kernel
theorem s_29_32 {d : Nat} {Q : wQ} {L : List (Option Value)} {st : List Value} {w : aw} {cn sn : Nat} {x : Int32} {a : Nat} : wp d 29 Q 32 L (.int x :: .ref a :: st) w cn sn = (kd w a = 3 ∧ wp d 29 Q 35 L st (uF w 129 a (.int x)) cn sn) := w_putfield d_29_32 (by decide +kernel : fT (mO 29) 19 = some (2, 1)) (by decide +kernel) ok_int
theorem d_29_35 : decode (mB 29) 35 = .ok (.aload_n 0, 1) := by decide +kernel
theorem s_29_35 {d : Nat} {Q : wQ} {L : List (Option Value)} {st : List Value} {w : aw} {cn sn : Nat} {v : Nat} : wp d 29 Q 35 (some (.ref v) :: L) st w cn sn = wp d 29 Q 36 (some (.ref v) :: L) (.ref v :: st) w cn sn := w_aload_n d_29_35 rfl
theorem d_29_36 : decode (mB 29) 36 = .ok (.dup, 1) := by decide +kernel
theorem s_29_36 {d : Nat} {Q : wQ} {L : List (Option Value)} {st : List Value} {w : aw} {cn sn : Nat} {v : Value} : wp d 29 Q 36 L (v :: st) w cn sn = (v.category = 1 ∧ wp d 29 Q 37 L (v :: v :: st) w cn sn) := wp_row d_29_36 _ _ _ _ _
theorem d_29_37 : decode (mB 29) 37 = .ok (.getfield 15, 3) := by decide +kernel
theorem s_29_37 {d : Nat} {Q : wQ} {L : List (Option Value)} {st : List Value} {w : aw} {cn sn : Nat} {a : Nat} : wp d 29 Q 37 L (.ref a :: st) w cn sn = (kd w a = 3 ∧ wp d 29 Q 40 L (fd w 130 a :: st) w cn sn) := w_getfield d_29_37 (by decide +kernel : fT (mO 29) 15 = some (2, 2))
theorem d_29_40 : decode (mB 29) 40 = .ok (.iconst 1, 1) := by decide +kernel
theorem s_29_40 {d : Nat} {Q : wQ} {L : List (Option Value)} {st : List Value} {w : aw} {cn sn : Nat}  : wp d 29 Q 40 L st w cn sn = wp d 29 Q 41 L (.int 1 :: st) w cn sn := w_iconst d_29_40 (by decide)
theorem d_29_41 : decode (mB 29) 41 = .ok (.isub, 1) := by decide +kernel
theorem s_29_41 {d : Nat} {Q : wQ} {L : List (Option Value)} {st : List Value} {w : aw} {cn sn : Nat} {a b : Int32} : wp d 29 Q 41 L (.int b :: .int a :: st) w cn sn = wp d 29 Q 42 L (.int (a - b) :: st) w cn sn := wp_row d_29_41 _ _ _ _ _
theorem d_29_42 : decode (mB 29) 42 = .ok (.putfield 15, 3) := by decide +kernel
theorem s_29_42 {d : Nat} {Q : wQ} {L : List (Option Value)} {st : List Value} {w : aw} {cn sn : Nat} {x : Int32} {a : Nat} : wp d 29 Q 42 L (.int x :: .ref a :: st) w cn sn = (kd w a = 3 ∧ wp d 29 Q 45 L st (uF w 130 a (.int x)) cn sn) := w_putfield d_29_42 (by decide +kernel : fT (mO 29) 15 = some (2, 2)) (by decide +kernel) ok_int
theorem d_29_45 : decode (mB 29) 45 = .ok (.iload_n 1, 1) := by decide +kernel
theorem s_29_45 {d : Nat} {Q : wQ} {L : List (Option Value)} {st : List Value} {w : aw} {cn sn : Nat} {a0 : Option Value} {v : Int32} : wp d 29 Q 45 (a0 :: some (.int v) :: L) st w cn sn = wp d 29 Q 46 (a0 :: some (.int v) :: L) (.int v :: st) w cn sn := w_iload_n d_29_45 rfl
theorem d_29_46 : decode (mB 29) 46 = .ok (.ireturn, 1) := by decide +kernel
theorem s_29_46 {d : Nat} {Q : wQ} {L : List (Option Value)} {w : aw} {cn sn : Nat} {v : Int32} : wp d 29 Q 46 L [.int v] w cn sn = Q (some (.int v)) w := w_ireturn d_29_46 rfl
theorem d_30_0 : decode (mB 30) 0 = .ok (.iload_n 1, 1) := by decide +kernel
theorem s_30_0 {d : Nat} {Q : wQ} {L : List (Option Value)} {st : List Value} {w : aw} {cn sn : Nat} {a0 : Option Value} {v : Int32} : wp d 30 Q 0 (a0 :: some (.int v) :: L) st w cn sn = wp d 30 Q 1 (a0 :: some (.int v) :: L) (.int v :: st) w cn sn := w_iload_n d_30_0 rfl
theorem d_30_1 : decode (mB 30) 1 = .ok (.ifCond .lt 11, 3) := by decide +kernel
theorem s_30_1 {d : Nat} {Q : wQ} {L : List (Option Value)} {st : List Value} {w : aw} {cn sn : Nat} {x : Int32} : wp d 30 Q 1 L (.int x :: st) w cn sn = ((x < 0 → wp d 30 Q 12 L st w cn sn) ∧ (¬ x < 0 → wp d 30 Q 4 L st w cn sn)) := w_iflt d_30_1 (by decide)
theorem d_30_4 : decode (mB 30) 4 = .ok (.iload_n 1, 1) := by decide +kernel
theorem s_30_4 {d : Nat} {Q : wQ} {L : List (Option Value)} {st : List Value} {w : aw} {cn sn : Nat} {a0 : Option Value} {v : Int32} : wp d 30 Q 4 (a0 :: some (.int v) :: L) st w cn sn = wp d 30 Q 5 (a0 :: some (.int v) :: L) (.int v :: st) w cn sn := w_iload_n d_30_4 rfl
theorem d_30_5 : decode (mB 30) 5 = .ok (.aload_n 0, 1) := by decide +kernel
theorem s_30_5 {d : Nat} {Q : wQ} {L : List (Option Value)} {st : List Value} {w : aw} {cn sn : Nat} {v : Nat} : wp d 30 Q 5 (some (.ref v) :: L) st w cn sn = wp d 30 Q 6 (some (.ref v) :: L) (.ref v :: st) w cn sn := w_aload_n d_30_5 rfl
theorem d_30_6 : decode (mB 30) 6 = .ok (.getfield 15, 3) := by decide +kernel
theorem s_30_6 {d : Nat} {Q : wQ} {L : List (Option Value)} {st : List Value} {w : aw} {cn sn : Nat} {a : Nat} : wp d 30 Q 6 L (.ref a :: st) w cn sn = (kd w a = 3 ∧ wp d 30 Q 9 L (fd w 130 a :: st) w cn sn) := w_getfield d_30_6 (by decide +kernel : fT (mO 30) 15 = some (2, 2))
theorem d_30_9 : decode (mB 30) 9 = .ok (.if_icmp .lt 7, 3) := by decide +kernel
theorem s_30_9 {d : Nat} {Q : wQ} {L : List (Option Value)} {st : List Value} {w : aw} {cn sn : Nat} {a b : Int32} : wp d 30 Q 9 L (.int b :: .int a :: st) w cn sn = ((a < b → wp d 30 Q 16 L st w cn sn) ∧ (¬ a < b → wp d 30 Q 12 L st w cn sn)) := w_iclt d_30_9 (by decide)
theorem d_30_12 : decode (mB 30) 12 = .ok (.iconst (-1), 1) := by decide +kernel
theorem s_30_12 {d : Nat} {Q : wQ} {L : List (Option Value)} {st : List Value} {w : aw} {cn sn : Nat}  : wp d 30 Q 12 L st w cn sn = wp d 30 Q 13 L (.int (-1) :: st) w cn sn := w_iconst d_30_12 (by decide)
theorem d_30_13 : decode (mB 30) 13 = .ok (.goto 17, 3) := by decide +kernel
theorem s_30_13 {d : Nat} {Q : wQ} {L : List (Option Value)} {st : List Value} {w : aw} {cn sn : Nat}  : wp d 30 Q 13 L st w cn sn = wp d 30 Q 30 L st w cn sn := w_goto d_30_13 (by decide)
theorem d_30_16 : decode (mB 30) 16 = .ok (.aload_n 0, 1) := by decide +kernel
theorem s_30_16 {d : Nat} {Q : wQ} {L : List (Option Value)} {st : List Value} {w : aw} {cn sn : Nat} {v : Nat} : wp d 30 Q 16 (some (.ref v) :: L) st w cn sn = wp d 30 Q 17 (some (.ref v) :: L) (.ref v :: st) w cn sn := w_aload_n d_30_16 rfl
theorem d_30_17 : decode (mB 30) 17 = .ok (.getfield 9, 3) := by decide +kernel
theorem s_30_17 {d : Nat} {Q : wQ} {L : List (Option Value)} {st : List Value} {w : aw} {cn sn : Nat} {a : Nat} : wp d 30 Q 17 L (.ref a :: st) w cn sn = (kd w a = 3 ∧ wp d 30 Q 20 L (fd w 128 a :: st) w cn sn) := w_getfield d_30_17 (by decide +kernel : fT (mO 30) 9 = some (2, 0))
theorem d_30_20 : decode (mB 30) 20 = .ok (.aload_n 0, 1) := by decide +kernel
theorem s_30_20 {d : Nat} {Q : wQ} {L : List (Option Value)} {st : List Value} {w : aw} {cn sn : Nat} {v : Nat} : wp d 30 Q 20 (some (.ref v) :: L) st w cn sn = wp d 30 Q 21 (some (.ref v) :: L) (.ref v :: st) w cn sn := w_aload_n d_30_20 rfl
theorem d_30_21 : decode (mB 30) 21 = .ok (.getfield 19, 3) := by decide +kernel
theorem s_30_21 {d : Nat} {Q : wQ} {L : List (Option Value)} {st : List Value} {w : aw} {cn sn : Nat} {a : Nat} : wp d 30 Q 21 L (.ref a :: st) w cn sn = (kd w a = 3 ∧ wp d 30 Q 24 L (fd w 129 a :: st) w cn sn) := w_getfield d_30_21 (by decide +kernel : fT (mO 30) 19 = some (2, 1))
theorem d_30_24 : decode (mB 30) 24 = .ok (.iload_n 1, 1) := by decide +kernel
theorem s_30_24 {d : Nat} {Q : wQ} {L : List (Option Value)} {st : List Value} {w : aw} {cn sn : Nat} {a0 : Option Value} {v : Int32} : wp d 30 Q 24 (a0 :: some (.int v) :: L) st w cn sn = wp d 30 Q 25 (a0 :: some (.int v) :: L) (.int v :: st) w cn sn := w_iload_n d_30_24 rfl
theorem d_30_25 : decode (mB 30) 25 = .ok (.iadd, 1) := by decide +kernel
theorem s_30_25 {d : Nat} {Q : wQ} {L : List (Option Value)} {st : List Value} {w : aw} {cn sn : Nat} {a b : Int32} : wp d 30 Q 25 L (.int b :: .int a :: st) w cn sn = wp d 30 Q 26 L (.int (a + b) :: st) w cn sn := wp_row d_30_25 _ _ _ _ _
theorem d_30_26 : decode (mB 30) 26 = .ok (.bipush 15, 2) := by decide +kernel
theorem s_30_26 {d : Nat} {Q : wQ} {L : List (Option Value)} {st : List Value} {w : aw} {cn sn : Nat}  : wp d 30 Q 26 L st w cn sn = wp d 30 Q 28 L (.int 15 :: st) w cn sn := w_bipush d_30_26 (by decide)
theorem d_30_28 : decode (mB 30) 28 = .ok (.iand, 1) := by decide +kernel
theorem s_30_28 {d : Nat} {Q : wQ} {L : List (Option Value)} {st : List Value} {w : aw} {cn sn : Nat} {a b : Int32} : wp d 30 Q 28 L (.int b :: .int a :: st) w cn sn = wp d 30 Q 29 L (.int (a &&& b) :: st) w cn sn := wp_row d_30_28 _ _ _ _ _
theorem d_30_29 : decode (mB 30) 29 = .ok (.iaload, 1) := by decide +kernel
theorem s_30_29 {d : Nat} {Q : wQ} {L : List (Option Value)} {st : List Value} {w : aw} {cn sn : Nat} {a : Nat} {i : Int32} : wp d 30 Q 29 L (.int i :: .ref a :: st) w cn sn = ((kd w a = 20 ∨ kd w a = 30) ∧ inR i (ln w a) ∧ wp d 30 Q 30 L (.int (ai w a i.toNatClampNeg) :: st) w cn sn) := wp_row d_30_29 _ _ _ _ _
theorem d_30_30 : decode (mB 30) 30 = .ok (.ireturn, 1) := by decide +kernel
theorem s_30_30 {d : Nat} {Q : wQ} {L : List (Option Value)} {w : aw} {cn sn : Nat} {v : Int32} : wp d 30 Q 30 L [.int v] w cn sn = Q (some (.int v)) w := w_ireturn d_30_30 rfl
