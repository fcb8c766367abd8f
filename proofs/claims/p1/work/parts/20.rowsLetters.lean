theorem d_24_0 : decode (mB 24) 0 = .ok (.aload_n 0, 1) := by decide +kernel
theorem s_24_0 {d : Nat} {Q : wQ} {L : List (Option Value)} {st : List Value} {w : aw} {cn sn : Nat} {v : Nat} : wp d 24 Q 0 (some (.ref v) :: L) st w cn sn = wp d 24 Q 1 (some (.ref v) :: L) (.ref v :: st) w cn sn := w_aload_n d_24_0 rfl
theorem d_24_1 : decode (mB 24) 1 = .ok (.invokespecial 3, 3) := by decide +kernel
theorem s_24_1 {d : Nat} {Q : wQ} {L : List (Option Value)} {st : List Value} {w : aw} {cn sn : Nat} {b : Nat} : wp d 24 Q 1 L (.ref b :: st) w cn sn = (catS st ≤ 8 ∧ wp d 24 Q 4 L st w cn sn) := w_objinit d_24_1 (by decide +kernel : cT (mO 24) 3 = some (3, 0))
theorem d_24_4 : decode (mB 24) 4 = .ok (.aload_n 0, 1) := by decide +kernel
theorem s_24_4 {d : Nat} {Q : wQ} {L : List (Option Value)} {st : List Value} {w : aw} {cn sn : Nat} {v : Nat} : wp d 24 Q 4 (some (.ref v) :: L) st w cn sn = wp d 24 Q 5 (some (.ref v) :: L) (.ref v :: st) w cn sn := w_aload_n d_24_4 rfl
theorem d_24_5 : decode (mB 24) 5 = .ok (.bipush 16, 2) := by decide +kernel
theorem s_24_5 {d : Nat} {Q : wQ} {L : List (Option Value)} {st : List Value} {w : aw} {cn sn : Nat}  : wp d 24 Q 5 L st w cn sn = wp d 24 Q 7 L (.int 16 :: st) w cn sn := w_bipush d_24_5 (by decide)
theorem d_24_7 : decode (mB 24) 7 = .ok (.newarray .int, 2) := by decide +kernel
theorem s_24_7 {d : Nat} {Q : wQ} {L : List (Option Value)} {st : List Value} {w : aw} {cn sn : Nat} {v : Int32} : wp d 24 Q 7 L (.int v :: st) w cn sn = (¬ v < 0 ∧ v.toNatClampNeg * 4 ≤ 536870912 ∧ cn + 1 ≤ 1 ∧ sn + v.toNatClampNeg ≤ 16 ∧ wp d 24 Q 9 L (.ref (zs w) :: st) (nw w 20 v.toNatClampNeg) (cn + 1) (sn + v.toNatClampNeg)) := w_newarray d_24_7 rfl (by decide +kernel) (by decide +kernel)
theorem d_24_9 : decode (mB 24) 9 = .ok (.putfield 9, 3) := by decide +kernel
theorem s_24_9 {d : Nat} {Q : wQ} {L : List (Option Value)} {st : List Value} {w : aw} {cn sn : Nat} {x : Nat} {a : Nat} : wp d 24 Q 9 L (.ref x :: .ref a :: st) w cn sn = (kd w a = 3 ∧ wp d 24 Q 12 L st (uF w 128 a (.ref x)) cn sn) := w_putfield d_24_9 (by decide +kernel : fT (mO 24) 9 = some (2, 0)) (by decide +kernel) ok_arr
theorem d_24_12 : decode (mB 24) 12 = .ok (.return_, 1) := by decide +kernel
theorem s_24_12 {d : Nat} {Q : wQ} {L : List (Option Value)} {w : aw} {cn sn : Nat}  : wp d 24 Q 12 L [] w cn sn = Q none w := w_return d_24_12 rfl
theorem d_25_0 : decode (mB 25) 0 = .ok (.aload_n 0, 1) := by decide +kernel
theorem s_25_0 {d : Nat} {Q : wQ} {L : List (Option Value)} {st : List Value} {w : aw} {cn sn : Nat} {v : Nat} : wp d 25 Q 0 (some (.ref v) :: L) st w cn sn = wp d 25 Q 1 (some (.ref v) :: L) (.ref v :: st) w cn sn := w_aload_n d_25_0 rfl
theorem d_25_1 : decode (mB 25) 1 = .ok (.getfield 15, 3) := by decide +kernel
theorem s_25_1 {d : Nat} {Q : wQ} {L : List (Option Value)} {st : List Value} {w : aw} {cn sn : Nat} {a : Nat} : wp d 25 Q 1 L (.ref a :: st) w cn sn = (kd w a = 3 ∧ wp d 25 Q 4 L (fd w 130 a :: st) w cn sn) := w_getfield d_25_1 (by decide +kernel : fT (mO 25) 15 = some (2, 2))
theorem d_25_4 : decode (mB 25) 4 = .ok (.bipush 16, 2) := by decide +kernel
theorem s_25_4 {d : Nat} {Q : wQ} {L : List (Option Value)} {st : List Value} {w : aw} {cn sn : Nat}  : wp d 25 Q 4 L st w cn sn = wp d 25 Q 6 L (.int 16 :: st) w cn sn := w_bipush d_25_4 (by decide)
theorem d_25_6 : decode (mB 25) 6 = .ok (.if_icmp .lt 5, 3) := by decide +kernel
theorem s_25_6 {d : Nat} {Q : wQ} {L : List (Option Value)} {st : List Value} {w : aw} {cn sn : Nat} {a b : Int32} : wp d 25 Q 6 L (.int b :: .int a :: st) w cn sn = ((a < b → wp d 25 Q 11 L st w cn sn) ∧ (¬ a < b → wp d 25 Q 9 L st w cn sn)) := w_iclt d_25_6 (by decide)
theorem d_25_9 : decode (mB 25) 9 = .ok (.iconst 0, 1) := by decide +kernel
theorem s_25_9 {d : Nat} {Q : wQ} {L : List (Option Value)} {st : List Value} {w : aw} {cn sn : Nat}  : wp d 25 Q 9 L st w cn sn = wp d 25 Q 10 L (.int 0 :: st) w cn sn := w_iconst d_25_9 (by decide)
theorem d_25_10 : decode (mB 25) 10 = .ok (.ireturn, 1) := by decide +kernel
theorem s_25_10 {d : Nat} {Q : wQ} {L : List (Option Value)} {w : aw} {cn sn : Nat} {v : Int32} : wp d 25 Q 10 L [.int v] w cn sn = (narrow .boolean (.int v) = .int v ∧ Q (some (.int v)) w) := w_zreturn d_25_10 rfl
theorem d_25_11 : decode (mB 25) 11 = .ok (.aload_n 0, 1) := by decide +kernel
theorem s_25_11 {d : Nat} {Q : wQ} {L : List (Option Value)} {st : List Value} {w : aw} {cn sn : Nat} {v : Nat} : wp d 25 Q 11 (some (.ref v) :: L) st w cn sn = wp d 25 Q 12 (some (.ref v) :: L) (.ref v :: st) w cn sn := w_aload_n d_25_11 rfl
theorem d_25_12 : decode (mB 25) 12 = .ok (.getfield 9, 3) := by decide +kernel
theorem s_25_12 {d : Nat} {Q : wQ} {L : List (Option Value)} {st : List Value} {w : aw} {cn sn : Nat} {a : Nat} : wp d 25 Q 12 L (.ref a :: st) w cn sn = (kd w a = 3 ∧ wp d 25 Q 15 L (fd w 128 a :: st) w cn sn) := w_getfield d_25_12 (by decide +kernel : fT (mO 25) 9 = some (2, 0))
theorem d_25_15 : decode (mB 25) 15 = .ok (.aload_n 0, 1) := by decide +kernel
theorem s_25_15 {d : Nat} {Q : wQ} {L : List (Option Value)} {st : List Value} {w : aw} {cn sn : Nat} {v : Nat} : wp d 25 Q 15 (some (.ref v) :: L) st w cn sn = wp d 25 Q 16 (some (.ref v) :: L) (.ref v :: st) w cn sn := w_aload_n d_25_15 rfl
theorem d_25_16 : decode (mB 25) 16 = .ok (.getfield 19, 3) := by decide +kernel
theorem s_25_16 {d : Nat} {Q : wQ} {L : List (Option Value)} {st : List Value} {w : aw} {cn sn : Nat} {a : Nat} : wp d 25 Q 16 L (.ref a :: st) w cn sn = (kd w a = 3 ∧ wp d 25 Q 19 L (fd w 129 a :: st) w cn sn) := w_getfield d_25_16 (by decide +kernel : fT (mO 25) 19 = some (2, 1))
theorem d_25_19 : decode (mB 25) 19 = .ok (.aload_n 0, 1) := by decide +kernel
theorem s_25_19 {d : Nat} {Q : wQ} {L : List (Option Value)} {st : List Value} {w : aw} {cn sn : Nat} {v : Nat} : wp d 25 Q 19 (some (.ref v) :: L) st w cn sn = wp d 25 Q 20 (some (.ref v) :: L) (.ref v :: st) w cn sn := w_aload_n d_25_19 rfl
theorem d_25_20 : decode (mB 25) 20 = .ok (.getfield 15, 3) := by decide +kernel
theorem s_25_20 {d : Nat} {Q : wQ} {L : List (Option Value)} {st : List Value} {w : aw} {cn sn : Nat} {a : Nat} : wp d 25 Q 20 L (.ref a :: st) w cn sn = (kd w a = 3 ∧ wp d 25 Q 23 L (fd w 130 a :: st) w cn sn) := w_getfield d_25_20 (by decide +kernel : fT (mO 25) 15 = some (2, 2))
theorem d_25_23 : decode (mB 25) 23 = .ok (.iadd, 1) := by decide +kernel
theorem s_25_23 {d : Nat} {Q : wQ} {L : List (Option Value)} {st : List Value} {w : aw} {cn sn : Nat} {a b : Int32} : wp d 25 Q 23 L (.int b :: .int a :: st) w cn sn = wp d 25 Q 24 L (.int (a + b) :: st) w cn sn := wp_row d_25_23 _ _ _ _ _
theorem d_25_24 : decode (mB 25) 24 = .ok (.bipush 16, 2) := by decide +kernel
theorem s_25_24 {d : Nat} {Q : wQ} {L : List (Option Value)} {st : List Value} {w : aw} {cn sn : Nat}  : wp d 25 Q 24 L st w cn sn = wp d 25 Q 26 L (.int 16 :: st) w cn sn := w_bipush d_25_24 (by decide)
theorem d_25_26 : decode (mB 25) 26 = .ok (.irem, 1) := by decide +kernel
theorem s_25_26 {d : Nat} {Q : wQ} {L : List (Option Value)} {st : List Value} {w : aw} {cn sn : Nat} {a b : Int32} : wp d 25 Q 26 L (.int b :: .int a :: st) w cn sn = (¬ b = 0 ∧ wp d 25 Q 27 L (.int (a - a / b * b) :: st) w cn sn) := wp_row d_25_26 _ _ _ _ _
theorem d_25_27 : decode (mB 25) 27 = .ok (.iload_n 1, 1) := by decide +kernel
theorem s_25_27 {d : Nat} {Q : wQ} {L : List (Option Value)} {st : List Value} {w : aw} {cn sn : Nat} {a0 : Option Value} {v : Int32} : wp d 25 Q 27 (a0 :: some (.int v) :: L) st w cn sn = wp d 25 Q 28 (a0 :: some (.int v) :: L) (.int v :: st) w cn sn := w_iload_n d_25_27 rfl
theorem d_25_28 : decode (mB 25) 28 = .ok (.iastore, 1) := by decide +kernel
theorem s_25_28 {d : Nat} {Q : wQ} {L : List (Option Value)} {st : List Value} {w : aw} {cn sn : Nat} {a : Nat} {i x : Int32} : wp d 25 Q 28 L (.int x :: .int i :: .ref a :: st) w cn sn = (kd w a = 20 ∧ inR i (ln w a) ∧ wp d 25 Q 29 L st (uA w a i.toNatClampNeg x) cn sn) := wp_row d_25_28 _ _ _ _ _
theorem d_25_29 : decode (mB 25) 29 = .ok (.aload_n 0, 1) := by decide +kernel
theorem s_25_29 {d : Nat} {Q : wQ} {L : List (Option Value)} {st : List Value} {w : aw} {cn sn : Nat} {v : Nat} : wp d 25 Q 29 (some (.ref v) :: L) st w cn sn = wp d 25 Q 30 (some (.ref v) :: L) (.ref v :: st) w cn sn := w_aload_n d_25_29 rfl
theorem d_25_30 : decode (mB 25) 30 = .ok (.dup, 1) := by decide +kernel
theorem s_25_30 {d : Nat} {Q : wQ} {L : List (Option Value)} {st : List Value} {w : aw} {cn sn : Nat} {v : Value} : wp d 25 Q 30 L (v :: st) w cn sn = (v.category = 1 ∧ wp d 25 Q 31 L (v :: v :: st) w cn sn) := wp_row d_25_30 _ _ _ _ _
theorem d_25_31 : decode (mB 25) 31 = .ok (.getfield 15, 3) := by decide +kernel
theorem s_25_31 {d : Nat} {Q : wQ} {L : List (Option Value)} {st : List Value} {w : aw} {cn sn : Nat} {a : Nat} : wp d 25 Q 31 L (.ref a :: st) w cn sn = (kd w a = 3 ∧ wp d 25 Q 34 L (fd w 130 a :: st) w cn sn) := w_getfield d_25_31 (by decide +kernel : fT (mO 25) 15 = some (2, 2))
theorem d_25_34 : decode (mB 25) 34 = .ok (.iconst 1, 1) := by decide +kernel
theorem s_25_34 {d : Nat} {Q : wQ} {L : List (Option Value)} {st : List Value} {w : aw} {cn sn : Nat}  : wp d 25 Q 34 L st w cn sn = wp d 25 Q 35 L (.int 1 :: st) w cn sn := w_iconst d_25_34 (by decide)
theorem d_25_35 : decode (mB 25) 35 = .ok (.iadd, 1) := by decide +kernel
theorem s_25_35 {d : Nat} {Q : wQ} {L : List (Option Value)} {st : List Value} {w : aw} {cn sn : Nat} {a b : Int32} : wp d 25 Q 35 L (.int b :: .int a :: st) w cn sn = wp d 25 Q 36 L (.int (a + b) :: st) w cn sn := wp_row d_25_35 _ _ _ _ _
theorem d_25_36 : decode (mB 25) 36 = .ok (.putfield 15, 3) := by decide +kernel
theorem s_25_36 {d : Nat} {Q : wQ} {L : List (Option Value)} {st : List Value} {w : aw} {cn sn : Nat} {x : Int32} {a : Nat} : wp d 25 Q 36 L (.int x :: .ref a :: st) w cn sn = (kd w a = 3 ∧ wp d 25 Q 39 L st (uF w 130 a (.int x)) cn sn) := w_putfield d_25_36 (by decide +kernel : fT (mO 25) 15 = some (2, 2)) (by decide +kernel) ok_int
theorem d_25_39 : decode (mB 25) 39 = .ok (.iconst 1, 1) := by decide +kernel
theorem s_25_39 {d : Nat} {Q : wQ} {L : List (Option Value)} {st : List Value} {w : aw} {cn sn : Nat}  : wp d 25 Q 39 L st w cn sn = wp d 25 Q 40 L (.int 1 :: st) w cn sn := w_iconst d_25_39 (by decide)
theorem d_25_40 : decode (mB 25) 40 = .ok (.ireturn, 1) := by decide +kernel
theorem s_25_40 {d : Nat} {Q : wQ} {L : List (Option Value)} {w : aw} {cn sn : Nat} {v : Int32} : wp d 25 Q 40 L [.int v] w cn sn = (narrow .boolean (.int v) = .int v ∧ Q (some (.int v)) w) := w_zreturn d_25_40 rfl
theorem d_26_0 : decode (mB 26) 0 = .ok (.aload_n 0, 1) := by decide +kernel
theorem s_26_0 {d : Nat} {Q : wQ} {L : List (Option Value)} {st : List Value} {w : aw} {cn sn : Nat} {v : Nat} : wp d 26 Q 0 (some (.ref v) :: L) st w cn sn = wp d 26 Q 1 (some (.ref v) :: L) (.ref v :: st) w cn sn := w_aload_n d_26_0 rfl
theorem d_26_1 : decode (mB 26) 1 = .ok (.iconst 0, 1) := by decide +kernel
theorem s_26_1 {d : Nat} {Q : wQ} {L : List (Option Value)} {st : List Value} {w : aw} {cn sn : Nat}  : wp d 26 Q 1 L st w cn sn = wp d 26 Q 2 L (.int 0 :: st) w cn sn := w_iconst d_26_1 (by decide)
theorem d_26_2 : decode (mB 26) 2 = .ok (.invokevirtual 22, 3) := by decide +kernel
theorem s_26_2 {d : Nat} {Q : wQ} {L : List (Option Value)} {st : List Value} {w : aw} {cn sn : Nat} {v0 : Value} {b : Nat} : wp d 26 Q 2 L (v0 :: .ref b :: st) w cn sn = (kd w b = 3 ∧ catS st ≤ 8 ∧ wpD d 27 [.ref b, v0] w (fun v w' => wp d 26 Q 5 L (v.toList ++ st) w' cn sn)) := w_virtual (As := [v0]) d_26_2 (by decide +kernel : cT (mO 26) 22 = some (0, 27)) rfl (by decide +kernel) rfl (by decide +kernel) rfl
theorem d_26_5 : decode (mB 26) 5 = .ok (.istore_n 1, 1) := by decide +kernel
theorem s_26_5 {d : Nat} {Q : wQ} {L : List (Option Value)} {st : List Value} {w : aw} {cn sn : Nat} {a0 a1 : Option Value} {v : Int32} : wp d 26 Q 5 (a0 :: a1 :: L) (.int v :: st) w cn sn = wp d 26 Q 6 (clr a0 :: some (.int v) :: L) st w cn sn := w_istore_n d_26_5 (Nat.le_add_left 2 _) rfl
theorem d_26_6 : decode (mB 26) 6 = .ok (.iload_n 1, 1) := by decide +kernel
theorem s_26_6 {d : Nat} {Q : wQ} {L : List (Option Value)} {st : List Value} {w : aw} {cn sn : Nat} {a0 : Option Value} {v : Int32} : wp d 26 Q 6 (a0 :: some (.int v) :: L) st w cn sn = wp d 26 Q 7 (a0 :: some (.int v) :: L) (.int v :: st) w cn sn := w_iload_n d_26_6 rfl
theorem d_26_7 : decode (mB 26) 7 = .ok (.ifCond .lt 26, 3) := by decide +kernel
theorem s_26_7 {d : Nat} {Q : wQ} {L : List (Option Value)} {st : List Value} {w : aw} {cn sn : Nat} {x : Int32} : wp d 26 Q 7 L (.int x :: st) w cn sn = ((x < 0 → wp d 26 Q 33 L st w cn sn) ∧ (¬ x < 0 → wp d 26 Q 10 L st w cn sn)) := w_iflt d_26_7 (by decide)
theorem d_26_10 : decode (mB 26) 10 = .ok (.aload_n 0, 1) := by decide +kernel
theorem s_26_10 {d : Nat} {Q : wQ} {L : List (Option Value)} {st : List Value} {w : aw} {cn sn : Nat} {v : Nat} : wp d 26 Q 10 (some (.ref v) :: L) st w cn sn = wp d 26 Q 11 (some (.ref v) :: L) (.ref v :: st) w cn sn := w_aload_n d_26_10 rfl
theorem d_26_11 : decode (mB 26) 11 = .ok (.aload_n 0, 1) := by decide +kernel
theorem s_26_11 {d : Nat} {Q : wQ} {L : List (Option Value)} {st : List Value} {w : aw} {cn sn : Nat} {v : Nat} : wp d 26 Q 11 (some (.ref v) :: L) st w cn sn = wp d 26 Q 12 (some (.ref v) :: L) (.ref v :: st) w cn sn := w_aload_n d_26_11 rfl
theorem d_26_12 : decode (mB 26) 12 = .ok (.getfield 19, 3) := by decide +kernel
theorem s_26_12 {d : Nat} {Q : wQ} {L : List (Option Value)} {st : List Value} {w : aw} {cn sn : Nat} {a : Nat} : wp d 26 Q 12 L (.ref a :: st) w cn sn = (kd w a = 3 ∧ wp d 26 Q 15 L (fd w 129 a :: st) w cn sn) := w_getfield d_26_12 (by decide +kernel : fT (mO 26) 19 = some (2, 1))
theorem d_26_15 : decode (mB 26) 15 = .ok (.iconst 1, 1) := by decide +kernel
theorem s_26_15 {d : Nat} {Q : wQ} {L : List (Option Value)} {st : List Value} {w : aw} {cn sn : Nat}  : wp d 26 Q 15 L st w cn sn = wp d 26 Q 16 L (.int 1 :: st) w cn sn := w_iconst d_26_15 (by decide)
theorem d_26_16 : decode (mB 26) 16 = .ok (.iadd, 1) := by decide +kernel
theorem s_26_16 {d : Nat} {Q : wQ} {L : List (Option Value)} {st : List Value} {w : aw} {cn sn : Nat} {a b : Int32} : wp d 26 Q 16 L (.int b :: .int a :: st) w cn sn = wp d 26 Q 17 L (.int (a + b) :: st) w cn sn := wp_row d_26_16 _ _ _ _ _
theorem d_26_17 : decode (mB 26) 17 = .ok (.bipush 16, 2) := by decide +kernel
theorem s_26_17 {d : Nat} {Q : wQ} {L : List (Option Value)} {st : List Value} {w : aw} {cn sn : Nat}  : wp d 26 Q 17 L st w cn sn = wp d 26 Q 19 L (.int 16 :: st) w cn sn := w_bipush d_26_17 (by decide)
theorem d_26_19 : decode (mB 26) 19 = .ok (.irem, 1) := by decide +kernel
theorem s_26_19 {d : Nat} {Q : wQ} {L : List (Option Value)} {st : List Value} {w : aw} {cn sn : Nat} {a b : Int32} : wp d 26 Q 19 L (.int b :: .int a :: st) w cn sn = (¬ b = 0 ∧ wp d 26 Q 20 L (.int (a - a / b * b) :: st) w cn sn) := wp_row d_26_19 _ _ _ _ _
theorem d_26_20 : decode (mB 26) 20 = .ok (.putfield 19, 3) := by decide +kernel
theorem s_26_20 {d : Nat} {Q : wQ} {L : List (Option Value)} {st : List Value} {w : aw} {cn sn : Nat} {x : Int32} {a : Nat} : wp d 26 Q 20 L (.int x :: .ref a :: st) w cn sn = (kd w a = 3 ∧ wp d 26 Q 23 L st (uF w 129 a (.int x)) cn sn) := w_putfield d_26_20 (by decide +kernel : fT (mO 26) 19 = some (2, 1)) (by decide +kernel) ok_int
theorem d_26_23 : decode (mB 26) 23 = .ok (.aload_n 0, 1) := by decide +kernel
theorem s_26_23 {d : Nat} {Q : wQ} {L : List (Option Value)} {st : List Value} {w : aw} {cn sn : Nat} {v : Nat} : wp d 26 Q 23 (some (.ref v) :: L) st w cn sn = wp d 26 Q 24 (some (.ref v) :: L) (.ref v :: st) w cn sn := w_aload_n d_26_23 rfl
theorem d_26_24 : decode (mB 26) 24 = .ok (.dup, 1) := by decide +kernel
theorem s_26_24 {d : Nat} {Q : wQ} {L : List (Option Value)} {st : List Value} {w : aw} {cn sn : Nat} {v : Value} : wp d 26 Q 24 L (v :: st) w cn sn = (v.category = 1 ∧ wp d 26 Q 25 L (v :: v :: st) w cn sn) := wp_row d_26_24 _ _ _ _ _
theorem d_26_25 : decode (mB 26) 25 = .ok (.getfield 15, 3) := by decide +kernel
theorem s_26_25 {d : Nat} {Q : wQ} {L : List (Option Value)} {st : List Value} {w : aw} {cn sn : Nat} {a : Nat} : wp d 26 Q 25 L (.ref a :: st) w cn sn = (kd w a = 3 ∧ wp d 26 Q 28 L (fd w 130 a :: st) w cn sn) := w_getfield d_26_25 (by decide +kernel : fT (mO 26) 15 = some (2, 2))
theorem d_26_28 : decode (mB 26) 28 = .ok (.iconst 1, 1) := by decide +kernel
theorem s_26_28 {d : Nat} {Q : wQ} {L : List (Option Value)} {st : List Value} {w : aw} {cn sn : Nat}  : wp d 26 Q 28 L st w cn sn = wp d 26 Q 29 L (.int 1 :: st) w cn sn := w_iconst d_26_28 (by decide)
theorem d_26_29 : decode (mB 26) 29 = .ok (.isub, 1) := by decide +kernel
theorem s_26_29 {d : Nat} {Q : wQ} {L : List (Option Value)} {st : List Value} {w : aw} {cn sn : Nat} {a b : Int32} : wp d 26 Q 29 L (.int b :: .int a :: st) w cn sn = wp d 26 Q 30 L (.int (a - b) :: st) w cn sn := wp_row d_26_29 _ _ _ _ _
theorem d_26_30 : decode (mB 26) 30 = .ok (.putfield 15, 3) := by decide +kernel
theorem s_26_30 {d : Nat} {Q : wQ} {L : List (Option Value)} {st : List Value} {w : aw} {cn sn : Nat} {x : Int32} {a : Nat} : wp d 26 Q 30 L (.int x :: .ref a :: st) w cn sn = (kd w a = 3 ∧ wp d 26 Q 33 L st (uF w 130 a (.int x)) cn sn) := w_putfield d_26_30 (by decide +kernel : fT (mO 26) 15 = some (2, 2)) (by decide +kernel) ok_int
theorem d_26_33 : decode (mB 26) 33 = .ok (.iload_n 1, 1) := by decide +kernel
theorem s_26_33 {d : Nat} {Q : wQ} {L : List (Option Value)} {st : List Value} {w : aw} {cn sn : Nat} {a0 : Option Value} {v : Int32} : wp d 26 Q 33 (a0 :: some (.int v) :: L) st w cn sn = wp d 26 Q 34 (a0 :: some (.int v) :: L) (.int v :: st) w cn sn := w_iload_n d_26_33 rfl
theorem d_26_34 : decode (mB 26) 34 = .ok (.ireturn, 1) := by decide +kernel
theorem s_26_34 {d : Nat} {Q : wQ} {L : List (Option Value)} {w : aw} {cn sn : Nat} {v : Int32} : wp d 26 Q 34 L [.int v] w cn sn = Q (some (.int v)) w := w_ireturn d_26_34 rfl
theorem d_27_0 : decode (mB 27) 0 = .ok (.iload_n 1, 1) := by decide +kernel
theorem s_27_0 {d : Nat} {Q : wQ} {L : List (Option Value)} {st : List Value} {w : aw} {cn sn : Nat} {a0 : Option Value} {v : Int32} : wp d 27 Q 0 (a0 :: some (.int v) :: L) st w cn sn = wp d 27 Q 1 (a0 :: some (.int v) :: L) (.int v :: st) w cn sn := w_iload_n d_27_0 rfl
theorem d_27_1 : decode (mB 27) 1 = .ok (.ifCond .lt 11, 3) := by decide +kernel
theorem s_27_1 {d : Nat} {Q : wQ} {L : List (Option Value)} {st : List Value} {w : aw} {cn sn : Nat} {x : Int32} : wp d 27 Q 1 L (.int x :: st) w cn sn = ((x < 0 → wp d 27 Q 12 L st w cn sn) ∧ (¬ x < 0 → wp d 27 Q 4 L st w cn sn)) := w_iflt d_27_1 (by decide)
theorem d_27_4 : decode (mB 27) 4 = .ok (.iload_n 1, 1) := by decide +kernel
theorem s_27_4 {d : Nat} {Q : wQ} {L : List (Option Value)} {st : List Value} {w : aw} {cn sn : Nat} {a0 : Option Value} {v : Int32} : wp d 27 Q 4 (a0 :: some (.int v) :: L) st w cn sn = wp d 27 Q 5 (a0 :: some (.int v) :: L) (.int v :: st) w cn sn := w_iload_n d_27_4 rfl
theorem d_27_5 : decode (mB 27) 5 = .ok (.aload_n 0, 1) := by decide +kernel
theorem s_27_5 {d : Nat} {Q : wQ} {L : List (Option Value)} {st : List Value} {w : aw} {cn sn : Nat} {v : Nat} : wp d 27 Q 5 (some (.ref v) :: L) st w cn sn = wp d 27 Q 6 (some (.ref v) :: L) (.ref v :: st) w cn sn := w_aload_n d_27_5 rfl
theorem d_27_6 : decode (mB 27) 6 = .ok (.getfield 15, 3) := by decide +kernel
theorem s_27_6 {d : Nat} {Q : wQ} {L : List (Option Value)} {st : List Value} {w : aw} {cn sn : Nat} {a : Nat} : wp d 27 Q 6 L (.ref a :: st) w cn sn = (kd w a = 3 ∧ wp d 27 Q 9 L (fd w 130 a :: st) w cn sn) := w_getfield d_27_6 (by decide +kernel : fT (mO 27) 15 = some (2, 2))
theorem d_27_9 : decode (mB 27) 9 = .ok (.if_icmp .lt 7, 3) := by decide +kernel
theorem s_27_9 {d : Nat} {Q : wQ} {L : List (Option Value)} {st : List Value} {w : aw} {cn sn : Nat} {a b : Int32} : wp d 27 Q 9 L (.int b :: .int a :: st) w cn sn = ((a < b → wp d 27 Q 16 L st w cn sn) ∧ (¬ a < b → wp d 27 Q 12 L st w cn sn)) := w_iclt d_27_9 (by decide)
theorem d_27_12 : decode (mB 27) 12 = .ok (.iconst (-1), 1) := by decide +kernel
theorem s_27_12 {d : Nat} {Q : wQ} {L : List (Option Value)} {st : List Value} {w : aw} {cn sn : Nat}  : wp d 27 Q 12 L st w cn sn = wp d 27 Q 13 L (.int (-1) :: st) w cn sn := w_iconst d_27_12 (by decide)
theorem d_27_13 : decode (mB 27) 13 = .ok (.goto 17, 3) := by decide +kernel
theorem s_27_13 {d : Nat} {Q : wQ} {L : List (Option Value)} {st : List Value} {w : aw} {cn sn : Nat}  : wp d 27 Q 13 L st w cn sn = wp d 27 Q 30 L st w cn sn := w_goto d_27_13 (by decide)
theorem d_27_16 : decode (mB 27) 16 = .ok (.aload_n 0, 1) := by decide +kernel
theorem s_27_16 {d : Nat} {Q : wQ} {L : List (Option Value)} {st : List Value} {w : aw} {cn sn : Nat} {v : Nat} : wp d 27 Q 16 (some (.ref v) :: L) st w cn sn = wp d 27 Q 17 (some (.ref v) :: L) (.ref v :: st) w cn sn := w_aload_n d_27_16 rfl
theorem d_27_17 : decode (mB 27) 17 = .ok (.getfield 9, 3) := by decide +kernel
theorem s_27_17 {d : Nat} {Q : wQ} {L : List (Option Value)} {st : List Value} {w : aw} {cn sn : Nat} {a : Nat} : wp d 27 Q 17 L (.ref a :: st) w cn sn = (kd w a = 3 ∧ wp d 27 Q 20 L (fd w 128 a :: st) w cn sn) := w_getfield d_27_17 (by decide +kernel : fT (mO 27) 9 = some (2, 0))
theorem d_27_20 : decode (mB 27) 20 = .ok (.aload_n 0, 1) := by decide +kernel
theorem s_27_20 {d : Nat} {Q : wQ} {L : List (Option Value)} {st : List Value} {w : aw} {cn sn : Nat} {v : Nat} : wp d 27 Q 20 (some (.ref v) :: L) st w cn sn = wp d 27 Q 21 (some (.ref v) :: L) (.ref v :: st) w cn sn := w_aload_n d_27_20 rfl
theorem d_27_21 : decode (mB 27) 21 = .ok (.getfield 19, 3) := by decide +kernel
theorem s_27_21 {d : Nat} {Q : wQ} {L : List (Option Value)} {st : List Value} {w : aw} {cn sn : Nat} {a : Nat} : wp d 27 Q 21 L (.ref a :: st) w cn sn = (kd w a = 3 ∧ wp d 27 Q 24 L (fd w 129 a :: st) w cn sn) := w_getfield d_27_21 (by decide +kernel : fT (mO 27) 19 = some (2, 1))
theorem d_27_24 : decode (mB 27) 24 = .ok (.iload_n 1, 1) := by decide +kernel
theorem s_27_24 {d : Nat} {Q : wQ} {L : List (Option Value)} {st : List Value} {w : aw} {cn sn : Nat} {a0 : Option Value} {v : Int32} : wp d 27 Q 24 (a0 :: some (.int v) :: L) st w cn sn = wp d 27 Q 25 (a0 :: some (.int v) :: L) (.int v :: st) w cn sn := w_iload_n d_27_24 rfl
theorem d_27_25 : decode (mB 27) 25 = .ok (.iadd, 1) := by decide +kernel
theorem s_27_25 {d : Nat} {Q : wQ} {L : List (Option Value)} {st : List Value} {w : aw} {cn sn : Nat} {a b : Int32} : wp d 27 Q 25 L (.int b :: .int a :: st) w cn sn = wp d 27 Q 26 L (.int (a + b) :: st) w cn sn := wp_row d_27_25 _ _ _ _ _
theorem d_27_26 : decode (mB 27) 26 = .ok (.bipush 16, 2) := by decide +kernel
theorem s_27_26 {d : Nat} {Q : wQ} {L : List (Option Value)} {st : List Value} {w : aw} {cn sn : Nat}  : wp d 27 Q 26 L st w cn sn = wp d 27 Q 28 L (.int 16 :: st) w cn sn := w_bipush d_27_26 (by decide)
theorem d_27_28 : decode (mB 27) 28 = .ok (.irem, 1) := by decide +kernel
theorem s_27_28 {d : Nat} {Q : wQ} {L : List (Option Value)} {st : List Value} {w : aw} {cn sn : Nat} {a b : Int32} : wp d 27 Q 28 L (.int b :: .int a :: st) w cn sn = (¬ b = 0 ∧ wp d 27 Q 29 L (.int (a - a / b * b) :: st) w cn sn) := wp_row d_27_28 _ _ _ _ _
theorem d_27_29 : decode (mB 27) 29 = .ok (.iaload, 1) := by decide +kernel
theorem s_27_29 {d : Nat} {Q : wQ} {L : List (Option Value)} {st : List Value} {w : aw} {cn sn : Nat} {a : Nat} {i : Int32} : wp d 27 Q 29 L (.int i :: .ref a :: st) w cn sn = ((kd w a = 20 ∨ kd w a = 30) ∧ inR i (ln w a) ∧ wp d 27 Q 30 L (.int (ai w a i.toNatClampNeg) :: st) w cn sn) := wp_row d_27_29 _ _ _ _ _
theorem d_27_30 : decode (mB 27) 30 = .ok (.ireturn, 1) := by decide +kernel
theorem s_27_30 {d : Nat} {Q : wQ} {L : List (Option Value)} {w : aw} {cn sn : Nat} {v : Int32} : wp d 27 Q 30 L [.int v] w cn sn = Q (some (.int v)) w := w_ireturn d_27_30 rfl
