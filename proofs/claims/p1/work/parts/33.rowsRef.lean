theorem d_117_0 : decode (mB 117) 0 = .ok (.aload_n 0, 1) := by decide +kernel
theorem s_117_0 {d : Nat} {Q : wQ} {L : List (Option Value)} {st : List Value} {w : aw} {cn sn : Nat} {v : Nat} : wp d 117 Q 0 (some (.ref v) :: L) st w cn sn = wp d 117 Q 1 (some (.ref v) :: L) (.ref v :: st) w cn sn := w_aload_n d_117_0 rfl
theorem d_117_1 : decode (mB 117) 1 = .ok (.getfield 39, 3) := by decide +kernel
theorem s_117_1 {d : Nat} {Q : wQ} {L : List (Option Value)} {st : List Value} {w : aw} {cn sn : Nat} {a : Nat} : wp d 117 Q 1 L (.ref a :: st) w cn sn = (kd w a = 9 ∧ wp d 117 Q 4 L (fd w 531 a :: st) w cn sn) := w_getfield d_117_1 (by decide +kernel : fT (mO 117) 39 = some (8, 19))
theorem d_117_4 : decode (mB 117) 4 = .ok (.iload_n 1, 1) := by decide +kernel
theorem s_117_4 {d : Nat} {Q : wQ} {L : List (Option Value)} {st : List Value} {w : aw} {cn sn : Nat} {a0 : Option Value} {v : Int32} : wp d 117 Q 4 (a0 :: some (.int v) :: L) st w cn sn = wp d 117 Q 5 (a0 :: some (.int v) :: L) (.int v :: st) w cn sn := w_iload_n d_117_4 rfl
theorem d_117_5 : decode (mB 117) 5 = .ok (.iconst 1, 1) := by decide +kernel
theorem s_117_5 {d : Nat} {Q : wQ} {L : List (Option Value)} {st : List Value} {w : aw} {cn sn : Nat}  : wp d 117 Q 5 L st w cn sn = wp d 117 Q 6 L (.int 1 :: st) w cn sn := w_iconst d_117_5 (by decide)
theorem d_117_6 : decode (mB 117) 6 = .ok (.iastore, 1) := by decide +kernel
theorem s_117_6 {d : Nat} {Q : wQ} {L : List (Option Value)} {st : List Value} {w : aw} {cn sn : Nat} {a : Nat} {i x : Int32} : wp d 117 Q 6 L (.int x :: .int i :: .ref a :: st) w cn sn = (kd w a = 20 ∧ inR i (ln w a) ∧ wp d 117 Q 7 L st (uA w a i.toNatClampNeg x) cn sn) := wp_row d_117_6 _ _ _ _ _
theorem d_117_7 : decode (mB 117) 7 = .ok (.aload_n 0, 1) := by decide +kernel
theorem s_117_7 {d : Nat} {Q : wQ} {L : List (Option Value)} {st : List Value} {w : aw} {cn sn : Nat} {v : Nat} : wp d 117 Q 7 (some (.ref v) :: L) st w cn sn = wp d 117 Q 8 (some (.ref v) :: L) (.ref v :: st) w cn sn := w_aload_n d_117_7 rfl
theorem d_117_8 : decode (mB 117) 8 = .ok (.getfield 16, 3) := by decide +kernel
theorem s_117_8 {d : Nat} {Q : wQ} {L : List (Option Value)} {st : List Value} {w : aw} {cn sn : Nat} {a : Nat} : wp d 117 Q 8 L (.ref a :: st) w cn sn = (kd w a = 9 ∧ wp d 117 Q 11 L (fd w 523 a :: st) w cn sn) := w_getfield d_117_8 (by decide +kernel : fT (mO 117) 16 = some (8, 11))
theorem d_117_11 : decode (mB 117) 11 = .ok (.aload_n 0, 1) := by decide +kernel
theorem s_117_11 {d : Nat} {Q : wQ} {L : List (Option Value)} {st : List Value} {w : aw} {cn sn : Nat} {v : Nat} : wp d 117 Q 11 (some (.ref v) :: L) st w cn sn = wp d 117 Q 12 (some (.ref v) :: L) (.ref v :: st) w cn sn := w_aload_n d_117_11 rfl
theorem d_117_12 : decode (mB 117) 12 = .ok (.getfield 156, 3) := by decide +kernel
theorem s_117_12 {d : Nat} {Q : wQ} {L : List (Option Value)} {st : List Value} {w : aw} {cn sn : Nat} {a : Nat} : wp d 117 Q 12 L (.ref a :: st) w cn sn = (kd w a = 9 ∧ wp d 117 Q 15 L (fd w 524 a :: st) w cn sn) := w_getfield d_117_12 (by decide +kernel : fT (mO 117) 156 = some (8, 12))
theorem d_117_15 : decode (mB 117) 15 = .ok (.iload_n 1, 1) := by decide +kernel
theorem s_117_15 {d : Nat} {Q : wQ} {L : List (Option Value)} {st : List Value} {w : aw} {cn sn : Nat} {a0 : Option Value} {v : Int32} : wp d 117 Q 15 (a0 :: some (.int v) :: L) st w cn sn = wp d 117 Q 16 (a0 :: some (.int v) :: L) (.int v :: st) w cn sn := w_iload_n d_117_15 rfl
theorem d_117_16 : decode (mB 117) 16 = .ok (.iastore, 1) := by decide +kernel
theorem s_117_16 {d : Nat} {Q : wQ} {L : List (Option Value)} {st : List Value} {w : aw} {cn sn : Nat} {a : Nat} {i x : Int32} : wp d 117 Q 16 L (.int x :: .int i :: .ref a :: st) w cn sn = (kd w a = 20 ∧ inR i (ln w a) ∧ wp d 117 Q 17 L st (uA w a i.toNatClampNeg x) cn sn) := wp_row d_117_16 _ _ _ _ _
theorem d_117_17 : decode (mB 117) 17 = .ok (.aload_n 0, 1) := by decide +kernel
theorem s_117_17 {d : Nat} {Q : wQ} {L : List (Option Value)} {st : List Value} {w : aw} {cn sn : Nat} {v : Nat} : wp d 117 Q 17 (some (.ref v) :: L) st w cn sn = wp d 117 Q 18 (some (.ref v) :: L) (.ref v :: st) w cn sn := w_aload_n d_117_17 rfl
theorem d_117_18 : decode (mB 117) 18 = .ok (.dup, 1) := by decide +kernel
theorem s_117_18 {d : Nat} {Q : wQ} {L : List (Option Value)} {st : List Value} {w : aw} {cn sn : Nat} {v : Value} : wp d 117 Q 18 L (v :: st) w cn sn = (v.category = 1 ∧ wp d 117 Q 19 L (v :: v :: st) w cn sn) := wp_row d_117_18 _ _ _ _ _
theorem d_117_19 : decode (mB 117) 19 = .ok (.getfield 156, 3) := by decide +kernel
theorem s_117_19 {d : Nat} {Q : wQ} {L : List (Option Value)} {st : List Value} {w : aw} {cn sn : Nat} {a : Nat} : wp d 117 Q 19 L (.ref a :: st) w cn sn = (kd w a = 9 ∧ wp d 117 Q 22 L (fd w 524 a :: st) w cn sn) := w_getfield d_117_19 (by decide +kernel : fT (mO 117) 156 = some (8, 12))
theorem d_117_22 : decode (mB 117) 22 = .ok (.iconst 1, 1) := by decide +kernel
theorem s_117_22 {d : Nat} {Q : wQ} {L : List (Option Value)} {st : List Value} {w : aw} {cn sn : Nat}  : wp d 117 Q 22 L st w cn sn = wp d 117 Q 23 L (.int 1 :: st) w cn sn := w_iconst d_117_22 (by decide)
theorem d_117_23 : decode (mB 117) 23 = .ok (.iadd, 1) := by decide +kernel
theorem s_117_23 {d : Nat} {Q : wQ} {L : List (Option Value)} {st : List Value} {w : aw} {cn sn : Nat} {a b : Int32} : wp d 117 Q 23 L (.int b :: .int a :: st) w cn sn = wp d 117 Q 24 L (.int (a + b) :: st) w cn sn := wp_row d_117_23 _ _ _ _ _
theorem d_117_24 : decode (mB 117) 24 = .ok (.putfield 156, 3) := by decide +kernel
theorem s_117_24 {d : Nat} {Q : wQ} {L : List (Option Value)} {st : List Value} {w : aw} {cn sn : Nat} {x : Int32} {a : Nat} : wp d 117 Q 24 L (.int x :: .ref a :: st) w cn sn = (kd w a = 9 ∧ wp d 117 Q 27 L st (uF w 524 a (.int x)) cn sn) := w_putfield d_117_24 (by decide +kernel : fT (mO 117) 156 = some (8, 12)) (by decide +kernel) ok_int
theorem d_117_27 : decode (mB 117) 27 = .ok (.return_, 1) := by decide +kernel
theorem s_117_27 {d : Nat} {Q : wQ} {L : List (Option Value)} {w : aw} {cn sn : Nat}  : wp d 117 Q 27 L [] w cn sn = Q none w := w_return d_117_27 rfl
theorem d_118_0 : decode (mB 118) 0 = .ok (.aload_n 0, 1) := by decide +kernel
theorem s_118_0 {d : Nat} {Q : wQ} {L : List (Option Value)} {st : List Value} {w : aw} {cn sn : Nat} {v : Nat} : wp d 118 Q 0 (some (.ref v) :: L) st w cn sn = wp d 118 Q 1 (some (.ref v) :: L) (.ref v :: st) w cn sn := w_aload_n d_118_0 rfl
theorem d_118_1 : decode (mB 118) 1 = .ok (.dup, 1) := by decide +kernel
theorem s_118_1 {d : Nat} {Q : wQ} {L : List (Option Value)} {st : List Value} {w : aw} {cn sn : Nat} {v : Value} : wp d 118 Q 1 L (v :: st) w cn sn = (v.category = 1 ∧ wp d 118 Q 2 L (v :: v :: st) w cn sn) := wp_row d_118_1 _ _ _ _ _
theorem d_118_2 : decode (mB 118) 2 = .ok (.getfield 159, 3) := by decide +kernel
theorem s_118_2 {d : Nat} {Q : wQ} {L : List (Option Value)} {st : List Value} {w : aw} {cn sn : Nat} {a : Nat} : wp d 118 Q 2 L (.ref a :: st) w cn sn = (kd w a = 9 ∧ wp d 118 Q 5 L (fd w 517 a :: st) w cn sn) := w_getfield d_118_2 (by decide +kernel : fT (mO 118) 159 = some (8, 5))
theorem d_118_5 : decode (mB 118) 5 = .ok (.iconst 1, 1) := by decide +kernel
theorem s_118_5 {d : Nat} {Q : wQ} {L : List (Option Value)} {st : List Value} {w : aw} {cn sn : Nat}  : wp d 118 Q 5 L st w cn sn = wp d 118 Q 6 L (.int 1 :: st) w cn sn := w_iconst d_118_5 (by decide)
theorem d_118_6 : decode (mB 118) 6 = .ok (.iadd, 1) := by decide +kernel
theorem s_118_6 {d : Nat} {Q : wQ} {L : List (Option Value)} {st : List Value} {w : aw} {cn sn : Nat} {a b : Int32} : wp d 118 Q 6 L (.int b :: .int a :: st) w cn sn = wp d 118 Q 7 L (.int (a + b) :: st) w cn sn := wp_row d_118_6 _ _ _ _ _
theorem d_118_7 : decode (mB 118) 7 = .ok (.putfield 159, 3) := by decide +kernel
theorem s_118_7 {d : Nat} {Q : wQ} {L : List (Option Value)} {st : List Value} {w : aw} {cn sn : Nat} {x : Int32} {a : Nat} : wp d 118 Q 7 L (.int x :: .ref a :: st) w cn sn = (kd w a = 9 ∧ wp d 118 Q 10 L st (uF w 517 a (.int x)) cn sn) := w_putfield d_118_7 (by decide +kernel : fT (mO 118) 159 = some (8, 5)) (by decide +kernel) ok_int
theorem d_118_10 : decode (mB 118) 10 = .ok (.iconst 0, 1) := by decide +kernel
theorem s_118_10 {d : Nat} {Q : wQ} {L : List (Option Value)} {st : List Value} {w : aw} {cn sn : Nat}  : wp d 118 Q 10 L st w cn sn = wp d 118 Q 11 L (.int 0 :: st) w cn sn := w_iconst d_118_10 (by decide)
theorem d_118_11 : decode (mB 118) 11 = .ok (.istore_n 1, 1) := by decide +kernel
theorem s_118_11 {d : Nat} {Q : wQ} {L : List (Option Value)} {st : List Value} {w : aw} {cn sn : Nat} {a0 a1 : Option Value} {v : Int32} : wp d 118 Q 11 (a0 :: a1 :: L) (.int v :: st) w cn sn = wp d 118 Q 12 (clr a0 :: some (.int v) :: L) st w cn sn := w_istore_n d_118_11 (Nat.le_add_left 2 _) rfl
theorem d_118_12 : decode (mB 118) 12 = .ok (.iload_n 1, 1) := by decide +kernel
theorem s_118_12 {d : Nat} {Q : wQ} {L : List (Option Value)} {st : List Value} {w : aw} {cn sn : Nat} {a0 : Option Value} {v : Int32} : wp d 118 Q 12 (a0 :: some (.int v) :: L) st w cn sn = wp d 118 Q 13 (a0 :: some (.int v) :: L) (.int v :: st) w cn sn := w_iload_n d_118_12 rfl
theorem d_118_13 : decode (mB 118) 13 = .ok (.aload_n 0, 1) := by decide +kernel
theorem s_118_13 {d : Nat} {Q : wQ} {L : List (Option Value)} {st : List Value} {w : aw} {cn sn : Nat} {v : Nat} : wp d 118 Q 13 (some (.ref v) :: L) st w cn sn = wp d 118 Q 14 (some (.ref v) :: L) (.ref v :: st) w cn sn := w_aload_n d_118_13 rfl
theorem d_118_14 : decode (mB 118) 14 = .ok (.getfield 108, 3) := by decide +kernel
theorem s_118_14 {d : Nat} {Q : wQ} {L : List (Option Value)} {st : List Value} {w : aw} {cn sn : Nat} {a : Nat} : wp d 118 Q 14 L (.ref a :: st) w cn sn = (kd w a = 9 ∧ wp d 118 Q 17 L (fd w 512 a :: st) w cn sn) := w_getfield d_118_14 (by decide +kernel : fT (mO 118) 108 = some (8, 0))
theorem d_118_17 : decode (mB 118) 17 = .ok (.if_icmp .ge 110, 3) := by decide +kernel
theorem s_118_17 {d : Nat} {Q : wQ} {L : List (Option Value)} {st : List Value} {w : aw} {cn sn : Nat} {a b : Int32} : wp d 118 Q 17 L (.int b :: .int a :: st) w cn sn = ((b ≤ a → wp d 118 Q 127 L st w cn sn) ∧ (¬ b ≤ a → wp d 118 Q 20 L st w cn sn)) := w_icge d_118_17 (by decide)
theorem d_118_20 : decode (mB 118) 20 = .ok (.aload_n 0, 1) := by decide +kernel
theorem s_118_20 {d : Nat} {Q : wQ} {L : List (Option Value)} {st : List Value} {w : aw} {cn sn : Nat} {v : Nat} : wp d 118 Q 20 (some (.ref v) :: L) st w cn sn = wp d 118 Q 21 (some (.ref v) :: L) (.ref v :: st) w cn sn := w_aload_n d_118_20 rfl
theorem d_118_21 : decode (mB 118) 21 = .ok (.getfield 63, 3) := by decide +kernel
theorem s_118_21 {d : Nat} {Q : wQ} {L : List (Option Value)} {st : List Value} {w : aw} {cn sn : Nat} {a : Nat} : wp d 118 Q 21 L (.ref a :: st) w cn sn = (kd w a = 9 ∧ wp d 118 Q 24 L (fd w 539 a :: st) w cn sn) := w_getfield d_118_21 (by decide +kernel : fT (mO 118) 63 = some (8, 27))
theorem d_118_24 : decode (mB 118) 24 = .ok (.iload_n 1, 1) := by decide +kernel
theorem s_118_24 {d : Nat} {Q : wQ} {L : List (Option Value)} {st : List Value} {w : aw} {cn sn : Nat} {a0 : Option Value} {v : Int32} : wp d 118 Q 24 (a0 :: some (.int v) :: L) st w cn sn = wp d 118 Q 25 (a0 :: some (.int v) :: L) (.int v :: st) w cn sn := w_iload_n d_118_24 rfl
theorem d_118_25 : decode (mB 118) 25 = .ok (.iaload, 1) := by decide +kernel
theorem s_118_25 {d : Nat} {Q : wQ} {L : List (Option Value)} {st : List Value} {w : aw} {cn sn : Nat} {a : Nat} {i : Int32} : wp d 118 Q 25 L (.int i :: .ref a :: st) w cn sn = ((kd w a = 20 ∨ kd w a = 30) ∧ inR i (ln w a) ∧ wp d 118 Q 26 L (.int (ai w a i.toNatClampNeg) :: st) w cn sn) := wp_row d_118_25 _ _ _ _ _
theorem d_118_26 : decode (mB 118) 26 = .ok (.ifCond .le 61, 3) := by decide +kernel
theorem s_118_26 {d : Nat} {Q : wQ} {L : List (Option Value)} {st : List Value} {w : aw} {cn sn : Nat} {x : Int32} : wp d 118 Q 26 L (.int x :: st) w cn sn = ((x ≤ 0 → wp d 118 Q 87 L st w cn sn) ∧ (¬ x ≤ 0 → wp d 118 Q 29 L st w cn sn)) := w_ifle d_118_26 (by decide)
theorem d_118_29 : decode (mB 118) 29 = .ok (.aload_n 0, 1) := by decide +kernel
theorem s_118_29 {d : Nat} {Q : wQ} {L : List (Option Value)} {st : List Value} {w : aw} {cn sn : Nat} {v : Nat} : wp d 118 Q 29 (some (.ref v) :: L) st w cn sn = wp d 118 Q 30 (some (.ref v) :: L) (.ref v :: st) w cn sn := w_aload_n d_118_29 rfl
theorem d_118_30 : decode (mB 118) 30 = .ok (.getfield 66, 3) := by decide +kernel
theorem s_118_30 {d : Nat} {Q : wQ} {L : List (Option Value)} {st : List Value} {w : aw} {cn sn : Nat} {a : Nat} : wp d 118 Q 30 L (.ref a :: st) w cn sn = (kd w a = 9 ∧ wp d 118 Q 33 L (fd w 540 a :: st) w cn sn) := w_getfield d_118_30 (by decide +kernel : fT (mO 118) 66 = some (8, 28))
theorem d_118_33 : decode (mB 118) 33 = .ok (.sipush 512, 3) := by decide +kernel
theorem s_118_33 {d : Nat} {Q : wQ} {L : List (Option Value)} {st : List Value} {w : aw} {cn sn : Nat}  : wp d 118 Q 33 L st w cn sn = wp d 118 Q 36 L (.int 512 :: st) w cn sn := w_sipush d_118_33 (by decide)
theorem d_118_36 : decode (mB 118) 36 = .ok (.iload_n 1, 1) := by decide +kernel
theorem s_118_36 {d : Nat} {Q : wQ} {L : List (Option Value)} {st : List Value} {w : aw} {cn sn : Nat} {a0 : Option Value} {v : Int32} : wp d 118 Q 36 (a0 :: some (.int v) :: L) st w cn sn = wp d 118 Q 37 (a0 :: some (.int v) :: L) (.int v :: st) w cn sn := w_iload_n d_118_36 rfl
theorem d_118_37 : decode (mB 118) 37 = .ok (.imul, 1) := by decide +kernel
theorem s_118_37 {d : Nat} {Q : wQ} {L : List (Option Value)} {st : List Value} {w : aw} {cn sn : Nat} {a b : Int32} : wp d 118 Q 37 L (.int b :: .int a :: st) w cn sn = wp d 118 Q 38 L (.int (a * b) :: st) w cn sn := wp_row d_118_37 _ _ _ _ _
theorem d_118_38 : decode (mB 118) 38 = .ok (.aload_n 0, 1) := by decide +kernel
theorem s_118_38 {d : Nat} {Q : wQ} {L : List (Option Value)} {st : List Value} {w : aw} {cn sn : Nat} {v : Nat} : wp d 118 Q 38 (some (.ref v) :: L) st w cn sn = wp d 118 Q 39 (some (.ref v) :: L) (.ref v :: st) w cn sn := w_aload_n d_118_38 rfl
theorem d_118_39 : decode (mB 118) 39 = .ok (.getfield 69, 3) := by decide +kernel
theorem s_118_39 {d : Nat} {Q : wQ} {L : List (Option Value)} {st : List Value} {w : aw} {cn sn : Nat} {a : Nat} : wp d 118 Q 39 L (.ref a :: st) w cn sn = (kd w a = 9 ∧ wp d 118 Q 42 L (fd w 541 a :: st) w cn sn) := w_getfield d_118_39 (by decide +kernel : fT (mO 118) 69 = some (8, 29))
theorem d_118_42 : decode (mB 118) 42 = .ok (.iload_n 1, 1) := by decide +kernel
theorem s_118_42 {d : Nat} {Q : wQ} {L : List (Option Value)} {st : List Value} {w : aw} {cn sn : Nat} {a0 : Option Value} {v : Int32} : wp d 118 Q 42 (a0 :: some (.int v) :: L) st w cn sn = wp d 118 Q 43 (a0 :: some (.int v) :: L) (.int v :: st) w cn sn := w_iload_n d_118_42 rfl
theorem d_118_43 : decode (mB 118) 43 = .ok (.iaload, 1) := by decide +kernel
theorem s_118_43 {d : Nat} {Q : wQ} {L : List (Option Value)} {st : List Value} {w : aw} {cn sn : Nat} {a : Nat} {i : Int32} : wp d 118 Q 43 L (.int i :: .ref a :: st) w cn sn = ((kd w a = 20 ∨ kd w a = 30) ∧ inR i (ln w a) ∧ wp d 118 Q 44 L (.int (ai w a i.toNatClampNeg) :: st) w cn sn) := wp_row d_118_43 _ _ _ _ _
theorem d_118_44 : decode (mB 118) 44 = .ok (.sipush 512, 3) := by decide +kernel
theorem s_118_44 {d : Nat} {Q : wQ} {L : List (Option Value)} {st : List Value} {w : aw} {cn sn : Nat}  : wp d 118 Q 44 L st w cn sn = wp d 118 Q 47 L (.int 512 :: st) w cn sn := w_sipush d_118_44 (by decide)
theorem d_118_47 : decode (mB 118) 47 = .ok (.irem, 1) := by decide +kernel
theorem s_118_47 {d : Nat} {Q : wQ} {L : List (Option Value)} {st : List Value} {w : aw} {cn sn : Nat} {a b : Int32} : wp d 118 Q 47 L (.int b :: .int a :: st) w cn sn = (¬ b = 0 ∧ wp d 118 Q 48 L (.int (a - a / b * b) :: st) w cn sn) := wp_row d_118_47 _ _ _ _ _
theorem d_118_48 : decode (mB 118) 48 = .ok (.iadd, 1) := by decide +kernel
theorem s_118_48 {d : Nat} {Q : wQ} {L : List (Option Value)} {st : List Value} {w : aw} {cn sn : Nat} {a b : Int32} : wp d 118 Q 48 L (.int b :: .int a :: st) w cn sn = wp d 118 Q 49 L (.int (a + b) :: st) w cn sn := wp_row d_118_48 _ _ _ _ _
theorem d_118_49 : decode (mB 118) 49 = .ok (.aload_n 0, 1) := by decide +kernel
theorem s_118_49 {d : Nat} {Q : wQ} {L : List (Option Value)} {st : List Value} {w : aw} {cn sn : Nat} {v : Nat} : wp d 118 Q 49 (some (.ref v) :: L) st w cn sn = wp d 118 Q 50 (some (.ref v) :: L) (.ref v :: st) w cn sn := w_aload_n d_118_49 rfl
theorem d_118_50 : decode (mB 118) 50 = .ok (.getfield 60, 3) := by decide +kernel
theorem s_118_50 {d : Nat} {Q : wQ} {L : List (Option Value)} {st : List Value} {w : aw} {cn sn : Nat} {a : Nat} : wp d 118 Q 50 L (.ref a :: st) w cn sn = (kd w a = 9 ∧ wp d 118 Q 53 L (fd w 538 a :: st) w cn sn) := w_getfield d_118_50 (by decide +kernel : fT (mO 118) 60 = some (8, 26))
theorem d_118_53 : decode (mB 118) 53 = .ok (.aload_n 0, 1) := by decide +kernel
theorem s_118_53 {d : Nat} {Q : wQ} {L : List (Option Value)} {st : List Value} {w : aw} {cn sn : Nat} {v : Nat} : wp d 118 Q 53 (some (.ref v) :: L) st w cn sn = wp d 118 Q 54 (some (.ref v) :: L) (.ref v :: st) w cn sn := w_aload_n d_118_53 rfl
theorem d_118_54 : decode (mB 118) 54 = .ok (.getfield 63, 3) := by decide +kernel
theorem s_118_54 {d : Nat} {Q : wQ} {L : List (Option Value)} {st : List Value} {w : aw} {cn sn : Nat} {a : Nat} : wp d 118 Q 54 L (.ref a :: st) w cn sn = (kd w a = 9 ∧ wp d 118 Q 57 L (fd w 539 a :: st) w cn sn) := w_getfield d_118_54 (by decide +kernel : fT (mO 118) 63 = some (8, 27))
theorem d_118_57 : decode (mB 118) 57 = .ok (.iload_n 1, 1) := by decide +kernel
theorem s_118_57 {d : Nat} {Q : wQ} {L : List (Option Value)} {st : List Value} {w : aw} {cn sn : Nat} {a0 : Option Value} {v : Int32} : wp d 118 Q 57 (a0 :: some (.int v) :: L) st w cn sn = wp d 118 Q 58 (a0 :: some (.int v) :: L) (.int v :: st) w cn sn := w_iload_n d_118_57 rfl
theorem d_118_58 : decode (mB 118) 58 = .ok (.invokestatic 146, 3) := by decide +kernel
theorem s_118_58 {d : Nat} {Q : wQ} {L : List (Option Value)} {st : List Value} {w : aw} {cn sn : Nat} {v0 v1 v2 : Value} : wp d 118 Q 58 L (v2 :: v1 :: v0 :: st) w cn sn = (catS st ≤ 8 ∧ wpD d 114 [v0, v1, v2] w (fun v w' => wp d 118 Q 61 L (v.toList ++ st) w' cn sn)) := w_static (As := [v0, v1, v2]) d_118_58 (by decide +kernel : cT (mO 118) 146 = some (2, 114)) rfl (by decide +kernel) rfl
theorem d_118_61 : decode (mB 118) 61 = .ok (.iastore, 1) := by decide +kernel
theorem s_118_61 {d : Nat} {Q : wQ} {L : List (Option Value)} {st : List Value} {w : aw} {cn sn : Nat} {a : Nat} {i x : Int32} : wp d 118 Q 61 L (.int x :: .int i :: .ref a :: st) w cn sn = (kd w a = 20 ∧ inR i (ln w a) ∧ wp d 118 Q 62 L st (uA w a i.toNatClampNeg x) cn sn) := wp_row d_118_61 _ _ _ _ _
theorem d_118_62 : decode (mB 118) 62 = .ok (.aload_n 0, 1) := by decide +kernel
theorem s_118_62 {d : Nat} {Q : wQ} {L : List (Option Value)} {st : List Value} {w : aw} {cn sn : Nat} {v : Nat} : wp d 118 Q 62 (some (.ref v) :: L) st w cn sn = wp d 118 Q 63 (some (.ref v) :: L) (.ref v :: st) w cn sn := w_aload_n d_118_62 rfl
theorem d_118_63 : decode (mB 118) 63 = .ok (.getfield 69, 3) := by decide +kernel
theorem s_118_63 {d : Nat} {Q : wQ} {L : List (Option Value)} {st : List Value} {w : aw} {cn sn : Nat} {a : Nat} : wp d 118 Q 63 L (.ref a :: st) w cn sn = (kd w a = 9 ∧ wp d 118 Q 66 L (fd w 541 a :: st) w cn sn) := w_getfield d_118_63 (by decide +kernel : fT (mO 118) 69 = some (8, 29))
theorem d_118_66 : decode (mB 118) 66 = .ok (.iload_n 1, 1) := by decide +kernel
theorem s_118_66 {d : Nat} {Q : wQ} {L : List (Option Value)} {st : List Value} {w : aw} {cn sn : Nat} {a0 : Option Value} {v : Int32} : wp d 118 Q 66 (a0 :: some (.int v) :: L) st w cn sn = wp d 118 Q 67 (a0 :: some (.int v) :: L) (.int v :: st) w cn sn := w_iload_n d_118_66 rfl
theorem d_118_67 : decode (mB 118) 67 = .ok (.dup2, 1) := by decide +kernel
theorem s_118_67 {d : Nat} {Q : wQ} {L : List (Option Value)} {st : List Value} {w : aw} {cn sn : Nat} {a b : Value} : wp d 118 Q 67 L (a :: b :: st) w cn sn = (a.category = 1 ∧ b.category = 1 ∧ wp d 118 Q 68 L (a :: b :: a :: b :: st) w cn sn) := wp_row d_118_67 _ _ _ _ _
theorem d_118_68 : decode (mB 118) 68 = .ok (.iaload, 1) := by decide +kernel
theorem s_118_68 {d : Nat} {Q : wQ} {L : List (Option Value)} {st : List Value} {w : aw} {cn sn : Nat} {a : Nat} {i : Int32} : wp d 118 Q 68 L (.int i :: .ref a :: st) w cn sn = ((kd w a = 20 ∨ kd w a = 30) ∧ inR i (ln w a) ∧ wp d 118 Q 69 L (.int (ai w a i.toNatClampNeg) :: st) w cn sn) := wp_row d_118_68 _ _ _ _ _
theorem d_118_69 : decode (mB 118) 69 = .ok (.iconst 1, 1) := by decide +kernel
theorem s_118_69 {d : Nat} {Q : wQ} {L : List (Option Value)} {st : List Value} {w : aw} {cn sn : Nat}  : wp d 118 Q 69 L st w cn sn = wp d 118 Q 70 L (.int 1 :: st) w cn sn := w_iconst d_118_69 (by decide)
theorem d_118_70 : decode (mB 118) 70 = .ok (.iadd, 1) := by decide +kernel
theorem s_118_70 {d : Nat} {Q : wQ} {L : List (Option Value)} {st : List Value} {w : aw} {cn sn : Nat} {a b : Int32} : wp d 118 Q 70 L (.int b :: .int a :: st) w cn sn = wp d 118 Q 71 L (.int (a + b) :: st) w cn sn := wp_row d_118_70 _ _ _ _ _
theorem d_118_71 : decode (mB 118) 71 = .ok (.iastore, 1) := by decide +kernel
theorem s_118_71 {d : Nat} {Q : wQ} {L : List (Option Value)} {st : List Value} {w : aw} {cn sn : Nat} {a : Nat} {i x : Int32} : wp d 118 Q 71 L (.int x :: .int i :: .ref a :: st) w cn sn = (kd w a = 20 ∧ inR i (ln w a) ∧ wp d 118 Q 72 L st (uA w a i.toNatClampNeg x) cn sn) := wp_row d_118_71 _ _ _ _ _
theorem d_118_72 : decode (mB 118) 72 = .ok (.aload_n 0, 1) := by decide +kernel
theorem s_118_72 {d : Nat} {Q : wQ} {L : List (Option Value)} {st : List Value} {w : aw} {cn sn : Nat} {v : Nat} : wp d 118 Q 72 (some (.ref v) :: L) st w cn sn = wp d 118 Q 73 (some (.ref v) :: L) (.ref v :: st) w cn sn := w_aload_n d_118_72 rfl
theorem d_118_73 : decode (mB 118) 73 = .ok (.getfield 39, 3) := by decide +kernel
theorem s_118_73 {d : Nat} {Q : wQ} {L : List (Option Value)} {st : List Value} {w : aw} {cn sn : Nat} {a : Nat} : wp d 118 Q 73 L (.ref a :: st) w cn sn = (kd w a = 9 ∧ wp d 118 Q 76 L (fd w 531 a :: st) w cn sn) := w_getfield d_118_73 (by decide +kernel : fT (mO 118) 39 = some (8, 19))
theorem d_118_76 : decode (mB 118) 76 = .ok (.iload_n 1, 1) := by decide +kernel
theorem s_118_76 {d : Nat} {Q : wQ} {L : List (Option Value)} {st : List Value} {w : aw} {cn sn : Nat} {a0 : Option Value} {v : Int32} : wp d 118 Q 76 (a0 :: some (.int v) :: L) st w cn sn = wp d 118 Q 77 (a0 :: some (.int v) :: L) (.int v :: st) w cn sn := w_iload_n d_118_76 rfl
theorem d_118_77 : decode (mB 118) 77 = .ok (.iaload, 1) := by decide +kernel
theorem s_118_77 {d : Nat} {Q : wQ} {L : List (Option Value)} {st : List Value} {w : aw} {cn sn : Nat} {a : Nat} {i : Int32} : wp d 118 Q 77 L (.int i :: .ref a :: st) w cn sn = ((kd w a = 20 ∨ kd w a = 30) ∧ inR i (ln w a) ∧ wp d 118 Q 78 L (.int (ai w a i.toNatClampNeg) :: st) w cn sn) := wp_row d_118_77 _ _ _ _ _
theorem d_118_78 : decode (mB 118) 78 = .ok (.iconst 4, 1) := by decide +kernel
theorem s_118_78 {d : Nat} {Q : wQ} {L : List (Option Value)} {st : List Value} {w : aw} {cn sn : Nat}  : wp d 118 Q 78 L st w cn sn = wp d 118 Q 79 L (.int 4 :: st) w cn sn := w_iconst d_118_78 (by decide)
theorem d_118_79 : decode (mB 118) 79 = .ok (.if_icmp .ne 8, 3) := by decide +kernel
theorem s_118_79 {d : Nat} {Q : wQ} {L : List (Option Value)} {st : List Value} {w : aw} {cn sn : Nat} {a b : Int32} : wp d 118 Q 79 L (.int b :: .int a :: st) w cn sn = ((¬ a = b → wp d 118 Q 87 L st w cn sn) ∧ (a = b → wp d 118 Q 82 L st w cn sn)) := w_icne d_118_79 (by decide)
theorem d_118_82 : decode (mB 118) 82 = .ok (.aload_n 0, 1) := by decide +kernel
theorem s_118_82 {d : Nat} {Q : wQ} {L : List (Option Value)} {st : List Value} {w : aw} {cn sn : Nat} {v : Nat} : wp d 118 Q 82 (some (.ref v) :: L) st w cn sn = wp d 118 Q 83 (some (.ref v) :: L) (.ref v :: st) w cn sn := w_aload_n d_118_82 rfl
theorem d_118_83 : decode (mB 118) 83 = .ok (.iload_n 1, 1) := by decide +kernel
theorem s_118_83 {d : Nat} {Q : wQ} {L : List (Option Value)} {st : List Value} {w : aw} {cn sn : Nat} {a0 : Option Value} {v : Int32} : wp d 118 Q 83 (a0 :: some (.int v) :: L) st w cn sn = wp d 118 Q 84 (a0 :: some (.int v) :: L) (.int v :: st) w cn sn := w_iload_n d_118_83 rfl
theorem d_118_84 : decode (mB 118) 84 = .ok (.invokevirtual 162, 3) := by decide +kernel
theorem s_118_84 {d : Nat} {Q : wQ} {L : List (Option Value)} {st : List Value} {w : aw} {cn sn : Nat} {v0 : Value} {b : Nat} : wp d 118 Q 84 L (v0 :: .ref b :: st) w cn sn = (kd w b = 9 ∧ catS st ≤ 8 ∧ wpD d 117 [.ref b, v0] w (fun v w' => wp d 118 Q 87 L (v.toList ++ st) w' cn sn)) := w_virtual (As := [v0]) d_118_84 (by decide +kernel : cT (mO 118) 162 = some (0, 117)) rfl (by decide +kernel) rfl (by decide +kernel) rfl
theorem d_118_87 : decode (mB 118) 87 = .ok (.aload_n 0, 1) := by decide +kernel
theorem s_118_87 {d : Nat} {Q : wQ} {L : List (Option Value)} {st : List Value} {w : aw} {cn sn : Nat} {v : Nat} : wp d 118 Q 87 (some (.ref v) :: L) st w cn sn = wp d 118 Q 88 (some (.ref v) :: L) (.ref v :: st) w cn sn := w_aload_n d_118_87 rfl
theorem d_118_88 : decode (mB 118) 88 = .ok (.getfield 39, 3) := by decide +kernel
theorem s_118_88 {d : Nat} {Q : wQ} {L : List (Option Value)} {st : List Value} {w : aw} {cn sn : Nat} {a : Nat} : wp d 118 Q 88 L (.ref a :: st) w cn sn = (kd w a = 9 ∧ wp d 118 Q 91 L (fd w 531 a :: st) w cn sn) := w_getfield d_118_88 (by decide +kernel : fT (mO 118) 39 = some (8, 19))
theorem d_118_91 : decode (mB 118) 91 = .ok (.iload_n 1, 1) := by decide +kernel
theorem s_118_91 {d : Nat} {Q : wQ} {L : List (Option Value)} {st : List Value} {w : aw} {cn sn : Nat} {a0 : Option Value} {v : Int32} : wp d 118 Q 91 (a0 :: some (.int v) :: L) st w cn sn = wp d 118 Q 92 (a0 :: some (.int v) :: L) (.int v :: st) w cn sn := w_iload_n d_118_91 rfl
theorem d_118_92 : decode (mB 118) 92 = .ok (.iaload, 1) := by decide +kernel
theorem s_118_92 {d : Nat} {Q : wQ} {L : List (Option Value)} {st : List Value} {w : aw} {cn sn : Nat} {a : Nat} {i : Int32} : wp d 118 Q 92 L (.int i :: .ref a :: st) w cn sn = ((kd w a = 20 ∨ kd w a = 30) ∧ inR i (ln w a) ∧ wp d 118 Q 93 L (.int (ai w a i.toNatClampNeg) :: st) w cn sn) := wp_row d_118_92 _ _ _ _ _
theorem d_118_93 : decode (mB 118) 93 = .ok (.iconst 5, 1) := by decide +kernel
theorem s_118_93 {d : Nat} {Q : wQ} {L : List (Option Value)} {st : List Value} {w : aw} {cn sn : Nat}  : wp d 118 Q 93 L st w cn sn = wp d 118 Q 94 L (.int 5 :: st) w cn sn := w_iconst d_118_93 (by decide)
theorem d_118_94 : decode (mB 118) 94 = .ok (.if_icmp .ne 27, 3) := by decide +kernel
theorem s_118_94 {d : Nat} {Q : wQ} {L : List (Option Value)} {st : List Value} {w : aw} {cn sn : Nat} {a b : Int32} : wp d 118 Q 94 L (.int b :: .int a :: st) w cn sn = ((¬ a = b → wp d 118 Q 121 L st w cn sn) ∧ (a = b → wp d 118 Q 97 L st w cn sn)) := w_icne d_118_94 (by decide)
theorem d_118_97 : decode (mB 118) 97 = .ok (.aload_n 0, 1) := by decide +kernel
theorem s_118_97 {d : Nat} {Q : wQ} {L : List (Option Value)} {st : List Value} {w : aw} {cn sn : Nat} {v : Nat} : wp d 118 Q 97 (some (.ref v) :: L) st w cn sn = wp d 118 Q 98 (some (.ref v) :: L) (.ref v :: st) w cn sn := w_aload_n d_118_97 rfl
theorem d_118_98 : decode (mB 118) 98 = .ok (.getfield 42, 3) := by decide +kernel
theorem s_118_98 {d : Nat} {Q : wQ} {L : List (Option Value)} {st : List Value} {w : aw} {cn sn : Nat} {a : Nat} : wp d 118 Q 98 L (.ref a :: st) w cn sn = (kd w a = 9 ∧ wp d 118 Q 101 L (fd w 532 a :: st) w cn sn) := w_getfield d_118_98 (by decide +kernel : fT (mO 118) 42 = some (8, 20))
theorem d_118_101 : decode (mB 118) 101 = .ok (.iload_n 1, 1) := by decide +kernel
theorem s_118_101 {d : Nat} {Q : wQ} {L : List (Option Value)} {st : List Value} {w : aw} {cn sn : Nat} {a0 : Option Value} {v : Int32} : wp d 118 Q 101 (a0 :: some (.int v) :: L) st w cn sn = wp d 118 Q 102 (a0 :: some (.int v) :: L) (.int v :: st) w cn sn := w_iload_n d_118_101 rfl
theorem d_118_102 : decode (mB 118) 102 = .ok (.dup2, 1) := by decide +kernel
theorem s_118_102 {d : Nat} {Q : wQ} {L : List (Option Value)} {st : List Value} {w : aw} {cn sn : Nat} {a b : Value} : wp d 118 Q 102 L (a :: b :: st) w cn sn = (a.category = 1 ∧ b.category = 1 ∧ wp d 118 Q 103 L (a :: b :: a :: b :: st) w cn sn) := wp_row d_118_102 _ _ _ _ _
theorem d_118_103 : decode (mB 118) 103 = .ok (.iaload, 1) := by decide +kernel
theorem s_118_103 {d : Nat} {Q : wQ} {L : List (Option Value)} {st : List Value} {w : aw} {cn sn : Nat} {a : Nat} {i : Int32} : wp d 118 Q 103 L (.int i :: .ref a :: st) w cn sn = ((kd w a = 20 ∨ kd w a = 30) ∧ inR i (ln w a) ∧ wp d 118 Q 104 L (.int (ai w a i.toNatClampNeg) :: st) w cn sn) := wp_row d_118_103 _ _ _ _ _
theorem d_118_104 : decode (mB 118) 104 = .ok (.iconst 1, 1) := by decide +kernel
theorem s_118_104 {d : Nat} {Q : wQ} {L : List (Option Value)} {st : List Value} {w : aw} {cn sn : Nat}  : wp d 118 Q 104 L st w cn sn = wp d 118 Q 105 L (.int 1 :: st) w cn sn := w_iconst d_118_104 (by decide)
theorem d_118_105 : decode (mB 118) 105 = .ok (.isub, 1) := by decide +kernel
theorem s_118_105 {d : Nat} {Q : wQ} {L : List (Option Value)} {st : List Value} {w : aw} {cn sn : Nat} {a b : Int32} : wp d 118 Q 105 L (.int b :: .int a :: st) w cn sn = wp d 118 Q 106 L (.int (a - b) :: st) w cn sn := wp_row d_118_105 _ _ _ _ _
theorem d_118_106 : decode (mB 118) 106 = .ok (.iastore, 1) := by decide +kernel
theorem s_118_106 {d : Nat} {Q : wQ} {L : List (Option Value)} {st : List Value} {w : aw} {cn sn : Nat} {a : Nat} {i x : Int32} : wp d 118 Q 106 L (.int x :: .int i :: .ref a :: st) w cn sn = (kd w a = 20 ∧ inR i (ln w a) ∧ wp d 118 Q 107 L st (uA w a i.toNatClampNeg x) cn sn) := wp_row d_118_106 _ _ _ _ _
theorem d_118_107 : decode (mB 118) 107 = .ok (.aload_n 0, 1) := by decide +kernel
theorem s_118_107 {d : Nat} {Q : wQ} {L : List (Option Value)} {st : List Value} {w : aw} {cn sn : Nat} {v : Nat} : wp d 118 Q 107 (some (.ref v) :: L) st w cn sn = wp d 118 Q 108 (some (.ref v) :: L) (.ref v :: st) w cn sn := w_aload_n d_118_107 rfl
theorem d_118_108 : decode (mB 118) 108 = .ok (.getfield 42, 3) := by decide +kernel
theorem s_118_108 {d : Nat} {Q : wQ} {L : List (Option Value)} {st : List Value} {w : aw} {cn sn : Nat} {a : Nat} : wp d 118 Q 108 L (.ref a :: st) w cn sn = (kd w a = 9 ∧ wp d 118 Q 111 L (fd w 532 a :: st) w cn sn) := w_getfield d_118_108 (by decide +kernel : fT (mO 118) 42 = some (8, 20))
theorem d_118_111 : decode (mB 118) 111 = .ok (.iload_n 1, 1) := by decide +kernel
theorem s_118_111 {d : Nat} {Q : wQ} {L : List (Option Value)} {st : List Value} {w : aw} {cn sn : Nat} {a0 : Option Value} {v : Int32} : wp d 118 Q 111 (a0 :: some (.int v) :: L) st w cn sn = wp d 118 Q 112 (a0 :: some (.int v) :: L) (.int v :: st) w cn sn := w_iload_n d_118_111 rfl
theorem d_118_112 : decode (mB 118) 112 = .ok (.iaload, 1) := by decide +kernel
theorem s_118_112 {d : Nat} {Q : wQ} {L : List (Option Value)} {st : List Value} {w : aw} {cn sn : Nat} {a : Nat} {i : Int32} : wp d 118 Q 112 L (.int i :: .ref a :: st) w cn sn = ((kd w a = 20 ∨ kd w a = 30) ∧ inR i (ln w a) ∧ wp d 118 Q 113 L (.int (ai w a i.toNatClampNeg) :: st) w cn sn) := wp_row d_118_112 _ _ _ _ _
theorem d_118_113 : decode (mB 118) 113 = .ok (.ifCond .ne 8, 3) := by decide +kernel
theorem s_118_113 {d : Nat} {Q : wQ} {L : List (Option Value)} {st : List Value} {w : aw} {cn sn : Nat} {x : Int32} : wp d 118 Q 113 L (.int x :: st) w cn sn = ((¬ x = 0 → wp d 118 Q 121 L st w cn sn) ∧ (x = 0 → wp d 118 Q 116 L st w cn sn)) := w_ifne d_118_113 (by decide)
theorem d_118_116 : decode (mB 118) 116 = .ok (.aload_n 0, 1) := by decide +kernel
theorem s_118_116 {d : Nat} {Q : wQ} {L : List (Option Value)} {st : List Value} {w : aw} {cn sn : Nat} {v : Nat} : wp d 118 Q 116 (some (.ref v) :: L) st w cn sn = wp d 118 Q 117 (some (.ref v) :: L) (.ref v :: st) w cn sn := w_aload_n d_118_116 rfl
theorem d_118_117 : decode (mB 118) 117 = .ok (.iload_n 1, 1) := by decide +kernel
theorem s_118_117 {d : Nat} {Q : wQ} {L : List (Option Value)} {st : List Value} {w : aw} {cn sn : Nat} {a0 : Option Value} {v : Int32} : wp d 118 Q 117 (a0 :: some (.int v) :: L) st w cn sn = wp d 118 Q 118 (a0 :: some (.int v) :: L) (.int v :: st) w cn sn := w_iload_n d_118_117 rfl
theorem d_118_118 : decode (mB 118) 118 = .ok (.invokevirtual 162, 3) := by decide +kernel
theorem s_118_118 {d : Nat} {Q : wQ} {L : List (Option Value)} {st : List Value} {w : aw} {cn sn : Nat} {v0 : Value} {b : Nat} : wp d 118 Q 118 L (v0 :: .ref b :: st) w cn sn = (kd w b = 9 ∧ catS st ≤ 8 ∧ wpD d 117 [.ref b, v0] w (fun v w' => wp d 118 Q 121 L (v.toList ++ st) w' cn sn)) := w_virtual (As := [v0]) d_118_118 (by decide +kernel : cT (mO 118) 162 = some (0, 117)) rfl (by decide +kernel) rfl (by decide +kernel) rfl
theorem d_118_121 : decode (mB 118) 121 = .ok (.iinc 1 1, 3) := by decide +kernel
theorem s_118_121 {d : Nat} {Q : wQ} {L : List (Option Value)} {st : List Value} {w : aw} {cn sn : Nat} {a0 : Option Value} {v : Int32} : wp d 118 Q 121 (a0 :: some (.int v) :: L) st w cn sn = wp d 118 Q 124 (clr a0 :: some (.int (v + 1)) :: L) st w cn sn := w_iinc d_118_121 rfl (by decide) rfl
theorem d_118_124 : decode (mB 118) 124 = .ok (.goto (-112), 3) := by decide +kernel
theorem s_118_124 {d : Nat} {Q : wQ} {L : List (Option Value)} {st : List Value} {w : aw} {cn sn : Nat}  : wp d 118 Q 124 L st w cn sn = wp d 118 Q 12 L st w cn sn := w_goto d_118_124 (by decide)
theorem d_118_127 : decode (mB 118) 127 = .ok (.aload_n 0, 1) := by decide +kernel
theorem s_118_127 {d : Nat} {Q : wQ} {L : List (Option Value)} {st : List Value} {w : aw} {cn sn : Nat} {v : Nat} : wp d 118 Q 127 (some (.ref v) :: L) st w cn sn = wp d 118 Q 128 (some (.ref v) :: L) (.ref v :: st) w cn sn := w_aload_n d_118_127 rfl
theorem d_118_128 : decode (mB 118) 128 = .ok (.getfield 13, 3) := by decide +kernel
theorem s_118_128 {d : Nat} {Q : wQ} {L : List (Option Value)} {st : List Value} {w : aw} {cn sn : Nat} {a : Nat} : wp d 118 Q 128 L (.ref a :: st) w cn sn = (kd w a = 9 ∧ wp d 118 Q 131 L (fd w 521 a :: st) w cn sn) := w_getfield d_118_128 (by decide +kernel : fT (mO 118) 13 = some (8, 9))
theorem d_118_131 : decode (mB 118) 131 = .ok (.ifCond .ge 4, 3) := by decide +kernel
theorem s_118_131 {d : Nat} {Q : wQ} {L : List (Option Value)} {st : List Value} {w : aw} {cn sn : Nat} {x : Int32} : wp d 118 Q 131 L (.int x :: st) w cn sn = ((0 ≤ x → wp d 118 Q 135 L st w cn sn) ∧ (¬ 0 ≤ x → wp d 118 Q 134 L st w cn sn)) := w_ifge d_118_131 (by decide)
theorem d_118_134 : decode (mB 118) 134 = .ok (.return_, 1) := by decide +kernel
theorem s_118_134 {d : Nat} {Q : wQ} {L : List (Option Value)} {w : aw} {cn sn : Nat}  : wp d 118 Q 134 L [] w cn sn = Q none w := w_return d_118_134 rfl
theorem d_118_135 : decode (mB 118) 135 = .ok (.aload_n 0, 1) := by decide +kernel
theorem s_118_135 {d : Nat} {Q : wQ} {L : List (Option Value)} {st : List Value} {w : aw} {cn sn : Nat} {v : Nat} : wp d 118 Q 135 (some (.ref v) :: L) st w cn sn = wp d 118 Q 136 (some (.ref v) :: L) (.ref v :: st) w cn sn := w_aload_n d_118_135 rfl
theorem d_118_136 : decode (mB 118) 136 = .ok (.dup, 1) := by decide +kernel
theorem s_118_136 {d : Nat} {Q : wQ} {L : List (Option Value)} {st : List Value} {w : aw} {cn sn : Nat} {v : Value} : wp d 118 Q 136 L (v :: st) w cn sn = (v.category = 1 ∧ wp d 118 Q 137 L (v :: v :: st) w cn sn) := wp_row d_118_136 _ _ _ _ _
theorem d_118_137 : decode (mB 118) 137 = .ok (.getfield 153, 3) := by decide +kernel
theorem s_118_137 {d : Nat} {Q : wQ} {L : List (Option Value)} {st : List Value} {w : aw} {cn sn : Nat} {a : Nat} : wp d 118 Q 137 L (.ref a :: st) w cn sn = (kd w a = 9 ∧ wp d 118 Q 140 L (fd w 522 a :: st) w cn sn) := w_getfield d_118_137 (by decide +kernel : fT (mO 118) 153 = some (8, 10))
theorem d_118_140 : decode (mB 118) 140 = .ok (.iconst 1, 1) := by decide +kernel
theorem s_118_140 {d : Nat} {Q : wQ} {L : List (Option Value)} {st : List Value} {w : aw} {cn sn : Nat}  : wp d 118 Q 140 L st w cn sn = wp d 118 Q 141 L (.int 1 :: st) w cn sn := w_iconst d_118_140 (by decide)
theorem d_118_141 : decode (mB 118) 141 = .ok (.isub, 1) := by decide +kernel
theorem s_118_141 {d : Nat} {Q : wQ} {L : List (Option Value)} {st : List Value} {w : aw} {cn sn : Nat} {a b : Int32} : wp d 118 Q 141 L (.int b :: .int a :: st) w cn sn = wp d 118 Q 142 L (.int (a - b) :: st) w cn sn := wp_row d_118_141 _ _ _ _ _
theorem d_118_142 : decode (mB 118) 142 = .ok (.putfield 153, 3) := by decide +kernel
theorem s_118_142 {d : Nat} {Q : wQ} {L : List (Option Value)} {st : List Value} {w : aw} {cn sn : Nat} {x : Int32} {a : Nat} : wp d 118 Q 142 L (.int x :: .ref a :: st) w cn sn = (kd w a = 9 ∧ wp d 118 Q 145 L st (uF w 522 a (.int x)) cn sn) := w_putfield d_118_142 (by decide +kernel : fT (mO 118) 153 = some (8, 10)) (by decide +kernel) ok_int
theorem d_118_145 : decode (mB 118) 145 = .ok (.aload_n 0, 1) := by decide +kernel
theorem s_118_145 {d : Nat} {Q : wQ} {L : List (Option Value)} {st : List Value} {w : aw} {cn sn : Nat} {v : Nat} : wp d 118 Q 145 (some (.ref v) :: L) st w cn sn = wp d 118 Q 146 (some (.ref v) :: L) (.ref v :: st) w cn sn := w_aload_n d_118_145 rfl
theorem d_118_146 : decode (mB 118) 146 = .ok (.getfield 153, 3) := by decide +kernel
theorem s_118_146 {d : Nat} {Q : wQ} {L : List (Option Value)} {st : List Value} {w : aw} {cn sn : Nat} {a : Nat} : wp d 118 Q 146 L (.ref a :: st) w cn sn = (kd w a = 9 ∧ wp d 118 Q 149 L (fd w 522 a :: st) w cn sn) := w_getfield d_118_146 (by decide +kernel : fT (mO 118) 153 = some (8, 10))
theorem d_118_149 : decode (mB 118) 149 = .ok (.ifCond .le 4, 3) := by decide +kernel
theorem s_118_149 {d : Nat} {Q : wQ} {L : List (Option Value)} {st : List Value} {w : aw} {cn sn : Nat} {x : Int32} : wp d 118 Q 149 L (.int x :: st) w cn sn = ((x ≤ 0 → wp d 118 Q 153 L st w cn sn) ∧ (¬ x ≤ 0 → wp d 118 Q 152 L st w cn sn)) := w_ifle d_118_149 (by decide)
theorem d_118_152 : decode (mB 118) 152 = .ok (.return_, 1) := by decide +kernel
theorem s_118_152 {d : Nat} {Q : wQ} {L : List (Option Value)} {w : aw} {cn sn : Nat}  : wp d 118 Q 152 L [] w cn sn = Q none w := w_return d_118_152 rfl
theorem d_118_153 : decode (mB 118) 153 = .ok (.aload_n 0, 1) := by decide +kernel
theorem s_118_153 {d : Nat} {Q : wQ} {L : List (Option Value)} {st : List Value} {w : aw} {cn sn : Nat} {v : Nat} : wp d 118 Q 153 (some (.ref v) :: L) st w cn sn = wp d 118 Q 154 (some (.ref v) :: L) (.ref v :: st) w cn sn := w_aload_n d_118_153 rfl
theorem d_118_154 : decode (mB 118) 154 = .ok (.getfield 13, 3) := by decide +kernel
theorem s_118_154 {d : Nat} {Q : wQ} {L : List (Option Value)} {st : List Value} {w : aw} {cn sn : Nat} {a : Nat} : wp d 118 Q 154 L (.ref a :: st) w cn sn = (kd w a = 9 ∧ wp d 118 Q 157 L (fd w 521 a :: st) w cn sn) := w_getfield d_118_154 (by decide +kernel : fT (mO 118) 13 = some (8, 9))
theorem d_118_157 : decode (mB 118) 157 = .ok (.istore_n 1, 1) := by decide +kernel
theorem s_118_157 {d : Nat} {Q : wQ} {L : List (Option Value)} {st : List Value} {w : aw} {cn sn : Nat} {a0 a1 : Option Value} {v : Int32} : wp d 118 Q 157 (a0 :: a1 :: L) (.int v :: st) w cn sn = wp d 118 Q 158 (clr a0 :: some (.int v) :: L) st w cn sn := w_istore_n d_118_157 (Nat.le_add_left 2 _) rfl
theorem d_118_158 : decode (mB 118) 158 = .ok (.aload_n 0, 1) := by decide +kernel
theorem s_118_158 {d : Nat} {Q : wQ} {L : List (Option Value)} {st : List Value} {w : aw} {cn sn : Nat} {v : Nat} : wp d 118 Q 158 (some (.ref v) :: L) st w cn sn = wp d 118 Q 159 (some (.ref v) :: L) (.ref v :: st) w cn sn := w_aload_n d_118_158 rfl
theorem d_118_159 : decode (mB 118) 159 = .ok (.iload_n 1, 1) := by decide +kernel
theorem s_118_159 {d : Nat} {Q : wQ} {L : List (Option Value)} {st : List Value} {w : aw} {cn sn : Nat} {a0 : Option Value} {v : Int32} : wp d 118 Q 159 (a0 :: some (.int v) :: L) st w cn sn = wp d 118 Q 160 (a0 :: some (.int v) :: L) (.int v :: st) w cn sn := w_iload_n d_118_159 rfl
theorem d_118_160 : decode (mB 118) 160 = .ok (.iconst 1, 1) := by decide +kernel
theorem s_118_160 {d : Nat} {Q : wQ} {L : List (Option Value)} {st : List Value} {w : aw} {cn sn : Nat}  : wp d 118 Q 160 L st w cn sn = wp d 118 Q 161 L (.int 1 :: st) w cn sn := w_iconst d_118_160 (by decide)
theorem d_118_161 : decode (mB 118) 161 = .ok (.invokevirtual 143, 3) := by decide +kernel
theorem s_118_161 {d : Nat} {Q : wQ} {L : List (Option Value)} {st : List Value} {w : aw} {cn sn : Nat} {v0 v1 : Value} {b : Nat} : wp d 118 Q 161 L (v1 :: v0 :: .ref b :: st) w cn sn = (kd w b = 9 ∧ catS st ≤ 8 ∧ wpD d 116 [.ref b, v0, v1] w (fun v w' => wp d 118 Q 164 L (v.toList ++ st) w' cn sn)) := w_virtual (As := [v0, v1]) d_118_161 (by decide +kernel : cT (mO 118) 143 = some (0, 116)) rfl (by decide +kernel) rfl (by decide +kernel) rfl
theorem d_118_164 : decode (mB 118) 164 = .ok (.aload_n 0, 1) := by decide +kernel
theorem s_118_164 {d : Nat} {Q : wQ} {L : List (Option Value)} {st : List Value} {w : aw} {cn sn : Nat} {v : Nat} : wp d 118 Q 164 (some (.ref v) :: L) st w cn sn = wp d 118 Q 165 (some (.ref v) :: L) (.ref v :: st) w cn sn := w_aload_n d_118_164 rfl
theorem d_118_165 : decode (mB 118) 165 = .ok (.iload_n 1, 1) := by decide +kernel
theorem s_118_165 {d : Nat} {Q : wQ} {L : List (Option Value)} {st : List Value} {w : aw} {cn sn : Nat} {a0 : Option Value} {v : Int32} : wp d 118 Q 165 (a0 :: some (.int v) :: L) st w cn sn = wp d 118 Q 166 (a0 :: some (.int v) :: L) (.int v :: st) w cn sn := w_iload_n d_118_165 rfl
theorem d_118_166 : decode (mB 118) 166 = .ok (.invokevirtual 162, 3) := by decide +kernel
theorem s_118_166 {d : Nat} {Q : wQ} {L : List (Option Value)} {st : List Value} {w : aw} {cn sn : Nat} {v0 : Value} {b : Nat} : wp d 118 Q 166 L (v0 :: .ref b :: st) w cn sn = (kd w b = 9 ∧ catS st ≤ 8 ∧ wpD d 117 [.ref b, v0] w (fun v w' => wp d 118 Q 169 L (v.toList ++ st) w' cn sn)) := w_virtual (As := [v0]) d_118_166 (by decide +kernel : cT (mO 118) 162 = some (0, 117)) rfl (by decide +kernel) rfl (by decide +kernel) rfl
theorem d_118_169 : decode (mB 118) 169 = .ok (.return_, 1) := by decide +kernel
theorem s_118_169 {d : Nat} {Q : wQ} {L : List (Option Value)} {w : aw} {cn sn : Nat}  : wp d 118 Q 169 L [] w cn sn = Q none w := w_return d_118_169 rfl
theorem d_119_0 : decode (mB 119) 0 = .ok (.aload_n 0, 1) := by decide +kernel
theorem s_119_0 {d : Nat} {Q : wQ} {L : List (Option Value)} {st : List Value} {w : aw} {cn sn : Nat} {v : Nat} : wp d 119 Q 0 (some (.ref v) :: L) st w cn sn = wp d 119 Q 1 (some (.ref v) :: L) (.ref v :: st) w cn sn := w_aload_n d_119_0 rfl
theorem d_119_1 : decode (mB 119) 1 = .ok (.getfield 13, 3) := by decide +kernel
theorem s_119_1 {d : Nat} {Q : wQ} {L : List (Option Value)} {st : List Value} {w : aw} {cn sn : Nat} {a : Nat} : wp d 119 Q 1 L (.ref a :: st) w cn sn = (kd w a = 9 ∧ wp d 119 Q 4 L (fd w 521 a :: st) w cn sn) := w_getfield d_119_1 (by decide +kernel : fT (mO 119) 13 = some (8, 9))
theorem d_119_4 : decode (mB 119) 4 = .ok (.ifCond .ge 10, 3) := by decide +kernel
theorem s_119_4 {d : Nat} {Q : wQ} {L : List (Option Value)} {st : List Value} {w : aw} {cn sn : Nat} {x : Int32} : wp d 119 Q 4 L (.int x :: st) w cn sn = ((0 ≤ x → wp d 119 Q 14 L st w cn sn) ∧ (¬ 0 ≤ x → wp d 119 Q 7 L st w cn sn)) := w_ifge d_119_4 (by decide)
theorem d_119_7 : decode (mB 119) 7 = .ok (.aload_n 0, 1) := by decide +kernel
theorem s_119_7 {d : Nat} {Q : wQ} {L : List (Option Value)} {st : List Value} {w : aw} {cn sn : Nat} {v : Nat} : wp d 119 Q 7 (some (.ref v) :: L) st w cn sn = wp d 119 Q 8 (some (.ref v) :: L) (.ref v :: st) w cn sn := w_aload_n d_119_7 rfl
theorem d_119_8 : decode (mB 119) 8 = .ok (.getfield 156, 3) := by decide +kernel
theorem s_119_8 {d : Nat} {Q : wQ} {L : List (Option Value)} {st : List Value} {w : aw} {cn sn : Nat} {a : Nat} : wp d 119 Q 8 L (.ref a :: st) w cn sn = (kd w a = 9 ∧ wp d 119 Q 11 L (fd w 524 a :: st) w cn sn) := w_getfield d_119_8 (by decide +kernel : fT (mO 119) 156 = some (8, 12))
theorem d_119_11 : decode (mB 119) 11 = .ok (.ifCond .ne 4, 3) := by decide +kernel
theorem s_119_11 {d : Nat} {Q : wQ} {L : List (Option Value)} {st : List Value} {w : aw} {cn sn : Nat} {x : Int32} : wp d 119 Q 11 L (.int x :: st) w cn sn = ((¬ x = 0 → wp d 119 Q 15 L st w cn sn) ∧ (x = 0 → wp d 119 Q 14 L st w cn sn)) := w_ifne d_119_11 (by decide)
theorem d_119_14 : decode (mB 119) 14 = .ok (.return_, 1) := by decide +kernel
theorem s_119_14 {d : Nat} {Q : wQ} {L : List (Option Value)} {w : aw} {cn sn : Nat}  : wp d 119 Q 14 L [] w cn sn = Q none w := w_return d_119_14 rfl
theorem d_119_15 : decode (mB 119) 15 = .ok (.aload_n 0, 1) := by decide +kernel
theorem s_119_15 {d : Nat} {Q : wQ} {L : List (Option Value)} {st : List Value} {w : aw} {cn sn : Nat} {v : Nat} : wp d 119 Q 15 (some (.ref v) :: L) st w cn sn = wp d 119 Q 16 (some (.ref v) :: L) (.ref v :: st) w cn sn := w_aload_n d_119_15 rfl
theorem d_119_16 : decode (mB 119) 16 = .ok (.getfield 16, 3) := by decide +kernel
theorem s_119_16 {d : Nat} {Q : wQ} {L : List (Option Value)} {st : List Value} {w : aw} {cn sn : Nat} {a : Nat} : wp d 119 Q 16 L (.ref a :: st) w cn sn = (kd w a = 9 ∧ wp d 119 Q 19 L (fd w 523 a :: st) w cn sn) := w_getfield d_119_16 (by decide +kernel : fT (mO 119) 16 = some (8, 11))
theorem d_119_19 : decode (mB 119) 19 = .ok (.iconst 0, 1) := by decide +kernel
theorem s_119_19 {d : Nat} {Q : wQ} {L : List (Option Value)} {st : List Value} {w : aw} {cn sn : Nat}  : wp d 119 Q 19 L st w cn sn = wp d 119 Q 20 L (.int 0 :: st) w cn sn := w_iconst d_119_19 (by decide)
theorem d_119_20 : decode (mB 119) 20 = .ok (.iaload, 1) := by decide +kernel
theorem s_119_20 {d : Nat} {Q : wQ} {L : List (Option Value)} {st : List Value} {w : aw} {cn sn : Nat} {a : Nat} {i : Int32} : wp d 119 Q 20 L (.int i :: .ref a :: st) w cn sn = ((kd w a = 20 ∨ kd w a = 30) ∧ inR i (ln w a) ∧ wp d 119 Q 21 L (.int (ai w a i.toNatClampNeg) :: st) w cn sn) := wp_row d_119_20 _ _ _ _ _
theorem d_119_21 : decode (mB 119) 21 = .ok (.istore_n 1, 1) := by decide +kernel
theorem s_119_21 {d : Nat} {Q : wQ} {L : List (Option Value)} {st : List Value} {w : aw} {cn sn : Nat} {a0 a1 : Option Value} {v : Int32} : wp d 119 Q 21 (a0 :: a1 :: L) (.int v :: st) w cn sn = wp d 119 Q 22 (clr a0 :: some (.int v) :: L) st w cn sn := w_istore_n d_119_21 (Nat.le_add_left 2 _) rfl
theorem d_119_22 : decode (mB 119) 22 = .ok (.aload_n 0, 1) := by decide +kernel
theorem s_119_22 {d : Nat} {Q : wQ} {L : List (Option Value)} {st : List Value} {w : aw} {cn sn : Nat} {v : Nat} : wp d 119 Q 22 (some (.ref v) :: L) st w cn sn = wp d 119 Q 23 (some (.ref v) :: L) (.ref v :: st) w cn sn := w_aload_n d_119_22 rfl
theorem d_119_23 : decode (mB 119) 23 = .ok (.dup, 1) := by decide +kernel
theorem s_119_23 {d : Nat} {Q : wQ} {L : List (Option Value)} {st : List Value} {w : aw} {cn sn : Nat} {v : Value} : wp d 119 Q 23 L (v :: st) w cn sn = (v.category = 1 ∧ wp d 119 Q 24 L (v :: v :: st) w cn sn) := wp_row d_119_23 _ _ _ _ _
theorem d_119_24 : decode (mB 119) 24 = .ok (.getfield 156, 3) := by decide +kernel
theorem s_119_24 {d : Nat} {Q : wQ} {L : List (Option Value)} {st : List Value} {w : aw} {cn sn : Nat} {a : Nat} : wp d 119 Q 24 L (.ref a :: st) w cn sn = (kd w a = 9 ∧ wp d 119 Q 27 L (fd w 524 a :: st) w cn sn) := w_getfield d_119_24 (by decide +kernel : fT (mO 119) 156 = some (8, 12))
theorem d_119_27 : decode (mB 119) 27 = .ok (.iconst 1, 1) := by decide +kernel
theorem s_119_27 {d : Nat} {Q : wQ} {L : List (Option Value)} {st : List Value} {w : aw} {cn sn : Nat}  : wp d 119 Q 27 L st w cn sn = wp d 119 Q 28 L (.int 1 :: st) w cn sn := w_iconst d_119_27 (by decide)
theorem d_119_28 : decode (mB 119) 28 = .ok (.isub, 1) := by decide +kernel
theorem s_119_28 {d : Nat} {Q : wQ} {L : List (Option Value)} {st : List Value} {w : aw} {cn sn : Nat} {a b : Int32} : wp d 119 Q 28 L (.int b :: .int a :: st) w cn sn = wp d 119 Q 29 L (.int (a - b) :: st) w cn sn := wp_row d_119_28 _ _ _ _ _
theorem d_119_29 : decode (mB 119) 29 = .ok (.putfield 156, 3) := by decide +kernel
theorem s_119_29 {d : Nat} {Q : wQ} {L : List (Option Value)} {st : List Value} {w : aw} {cn sn : Nat} {x : Int32} {a : Nat} : wp d 119 Q 29 L (.int x :: .ref a :: st) w cn sn = (kd w a = 9 ∧ wp d 119 Q 32 L st (uF w 524 a (.int x)) cn sn) := w_putfield d_119_29 (by decide +kernel : fT (mO 119) 156 = some (8, 12)) (by decide +kernel) ok_int
theorem d_119_32 : decode (mB 119) 32 = .ok (.iconst 0, 1) := by decide +kernel
theorem s_119_32 {d : Nat} {Q : wQ} {L : List (Option Value)} {st : List Value} {w : aw} {cn sn : Nat}  : wp d 119 Q 32 L st w cn sn = wp d 119 Q 33 L (.int 0 :: st) w cn sn := w_iconst d_119_32 (by decide)
theorem d_119_33 : decode (mB 119) 33 = .ok (.istore_n 2, 1) := by decide +kernel
theorem s_119_33 {d : Nat} {Q : wQ} {L : List (Option Value)} {st : List Value} {w : aw} {cn sn : Nat} {a0 a1 a2 : Option Value} {v : Int32} : wp d 119 Q 33 (a0 :: a1 :: a2 :: L) (.int v :: st) w cn sn = wp d 119 Q 34 (a0 :: clr a1 :: some (.int v) :: L) st w cn sn := w_istore_n d_119_33 (Nat.le_add_left 3 _) rfl
theorem d_119_34 : decode (mB 119) 34 = .ok (.iload_n 2, 1) := by decide +kernel
theorem s_119_34 {d : Nat} {Q : wQ} {L : List (Option Value)} {st : List Value} {w : aw} {cn sn : Nat} {a0 a1 : Option Value} {v : Int32} : wp d 119 Q 34 (a0 :: a1 :: some (.int v) :: L) st w cn sn = wp d 119 Q 35 (a0 :: a1 :: some (.int v) :: L) (.int v :: st) w cn sn := w_iload_n d_119_34 rfl
theorem d_119_35 : decode (mB 119) 35 = .ok (.aload_n 0, 1) := by decide +kernel
theorem s_119_35 {d : Nat} {Q : wQ} {L : List (Option Value)} {st : List Value} {w : aw} {cn sn : Nat} {v : Nat} : wp d 119 Q 35 (some (.ref v) :: L) st w cn sn = wp d 119 Q 36 (some (.ref v) :: L) (.ref v :: st) w cn sn := w_aload_n d_119_35 rfl
theorem d_119_36 : decode (mB 119) 36 = .ok (.getfield 156, 3) := by decide +kernel
theorem s_119_36 {d : Nat} {Q : wQ} {L : List (Option Value)} {st : List Value} {w : aw} {cn sn : Nat} {a : Nat} : wp d 119 Q 36 L (.ref a :: st) w cn sn = (kd w a = 9 ∧ wp d 119 Q 39 L (fd w 524 a :: st) w cn sn) := w_getfield d_119_36 (by decide +kernel : fT (mO 119) 156 = some (8, 12))
theorem d_119_39 : decode (mB 119) 39 = .ok (.if_icmp .ge 23, 3) := by decide +kernel
theorem s_119_39 {d : Nat} {Q : wQ} {L : List (Option Value)} {st : List Value} {w : aw} {cn sn : Nat} {a b : Int32} : wp d 119 Q 39 L (.int b :: .int a :: st) w cn sn = ((b ≤ a → wp d 119 Q 62 L st w cn sn) ∧ (¬ b ≤ a → wp d 119 Q 42 L st w cn sn)) := w_icge d_119_39 (by decide)
theorem d_119_42 : decode (mB 119) 42 = .ok (.aload_n 0, 1) := by decide +kernel
theorem s_119_42 {d : Nat} {Q : wQ} {L : List (Option Value)} {st : List Value} {w : aw} {cn sn : Nat} {v : Nat} : wp d 119 Q 42 (some (.ref v) :: L) st w cn sn = wp d 119 Q 43 (some (.ref v) :: L) (.ref v :: st) w cn sn := w_aload_n d_119_42 rfl
theorem d_119_43 : decode (mB 119) 43 = .ok (.getfield 16, 3) := by decide +kernel
theorem s_119_43 {d : Nat} {Q : wQ} {L : List (Option Value)} {st : List Value} {w : aw} {cn sn : Nat} {a : Nat} : wp d 119 Q 43 L (.ref a :: st) w cn sn = (kd w a = 9 ∧ wp d 119 Q 46 L (fd w 523 a :: st) w cn sn) := w_getfield d_119_43 (by decide +kernel : fT (mO 119) 16 = some (8, 11))
theorem d_119_46 : decode (mB 119) 46 = .ok (.iload_n 2, 1) := by decide +kernel
theorem s_119_46 {d : Nat} {Q : wQ} {L : List (Option Value)} {st : List Value} {w : aw} {cn sn : Nat} {a0 a1 : Option Value} {v : Int32} : wp d 119 Q 46 (a0 :: a1 :: some (.int v) :: L) st w cn sn = wp d 119 Q 47 (a0 :: a1 :: some (.int v) :: L) (.int v :: st) w cn sn := w_iload_n d_119_46 rfl
theorem d_119_47 : decode (mB 119) 47 = .ok (.aload_n 0, 1) := by decide +kernel
theorem s_119_47 {d : Nat} {Q : wQ} {L : List (Option Value)} {st : List Value} {w : aw} {cn sn : Nat} {v : Nat} : wp d 119 Q 47 (some (.ref v) :: L) st w cn sn = wp d 119 Q 48 (some (.ref v) :: L) (.ref v :: st) w cn sn := w_aload_n d_119_47 rfl
theorem d_119_48 : decode (mB 119) 48 = .ok (.getfield 16, 3) := by decide +kernel
theorem s_119_48 {d : Nat} {Q : wQ} {L : List (Option Value)} {st : List Value} {w : aw} {cn sn : Nat} {a : Nat} : wp d 119 Q 48 L (.ref a :: st) w cn sn = (kd w a = 9 ∧ wp d 119 Q 51 L (fd w 523 a :: st) w cn sn) := w_getfield d_119_48 (by decide +kernel : fT (mO 119) 16 = some (8, 11))
theorem d_119_51 : decode (mB 119) 51 = .ok (.iload_n 2, 1) := by decide +kernel
theorem s_119_51 {d : Nat} {Q : wQ} {L : List (Option Value)} {st : List Value} {w : aw} {cn sn : Nat} {a0 a1 : Option Value} {v : Int32} : wp d 119 Q 51 (a0 :: a1 :: some (.int v) :: L) st w cn sn = wp d 119 Q 52 (a0 :: a1 :: some (.int v) :: L) (.int v :: st) w cn sn := w_iload_n d_119_51 rfl
theorem d_119_52 : decode (mB 119) 52 = .ok (.iconst 1, 1) := by decide +kernel
theorem s_119_52 {d : Nat} {Q : wQ} {L : List (Option Value)} {st : List Value} {w : aw} {cn sn : Nat}  : wp d 119 Q 52 L st w cn sn = wp d 119 Q 53 L (.int 1 :: st) w cn sn := w_iconst d_119_52 (by decide)
theorem d_119_53 : decode (mB 119) 53 = .ok (.iadd, 1) := by decide +kernel
theorem s_119_53 {d : Nat} {Q : wQ} {L : List (Option Value)} {st : List Value} {w : aw} {cn sn : Nat} {a b : Int32} : wp d 119 Q 53 L (.int b :: .int a :: st) w cn sn = wp d 119 Q 54 L (.int (a + b) :: st) w cn sn := wp_row d_119_53 _ _ _ _ _
theorem d_119_54 : decode (mB 119) 54 = .ok (.iaload, 1) := by decide +kernel
theorem s_119_54 {d : Nat} {Q : wQ} {L : List (Option Value)} {st : List Value} {w : aw} {cn sn : Nat} {a : Nat} {i : Int32} : wp d 119 Q 54 L (.int i :: .ref a :: st) w cn sn = ((kd w a = 20 ∨ kd w a = 30) ∧ inR i (ln w a) ∧ wp d 119 Q 55 L (.int (ai w a i.toNatClampNeg) :: st) w cn sn) := wp_row d_119_54 _ _ _ _ _
theorem d_119_55 : decode (mB 119) 55 = .ok (.iastore, 1) := by decide +kernel
theorem s_119_55 {d : Nat} {Q : wQ} {L : List (Option Value)} {st : List Value} {w : aw} {cn sn : Nat} {a : Nat} {i x : Int32} : wp d 119 Q 55 L (.int x :: .int i :: .ref a :: st) w cn sn = (kd w a = 20 ∧ inR i (ln w a) ∧ wp d 119 Q 56 L st (uA w a i.toNatClampNeg x) cn sn) := wp_row d_119_55 _ _ _ _ _
theorem d_119_56 : decode (mB 119) 56 = .ok (.iinc 2 1, 3) := by decide +kernel
theorem s_119_56 {d : Nat} {Q : wQ} {L : List (Option Value)} {st : List Value} {w : aw} {cn sn : Nat} {a0 a1 : Option Value} {v : Int32} : wp d 119 Q 56 (a0 :: a1 :: some (.int v) :: L) st w cn sn = wp d 119 Q 59 (a0 :: clr a1 :: some (.int (v + 1)) :: L) st w cn sn := w_iinc d_119_56 rfl (by decide) rfl
theorem d_119_59 : decode (mB 119) 59 = .ok (.goto (-25), 3) := by decide +kernel
theorem s_119_59 {d : Nat} {Q : wQ} {L : List (Option Value)} {st : List Value} {w : aw} {cn sn : Nat}  : wp d 119 Q 59 L st w cn sn = wp d 119 Q 34 L st w cn sn := w_goto d_119_59 (by decide)
theorem d_119_62 : decode (mB 119) 62 = .ok (.aload_n 0, 1) := by decide +kernel
theorem s_119_62 {d : Nat} {Q : wQ} {L : List (Option Value)} {st : List Value} {w : aw} {cn sn : Nat} {v : Nat} : wp d 119 Q 62 (some (.ref v) :: L) st w cn sn = wp d 119 Q 63 (some (.ref v) :: L) (.ref v :: st) w cn sn := w_aload_n d_119_62 rfl
theorem d_119_63 : decode (mB 119) 63 = .ok (.iload_n 1, 1) := by decide +kernel
theorem s_119_63 {d : Nat} {Q : wQ} {L : List (Option Value)} {st : List Value} {w : aw} {cn sn : Nat} {a0 : Option Value} {v : Int32} : wp d 119 Q 63 (a0 :: some (.int v) :: L) st w cn sn = wp d 119 Q 64 (a0 :: some (.int v) :: L) (.int v :: st) w cn sn := w_iload_n d_119_63 rfl
theorem d_119_64 : decode (mB 119) 64 = .ok (.putfield 13, 3) := by decide +kernel
theorem s_119_64 {d : Nat} {Q : wQ} {L : List (Option Value)} {st : List Value} {w : aw} {cn sn : Nat} {x : Int32} {a : Nat} : wp d 119 Q 64 L (.int x :: .ref a :: st) w cn sn = (kd w a = 9 ∧ wp d 119 Q 67 L st (uF w 521 a (.int x)) cn sn) := w_putfield d_119_64 (by decide +kernel : fT (mO 119) 13 = some (8, 9)) (by decide +kernel) ok_int
theorem d_119_67 : decode (mB 119) 67 = .ok (.aload_n 0, 1) := by decide +kernel
theorem s_119_67 {d : Nat} {Q : wQ} {L : List (Option Value)} {st : List Value} {w : aw} {cn sn : Nat} {v : Nat} : wp d 119 Q 67 (some (.ref v) :: L) st w cn sn = wp d 119 Q 68 (some (.ref v) :: L) (.ref v :: st) w cn sn := w_aload_n d_119_67 rfl
theorem d_119_68 : decode (mB 119) 68 = .ok (.getfield 39, 3) := by decide +kernel
theorem s_119_68 {d : Nat} {Q : wQ} {L : List (Option Value)} {st : List Value} {w : aw} {cn sn : Nat} {a : Nat} : wp d 119 Q 68 L (.ref a :: st) w cn sn = (kd w a = 9 ∧ wp d 119 Q 71 L (fd w 531 a :: st) w cn sn) := w_getfield d_119_68 (by decide +kernel : fT (mO 119) 39 = some (8, 19))
theorem d_119_71 : decode (mB 119) 71 = .ok (.iload_n 1, 1) := by decide +kernel
theorem s_119_71 {d : Nat} {Q : wQ} {L : List (Option Value)} {st : List Value} {w : aw} {cn sn : Nat} {a0 : Option Value} {v : Int32} : wp d 119 Q 71 (a0 :: some (.int v) :: L) st w cn sn = wp d 119 Q 72 (a0 :: some (.int v) :: L) (.int v :: st) w cn sn := w_iload_n d_119_71 rfl
theorem d_119_72 : decode (mB 119) 72 = .ok (.iconst 2, 1) := by decide +kernel
theorem s_119_72 {d : Nat} {Q : wQ} {L : List (Option Value)} {st : List Value} {w : aw} {cn sn : Nat}  : wp d 119 Q 72 L st w cn sn = wp d 119 Q 73 L (.int 2 :: st) w cn sn := w_iconst d_119_72 (by decide)
theorem d_119_73 : decode (mB 119) 73 = .ok (.iastore, 1) := by decide +kernel
theorem s_119_73 {d : Nat} {Q : wQ} {L : List (Option Value)} {st : List Value} {w : aw} {cn sn : Nat} {a : Nat} {i x : Int32} : wp d 119 Q 73 L (.int x :: .int i :: .ref a :: st) w cn sn = (kd w a = 20 ∧ inR i (ln w a) ∧ wp d 119 Q 74 L st (uA w a i.toNatClampNeg x) cn sn) := wp_row d_119_73 _ _ _ _ _
theorem d_119_74 : decode (mB 119) 74 = .ok (.aload_n 0, 1) := by decide +kernel
theorem s_119_74 {d : Nat} {Q : wQ} {L : List (Option Value)} {st : List Value} {w : aw} {cn sn : Nat} {v : Nat} : wp d 119 Q 74 (some (.ref v) :: L) st w cn sn = wp d 119 Q 75 (some (.ref v) :: L) (.ref v :: st) w cn sn := w_aload_n d_119_74 rfl
theorem d_119_75 : decode (mB 119) 75 = .ok (.aload_n 0, 1) := by decide +kernel
theorem s_119_75 {d : Nat} {Q : wQ} {L : List (Option Value)} {st : List Value} {w : aw} {cn sn : Nat} {v : Nat} : wp d 119 Q 75 (some (.ref v) :: L) st w cn sn = wp d 119 Q 76 (some (.ref v) :: L) (.ref v :: st) w cn sn := w_aload_n d_119_75 rfl
theorem d_119_76 : decode (mB 119) 76 = .ok (.getfield 166, 3) := by decide +kernel
theorem s_119_76 {d : Nat} {Q : wQ} {L : List (Option Value)} {st : List Value} {w : aw} {cn sn : Nat} {a : Nat} : wp d 119 Q 76 L (.ref a :: st) w cn sn = (kd w a = 9 ∧ wp d 119 Q 79 L (fd w 514 a :: st) w cn sn) := w_getfield d_119_76 (by decide +kernel : fT (mO 119) 166 = some (8, 2))
theorem d_119_79 : decode (mB 119) 79 = .ok (.putfield 153, 3) := by decide +kernel
theorem s_119_79 {d : Nat} {Q : wQ} {L : List (Option Value)} {st : List Value} {w : aw} {cn sn : Nat} {x : Int32} {a : Nat} : wp d 119 Q 79 L (.int x :: .ref a :: st) w cn sn = (kd w a = 9 ∧ wp d 119 Q 82 L st (uF w 522 a (.int x)) cn sn) := w_putfield d_119_79 (by decide +kernel : fT (mO 119) 153 = some (8, 10)) (by decide +kernel) ok_int
theorem d_119_82 : decode (mB 119) 82 = .ok (.aload_n 0, 1) := by decide +kernel
theorem s_119_82 {d : Nat} {Q : wQ} {L : List (Option Value)} {st : List Value} {w : aw} {cn sn : Nat} {v : Nat} : wp d 119 Q 82 (some (.ref v) :: L) st w cn sn = wp d 119 Q 83 (some (.ref v) :: L) (.ref v :: st) w cn sn := w_aload_n d_119_82 rfl
theorem d_119_83 : decode (mB 119) 83 = .ok (.getfield 20, 3) := by decide +kernel
theorem s_119_83 {d : Nat} {Q : wQ} {L : List (Option Value)} {st : List Value} {w : aw} {cn sn : Nat} {a : Nat} : wp d 119 Q 83 L (.ref a :: st) w cn sn = (kd w a = 9 ∧ wp d 119 Q 86 L (fd w 525 a :: st) w cn sn) := w_getfield d_119_83 (by decide +kernel : fT (mO 119) 20 = some (8, 13))
theorem d_119_86 : decode (mB 119) 86 = .ok (.iload_n 1, 1) := by decide +kernel
theorem s_119_86 {d : Nat} {Q : wQ} {L : List (Option Value)} {st : List Value} {w : aw} {cn sn : Nat} {a0 : Option Value} {v : Int32} : wp d 119 Q 86 (a0 :: some (.int v) :: L) st w cn sn = wp d 119 Q 87 (a0 :: some (.int v) :: L) (.int v :: st) w cn sn := w_iload_n d_119_86 rfl
theorem d_119_87 : decode (mB 119) 87 = .ok (.iaload, 1) := by decide +kernel
theorem s_119_87 {d : Nat} {Q : wQ} {L : List (Option Value)} {st : List Value} {w : aw} {cn sn : Nat} {a : Nat} {i : Int32} : wp d 119 Q 87 L (.int i :: .ref a :: st) w cn sn = ((kd w a = 20 ∨ kd w a = 30) ∧ inR i (ln w a) ∧ wp d 119 Q 88 L (.int (ai w a i.toNatClampNeg) :: st) w cn sn) := wp_row d_119_87 _ _ _ _ _
theorem d_119_88 : decode (mB 119) 88 = .ok (.ifCond .le 4, 3) := by decide +kernel
theorem s_119_88 {d : Nat} {Q : wQ} {L : List (Option Value)} {st : List Value} {w : aw} {cn sn : Nat} {x : Int32} : wp d 119 Q 88 L (.int x :: st) w cn sn = ((x ≤ 0 → wp d 119 Q 92 L st w cn sn) ∧ (¬ x ≤ 0 → wp d 119 Q 91 L st w cn sn)) := w_ifle d_119_88 (by decide)
theorem d_119_91 : decode (mB 119) 91 = .ok (.return_, 1) := by decide +kernel
theorem s_119_91 {d : Nat} {Q : wQ} {L : List (Option Value)} {w : aw} {cn sn : Nat}  : wp d 119 Q 91 L [] w cn sn = Q none w := w_return d_119_91 rfl
theorem d_119_92 : decode (mB 119) 92 = .ok (.iconst 0, 1) := by decide +kernel
theorem s_119_92 {d : Nat} {Q : wQ} {L : List (Option Value)} {st : List Value} {w : aw} {cn sn : Nat}  : wp d 119 Q 92 L st w cn sn = wp d 119 Q 93 L (.int 0 :: st) w cn sn := w_iconst d_119_92 (by decide)
theorem d_119_93 : decode (mB 119) 93 = .ok (.istore_n 2, 1) := by decide +kernel
theorem s_119_93 {d : Nat} {Q : wQ} {L : List (Option Value)} {st : List Value} {w : aw} {cn sn : Nat} {a0 a1 a2 : Option Value} {v : Int32} : wp d 119 Q 93 (a0 :: a1 :: a2 :: L) (.int v :: st) w cn sn = wp d 119 Q 94 (a0 :: clr a1 :: some (.int v) :: L) st w cn sn := w_istore_n d_119_93 (Nat.le_add_left 3 _) rfl
theorem d_119_94 : decode (mB 119) 94 = .ok (.iload_n 2, 1) := by decide +kernel
theorem s_119_94 {d : Nat} {Q : wQ} {L : List (Option Value)} {st : List Value} {w : aw} {cn sn : Nat} {a0 a1 : Option Value} {v : Int32} : wp d 119 Q 94 (a0 :: a1 :: some (.int v) :: L) st w cn sn = wp d 119 Q 95 (a0 :: a1 :: some (.int v) :: L) (.int v :: st) w cn sn := w_iload_n d_119_94 rfl
theorem d_119_95 : decode (mB 119) 95 = .ok (.aload_n 0, 1) := by decide +kernel
theorem s_119_95 {d : Nat} {Q : wQ} {L : List (Option Value)} {st : List Value} {w : aw} {cn sn : Nat} {v : Nat} : wp d 119 Q 95 (some (.ref v) :: L) st w cn sn = wp d 119 Q 96 (some (.ref v) :: L) (.ref v :: st) w cn sn := w_aload_n d_119_95 rfl
theorem d_119_96 : decode (mB 119) 96 = .ok (.getfield 108, 3) := by decide +kernel
theorem s_119_96 {d : Nat} {Q : wQ} {L : List (Option Value)} {st : List Value} {w : aw} {cn sn : Nat} {a : Nat} : wp d 119 Q 96 L (.ref a :: st) w cn sn = (kd w a = 9 ∧ wp d 119 Q 99 L (fd w 512 a :: st) w cn sn) := w_getfield d_119_96 (by decide +kernel : fT (mO 119) 108 = some (8, 0))
theorem d_119_99 : decode (mB 119) 99 = .ok (.if_icmp .ge 38, 3) := by decide +kernel
theorem s_119_99 {d : Nat} {Q : wQ} {L : List (Option Value)} {st : List Value} {w : aw} {cn sn : Nat} {a b : Int32} : wp d 119 Q 99 L (.int b :: .int a :: st) w cn sn = ((b ≤ a → wp d 119 Q 137 L st w cn sn) ∧ (¬ b ≤ a → wp d 119 Q 102 L st w cn sn)) := w_icge d_119_99 (by decide)
theorem d_119_102 : decode (mB 119) 102 = .ok (.aload_n 0, 1) := by decide +kernel
theorem s_119_102 {d : Nat} {Q : wQ} {L : List (Option Value)} {st : List Value} {w : aw} {cn sn : Nat} {v : Nat} : wp d 119 Q 102 (some (.ref v) :: L) st w cn sn = wp d 119 Q 103 (some (.ref v) :: L) (.ref v :: st) w cn sn := w_aload_n d_119_102 rfl
theorem d_119_103 : decode (mB 119) 103 = .ok (.getfield 20, 3) := by decide +kernel
theorem s_119_103 {d : Nat} {Q : wQ} {L : List (Option Value)} {st : List Value} {w : aw} {cn sn : Nat} {a : Nat} : wp d 119 Q 103 L (.ref a :: st) w cn sn = (kd w a = 9 ∧ wp d 119 Q 106 L (fd w 525 a :: st) w cn sn) := w_getfield d_119_103 (by decide +kernel : fT (mO 119) 20 = some (8, 13))
theorem d_119_106 : decode (mB 119) 106 = .ok (.iload_n 2, 1) := by decide +kernel
theorem s_119_106 {d : Nat} {Q : wQ} {L : List (Option Value)} {st : List Value} {w : aw} {cn sn : Nat} {a0 a1 : Option Value} {v : Int32} : wp d 119 Q 106 (a0 :: a1 :: some (.int v) :: L) st w cn sn = wp d 119 Q 107 (a0 :: a1 :: some (.int v) :: L) (.int v :: st) w cn sn := w_iload_n d_119_106 rfl
theorem d_119_107 : decode (mB 119) 107 = .ok (.aload_n 0, 1) := by decide +kernel
theorem s_119_107 {d : Nat} {Q : wQ} {L : List (Option Value)} {st : List Value} {w : aw} {cn sn : Nat} {v : Nat} : wp d 119 Q 107 (some (.ref v) :: L) st w cn sn = wp d 119 Q 108 (some (.ref v) :: L) (.ref v :: st) w cn sn := w_aload_n d_119_107 rfl
theorem d_119_108 : decode (mB 119) 108 = .ok (.getfield 20, 3) := by decide +kernel
theorem s_119_108 {d : Nat} {Q : wQ} {L : List (Option Value)} {st : List Value} {w : aw} {cn sn : Nat} {a : Nat} : wp d 119 Q 108 L (.ref a :: st) w cn sn = (kd w a = 9 ∧ wp d 119 Q 111 L (fd w 525 a :: st) w cn sn) := w_getfield d_119_108 (by decide +kernel : fT (mO 119) 20 = some (8, 13))
theorem d_119_111 : decode (mB 119) 111 = .ok (.iload_n 2, 1) := by decide +kernel
theorem s_119_111 {d : Nat} {Q : wQ} {L : List (Option Value)} {st : List Value} {w : aw} {cn sn : Nat} {a0 a1 : Option Value} {v : Int32} : wp d 119 Q 111 (a0 :: a1 :: some (.int v) :: L) st w cn sn = wp d 119 Q 112 (a0 :: a1 :: some (.int v) :: L) (.int v :: st) w cn sn := w_iload_n d_119_111 rfl
theorem d_119_112 : decode (mB 119) 112 = .ok (.iaload, 1) := by decide +kernel
theorem s_119_112 {d : Nat} {Q : wQ} {L : List (Option Value)} {st : List Value} {w : aw} {cn sn : Nat} {a : Nat} {i : Int32} : wp d 119 Q 112 L (.int i :: .ref a :: st) w cn sn = ((kd w a = 20 ∨ kd w a = 30) ∧ inR i (ln w a) ∧ wp d 119 Q 113 L (.int (ai w a i.toNatClampNeg) :: st) w cn sn) := wp_row d_119_112 _ _ _ _ _
theorem d_119_113 : decode (mB 119) 113 = .ok (.aload_n 0, 1) := by decide +kernel
theorem s_119_113 {d : Nat} {Q : wQ} {L : List (Option Value)} {st : List Value} {w : aw} {cn sn : Nat} {v : Nat} : wp d 119 Q 113 (some (.ref v) :: L) st w cn sn = wp d 119 Q 114 (some (.ref v) :: L) (.ref v :: st) w cn sn := w_aload_n d_119_113 rfl
theorem d_119_114 : decode (mB 119) 114 = .ok (.getfield 7, 3) := by decide +kernel
theorem s_119_114 {d : Nat} {Q : wQ} {L : List (Option Value)} {st : List Value} {w : aw} {cn sn : Nat} {a : Nat} : wp d 119 Q 114 L (.ref a :: st) w cn sn = (kd w a = 9 ∧ wp d 119 Q 117 L (fd w 519 a :: st) w cn sn) := w_getfield d_119_114 (by decide +kernel : fT (mO 119) 7 = some (8, 7))
theorem d_119_117 : decode (mB 119) 117 = .ok (.if_icmp .ne 7, 3) := by decide +kernel
theorem s_119_117 {d : Nat} {Q : wQ} {L : List (Option Value)} {st : List Value} {w : aw} {cn sn : Nat} {a b : Int32} : wp d 119 Q 117 L (.int b :: .int a :: st) w cn sn = ((¬ a = b → wp d 119 Q 124 L st w cn sn) ∧ (a = b → wp d 119 Q 120 L st w cn sn)) := w_icne d_119_117 (by decide)
theorem d_119_120 : decode (mB 119) 120 = .ok (.iconst 0, 1) := by decide +kernel
theorem s_119_120 {d : Nat} {Q : wQ} {L : List (Option Value)} {st : List Value} {w : aw} {cn sn : Nat}  : wp d 119 Q 120 L st w cn sn = wp d 119 Q 121 L (.int 0 :: st) w cn sn := w_iconst d_119_120 (by decide)
theorem d_119_121 : decode (mB 119) 121 = .ok (.goto 9, 3) := by decide +kernel
theorem s_119_121 {d : Nat} {Q : wQ} {L : List (Option Value)} {st : List Value} {w : aw} {cn sn : Nat}  : wp d 119 Q 121 L st w cn sn = wp d 119 Q 130 L st w cn sn := w_goto d_119_121 (by decide)
theorem d_119_124 : decode (mB 119) 124 = .ok (.aload_n 0, 1) := by decide +kernel
theorem s_119_124 {d : Nat} {Q : wQ} {L : List (Option Value)} {st : List Value} {w : aw} {cn sn : Nat} {v : Nat} : wp d 119 Q 124 (some (.ref v) :: L) st w cn sn = wp d 119 Q 125 (some (.ref v) :: L) (.ref v :: st) w cn sn := w_aload_n d_119_124 rfl
theorem d_119_125 : decode (mB 119) 125 = .ok (.getfield 20, 3) := by decide +kernel
theorem s_119_125 {d : Nat} {Q : wQ} {L : List (Option Value)} {st : List Value} {w : aw} {cn sn : Nat} {a : Nat} : wp d 119 Q 125 L (.ref a :: st) w cn sn = (kd w a = 9 ∧ wp d 119 Q 128 L (fd w 525 a :: st) w cn sn) := w_getfield d_119_125 (by decide +kernel : fT (mO 119) 20 = some (8, 13))
theorem d_119_128 : decode (mB 119) 128 = .ok (.iload_n 2, 1) := by decide +kernel
theorem s_119_128 {d : Nat} {Q : wQ} {L : List (Option Value)} {st : List Value} {w : aw} {cn sn : Nat} {a0 a1 : Option Value} {v : Int32} : wp d 119 Q 128 (a0 :: a1 :: some (.int v) :: L) st w cn sn = wp d 119 Q 129 (a0 :: a1 :: some (.int v) :: L) (.int v :: st) w cn sn := w_iload_n d_119_128 rfl
theorem d_119_129 : decode (mB 119) 129 = .ok (.iaload, 1) := by decide +kernel
theorem s_119_129 {d : Nat} {Q : wQ} {L : List (Option Value)} {st : List Value} {w : aw} {cn sn : Nat} {a : Nat} {i : Int32} : wp d 119 Q 129 L (.int i :: .ref a :: st) w cn sn = ((kd w a = 20 ∨ kd w a = 30) ∧ inR i (ln w a) ∧ wp d 119 Q 130 L (.int (ai w a i.toNatClampNeg) :: st) w cn sn) := wp_row d_119_129 _ _ _ _ _
theorem d_119_130 : decode (mB 119) 130 = .ok (.iastore, 1) := by decide +kernel
theorem s_119_130 {d : Nat} {Q : wQ} {L : List (Option Value)} {st : List Value} {w : aw} {cn sn : Nat} {a : Nat} {i x : Int32} : wp d 119 Q 130 L (.int x :: .int i :: .ref a :: st) w cn sn = (kd w a = 20 ∧ inR i (ln w a) ∧ wp d 119 Q 131 L st (uA w a i.toNatClampNeg x) cn sn) := wp_row d_119_130 _ _ _ _ _
theorem d_119_131 : decode (mB 119) 131 = .ok (.iinc 2 1, 3) := by decide +kernel
theorem s_119_131 {d : Nat} {Q : wQ} {L : List (Option Value)} {st : List Value} {w : aw} {cn sn : Nat} {a0 a1 : Option Value} {v : Int32} : wp d 119 Q 131 (a0 :: a1 :: some (.int v) :: L) st w cn sn = wp d 119 Q 134 (a0 :: clr a1 :: some (.int (v + 1)) :: L) st w cn sn := w_iinc d_119_131 rfl (by decide) rfl
theorem d_119_134 : decode (mB 119) 134 = .ok (.goto (-40), 3) := by decide +kernel
theorem s_119_134 {d : Nat} {Q : wQ} {L : List (Option Value)} {st : List Value} {w : aw} {cn sn : Nat}  : wp d 119 Q 134 L st w cn sn = wp d 119 Q 94 L st w cn sn := w_goto d_119_134 (by decide)
theorem d_119_137 : decode (mB 119) 137 = .ok (.aload_n 0, 1) := by decide +kernel
theorem s_119_137 {d : Nat} {Q : wQ} {L : List (Option Value)} {st : List Value} {w : aw} {cn sn : Nat} {v : Nat} : wp d 119 Q 137 (some (.ref v) :: L) st w cn sn = wp d 119 Q 138 (some (.ref v) :: L) (.ref v :: st) w cn sn := w_aload_n d_119_137 rfl
theorem d_119_138 : decode (mB 119) 138 = .ok (.getfield 20, 3) := by decide +kernel
theorem s_119_138 {d : Nat} {Q : wQ} {L : List (Option Value)} {st : List Value} {w : aw} {cn sn : Nat} {a : Nat} : wp d 119 Q 138 L (.ref a :: st) w cn sn = (kd w a = 9 ∧ wp d 119 Q 141 L (fd w 525 a :: st) w cn sn) := w_getfield d_119_138 (by decide +kernel : fT (mO 119) 20 = some (8, 13))
theorem d_119_141 : decode (mB 119) 141 = .ok (.iload_n 1, 1) := by decide +kernel
theorem s_119_141 {d : Nat} {Q : wQ} {L : List (Option Value)} {st : List Value} {w : aw} {cn sn : Nat} {a0 : Option Value} {v : Int32} : wp d 119 Q 141 (a0 :: some (.int v) :: L) st w cn sn = wp d 119 Q 142 (a0 :: some (.int v) :: L) (.int v :: st) w cn sn := w_iload_n d_119_141 rfl
theorem d_119_142 : decode (mB 119) 142 = .ok (.aload_n 0, 1) := by decide +kernel
theorem s_119_142 {d : Nat} {Q : wQ} {L : List (Option Value)} {st : List Value} {w : aw} {cn sn : Nat} {v : Nat} : wp d 119 Q 142 (some (.ref v) :: L) st w cn sn = wp d 119 Q 143 (some (.ref v) :: L) (.ref v :: st) w cn sn := w_aload_n d_119_142 rfl
theorem d_119_143 : decode (mB 119) 143 = .ok (.getfield 7, 3) := by decide +kernel
theorem s_119_143 {d : Nat} {Q : wQ} {L : List (Option Value)} {st : List Value} {w : aw} {cn sn : Nat} {a : Nat} : wp d 119 Q 143 L (.ref a :: st) w cn sn = (kd w a = 9 ∧ wp d 119 Q 146 L (fd w 519 a :: st) w cn sn) := w_getfield d_119_143 (by decide +kernel : fT (mO 119) 7 = some (8, 7))
theorem d_119_146 : decode (mB 119) 146 = .ok (.iastore, 1) := by decide +kernel
theorem s_119_146 {d : Nat} {Q : wQ} {L : List (Option Value)} {st : List Value} {w : aw} {cn sn : Nat} {a : Nat} {i x : Int32} : wp d 119 Q 146 L (.int x :: .int i :: .ref a :: st) w cn sn = (kd w a = 20 ∧ inR i (ln w a) ∧ wp d 119 Q 147 L st (uA w a i.toNatClampNeg x) cn sn) := wp_row d_119_146 _ _ _ _ _
theorem d_119_147 : decode (mB 119) 147 = .ok (.aload_n 0, 1) := by decide +kernel
theorem s_119_147 {d : Nat} {Q : wQ} {L : List (Option Value)} {st : List Value} {w : aw} {cn sn : Nat} {v : Nat} : wp d 119 Q 147 (some (.ref v) :: L) st w cn sn = wp d 119 Q 148 (some (.ref v) :: L) (.ref v :: st) w cn sn := w_aload_n d_119_147 rfl
theorem d_119_148 : decode (mB 119) 148 = .ok (.aload_n 0, 1) := by decide +kernel
theorem s_119_148 {d : Nat} {Q : wQ} {L : List (Option Value)} {st : List Value} {w : aw} {cn sn : Nat} {v : Nat} : wp d 119 Q 148 (some (.ref v) :: L) st w cn sn = wp d 119 Q 149 (some (.ref v) :: L) (.ref v :: st) w cn sn := w_aload_n d_119_148 rfl
theorem d_119_149 : decode (mB 119) 149 = .ok (.getfield 169, 3) := by decide +kernel
theorem s_119_149 {d : Nat} {Q : wQ} {L : List (Option Value)} {st : List Value} {w : aw} {cn sn : Nat} {a : Nat} : wp d 119 Q 149 L (.ref a :: st) w cn sn = (kd w a = 9 ∧ wp d 119 Q 152 L (fd w 518 a :: st) w cn sn) := w_getfield d_119_149 (by decide +kernel : fT (mO 119) 169 = some (8, 6))
theorem d_119_152 : decode (mB 119) 152 = .ok (.iconst 1, 1) := by decide +kernel
theorem s_119_152 {d : Nat} {Q : wQ} {L : List (Option Value)} {st : List Value} {w : aw} {cn sn : Nat}  : wp d 119 Q 152 L st w cn sn = wp d 119 Q 153 L (.int 1 :: st) w cn sn := w_iconst d_119_152 (by decide)
theorem d_119_153 : decode (mB 119) 153 = .ok (.iadd, 1) := by decide +kernel
theorem s_119_153 {d : Nat} {Q : wQ} {L : List (Option Value)} {st : List Value} {w : aw} {cn sn : Nat} {a b : Int32} : wp d 119 Q 153 L (.int b :: .int a :: st) w cn sn = wp d 119 Q 154 L (.int (a + b) :: st) w cn sn := wp_row d_119_153 _ _ _ _ _
theorem d_119_154 : decode (mB 119) 154 = .ok (.sipush 4095, 3) := by decide +kernel
theorem s_119_154 {d : Nat} {Q : wQ} {L : List (Option Value)} {st : List Value} {w : aw} {cn sn : Nat}  : wp d 119 Q 154 L st w cn sn = wp d 119 Q 157 L (.int 4095 :: st) w cn sn := w_sipush d_119_154 (by decide)
theorem d_119_157 : decode (mB 119) 157 = .ok (.iand, 1) := by decide +kernel
theorem s_119_157 {d : Nat} {Q : wQ} {L : List (Option Value)} {st : List Value} {w : aw} {cn sn : Nat} {a b : Int32} : wp d 119 Q 157 L (.int b :: .int a :: st) w cn sn = wp d 119 Q 158 L (.int (a &&& b) :: st) w cn sn := wp_row d_119_157 _ _ _ _ _
theorem d_119_158 : decode (mB 119) 158 = .ok (.putfield 169, 3) := by decide +kernel
theorem s_119_158 {d : Nat} {Q : wQ} {L : List (Option Value)} {st : List Value} {w : aw} {cn sn : Nat} {x : Int32} {a : Nat} : wp d 119 Q 158 L (.int x :: .ref a :: st) w cn sn = (kd w a = 9 ∧ wp d 119 Q 161 L st (uF w 518 a (.int x)) cn sn) := w_putfield d_119_158 (by decide +kernel : fT (mO 119) 169 = some (8, 6)) (by decide +kernel) ok_int
theorem d_119_161 : decode (mB 119) 161 = .ok (.aload_n 0, 1) := by decide +kernel
theorem s_119_161 {d : Nat} {Q : wQ} {L : List (Option Value)} {st : List Value} {w : aw} {cn sn : Nat} {v : Nat} : wp d 119 Q 161 (some (.ref v) :: L) st w cn sn = wp d 119 Q 162 (some (.ref v) :: L) (.ref v :: st) w cn sn := w_aload_n d_119_161 rfl
theorem d_119_162 : decode (mB 119) 162 = .ok (.aload_n 0, 1) := by decide +kernel
theorem s_119_162 {d : Nat} {Q : wQ} {L : List (Option Value)} {st : List Value} {w : aw} {cn sn : Nat} {v : Nat} : wp d 119 Q 162 (some (.ref v) :: L) st w cn sn = wp d 119 Q 163 (some (.ref v) :: L) (.ref v :: st) w cn sn := w_aload_n d_119_162 rfl
theorem d_119_163 : decode (mB 119) 163 = .ok (.getfield 7, 3) := by decide +kernel
theorem s_119_163 {d : Nat} {Q : wQ} {L : List (Option Value)} {st : List Value} {w : aw} {cn sn : Nat} {a : Nat} : wp d 119 Q 163 L (.ref a :: st) w cn sn = (kd w a = 9 ∧ wp d 119 Q 166 L (fd w 519 a :: st) w cn sn) := w_getfield d_119_163 (by decide +kernel : fT (mO 119) 7 = some (8, 7))
theorem d_119_166 : decode (mB 119) 166 = .ok (.aload_n 0, 1) := by decide +kernel
theorem s_119_166 {d : Nat} {Q : wQ} {L : List (Option Value)} {st : List Value} {w : aw} {cn sn : Nat} {v : Nat} : wp d 119 Q 166 (some (.ref v) :: L) st w cn sn = wp d 119 Q 167 (some (.ref v) :: L) (.ref v :: st) w cn sn := w_aload_n d_119_166 rfl
theorem d_119_167 : decode (mB 119) 167 = .ok (.getfield 172, 3) := by decide +kernel
theorem s_119_167 {d : Nat} {Q : wQ} {L : List (Option Value)} {st : List Value} {w : aw} {cn sn : Nat} {a : Nat} : wp d 119 Q 167 L (.ref a :: st) w cn sn = (kd w a = 9 ∧ wp d 119 Q 170 L (fd w 513 a :: st) w cn sn) := w_getfield d_119_167 (by decide +kernel : fT (mO 119) 172 = some (8, 1))
theorem d_119_170 : decode (mB 119) 170 = .ok (.if_icmp .ne 7, 3) := by decide +kernel
theorem s_119_170 {d : Nat} {Q : wQ} {L : List (Option Value)} {st : List Value} {w : aw} {cn sn : Nat} {a b : Int32} : wp d 119 Q 170 L (.int b :: .int a :: st) w cn sn = ((¬ a = b → wp d 119 Q 177 L st w cn sn) ∧ (a = b → wp d 119 Q 173 L st w cn sn)) := w_icne d_119_170 (by decide)
theorem d_119_173 : decode (mB 119) 173 = .ok (.iconst 1, 1) := by decide +kernel
theorem s_119_173 {d : Nat} {Q : wQ} {L : List (Option Value)} {st : List Value} {w : aw} {cn sn : Nat}  : wp d 119 Q 173 L st w cn sn = wp d 119 Q 174 L (.int 1 :: st) w cn sn := w_iconst d_119_173 (by decide)
theorem d_119_174 : decode (mB 119) 174 = .ok (.goto 9, 3) := by decide +kernel
theorem s_119_174 {d : Nat} {Q : wQ} {L : List (Option Value)} {st : List Value} {w : aw} {cn sn : Nat}  : wp d 119 Q 174 L st w cn sn = wp d 119 Q 183 L st w cn sn := w_goto d_119_174 (by decide)
theorem d_119_177 : decode (mB 119) 177 = .ok (.aload_n 0, 1) := by decide +kernel
theorem s_119_177 {d : Nat} {Q : wQ} {L : List (Option Value)} {st : List Value} {w : aw} {cn sn : Nat} {v : Nat} : wp d 119 Q 177 (some (.ref v) :: L) st w cn sn = wp d 119 Q 178 (some (.ref v) :: L) (.ref v :: st) w cn sn := w_aload_n d_119_177 rfl
theorem d_119_178 : decode (mB 119) 178 = .ok (.getfield 7, 3) := by decide +kernel
theorem s_119_178 {d : Nat} {Q : wQ} {L : List (Option Value)} {st : List Value} {w : aw} {cn sn : Nat} {a : Nat} : wp d 119 Q 178 L (.ref a :: st) w cn sn = (kd w a = 9 ∧ wp d 119 Q 181 L (fd w 519 a :: st) w cn sn) := w_getfield d_119_178 (by decide +kernel : fT (mO 119) 7 = some (8, 7))
theorem d_119_181 : decode (mB 119) 181 = .ok (.iconst 1, 1) := by decide +kernel
theorem s_119_181 {d : Nat} {Q : wQ} {L : List (Option Value)} {st : List Value} {w : aw} {cn sn : Nat}  : wp d 119 Q 181 L st w cn sn = wp d 119 Q 182 L (.int 1 :: st) w cn sn := w_iconst d_119_181 (by decide)
theorem d_119_182 : decode (mB 119) 182 = .ok (.iadd, 1) := by decide +kernel
theorem s_119_182 {d : Nat} {Q : wQ} {L : List (Option Value)} {st : List Value} {w : aw} {cn sn : Nat} {a b : Int32} : wp d 119 Q 182 L (.int b :: .int a :: st) w cn sn = wp d 119 Q 183 L (.int (a + b) :: st) w cn sn := wp_row d_119_182 _ _ _ _ _
theorem d_119_183 : decode (mB 119) 183 = .ok (.putfield 7, 3) := by decide +kernel
theorem s_119_183 {d : Nat} {Q : wQ} {L : List (Option Value)} {st : List Value} {w : aw} {cn sn : Nat} {x : Int32} {a : Nat} : wp d 119 Q 183 L (.int x :: .ref a :: st) w cn sn = (kd w a = 9 ∧ wp d 119 Q 186 L st (uF w 519 a (.int x)) cn sn) := w_putfield d_119_183 (by decide +kernel : fT (mO 119) 7 = some (8, 7)) (by decide +kernel) ok_int
theorem d_119_186 : decode (mB 119) 186 = .ok (.return_, 1) := by decide +kernel
theorem s_119_186 {d : Nat} {Q : wQ} {L : List (Option Value)} {w : aw} {cn sn : Nat}  : wp d 119 Q 186 L [] w cn sn = Q none w := w_return d_119_186 rfl
theorem d_120_0 : decode (mB 120) 0 = .ok (.aload_n 0, 1) := by decide +kernel
theorem s_120_0 {d : Nat} {Q : wQ} {L : List (Option Value)} {st : List Value} {w : aw} {cn sn : Nat} {v : Nat} : wp d 120 Q 0 (some (.ref v) :: L) st w cn sn = wp d 120 Q 1 (some (.ref v) :: L) (.ref v :: st) w cn sn := w_aload_n d_120_0 rfl
theorem d_120_1 : decode (mB 120) 1 = .ok (.dup, 1) := by decide +kernel
theorem s_120_1 {d : Nat} {Q : wQ} {L : List (Option Value)} {st : List Value} {w : aw} {cn sn : Nat} {v : Value} : wp d 120 Q 1 L (v :: st) w cn sn = (v.category = 1 ∧ wp d 120 Q 2 L (v :: v :: st) w cn sn) := wp_row d_120_1 _ _ _ _ _
theorem d_120_2 : decode (mB 120) 2 = .ok (.getfield 175, 3) := by decide +kernel
theorem s_120_2 {d : Nat} {Q : wQ} {L : List (Option Value)} {st : List Value} {w : aw} {cn sn : Nat} {a : Nat} : wp d 120 Q 2 L (.ref a :: st) w cn sn = (kd w a = 9 ∧ wp d 120 Q 5 L (fd w 516 a :: st) w cn sn) := w_getfield d_120_2 (by decide +kernel : fT (mO 120) 175 = some (8, 4))
theorem d_120_5 : decode (mB 120) 5 = .ok (.iconst 1, 1) := by decide +kernel
theorem s_120_5 {d : Nat} {Q : wQ} {L : List (Option Value)} {st : List Value} {w : aw} {cn sn : Nat}  : wp d 120 Q 5 L st w cn sn = wp d 120 Q 6 L (.int 1 :: st) w cn sn := w_iconst d_120_5 (by decide)
theorem d_120_6 : decode (mB 120) 6 = .ok (.iadd, 1) := by decide +kernel
theorem s_120_6 {d : Nat} {Q : wQ} {L : List (Option Value)} {st : List Value} {w : aw} {cn sn : Nat} {a b : Int32} : wp d 120 Q 6 L (.int b :: .int a :: st) w cn sn = wp d 120 Q 7 L (.int (a + b) :: st) w cn sn := wp_row d_120_6 _ _ _ _ _
theorem d_120_7 : decode (mB 120) 7 = .ok (.putfield 175, 3) := by decide +kernel
theorem s_120_7 {d : Nat} {Q : wQ} {L : List (Option Value)} {st : List Value} {w : aw} {cn sn : Nat} {x : Int32} {a : Nat} : wp d 120 Q 7 L (.int x :: .ref a :: st) w cn sn = (kd w a = 9 ∧ wp d 120 Q 10 L st (uF w 516 a (.int x)) cn sn) := w_putfield d_120_7 (by decide +kernel : fT (mO 120) 175 = some (8, 4)) (by decide +kernel) ok_int
theorem d_120_10 : decode (mB 120) 10 = .ok (.aload_n 0, 1) := by decide +kernel
theorem s_120_10 {d : Nat} {Q : wQ} {L : List (Option Value)} {st : List Value} {w : aw} {cn sn : Nat} {v : Nat} : wp d 120 Q 10 (some (.ref v) :: L) st w cn sn = wp d 120 Q 11 (some (.ref v) :: L) (.ref v :: st) w cn sn := w_aload_n d_120_10 rfl
theorem d_120_11 : decode (mB 120) 11 = .ok (.getfield 13, 3) := by decide +kernel
theorem s_120_11 {d : Nat} {Q : wQ} {L : List (Option Value)} {st : List Value} {w : aw} {cn sn : Nat} {a : Nat} : wp d 120 Q 11 L (.ref a :: st) w cn sn = (kd w a = 9 ∧ wp d 120 Q 14 L (fd w 521 a :: st) w cn sn) := w_getfield d_120_11 (by decide +kernel : fT (mO 120) 13 = some (8, 9))
theorem d_120_14 : decode (mB 120) 14 = .ok (.ifCond .lt 14, 3) := by decide +kernel
theorem s_120_14 {d : Nat} {Q : wQ} {L : List (Option Value)} {st : List Value} {w : aw} {cn sn : Nat} {x : Int32} : wp d 120 Q 14 L (.int x :: st) w cn sn = ((x < 0 → wp d 120 Q 28 L st w cn sn) ∧ (¬ x < 0 → wp d 120 Q 17 L st w cn sn)) := w_iflt d_120_14 (by decide)
theorem d_120_17 : decode (mB 120) 17 = .ok (.aload_n 0, 1) := by decide +kernel
theorem s_120_17 {d : Nat} {Q : wQ} {L : List (Option Value)} {st : List Value} {w : aw} {cn sn : Nat} {v : Nat} : wp d 120 Q 17 (some (.ref v) :: L) st w cn sn = wp d 120 Q 18 (some (.ref v) :: L) (.ref v :: st) w cn sn := w_aload_n d_120_17 rfl
theorem d_120_18 : decode (mB 120) 18 = .ok (.aload_n 0, 1) := by decide +kernel
theorem s_120_18 {d : Nat} {Q : wQ} {L : List (Option Value)} {st : List Value} {w : aw} {cn sn : Nat} {v : Nat} : wp d 120 Q 18 (some (.ref v) :: L) st w cn sn = wp d 120 Q 19 (some (.ref v) :: L) (.ref v :: st) w cn sn := w_aload_n d_120_18 rfl
theorem d_120_19 : decode (mB 120) 19 = .ok (.getfield 13, 3) := by decide +kernel
theorem s_120_19 {d : Nat} {Q : wQ} {L : List (Option Value)} {st : List Value} {w : aw} {cn sn : Nat} {a : Nat} : wp d 120 Q 19 L (.ref a :: st) w cn sn = (kd w a = 9 ∧ wp d 120 Q 22 L (fd w 521 a :: st) w cn sn) := w_getfield d_120_19 (by decide +kernel : fT (mO 120) 13 = some (8, 9))
theorem d_120_22 : decode (mB 120) 22 = .ok (.invokevirtual 178, 3) := by decide +kernel
theorem s_120_22 {d : Nat} {Q : wQ} {L : List (Option Value)} {st : List Value} {w : aw} {cn sn : Nat} {v0 : Value} {b : Nat} : wp d 120 Q 22 L (v0 :: .ref b :: st) w cn sn = (kd w b = 9 ∧ catS st ≤ 8 ∧ wpD d 109 [.ref b, v0] w (fun v w' => wp d 120 Q 25 L (v.toList ++ st) w' cn sn)) := w_virtual (As := [v0]) d_120_22 (by decide +kernel : cT (mO 120) 178 = some (0, 109)) rfl (by decide +kernel) rfl (by decide +kernel) rfl
theorem d_120_25 : decode (mB 120) 25 = .ok (.goto 13, 3) := by decide +kernel
theorem s_120_25 {d : Nat} {Q : wQ} {L : List (Option Value)} {st : List Value} {w : aw} {cn sn : Nat}  : wp d 120 Q 25 L st w cn sn = wp d 120 Q 38 L st w cn sn := w_goto d_120_25 (by decide)
theorem d_120_28 : decode (mB 120) 28 = .ok (.aload_n 0, 1) := by decide +kernel
theorem s_120_28 {d : Nat} {Q : wQ} {L : List (Option Value)} {st : List Value} {w : aw} {cn sn : Nat} {v : Nat} : wp d 120 Q 28 (some (.ref v) :: L) st w cn sn = wp d 120 Q 29 (some (.ref v) :: L) (.ref v :: st) w cn sn := w_aload_n d_120_28 rfl
theorem d_120_29 : decode (mB 120) 29 = .ok (.dup, 1) := by decide +kernel
theorem s_120_29 {d : Nat} {Q : wQ} {L : List (Option Value)} {st : List Value} {w : aw} {cn sn : Nat} {v : Value} : wp d 120 Q 29 L (v :: st) w cn sn = (v.category = 1 ∧ wp d 120 Q 30 L (v :: v :: st) w cn sn) := wp_row d_120_29 _ _ _ _ _
theorem d_120_30 : decode (mB 120) 30 = .ok (.getfield 181, 3) := by decide +kernel
theorem s_120_30 {d : Nat} {Q : wQ} {L : List (Option Value)} {st : List Value} {w : aw} {cn sn : Nat} {a : Nat} : wp d 120 Q 30 L (.ref a :: st) w cn sn = (kd w a = 9 ∧ wp d 120 Q 33 L (fd w 520 a :: st) w cn sn) := w_getfield d_120_30 (by decide +kernel : fT (mO 120) 181 = some (8, 8))
theorem d_120_33 : decode (mB 120) 33 = .ok (.iconst 1, 1) := by decide +kernel
theorem s_120_33 {d : Nat} {Q : wQ} {L : List (Option Value)} {st : List Value} {w : aw} {cn sn : Nat}  : wp d 120 Q 33 L st w cn sn = wp d 120 Q 34 L (.int 1 :: st) w cn sn := w_iconst d_120_33 (by decide)
theorem d_120_34 : decode (mB 120) 34 = .ok (.iadd, 1) := by decide +kernel
theorem s_120_34 {d : Nat} {Q : wQ} {L : List (Option Value)} {st : List Value} {w : aw} {cn sn : Nat} {a b : Int32} : wp d 120 Q 34 L (.int b :: .int a :: st) w cn sn = wp d 120 Q 35 L (.int (a + b) :: st) w cn sn := wp_row d_120_34 _ _ _ _ _
theorem d_120_35 : decode (mB 120) 35 = .ok (.putfield 181, 3) := by decide +kernel
theorem s_120_35 {d : Nat} {Q : wQ} {L : List (Option Value)} {st : List Value} {w : aw} {cn sn : Nat} {x : Int32} {a : Nat} : wp d 120 Q 35 L (.int x :: .ref a :: st) w cn sn = (kd w a = 9 ∧ wp d 120 Q 38 L st (uF w 520 a (.int x)) cn sn) := w_putfield d_120_35 (by decide +kernel : fT (mO 120) 181 = some (8, 8)) (by decide +kernel) ok_int
theorem d_120_38 : decode (mB 120) 38 = .ok (.aload_n 0, 1) := by decide +kernel
theorem s_120_38 {d : Nat} {Q : wQ} {L : List (Option Value)} {st : List Value} {w : aw} {cn sn : Nat} {v : Nat} : wp d 120 Q 38 (some (.ref v) :: L) st w cn sn = wp d 120 Q 39 (some (.ref v) :: L) (.ref v :: st) w cn sn := w_aload_n d_120_38 rfl
theorem d_120_39 : decode (mB 120) 39 = .ok (.getfield 175, 3) := by decide +kernel
theorem s_120_39 {d : Nat} {Q : wQ} {L : List (Option Value)} {st : List Value} {w : aw} {cn sn : Nat} {a : Nat} : wp d 120 Q 39 L (.ref a :: st) w cn sn = (kd w a = 9 ∧ wp d 120 Q 42 L (fd w 516 a :: st) w cn sn) := w_getfield d_120_39 (by decide +kernel : fT (mO 120) 175 = some (8, 4))
theorem d_120_42 : decode (mB 120) 42 = .ok (.aload_n 0, 1) := by decide +kernel
theorem s_120_42 {d : Nat} {Q : wQ} {L : List (Option Value)} {st : List Value} {w : aw} {cn sn : Nat} {v : Nat} : wp d 120 Q 42 (some (.ref v) :: L) st w cn sn = wp d 120 Q 43 (some (.ref v) :: L) (.ref v :: st) w cn sn := w_aload_n d_120_42 rfl
theorem d_120_43 : decode (mB 120) 43 = .ok (.getfield 184, 3) := by decide +kernel
theorem s_120_43 {d : Nat} {Q : wQ} {L : List (Option Value)} {st : List Value} {w : aw} {cn sn : Nat} {a : Nat} : wp d 120 Q 43 L (.ref a :: st) w cn sn = (kd w a = 9 ∧ wp d 120 Q 46 L (fd w 515 a :: st) w cn sn) := w_getfield d_120_43 (by decide +kernel : fT (mO 120) 184 = some (8, 3))
theorem d_120_46 : decode (mB 120) 46 = .ok (.irem, 1) := by decide +kernel
theorem s_120_46 {d : Nat} {Q : wQ} {L : List (Option Value)} {st : List Value} {w : aw} {cn sn : Nat} {a b : Int32} : wp d 120 Q 46 L (.int b :: .int a :: st) w cn sn = (¬ b = 0 ∧ wp d 120 Q 47 L (.int (a - a / b * b) :: st) w cn sn) := wp_row d_120_46 _ _ _ _ _
theorem d_120_47 : decode (mB 120) 47 = .ok (.ifCond .ne 7, 3) := by decide +kernel
theorem s_120_47 {d : Nat} {Q : wQ} {L : List (Option Value)} {st : List Value} {w : aw} {cn sn : Nat} {x : Int32} : wp d 120 Q 47 L (.int x :: st) w cn sn = ((¬ x = 0 → wp d 120 Q 54 L st w cn sn) ∧ (x = 0 → wp d 120 Q 50 L st w cn sn)) := w_ifne d_120_47 (by decide)
theorem d_120_50 : decode (mB 120) 50 = .ok (.aload_n 0, 1) := by decide +kernel
theorem s_120_50 {d : Nat} {Q : wQ} {L : List (Option Value)} {st : List Value} {w : aw} {cn sn : Nat} {v : Nat} : wp d 120 Q 50 (some (.ref v) :: L) st w cn sn = wp d 120 Q 51 (some (.ref v) :: L) (.ref v :: st) w cn sn := w_aload_n d_120_50 rfl
theorem d_120_51 : decode (mB 120) 51 = .ok (.invokevirtual 187, 3) := by decide +kernel
theorem s_120_51 {d : Nat} {Q : wQ} {L : List (Option Value)} {st : List Value} {w : aw} {cn sn : Nat} {b : Nat} : wp d 120 Q 51 L (.ref b :: st) w cn sn = (kd w b = 9 ∧ catS st ≤ 8 ∧ wpD d 118 [.ref b] w (fun v w' => wp d 120 Q 54 L (v.toList ++ st) w' cn sn)) := w_virtual (As := []) d_120_51 (by decide +kernel : cT (mO 120) 187 = some (0, 118)) rfl (by decide +kernel) rfl (by decide +kernel) rfl
theorem d_120_54 : decode (mB 120) 54 = .ok (.aload_n 0, 1) := by decide +kernel
theorem s_120_54 {d : Nat} {Q : wQ} {L : List (Option Value)} {st : List Value} {w : aw} {cn sn : Nat} {v : Nat} : wp d 120 Q 54 (some (.ref v) :: L) st w cn sn = wp d 120 Q 55 (some (.ref v) :: L) (.ref v :: st) w cn sn := w_aload_n d_120_54 rfl
theorem d_120_55 : decode (mB 120) 55 = .ok (.invokevirtual 190, 3) := by decide +kernel
theorem s_120_55 {d : Nat} {Q : wQ} {L : List (Option Value)} {st : List Value} {w : aw} {cn sn : Nat} {b : Nat} : wp d 120 Q 55 L (.ref b :: st) w cn sn = (kd w b = 9 ∧ catS st ≤ 8 ∧ wpD d 119 [.ref b] w (fun v w' => wp d 120 Q 58 L (v.toList ++ st) w' cn sn)) := w_virtual (As := []) d_120_55 (by decide +kernel : cT (mO 120) 190 = some (0, 119)) rfl (by decide +kernel) rfl (by decide +kernel) rfl
theorem d_120_58 : decode (mB 120) 58 = .ok (.return_, 1) := by decide +kernel
theorem s_120_58 {d : Nat} {Q : wQ} {L : List (Option Value)} {w : aw} {cn sn : Nat}  : wp d 120 Q 58 L [] w cn sn = Q none w := w_return d_120_58 rfl
theorem d_121_0 : decode (mB 121) 0 = .ok (.aload_n 0, 1) := by decide +kernel
theorem s_121_0 {d : Nat} {Q : wQ} {L : List (Option Value)} {st : List Value} {w : aw} {cn sn : Nat} {v : Nat} : wp d 121 Q 0 (some (.ref v) :: L) st w cn sn = wp d 121 Q 1 (some (.ref v) :: L) (.ref v :: st) w cn sn := w_aload_n d_121_0 rfl
theorem d_121_1 : decode (mB 121) 1 = .ok (.getfield 108, 3) := by decide +kernel
theorem s_121_1 {d : Nat} {Q : wQ} {L : List (Option Value)} {st : List Value} {w : aw} {cn sn : Nat} {a : Nat} : wp d 121 Q 1 L (.ref a :: st) w cn sn = (kd w a = 9 ∧ wp d 121 Q 4 L (fd w 512 a :: st) w cn sn) := w_getfield d_121_1 (by decide +kernel : fT (mO 121) 108 = some (8, 0))
theorem d_121_4 : decode (mB 121) 4 = .ok (.ifCond .gt 45, 3) := by decide +kernel
theorem s_121_4 {d : Nat} {Q : wQ} {L : List (Option Value)} {st : List Value} {w : aw} {cn sn : Nat} {x : Int32} : wp d 121 Q 4 L (.int x :: st) w cn sn = ((0 < x → wp d 121 Q 49 L st w cn sn) ∧ (¬ 0 < x → wp d 121 Q 7 L st w cn sn)) := w_ifgt d_121_4 (by decide)
theorem d_121_7 : decode (mB 121) 7 = .ok (.iload_n 1, 1) := by decide +kernel
theorem s_121_7 {d : Nat} {Q : wQ} {L : List (Option Value)} {st : List Value} {w : aw} {cn sn : Nat} {a0 : Option Value} {v : Int32} : wp d 121 Q 7 (a0 :: some (.int v) :: L) st w cn sn = wp d 121 Q 8 (a0 :: some (.int v) :: L) (.int v :: st) w cn sn := w_iload_n d_121_7 rfl
theorem d_121_8 : decode (mB 121) 8 = .ok (.iconst 1, 1) := by decide +kernel
theorem s_121_8 {d : Nat} {Q : wQ} {L : List (Option Value)} {st : List Value} {w : aw} {cn sn : Nat}  : wp d 121 Q 8 L st w cn sn = wp d 121 Q 9 L (.int 1 :: st) w cn sn := w_iconst d_121_8 (by decide)
theorem d_121_9 : decode (mB 121) 9 = .ok (.bipush 8, 2) := by decide +kernel
theorem s_121_9 {d : Nat} {Q : wQ} {L : List (Option Value)} {st : List Value} {w : aw} {cn sn : Nat}  : wp d 121 Q 9 L st w cn sn = wp d 121 Q 11 L (.int 8 :: st) w cn sn := w_bipush d_121_9 (by decide)
theorem d_121_11 : decode (mB 121) 11 = .ok (.invokestatic 111, 3) := by decide +kernel
theorem s_121_11 {d : Nat} {Q : wQ} {L : List (Option Value)} {st : List Value} {w : aw} {cn sn : Nat} {v0 v1 v2 : Value} : wp d 121 Q 11 L (v2 :: v1 :: v0 :: st) w cn sn = (catS st ≤ 8 ∧ wpD d 103 [v0, v1, v2] w (fun v w' => wp d 121 Q 14 L (v.toList ++ st) w' cn sn)) := w_static (As := [v0, v1, v2]) d_121_11 (by decide +kernel : cT (mO 121) 111 = some (2, 103)) rfl (by decide +kernel) rfl
theorem d_121_14 : decode (mB 121) 14 = .ok (.ifCond .eq 35, 3) := by decide +kernel
theorem s_121_14 {d : Nat} {Q : wQ} {L : List (Option Value)} {st : List Value} {w : aw} {cn sn : Nat} {x : Int32} : wp d 121 Q 14 L (.int x :: st) w cn sn = ((x = 0 → wp d 121 Q 49 L st w cn sn) ∧ (¬ x = 0 → wp d 121 Q 17 L st w cn sn)) := w_ifeq d_121_14 (by decide)
theorem d_121_17 : decode (mB 121) 17 = .ok (.iload_n 2, 1) := by decide +kernel
theorem s_121_17 {d : Nat} {Q : wQ} {L : List (Option Value)} {st : List Value} {w : aw} {cn sn : Nat} {a0 a1 : Option Value} {v : Int32} : wp d 121 Q 17 (a0 :: a1 :: some (.int v) :: L) st w cn sn = wp d 121 Q 18 (a0 :: a1 :: some (.int v) :: L) (.int v :: st) w cn sn := w_iload_n d_121_17 rfl
theorem d_121_18 : decode (mB 121) 18 = .ok (.iconst 1, 1) := by decide +kernel
theorem s_121_18 {d : Nat} {Q : wQ} {L : List (Option Value)} {st : List Value} {w : aw} {cn sn : Nat}  : wp d 121 Q 18 L st w cn sn = wp d 121 Q 19 L (.int 1 :: st) w cn sn := w_iconst d_121_18 (by decide)
theorem d_121_19 : decode (mB 121) 19 = .ok (.bipush 7, 2) := by decide +kernel
theorem s_121_19 {d : Nat} {Q : wQ} {L : List (Option Value)} {st : List Value} {w : aw} {cn sn : Nat}  : wp d 121 Q 19 L st w cn sn = wp d 121 Q 21 L (.int 7 :: st) w cn sn := w_bipush d_121_19 (by decide)
theorem d_121_21 : decode (mB 121) 21 = .ok (.invokestatic 111, 3) := by decide +kernel
theorem s_121_21 {d : Nat} {Q : wQ} {L : List (Option Value)} {st : List Value} {w : aw} {cn sn : Nat} {v0 v1 v2 : Value} : wp d 121 Q 21 L (v2 :: v1 :: v0 :: st) w cn sn = (catS st ≤ 8 ∧ wpD d 103 [v0, v1, v2] w (fun v w' => wp d 121 Q 24 L (v.toList ++ st) w' cn sn)) := w_static (As := [v0, v1, v2]) d_121_21 (by decide +kernel : cT (mO 121) 111 = some (2, 103)) rfl (by decide +kernel) rfl
theorem d_121_24 : decode (mB 121) 24 = .ok (.ifCond .eq 25, 3) := by decide +kernel
theorem s_121_24 {d : Nat} {Q : wQ} {L : List (Option Value)} {st : List Value} {w : aw} {cn sn : Nat} {x : Int32} : wp d 121 Q 24 L (.int x :: st) w cn sn = ((x = 0 → wp d 121 Q 49 L st w cn sn) ∧ (¬ x = 0 → wp d 121 Q 27 L st w cn sn)) := w_ifeq d_121_24 (by decide)
theorem d_121_27 : decode (mB 121) 27 = .ok (.iload_n 3, 1) := by decide +kernel
theorem s_121_27 {d : Nat} {Q : wQ} {L : List (Option Value)} {st : List Value} {w : aw} {cn sn : Nat} {a0 a1 a2 : Option Value} {v : Int32} : wp d 121 Q 27 (a0 :: a1 :: a2 :: some (.int v) :: L) st w cn sn = wp d 121 Q 28 (a0 :: a1 :: a2 :: some (.int v) :: L) (.int v :: st) w cn sn := w_iload_n d_121_27 rfl
theorem d_121_28 : decode (mB 121) 28 = .ok (.iconst 1, 1) := by decide +kernel
theorem s_121_28 {d : Nat} {Q : wQ} {L : List (Option Value)} {st : List Value} {w : aw} {cn sn : Nat}  : wp d 121 Q 28 L st w cn sn = wp d 121 Q 29 L (.int 1 :: st) w cn sn := w_iconst d_121_28 (by decide)
theorem d_121_29 : decode (mB 121) 29 = .ok (.bipush 64, 2) := by decide +kernel
theorem s_121_29 {d : Nat} {Q : wQ} {L : List (Option Value)} {st : List Value} {w : aw} {cn sn : Nat}  : wp d 121 Q 29 L st w cn sn = wp d 121 Q 31 L (.int 64 :: st) w cn sn := w_bipush d_121_29 (by decide)
theorem d_121_31 : decode (mB 121) 31 = .ok (.invokestatic 111, 3) := by decide +kernel
theorem s_121_31 {d : Nat} {Q : wQ} {L : List (Option Value)} {st : List Value} {w : aw} {cn sn : Nat} {v0 v1 v2 : Value} : wp d 121 Q 31 L (v2 :: v1 :: v0 :: st) w cn sn = (catS st ≤ 8 ∧ wpD d 103 [v0, v1, v2] w (fun v w' => wp d 121 Q 34 L (v.toList ++ st) w' cn sn)) := w_static (As := [v0, v1, v2]) d_121_31 (by decide +kernel : cT (mO 121) 111 = some (2, 103)) rfl (by decide +kernel) rfl
theorem d_121_34 : decode (mB 121) 34 = .ok (.ifCond .eq 15, 3) := by decide +kernel
theorem s_121_34 {d : Nat} {Q : wQ} {L : List (Option Value)} {st : List Value} {w : aw} {cn sn : Nat} {x : Int32} : wp d 121 Q 34 L (.int x :: st) w cn sn = ((x = 0 → wp d 121 Q 49 L st w cn sn) ∧ (¬ x = 0 → wp d 121 Q 37 L st w cn sn)) := w_ifeq d_121_34 (by decide)
theorem d_121_37 : decode (mB 121) 37 = .ok (.iload 4, 2) := by decide +kernel
theorem s_121_37 {d : Nat} {Q : wQ} {L : List (Option Value)} {st : List Value} {w : aw} {cn sn : Nat} {a0 a1 a2 a3 : Option Value} {v : Int32} : wp d 121 Q 37 (a0 :: a1 :: a2 :: a3 :: some (.int v) :: L) st w cn sn = wp d 121 Q 39 (a0 :: a1 :: a2 :: a3 :: some (.int v) :: L) (.int v :: st) w cn sn := w_iload d_121_37 rfl
theorem d_121_39 : decode (mB 121) 39 = .ok (.iconst 4, 1) := by decide +kernel
theorem s_121_39 {d : Nat} {Q : wQ} {L : List (Option Value)} {st : List Value} {w : aw} {cn sn : Nat}  : wp d 121 Q 39 L st w cn sn = wp d 121 Q 40 L (.int 4 :: st) w cn sn := w_iconst d_121_39 (by decide)
theorem d_121_40 : decode (mB 121) 40 = .ok (.sipush 1000, 3) := by decide +kernel
theorem s_121_40 {d : Nat} {Q : wQ} {L : List (Option Value)} {st : List Value} {w : aw} {cn sn : Nat}  : wp d 121 Q 40 L st w cn sn = wp d 121 Q 43 L (.int 1000 :: st) w cn sn := w_sipush d_121_40 (by decide)
theorem d_121_43 : decode (mB 121) 43 = .ok (.invokestatic 111, 3) := by decide +kernel
theorem s_121_43 {d : Nat} {Q : wQ} {L : List (Option Value)} {st : List Value} {w : aw} {cn sn : Nat} {v0 v1 v2 : Value} : wp d 121 Q 43 L (v2 :: v1 :: v0 :: st) w cn sn = (catS st ≤ 8 ∧ wpD d 103 [v0, v1, v2] w (fun v w' => wp d 121 Q 46 L (v.toList ++ st) w' cn sn)) := w_static (As := [v0, v1, v2]) d_121_43 (by decide +kernel : cT (mO 121) 111 = some (2, 103)) rfl (by decide +kernel) rfl
theorem d_121_46 : decode (mB 121) 46 = .ok (.ifCond .ne 5, 3) := by decide +kernel
theorem s_121_46 {d : Nat} {Q : wQ} {L : List (Option Value)} {st : List Value} {w : aw} {cn sn : Nat} {x : Int32} : wp d 121 Q 46 L (.int x :: st) w cn sn = ((¬ x = 0 → wp d 121 Q 51 L st w cn sn) ∧ (x = 0 → wp d 121 Q 49 L st w cn sn)) := w_ifne d_121_46 (by decide)
theorem d_121_49 : decode (mB 121) 49 = .ok (.iconst (-1), 1) := by decide +kernel
theorem s_121_49 {d : Nat} {Q : wQ} {L : List (Option Value)} {st : List Value} {w : aw} {cn sn : Nat}  : wp d 121 Q 49 L st w cn sn = wp d 121 Q 50 L (.int (-1) :: st) w cn sn := w_iconst d_121_49 (by decide)
theorem d_121_50 : decode (mB 121) 50 = .ok (.ireturn, 1) := by decide +kernel
theorem s_121_50 {d : Nat} {Q : wQ} {L : List (Option Value)} {w : aw} {cn sn : Nat} {v : Int32} : wp d 121 Q 50 L [.int v] w cn sn = Q (some (.int v)) w := w_ireturn d_121_50 rfl
theorem d_121_51 : decode (mB 121) 51 = .ok (.aload_n 0, 1) := by decide +kernel
theorem s_121_51 {d : Nat} {Q : wQ} {L : List (Option Value)} {st : List Value} {w : aw} {cn sn : Nat} {v : Nat} : wp d 121 Q 51 (some (.ref v) :: L) st w cn sn = wp d 121 Q 52 (some (.ref v) :: L) (.ref v :: st) w cn sn := w_aload_n d_121_51 rfl
theorem d_121_52 : decode (mB 121) 52 = .ok (.iload_n 1, 1) := by decide +kernel
theorem s_121_52 {d : Nat} {Q : wQ} {L : List (Option Value)} {st : List Value} {w : aw} {cn sn : Nat} {a0 : Option Value} {v : Int32} : wp d 121 Q 52 (a0 :: some (.int v) :: L) st w cn sn = wp d 121 Q 53 (a0 :: some (.int v) :: L) (.int v :: st) w cn sn := w_iload_n d_121_52 rfl
theorem d_121_53 : decode (mB 121) 53 = .ok (.putfield 108, 3) := by decide +kernel
theorem s_121_53 {d : Nat} {Q : wQ} {L : List (Option Value)} {st : List Value} {w : aw} {cn sn : Nat} {x : Int32} {a : Nat} : wp d 121 Q 53 L (.int x :: .ref a :: st) w cn sn = (kd w a = 9 ∧ wp d 121 Q 56 L st (uF w 512 a (.int x)) cn sn) := w_putfield d_121_53 (by decide +kernel : fT (mO 121) 108 = some (8, 0)) (by decide +kernel) ok_int
theorem d_121_56 : decode (mB 121) 56 = .ok (.aload_n 0, 1) := by decide +kernel
theorem s_121_56 {d : Nat} {Q : wQ} {L : List (Option Value)} {st : List Value} {w : aw} {cn sn : Nat} {v : Nat} : wp d 121 Q 56 (some (.ref v) :: L) st w cn sn = wp d 121 Q 57 (some (.ref v) :: L) (.ref v :: st) w cn sn := w_aload_n d_121_56 rfl
theorem d_121_57 : decode (mB 121) 57 = .ok (.iload_n 2, 1) := by decide +kernel
theorem s_121_57 {d : Nat} {Q : wQ} {L : List (Option Value)} {st : List Value} {w : aw} {cn sn : Nat} {a0 a1 : Option Value} {v : Int32} : wp d 121 Q 57 (a0 :: a1 :: some (.int v) :: L) st w cn sn = wp d 121 Q 58 (a0 :: a1 :: some (.int v) :: L) (.int v :: st) w cn sn := w_iload_n d_121_57 rfl
theorem d_121_58 : decode (mB 121) 58 = .ok (.putfield 172, 3) := by decide +kernel
theorem s_121_58 {d : Nat} {Q : wQ} {L : List (Option Value)} {st : List Value} {w : aw} {cn sn : Nat} {x : Int32} {a : Nat} : wp d 121 Q 58 L (.int x :: .ref a :: st) w cn sn = (kd w a = 9 ∧ wp d 121 Q 61 L st (uF w 513 a (.int x)) cn sn) := w_putfield d_121_58 (by decide +kernel : fT (mO 121) 172 = some (8, 1)) (by decide +kernel) ok_int
theorem d_121_61 : decode (mB 121) 61 = .ok (.aload_n 0, 1) := by decide +kernel
theorem s_121_61 {d : Nat} {Q : wQ} {L : List (Option Value)} {st : List Value} {w : aw} {cn sn : Nat} {v : Nat} : wp d 121 Q 61 (some (.ref v) :: L) st w cn sn = wp d 121 Q 62 (some (.ref v) :: L) (.ref v :: st) w cn sn := w_aload_n d_121_61 rfl
theorem d_121_62 : decode (mB 121) 62 = .ok (.iload_n 3, 1) := by decide +kernel
theorem s_121_62 {d : Nat} {Q : wQ} {L : List (Option Value)} {st : List Value} {w : aw} {cn sn : Nat} {a0 a1 a2 : Option Value} {v : Int32} : wp d 121 Q 62 (a0 :: a1 :: a2 :: some (.int v) :: L) st w cn sn = wp d 121 Q 63 (a0 :: a1 :: a2 :: some (.int v) :: L) (.int v :: st) w cn sn := w_iload_n d_121_62 rfl
theorem d_121_63 : decode (mB 121) 63 = .ok (.putfield 166, 3) := by decide +kernel
theorem s_121_63 {d : Nat} {Q : wQ} {L : List (Option Value)} {st : List Value} {w : aw} {cn sn : Nat} {x : Int32} {a : Nat} : wp d 121 Q 63 L (.int x :: .ref a :: st) w cn sn = (kd w a = 9 ∧ wp d 121 Q 66 L st (uF w 514 a (.int x)) cn sn) := w_putfield d_121_63 (by decide +kernel : fT (mO 121) 166 = some (8, 2)) (by decide +kernel) ok_int
theorem d_121_66 : decode (mB 121) 66 = .ok (.aload_n 0, 1) := by decide +kernel
theorem s_121_66 {d : Nat} {Q : wQ} {L : List (Option Value)} {st : List Value} {w : aw} {cn sn : Nat} {v : Nat} : wp d 121 Q 66 (some (.ref v) :: L) st w cn sn = wp d 121 Q 67 (some (.ref v) :: L) (.ref v :: st) w cn sn := w_aload_n d_121_66 rfl
theorem d_121_67 : decode (mB 121) 67 = .ok (.iload 4, 2) := by decide +kernel
theorem s_121_67 {d : Nat} {Q : wQ} {L : List (Option Value)} {st : List Value} {w : aw} {cn sn : Nat} {a0 a1 a2 a3 : Option Value} {v : Int32} : wp d 121 Q 67 (a0 :: a1 :: a2 :: a3 :: some (.int v) :: L) st w cn sn = wp d 121 Q 69 (a0 :: a1 :: a2 :: a3 :: some (.int v) :: L) (.int v :: st) w cn sn := w_iload d_121_67 rfl
theorem d_121_69 : decode (mB 121) 69 = .ok (.putfield 184, 3) := by decide +kernel
theorem s_121_69 {d : Nat} {Q : wQ} {L : List (Option Value)} {st : List Value} {w : aw} {cn sn : Nat} {x : Int32} {a : Nat} : wp d 121 Q 69 L (.int x :: .ref a :: st) w cn sn = (kd w a = 9 ∧ wp d 121 Q 72 L st (uF w 515 a (.int x)) cn sn) := w_putfield d_121_69 (by decide +kernel : fT (mO 121) 184 = some (8, 3)) (by decide +kernel) ok_int
theorem d_121_72 : decode (mB 121) 72 = .ok (.iconst 1, 1) := by decide +kernel
theorem s_121_72 {d : Nat} {Q : wQ} {L : List (Option Value)} {st : List Value} {w : aw} {cn sn : Nat}  : wp d 121 Q 72 L st w cn sn = wp d 121 Q 73 L (.int 1 :: st) w cn sn := w_iconst d_121_72 (by decide)
theorem d_121_73 : decode (mB 121) 73 = .ok (.ireturn, 1) := by decide +kernel
theorem s_121_73 {d : Nat} {Q : wQ} {L : List (Option Value)} {w : aw} {cn sn : Nat} {v : Int32} : wp d 121 Q 73 L [.int v] w cn sn = Q (some (.int v)) w := w_ireturn d_121_73 rfl
theorem d_122_0 : decode (mB 122) 0 = .ok (.bipush 24, 2) := by decide +kernel
theorem s_122_0 {d : Nat} {Q : wQ} {L : List (Option Value)} {st : List Value} {w : aw} {cn sn : Nat}  : wp d 122 Q 0 L st w cn sn = wp d 122 Q 2 L (.int 24 :: st) w cn sn := w_bipush d_122_0 (by decide)
theorem d_122_2 : decode (mB 122) 2 = .ok (.istore_n 2, 1) := by decide +kernel
theorem s_122_2 {d : Nat} {Q : wQ} {L : List (Option Value)} {st : List Value} {w : aw} {cn sn : Nat} {a0 a1 a2 : Option Value} {v : Int32} : wp d 122 Q 2 (a0 :: a1 :: a2 :: L) (.int v :: st) w cn sn = wp d 122 Q 3 (a0 :: clr a1 :: some (.int v) :: L) st w cn sn := w_istore_n d_122_2 (Nat.le_add_left 3 _) rfl
theorem d_122_3 : decode (mB 122) 3 = .ok (.iload_n 2, 1) := by decide +kernel
theorem s_122_3 {d : Nat} {Q : wQ} {L : List (Option Value)} {st : List Value} {w : aw} {cn sn : Nat} {a0 a1 : Option Value} {v : Int32} : wp d 122 Q 3 (a0 :: a1 :: some (.int v) :: L) st w cn sn = wp d 122 Q 4 (a0 :: a1 :: some (.int v) :: L) (.int v :: st) w cn sn := w_iload_n d_122_3 rfl
theorem d_122_4 : decode (mB 122) 4 = .ok (.ifCond .lt 35, 3) := by decide +kernel
theorem s_122_4 {d : Nat} {Q : wQ} {L : List (Option Value)} {st : List Value} {w : aw} {cn sn : Nat} {x : Int32} : wp d 122 Q 4 L (.int x :: st) w cn sn = ((x < 0 → wp d 122 Q 39 L st w cn sn) ∧ (¬ x < 0 → wp d 122 Q 7 L st w cn sn)) := w_iflt d_122_4 (by decide)
theorem d_122_7 : decode (mB 122) 7 = .ok (.aload_n 0, 1) := by decide +kernel
theorem s_122_7 {d : Nat} {Q : wQ} {L : List (Option Value)} {st : List Value} {w : aw} {cn sn : Nat} {v : Nat} : wp d 122 Q 7 (some (.ref v) :: L) st w cn sn = wp d 122 Q 8 (some (.ref v) :: L) (.ref v :: st) w cn sn := w_aload_n d_122_7 rfl
theorem d_122_8 : decode (mB 122) 8 = .ok (.getfield 72, 3) := by decide +kernel
theorem s_122_8 {d : Nat} {Q : wQ} {L : List (Option Value)} {st : List Value} {w : aw} {cn sn : Nat} {a : Nat} : wp d 122 Q 8 L (.ref a :: st) w cn sn = (kd w a = 9 ∧ wp d 122 Q 11 L (fd w 542 a :: st) w cn sn) := w_getfield d_122_8 (by decide +kernel : fT (mO 122) 72 = some (8, 30))
theorem d_122_11 : decode (mB 122) 11 = .ok (.aload_n 0, 1) := by decide +kernel
theorem s_122_11 {d : Nat} {Q : wQ} {L : List (Option Value)} {st : List Value} {w : aw} {cn sn : Nat} {v : Nat} : wp d 122 Q 11 (some (.ref v) :: L) st w cn sn = wp d 122 Q 12 (some (.ref v) :: L) (.ref v :: st) w cn sn := w_aload_n d_122_11 rfl
theorem d_122_12 : decode (mB 122) 12 = .ok (.getfield 193, 3) := by decide +kernel
theorem s_122_12 {d : Nat} {Q : wQ} {L : List (Option Value)} {st : List Value} {w : aw} {cn sn : Nat} {a : Nat} : wp d 122 Q 12 L (.ref a :: st) w cn sn = (kd w a = 9 ∧ wp d 122 Q 15 L (fd w 543 a :: st) w cn sn) := w_getfield d_122_12 (by decide +kernel : fT (mO 122) 193 = some (8, 31))
theorem d_122_15 : decode (mB 122) 15 = .ok (.iload_n 1, 1) := by decide +kernel
theorem s_122_15 {d : Nat} {Q : wQ} {L : List (Option Value)} {st : List Value} {w : aw} {cn sn : Nat} {a0 : Option Value} {v : Int32} : wp d 122 Q 15 (a0 :: some (.int v) :: L) st w cn sn = wp d 122 Q 16 (a0 :: some (.int v) :: L) (.int v :: st) w cn sn := w_iload_n d_122_15 rfl
theorem d_122_16 : decode (mB 122) 16 = .ok (.iload_n 2, 1) := by decide +kernel
theorem s_122_16 {d : Nat} {Q : wQ} {L : List (Option Value)} {st : List Value} {w : aw} {cn sn : Nat} {a0 a1 : Option Value} {v : Int32} : wp d 122 Q 16 (a0 :: a1 :: some (.int v) :: L) st w cn sn = wp d 122 Q 17 (a0 :: a1 :: some (.int v) :: L) (.int v :: st) w cn sn := w_iload_n d_122_16 rfl
theorem d_122_17 : decode (mB 122) 17 = .ok (.ishr, 1) := by decide +kernel
theorem s_122_17 {d : Nat} {Q : wQ} {L : List (Option Value)} {st : List Value} {w : aw} {cn sn : Nat} {a b : Int32} : wp d 122 Q 17 L (.int b :: .int a :: st) w cn sn = wp d 122 Q 18 L (.int (a >>> (b &&& 31)) :: st) w cn sn := wp_row d_122_17 _ _ _ _ _
theorem d_122_18 : decode (mB 122) 18 = .ok (.sipush 255, 3) := by decide +kernel
theorem s_122_18 {d : Nat} {Q : wQ} {L : List (Option Value)} {st : List Value} {w : aw} {cn sn : Nat}  : wp d 122 Q 18 L st w cn sn = wp d 122 Q 21 L (.int 255 :: st) w cn sn := w_sipush d_122_18 (by decide)
theorem d_122_21 : decode (mB 122) 21 = .ok (.iand, 1) := by decide +kernel
theorem s_122_21 {d : Nat} {Q : wQ} {L : List (Option Value)} {st : List Value} {w : aw} {cn sn : Nat} {a b : Int32} : wp d 122 Q 21 L (.int b :: .int a :: st) w cn sn = wp d 122 Q 22 L (.int (a &&& b) :: st) w cn sn := wp_row d_122_21 _ _ _ _ _
theorem d_122_22 : decode (mB 122) 22 = .ok (.iastore, 1) := by decide +kernel
theorem s_122_22 {d : Nat} {Q : wQ} {L : List (Option Value)} {st : List Value} {w : aw} {cn sn : Nat} {a : Nat} {i x : Int32} : wp d 122 Q 22 L (.int x :: .int i :: .ref a :: st) w cn sn = (kd w a = 20 ∧ inR i (ln w a) ∧ wp d 122 Q 23 L st (uA w a i.toNatClampNeg x) cn sn) := wp_row d_122_22 _ _ _ _ _
theorem d_122_23 : decode (mB 122) 23 = .ok (.aload_n 0, 1) := by decide +kernel
theorem s_122_23 {d : Nat} {Q : wQ} {L : List (Option Value)} {st : List Value} {w : aw} {cn sn : Nat} {v : Nat} : wp d 122 Q 23 (some (.ref v) :: L) st w cn sn = wp d 122 Q 24 (some (.ref v) :: L) (.ref v :: st) w cn sn := w_aload_n d_122_23 rfl
theorem d_122_24 : decode (mB 122) 24 = .ok (.dup, 1) := by decide +kernel
theorem s_122_24 {d : Nat} {Q : wQ} {L : List (Option Value)} {st : List Value} {w : aw} {cn sn : Nat} {v : Value} : wp d 122 Q 24 L (v :: st) w cn sn = (v.category = 1 ∧ wp d 122 Q 25 L (v :: v :: st) w cn sn) := wp_row d_122_24 _ _ _ _ _
theorem d_122_25 : decode (mB 122) 25 = .ok (.getfield 193, 3) := by decide +kernel
theorem s_122_25 {d : Nat} {Q : wQ} {L : List (Option Value)} {st : List Value} {w : aw} {cn sn : Nat} {a : Nat} : wp d 122 Q 25 L (.ref a :: st) w cn sn = (kd w a = 9 ∧ wp d 122 Q 28 L (fd w 543 a :: st) w cn sn) := w_getfield d_122_25 (by decide +kernel : fT (mO 122) 193 = some (8, 31))
theorem d_122_28 : decode (mB 122) 28 = .ok (.iconst 1, 1) := by decide +kernel
theorem s_122_28 {d : Nat} {Q : wQ} {L : List (Option Value)} {st : List Value} {w : aw} {cn sn : Nat}  : wp d 122 Q 28 L st w cn sn = wp d 122 Q 29 L (.int 1 :: st) w cn sn := w_iconst d_122_28 (by decide)
theorem d_122_29 : decode (mB 122) 29 = .ok (.iadd, 1) := by decide +kernel
theorem s_122_29 {d : Nat} {Q : wQ} {L : List (Option Value)} {st : List Value} {w : aw} {cn sn : Nat} {a b : Int32} : wp d 122 Q 29 L (.int b :: .int a :: st) w cn sn = wp d 122 Q 30 L (.int (a + b) :: st) w cn sn := wp_row d_122_29 _ _ _ _ _
theorem d_122_30 : decode (mB 122) 30 = .ok (.putfield 193, 3) := by decide +kernel
theorem s_122_30 {d : Nat} {Q : wQ} {L : List (Option Value)} {st : List Value} {w : aw} {cn sn : Nat} {x : Int32} {a : Nat} : wp d 122 Q 30 L (.int x :: .ref a :: st) w cn sn = (kd w a = 9 ∧ wp d 122 Q 33 L st (uF w 543 a (.int x)) cn sn) := w_putfield d_122_30 (by decide +kernel : fT (mO 122) 193 = some (8, 31)) (by decide +kernel) ok_int
theorem d_122_33 : decode (mB 122) 33 = .ok (.iinc 2 (-8), 3) := by decide +kernel
theorem s_122_33 {d : Nat} {Q : wQ} {L : List (Option Value)} {st : List Value} {w : aw} {cn sn : Nat} {a0 a1 : Option Value} {v : Int32} : wp d 122 Q 33 (a0 :: a1 :: some (.int v) :: L) st w cn sn = wp d 122 Q 36 (a0 :: clr a1 :: some (.int (v + (-8))) :: L) st w cn sn := w_iinc d_122_33 rfl (by decide) rfl
theorem d_122_36 : decode (mB 122) 36 = .ok (.goto (-33), 3) := by decide +kernel
theorem s_122_36 {d : Nat} {Q : wQ} {L : List (Option Value)} {st : List Value} {w : aw} {cn sn : Nat}  : wp d 122 Q 36 L st w cn sn = wp d 122 Q 3 L st w cn sn := w_goto d_122_36 (by decide)
theorem d_122_39 : decode (mB 122) 39 = .ok (.return_, 1) := by decide +kernel
theorem s_122_39 {d : Nat} {Q : wQ} {L : List (Option Value)} {w : aw} {cn sn : Nat}  : wp d 122 Q 39 L [] w cn sn = Q none w := w_return d_122_39 rfl
theorem d_123_0 : decode (mB 123) 0 = .ok (.aload_n 0, 1) := by decide +kernel
theorem s_123_0 {d : Nat} {Q : wQ} {L : List (Option Value)} {st : List Value} {w : aw} {cn sn : Nat} {v : Nat} : wp d 123 Q 0 (some (.ref v) :: L) st w cn sn = wp d 123 Q 1 (some (.ref v) :: L) (.ref v :: st) w cn sn := w_aload_n d_123_0 rfl
theorem d_123_1 : decode (mB 123) 1 = .ok (.getfield 193, 3) := by decide +kernel
theorem s_123_1 {d : Nat} {Q : wQ} {L : List (Option Value)} {st : List Value} {w : aw} {cn sn : Nat} {a : Nat} : wp d 123 Q 1 L (.ref a :: st) w cn sn = (kd w a = 9 ∧ wp d 123 Q 4 L (fd w 543 a :: st) w cn sn) := w_getfield d_123_1 (by decide +kernel : fT (mO 123) 193 = some (8, 31))
theorem d_123_4 : decode (mB 123) 4 = .ok (.bipush 20, 2) := by decide +kernel
theorem s_123_4 {d : Nat} {Q : wQ} {L : List (Option Value)} {st : List Value} {w : aw} {cn sn : Nat}  : wp d 123 Q 4 L st w cn sn = wp d 123 Q 6 L (.int 20 :: st) w cn sn := w_bipush d_123_4 (by decide)
theorem d_123_6 : decode (mB 123) 6 = .ok (.iadd, 1) := by decide +kernel
theorem s_123_6 {d : Nat} {Q : wQ} {L : List (Option Value)} {st : List Value} {w : aw} {cn sn : Nat} {a b : Int32} : wp d 123 Q 6 L (.int b :: .int a :: st) w cn sn = wp d 123 Q 7 L (.int (a + b) :: st) w cn sn := wp_row d_123_6 _ _ _ _ _
theorem d_123_7 : decode (mB 123) 7 = .ok (.sipush 8000, 3) := by decide +kernel
theorem s_123_7 {d : Nat} {Q : wQ} {L : List (Option Value)} {st : List Value} {w : aw} {cn sn : Nat}  : wp d 123 Q 7 L st w cn sn = wp d 123 Q 10 L (.int 8000 :: st) w cn sn := w_sipush d_123_7 (by decide)
theorem d_123_10 : decode (mB 123) 10 = .ok (.if_icmp .le 5, 3) := by decide +kernel
theorem s_123_10 {d : Nat} {Q : wQ} {L : List (Option Value)} {st : List Value} {w : aw} {cn sn : Nat} {a b : Int32} : wp d 123 Q 10 L (.int b :: .int a :: st) w cn sn = ((a ≤ b → wp d 123 Q 15 L st w cn sn) ∧ (¬ a ≤ b → wp d 123 Q 13 L st w cn sn)) := w_icle d_123_10 (by decide)
theorem d_123_13 : decode (mB 123) 13 = .ok (.iconst (-1), 1) := by decide +kernel
theorem s_123_13 {d : Nat} {Q : wQ} {L : List (Option Value)} {st : List Value} {w : aw} {cn sn : Nat}  : wp d 123 Q 13 L st w cn sn = wp d 123 Q 14 L (.int (-1) :: st) w cn sn := w_iconst d_123_13 (by decide)
theorem d_123_14 : decode (mB 123) 14 = .ok (.ireturn, 1) := by decide +kernel
theorem s_123_14 {d : Nat} {Q : wQ} {L : List (Option Value)} {w : aw} {cn sn : Nat} {v : Int32} : wp d 123 Q 14 L [.int v] w cn sn = Q (some (.int v)) w := w_ireturn d_123_14 rfl
theorem d_123_15 : decode (mB 123) 15 = .ok (.aload_n 0, 1) := by decide +kernel
theorem s_123_15 {d : Nat} {Q : wQ} {L : List (Option Value)} {st : List Value} {w : aw} {cn sn : Nat} {v : Nat} : wp d 123 Q 15 (some (.ref v) :: L) st w cn sn = wp d 123 Q 16 (some (.ref v) :: L) (.ref v :: st) w cn sn := w_aload_n d_123_15 rfl
theorem d_123_16 : decode (mB 123) 16 = .ok (.iload_n 1, 1) := by decide +kernel
theorem s_123_16 {d : Nat} {Q : wQ} {L : List (Option Value)} {st : List Value} {w : aw} {cn sn : Nat} {a0 : Option Value} {v : Int32} : wp d 123 Q 16 (a0 :: some (.int v) :: L) st w cn sn = wp d 123 Q 17 (a0 :: some (.int v) :: L) (.int v :: st) w cn sn := w_iload_n d_123_16 rfl
theorem d_123_17 : decode (mB 123) 17 = .ok (.invokevirtual 196, 3) := by decide +kernel
theorem s_123_17 {d : Nat} {Q : wQ} {L : List (Option Value)} {st : List Value} {w : aw} {cn sn : Nat} {v0 : Value} {b : Nat} : wp d 123 Q 17 L (v0 :: .ref b :: st) w cn sn = (kd w b = 9 ∧ catS st ≤ 8 ∧ wpD d 122 [.ref b, v0] w (fun v w' => wp d 123 Q 20 L (v.toList ++ st) w' cn sn)) := w_virtual (As := [v0]) d_123_17 (by decide +kernel : cT (mO 123) 196 = some (0, 122)) rfl (by decide +kernel) rfl (by decide +kernel) rfl
theorem d_123_20 : decode (mB 123) 20 = .ok (.aload_n 0, 1) := by decide +kernel
theorem s_123_20 {d : Nat} {Q : wQ} {L : List (Option Value)} {st : List Value} {w : aw} {cn sn : Nat} {v : Nat} : wp d 123 Q 20 (some (.ref v) :: L) st w cn sn = wp d 123 Q 21 (some (.ref v) :: L) (.ref v :: st) w cn sn := w_aload_n d_123_20 rfl
theorem d_123_21 : decode (mB 123) 21 = .ok (.iload_n 2, 1) := by decide +kernel
theorem s_123_21 {d : Nat} {Q : wQ} {L : List (Option Value)} {st : List Value} {w : aw} {cn sn : Nat} {a0 a1 : Option Value} {v : Int32} : wp d 123 Q 21 (a0 :: a1 :: some (.int v) :: L) st w cn sn = wp d 123 Q 22 (a0 :: a1 :: some (.int v) :: L) (.int v :: st) w cn sn := w_iload_n d_123_21 rfl
theorem d_123_22 : decode (mB 123) 22 = .ok (.invokevirtual 196, 3) := by decide +kernel
theorem s_123_22 {d : Nat} {Q : wQ} {L : List (Option Value)} {st : List Value} {w : aw} {cn sn : Nat} {v0 : Value} {b : Nat} : wp d 123 Q 22 L (v0 :: .ref b :: st) w cn sn = (kd w b = 9 ∧ catS st ≤ 8 ∧ wpD d 122 [.ref b, v0] w (fun v w' => wp d 123 Q 25 L (v.toList ++ st) w' cn sn)) := w_virtual (As := [v0]) d_123_22 (by decide +kernel : cT (mO 123) 196 = some (0, 122)) rfl (by decide +kernel) rfl (by decide +kernel) rfl
theorem d_123_25 : decode (mB 123) 25 = .ok (.aload_n 0, 1) := by decide +kernel
theorem s_123_25 {d : Nat} {Q : wQ} {L : List (Option Value)} {st : List Value} {w : aw} {cn sn : Nat} {v : Nat} : wp d 123 Q 25 (some (.ref v) :: L) st w cn sn = wp d 123 Q 26 (some (.ref v) :: L) (.ref v :: st) w cn sn := w_aload_n d_123_25 rfl
theorem d_123_26 : decode (mB 123) 26 = .ok (.iload_n 3, 1) := by decide +kernel
theorem s_123_26 {d : Nat} {Q : wQ} {L : List (Option Value)} {st : List Value} {w : aw} {cn sn : Nat} {a0 a1 a2 : Option Value} {v : Int32} : wp d 123 Q 26 (a0 :: a1 :: a2 :: some (.int v) :: L) st w cn sn = wp d 123 Q 27 (a0 :: a1 :: a2 :: some (.int v) :: L) (.int v :: st) w cn sn := w_iload_n d_123_26 rfl
theorem d_123_27 : decode (mB 123) 27 = .ok (.invokevirtual 196, 3) := by decide +kernel
theorem s_123_27 {d : Nat} {Q : wQ} {L : List (Option Value)} {st : List Value} {w : aw} {cn sn : Nat} {v0 : Value} {b : Nat} : wp d 123 Q 27 L (v0 :: .ref b :: st) w cn sn = (kd w b = 9 ∧ catS st ≤ 8 ∧ wpD d 122 [.ref b, v0] w (fun v w' => wp d 123 Q 30 L (v.toList ++ st) w' cn sn)) := w_virtual (As := [v0]) d_123_27 (by decide +kernel : cT (mO 123) 196 = some (0, 122)) rfl (by decide +kernel) rfl (by decide +kernel) rfl
theorem d_123_30 : decode (mB 123) 30 = .ok (.aload_n 0, 1) := by decide +kernel
theorem s_123_30 {d : Nat} {Q : wQ} {L : List (Option Value)} {st : List Value} {w : aw} {cn sn : Nat} {v : Nat} : wp d 123 Q 30 (some (.ref v) :: L) st w cn sn = wp d 123 Q 31 (some (.ref v) :: L) (.ref v :: st) w cn sn := w_aload_n d_123_30 rfl
theorem d_123_31 : decode (mB 123) 31 = .ok (.iload 4, 2) := by decide +kernel
theorem s_123_31 {d : Nat} {Q : wQ} {L : List (Option Value)} {st : List Value} {w : aw} {cn sn : Nat} {a0 a1 a2 a3 : Option Value} {v : Int32} : wp d 123 Q 31 (a0 :: a1 :: a2 :: a3 :: some (.int v) :: L) st w cn sn = wp d 123 Q 33 (a0 :: a1 :: a2 :: a3 :: some (.int v) :: L) (.int v :: st) w cn sn := w_iload d_123_31 rfl
theorem d_123_33 : decode (mB 123) 33 = .ok (.invokevirtual 196, 3) := by decide +kernel
theorem s_123_33 {d : Nat} {Q : wQ} {L : List (Option Value)} {st : List Value} {w : aw} {cn sn : Nat} {v0 : Value} {b : Nat} : wp d 123 Q 33 L (v0 :: .ref b :: st) w cn sn = (kd w b = 9 ∧ catS st ≤ 8 ∧ wpD d 122 [.ref b, v0] w (fun v w' => wp d 123 Q 36 L (v.toList ++ st) w' cn sn)) := w_virtual (As := [v0]) d_123_33 (by decide +kernel : cT (mO 123) 196 = some (0, 122)) rfl (by decide +kernel) rfl (by decide +kernel) rfl
theorem d_123_36 : decode (mB 123) 36 = .ok (.aload_n 0, 1) := by decide +kernel
theorem s_123_36 {d : Nat} {Q : wQ} {L : List (Option Value)} {st : List Value} {w : aw} {cn sn : Nat} {v : Nat} : wp d 123 Q 36 (some (.ref v) :: L) st w cn sn = wp d 123 Q 37 (some (.ref v) :: L) (.ref v :: st) w cn sn := w_aload_n d_123_36 rfl
theorem d_123_37 : decode (mB 123) 37 = .ok (.iload 5, 2) := by decide +kernel
theorem s_123_37 {d : Nat} {Q : wQ} {L : List (Option Value)} {st : List Value} {w : aw} {cn sn : Nat} {a0 a1 a2 a3 a4 : Option Value} {v : Int32} : wp d 123 Q 37 (a0 :: a1 :: a2 :: a3 :: a4 :: some (.int v) :: L) st w cn sn = wp d 123 Q 39 (a0 :: a1 :: a2 :: a3 :: a4 :: some (.int v) :: L) (.int v :: st) w cn sn := w_iload d_123_37 rfl
theorem d_123_39 : decode (mB 123) 39 = .ok (.invokevirtual 196, 3) := by decide +kernel
theorem s_123_39 {d : Nat} {Q : wQ} {L : List (Option Value)} {st : List Value} {w : aw} {cn sn : Nat} {v0 : Value} {b : Nat} : wp d 123 Q 39 L (v0 :: .ref b :: st) w cn sn = (kd w b = 9 ∧ catS st ≤ 8 ∧ wpD d 122 [.ref b, v0] w (fun v w' => wp d 123 Q 42 L (v.toList ++ st) w' cn sn)) := w_virtual (As := [v0]) d_123_39 (by decide +kernel : cT (mO 123) 196 = some (0, 122)) rfl (by decide +kernel) rfl (by decide +kernel) rfl
theorem d_123_42 : decode (mB 123) 42 = .ok (.aload_n 0, 1) := by decide +kernel
theorem s_123_42 {d : Nat} {Q : wQ} {L : List (Option Value)} {st : List Value} {w : aw} {cn sn : Nat} {v : Nat} : wp d 123 Q 42 (some (.ref v) :: L) st w cn sn = wp d 123 Q 43 (some (.ref v) :: L) (.ref v :: st) w cn sn := w_aload_n d_123_42 rfl
theorem d_123_43 : decode (mB 123) 43 = .ok (.getfield 193, 3) := by decide +kernel
theorem s_123_43 {d : Nat} {Q : wQ} {L : List (Option Value)} {st : List Value} {w : aw} {cn sn : Nat} {a : Nat} : wp d 123 Q 43 L (.ref a :: st) w cn sn = (kd w a = 9 ∧ wp d 123 Q 46 L (fd w 543 a :: st) w cn sn) := w_getfield d_123_43 (by decide +kernel : fT (mO 123) 193 = some (8, 31))
theorem d_123_46 : decode (mB 123) 46 = .ok (.ireturn, 1) := by decide +kernel
theorem s_123_46 {d : Nat} {Q : wQ} {L : List (Option Value)} {w : aw} {cn sn : Nat} {v : Int32} : wp d 123 Q 46 L [.int v] w cn sn = Q (some (.int v)) w := w_ireturn d_123_46 rfl
theorem d_124_0 : decode (mB 124) 0 = .ok (.iload_n 1, 1) := by decide +kernel
theorem s_124_0 {d : Nat} {Q : wQ} {L : List (Option Value)} {st : List Value} {w : aw} {cn sn : Nat} {a0 : Option Value} {v : Int32} : wp d 124 Q 0 (a0 :: some (.int v) :: L) st w cn sn = wp d 124 Q 1 (a0 :: some (.int v) :: L) (.int v :: st) w cn sn := w_iload_n d_124_0 rfl
theorem d_124_1 : decode (mB 124) 1 = .ok (.iconst 0, 1) := by decide +kernel
theorem s_124_1 {d : Nat} {Q : wQ} {L : List (Option Value)} {st : List Value} {w : aw} {cn sn : Nat}  : wp d 124 Q 1 L st w cn sn = wp d 124 Q 2 L (.int 0 :: st) w cn sn := w_iconst d_124_1 (by decide)
theorem d_124_2 : decode (mB 124) 2 = .ok (.aload_n 0, 1) := by decide +kernel
theorem s_124_2 {d : Nat} {Q : wQ} {L : List (Option Value)} {st : List Value} {w : aw} {cn sn : Nat} {v : Nat} : wp d 124 Q 2 (some (.ref v) :: L) st w cn sn = wp d 124 Q 3 (some (.ref v) :: L) (.ref v :: st) w cn sn := w_aload_n d_124_2 rfl
theorem d_124_3 : decode (mB 124) 3 = .ok (.getfield 193, 3) := by decide +kernel
theorem s_124_3 {d : Nat} {Q : wQ} {L : List (Option Value)} {st : List Value} {w : aw} {cn sn : Nat} {a : Nat} : wp d 124 Q 3 L (.ref a :: st) w cn sn = (kd w a = 9 ∧ wp d 124 Q 6 L (fd w 543 a :: st) w cn sn) := w_getfield d_124_3 (by decide +kernel : fT (mO 124) 193 = some (8, 31))
theorem d_124_6 : decode (mB 124) 6 = .ok (.invokestatic 111, 3) := by decide +kernel
theorem s_124_6 {d : Nat} {Q : wQ} {L : List (Option Value)} {st : List Value} {w : aw} {cn sn : Nat} {v0 v1 v2 : Value} : wp d 124 Q 6 L (v2 :: v1 :: v0 :: st) w cn sn = (catS st ≤ 8 ∧ wpD d 103 [v0, v1, v2] w (fun v w' => wp d 124 Q 9 L (v.toList ++ st) w' cn sn)) := w_static (As := [v0, v1, v2]) d_124_6 (by decide +kernel : cT (mO 124) 111 = some (2, 103)) rfl (by decide +kernel) rfl
theorem d_124_9 : decode (mB 124) 9 = .ok (.ifCond .ne 5, 3) := by decide +kernel
theorem s_124_9 {d : Nat} {Q : wQ} {L : List (Option Value)} {st : List Value} {w : aw} {cn sn : Nat} {x : Int32} : wp d 124 Q 9 L (.int x :: st) w cn sn = ((¬ x = 0 → wp d 124 Q 14 L st w cn sn) ∧ (x = 0 → wp d 124 Q 12 L st w cn sn)) := w_ifne d_124_9 (by decide)
theorem d_124_12 : decode (mB 124) 12 = .ok (.iconst (-1), 1) := by decide +kernel
theorem s_124_12 {d : Nat} {Q : wQ} {L : List (Option Value)} {st : List Value} {w : aw} {cn sn : Nat}  : wp d 124 Q 12 L st w cn sn = wp d 124 Q 13 L (.int (-1) :: st) w cn sn := w_iconst d_124_12 (by decide)
theorem d_124_13 : decode (mB 124) 13 = .ok (.ireturn, 1) := by decide +kernel
theorem s_124_13 {d : Nat} {Q : wQ} {L : List (Option Value)} {w : aw} {cn sn : Nat} {v : Int32} : wp d 124 Q 13 L [.int v] w cn sn = Q (some (.int v)) w := w_ireturn d_124_13 rfl
theorem d_124_14 : decode (mB 124) 14 = .ok (.aload_n 0, 1) := by decide +kernel
theorem s_124_14 {d : Nat} {Q : wQ} {L : List (Option Value)} {st : List Value} {w : aw} {cn sn : Nat} {v : Nat} : wp d 124 Q 14 (some (.ref v) :: L) st w cn sn = wp d 124 Q 15 (some (.ref v) :: L) (.ref v :: st) w cn sn := w_aload_n d_124_14 rfl
theorem d_124_15 : decode (mB 124) 15 = .ok (.iload_n 1, 1) := by decide +kernel
theorem s_124_15 {d : Nat} {Q : wQ} {L : List (Option Value)} {st : List Value} {w : aw} {cn sn : Nat} {a0 : Option Value} {v : Int32} : wp d 124 Q 15 (a0 :: some (.int v) :: L) st w cn sn = wp d 124 Q 16 (a0 :: some (.int v) :: L) (.int v :: st) w cn sn := w_iload_n d_124_15 rfl
theorem d_124_16 : decode (mB 124) 16 = .ok (.putfield 193, 3) := by decide +kernel
theorem s_124_16 {d : Nat} {Q : wQ} {L : List (Option Value)} {st : List Value} {w : aw} {cn sn : Nat} {x : Int32} {a : Nat} : wp d 124 Q 16 L (.int x :: .ref a :: st) w cn sn = (kd w a = 9 ∧ wp d 124 Q 19 L st (uF w 543 a (.int x)) cn sn) := w_putfield d_124_16 (by decide +kernel : fT (mO 124) 193 = some (8, 31)) (by decide +kernel) ok_int
theorem d_124_19 : decode (mB 124) 19 = .ok (.iload_n 1, 1) := by decide +kernel
theorem s_124_19 {d : Nat} {Q : wQ} {L : List (Option Value)} {st : List Value} {w : aw} {cn sn : Nat} {a0 : Option Value} {v : Int32} : wp d 124 Q 19 (a0 :: some (.int v) :: L) st w cn sn = wp d 124 Q 20 (a0 :: some (.int v) :: L) (.int v :: st) w cn sn := w_iload_n d_124_19 rfl
theorem d_124_20 : decode (mB 124) 20 = .ok (.ireturn, 1) := by decide +kernel
theorem s_124_20 {d : Nat} {Q : wQ} {L : List (Option Value)} {w : aw} {cn sn : Nat} {v : Int32} : wp d 124 Q 20 L [.int v] w cn sn = Q (some (.int v)) w := w_ireturn d_124_20 rfl
