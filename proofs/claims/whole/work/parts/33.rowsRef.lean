theorem d_119_0 : decode (mB 119) 0 = .ok (.aload_n 0, 1) := by decide +kernel
theorem s_119_0 {d : Nat} {Q : wQ} {L : List (Option Value)} {st : List Value} {w : aw} {cn sn : Nat} {v : Nat} : wp d 119 Q 0 (some (.ref v) :: L) st w cn sn = wp d 119 Q 1 (some (.ref v) :: L) (.ref v :: st) w cn sn := w_aload_n d_119_0 rfl
theorem d_119_1 : decode (mB 119) 1 = .ok (.getfield 39, 3) := by decide +kernel
theorem s_119_1 {d : Nat} {Q : wQ} {L : List (Option Value)} {st : List Value} {w : aw} {cn sn : Nat} {a : Nat} : wp d 119 Q 1 L (.ref a :: st) w cn sn = (kd w a = 9 ∧ wp d 119 Q 4 L (fd w 531 a :: st) w cn sn) := w_getfield d_119_1 (by decide +kernel : fT (mO 119) 39 = some (8, 19))
theorem d_119_4 : decode (mB 119) 4 = .ok (.iload_n 1, 1) := by decide +kernel
theorem s_119_4 {d : Nat} {Q : wQ} {L : List (Option Value)} {st : List Value} {w : aw} {cn sn : Nat} {a0 : Option Value} {v : Int32} : wp d 119 Q 4 (a0 :: some (.int v) :: L) st w cn sn = wp d 119 Q 5 (a0 :: some (.int v) :: L) (.int v :: st) w cn sn := w_iload_n d_119_4 rfl
theorem d_119_5 : decode (mB 119) 5 = .ok (.iconst 1, 1) := by decide +kernel
theorem s_119_5 {d : Nat} {Q : wQ} {L : List (Option Value)} {st : List Value} {w : aw} {cn sn : Nat}  : wp d 119 Q 5 L st w cn sn = wp d 119 Q 6 L (.int 1 :: st) w cn sn := w_iconst d_119_5 (by decide)
theorem d_119_6 : decode (mB 119) 6 = .ok (.iastore, 1) := by decide +kernel
theorem s_119_6 {d : Nat} {Q : wQ} {L : List (Option Value)} {st : List Value} {w : aw} {cn sn : Nat} {a : Nat} {i x : Int32} : wp d 119 Q 6 L (.int x :: .int i :: .ref a :: st) w cn sn = (kd w a = 20 ∧ inR i (ln w a) ∧ wp d 119 Q 7 L st (uA w a i.toNatClampNeg x) cn sn) := wp_row d_119_6 _ _ _ _ _
theorem d_119_7 : decode (mB 119) 7 = .ok (.aload_n 0, 1) := by decide +kernel
theorem s_119_7 {d : Nat} {Q : wQ} {L : List (Option Value)} {st : List Value} {w : aw} {cn sn : Nat} {v : Nat} : wp d 119 Q 7 (some (.ref v) :: L) st w cn sn = wp d 119 Q 8 (some (.ref v) :: L) (.ref v :: st) w cn sn := w_aload_n d_119_7 rfl
theorem d_119_8 : decode (mB 119) 8 = .ok (.getfield 16, 3) := by decide +kernel
theorem s_119_8 {d : Nat} {Q : wQ} {L : List (Option Value)} {st : List Value} {w : aw} {cn sn : Nat} {a : Nat} : wp d 119 Q 8 L (.ref a :: st) w cn sn = (kd w a = 9 ∧ wp d 119 Q 11 L (fd w 523 a :: st) w cn sn) := w_getfield d_119_8 (by decide +kernel : fT (mO 119) 16 = some (8, 11))
theorem d_119_11 : decode (mB 119) 11 = .ok (.aload_n 0, 1) := by decide +kernel
theorem s_119_11 {d : Nat} {Q : wQ} {L : List (Option Value)} {st : List Value} {w : aw} {cn sn : Nat} {v : Nat} : wp d 119 Q 11 (some (.ref v) :: L) st w cn sn = wp d 119 Q 12 (some (.ref v) :: L) (.ref v :: st) w cn sn := w_aload_n d_119_11 rfl
theorem d_119_12 : decode (mB 119) 12 = .ok (.getfield 156, 3) := by decide +kernel
theorem s_119_12 {d : Nat} {Q : wQ} {L : List (Option Value)} {st : List Value} {w : aw} {cn sn : Nat} {a : Nat} : wp d 119 Q 12 L (.ref a :: st) w cn sn = (kd w a = 9 ∧ wp d 119 Q 15 L (fd w 524 a :: st) w cn sn) := w_getfield d_119_12 (by decide +kernel : fT (mO 119) 156 = some (8, 12))
theorem d_119_15 : decode (mB 119) 15 = .ok (.iload_n 1, 1) := by decide +kernel
theorem s_119_15 {d : Nat} {Q : wQ} {L : List (Option Value)} {st : List Value} {w : aw} {cn sn : Nat} {a0 : Option Value} {v : Int32} : wp d 119 Q 15 (a0 :: some (.int v) :: L) st w cn sn = wp d 119 Q 16 (a0 :: some (.int v) :: L) (.int v :: st) w cn sn := w_iload_n d_119_15 rfl
theorem d_119_16 : decode (mB 119) 16 = .ok (.iastore, 1) := by decide +kernel
theorem s_119_16 {d : Nat} {Q : wQ} {L : List (Option Value)} {st : List Value} {w : aw} {cn sn : Nat} {a : Nat} {i x : Int32} : wp d 119 Q 16 L (.int x :: .int i :: .ref a :: st) w cn sn = (kd w a = 20 ∧ inR i (ln w a) ∧ wp d 119 Q 17 L st (uA w a i.toNatClampNeg x) cn sn) := wp_row d_119_16 _ _ _ _ _
theorem d_119_17 : decode (mB 119) 17 = .ok (.aload_n 0, 1) := by decide +kernel
theorem s_119_17 {d : Nat} {Q : wQ} {L : List (Option Value)} {st : List Value} {w : aw} {cn sn : Nat} {v : Nat} : wp d 119 Q 17 (some (.ref v) :: L) st w cn sn = wp d 119 Q 18 (some (.ref v) :: L) (.ref v :: st) w cn sn := w_aload_n d_119_17 rfl
theorem d_119_18 : decode (mB 119) 18 = .ok (.dup, 1) := by decide +kernel
theorem s_119_18 {d : Nat} {Q : wQ} {L : List (Option Value)} {st : List Value} {w : aw} {cn sn : Nat} {v : Value} : wp d 119 Q 18 L (v :: st) w cn sn = (v.category = 1 ∧ wp d 119 Q 19 L (v :: v :: st) w cn sn) := wp_row d_119_18 _ _ _ _ _
theorem d_119_19 : decode (mB 119) 19 = .ok (.getfield 156, 3) := by decide +kernel
theorem s_119_19 {d : Nat} {Q : wQ} {L : List (Option Value)} {st : List Value} {w : aw} {cn sn : Nat} {a : Nat} : wp d 119 Q 19 L (.ref a :: st) w cn sn = (kd w a = 9 ∧ wp d 119 Q 22 L (fd w 524 a :: st) w cn sn) := w_getfield d_119_19 (by decide +kernel : fT (mO 119) 156 = some (8, 12))
theorem d_119_22 : decode (mB 119) 22 = .ok (.iconst 1, 1) := by decide +kernel
theorem s_119_22 {d : Nat} {Q : wQ} {L : List (Option Value)} {st : List Value} {w : aw} {cn sn : Nat}  : wp d 119 Q 22 L st w cn sn = wp d 119 Q 23 L (.int 1 :: st) w cn sn := w_iconst d_119_22 (by decide)
theorem d_119_23 : decode (mB 119) 23 = .ok (.iadd, 1) := by decide +kernel
theorem s_119_23 {d : Nat} {Q : wQ} {L : List (Option Value)} {st : List Value} {w : aw} {cn sn : Nat} {a b : Int32} : wp d 119 Q 23 L (.int b :: .int a :: st) w cn sn = wp d 119 Q 24 L (.int (a + b) :: st) w cn sn := wp_row d_119_23 _ _ _ _ _
theorem d_119_24 : decode (mB 119) 24 = .ok (.putfield 156, 3) := by decide +kernel
theorem s_119_24 {d : Nat} {Q : wQ} {L : List (Option Value)} {st : List Value} {w : aw} {cn sn : Nat} {x : Int32} {a : Nat} : wp d 119 Q 24 L (.int x :: .ref a :: st) w cn sn = (kd w a = 9 ∧ wp d 119 Q 27 L st (uF w 524 a (.int x)) cn sn) := w_putfield d_119_24 (by decide +kernel : fT (mO 119) 156 = some (8, 12)) (by decide +kernel) ok_int
theorem d_119_27 : decode (mB 119) 27 = .ok (.return_, 1) := by decide +kernel
theorem s_119_27 {d : Nat} {Q : wQ} {L : List (Option Value)} {w : aw} {cn sn : Nat}  : wp d 119 Q 27 L [] w cn sn = Q none w := w_return d_119_27 rfl
theorem d_120_0 : decode (mB 120) 0 = .ok (.aload_n 0, 1) := by decide +kernel
theorem s_120_0 {d : Nat} {Q : wQ} {L : List (Option Value)} {st : List Value} {w : aw} {cn sn : Nat} {v : Nat} : wp d 120 Q 0 (some (.ref v) :: L) st w cn sn = wp d 120 Q 1 (some (.ref v) :: L) (.ref v :: st) w cn sn := w_aload_n d_120_0 rfl
theorem d_120_1 : decode (mB 120) 1 = .ok (.dup, 1) := by decide +kernel
theorem s_120_1 {d : Nat} {Q : wQ} {L : List (Option Value)} {st : List Value} {w : aw} {cn sn : Nat} {v : Value} : wp d 120 Q 1 L (v :: st) w cn sn = (v.category = 1 ∧ wp d 120 Q 2 L (v :: v :: st) w cn sn) := wp_row d_120_1 _ _ _ _ _
theorem d_120_2 : decode (mB 120) 2 = .ok (.getfield 159, 3) := by decide +kernel
theorem s_120_2 {d : Nat} {Q : wQ} {L : List (Option Value)} {st : List Value} {w : aw} {cn sn : Nat} {a : Nat} : wp d 120 Q 2 L (.ref a :: st) w cn sn = (kd w a = 9 ∧ wp d 120 Q 5 L (fd w 517 a :: st) w cn sn) := w_getfield d_120_2 (by decide +kernel : fT (mO 120) 159 = some (8, 5))
theorem d_120_5 : decode (mB 120) 5 = .ok (.iconst 1, 1) := by decide +kernel
theorem s_120_5 {d : Nat} {Q : wQ} {L : List (Option Value)} {st : List Value} {w : aw} {cn sn : Nat}  : wp d 120 Q 5 L st w cn sn = wp d 120 Q 6 L (.int 1 :: st) w cn sn := w_iconst d_120_5 (by decide)
theorem d_120_6 : decode (mB 120) 6 = .ok (.iadd, 1) := by decide +kernel
theorem s_120_6 {d : Nat} {Q : wQ} {L : List (Option Value)} {st : List Value} {w : aw} {cn sn : Nat} {a b : Int32} : wp d 120 Q 6 L (.int b :: .int a :: st) w cn sn = wp d 120 Q 7 L (.int (a + b) :: st) w cn sn := wp_row d_120_6 _ _ _ _ _
theorem d_120_7 : decode (mB 120) 7 = .ok (.putfield 159, 3) := by decide +kernel
theorem s_120_7 {d : Nat} {Q : wQ} {L : List (Option Value)} {st : List Value} {w : aw} {cn sn : Nat} {x : Int32} {a : Nat} : wp d 120 Q 7 L (.int x :: .ref a :: st) w cn sn = (kd w a = 9 ∧ wp d 120 Q 10 L st (uF w 517 a (.int x)) cn sn) := w_putfield d_120_7 (by decide +kernel : fT (mO 120) 159 = some (8, 5)) (by decide +kernel) ok_int
theorem d_120_10 : decode (mB 120) 10 = .ok (.iconst 0, 1) := by decide +kernel
theorem s_120_10 {d : Nat} {Q : wQ} {L : List (Option Value)} {st : List Value} {w : aw} {cn sn : Nat}  : wp d 120 Q 10 L st w cn sn = wp d 120 Q 11 L (.int 0 :: st) w cn sn := w_iconst d_120_10 (by decide)
theorem d_120_11 : decode (mB 120) 11 = .ok (.istore_n 1, 1) := by decide +kernel
theorem s_120_11 {d : Nat} {Q : wQ} {L : List (Option Value)} {st : List Value} {w : aw} {cn sn : Nat} {a0 a1 : Option Value} {v : Int32} : wp d 120 Q 11 (a0 :: a1 :: L) (.int v :: st) w cn sn = wp d 120 Q 12 (clr a0 :: some (.int v) :: L) st w cn sn := w_istore_n d_120_11 (Nat.le_add_left 2 _) rfl
theorem d_120_12 : decode (mB 120) 12 = .ok (.iload_n 1, 1) := by decide +kernel
theorem s_120_12 {d : Nat} {Q : wQ} {L : List (Option Value)} {st : List Value} {w : aw} {cn sn : Nat} {a0 : Option Value} {v : Int32} : wp d 120 Q 12 (a0 :: some (.int v) :: L) st w cn sn = wp d 120 Q 13 (a0 :: some (.int v) :: L) (.int v :: st) w cn sn := w_iload_n d_120_12 rfl
theorem d_120_13 : decode (mB 120) 13 = .ok (.aload_n 0, 1) := by decide +kernel
theorem s_120_13 {d : Nat} {Q : wQ} {L : List (Option Value)} {st : List Value} {w : aw} {cn sn : Nat} {v : Nat} : wp d 120 Q 13 (some (.ref v) :: L) st w cn sn = wp d 120 Q 14 (some (.ref v) :: L) (.ref v :: st) w cn sn := w_aload_n d_120_13 rfl
theorem d_120_14 : decode (mB 120) 14 = .ok (.getfield 108, 3) := by decide +kernel
theorem s_120_14 {d : Nat} {Q : wQ} {L : List (Option Value)} {st : List Value} {w : aw} {cn sn : Nat} {a : Nat} : wp d 120 Q 14 L (.ref a :: st) w cn sn = (kd w a = 9 ∧ wp d 120 Q 17 L (fd w 512 a :: st) w cn sn) := w_getfield d_120_14 (by decide +kernel : fT (mO 120) 108 = some (8, 0))
theorem d_120_17 : decode (mB 120) 17 = .ok (.if_icmp .ge 110, 3) := by decide +kernel
theorem s_120_17 {d : Nat} {Q : wQ} {L : List (Option Value)} {st : List Value} {w : aw} {cn sn : Nat} {a b : Int32} : wp d 120 Q 17 L (.int b :: .int a :: st) w cn sn = ((b ≤ a → wp d 120 Q 127 L st w cn sn) ∧ (¬ b ≤ a → wp d 120 Q 20 L st w cn sn)) := w_icge d_120_17 (by decide)
theorem d_120_20 : decode (mB 120) 20 = .ok (.aload_n 0, 1) := by decide +kernel
theorem s_120_20 {d : Nat} {Q : wQ} {L : List (Option Value)} {st : List Value} {w : aw} {cn sn : Nat} {v : Nat} : wp d 120 Q 20 (some (.ref v) :: L) st w cn sn = wp d 120 Q 21 (some (.ref v) :: L) (.ref v :: st) w cn sn := w_aload_n d_120_20 rfl
theorem d_120_21 : decode (mB 120) 21 = .ok (.getfield 63, 3) := by decide +kernel
theorem s_120_21 {d : Nat} {Q : wQ} {L : List (Option Value)} {st : List Value} {w : aw} {cn sn : Nat} {a : Nat} : wp d 120 Q 21 L (.ref a :: st) w cn sn = (kd w a = 9 ∧ wp d 120 Q 24 L (fd w 539 a :: st) w cn sn) := w_getfield d_120_21 (by decide +kernel : fT (mO 120) 63 = some (8, 27))
theorem d_120_24 : decode (mB 120) 24 = .ok (.iload_n 1, 1) := by decide +kernel
theorem s_120_24 {d : Nat} {Q : wQ} {L : List (Option Value)} {st : List Value} {w : aw} {cn sn : Nat} {a0 : Option Value} {v : Int32} : wp d 120 Q 24 (a0 :: some (.int v) :: L) st w cn sn = wp d 120 Q 25 (a0 :: some (.int v) :: L) (.int v :: st) w cn sn := w_iload_n d_120_24 rfl
theorem d_120_25 : decode (mB 120) 25 = .ok (.iaload, 1) := by decide +kernel
theorem s_120_25 {d : Nat} {Q : wQ} {L : List (Option Value)} {st : List Value} {w : aw} {cn sn : Nat} {a : Nat} {i : Int32} : wp d 120 Q 25 L (.int i :: .ref a :: st) w cn sn = ((kd w a = 20 ∨ kd w a = 30) ∧ inR i (ln w a) ∧ wp d 120 Q 26 L (.int (ai w a i.toNatClampNeg) :: st) w cn sn) := wp_row d_120_25 _ _ _ _ _
theorem d_120_26 : decode (mB 120) 26 = .ok (.ifCond .le 61, 3) := by decide +kernel
theorem s_120_26 {d : Nat} {Q : wQ} {L : List (Option Value)} {st : List Value} {w : aw} {cn sn : Nat} {x : Int32} : wp d 120 Q 26 L (.int x :: st) w cn sn = ((x ≤ 0 → wp d 120 Q 87 L st w cn sn) ∧ (¬ x ≤ 0 → wp d 120 Q 29 L st w cn sn)) := w_ifle d_120_26 (by decide)
theorem d_120_29 : decode (mB 120) 29 = .ok (.aload_n 0, 1) := by decide +kernel
theorem s_120_29 {d : Nat} {Q : wQ} {L : List (Option Value)} {st : List Value} {w : aw} {cn sn : Nat} {v : Nat} : wp d 120 Q 29 (some (.ref v) :: L) st w cn sn = wp d 120 Q 30 (some (.ref v) :: L) (.ref v :: st) w cn sn := w_aload_n d_120_29 rfl
theorem d_120_30 : decode (mB 120) 30 = .ok (.getfield 66, 3) := by decide +kernel
theorem s_120_30 {d : Nat} {Q : wQ} {L : List (Option Value)} {st : List Value} {w : aw} {cn sn : Nat} {a : Nat} : wp d 120 Q 30 L (.ref a :: st) w cn sn = (kd w a = 9 ∧ wp d 120 Q 33 L (fd w 540 a :: st) w cn sn) := w_getfield d_120_30 (by decide +kernel : fT (mO 120) 66 = some (8, 28))
theorem d_120_33 : decode (mB 120) 33 = .ok (.sipush 512, 3) := by decide +kernel
theorem s_120_33 {d : Nat} {Q : wQ} {L : List (Option Value)} {st : List Value} {w : aw} {cn sn : Nat}  : wp d 120 Q 33 L st w cn sn = wp d 120 Q 36 L (.int 512 :: st) w cn sn := w_sipush d_120_33 (by decide)
theorem d_120_36 : decode (mB 120) 36 = .ok (.iload_n 1, 1) := by decide +kernel
theorem s_120_36 {d : Nat} {Q : wQ} {L : List (Option Value)} {st : List Value} {w : aw} {cn sn : Nat} {a0 : Option Value} {v : Int32} : wp d 120 Q 36 (a0 :: some (.int v) :: L) st w cn sn = wp d 120 Q 37 (a0 :: some (.int v) :: L) (.int v :: st) w cn sn := w_iload_n d_120_36 rfl
theorem d_120_37 : decode (mB 120) 37 = .ok (.imul, 1) := by decide +kernel
theorem s_120_37 {d : Nat} {Q : wQ} {L : List (Option Value)} {st : List Value} {w : aw} {cn sn : Nat} {a b : Int32} : wp d 120 Q 37 L (.int b :: .int a :: st) w cn sn = wp d 120 Q 38 L (.int (a * b) :: st) w cn sn := wp_row d_120_37 _ _ _ _ _
theorem d_120_38 : decode (mB 120) 38 = .ok (.aload_n 0, 1) := by decide +kernel
theorem s_120_38 {d : Nat} {Q : wQ} {L : List (Option Value)} {st : List Value} {w : aw} {cn sn : Nat} {v : Nat} : wp d 120 Q 38 (some (.ref v) :: L) st w cn sn = wp d 120 Q 39 (some (.ref v) :: L) (.ref v :: st) w cn sn := w_aload_n d_120_38 rfl
theorem d_120_39 : decode (mB 120) 39 = .ok (.getfield 69, 3) := by decide +kernel
theorem s_120_39 {d : Nat} {Q : wQ} {L : List (Option Value)} {st : List Value} {w : aw} {cn sn : Nat} {a : Nat} : wp d 120 Q 39 L (.ref a :: st) w cn sn = (kd w a = 9 ∧ wp d 120 Q 42 L (fd w 541 a :: st) w cn sn) := w_getfield d_120_39 (by decide +kernel : fT (mO 120) 69 = some (8, 29))
theorem d_120_42 : decode (mB 120) 42 = .ok (.iload_n 1, 1) := by decide +kernel
theorem s_120_42 {d : Nat} {Q : wQ} {L : List (Option Value)} {st : List Value} {w : aw} {cn sn : Nat} {a0 : Option Value} {v : Int32} : wp d 120 Q 42 (a0 :: some (.int v) :: L) st w cn sn = wp d 120 Q 43 (a0 :: some (.int v) :: L) (.int v :: st) w cn sn := w_iload_n d_120_42 rfl
theorem d_120_43 : decode (mB 120) 43 = .ok (.iaload, 1) := by decide +kernel
theorem s_120_43 {d : Nat} {Q : wQ} {L : List (Option Value)} {st : List Value} {w : aw} {cn sn : Nat} {a : Nat} {i : Int32} : wp d 120 Q 43 L (.int i :: .ref a :: st) w cn sn = ((kd w a = 20 ∨ kd w a = 30) ∧ inR i (ln w a) ∧ wp d 120 Q 44 L (.int (ai w a i.toNatClampNeg) :: st) w cn sn) := wp_row d_120_43 _ _ _ _ _
theorem d_120_44 : decode (mB 120) 44 = .ok (.sipush 512, 3) := by decide +kernel
theorem s_120_44 {d : Nat} {Q : wQ} {L : List (Option Value)} {st : List Value} {w : aw} {cn sn : Nat}  : wp d 120 Q 44 L st w cn sn = wp d 120 Q 47 L (.int 512 :: st) w cn sn := w_sipush d_120_44 (by decide)
theorem d_120_47 : decode (mB 120) 47 = .ok (.irem, 1) := by decide +kernel
theorem s_120_47 {d : Nat} {Q : wQ} {L : List (Option Value)} {st : List Value} {w : aw} {cn sn : Nat} {a b : Int32} : wp d 120 Q 47 L (.int b :: .int a :: st) w cn sn = (¬ b = 0 ∧ wp d 120 Q 48 L (.int (a - a / b * b) :: st) w cn sn) := wp_row d_120_47 _ _ _ _ _
theorem d_120_48 : decode (mB 120) 48 = .ok (.iadd, 1) := by decide +kernel
theorem s_120_48 {d : Nat} {Q : wQ} {L : List (Option Value)} {st : List Value} {w : aw} {cn sn : Nat} {a b : Int32} : wp d 120 Q 48 L (.int b :: .int a :: st) w cn sn = wp d 120 Q 49 L (.int (a + b) :: st) w cn sn := wp_row d_120_48 _ _ _ _ _
theorem d_120_49 : decode (mB 120) 49 = .ok (.aload_n 0, 1) := by decide +kernel
theorem s_120_49 {d : Nat} {Q : wQ} {L : List (Option Value)} {st : List Value} {w : aw} {cn sn : Nat} {v : Nat} : wp d 120 Q 49 (some (.ref v) :: L) st w cn sn = wp d 120 Q 50 (some (.ref v) :: L) (.ref v :: st) w cn sn := w_aload_n d_120_49 rfl
theorem d_120_50 : decode (mB 120) 50 = .ok (.getfield 60, 3) := by decide +kernel
theorem s_120_50 {d : Nat} {Q : wQ} {L : List (Option Value)} {st : List Value} {w : aw} {cn sn : Nat} {a : Nat} : wp d 120 Q 50 L (.ref a :: st) w cn sn = (kd w a = 9 ∧ wp d 120 Q 53 L (fd w 538 a :: st) w cn sn) := w_getfield d_120_50 (by decide +kernel : fT (mO 120) 60 = some (8, 26))
theorem d_120_53 : decode (mB 120) 53 = .ok (.aload_n 0, 1) := by decide +kernel
theorem s_120_53 {d : Nat} {Q : wQ} {L : List (Option Value)} {st : List Value} {w : aw} {cn sn : Nat} {v : Nat} : wp d 120 Q 53 (some (.ref v) :: L) st w cn sn = wp d 120 Q 54 (some (.ref v) :: L) (.ref v :: st) w cn sn := w_aload_n d_120_53 rfl
theorem d_120_54 : decode (mB 120) 54 = .ok (.getfield 63, 3) := by decide +kernel
theorem s_120_54 {d : Nat} {Q : wQ} {L : List (Option Value)} {st : List Value} {w : aw} {cn sn : Nat} {a : Nat} : wp d 120 Q 54 L (.ref a :: st) w cn sn = (kd w a = 9 ∧ wp d 120 Q 57 L (fd w 539 a :: st) w cn sn) := w_getfield d_120_54 (by decide +kernel : fT (mO 120) 63 = some (8, 27))
theorem d_120_57 : decode (mB 120) 57 = .ok (.iload_n 1, 1) := by decide +kernel
theorem s_120_57 {d : Nat} {Q : wQ} {L : List (Option Value)} {st : List Value} {w : aw} {cn sn : Nat} {a0 : Option Value} {v : Int32} : wp d 120 Q 57 (a0 :: some (.int v) :: L) st w cn sn = wp d 120 Q 58 (a0 :: some (.int v) :: L) (.int v :: st) w cn sn := w_iload_n d_120_57 rfl
theorem d_120_58 : decode (mB 120) 58 = .ok (.invokestatic 146, 3) := by decide +kernel
theorem s_120_58 {d : Nat} {Q : wQ} {L : List (Option Value)} {st : List Value} {w : aw} {cn sn : Nat} {v0 v1 v2 : Value} : wp d 120 Q 58 L (v2 :: v1 :: v0 :: st) w cn sn = (catS st ≤ 8 ∧ wpD d 116 [v0, v1, v2] w (fun v w' => wp d 120 Q 61 L (v.toList ++ st) w' cn sn)) := w_static (As := [v0, v1, v2]) d_120_58 (by decide +kernel : cT (mO 120) 146 = some (2, 116)) (by decide +kernel) rfl (by decide +kernel) rfl
theorem d_120_61 : decode (mB 120) 61 = .ok (.iastore, 1) := by decide +kernel
theorem s_120_61 {d : Nat} {Q : wQ} {L : List (Option Value)} {st : List Value} {w : aw} {cn sn : Nat} {a : Nat} {i x : Int32} : wp d 120 Q 61 L (.int x :: .int i :: .ref a :: st) w cn sn = (kd w a = 20 ∧ inR i (ln w a) ∧ wp d 120 Q 62 L st (uA w a i.toNatClampNeg x) cn sn) := wp_row d_120_61 _ _ _ _ _
theorem d_120_62 : decode (mB 120) 62 = .ok (.aload_n 0, 1) := by decide +kernel
theorem s_120_62 {d : Nat} {Q : wQ} {L : List (Option Value)} {st : List Value} {w : aw} {cn sn : Nat} {v : Nat} : wp d 120 Q 62 (some (.ref v) :: L) st w cn sn = wp d 120 Q 63 (some (.ref v) :: L) (.ref v :: st) w cn sn := w_aload_n d_120_62 rfl
theorem d_120_63 : decode (mB 120) 63 = .ok (.getfield 69, 3) := by decide +kernel
theorem s_120_63 {d : Nat} {Q : wQ} {L : List (Option Value)} {st : List Value} {w : aw} {cn sn : Nat} {a : Nat} : wp d 120 Q 63 L (.ref a :: st) w cn sn = (kd w a = 9 ∧ wp d 120 Q 66 L (fd w 541 a :: st) w cn sn) := w_getfield d_120_63 (by decide +kernel : fT (mO 120) 69 = some (8, 29))
theorem d_120_66 : decode (mB 120) 66 = .ok (.iload_n 1, 1) := by decide +kernel
theorem s_120_66 {d : Nat} {Q : wQ} {L : List (Option Value)} {st : List Value} {w : aw} {cn sn : Nat} {a0 : Option Value} {v : Int32} : wp d 120 Q 66 (a0 :: some (.int v) :: L) st w cn sn = wp d 120 Q 67 (a0 :: some (.int v) :: L) (.int v :: st) w cn sn := w_iload_n d_120_66 rfl
theorem d_120_67 : decode (mB 120) 67 = .ok (.dup2, 1) := by decide +kernel
theorem s_120_67 {d : Nat} {Q : wQ} {L : List (Option Value)} {st : List Value} {w : aw} {cn sn : Nat} {a b : Value} : wp d 120 Q 67 L (a :: b :: st) w cn sn = (a.category = 1 ∧ b.category = 1 ∧ wp d 120 Q 68 L (a :: b :: a :: b :: st) w cn sn) := wp_row d_120_67 _ _ _ _ _
theorem d_120_68 : decode (mB 120) 68 = .ok (.iaload, 1) := by decide +kernel
theorem s_120_68 {d : Nat} {Q : wQ} {L : List (Option Value)} {st : List Value} {w : aw} {cn sn : Nat} {a : Nat} {i : Int32} : wp d 120 Q 68 L (.int i :: .ref a :: st) w cn sn = ((kd w a = 20 ∨ kd w a = 30) ∧ inR i (ln w a) ∧ wp d 120 Q 69 L (.int (ai w a i.toNatClampNeg) :: st) w cn sn) := wp_row d_120_68 _ _ _ _ _
theorem d_120_69 : decode (mB 120) 69 = .ok (.iconst 1, 1) := by decide +kernel
theorem s_120_69 {d : Nat} {Q : wQ} {L : List (Option Value)} {st : List Value} {w : aw} {cn sn : Nat}  : wp d 120 Q 69 L st w cn sn = wp d 120 Q 70 L (.int 1 :: st) w cn sn := w_iconst d_120_69 (by decide)
theorem d_120_70 : decode (mB 120) 70 = .ok (.iadd, 1) := by decide +kernel
theorem s_120_70 {d : Nat} {Q : wQ} {L : List (Option Value)} {st : List Value} {w : aw} {cn sn : Nat} {a b : Int32} : wp d 120 Q 70 L (.int b :: .int a :: st) w cn sn = wp d 120 Q 71 L (.int (a + b) :: st) w cn sn := wp_row d_120_70 _ _ _ _ _
theorem d_120_71 : decode (mB 120) 71 = .ok (.iastore, 1) := by decide +kernel
theorem s_120_71 {d : Nat} {Q : wQ} {L : List (Option Value)} {st : List Value} {w : aw} {cn sn : Nat} {a : Nat} {i x : Int32} : wp d 120 Q 71 L (.int x :: .int i :: .ref a :: st) w cn sn = (kd w a = 20 ∧ inR i (ln w a) ∧ wp d 120 Q 72 L st (uA w a i.toNatClampNeg x) cn sn) := wp_row d_120_71 _ _ _ _ _
theorem d_120_72 : decode (mB 120) 72 = .ok (.aload_n 0, 1) := by decide +kernel
theorem s_120_72 {d : Nat} {Q : wQ} {L : List (Option Value)} {st : List Value} {w : aw} {cn sn : Nat} {v : Nat} : wp d 120 Q 72 (some (.ref v) :: L) st w cn sn = wp d 120 Q 73 (some (.ref v) :: L) (.ref v :: st) w cn sn := w_aload_n d_120_72 rfl
theorem d_120_73 : decode (mB 120) 73 = .ok (.getfield 39, 3) := by decide +kernel
theorem s_120_73 {d : Nat} {Q : wQ} {L : List (Option Value)} {st : List Value} {w : aw} {cn sn : Nat} {a : Nat} : wp d 120 Q 73 L (.ref a :: st) w cn sn = (kd w a = 9 ∧ wp d 120 Q 76 L (fd w 531 a :: st) w cn sn) := w_getfield d_120_73 (by decide +kernel : fT (mO 120) 39 = some (8, 19))
theorem d_120_76 : decode (mB 120) 76 = .ok (.iload_n 1, 1) := by decide +kernel
theorem s_120_76 {d : Nat} {Q : wQ} {L : List (Option Value)} {st : List Value} {w : aw} {cn sn : Nat} {a0 : Option Value} {v : Int32} : wp d 120 Q 76 (a0 :: some (.int v) :: L) st w cn sn = wp d 120 Q 77 (a0 :: some (.int v) :: L) (.int v :: st) w cn sn := w_iload_n d_120_76 rfl
theorem d_120_77 : decode (mB 120) 77 = .ok (.iaload, 1) := by decide +kernel
theorem s_120_77 {d : Nat} {Q : wQ} {L : List (Option Value)} {st : List Value} {w : aw} {cn sn : Nat} {a : Nat} {i : Int32} : wp d 120 Q 77 L (.int i :: .ref a :: st) w cn sn = ((kd w a = 20 ∨ kd w a = 30) ∧ inR i (ln w a) ∧ wp d 120 Q 78 L (.int (ai w a i.toNatClampNeg) :: st) w cn sn) := wp_row d_120_77 _ _ _ _ _
theorem d_120_78 : decode (mB 120) 78 = .ok (.iconst 4, 1) := by decide +kernel
theorem s_120_78 {d : Nat} {Q : wQ} {L : List (Option Value)} {st : List Value} {w : aw} {cn sn : Nat}  : wp d 120 Q 78 L st w cn sn = wp d 120 Q 79 L (.int 4 :: st) w cn sn := w_iconst d_120_78 (by decide)
theorem d_120_79 : decode (mB 120) 79 = .ok (.if_icmp .ne 8, 3) := by decide +kernel
theorem s_120_79 {d : Nat} {Q : wQ} {L : List (Option Value)} {st : List Value} {w : aw} {cn sn : Nat} {a b : Int32} : wp d 120 Q 79 L (.int b :: .int a :: st) w cn sn = ((¬ a = b → wp d 120 Q 87 L st w cn sn) ∧ (a = b → wp d 120 Q 82 L st w cn sn)) := w_icne d_120_79 (by decide)
theorem d_120_82 : decode (mB 120) 82 = .ok (.aload_n 0, 1) := by decide +kernel
theorem s_120_82 {d : Nat} {Q : wQ} {L : List (Option Value)} {st : List Value} {w : aw} {cn sn : Nat} {v : Nat} : wp d 120 Q 82 (some (.ref v) :: L) st w cn sn = wp d 120 Q 83 (some (.ref v) :: L) (.ref v :: st) w cn sn := w_aload_n d_120_82 rfl
theorem d_120_83 : decode (mB 120) 83 = .ok (.iload_n 1, 1) := by decide +kernel
theorem s_120_83 {d : Nat} {Q : wQ} {L : List (Option Value)} {st : List Value} {w : aw} {cn sn : Nat} {a0 : Option Value} {v : Int32} : wp d 120 Q 83 (a0 :: some (.int v) :: L) st w cn sn = wp d 120 Q 84 (a0 :: some (.int v) :: L) (.int v :: st) w cn sn := w_iload_n d_120_83 rfl
theorem d_120_84 : decode (mB 120) 84 = .ok (.invokevirtual 162, 3) := by decide +kernel
theorem s_120_84 {d : Nat} {Q : wQ} {L : List (Option Value)} {st : List Value} {w : aw} {cn sn : Nat} {v0 : Value} {b : Nat} : wp d 120 Q 84 L (v0 :: .ref b :: st) w cn sn = (kd w b = 9 ∧ catS st ≤ 8 ∧ wpD d 119 [.ref b, v0] w (fun v w' => wp d 120 Q 87 L (v.toList ++ st) w' cn sn)) := w_virtual (As := [v0]) d_120_84 (by decide +kernel : cT (mO 120) 162 = some (0, 119)) rfl (by decide +kernel) rfl (by decide +kernel) rfl
theorem d_120_87 : decode (mB 120) 87 = .ok (.aload_n 0, 1) := by decide +kernel
theorem s_120_87 {d : Nat} {Q : wQ} {L : List (Option Value)} {st : List Value} {w : aw} {cn sn : Nat} {v : Nat} : wp d 120 Q 87 (some (.ref v) :: L) st w cn sn = wp d 120 Q 88 (some (.ref v) :: L) (.ref v :: st) w cn sn := w_aload_n d_120_87 rfl
theorem d_120_88 : decode (mB 120) 88 = .ok (.getfield 39, 3) := by decide +kernel
theorem s_120_88 {d : Nat} {Q : wQ} {L : List (Option Value)} {st : List Value} {w : aw} {cn sn : Nat} {a : Nat} : wp d 120 Q 88 L (.ref a :: st) w cn sn = (kd w a = 9 ∧ wp d 120 Q 91 L (fd w 531 a :: st) w cn sn) := w_getfield d_120_88 (by decide +kernel : fT (mO 120) 39 = some (8, 19))
theorem d_120_91 : decode (mB 120) 91 = .ok (.iload_n 1, 1) := by decide +kernel
theorem s_120_91 {d : Nat} {Q : wQ} {L : List (Option Value)} {st : List Value} {w : aw} {cn sn : Nat} {a0 : Option Value} {v : Int32} : wp d 120 Q 91 (a0 :: some (.int v) :: L) st w cn sn = wp d 120 Q 92 (a0 :: some (.int v) :: L) (.int v :: st) w cn sn := w_iload_n d_120_91 rfl
theorem d_120_92 : decode (mB 120) 92 = .ok (.iaload, 1) := by decide +kernel
theorem s_120_92 {d : Nat} {Q : wQ} {L : List (Option Value)} {st : List Value} {w : aw} {cn sn : Nat} {a : Nat} {i : Int32} : wp d 120 Q 92 L (.int i :: .ref a :: st) w cn sn = ((kd w a = 20 ∨ kd w a = 30) ∧ inR i (ln w a) ∧ wp d 120 Q 93 L (.int (ai w a i.toNatClampNeg) :: st) w cn sn) := wp_row d_120_92 _ _ _ _ _
theorem d_120_93 : decode (mB 120) 93 = .ok (.iconst 5, 1) := by decide +kernel
theorem s_120_93 {d : Nat} {Q : wQ} {L : List (Option Value)} {st : List Value} {w : aw} {cn sn : Nat}  : wp d 120 Q 93 L st w cn sn = wp d 120 Q 94 L (.int 5 :: st) w cn sn := w_iconst d_120_93 (by decide)
theorem d_120_94 : decode (mB 120) 94 = .ok (.if_icmp .ne 27, 3) := by decide +kernel
theorem s_120_94 {d : Nat} {Q : wQ} {L : List (Option Value)} {st : List Value} {w : aw} {cn sn : Nat} {a b : Int32} : wp d 120 Q 94 L (.int b :: .int a :: st) w cn sn = ((¬ a = b → wp d 120 Q 121 L st w cn sn) ∧ (a = b → wp d 120 Q 97 L st w cn sn)) := w_icne d_120_94 (by decide)
theorem d_120_97 : decode (mB 120) 97 = .ok (.aload_n 0, 1) := by decide +kernel
theorem s_120_97 {d : Nat} {Q : wQ} {L : List (Option Value)} {st : List Value} {w : aw} {cn sn : Nat} {v : Nat} : wp d 120 Q 97 (some (.ref v) :: L) st w cn sn = wp d 120 Q 98 (some (.ref v) :: L) (.ref v :: st) w cn sn := w_aload_n d_120_97 rfl
theorem d_120_98 : decode (mB 120) 98 = .ok (.getfield 42, 3) := by decide +kernel
theorem s_120_98 {d : Nat} {Q : wQ} {L : List (Option Value)} {st : List Value} {w : aw} {cn sn : Nat} {a : Nat} : wp d 120 Q 98 L (.ref a :: st) w cn sn = (kd w a = 9 ∧ wp d 120 Q 101 L (fd w 532 a :: st) w cn sn) := w_getfield d_120_98 (by decide +kernel : fT (mO 120) 42 = some (8, 20))
theorem d_120_101 : decode (mB 120) 101 = .ok (.iload_n 1, 1) := by decide +kernel
theorem s_120_101 {d : Nat} {Q : wQ} {L : List (Option Value)} {st : List Value} {w : aw} {cn sn : Nat} {a0 : Option Value} {v : Int32} : wp d 120 Q 101 (a0 :: some (.int v) :: L) st w cn sn = wp d 120 Q 102 (a0 :: some (.int v) :: L) (.int v :: st) w cn sn := w_iload_n d_120_101 rfl
theorem d_120_102 : decode (mB 120) 102 = .ok (.dup2, 1) := by decide +kernel
theorem s_120_102 {d : Nat} {Q : wQ} {L : List (Option Value)} {st : List Value} {w : aw} {cn sn : Nat} {a b : Value} : wp d 120 Q 102 L (a :: b :: st) w cn sn = (a.category = 1 ∧ b.category = 1 ∧ wp d 120 Q 103 L (a :: b :: a :: b :: st) w cn sn) := wp_row d_120_102 _ _ _ _ _
theorem d_120_103 : decode (mB 120) 103 = .ok (.iaload, 1) := by decide +kernel
theorem s_120_103 {d : Nat} {Q : wQ} {L : List (Option Value)} {st : List Value} {w : aw} {cn sn : Nat} {a : Nat} {i : Int32} : wp d 120 Q 103 L (.int i :: .ref a :: st) w cn sn = ((kd w a = 20 ∨ kd w a = 30) ∧ inR i (ln w a) ∧ wp d 120 Q 104 L (.int (ai w a i.toNatClampNeg) :: st) w cn sn) := wp_row d_120_103 _ _ _ _ _
theorem d_120_104 : decode (mB 120) 104 = .ok (.iconst 1, 1) := by decide +kernel
theorem s_120_104 {d : Nat} {Q : wQ} {L : List (Option Value)} {st : List Value} {w : aw} {cn sn : Nat}  : wp d 120 Q 104 L st w cn sn = wp d 120 Q 105 L (.int 1 :: st) w cn sn := w_iconst d_120_104 (by decide)
theorem d_120_105 : decode (mB 120) 105 = .ok (.isub, 1) := by decide +kernel
theorem s_120_105 {d : Nat} {Q : wQ} {L : List (Option Value)} {st : List Value} {w : aw} {cn sn : Nat} {a b : Int32} : wp d 120 Q 105 L (.int b :: .int a :: st) w cn sn = wp d 120 Q 106 L (.int (a - b) :: st) w cn sn := wp_row d_120_105 _ _ _ _ _
theorem d_120_106 : decode (mB 120) 106 = .ok (.iastore, 1) := by decide +kernel
theorem s_120_106 {d : Nat} {Q : wQ} {L : List (Option Value)} {st : List Value} {w : aw} {cn sn : Nat} {a : Nat} {i x : Int32} : wp d 120 Q 106 L (.int x :: .int i :: .ref a :: st) w cn sn = (kd w a = 20 ∧ inR i (ln w a) ∧ wp d 120 Q 107 L st (uA w a i.toNatClampNeg x) cn sn) := wp_row d_120_106 _ _ _ _ _
theorem d_120_107 : decode (mB 120) 107 = .ok (.aload_n 0, 1) := by decide +kernel
theorem s_120_107 {d : Nat} {Q : wQ} {L : List (Option Value)} {st : List Value} {w : aw} {cn sn : Nat} {v : Nat} : wp d 120 Q 107 (some (.ref v) :: L) st w cn sn = wp d 120 Q 108 (some (.ref v) :: L) (.ref v :: st) w cn sn := w_aload_n d_120_107 rfl
theorem d_120_108 : decode (mB 120) 108 = .ok (.getfield 42, 3) := by decide +kernel
theorem s_120_108 {d : Nat} {Q : wQ} {L : List (Option Value)} {st : List Value} {w : aw} {cn sn : Nat} {a : Nat} : wp d 120 Q 108 L (.ref a :: st) w cn sn = (kd w a = 9 ∧ wp d 120 Q 111 L (fd w 532 a :: st) w cn sn) := w_getfield d_120_108 (by decide +kernel : fT (mO 120) 42 = some (8, 20))
theorem d_120_111 : decode (mB 120) 111 = .ok (.iload_n 1, 1) := by decide +kernel
theorem s_120_111 {d : Nat} {Q : wQ} {L : List (Option Value)} {st : List Value} {w : aw} {cn sn : Nat} {a0 : Option Value} {v : Int32} : wp d 120 Q 111 (a0 :: some (.int v) :: L) st w cn sn = wp d 120 Q 112 (a0 :: some (.int v) :: L) (.int v :: st) w cn sn := w_iload_n d_120_111 rfl
theorem d_120_112 : decode (mB 120) 112 = .ok (.iaload, 1) := by decide +kernel
theorem s_120_112 {d : Nat} {Q : wQ} {L : List (Option Value)} {st : List Value} {w : aw} {cn sn : Nat} {a : Nat} {i : Int32} : wp d 120 Q 112 L (.int i :: .ref a :: st) w cn sn = ((kd w a = 20 ∨ kd w a = 30) ∧ inR i (ln w a) ∧ wp d 120 Q 113 L (.int (ai w a i.toNatClampNeg) :: st) w cn sn) := wp_row d_120_112 _ _ _ _ _
theorem d_120_113 : decode (mB 120) 113 = .ok (.ifCond .ne 8, 3) := by decide +kernel
theorem s_120_113 {d : Nat} {Q : wQ} {L : List (Option Value)} {st : List Value} {w : aw} {cn sn : Nat} {x : Int32} : wp d 120 Q 113 L (.int x :: st) w cn sn = ((¬ x = 0 → wp d 120 Q 121 L st w cn sn) ∧ (x = 0 → wp d 120 Q 116 L st w cn sn)) := w_ifne d_120_113 (by decide)
theorem d_120_116 : decode (mB 120) 116 = .ok (.aload_n 0, 1) := by decide +kernel
theorem s_120_116 {d : Nat} {Q : wQ} {L : List (Option Value)} {st : List Value} {w : aw} {cn sn : Nat} {v : Nat} : wp d 120 Q 116 (some (.ref v) :: L) st w cn sn = wp d 120 Q 117 (some (.ref v) :: L) (.ref v :: st) w cn sn := w_aload_n d_120_116 rfl
theorem d_120_117 : decode (mB 120) 117 = .ok (.iload_n 1, 1) := by decide +kernel
theorem s_120_117 {d : Nat} {Q : wQ} {L : List (Option Value)} {st : List Value} {w : aw} {cn sn : Nat} {a0 : Option Value} {v : Int32} : wp d 120 Q 117 (a0 :: some (.int v) :: L) st w cn sn = wp d 120 Q 118 (a0 :: some (.int v) :: L) (.int v :: st) w cn sn := w_iload_n d_120_117 rfl
theorem d_120_118 : decode (mB 120) 118 = .ok (.invokevirtual 162, 3) := by decide +kernel
theorem s_120_118 {d : Nat} {Q : wQ} {L : List (Option Value)} {st : List Value} {w : aw} {cn sn : Nat} {v0 : Value} {b : Nat} : wp d 120 Q 118 L (v0 :: .ref b :: st) w cn sn = (kd w b = 9 ∧ catS st ≤ 8 ∧ wpD d 119 [.ref b, v0] w (fun v w' => wp d 120 Q 121 L (v.toList ++ st) w' cn sn)) := w_virtual (As := [v0]) d_120_118 (by decide +kernel : cT (mO 120) 162 = some (0, 119)) rfl (by decide +kernel) rfl (by decide +kernel) rfl
theorem d_120_121 : decode (mB 120) 121 = .ok (.iinc 1 1, 3) := by decide +kernel
theorem s_120_121 {d : Nat} {Q : wQ} {L : List (Option Value)} {st : List Value} {w : aw} {cn sn : Nat} {a0 : Option Value} {v : Int32} : wp d 120 Q 121 (a0 :: some (.int v) :: L) st w cn sn = wp d 120 Q 124 (clr a0 :: some (.int (v + 1)) :: L) st w cn sn := w_iinc d_120_121 rfl (by decide) rfl
theorem d_120_124 : decode (mB 120) 124 = .ok (.goto (-112), 3) := by decide +kernel
theorem s_120_124 {d : Nat} {Q : wQ} {L : List (Option Value)} {st : List Value} {w : aw} {cn sn : Nat}  : wp d 120 Q 124 L st w cn sn = wp d 120 Q 12 L st w cn sn := w_goto d_120_124 (by decide)
theorem d_120_127 : decode (mB 120) 127 = .ok (.aload_n 0, 1) := by decide +kernel
theorem s_120_127 {d : Nat} {Q : wQ} {L : List (Option Value)} {st : List Value} {w : aw} {cn sn : Nat} {v : Nat} : wp d 120 Q 127 (some (.ref v) :: L) st w cn sn = wp d 120 Q 128 (some (.ref v) :: L) (.ref v :: st) w cn sn := w_aload_n d_120_127 rfl
theorem d_120_128 : decode (mB 120) 128 = .ok (.getfield 13, 3) := by decide +kernel
theorem s_120_128 {d : Nat} {Q : wQ} {L : List (Option Value)} {st : List Value} {w : aw} {cn sn : Nat} {a : Nat} : wp d 120 Q 128 L (.ref a :: st) w cn sn = (kd w a = 9 ∧ wp d 120 Q 131 L (fd w 521 a :: st) w cn sn) := w_getfield d_120_128 (by decide +kernel : fT (mO 120) 13 = some (8, 9))
theorem d_120_131 : decode (mB 120) 131 = .ok (.ifCond .ge 4, 3) := by decide +kernel
theorem s_120_131 {d : Nat} {Q : wQ} {L : List (Option Value)} {st : List Value} {w : aw} {cn sn : Nat} {x : Int32} : wp d 120 Q 131 L (.int x :: st) w cn sn = ((0 ≤ x → wp d 120 Q 135 L st w cn sn) ∧ (¬ 0 ≤ x → wp d 120 Q 134 L st w cn sn)) := w_ifge d_120_131 (by decide)
theorem d_120_134 : decode (mB 120) 134 = .ok (.return_, 1) := by decide +kernel
theorem s_120_134 {d : Nat} {Q : wQ} {L : List (Option Value)} {w : aw} {cn sn : Nat}  : wp d 120 Q 134 L [] w cn sn = Q none w := w_return d_120_134 rfl
theorem d_120_135 : decode (mB 120) 135 = .ok (.aload_n 0, 1) := by decide +kernel
theorem s_120_135 {d : Nat} {Q : wQ} {L : List (Option Value)} {st : List Value} {w : aw} {cn sn : Nat} {v : Nat} : wp d 120 Q 135 (some (.ref v) :: L) st w cn sn = wp d 120 Q 136 (some (.ref v) :: L) (.ref v :: st) w cn sn := w_aload_n d_120_135 rfl
theorem d_120_136 : decode (mB 120) 136 = .ok (.dup, 1) := by decide +kernel
theorem s_120_136 {d : Nat} {Q : wQ} {L : List (Option Value)} {st : List Value} {w : aw} {cn sn : Nat} {v : Value} : wp d 120 Q 136 L (v :: st) w cn sn = (v.category = 1 ∧ wp d 120 Q 137 L (v :: v :: st) w cn sn) := wp_row d_120_136 _ _ _ _ _
theorem d_120_137 : decode (mB 120) 137 = .ok (.getfield 153, 3) := by decide +kernel
theorem s_120_137 {d : Nat} {Q : wQ} {L : List (Option Value)} {st : List Value} {w : aw} {cn sn : Nat} {a : Nat} : wp d 120 Q 137 L (.ref a :: st) w cn sn = (kd w a = 9 ∧ wp d 120 Q 140 L (fd w 522 a :: st) w cn sn) := w_getfield d_120_137 (by decide +kernel : fT (mO 120) 153 = some (8, 10))
theorem d_120_140 : decode (mB 120) 140 = .ok (.iconst 1, 1) := by decide +kernel
theorem s_120_140 {d : Nat} {Q : wQ} {L : List (Option Value)} {st : List Value} {w : aw} {cn sn : Nat}  : wp d 120 Q 140 L st w cn sn = wp d 120 Q 141 L (.int 1 :: st) w cn sn := w_iconst d_120_140 (by decide)
theorem d_120_141 : decode (mB 120) 141 = .ok (.isub, 1) := by decide +kernel
theorem s_120_141 {d : Nat} {Q : wQ} {L : List (Option Value)} {st : List Value} {w : aw} {cn sn : Nat} {a b : Int32} : wp d 120 Q 141 L (.int b :: .int a :: st) w cn sn = wp d 120 Q 142 L (.int (a - b) :: st) w cn sn := wp_row d_120_141 _ _ _ _ _
theorem d_120_142 : decode (mB 120) 142 = .ok (.putfield 153, 3) := by decide +kernel
theorem s_120_142 {d : Nat} {Q : wQ} {L : List (Option Value)} {st : List Value} {w : aw} {cn sn : Nat} {x : Int32} {a : Nat} : wp d 120 Q 142 L (.int x :: .ref a :: st) w cn sn = (kd w a = 9 ∧ wp d 120 Q 145 L st (uF w 522 a (.int x)) cn sn) := w_putfield d_120_142 (by decide +kernel : fT (mO 120) 153 = some (8, 10)) (by decide +kernel) ok_int
theorem d_120_145 : decode (mB 120) 145 = .ok (.aload_n 0, 1) := by decide +kernel
theorem s_120_145 {d : Nat} {Q : wQ} {L : List (Option Value)} {st : List Value} {w : aw} {cn sn : Nat} {v : Nat} : wp d 120 Q 145 (some (.ref v) :: L) st w cn sn = wp d 120 Q 146 (some (.ref v) :: L) (.ref v :: st) w cn sn := w_aload_n d_120_145 rfl
theorem d_120_146 : decode (mB 120) 146 = .ok (.getfield 153, 3) := by decide +kernel
theorem s_120_146 {d : Nat} {Q : wQ} {L : List (Option Value)} {st : List Value} {w : aw} {cn sn : Nat} {a : Nat} : wp d 120 Q 146 L (.ref a :: st) w cn sn = (kd w a = 9 ∧ wp d 120 Q 149 L (fd w 522 a :: st) w cn sn) := w_getfield d_120_146 (by decide +kernel : fT (mO 120) 153 = some (8, 10))
theorem d_120_149 : decode (mB 120) 149 = .ok (.ifCond .le 4, 3) := by decide +kernel
theorem s_120_149 {d : Nat} {Q : wQ} {L : List (Option Value)} {st : List Value} {w : aw} {cn sn : Nat} {x : Int32} : wp d 120 Q 149 L (.int x :: st) w cn sn = ((x ≤ 0 → wp d 120 Q 153 L st w cn sn) ∧ (¬ x ≤ 0 → wp d 120 Q 152 L st w cn sn)) := w_ifle d_120_149 (by decide)
theorem d_120_152 : decode (mB 120) 152 = .ok (.return_, 1) := by decide +kernel
theorem s_120_152 {d : Nat} {Q : wQ} {L : List (Option Value)} {w : aw} {cn sn : Nat}  : wp d 120 Q 152 L [] w cn sn = Q none w := w_return d_120_152 rfl
theorem d_120_153 : decode (mB 120) 153 = .ok (.aload_n 0, 1) := by decide +kernel
theorem s_120_153 {d : Nat} {Q : wQ} {L : List (Option Value)} {st : List Value} {w : aw} {cn sn : Nat} {v : Nat} : wp d 120 Q 153 (some (.ref v) :: L) st w cn sn = wp d 120 Q 154 (some (.ref v) :: L) (.ref v :: st) w cn sn := w_aload_n d_120_153 rfl
theorem d_120_154 : decode (mB 120) 154 = .ok (.getfield 13, 3) := by decide +kernel
theorem s_120_154 {d : Nat} {Q : wQ} {L : List (Option Value)} {st : List Value} {w : aw} {cn sn : Nat} {a : Nat} : wp d 120 Q 154 L (.ref a :: st) w cn sn = (kd w a = 9 ∧ wp d 120 Q 157 L (fd w 521 a :: st) w cn sn) := w_getfield d_120_154 (by decide +kernel : fT (mO 120) 13 = some (8, 9))
theorem d_120_157 : decode (mB 120) 157 = .ok (.istore_n 1, 1) := by decide +kernel
theorem s_120_157 {d : Nat} {Q : wQ} {L : List (Option Value)} {st : List Value} {w : aw} {cn sn : Nat} {a0 a1 : Option Value} {v : Int32} : wp d 120 Q 157 (a0 :: a1 :: L) (.int v :: st) w cn sn = wp d 120 Q 158 (clr a0 :: some (.int v) :: L) st w cn sn := w_istore_n d_120_157 (Nat.le_add_left 2 _) rfl
theorem d_120_158 : decode (mB 120) 158 = .ok (.aload_n 0, 1) := by decide +kernel
theorem s_120_158 {d : Nat} {Q : wQ} {L : List (Option Value)} {st : List Value} {w : aw} {cn sn : Nat} {v : Nat} : wp d 120 Q 158 (some (.ref v) :: L) st w cn sn = wp d 120 Q 159 (some (.ref v) :: L) (.ref v :: st) w cn sn := w_aload_n d_120_158 rfl
theorem d_120_159 : decode (mB 120) 159 = .ok (.iload_n 1, 1) := by decide +kernel
theorem s_120_159 {d : Nat} {Q : wQ} {L : List (Option Value)} {st : List Value} {w : aw} {cn sn : Nat} {a0 : Option Value} {v : Int32} : wp d 120 Q 159 (a0 :: some (.int v) :: L) st w cn sn = wp d 120 Q 160 (a0 :: some (.int v) :: L) (.int v :: st) w cn sn := w_iload_n d_120_159 rfl
theorem d_120_160 : decode (mB 120) 160 = .ok (.iconst 1, 1) := by decide +kernel
theorem s_120_160 {d : Nat} {Q : wQ} {L : List (Option Value)} {st : List Value} {w : aw} {cn sn : Nat}  : wp d 120 Q 160 L st w cn sn = wp d 120 Q 161 L (.int 1 :: st) w cn sn := w_iconst d_120_160 (by decide)
theorem d_120_161 : decode (mB 120) 161 = .ok (.invokevirtual 143, 3) := by decide +kernel
theorem s_120_161 {d : Nat} {Q : wQ} {L : List (Option Value)} {st : List Value} {w : aw} {cn sn : Nat} {v0 v1 : Value} {b : Nat} : wp d 120 Q 161 L (v1 :: v0 :: .ref b :: st) w cn sn = (kd w b = 9 ∧ catS st ≤ 8 ∧ wpD d 118 [.ref b, v0, v1] w (fun v w' => wp d 120 Q 164 L (v.toList ++ st) w' cn sn)) := w_virtual (As := [v0, v1]) d_120_161 (by decide +kernel : cT (mO 120) 143 = some (0, 118)) rfl (by decide +kernel) rfl (by decide +kernel) rfl
theorem d_120_164 : decode (mB 120) 164 = .ok (.aload_n 0, 1) := by decide +kernel
theorem s_120_164 {d : Nat} {Q : wQ} {L : List (Option Value)} {st : List Value} {w : aw} {cn sn : Nat} {v : Nat} : wp d 120 Q 164 (some (.ref v) :: L) st w cn sn = wp d 120 Q 165 (some (.ref v) :: L) (.ref v :: st) w cn sn := w_aload_n d_120_164 rfl
theorem d_120_165 : decode (mB 120) 165 = .ok (.iload_n 1, 1) := by decide +kernel
theorem s_120_165 {d : Nat} {Q : wQ} {L : List (Option Value)} {st : List Value} {w : aw} {cn sn : Nat} {a0 : Option Value} {v : Int32} : wp d 120 Q 165 (a0 :: some (.int v) :: L) st w cn sn = wp d 120 Q 166 (a0 :: some (.int v) :: L) (.int v :: st) w cn sn := w_iload_n d_120_165 rfl
theorem d_120_166 : decode (mB 120) 166 = .ok (.invokevirtual 162, 3) := by decide +kernel
theorem s_120_166 {d : Nat} {Q : wQ} {L : List (Option Value)} {st : List Value} {w : aw} {cn sn : Nat} {v0 : Value} {b : Nat} : wp d 120 Q 166 L (v0 :: .ref b :: st) w cn sn = (kd w b = 9 ∧ catS st ≤ 8 ∧ wpD d 119 [.ref b, v0] w (fun v w' => wp d 120 Q 169 L (v.toList ++ st) w' cn sn)) := w_virtual (As := [v0]) d_120_166 (by decide +kernel : cT (mO 120) 162 = some (0, 119)) rfl (by decide +kernel) rfl (by decide +kernel) rfl
theorem d_120_169 : decode (mB 120) 169 = .ok (.return_, 1) := by decide +kernel
theorem s_120_169 {d : Nat} {Q : wQ} {L : List (Option Value)} {w : aw} {cn sn : Nat}  : wp d 120 Q 169 L [] w cn sn = Q none w := w_return d_120_169 rfl
theorem d_121_0 : decode (mB 121) 0 = .ok (.aload_n 0, 1) := by decide +kernel
theorem s_121_0 {d : Nat} {Q : wQ} {L : List (Option Value)} {st : List Value} {w : aw} {cn sn : Nat} {v : Nat} : wp d 121 Q 0 (some (.ref v) :: L) st w cn sn = wp d 121 Q 1 (some (.ref v) :: L) (.ref v :: st) w cn sn := w_aload_n d_121_0 rfl
theorem d_121_1 : decode (mB 121) 1 = .ok (.getfield 13, 3) := by decide +kernel
theorem s_121_1 {d : Nat} {Q : wQ} {L : List (Option Value)} {st : List Value} {w : aw} {cn sn : Nat} {a : Nat} : wp d 121 Q 1 L (.ref a :: st) w cn sn = (kd w a = 9 ∧ wp d 121 Q 4 L (fd w 521 a :: st) w cn sn) := w_getfield d_121_1 (by decide +kernel : fT (mO 121) 13 = some (8, 9))
theorem d_121_4 : decode (mB 121) 4 = .ok (.ifCond .ge 10, 3) := by decide +kernel
theorem s_121_4 {d : Nat} {Q : wQ} {L : List (Option Value)} {st : List Value} {w : aw} {cn sn : Nat} {x : Int32} : wp d 121 Q 4 L (.int x :: st) w cn sn = ((0 ≤ x → wp d 121 Q 14 L st w cn sn) ∧ (¬ 0 ≤ x → wp d 121 Q 7 L st w cn sn)) := w_ifge d_121_4 (by decide)
theorem d_121_7 : decode (mB 121) 7 = .ok (.aload_n 0, 1) := by decide +kernel
theorem s_121_7 {d : Nat} {Q : wQ} {L : List (Option Value)} {st : List Value} {w : aw} {cn sn : Nat} {v : Nat} : wp d 121 Q 7 (some (.ref v) :: L) st w cn sn = wp d 121 Q 8 (some (.ref v) :: L) (.ref v :: st) w cn sn := w_aload_n d_121_7 rfl
theorem d_121_8 : decode (mB 121) 8 = .ok (.getfield 156, 3) := by decide +kernel
theorem s_121_8 {d : Nat} {Q : wQ} {L : List (Option Value)} {st : List Value} {w : aw} {cn sn : Nat} {a : Nat} : wp d 121 Q 8 L (.ref a :: st) w cn sn = (kd w a = 9 ∧ wp d 121 Q 11 L (fd w 524 a :: st) w cn sn) := w_getfield d_121_8 (by decide +kernel : fT (mO 121) 156 = some (8, 12))
theorem d_121_11 : decode (mB 121) 11 = .ok (.ifCond .ne 4, 3) := by decide +kernel
theorem s_121_11 {d : Nat} {Q : wQ} {L : List (Option Value)} {st : List Value} {w : aw} {cn sn : Nat} {x : Int32} : wp d 121 Q 11 L (.int x :: st) w cn sn = ((¬ x = 0 → wp d 121 Q 15 L st w cn sn) ∧ (x = 0 → wp d 121 Q 14 L st w cn sn)) := w_ifne d_121_11 (by decide)
theorem d_121_14 : decode (mB 121) 14 = .ok (.return_, 1) := by decide +kernel
theorem s_121_14 {d : Nat} {Q : wQ} {L : List (Option Value)} {w : aw} {cn sn : Nat}  : wp d 121 Q 14 L [] w cn sn = Q none w := w_return d_121_14 rfl
theorem d_121_15 : decode (mB 121) 15 = .ok (.aload_n 0, 1) := by decide +kernel
theorem s_121_15 {d : Nat} {Q : wQ} {L : List (Option Value)} {st : List Value} {w : aw} {cn sn : Nat} {v : Nat} : wp d 121 Q 15 (some (.ref v) :: L) st w cn sn = wp d 121 Q 16 (some (.ref v) :: L) (.ref v :: st) w cn sn := w_aload_n d_121_15 rfl
theorem d_121_16 : decode (mB 121) 16 = .ok (.getfield 16, 3) := by decide +kernel
theorem s_121_16 {d : Nat} {Q : wQ} {L : List (Option Value)} {st : List Value} {w : aw} {cn sn : Nat} {a : Nat} : wp d 121 Q 16 L (.ref a :: st) w cn sn = (kd w a = 9 ∧ wp d 121 Q 19 L (fd w 523 a :: st) w cn sn) := w_getfield d_121_16 (by decide +kernel : fT (mO 121) 16 = some (8, 11))
theorem d_121_19 : decode (mB 121) 19 = .ok (.iconst 0, 1) := by decide +kernel
theorem s_121_19 {d : Nat} {Q : wQ} {L : List (Option Value)} {st : List Value} {w : aw} {cn sn : Nat}  : wp d 121 Q 19 L st w cn sn = wp d 121 Q 20 L (.int 0 :: st) w cn sn := w_iconst d_121_19 (by decide)
theorem d_121_20 : decode (mB 121) 20 = .ok (.iaload, 1) := by decide +kernel
theorem s_121_20 {d : Nat} {Q : wQ} {L : List (Option Value)} {st : List Value} {w : aw} {cn sn : Nat} {a : Nat} {i : Int32} : wp d 121 Q 20 L (.int i :: .ref a :: st) w cn sn = ((kd w a = 20 ∨ kd w a = 30) ∧ inR i (ln w a) ∧ wp d 121 Q 21 L (.int (ai w a i.toNatClampNeg) :: st) w cn sn) := wp_row d_121_20 _ _ _ _ _
theorem d_121_21 : decode (mB 121) 21 = .ok (.istore_n 1, 1) := by decide +kernel
theorem s_121_21 {d : Nat} {Q : wQ} {L : List (Option Value)} {st : List Value} {w : aw} {cn sn : Nat} {a0 a1 : Option Value} {v : Int32} : wp d 121 Q 21 (a0 :: a1 :: L) (.int v :: st) w cn sn = wp d 121 Q 22 (clr a0 :: some (.int v) :: L) st w cn sn := w_istore_n d_121_21 (Nat.le_add_left 2 _) rfl
theorem d_121_22 : decode (mB 121) 22 = .ok (.aload_n 0, 1) := by decide +kernel
theorem s_121_22 {d : Nat} {Q : wQ} {L : List (Option Value)} {st : List Value} {w : aw} {cn sn : Nat} {v : Nat} : wp d 121 Q 22 (some (.ref v) :: L) st w cn sn = wp d 121 Q 23 (some (.ref v) :: L) (.ref v :: st) w cn sn := w_aload_n d_121_22 rfl
theorem d_121_23 : decode (mB 121) 23 = .ok (.dup, 1) := by decide +kernel
theorem s_121_23 {d : Nat} {Q : wQ} {L : List (Option Value)} {st : List Value} {w : aw} {cn sn : Nat} {v : Value} : wp d 121 Q 23 L (v :: st) w cn sn = (v.category = 1 ∧ wp d 121 Q 24 L (v :: v :: st) w cn sn) := wp_row d_121_23 _ _ _ _ _
theorem d_121_24 : decode (mB 121) 24 = .ok (.getfield 156, 3) := by decide +kernel
theorem s_121_24 {d : Nat} {Q : wQ} {L : List (Option Value)} {st : List Value} {w : aw} {cn sn : Nat} {a : Nat} : wp d 121 Q 24 L (.ref a :: st) w cn sn = (kd w a = 9 ∧ wp d 121 Q 27 L (fd w 524 a :: st) w cn sn) := w_getfield d_121_24 (by decide +kernel : fT (mO 121) 156 = some (8, 12))
theorem d_121_27 : decode (mB 121) 27 = .ok (.iconst 1, 1) := by decide +kernel
theorem s_121_27 {d : Nat} {Q : wQ} {L : List (Option Value)} {st : List Value} {w : aw} {cn sn : Nat}  : wp d 121 Q 27 L st w cn sn = wp d 121 Q 28 L (.int 1 :: st) w cn sn := w_iconst d_121_27 (by decide)
theorem d_121_28 : decode (mB 121) 28 = .ok (.isub, 1) := by decide +kernel
theorem s_121_28 {d : Nat} {Q : wQ} {L : List (Option Value)} {st : List Value} {w : aw} {cn sn : Nat} {a b : Int32} : wp d 121 Q 28 L (.int b :: .int a :: st) w cn sn = wp d 121 Q 29 L (.int (a - b) :: st) w cn sn := wp_row d_121_28 _ _ _ _ _
theorem d_121_29 : decode (mB 121) 29 = .ok (.putfield 156, 3) := by decide +kernel
theorem s_121_29 {d : Nat} {Q : wQ} {L : List (Option Value)} {st : List Value} {w : aw} {cn sn : Nat} {x : Int32} {a : Nat} : wp d 121 Q 29 L (.int x :: .ref a :: st) w cn sn = (kd w a = 9 ∧ wp d 121 Q 32 L st (uF w 524 a (.int x)) cn sn) := w_putfield d_121_29 (by decide +kernel : fT (mO 121) 156 = some (8, 12)) (by decide +kernel) ok_int
theorem d_121_32 : decode (mB 121) 32 = .ok (.iconst 0, 1) := by decide +kernel
theorem s_121_32 {d : Nat} {Q : wQ} {L : List (Option Value)} {st : List Value} {w : aw} {cn sn : Nat}  : wp d 121 Q 32 L st w cn sn = wp d 121 Q 33 L (.int 0 :: st) w cn sn := w_iconst d_121_32 (by decide)
theorem d_121_33 : decode (mB 121) 33 = .ok (.istore_n 2, 1) := by decide +kernel
theorem s_121_33 {d : Nat} {Q : wQ} {L : List (Option Value)} {st : List Value} {w : aw} {cn sn : Nat} {a0 a1 a2 : Option Value} {v : Int32} : wp d 121 Q 33 (a0 :: a1 :: a2 :: L) (.int v :: st) w cn sn = wp d 121 Q 34 (a0 :: clr a1 :: some (.int v) :: L) st w cn sn := w_istore_n d_121_33 (Nat.le_add_left 3 _) rfl
theorem d_121_34 : decode (mB 121) 34 = .ok (.iload_n 2, 1) := by decide +kernel
theorem s_121_34 {d : Nat} {Q : wQ} {L : List (Option Value)} {st : List Value} {w : aw} {cn sn : Nat} {a0 a1 : Option Value} {v : Int32} : wp d 121 Q 34 (a0 :: a1 :: some (.int v) :: L) st w cn sn = wp d 121 Q 35 (a0 :: a1 :: some (.int v) :: L) (.int v :: st) w cn sn := w_iload_n d_121_34 rfl
theorem d_121_35 : decode (mB 121) 35 = .ok (.aload_n 0, 1) := by decide +kernel
theorem s_121_35 {d : Nat} {Q : wQ} {L : List (Option Value)} {st : List Value} {w : aw} {cn sn : Nat} {v : Nat} : wp d 121 Q 35 (some (.ref v) :: L) st w cn sn = wp d 121 Q 36 (some (.ref v) :: L) (.ref v :: st) w cn sn := w_aload_n d_121_35 rfl
theorem d_121_36 : decode (mB 121) 36 = .ok (.getfield 156, 3) := by decide +kernel
theorem s_121_36 {d : Nat} {Q : wQ} {L : List (Option Value)} {st : List Value} {w : aw} {cn sn : Nat} {a : Nat} : wp d 121 Q 36 L (.ref a :: st) w cn sn = (kd w a = 9 ∧ wp d 121 Q 39 L (fd w 524 a :: st) w cn sn) := w_getfield d_121_36 (by decide +kernel : fT (mO 121) 156 = some (8, 12))
theorem d_121_39 : decode (mB 121) 39 = .ok (.if_icmp .ge 23, 3) := by decide +kernel
theorem s_121_39 {d : Nat} {Q : wQ} {L : List (Option Value)} {st : List Value} {w : aw} {cn sn : Nat} {a b : Int32} : wp d 121 Q 39 L (.int b :: .int a :: st) w cn sn = ((b ≤ a → wp d 121 Q 62 L st w cn sn) ∧ (¬ b ≤ a → wp d 121 Q 42 L st w cn sn)) := w_icge d_121_39 (by decide)
theorem d_121_42 : decode (mB 121) 42 = .ok (.aload_n 0, 1) := by decide +kernel
theorem s_121_42 {d : Nat} {Q : wQ} {L : List (Option Value)} {st : List Value} {w : aw} {cn sn : Nat} {v : Nat} : wp d 121 Q 42 (some (.ref v) :: L) st w cn sn = wp d 121 Q 43 (some (.ref v) :: L) (.ref v :: st) w cn sn := w_aload_n d_121_42 rfl
theorem d_121_43 : decode (mB 121) 43 = .ok (.getfield 16, 3) := by decide +kernel
theorem s_121_43 {d : Nat} {Q : wQ} {L : List (Option Value)} {st : List Value} {w : aw} {cn sn : Nat} {a : Nat} : wp d 121 Q 43 L (.ref a :: st) w cn sn = (kd w a = 9 ∧ wp d 121 Q 46 L (fd w 523 a :: st) w cn sn) := w_getfield d_121_43 (by decide +kernel : fT (mO 121) 16 = some (8, 11))
theorem d_121_46 : decode (mB 121) 46 = .ok (.iload_n 2, 1) := by decide +kernel
theorem s_121_46 {d : Nat} {Q : wQ} {L : List (Option Value)} {st : List Value} {w : aw} {cn sn : Nat} {a0 a1 : Option Value} {v : Int32} : wp d 121 Q 46 (a0 :: a1 :: some (.int v) :: L) st w cn sn = wp d 121 Q 47 (a0 :: a1 :: some (.int v) :: L) (.int v :: st) w cn sn := w_iload_n d_121_46 rfl
theorem d_121_47 : decode (mB 121) 47 = .ok (.aload_n 0, 1) := by decide +kernel
theorem s_121_47 {d : Nat} {Q : wQ} {L : List (Option Value)} {st : List Value} {w : aw} {cn sn : Nat} {v : Nat} : wp d 121 Q 47 (some (.ref v) :: L) st w cn sn = wp d 121 Q 48 (some (.ref v) :: L) (.ref v :: st) w cn sn := w_aload_n d_121_47 rfl
theorem d_121_48 : decode (mB 121) 48 = .ok (.getfield 16, 3) := by decide +kernel
theorem s_121_48 {d : Nat} {Q : wQ} {L : List (Option Value)} {st : List Value} {w : aw} {cn sn : Nat} {a : Nat} : wp d 121 Q 48 L (.ref a :: st) w cn sn = (kd w a = 9 ∧ wp d 121 Q 51 L (fd w 523 a :: st) w cn sn) := w_getfield d_121_48 (by decide +kernel : fT (mO 121) 16 = some (8, 11))
theorem d_121_51 : decode (mB 121) 51 = .ok (.iload_n 2, 1) := by decide +kernel
theorem s_121_51 {d : Nat} {Q : wQ} {L : List (Option Value)} {st : List Value} {w : aw} {cn sn : Nat} {a0 a1 : Option Value} {v : Int32} : wp d 121 Q 51 (a0 :: a1 :: some (.int v) :: L) st w cn sn = wp d 121 Q 52 (a0 :: a1 :: some (.int v) :: L) (.int v :: st) w cn sn := w_iload_n d_121_51 rfl
theorem d_121_52 : decode (mB 121) 52 = .ok (.iconst 1, 1) := by decide +kernel
theorem s_121_52 {d : Nat} {Q : wQ} {L : List (Option Value)} {st : List Value} {w : aw} {cn sn : Nat}  : wp d 121 Q 52 L st w cn sn = wp d 121 Q 53 L (.int 1 :: st) w cn sn := w_iconst d_121_52 (by decide)
theorem d_121_53 : decode (mB 121) 53 = .ok (.iadd, 1) := by decide +kernel
theorem s_121_53 {d : Nat} {Q : wQ} {L : List (Option Value)} {st : List Value} {w : aw} {cn sn : Nat} {a b : Int32} : wp d 121 Q 53 L (.int b :: .int a :: st) w cn sn = wp d 121 Q 54 L (.int (a + b) :: st) w cn sn := wp_row d_121_53 _ _ _ _ _
theorem d_121_54 : decode (mB 121) 54 = .ok (.iaload, 1) := by decide +kernel
theorem s_121_54 {d : Nat} {Q : wQ} {L : List (Option Value)} {st : List Value} {w : aw} {cn sn : Nat} {a : Nat} {i : Int32} : wp d 121 Q 54 L (.int i :: .ref a :: st) w cn sn = ((kd w a = 20 ∨ kd w a = 30) ∧ inR i (ln w a) ∧ wp d 121 Q 55 L (.int (ai w a i.toNatClampNeg) :: st) w cn sn) := wp_row d_121_54 _ _ _ _ _
theorem d_121_55 : decode (mB 121) 55 = .ok (.iastore, 1) := by decide +kernel
theorem s_121_55 {d : Nat} {Q : wQ} {L : List (Option Value)} {st : List Value} {w : aw} {cn sn : Nat} {a : Nat} {i x : Int32} : wp d 121 Q 55 L (.int x :: .int i :: .ref a :: st) w cn sn = (kd w a = 20 ∧ inR i (ln w a) ∧ wp d 121 Q 56 L st (uA w a i.toNatClampNeg x) cn sn) := wp_row d_121_55 _ _ _ _ _
theorem d_121_56 : decode (mB 121) 56 = .ok (.iinc 2 1, 3) := by decide +kernel
theorem s_121_56 {d : Nat} {Q : wQ} {L : List (Option Value)} {st : List Value} {w : aw} {cn sn : Nat} {a0 a1 : Option Value} {v : Int32} : wp d 121 Q 56 (a0 :: a1 :: some (.int v) :: L) st w cn sn = wp d 121 Q 59 (a0 :: clr a1 :: some (.int (v + 1)) :: L) st w cn sn := w_iinc d_121_56 rfl (by decide) rfl
theorem d_121_59 : decode (mB 121) 59 = .ok (.goto (-25), 3) := by decide +kernel
theorem s_121_59 {d : Nat} {Q : wQ} {L : List (Option Value)} {st : List Value} {w : aw} {cn sn : Nat}  : wp d 121 Q 59 L st w cn sn = wp d 121 Q 34 L st w cn sn := w_goto d_121_59 (by decide)
theorem d_121_62 : decode (mB 121) 62 = .ok (.aload_n 0, 1) := by decide +kernel
theorem s_121_62 {d : Nat} {Q : wQ} {L : List (Option Value)} {st : List Value} {w : aw} {cn sn : Nat} {v : Nat} : wp d 121 Q 62 (some (.ref v) :: L) st w cn sn = wp d 121 Q 63 (some (.ref v) :: L) (.ref v :: st) w cn sn := w_aload_n d_121_62 rfl
theorem d_121_63 : decode (mB 121) 63 = .ok (.iload_n 1, 1) := by decide +kernel
theorem s_121_63 {d : Nat} {Q : wQ} {L : List (Option Value)} {st : List Value} {w : aw} {cn sn : Nat} {a0 : Option Value} {v : Int32} : wp d 121 Q 63 (a0 :: some (.int v) :: L) st w cn sn = wp d 121 Q 64 (a0 :: some (.int v) :: L) (.int v :: st) w cn sn := w_iload_n d_121_63 rfl
theorem d_121_64 : decode (mB 121) 64 = .ok (.putfield 13, 3) := by decide +kernel
theorem s_121_64 {d : Nat} {Q : wQ} {L : List (Option Value)} {st : List Value} {w : aw} {cn sn : Nat} {x : Int32} {a : Nat} : wp d 121 Q 64 L (.int x :: .ref a :: st) w cn sn = (kd w a = 9 ∧ wp d 121 Q 67 L st (uF w 521 a (.int x)) cn sn) := w_putfield d_121_64 (by decide +kernel : fT (mO 121) 13 = some (8, 9)) (by decide +kernel) ok_int
theorem d_121_67 : decode (mB 121) 67 = .ok (.aload_n 0, 1) := by decide +kernel
theorem s_121_67 {d : Nat} {Q : wQ} {L : List (Option Value)} {st : List Value} {w : aw} {cn sn : Nat} {v : Nat} : wp d 121 Q 67 (some (.ref v) :: L) st w cn sn = wp d 121 Q 68 (some (.ref v) :: L) (.ref v :: st) w cn sn := w_aload_n d_121_67 rfl
theorem d_121_68 : decode (mB 121) 68 = .ok (.getfield 39, 3) := by decide +kernel
theorem s_121_68 {d : Nat} {Q : wQ} {L : List (Option Value)} {st : List Value} {w : aw} {cn sn : Nat} {a : Nat} : wp d 121 Q 68 L (.ref a :: st) w cn sn = (kd w a = 9 ∧ wp d 121 Q 71 L (fd w 531 a :: st) w cn sn) := w_getfield d_121_68 (by decide +kernel : fT (mO 121) 39 = some (8, 19))
theorem d_121_71 : decode (mB 121) 71 = .ok (.iload_n 1, 1) := by decide +kernel
theorem s_121_71 {d : Nat} {Q : wQ} {L : List (Option Value)} {st : List Value} {w : aw} {cn sn : Nat} {a0 : Option Value} {v : Int32} : wp d 121 Q 71 (a0 :: some (.int v) :: L) st w cn sn = wp d 121 Q 72 (a0 :: some (.int v) :: L) (.int v :: st) w cn sn := w_iload_n d_121_71 rfl
theorem d_121_72 : decode (mB 121) 72 = .ok (.iconst 2, 1) := by decide +kernel
theorem s_121_72 {d : Nat} {Q : wQ} {L : List (Option Value)} {st : List Value} {w : aw} {cn sn : Nat}  : wp d 121 Q 72 L st w cn sn = wp d 121 Q 73 L (.int 2 :: st) w cn sn := w_iconst d_121_72 (by decide)
theorem d_121_73 : decode (mB 121) 73 = .ok (.iastore, 1) := by decide +kernel
theorem s_121_73 {d : Nat} {Q : wQ} {L : List (Option Value)} {st : List Value} {w : aw} {cn sn : Nat} {a : Nat} {i x : Int32} : wp d 121 Q 73 L (.int x :: .int i :: .ref a :: st) w cn sn = (kd w a = 20 ∧ inR i (ln w a) ∧ wp d 121 Q 74 L st (uA w a i.toNatClampNeg x) cn sn) := wp_row d_121_73 _ _ _ _ _
theorem d_121_74 : decode (mB 121) 74 = .ok (.aload_n 0, 1) := by decide +kernel
theorem s_121_74 {d : Nat} {Q : wQ} {L : List (Option Value)} {st : List Value} {w : aw} {cn sn : Nat} {v : Nat} : wp d 121 Q 74 (some (.ref v) :: L) st w cn sn = wp d 121 Q 75 (some (.ref v) :: L) (.ref v :: st) w cn sn := w_aload_n d_121_74 rfl
theorem d_121_75 : decode (mB 121) 75 = .ok (.aload_n 0, 1) := by decide +kernel
theorem s_121_75 {d : Nat} {Q : wQ} {L : List (Option Value)} {st : List Value} {w : aw} {cn sn : Nat} {v : Nat} : wp d 121 Q 75 (some (.ref v) :: L) st w cn sn = wp d 121 Q 76 (some (.ref v) :: L) (.ref v :: st) w cn sn := w_aload_n d_121_75 rfl
theorem d_121_76 : decode (mB 121) 76 = .ok (.getfield 166, 3) := by decide +kernel
theorem s_121_76 {d : Nat} {Q : wQ} {L : List (Option Value)} {st : List Value} {w : aw} {cn sn : Nat} {a : Nat} : wp d 121 Q 76 L (.ref a :: st) w cn sn = (kd w a = 9 ∧ wp d 121 Q 79 L (fd w 514 a :: st) w cn sn) := w_getfield d_121_76 (by decide +kernel : fT (mO 121) 166 = some (8, 2))
theorem d_121_79 : decode (mB 121) 79 = .ok (.putfield 153, 3) := by decide +kernel
theorem s_121_79 {d : Nat} {Q : wQ} {L : List (Option Value)} {st : List Value} {w : aw} {cn sn : Nat} {x : Int32} {a : Nat} : wp d 121 Q 79 L (.int x :: .ref a :: st) w cn sn = (kd w a = 9 ∧ wp d 121 Q 82 L st (uF w 522 a (.int x)) cn sn) := w_putfield d_121_79 (by decide +kernel : fT (mO 121) 153 = some (8, 10)) (by decide +kernel) ok_int
theorem d_121_82 : decode (mB 121) 82 = .ok (.aload_n 0, 1) := by decide +kernel
theorem s_121_82 {d : Nat} {Q : wQ} {L : List (Option Value)} {st : List Value} {w : aw} {cn sn : Nat} {v : Nat} : wp d 121 Q 82 (some (.ref v) :: L) st w cn sn = wp d 121 Q 83 (some (.ref v) :: L) (.ref v :: st) w cn sn := w_aload_n d_121_82 rfl
theorem d_121_83 : decode (mB 121) 83 = .ok (.getfield 20, 3) := by decide +kernel
theorem s_121_83 {d : Nat} {Q : wQ} {L : List (Option Value)} {st : List Value} {w : aw} {cn sn : Nat} {a : Nat} : wp d 121 Q 83 L (.ref a :: st) w cn sn = (kd w a = 9 ∧ wp d 121 Q 86 L (fd w 525 a :: st) w cn sn) := w_getfield d_121_83 (by decide +kernel : fT (mO 121) 20 = some (8, 13))
theorem d_121_86 : decode (mB 121) 86 = .ok (.iload_n 1, 1) := by decide +kernel
theorem s_121_86 {d : Nat} {Q : wQ} {L : List (Option Value)} {st : List Value} {w : aw} {cn sn : Nat} {a0 : Option Value} {v : Int32} : wp d 121 Q 86 (a0 :: some (.int v) :: L) st w cn sn = wp d 121 Q 87 (a0 :: some (.int v) :: L) (.int v :: st) w cn sn := w_iload_n d_121_86 rfl
theorem d_121_87 : decode (mB 121) 87 = .ok (.iaload, 1) := by decide +kernel
theorem s_121_87 {d : Nat} {Q : wQ} {L : List (Option Value)} {st : List Value} {w : aw} {cn sn : Nat} {a : Nat} {i : Int32} : wp d 121 Q 87 L (.int i :: .ref a :: st) w cn sn = ((kd w a = 20 ∨ kd w a = 30) ∧ inR i (ln w a) ∧ wp d 121 Q 88 L (.int (ai w a i.toNatClampNeg) :: st) w cn sn) := wp_row d_121_87 _ _ _ _ _
theorem d_121_88 : decode (mB 121) 88 = .ok (.ifCond .le 4, 3) := by decide +kernel
theorem s_121_88 {d : Nat} {Q : wQ} {L : List (Option Value)} {st : List Value} {w : aw} {cn sn : Nat} {x : Int32} : wp d 121 Q 88 L (.int x :: st) w cn sn = ((x ≤ 0 → wp d 121 Q 92 L st w cn sn) ∧ (¬ x ≤ 0 → wp d 121 Q 91 L st w cn sn)) := w_ifle d_121_88 (by decide)
theorem d_121_91 : decode (mB 121) 91 = .ok (.return_, 1) := by decide +kernel
theorem s_121_91 {d : Nat} {Q : wQ} {L : List (Option Value)} {w : aw} {cn sn : Nat}  : wp d 121 Q 91 L [] w cn sn = Q none w := w_return d_121_91 rfl
theorem d_121_92 : decode (mB 121) 92 = .ok (.iconst 0, 1) := by decide +kernel
theorem s_121_92 {d : Nat} {Q : wQ} {L : List (Option Value)} {st : List Value} {w : aw} {cn sn : Nat}  : wp d 121 Q 92 L st w cn sn = wp d 121 Q 93 L (.int 0 :: st) w cn sn := w_iconst d_121_92 (by decide)
theorem d_121_93 : decode (mB 121) 93 = .ok (.istore_n 2, 1) := by decide +kernel
theorem s_121_93 {d : Nat} {Q : wQ} {L : List (Option Value)} {st : List Value} {w : aw} {cn sn : Nat} {a0 a1 a2 : Option Value} {v : Int32} : wp d 121 Q 93 (a0 :: a1 :: a2 :: L) (.int v :: st) w cn sn = wp d 121 Q 94 (a0 :: clr a1 :: some (.int v) :: L) st w cn sn := w_istore_n d_121_93 (Nat.le_add_left 3 _) rfl
theorem d_121_94 : decode (mB 121) 94 = .ok (.iload_n 2, 1) := by decide +kernel
theorem s_121_94 {d : Nat} {Q : wQ} {L : List (Option Value)} {st : List Value} {w : aw} {cn sn : Nat} {a0 a1 : Option Value} {v : Int32} : wp d 121 Q 94 (a0 :: a1 :: some (.int v) :: L) st w cn sn = wp d 121 Q 95 (a0 :: a1 :: some (.int v) :: L) (.int v :: st) w cn sn := w_iload_n d_121_94 rfl
theorem d_121_95 : decode (mB 121) 95 = .ok (.aload_n 0, 1) := by decide +kernel
theorem s_121_95 {d : Nat} {Q : wQ} {L : List (Option Value)} {st : List Value} {w : aw} {cn sn : Nat} {v : Nat} : wp d 121 Q 95 (some (.ref v) :: L) st w cn sn = wp d 121 Q 96 (some (.ref v) :: L) (.ref v :: st) w cn sn := w_aload_n d_121_95 rfl
theorem d_121_96 : decode (mB 121) 96 = .ok (.getfield 108, 3) := by decide +kernel
theorem s_121_96 {d : Nat} {Q : wQ} {L : List (Option Value)} {st : List Value} {w : aw} {cn sn : Nat} {a : Nat} : wp d 121 Q 96 L (.ref a :: st) w cn sn = (kd w a = 9 ∧ wp d 121 Q 99 L (fd w 512 a :: st) w cn sn) := w_getfield d_121_96 (by decide +kernel : fT (mO 121) 108 = some (8, 0))
theorem d_121_99 : decode (mB 121) 99 = .ok (.if_icmp .ge 38, 3) := by decide +kernel
theorem s_121_99 {d : Nat} {Q : wQ} {L : List (Option Value)} {st : List Value} {w : aw} {cn sn : Nat} {a b : Int32} : wp d 121 Q 99 L (.int b :: .int a :: st) w cn sn = ((b ≤ a → wp d 121 Q 137 L st w cn sn) ∧ (¬ b ≤ a → wp d 121 Q 102 L st w cn sn)) := w_icge d_121_99 (by decide)
theorem d_121_102 : decode (mB 121) 102 = .ok (.aload_n 0, 1) := by decide +kernel
theorem s_121_102 {d : Nat} {Q : wQ} {L : List (Option Value)} {st : List Value} {w : aw} {cn sn : Nat} {v : Nat} : wp d 121 Q 102 (some (.ref v) :: L) st w cn sn = wp d 121 Q 103 (some (.ref v) :: L) (.ref v :: st) w cn sn := w_aload_n d_121_102 rfl
theorem d_121_103 : decode (mB 121) 103 = .ok (.getfield 20, 3) := by decide +kernel
theorem s_121_103 {d : Nat} {Q : wQ} {L : List (Option Value)} {st : List Value} {w : aw} {cn sn : Nat} {a : Nat} : wp d 121 Q 103 L (.ref a :: st) w cn sn = (kd w a = 9 ∧ wp d 121 Q 106 L (fd w 525 a :: st) w cn sn) := w_getfield d_121_103 (by decide +kernel : fT (mO 121) 20 = some (8, 13))
theorem d_121_106 : decode (mB 121) 106 = .ok (.iload_n 2, 1) := by decide +kernel
theorem s_121_106 {d : Nat} {Q : wQ} {L : List (Option Value)} {st : List Value} {w : aw} {cn sn : Nat} {a0 a1 : Option Value} {v : Int32} : wp d 121 Q 106 (a0 :: a1 :: some (.int v) :: L) st w cn sn = wp d 121 Q 107 (a0 :: a1 :: some (.int v) :: L) (.int v :: st) w cn sn := w_iload_n d_121_106 rfl
theorem d_121_107 : decode (mB 121) 107 = .ok (.aload_n 0, 1) := by decide +kernel
theorem s_121_107 {d : Nat} {Q : wQ} {L : List (Option Value)} {st : List Value} {w : aw} {cn sn : Nat} {v : Nat} : wp d 121 Q 107 (some (.ref v) :: L) st w cn sn = wp d 121 Q 108 (some (.ref v) :: L) (.ref v :: st) w cn sn := w_aload_n d_121_107 rfl
theorem d_121_108 : decode (mB 121) 108 = .ok (.getfield 20, 3) := by decide +kernel
theorem s_121_108 {d : Nat} {Q : wQ} {L : List (Option Value)} {st : List Value} {w : aw} {cn sn : Nat} {a : Nat} : wp d 121 Q 108 L (.ref a :: st) w cn sn = (kd w a = 9 ∧ wp d 121 Q 111 L (fd w 525 a :: st) w cn sn) := w_getfield d_121_108 (by decide +kernel : fT (mO 121) 20 = some (8, 13))
theorem d_121_111 : decode (mB 121) 111 = .ok (.iload_n 2, 1) := by decide +kernel
theorem s_121_111 {d : Nat} {Q : wQ} {L : List (Option Value)} {st : List Value} {w : aw} {cn sn : Nat} {a0 a1 : Option Value} {v : Int32} : wp d 121 Q 111 (a0 :: a1 :: some (.int v) :: L) st w cn sn = wp d 121 Q 112 (a0 :: a1 :: some (.int v) :: L) (.int v :: st) w cn sn := w_iload_n d_121_111 rfl
theorem d_121_112 : decode (mB 121) 112 = .ok (.iaload, 1) := by decide +kernel
theorem s_121_112 {d : Nat} {Q : wQ} {L : List (Option Value)} {st : List Value} {w : aw} {cn sn : Nat} {a : Nat} {i : Int32} : wp d 121 Q 112 L (.int i :: .ref a :: st) w cn sn = ((kd w a = 20 ∨ kd w a = 30) ∧ inR i (ln w a) ∧ wp d 121 Q 113 L (.int (ai w a i.toNatClampNeg) :: st) w cn sn) := wp_row d_121_112 _ _ _ _ _
theorem d_121_113 : decode (mB 121) 113 = .ok (.aload_n 0, 1) := by decide +kernel
theorem s_121_113 {d : Nat} {Q : wQ} {L : List (Option Value)} {st : List Value} {w : aw} {cn sn : Nat} {v : Nat} : wp d 121 Q 113 (some (.ref v) :: L) st w cn sn = wp d 121 Q 114 (some (.ref v) :: L) (.ref v :: st) w cn sn := w_aload_n d_121_113 rfl
theorem d_121_114 : decode (mB 121) 114 = .ok (.getfield 7, 3) := by decide +kernel
theorem s_121_114 {d : Nat} {Q : wQ} {L : List (Option Value)} {st : List Value} {w : aw} {cn sn : Nat} {a : Nat} : wp d 121 Q 114 L (.ref a :: st) w cn sn = (kd w a = 9 ∧ wp d 121 Q 117 L (fd w 519 a :: st) w cn sn) := w_getfield d_121_114 (by decide +kernel : fT (mO 121) 7 = some (8, 7))
theorem d_121_117 : decode (mB 121) 117 = .ok (.if_icmp .ne 7, 3) := by decide +kernel
theorem s_121_117 {d : Nat} {Q : wQ} {L : List (Option Value)} {st : List Value} {w : aw} {cn sn : Nat} {a b : Int32} : wp d 121 Q 117 L (.int b :: .int a :: st) w cn sn = ((¬ a = b → wp d 121 Q 124 L st w cn sn) ∧ (a = b → wp d 121 Q 120 L st w cn sn)) := w_icne d_121_117 (by decide)
theorem d_121_120 : decode (mB 121) 120 = .ok (.iconst 0, 1) := by decide +kernel
theorem s_121_120 {d : Nat} {Q : wQ} {L : List (Option Value)} {st : List Value} {w : aw} {cn sn : Nat}  : wp d 121 Q 120 L st w cn sn = wp d 121 Q 121 L (.int 0 :: st) w cn sn := w_iconst d_121_120 (by decide)
theorem d_121_121 : decode (mB 121) 121 = .ok (.goto 9, 3) := by decide +kernel
theorem s_121_121 {d : Nat} {Q : wQ} {L : List (Option Value)} {st : List Value} {w : aw} {cn sn : Nat}  : wp d 121 Q 121 L st w cn sn = wp d 121 Q 130 L st w cn sn := w_goto d_121_121 (by decide)
theorem d_121_124 : decode (mB 121) 124 = .ok (.aload_n 0, 1) := by decide +kernel
theorem s_121_124 {d : Nat} {Q : wQ} {L : List (Option Value)} {st : List Value} {w : aw} {cn sn : Nat} {v : Nat} : wp d 121 Q 124 (some (.ref v) :: L) st w cn sn = wp d 121 Q 125 (some (.ref v) :: L) (.ref v :: st) w cn sn := w_aload_n d_121_124 rfl
theorem d_121_125 : decode (mB 121) 125 = .ok (.getfield 20, 3) := by decide +kernel
theorem s_121_125 {d : Nat} {Q : wQ} {L : List (Option Value)} {st : List Value} {w : aw} {cn sn : Nat} {a : Nat} : wp d 121 Q 125 L (.ref a :: st) w cn sn = (kd w a = 9 ∧ wp d 121 Q 128 L (fd w 525 a :: st) w cn sn) := w_getfield d_121_125 (by decide +kernel : fT (mO 121) 20 = some (8, 13))
theorem d_121_128 : decode (mB 121) 128 = .ok (.iload_n 2, 1) := by decide +kernel
theorem s_121_128 {d : Nat} {Q : wQ} {L : List (Option Value)} {st : List Value} {w : aw} {cn sn : Nat} {a0 a1 : Option Value} {v : Int32} : wp d 121 Q 128 (a0 :: a1 :: some (.int v) :: L) st w cn sn = wp d 121 Q 129 (a0 :: a1 :: some (.int v) :: L) (.int v :: st) w cn sn := w_iload_n d_121_128 rfl
theorem d_121_129 : decode (mB 121) 129 = .ok (.iaload, 1) := by decide +kernel
theorem s_121_129 {d : Nat} {Q : wQ} {L : List (Option Value)} {st : List Value} {w : aw} {cn sn : Nat} {a : Nat} {i : Int32} : wp d 121 Q 129 L (.int i :: .ref a :: st) w cn sn = ((kd w a = 20 ∨ kd w a = 30) ∧ inR i (ln w a) ∧ wp d 121 Q 130 L (.int (ai w a i.toNatClampNeg) :: st) w cn sn) := wp_row d_121_129 _ _ _ _ _
theorem d_121_130 : decode (mB 121) 130 = .ok (.iastore, 1) := by decide +kernel
theorem s_121_130 {d : Nat} {Q : wQ} {L : List (Option Value)} {st : List Value} {w : aw} {cn sn : Nat} {a : Nat} {i x : Int32} : wp d 121 Q 130 L (.int x :: .int i :: .ref a :: st) w cn sn = (kd w a = 20 ∧ inR i (ln w a) ∧ wp d 121 Q 131 L st (uA w a i.toNatClampNeg x) cn sn) := wp_row d_121_130 _ _ _ _ _
theorem d_121_131 : decode (mB 121) 131 = .ok (.iinc 2 1, 3) := by decide +kernel
theorem s_121_131 {d : Nat} {Q : wQ} {L : List (Option Value)} {st : List Value} {w : aw} {cn sn : Nat} {a0 a1 : Option Value} {v : Int32} : wp d 121 Q 131 (a0 :: a1 :: some (.int v) :: L) st w cn sn = wp d 121 Q 134 (a0 :: clr a1 :: some (.int (v + 1)) :: L) st w cn sn := w_iinc d_121_131 rfl (by decide) rfl
theorem d_121_134 : decode (mB 121) 134 = .ok (.goto (-40), 3) := by decide +kernel
theorem s_121_134 {d : Nat} {Q : wQ} {L : List (Option Value)} {st : List Value} {w : aw} {cn sn : Nat}  : wp d 121 Q 134 L st w cn sn = wp d 121 Q 94 L st w cn sn := w_goto d_121_134 (by decide)
theorem d_121_137 : decode (mB 121) 137 = .ok (.aload_n 0, 1) := by decide +kernel
theorem s_121_137 {d : Nat} {Q : wQ} {L : List (Option Value)} {st : List Value} {w : aw} {cn sn : Nat} {v : Nat} : wp d 121 Q 137 (some (.ref v) :: L) st w cn sn = wp d 121 Q 138 (some (.ref v) :: L) (.ref v :: st) w cn sn := w_aload_n d_121_137 rfl
theorem d_121_138 : decode (mB 121) 138 = .ok (.getfield 20, 3) := by decide +kernel
theorem s_121_138 {d : Nat} {Q : wQ} {L : List (Option Value)} {st : List Value} {w : aw} {cn sn : Nat} {a : Nat} : wp d 121 Q 138 L (.ref a :: st) w cn sn = (kd w a = 9 ∧ wp d 121 Q 141 L (fd w 525 a :: st) w cn sn) := w_getfield d_121_138 (by decide +kernel : fT (mO 121) 20 = some (8, 13))
theorem d_121_141 : decode (mB 121) 141 = .ok (.iload_n 1, 1) := by decide +kernel
theorem s_121_141 {d : Nat} {Q : wQ} {L : List (Option Value)} {st : List Value} {w : aw} {cn sn : Nat} {a0 : Option Value} {v : Int32} : wp d 121 Q 141 (a0 :: some (.int v) :: L) st w cn sn = wp d 121 Q 142 (a0 :: some (.int v) :: L) (.int v :: st) w cn sn := w_iload_n d_121_141 rfl
theorem d_121_142 : decode (mB 121) 142 = .ok (.aload_n 0, 1) := by decide +kernel
theorem s_121_142 {d : Nat} {Q : wQ} {L : List (Option Value)} {st : List Value} {w : aw} {cn sn : Nat} {v : Nat} : wp d 121 Q 142 (some (.ref v) :: L) st w cn sn = wp d 121 Q 143 (some (.ref v) :: L) (.ref v :: st) w cn sn := w_aload_n d_121_142 rfl
theorem d_121_143 : decode (mB 121) 143 = .ok (.getfield 7, 3) := by decide +kernel
theorem s_121_143 {d : Nat} {Q : wQ} {L : List (Option Value)} {st : List Value} {w : aw} {cn sn : Nat} {a : Nat} : wp d 121 Q 143 L (.ref a :: st) w cn sn = (kd w a = 9 ∧ wp d 121 Q 146 L (fd w 519 a :: st) w cn sn) := w_getfield d_121_143 (by decide +kernel : fT (mO 121) 7 = some (8, 7))
theorem d_121_146 : decode (mB 121) 146 = .ok (.iastore, 1) := by decide +kernel
theorem s_121_146 {d : Nat} {Q : wQ} {L : List (Option Value)} {st : List Value} {w : aw} {cn sn : Nat} {a : Nat} {i x : Int32} : wp d 121 Q 146 L (.int x :: .int i :: .ref a :: st) w cn sn = (kd w a = 20 ∧ inR i (ln w a) ∧ wp d 121 Q 147 L st (uA w a i.toNatClampNeg x) cn sn) := wp_row d_121_146 _ _ _ _ _
theorem d_121_147 : decode (mB 121) 147 = .ok (.aload_n 0, 1) := by decide +kernel
theorem s_121_147 {d : Nat} {Q : wQ} {L : List (Option Value)} {st : List Value} {w : aw} {cn sn : Nat} {v : Nat} : wp d 121 Q 147 (some (.ref v) :: L) st w cn sn = wp d 121 Q 148 (some (.ref v) :: L) (.ref v :: st) w cn sn := w_aload_n d_121_147 rfl
theorem d_121_148 : decode (mB 121) 148 = .ok (.aload_n 0, 1) := by decide +kernel
theorem s_121_148 {d : Nat} {Q : wQ} {L : List (Option Value)} {st : List Value} {w : aw} {cn sn : Nat} {v : Nat} : wp d 121 Q 148 (some (.ref v) :: L) st w cn sn = wp d 121 Q 149 (some (.ref v) :: L) (.ref v :: st) w cn sn := w_aload_n d_121_148 rfl
theorem d_121_149 : decode (mB 121) 149 = .ok (.getfield 169, 3) := by decide +kernel
theorem s_121_149 {d : Nat} {Q : wQ} {L : List (Option Value)} {st : List Value} {w : aw} {cn sn : Nat} {a : Nat} : wp d 121 Q 149 L (.ref a :: st) w cn sn = (kd w a = 9 ∧ wp d 121 Q 152 L (fd w 518 a :: st) w cn sn) := w_getfield d_121_149 (by decide +kernel : fT (mO 121) 169 = some (8, 6))
theorem d_121_152 : decode (mB 121) 152 = .ok (.iconst 1, 1) := by decide +kernel
theorem s_121_152 {d : Nat} {Q : wQ} {L : List (Option Value)} {st : List Value} {w : aw} {cn sn : Nat}  : wp d 121 Q 152 L st w cn sn = wp d 121 Q 153 L (.int 1 :: st) w cn sn := w_iconst d_121_152 (by decide)
theorem d_121_153 : decode (mB 121) 153 = .ok (.iadd, 1) := by decide +kernel
theorem s_121_153 {d : Nat} {Q : wQ} {L : List (Option Value)} {st : List Value} {w : aw} {cn sn : Nat} {a b : Int32} : wp d 121 Q 153 L (.int b :: .int a :: st) w cn sn = wp d 121 Q 154 L (.int (a + b) :: st) w cn sn := wp_row d_121_153 _ _ _ _ _
theorem d_121_154 : decode (mB 121) 154 = .ok (.sipush 4095, 3) := by decide +kernel
theorem s_121_154 {d : Nat} {Q : wQ} {L : List (Option Value)} {st : List Value} {w : aw} {cn sn : Nat}  : wp d 121 Q 154 L st w cn sn = wp d 121 Q 157 L (.int 4095 :: st) w cn sn := w_sipush d_121_154 (by decide)
theorem d_121_157 : decode (mB 121) 157 = .ok (.iand, 1) := by decide +kernel
theorem s_121_157 {d : Nat} {Q : wQ} {L : List (Option Value)} {st : List Value} {w : aw} {cn sn : Nat} {a b : Int32} : wp d 121 Q 157 L (.int b :: .int a :: st) w cn sn = wp d 121 Q 158 L (.int (a &&& b) :: st) w cn sn := wp_row d_121_157 _ _ _ _ _
theorem d_121_158 : decode (mB 121) 158 = .ok (.putfield 169, 3) := by decide +kernel
theorem s_121_158 {d : Nat} {Q : wQ} {L : List (Option Value)} {st : List Value} {w : aw} {cn sn : Nat} {x : Int32} {a : Nat} : wp d 121 Q 158 L (.int x :: .ref a :: st) w cn sn = (kd w a = 9 ∧ wp d 121 Q 161 L st (uF w 518 a (.int x)) cn sn) := w_putfield d_121_158 (by decide +kernel : fT (mO 121) 169 = some (8, 6)) (by decide +kernel) ok_int
theorem d_121_161 : decode (mB 121) 161 = .ok (.aload_n 0, 1) := by decide +kernel
theorem s_121_161 {d : Nat} {Q : wQ} {L : List (Option Value)} {st : List Value} {w : aw} {cn sn : Nat} {v : Nat} : wp d 121 Q 161 (some (.ref v) :: L) st w cn sn = wp d 121 Q 162 (some (.ref v) :: L) (.ref v :: st) w cn sn := w_aload_n d_121_161 rfl
theorem d_121_162 : decode (mB 121) 162 = .ok (.aload_n 0, 1) := by decide +kernel
theorem s_121_162 {d : Nat} {Q : wQ} {L : List (Option Value)} {st : List Value} {w : aw} {cn sn : Nat} {v : Nat} : wp d 121 Q 162 (some (.ref v) :: L) st w cn sn = wp d 121 Q 163 (some (.ref v) :: L) (.ref v :: st) w cn sn := w_aload_n d_121_162 rfl
theorem d_121_163 : decode (mB 121) 163 = .ok (.getfield 7, 3) := by decide +kernel
theorem s_121_163 {d : Nat} {Q : wQ} {L : List (Option Value)} {st : List Value} {w : aw} {cn sn : Nat} {a : Nat} : wp d 121 Q 163 L (.ref a :: st) w cn sn = (kd w a = 9 ∧ wp d 121 Q 166 L (fd w 519 a :: st) w cn sn) := w_getfield d_121_163 (by decide +kernel : fT (mO 121) 7 = some (8, 7))
theorem d_121_166 : decode (mB 121) 166 = .ok (.aload_n 0, 1) := by decide +kernel
theorem s_121_166 {d : Nat} {Q : wQ} {L : List (Option Value)} {st : List Value} {w : aw} {cn sn : Nat} {v : Nat} : wp d 121 Q 166 (some (.ref v) :: L) st w cn sn = wp d 121 Q 167 (some (.ref v) :: L) (.ref v :: st) w cn sn := w_aload_n d_121_166 rfl
theorem d_121_167 : decode (mB 121) 167 = .ok (.getfield 172, 3) := by decide +kernel
theorem s_121_167 {d : Nat} {Q : wQ} {L : List (Option Value)} {st : List Value} {w : aw} {cn sn : Nat} {a : Nat} : wp d 121 Q 167 L (.ref a :: st) w cn sn = (kd w a = 9 ∧ wp d 121 Q 170 L (fd w 513 a :: st) w cn sn) := w_getfield d_121_167 (by decide +kernel : fT (mO 121) 172 = some (8, 1))
theorem d_121_170 : decode (mB 121) 170 = .ok (.if_icmp .ne 7, 3) := by decide +kernel
theorem s_121_170 {d : Nat} {Q : wQ} {L : List (Option Value)} {st : List Value} {w : aw} {cn sn : Nat} {a b : Int32} : wp d 121 Q 170 L (.int b :: .int a :: st) w cn sn = ((¬ a = b → wp d 121 Q 177 L st w cn sn) ∧ (a = b → wp d 121 Q 173 L st w cn sn)) := w_icne d_121_170 (by decide)
theorem d_121_173 : decode (mB 121) 173 = .ok (.iconst 1, 1) := by decide +kernel
theorem s_121_173 {d : Nat} {Q : wQ} {L : List (Option Value)} {st : List Value} {w : aw} {cn sn : Nat}  : wp d 121 Q 173 L st w cn sn = wp d 121 Q 174 L (.int 1 :: st) w cn sn := w_iconst d_121_173 (by decide)
theorem d_121_174 : decode (mB 121) 174 = .ok (.goto 9, 3) := by decide +kernel
theorem s_121_174 {d : Nat} {Q : wQ} {L : List (Option Value)} {st : List Value} {w : aw} {cn sn : Nat}  : wp d 121 Q 174 L st w cn sn = wp d 121 Q 183 L st w cn sn := w_goto d_121_174 (by decide)
theorem d_121_177 : decode (mB 121) 177 = .ok (.aload_n 0, 1) := by decide +kernel
theorem s_121_177 {d : Nat} {Q : wQ} {L : List (Option Value)} {st : List Value} {w : aw} {cn sn : Nat} {v : Nat} : wp d 121 Q 177 (some (.ref v) :: L) st w cn sn = wp d 121 Q 178 (some (.ref v) :: L) (.ref v :: st) w cn sn := w_aload_n d_121_177 rfl
theorem d_121_178 : decode (mB 121) 178 = .ok (.getfield 7, 3) := by decide +kernel
theorem s_121_178 {d : Nat} {Q : wQ} {L : List (Option Value)} {st : List Value} {w : aw} {cn sn : Nat} {a : Nat} : wp d 121 Q 178 L (.ref a :: st) w cn sn = (kd w a = 9 ∧ wp d 121 Q 181 L (fd w 519 a :: st) w cn sn) := w_getfield d_121_178 (by decide +kernel : fT (mO 121) 7 = some (8, 7))
theorem d_121_181 : decode (mB 121) 181 = .ok (.iconst 1, 1) := by decide +kernel
theorem s_121_181 {d : Nat} {Q : wQ} {L : List (Option Value)} {st : List Value} {w : aw} {cn sn : Nat}  : wp d 121 Q 181 L st w cn sn = wp d 121 Q 182 L (.int 1 :: st) w cn sn := w_iconst d_121_181 (by decide)
theorem d_121_182 : decode (mB 121) 182 = .ok (.iadd, 1) := by decide +kernel
theorem s_121_182 {d : Nat} {Q : wQ} {L : List (Option Value)} {st : List Value} {w : aw} {cn sn : Nat} {a b : Int32} : wp d 121 Q 182 L (.int b :: .int a :: st) w cn sn = wp d 121 Q 183 L (.int (a + b) :: st) w cn sn := wp_row d_121_182 _ _ _ _ _
theorem d_121_183 : decode (mB 121) 183 = .ok (.putfield 7, 3) := by decide +kernel
theorem s_121_183 {d : Nat} {Q : wQ} {L : List (Option Value)} {st : List Value} {w : aw} {cn sn : Nat} {x : Int32} {a : Nat} : wp d 121 Q 183 L (.int x :: .ref a :: st) w cn sn = (kd w a = 9 ∧ wp d 121 Q 186 L st (uF w 519 a (.int x)) cn sn) := w_putfield d_121_183 (by decide +kernel : fT (mO 121) 7 = some (8, 7)) (by decide +kernel) ok_int
theorem d_121_186 : decode (mB 121) 186 = .ok (.return_, 1) := by decide +kernel
theorem s_121_186 {d : Nat} {Q : wQ} {L : List (Option Value)} {w : aw} {cn sn : Nat}  : wp d 121 Q 186 L [] w cn sn = Q none w := w_return d_121_186 rfl
theorem d_122_0 : decode (mB 122) 0 = .ok (.aload_n 0, 1) := by decide +kernel
theorem s_122_0 {d : Nat} {Q : wQ} {L : List (Option Value)} {st : List Value} {w : aw} {cn sn : Nat} {v : Nat} : wp d 122 Q 0 (some (.ref v) :: L) st w cn sn = wp d 122 Q 1 (some (.ref v) :: L) (.ref v :: st) w cn sn := w_aload_n d_122_0 rfl
theorem d_122_1 : decode (mB 122) 1 = .ok (.dup, 1) := by decide +kernel
theorem s_122_1 {d : Nat} {Q : wQ} {L : List (Option Value)} {st : List Value} {w : aw} {cn sn : Nat} {v : Value} : wp d 122 Q 1 L (v :: st) w cn sn = (v.category = 1 ∧ wp d 122 Q 2 L (v :: v :: st) w cn sn) := wp_row d_122_1 _ _ _ _ _
theorem d_122_2 : decode (mB 122) 2 = .ok (.getfield 175, 3) := by decide +kernel
theorem s_122_2 {d : Nat} {Q : wQ} {L : List (Option Value)} {st : List Value} {w : aw} {cn sn : Nat} {a : Nat} : wp d 122 Q 2 L (.ref a :: st) w cn sn = (kd w a = 9 ∧ wp d 122 Q 5 L (fd w 516 a :: st) w cn sn) := w_getfield d_122_2 (by decide +kernel : fT (mO 122) 175 = some (8, 4))
theorem d_122_5 : decode (mB 122) 5 = .ok (.iconst 1, 1) := by decide +kernel
theorem s_122_5 {d : Nat} {Q : wQ} {L : List (Option Value)} {st : List Value} {w : aw} {cn sn : Nat}  : wp d 122 Q 5 L st w cn sn = wp d 122 Q 6 L (.int 1 :: st) w cn sn := w_iconst d_122_5 (by decide)
theorem d_122_6 : decode (mB 122) 6 = .ok (.iadd, 1) := by decide +kernel
theorem s_122_6 {d : Nat} {Q : wQ} {L : List (Option Value)} {st : List Value} {w : aw} {cn sn : Nat} {a b : Int32} : wp d 122 Q 6 L (.int b :: .int a :: st) w cn sn = wp d 122 Q 7 L (.int (a + b) :: st) w cn sn := wp_row d_122_6 _ _ _ _ _
theorem d_122_7 : decode (mB 122) 7 = .ok (.putfield 175, 3) := by decide +kernel
theorem s_122_7 {d : Nat} {Q : wQ} {L : List (Option Value)} {st : List Value} {w : aw} {cn sn : Nat} {x : Int32} {a : Nat} : wp d 122 Q 7 L (.int x :: .ref a :: st) w cn sn = (kd w a = 9 ∧ wp d 122 Q 10 L st (uF w 516 a (.int x)) cn sn) := w_putfield d_122_7 (by decide +kernel : fT (mO 122) 175 = some (8, 4)) (by decide +kernel) ok_int
theorem d_122_10 : decode (mB 122) 10 = .ok (.aload_n 0, 1) := by decide +kernel
theorem s_122_10 {d : Nat} {Q : wQ} {L : List (Option Value)} {st : List Value} {w : aw} {cn sn : Nat} {v : Nat} : wp d 122 Q 10 (some (.ref v) :: L) st w cn sn = wp d 122 Q 11 (some (.ref v) :: L) (.ref v :: st) w cn sn := w_aload_n d_122_10 rfl
theorem d_122_11 : decode (mB 122) 11 = .ok (.getfield 13, 3) := by decide +kernel
theorem s_122_11 {d : Nat} {Q : wQ} {L : List (Option Value)} {st : List Value} {w : aw} {cn sn : Nat} {a : Nat} : wp d 122 Q 11 L (.ref a :: st) w cn sn = (kd w a = 9 ∧ wp d 122 Q 14 L (fd w 521 a :: st) w cn sn) := w_getfield d_122_11 (by decide +kernel : fT (mO 122) 13 = some (8, 9))
theorem d_122_14 : decode (mB 122) 14 = .ok (.ifCond .lt 14, 3) := by decide +kernel
theorem s_122_14 {d : Nat} {Q : wQ} {L : List (Option Value)} {st : List Value} {w : aw} {cn sn : Nat} {x : Int32} : wp d 122 Q 14 L (.int x :: st) w cn sn = ((x < 0 → wp d 122 Q 28 L st w cn sn) ∧ (¬ x < 0 → wp d 122 Q 17 L st w cn sn)) := w_iflt d_122_14 (by decide)
theorem d_122_17 : decode (mB 122) 17 = .ok (.aload_n 0, 1) := by decide +kernel
theorem s_122_17 {d : Nat} {Q : wQ} {L : List (Option Value)} {st : List Value} {w : aw} {cn sn : Nat} {v : Nat} : wp d 122 Q 17 (some (.ref v) :: L) st w cn sn = wp d 122 Q 18 (some (.ref v) :: L) (.ref v :: st) w cn sn := w_aload_n d_122_17 rfl
theorem d_122_18 : decode (mB 122) 18 = .ok (.aload_n 0, 1) := by decide +kernel
theorem s_122_18 {d : Nat} {Q : wQ} {L : List (Option Value)} {st : List Value} {w : aw} {cn sn : Nat} {v : Nat} : wp d 122 Q 18 (some (.ref v) :: L) st w cn sn = wp d 122 Q 19 (some (.ref v) :: L) (.ref v :: st) w cn sn := w_aload_n d_122_18 rfl
theorem d_122_19 : decode (mB 122) 19 = .ok (.getfield 13, 3) := by decide +kernel
theorem s_122_19 {d : Nat} {Q : wQ} {L : List (Option Value)} {st : List Value} {w : aw} {cn sn : Nat} {a : Nat} : wp d 122 Q 19 L (.ref a :: st) w cn sn = (kd w a = 9 ∧ wp d 122 Q 22 L (fd w 521 a :: st) w cn sn) := w_getfield d_122_19 (by decide +kernel : fT (mO 122) 13 = some (8, 9))
theorem d_122_22 : decode (mB 122) 22 = .ok (.invokevirtual 178, 3) := by decide +kernel
theorem s_122_22 {d : Nat} {Q : wQ} {L : List (Option Value)} {st : List Value} {w : aw} {cn sn : Nat} {v0 : Value} {b : Nat} : wp d 122 Q 22 L (v0 :: .ref b :: st) w cn sn = (kd w b = 9 ∧ catS st ≤ 8 ∧ wpD d 111 [.ref b, v0] w (fun v w' => wp d 122 Q 25 L (v.toList ++ st) w' cn sn)) := w_virtual (As := [v0]) d_122_22 (by decide +kernel : cT (mO 122) 178 = some (0, 111)) rfl (by decide +kernel) rfl (by decide +kernel) rfl
theorem d_122_25 : decode (mB 122) 25 = .ok (.goto 13, 3) := by decide +kernel
theorem s_122_25 {d : Nat} {Q : wQ} {L : List (Option Value)} {st : List Value} {w : aw} {cn sn : Nat}  : wp d 122 Q 25 L st w cn sn = wp d 122 Q 38 L st w cn sn := w_goto d_122_25 (by decide)
theorem d_122_28 : decode (mB 122) 28 = .ok (.aload_n 0, 1) := by decide +kernel
theorem s_122_28 {d : Nat} {Q : wQ} {L : List (Option Value)} {st : List Value} {w : aw} {cn sn : Nat} {v : Nat} : wp d 122 Q 28 (some (.ref v) :: L) st w cn sn = wp d 122 Q 29 (some (.ref v) :: L) (.ref v :: st) w cn sn := w_aload_n d_122_28 rfl
theorem d_122_29 : decode (mB 122) 29 = .ok (.dup, 1) := by decide +kernel
theorem s_122_29 {d : Nat} {Q : wQ} {L : List (Option Value)} {st : List Value} {w : aw} {cn sn : Nat} {v : Value} : wp d 122 Q 29 L (v :: st) w cn sn = (v.category = 1 ∧ wp d 122 Q 30 L (v :: v :: st) w cn sn) := wp_row d_122_29 _ _ _ _ _
theorem d_122_30 : decode (mB 122) 30 = .ok (.getfield 181, 3) := by decide +kernel
theorem s_122_30 {d : Nat} {Q : wQ} {L : List (Option Value)} {st : List Value} {w : aw} {cn sn : Nat} {a : Nat} : wp d 122 Q 30 L (.ref a :: st) w cn sn = (kd w a = 9 ∧ wp d 122 Q 33 L (fd w 520 a :: st) w cn sn) := w_getfield d_122_30 (by decide +kernel : fT (mO 122) 181 = some (8, 8))
theorem d_122_33 : decode (mB 122) 33 = .ok (.iconst 1, 1) := by decide +kernel
theorem s_122_33 {d : Nat} {Q : wQ} {L : List (Option Value)} {st : List Value} {w : aw} {cn sn : Nat}  : wp d 122 Q 33 L st w cn sn = wp d 122 Q 34 L (.int 1 :: st) w cn sn := w_iconst d_122_33 (by decide)
theorem d_122_34 : decode (mB 122) 34 = .ok (.iadd, 1) := by decide +kernel
theorem s_122_34 {d : Nat} {Q : wQ} {L : List (Option Value)} {st : List Value} {w : aw} {cn sn : Nat} {a b : Int32} : wp d 122 Q 34 L (.int b :: .int a :: st) w cn sn = wp d 122 Q 35 L (.int (a + b) :: st) w cn sn := wp_row d_122_34 _ _ _ _ _
theorem d_122_35 : decode (mB 122) 35 = .ok (.putfield 181, 3) := by decide +kernel
theorem s_122_35 {d : Nat} {Q : wQ} {L : List (Option Value)} {st : List Value} {w : aw} {cn sn : Nat} {x : Int32} {a : Nat} : wp d 122 Q 35 L (.int x :: .ref a :: st) w cn sn = (kd w a = 9 ∧ wp d 122 Q 38 L st (uF w 520 a (.int x)) cn sn) := w_putfield d_122_35 (by decide +kernel : fT (mO 122) 181 = some (8, 8)) (by decide +kernel) ok_int
theorem d_122_38 : decode (mB 122) 38 = .ok (.aload_n 0, 1) := by decide +kernel
theorem s_122_38 {d : Nat} {Q : wQ} {L : List (Option Value)} {st : List Value} {w : aw} {cn sn : Nat} {v : Nat} : wp d 122 Q 38 (some (.ref v) :: L) st w cn sn = wp d 122 Q 39 (some (.ref v) :: L) (.ref v :: st) w cn sn := w_aload_n d_122_38 rfl
theorem d_122_39 : decode (mB 122) 39 = .ok (.getfield 175, 3) := by decide +kernel
theorem s_122_39 {d : Nat} {Q : wQ} {L : List (Option Value)} {st : List Value} {w : aw} {cn sn : Nat} {a : Nat} : wp d 122 Q 39 L (.ref a :: st) w cn sn = (kd w a = 9 ∧ wp d 122 Q 42 L (fd w 516 a :: st) w cn sn) := w_getfield d_122_39 (by decide +kernel : fT (mO 122) 175 = some (8, 4))
theorem d_122_42 : decode (mB 122) 42 = .ok (.aload_n 0, 1) := by decide +kernel
theorem s_122_42 {d : Nat} {Q : wQ} {L : List (Option Value)} {st : List Value} {w : aw} {cn sn : Nat} {v : Nat} : wp d 122 Q 42 (some (.ref v) :: L) st w cn sn = wp d 122 Q 43 (some (.ref v) :: L) (.ref v :: st) w cn sn := w_aload_n d_122_42 rfl
theorem d_122_43 : decode (mB 122) 43 = .ok (.getfield 184, 3) := by decide +kernel
theorem s_122_43 {d : Nat} {Q : wQ} {L : List (Option Value)} {st : List Value} {w : aw} {cn sn : Nat} {a : Nat} : wp d 122 Q 43 L (.ref a :: st) w cn sn = (kd w a = 9 ∧ wp d 122 Q 46 L (fd w 515 a :: st) w cn sn) := w_getfield d_122_43 (by decide +kernel : fT (mO 122) 184 = some (8, 3))
theorem d_122_46 : decode (mB 122) 46 = .ok (.irem, 1) := by decide +kernel
theorem s_122_46 {d : Nat} {Q : wQ} {L : List (Option Value)} {st : List Value} {w : aw} {cn sn : Nat} {a b : Int32} : wp d 122 Q 46 L (.int b :: .int a :: st) w cn sn = (¬ b = 0 ∧ wp d 122 Q 47 L (.int (a - a / b * b) :: st) w cn sn) := wp_row d_122_46 _ _ _ _ _
theorem d_122_47 : decode (mB 122) 47 = .ok (.ifCond .ne 7, 3) := by decide +kernel
theorem s_122_47 {d : Nat} {Q : wQ} {L : List (Option Value)} {st : List Value} {w : aw} {cn sn : Nat} {x : Int32} : wp d 122 Q 47 L (.int x :: st) w cn sn = ((¬ x = 0 → wp d 122 Q 54 L st w cn sn) ∧ (x = 0 → wp d 122 Q 50 L st w cn sn)) := w_ifne d_122_47 (by decide)
theorem d_122_50 : decode (mB 122) 50 = .ok (.aload_n 0, 1) := by decide +kernel
theorem s_122_50 {d : Nat} {Q : wQ} {L : List (Option Value)} {st : List Value} {w : aw} {cn sn : Nat} {v : Nat} : wp d 122 Q 50 (some (.ref v) :: L) st w cn sn = wp d 122 Q 51 (some (.ref v) :: L) (.ref v :: st) w cn sn := w_aload_n d_122_50 rfl
theorem d_122_51 : decode (mB 122) 51 = .ok (.invokevirtual 187, 3) := by decide +kernel
theorem s_122_51 {d : Nat} {Q : wQ} {L : List (Option Value)} {st : List Value} {w : aw} {cn sn : Nat} {b : Nat} : wp d 122 Q 51 L (.ref b :: st) w cn sn = (kd w b = 9 ∧ catS st ≤ 8 ∧ wpD d 120 [.ref b] w (fun v w' => wp d 122 Q 54 L (v.toList ++ st) w' cn sn)) := w_virtual (As := []) d_122_51 (by decide +kernel : cT (mO 122) 187 = some (0, 120)) rfl (by decide +kernel) rfl (by decide +kernel) rfl
theorem d_122_54 : decode (mB 122) 54 = .ok (.aload_n 0, 1) := by decide +kernel
theorem s_122_54 {d : Nat} {Q : wQ} {L : List (Option Value)} {st : List Value} {w : aw} {cn sn : Nat} {v : Nat} : wp d 122 Q 54 (some (.ref v) :: L) st w cn sn = wp d 122 Q 55 (some (.ref v) :: L) (.ref v :: st) w cn sn := w_aload_n d_122_54 rfl
theorem d_122_55 : decode (mB 122) 55 = .ok (.invokevirtual 190, 3) := by decide +kernel
theorem s_122_55 {d : Nat} {Q : wQ} {L : List (Option Value)} {st : List Value} {w : aw} {cn sn : Nat} {b : Nat} : wp d 122 Q 55 L (.ref b :: st) w cn sn = (kd w b = 9 ∧ catS st ≤ 8 ∧ wpD d 121 [.ref b] w (fun v w' => wp d 122 Q 58 L (v.toList ++ st) w' cn sn)) := w_virtual (As := []) d_122_55 (by decide +kernel : cT (mO 122) 190 = some (0, 121)) rfl (by decide +kernel) rfl (by decide +kernel) rfl
theorem d_122_58 : decode (mB 122) 58 = .ok (.return_, 1) := by decide +kernel
theorem s_122_58 {d : Nat} {Q : wQ} {L : List (Option Value)} {w : aw} {cn sn : Nat}  : wp d 122 Q 58 L [] w cn sn = Q none w := w_return d_122_58 rfl
theorem d_123_0 : decode (mB 123) 0 = .ok (.aload_n 0, 1) := by decide +kernel
theorem s_123_0 {d : Nat} {Q : wQ} {L : List (Option Value)} {st : List Value} {w : aw} {cn sn : Nat} {v : Nat} : wp d 123 Q 0 (some (.ref v) :: L) st w cn sn = wp d 123 Q 1 (some (.ref v) :: L) (.ref v :: st) w cn sn := w_aload_n d_123_0 rfl
theorem d_123_1 : decode (mB 123) 1 = .ok (.getfield 108, 3) := by decide +kernel
theorem s_123_1 {d : Nat} {Q : wQ} {L : List (Option Value)} {st : List Value} {w : aw} {cn sn : Nat} {a : Nat} : wp d 123 Q 1 L (.ref a :: st) w cn sn = (kd w a = 9 ∧ wp d 123 Q 4 L (fd w 512 a :: st) w cn sn) := w_getfield d_123_1 (by decide +kernel : fT (mO 123) 108 = some (8, 0))
theorem d_123_4 : decode (mB 123) 4 = .ok (.ifCond .gt 45, 3) := by decide +kernel
theorem s_123_4 {d : Nat} {Q : wQ} {L : List (Option Value)} {st : List Value} {w : aw} {cn sn : Nat} {x : Int32} : wp d 123 Q 4 L (.int x :: st) w cn sn = ((0 < x → wp d 123 Q 49 L st w cn sn) ∧ (¬ 0 < x → wp d 123 Q 7 L st w cn sn)) := w_ifgt d_123_4 (by decide)
theorem d_123_7 : decode (mB 123) 7 = .ok (.iload_n 1, 1) := by decide +kernel
theorem s_123_7 {d : Nat} {Q : wQ} {L : List (Option Value)} {st : List Value} {w : aw} {cn sn : Nat} {a0 : Option Value} {v : Int32} : wp d 123 Q 7 (a0 :: some (.int v) :: L) st w cn sn = wp d 123 Q 8 (a0 :: some (.int v) :: L) (.int v :: st) w cn sn := w_iload_n d_123_7 rfl
theorem d_123_8 : decode (mB 123) 8 = .ok (.iconst 1, 1) := by decide +kernel
theorem s_123_8 {d : Nat} {Q : wQ} {L : List (Option Value)} {st : List Value} {w : aw} {cn sn : Nat}  : wp d 123 Q 8 L st w cn sn = wp d 123 Q 9 L (.int 1 :: st) w cn sn := w_iconst d_123_8 (by decide)
theorem d_123_9 : decode (mB 123) 9 = .ok (.bipush 8, 2) := by decide +kernel
theorem s_123_9 {d : Nat} {Q : wQ} {L : List (Option Value)} {st : List Value} {w : aw} {cn sn : Nat}  : wp d 123 Q 9 L st w cn sn = wp d 123 Q 11 L (.int 8 :: st) w cn sn := w_bipush d_123_9 (by decide)
theorem d_123_11 : decode (mB 123) 11 = .ok (.invokestatic 111, 3) := by decide +kernel
theorem s_123_11 {d : Nat} {Q : wQ} {L : List (Option Value)} {st : List Value} {w : aw} {cn sn : Nat} {v0 v1 v2 : Value} : wp d 123 Q 11 L (v2 :: v1 :: v0 :: st) w cn sn = (catS st ≤ 8 ∧ wpD d 105 [v0, v1, v2] w (fun v w' => wp d 123 Q 14 L (v.toList ++ st) w' cn sn)) := w_static (As := [v0, v1, v2]) d_123_11 (by decide +kernel : cT (mO 123) 111 = some (2, 105)) (by decide +kernel) rfl (by decide +kernel) rfl
theorem d_123_14 : decode (mB 123) 14 = .ok (.ifCond .eq 35, 3) := by decide +kernel
theorem s_123_14 {d : Nat} {Q : wQ} {L : List (Option Value)} {st : List Value} {w : aw} {cn sn : Nat} {x : Int32} : wp d 123 Q 14 L (.int x :: st) w cn sn = ((x = 0 → wp d 123 Q 49 L st w cn sn) ∧ (¬ x = 0 → wp d 123 Q 17 L st w cn sn)) := w_ifeq d_123_14 (by decide)
theorem d_123_17 : decode (mB 123) 17 = .ok (.iload_n 2, 1) := by decide +kernel
theorem s_123_17 {d : Nat} {Q : wQ} {L : List (Option Value)} {st : List Value} {w : aw} {cn sn : Nat} {a0 a1 : Option Value} {v : Int32} : wp d 123 Q 17 (a0 :: a1 :: some (.int v) :: L) st w cn sn = wp d 123 Q 18 (a0 :: a1 :: some (.int v) :: L) (.int v :: st) w cn sn := w_iload_n d_123_17 rfl
theorem d_123_18 : decode (mB 123) 18 = .ok (.iconst 1, 1) := by decide +kernel
theorem s_123_18 {d : Nat} {Q : wQ} {L : List (Option Value)} {st : List Value} {w : aw} {cn sn : Nat}  : wp d 123 Q 18 L st w cn sn = wp d 123 Q 19 L (.int 1 :: st) w cn sn := w_iconst d_123_18 (by decide)
theorem d_123_19 : decode (mB 123) 19 = .ok (.bipush 7, 2) := by decide +kernel
theorem s_123_19 {d : Nat} {Q : wQ} {L : List (Option Value)} {st : List Value} {w : aw} {cn sn : Nat}  : wp d 123 Q 19 L st w cn sn = wp d 123 Q 21 L (.int 7 :: st) w cn sn := w_bipush d_123_19 (by decide)
theorem d_123_21 : decode (mB 123) 21 = .ok (.invokestatic 111, 3) := by decide +kernel
theorem s_123_21 {d : Nat} {Q : wQ} {L : List (Option Value)} {st : List Value} {w : aw} {cn sn : Nat} {v0 v1 v2 : Value} : wp d 123 Q 21 L (v2 :: v1 :: v0 :: st) w cn sn = (catS st ≤ 8 ∧ wpD d 105 [v0, v1, v2] w (fun v w' => wp d 123 Q 24 L (v.toList ++ st) w' cn sn)) := w_static (As := [v0, v1, v2]) d_123_21 (by decide +kernel : cT (mO 123) 111 = some (2, 105)) (by decide +kernel) rfl (by decide +kernel) rfl
theorem d_123_24 : decode (mB 123) 24 = .ok (.ifCond .eq 25, 3) := by decide +kernel
theorem s_123_24 {d : Nat} {Q : wQ} {L : List (Option Value)} {st : List Value} {w : aw} {cn sn : Nat} {x : Int32} : wp d 123 Q 24 L (.int x :: st) w cn sn = ((x = 0 → wp d 123 Q 49 L st w cn sn) ∧ (¬ x = 0 → wp d 123 Q 27 L st w cn sn)) := w_ifeq d_123_24 (by decide)
theorem d_123_27 : decode (mB 123) 27 = .ok (.iload_n 3, 1) := by decide +kernel
theorem s_123_27 {d : Nat} {Q : wQ} {L : List (Option Value)} {st : List Value} {w : aw} {cn sn : Nat} {a0 a1 a2 : Option Value} {v : Int32} : wp d 123 Q 27 (a0 :: a1 :: a2 :: some (.int v) :: L) st w cn sn = wp d 123 Q 28 (a0 :: a1 :: a2 :: some (.int v) :: L) (.int v :: st) w cn sn := w_iload_n d_123_27 rfl
theorem d_123_28 : decode (mB 123) 28 = .ok (.iconst 1, 1) := by decide +kernel
theorem s_123_28 {d : Nat} {Q : wQ} {L : List (Option Value)} {st : List Value} {w : aw} {cn sn : Nat}  : wp d 123 Q 28 L st w cn sn = wp d 123 Q 29 L (.int 1 :: st) w cn sn := w_iconst d_123_28 (by decide)
theorem d_123_29 : decode (mB 123) 29 = .ok (.bipush 64, 2) := by decide +kernel
theorem s_123_29 {d : Nat} {Q : wQ} {L : List (Option Value)} {st : List Value} {w : aw} {cn sn : Nat}  : wp d 123 Q 29 L st w cn sn = wp d 123 Q 31 L (.int 64 :: st) w cn sn := w_bipush d_123_29 (by decide)
theorem d_123_31 : decode (mB 123) 31 = .ok (.invokestatic 111, 3) := by decide +kernel
theorem s_123_31 {d : Nat} {Q : wQ} {L : List (Option Value)} {st : List Value} {w : aw} {cn sn : Nat} {v0 v1 v2 : Value} : wp d 123 Q 31 L (v2 :: v1 :: v0 :: st) w cn sn = (catS st ≤ 8 ∧ wpD d 105 [v0, v1, v2] w (fun v w' => wp d 123 Q 34 L (v.toList ++ st) w' cn sn)) := w_static (As := [v0, v1, v2]) d_123_31 (by decide +kernel : cT (mO 123) 111 = some (2, 105)) (by decide +kernel) rfl (by decide +kernel) rfl
theorem d_123_34 : decode (mB 123) 34 = .ok (.ifCond .eq 15, 3) := by decide +kernel
theorem s_123_34 {d : Nat} {Q : wQ} {L : List (Option Value)} {st : List Value} {w : aw} {cn sn : Nat} {x : Int32} : wp d 123 Q 34 L (.int x :: st) w cn sn = ((x = 0 → wp d 123 Q 49 L st w cn sn) ∧ (¬ x = 0 → wp d 123 Q 37 L st w cn sn)) := w_ifeq d_123_34 (by decide)
theorem d_123_37 : decode (mB 123) 37 = .ok (.iload 4, 2) := by decide +kernel
theorem s_123_37 {d : Nat} {Q : wQ} {L : List (Option Value)} {st : List Value} {w : aw} {cn sn : Nat} {a0 a1 a2 a3 : Option Value} {v : Int32} : wp d 123 Q 37 (a0 :: a1 :: a2 :: a3 :: some (.int v) :: L) st w cn sn = wp d 123 Q 39 (a0 :: a1 :: a2 :: a3 :: some (.int v) :: L) (.int v :: st) w cn sn := w_iload d_123_37 rfl
theorem d_123_39 : decode (mB 123) 39 = .ok (.iconst 4, 1) := by decide +kernel
theorem s_123_39 {d : Nat} {Q : wQ} {L : List (Option Value)} {st : List Value} {w : aw} {cn sn : Nat}  : wp d 123 Q 39 L st w cn sn = wp d 123 Q 40 L (.int 4 :: st) w cn sn := w_iconst d_123_39 (by decide)
theorem d_123_40 : decode (mB 123) 40 = .ok (.sipush 1000, 3) := by decide +kernel
theorem s_123_40 {d : Nat} {Q : wQ} {L : List (Option Value)} {st : List Value} {w : aw} {cn sn : Nat}  : wp d 123 Q 40 L st w cn sn = wp d 123 Q 43 L (.int 1000 :: st) w cn sn := w_sipush d_123_40 (by decide)
theorem d_123_43 : decode (mB 123) 43 = .ok (.invokestatic 111, 3) := by decide +kernel
theorem s_123_43 {d : Nat} {Q : wQ} {L : List (Option Value)} {st : List Value} {w : aw} {cn sn : Nat} {v0 v1 v2 : Value} : wp d 123 Q 43 L (v2 :: v1 :: v0 :: st) w cn sn = (catS st ≤ 8 ∧ wpD d 105 [v0, v1, v2] w (fun v w' => wp d 123 Q 46 L (v.toList ++ st) w' cn sn)) := w_static (As := [v0, v1, v2]) d_123_43 (by decide +kernel : cT (mO 123) 111 = some (2, 105)) (by decide +kernel) rfl (by decide +kernel) rfl
theorem d_123_46 : decode (mB 123) 46 = .ok (.ifCond .ne 5, 3) := by decide +kernel
theorem s_123_46 {d : Nat} {Q : wQ} {L : List (Option Value)} {st : List Value} {w : aw} {cn sn : Nat} {x : Int32} : wp d 123 Q 46 L (.int x :: st) w cn sn = ((¬ x = 0 → wp d 123 Q 51 L st w cn sn) ∧ (x = 0 → wp d 123 Q 49 L st w cn sn)) := w_ifne d_123_46 (by decide)
theorem d_123_49 : decode (mB 123) 49 = .ok (.iconst (-1), 1) := by decide +kernel
theorem s_123_49 {d : Nat} {Q : wQ} {L : List (Option Value)} {st : List Value} {w : aw} {cn sn : Nat}  : wp d 123 Q 49 L st w cn sn = wp d 123 Q 50 L (.int (-1) :: st) w cn sn := w_iconst d_123_49 (by decide)
theorem d_123_50 : decode (mB 123) 50 = .ok (.ireturn, 1) := by decide +kernel
theorem s_123_50 {d : Nat} {Q : wQ} {L : List (Option Value)} {w : aw} {cn sn : Nat} {v : Int32} : wp d 123 Q 50 L [.int v] w cn sn = Q (some (.int v)) w := w_ireturn d_123_50 rfl
theorem d_123_51 : decode (mB 123) 51 = .ok (.aload_n 0, 1) := by decide +kernel
theorem s_123_51 {d : Nat} {Q : wQ} {L : List (Option Value)} {st : List Value} {w : aw} {cn sn : Nat} {v : Nat} : wp d 123 Q 51 (some (.ref v) :: L) st w cn sn = wp d 123 Q 52 (some (.ref v) :: L) (.ref v :: st) w cn sn := w_aload_n d_123_51 rfl
theorem d_123_52 : decode (mB 123) 52 = .ok (.iload_n 1, 1) := by decide +kernel
theorem s_123_52 {d : Nat} {Q : wQ} {L : List (Option Value)} {st : List Value} {w : aw} {cn sn : Nat} {a0 : Option Value} {v : Int32} : wp d 123 Q 52 (a0 :: some (.int v) :: L) st w cn sn = wp d 123 Q 53 (a0 :: some (.int v) :: L) (.int v :: st) w cn sn := w_iload_n d_123_52 rfl
theorem d_123_53 : decode (mB 123) 53 = .ok (.putfield 108, 3) := by decide +kernel
theorem s_123_53 {d : Nat} {Q : wQ} {L : List (Option Value)} {st : List Value} {w : aw} {cn sn : Nat} {x : Int32} {a : Nat} : wp d 123 Q 53 L (.int x :: .ref a :: st) w cn sn = (kd w a = 9 ∧ wp d 123 Q 56 L st (uF w 512 a (.int x)) cn sn) := w_putfield d_123_53 (by decide +kernel : fT (mO 123) 108 = some (8, 0)) (by decide +kernel) ok_int
theorem d_123_56 : decode (mB 123) 56 = .ok (.aload_n 0, 1) := by decide +kernel
theorem s_123_56 {d : Nat} {Q : wQ} {L : List (Option Value)} {st : List Value} {w : aw} {cn sn : Nat} {v : Nat} : wp d 123 Q 56 (some (.ref v) :: L) st w cn sn = wp d 123 Q 57 (some (.ref v) :: L) (.ref v :: st) w cn sn := w_aload_n d_123_56 rfl
theorem d_123_57 : decode (mB 123) 57 = .ok (.iload_n 2, 1) := by decide +kernel
theorem s_123_57 {d : Nat} {Q : wQ} {L : List (Option Value)} {st : List Value} {w : aw} {cn sn : Nat} {a0 a1 : Option Value} {v : Int32} : wp d 123 Q 57 (a0 :: a1 :: some (.int v) :: L) st w cn sn = wp d 123 Q 58 (a0 :: a1 :: some (.int v) :: L) (.int v :: st) w cn sn := w_iload_n d_123_57 rfl
theorem d_123_58 : decode (mB 123) 58 = .ok (.putfield 172, 3) := by decide +kernel
theorem s_123_58 {d : Nat} {Q : wQ} {L : List (Option Value)} {st : List Value} {w : aw} {cn sn : Nat} {x : Int32} {a : Nat} : wp d 123 Q 58 L (.int x :: .ref a :: st) w cn sn = (kd w a = 9 ∧ wp d 123 Q 61 L st (uF w 513 a (.int x)) cn sn) := w_putfield d_123_58 (by decide +kernel : fT (mO 123) 172 = some (8, 1)) (by decide +kernel) ok_int
theorem d_123_61 : decode (mB 123) 61 = .ok (.aload_n 0, 1) := by decide +kernel
theorem s_123_61 {d : Nat} {Q : wQ} {L : List (Option Value)} {st : List Value} {w : aw} {cn sn : Nat} {v : Nat} : wp d 123 Q 61 (some (.ref v) :: L) st w cn sn = wp d 123 Q 62 (some (.ref v) :: L) (.ref v :: st) w cn sn := w_aload_n d_123_61 rfl
theorem d_123_62 : decode (mB 123) 62 = .ok (.iload_n 3, 1) := by decide +kernel
theorem s_123_62 {d : Nat} {Q : wQ} {L : List (Option Value)} {st : List Value} {w : aw} {cn sn : Nat} {a0 a1 a2 : Option Value} {v : Int32} : wp d 123 Q 62 (a0 :: a1 :: a2 :: some (.int v) :: L) st w cn sn = wp d 123 Q 63 (a0 :: a1 :: a2 :: some (.int v) :: L) (.int v :: st) w cn sn := w_iload_n d_123_62 rfl
theorem d_123_63 : decode (mB 123) 63 = .ok (.putfield 166, 3) := by decide +kernel
theorem s_123_63 {d : Nat} {Q : wQ} {L : List (Option Value)} {st : List Value} {w : aw} {cn sn : Nat} {x : Int32} {a : Nat} : wp d 123 Q 63 L (.int x :: .ref a :: st) w cn sn = (kd w a = 9 ∧ wp d 123 Q 66 L st (uF w 514 a (.int x)) cn sn) := w_putfield d_123_63 (by decide +kernel : fT (mO 123) 166 = some (8, 2)) (by decide +kernel) ok_int
theorem d_123_66 : decode (mB 123) 66 = .ok (.aload_n 0, 1) := by decide +kernel
theorem s_123_66 {d : Nat} {Q : wQ} {L : List (Option Value)} {st : List Value} {w : aw} {cn sn : Nat} {v : Nat} : wp d 123 Q 66 (some (.ref v) :: L) st w cn sn = wp d 123 Q 67 (some (.ref v) :: L) (.ref v :: st) w cn sn := w_aload_n d_123_66 rfl
theorem d_123_67 : decode (mB 123) 67 = .ok (.iload 4, 2) := by decide +kernel
theorem s_123_67 {d : Nat} {Q : wQ} {L : List (Option Value)} {st : List Value} {w : aw} {cn sn : Nat} {a0 a1 a2 a3 : Option Value} {v : Int32} : wp d 123 Q 67 (a0 :: a1 :: a2 :: a3 :: some (.int v) :: L) st w cn sn = wp d 123 Q 69 (a0 :: a1 :: a2 :: a3 :: some (.int v) :: L) (.int v :: st) w cn sn := w_iload d_123_67 rfl
theorem d_123_69 : decode (mB 123) 69 = .ok (.putfield 184, 3) := by decide +kernel
theorem s_123_69 {d : Nat} {Q : wQ} {L : List (Option Value)} {st : List Value} {w : aw} {cn sn : Nat} {x : Int32} {a : Nat} : wp d 123 Q 69 L (.int x :: .ref a :: st) w cn sn = (kd w a = 9 ∧ wp d 123 Q 72 L st (uF w 515 a (.int x)) cn sn) := w_putfield d_123_69 (by decide +kernel : fT (mO 123) 184 = some (8, 3)) (by decide +kernel) ok_int
theorem d_123_72 : decode (mB 123) 72 = .ok (.iconst 1, 1) := by decide +kernel
theorem s_123_72 {d : Nat} {Q : wQ} {L : List (Option Value)} {st : List Value} {w : aw} {cn sn : Nat}  : wp d 123 Q 72 L st w cn sn = wp d 123 Q 73 L (.int 1 :: st) w cn sn := w_iconst d_123_72 (by decide)
theorem d_123_73 : decode (mB 123) 73 = .ok (.ireturn, 1) := by decide +kernel
theorem s_123_73 {d : Nat} {Q : wQ} {L : List (Option Value)} {w : aw} {cn sn : Nat} {v : Int32} : wp d 123 Q 73 L [.int v] w cn sn = Q (some (.int v)) w := w_ireturn d_123_73 rfl
theorem d_124_0 : decode (mB 124) 0 = .ok (.bipush 24, 2) := by decide +kernel
theorem s_124_0 {d : Nat} {Q : wQ} {L : List (Option Value)} {st : List Value} {w : aw} {cn sn : Nat}  : wp d 124 Q 0 L st w cn sn = wp d 124 Q 2 L (.int 24 :: st) w cn sn := w_bipush d_124_0 (by decide)
theorem d_124_2 : decode (mB 124) 2 = .ok (.istore_n 2, 1) := by decide +kernel
theorem s_124_2 {d : Nat} {Q : wQ} {L : List (Option Value)} {st : List Value} {w : aw} {cn sn : Nat} {a0 a1 a2 : Option Value} {v : Int32} : wp d 124 Q 2 (a0 :: a1 :: a2 :: L) (.int v :: st) w cn sn = wp d 124 Q 3 (a0 :: clr a1 :: some (.int v) :: L) st w cn sn := w_istore_n d_124_2 (Nat.le_add_left 3 _) rfl
theorem d_124_3 : decode (mB 124) 3 = .ok (.iload_n 2, 1) := by decide +kernel
theorem s_124_3 {d : Nat} {Q : wQ} {L : List (Option Value)} {st : List Value} {w : aw} {cn sn : Nat} {a0 a1 : Option Value} {v : Int32} : wp d 124 Q 3 (a0 :: a1 :: some (.int v) :: L) st w cn sn = wp d 124 Q 4 (a0 :: a1 :: some (.int v) :: L) (.int v :: st) w cn sn := w_iload_n d_124_3 rfl
theorem d_124_4 : decode (mB 124) 4 = .ok (.ifCond .lt 35, 3) := by decide +kernel
theorem s_124_4 {d : Nat} {Q : wQ} {L : List (Option Value)} {st : List Value} {w : aw} {cn sn : Nat} {x : Int32} : wp d 124 Q 4 L (.int x :: st) w cn sn = ((x < 0 → wp d 124 Q 39 L st w cn sn) ∧ (¬ x < 0 → wp d 124 Q 7 L st w cn sn)) := w_iflt d_124_4 (by decide)
theorem d_124_7 : decode (mB 124) 7 = .ok (.aload_n 0, 1) := by decide +kernel
theorem s_124_7 {d : Nat} {Q : wQ} {L : List (Option Value)} {st : List Value} {w : aw} {cn sn : Nat} {v : Nat} : wp d 124 Q 7 (some (.ref v) :: L) st w cn sn = wp d 124 Q 8 (some (.ref v) :: L) (.ref v :: st) w cn sn := w_aload_n d_124_7 rfl
theorem d_124_8 : decode (mB 124) 8 = .ok (.getfield 72, 3) := by decide +kernel
theorem s_124_8 {d : Nat} {Q : wQ} {L : List (Option Value)} {st : List Value} {w : aw} {cn sn : Nat} {a : Nat} : wp d 124 Q 8 L (.ref a :: st) w cn sn = (kd w a = 9 ∧ wp d 124 Q 11 L (fd w 542 a :: st) w cn sn) := w_getfield d_124_8 (by decide +kernel : fT (mO 124) 72 = some (8, 30))
theorem d_124_11 : decode (mB 124) 11 = .ok (.aload_n 0, 1) := by decide +kernel
theorem s_124_11 {d : Nat} {Q : wQ} {L : List (Option Value)} {st : List Value} {w : aw} {cn sn : Nat} {v : Nat} : wp d 124 Q 11 (some (.ref v) :: L) st w cn sn = wp d 124 Q 12 (some (.ref v) :: L) (.ref v :: st) w cn sn := w_aload_n d_124_11 rfl
theorem d_124_12 : decode (mB 124) 12 = .ok (.getfield 193, 3) := by decide +kernel
theorem s_124_12 {d : Nat} {Q : wQ} {L : List (Option Value)} {st : List Value} {w : aw} {cn sn : Nat} {a : Nat} : wp d 124 Q 12 L (.ref a :: st) w cn sn = (kd w a = 9 ∧ wp d 124 Q 15 L (fd w 543 a :: st) w cn sn) := w_getfield d_124_12 (by decide +kernel : fT (mO 124) 193 = some (8, 31))
theorem d_124_15 : decode (mB 124) 15 = .ok (.iload_n 1, 1) := by decide +kernel
theorem s_124_15 {d : Nat} {Q : wQ} {L : List (Option Value)} {st : List Value} {w : aw} {cn sn : Nat} {a0 : Option Value} {v : Int32} : wp d 124 Q 15 (a0 :: some (.int v) :: L) st w cn sn = wp d 124 Q 16 (a0 :: some (.int v) :: L) (.int v :: st) w cn sn := w_iload_n d_124_15 rfl
theorem d_124_16 : decode (mB 124) 16 = .ok (.iload_n 2, 1) := by decide +kernel
theorem s_124_16 {d : Nat} {Q : wQ} {L : List (Option Value)} {st : List Value} {w : aw} {cn sn : Nat} {a0 a1 : Option Value} {v : Int32} : wp d 124 Q 16 (a0 :: a1 :: some (.int v) :: L) st w cn sn = wp d 124 Q 17 (a0 :: a1 :: some (.int v) :: L) (.int v :: st) w cn sn := w_iload_n d_124_16 rfl
theorem d_124_17 : decode (mB 124) 17 = .ok (.ishr, 1) := by decide +kernel
theorem s_124_17 {d : Nat} {Q : wQ} {L : List (Option Value)} {st : List Value} {w : aw} {cn sn : Nat} {a b : Int32} : wp d 124 Q 17 L (.int b :: .int a :: st) w cn sn = wp d 124 Q 18 L (.int (a >>> (b &&& 31)) :: st) w cn sn := wp_row d_124_17 _ _ _ _ _
theorem d_124_18 : decode (mB 124) 18 = .ok (.sipush 255, 3) := by decide +kernel
theorem s_124_18 {d : Nat} {Q : wQ} {L : List (Option Value)} {st : List Value} {w : aw} {cn sn : Nat}  : wp d 124 Q 18 L st w cn sn = wp d 124 Q 21 L (.int 255 :: st) w cn sn := w_sipush d_124_18 (by decide)
theorem d_124_21 : decode (mB 124) 21 = .ok (.iand, 1) := by decide +kernel
theorem s_124_21 {d : Nat} {Q : wQ} {L : List (Option Value)} {st : List Value} {w : aw} {cn sn : Nat} {a b : Int32} : wp d 124 Q 21 L (.int b :: .int a :: st) w cn sn = wp d 124 Q 22 L (.int (a &&& b) :: st) w cn sn := wp_row d_124_21 _ _ _ _ _
theorem d_124_22 : decode (mB 124) 22 = .ok (.iastore, 1) := by decide +kernel
theorem s_124_22 {d : Nat} {Q : wQ} {L : List (Option Value)} {st : List Value} {w : aw} {cn sn : Nat} {a : Nat} {i x : Int32} : wp d 124 Q 22 L (.int x :: .int i :: .ref a :: st) w cn sn = (kd w a = 20 ∧ inR i (ln w a) ∧ wp d 124 Q 23 L st (uA w a i.toNatClampNeg x) cn sn) := wp_row d_124_22 _ _ _ _ _
theorem d_124_23 : decode (mB 124) 23 = .ok (.aload_n 0, 1) := by decide +kernel
theorem s_124_23 {d : Nat} {Q : wQ} {L : List (Option Value)} {st : List Value} {w : aw} {cn sn : Nat} {v : Nat} : wp d 124 Q 23 (some (.ref v) :: L) st w cn sn = wp d 124 Q 24 (some (.ref v) :: L) (.ref v :: st) w cn sn := w_aload_n d_124_23 rfl
theorem d_124_24 : decode (mB 124) 24 = .ok (.dup, 1) := by decide +kernel
theorem s_124_24 {d : Nat} {Q : wQ} {L : List (Option Value)} {st : List Value} {w : aw} {cn sn : Nat} {v : Value} : wp d 124 Q 24 L (v :: st) w cn sn = (v.category = 1 ∧ wp d 124 Q 25 L (v :: v :: st) w cn sn) := wp_row d_124_24 _ _ _ _ _
theorem d_124_25 : decode (mB 124) 25 = .ok (.getfield 193, 3) := by decide +kernel
theorem s_124_25 {d : Nat} {Q : wQ} {L : List (Option Value)} {st : List Value} {w : aw} {cn sn : Nat} {a : Nat} : wp d 124 Q 25 L (.ref a :: st) w cn sn = (kd w a = 9 ∧ wp d 124 Q 28 L (fd w 543 a :: st) w cn sn) := w_getfield d_124_25 (by decide +kernel : fT (mO 124) 193 = some (8, 31))
theorem d_124_28 : decode (mB 124) 28 = .ok (.iconst 1, 1) := by decide +kernel
theorem s_124_28 {d : Nat} {Q : wQ} {L : List (Option Value)} {st : List Value} {w : aw} {cn sn : Nat}  : wp d 124 Q 28 L st w cn sn = wp d 124 Q 29 L (.int 1 :: st) w cn sn := w_iconst d_124_28 (by decide)
theorem d_124_29 : decode (mB 124) 29 = .ok (.iadd, 1) := by decide +kernel
theorem s_124_29 {d : Nat} {Q : wQ} {L : List (Option Value)} {st : List Value} {w : aw} {cn sn : Nat} {a b : Int32} : wp d 124 Q 29 L (.int b :: .int a :: st) w cn sn = wp d 124 Q 30 L (.int (a + b) :: st) w cn sn := wp_row d_124_29 _ _ _ _ _
theorem d_124_30 : decode (mB 124) 30 = .ok (.putfield 193, 3) := by decide +kernel
theorem s_124_30 {d : Nat} {Q : wQ} {L : List (Option Value)} {st : List Value} {w : aw} {cn sn : Nat} {x : Int32} {a : Nat} : wp d 124 Q 30 L (.int x :: .ref a :: st) w cn sn = (kd w a = 9 ∧ wp d 124 Q 33 L st (uF w 543 a (.int x)) cn sn) := w_putfield d_124_30 (by decide +kernel : fT (mO 124) 193 = some (8, 31)) (by decide +kernel) ok_int
theorem d_124_33 : decode (mB 124) 33 = .ok (.iinc 2 (-8), 3) := by decide +kernel
theorem s_124_33 {d : Nat} {Q : wQ} {L : List (Option Value)} {st : List Value} {w : aw} {cn sn : Nat} {a0 a1 : Option Value} {v : Int32} : wp d 124 Q 33 (a0 :: a1 :: some (.int v) :: L) st w cn sn = wp d 124 Q 36 (a0 :: clr a1 :: some (.int (v + (-8))) :: L) st w cn sn := w_iinc d_124_33 rfl (by decide) rfl
theorem d_124_36 : decode (mB 124) 36 = .ok (.goto (-33), 3) := by decide +kernel
theorem s_124_36 {d : Nat} {Q : wQ} {L : List (Option Value)} {st : List Value} {w : aw} {cn sn : Nat}  : wp d 124 Q 36 L st w cn sn = wp d 124 Q 3 L st w cn sn := w_goto d_124_36 (by decide)
theorem d_124_39 : decode (mB 124) 39 = .ok (.return_, 1) := by decide +kernel
theorem s_124_39 {d : Nat} {Q : wQ} {L : List (Option Value)} {w : aw} {cn sn : Nat}  : wp d 124 Q 39 L [] w cn sn = Q none w := w_return d_124_39 rfl
theorem d_125_0 : decode (mB 125) 0 = .ok (.aload_n 0, 1) := by decide +kernel
theorem s_125_0 {d : Nat} {Q : wQ} {L : List (Option Value)} {st : List Value} {w : aw} {cn sn : Nat} {v : Nat} : wp d 125 Q 0 (some (.ref v) :: L) st w cn sn = wp d 125 Q 1 (some (.ref v) :: L) (.ref v :: st) w cn sn := w_aload_n d_125_0 rfl
theorem d_125_1 : decode (mB 125) 1 = .ok (.getfield 193, 3) := by decide +kernel
theorem s_125_1 {d : Nat} {Q : wQ} {L : List (Option Value)} {st : List Value} {w : aw} {cn sn : Nat} {a : Nat} : wp d 125 Q 1 L (.ref a :: st) w cn sn = (kd w a = 9 ∧ wp d 125 Q 4 L (fd w 543 a :: st) w cn sn) := w_getfield d_125_1 (by decide +kernel : fT (mO 125) 193 = some (8, 31))
theorem d_125_4 : decode (mB 125) 4 = .ok (.bipush 20, 2) := by decide +kernel
theorem s_125_4 {d : Nat} {Q : wQ} {L : List (Option Value)} {st : List Value} {w : aw} {cn sn : Nat}  : wp d 125 Q 4 L st w cn sn = wp d 125 Q 6 L (.int 20 :: st) w cn sn := w_bipush d_125_4 (by decide)
theorem d_125_6 : decode (mB 125) 6 = .ok (.iadd, 1) := by decide +kernel
theorem s_125_6 {d : Nat} {Q : wQ} {L : List (Option Value)} {st : List Value} {w : aw} {cn sn : Nat} {a b : Int32} : wp d 125 Q 6 L (.int b :: .int a :: st) w cn sn = wp d 125 Q 7 L (.int (a + b) :: st) w cn sn := wp_row d_125_6 _ _ _ _ _
theorem d_125_7 : decode (mB 125) 7 = .ok (.sipush 8000, 3) := by decide +kernel
theorem s_125_7 {d : Nat} {Q : wQ} {L : List (Option Value)} {st : List Value} {w : aw} {cn sn : Nat}  : wp d 125 Q 7 L st w cn sn = wp d 125 Q 10 L (.int 8000 :: st) w cn sn := w_sipush d_125_7 (by decide)
theorem d_125_10 : decode (mB 125) 10 = .ok (.if_icmp .le 5, 3) := by decide +kernel
theorem s_125_10 {d : Nat} {Q : wQ} {L : List (Option Value)} {st : List Value} {w : aw} {cn sn : Nat} {a b : Int32} : wp d 125 Q 10 L (.int b :: .int a :: st) w cn sn = ((a ≤ b → wp d 125 Q 15 L st w cn sn) ∧ (¬ a ≤ b → wp d 125 Q 13 L st w cn sn)) := w_icle d_125_10 (by decide)
theorem d_125_13 : decode (mB 125) 13 = .ok (.iconst (-1), 1) := by decide +kernel
theorem s_125_13 {d : Nat} {Q : wQ} {L : List (Option Value)} {st : List Value} {w : aw} {cn sn : Nat}  : wp d 125 Q 13 L st w cn sn = wp d 125 Q 14 L (.int (-1) :: st) w cn sn := w_iconst d_125_13 (by decide)
theorem d_125_14 : decode (mB 125) 14 = .ok (.ireturn, 1) := by decide +kernel
theorem s_125_14 {d : Nat} {Q : wQ} {L : List (Option Value)} {w : aw} {cn sn : Nat} {v : Int32} : wp d 125 Q 14 L [.int v] w cn sn = Q (some (.int v)) w := w_ireturn d_125_14 rfl
theorem d_125_15 : decode (mB 125) 15 = .ok (.aload_n 0, 1) := by decide +kernel
theorem s_125_15 {d : Nat} {Q : wQ} {L : List (Option Value)} {st : List Value} {w : aw} {cn sn : Nat} {v : Nat} : wp d 125 Q 15 (some (.ref v) :: L) st w cn sn = wp d 125 Q 16 (some (.ref v) :: L) (.ref v :: st) w cn sn := w_aload_n d_125_15 rfl
theorem d_125_16 : decode (mB 125) 16 = .ok (.iload_n 1, 1) := by decide +kernel
theorem s_125_16 {d : Nat} {Q : wQ} {L : List (Option Value)} {st : List Value} {w : aw} {cn sn : Nat} {a0 : Option Value} {v : Int32} : wp d 125 Q 16 (a0 :: some (.int v) :: L) st w cn sn = wp d 125 Q 17 (a0 :: some (.int v) :: L) (.int v :: st) w cn sn := w_iload_n d_125_16 rfl
theorem d_125_17 : decode (mB 125) 17 = .ok (.invokevirtual 196, 3) := by decide +kernel
theorem s_125_17 {d : Nat} {Q : wQ} {L : List (Option Value)} {st : List Value} {w : aw} {cn sn : Nat} {v0 : Value} {b : Nat} : wp d 125 Q 17 L (v0 :: .ref b :: st) w cn sn = (kd w b = 9 ∧ catS st ≤ 8 ∧ wpD d 124 [.ref b, v0] w (fun v w' => wp d 125 Q 20 L (v.toList ++ st) w' cn sn)) := w_virtual (As := [v0]) d_125_17 (by decide +kernel : cT (mO 125) 196 = some (0, 124)) rfl (by decide +kernel) rfl (by decide +kernel) rfl
theorem d_125_20 : decode (mB 125) 20 = .ok (.aload_n 0, 1) := by decide +kernel
theorem s_125_20 {d : Nat} {Q : wQ} {L : List (Option Value)} {st : List Value} {w : aw} {cn sn : Nat} {v : Nat} : wp d 125 Q 20 (some (.ref v) :: L) st w cn sn = wp d 125 Q 21 (some (.ref v) :: L) (.ref v :: st) w cn sn := w_aload_n d_125_20 rfl
theorem d_125_21 : decode (mB 125) 21 = .ok (.iload_n 2, 1) := by decide +kernel
theorem s_125_21 {d : Nat} {Q : wQ} {L : List (Option Value)} {st : List Value} {w : aw} {cn sn : Nat} {a0 a1 : Option Value} {v : Int32} : wp d 125 Q 21 (a0 :: a1 :: some (.int v) :: L) st w cn sn = wp d 125 Q 22 (a0 :: a1 :: some (.int v) :: L) (.int v :: st) w cn sn := w_iload_n d_125_21 rfl
theorem d_125_22 : decode (mB 125) 22 = .ok (.invokevirtual 196, 3) := by decide +kernel
theorem s_125_22 {d : Nat} {Q : wQ} {L : List (Option Value)} {st : List Value} {w : aw} {cn sn : Nat} {v0 : Value} {b : Nat} : wp d 125 Q 22 L (v0 :: .ref b :: st) w cn sn = (kd w b = 9 ∧ catS st ≤ 8 ∧ wpD d 124 [.ref b, v0] w (fun v w' => wp d 125 Q 25 L (v.toList ++ st) w' cn sn)) := w_virtual (As := [v0]) d_125_22 (by decide +kernel : cT (mO 125) 196 = some (0, 124)) rfl (by decide +kernel) rfl (by decide +kernel) rfl
theorem d_125_25 : decode (mB 125) 25 = .ok (.aload_n 0, 1) := by decide +kernel
theorem s_125_25 {d : Nat} {Q : wQ} {L : List (Option Value)} {st : List Value} {w : aw} {cn sn : Nat} {v : Nat} : wp d 125 Q 25 (some (.ref v) :: L) st w cn sn = wp d 125 Q 26 (some (.ref v) :: L) (.ref v :: st) w cn sn := w_aload_n d_125_25 rfl
theorem d_125_26 : decode (mB 125) 26 = .ok (.iload_n 3, 1) := by decide +kernel
theorem s_125_26 {d : Nat} {Q : wQ} {L : List (Option Value)} {st : List Value} {w : aw} {cn sn : Nat} {a0 a1 a2 : Option Value} {v : Int32} : wp d 125 Q 26 (a0 :: a1 :: a2 :: some (.int v) :: L) st w cn sn = wp d 125 Q 27 (a0 :: a1 :: a2 :: some (.int v) :: L) (.int v :: st) w cn sn := w_iload_n d_125_26 rfl
theorem d_125_27 : decode (mB 125) 27 = .ok (.invokevirtual 196, 3) := by decide +kernel
theorem s_125_27 {d : Nat} {Q : wQ} {L : List (Option Value)} {st : List Value} {w : aw} {cn sn : Nat} {v0 : Value} {b : Nat} : wp d 125 Q 27 L (v0 :: .ref b :: st) w cn sn = (kd w b = 9 ∧ catS st ≤ 8 ∧ wpD d 124 [.ref b, v0] w (fun v w' => wp d 125 Q 30 L (v.toList ++ st) w' cn sn)) := w_virtual (As := [v0]) d_125_27 (by decide +kernel : cT (mO 125) 196 = some (0, 124)) rfl (by decide +kernel) rfl (by decide +kernel) rfl
theorem d_125_30 : decode (mB 125) 30 = .ok (.aload_n 0, 1) := by decide +kernel
theorem s_125_30 {d : Nat} {Q : wQ} {L : List (Option Value)} {st : List Value} {w : aw} {cn sn : Nat} {v : Nat} : wp d 125 Q 30 (some (.ref v) :: L) st w cn sn = wp d 125 Q 31 (some (.ref v) :: L) (.ref v :: st) w cn sn := w_aload_n d_125_30 rfl
theorem d_125_31 : decode (mB 125) 31 = .ok (.iload 4, 2) := by decide +kernel
theorem s_125_31 {d : Nat} {Q : wQ} {L : List (Option Value)} {st : List Value} {w : aw} {cn sn : Nat} {a0 a1 a2 a3 : Option Value} {v : Int32} : wp d 125 Q 31 (a0 :: a1 :: a2 :: a3 :: some (.int v) :: L) st w cn sn = wp d 125 Q 33 (a0 :: a1 :: a2 :: a3 :: some (.int v) :: L) (.int v :: st) w cn sn := w_iload d_125_31 rfl
theorem d_125_33 : decode (mB 125) 33 = .ok (.invokevirtual 196, 3) := by decide +kernel
theorem s_125_33 {d : Nat} {Q : wQ} {L : List (Option Value)} {st : List Value} {w : aw} {cn sn : Nat} {v0 : Value} {b : Nat} : wp d 125 Q 33 L (v0 :: .ref b :: st) w cn sn = (kd w b = 9 ∧ catS st ≤ 8 ∧ wpD d 124 [.ref b, v0] w (fun v w' => wp d 125 Q 36 L (v.toList ++ st) w' cn sn)) := w_virtual (As := [v0]) d_125_33 (by decide +kernel : cT (mO 125) 196 = some (0, 124)) rfl (by decide +kernel) rfl (by decide +kernel) rfl
theorem d_125_36 : decode (mB 125) 36 = .ok (.aload_n 0, 1) := by decide +kernel
theorem s_125_36 {d : Nat} {Q : wQ} {L : List (Option Value)} {st : List Value} {w : aw} {cn sn : Nat} {v : Nat} : wp d 125 Q 36 (some (.ref v) :: L) st w cn sn = wp d 125 Q 37 (some (.ref v) :: L) (.ref v :: st) w cn sn := w_aload_n d_125_36 rfl
theorem d_125_37 : decode (mB 125) 37 = .ok (.iload 5, 2) := by decide +kernel
theorem s_125_37 {d : Nat} {Q : wQ} {L : List (Option Value)} {st : List Value} {w : aw} {cn sn : Nat} {a0 a1 a2 a3 a4 : Option Value} {v : Int32} : wp d 125 Q 37 (a0 :: a1 :: a2 :: a3 :: a4 :: some (.int v) :: L) st w cn sn = wp d 125 Q 39 (a0 :: a1 :: a2 :: a3 :: a4 :: some (.int v) :: L) (.int v :: st) w cn sn := w_iload d_125_37 rfl
theorem d_125_39 : decode (mB 125) 39 = .ok (.invokevirtual 196, 3) := by decide +kernel
theorem s_125_39 {d : Nat} {Q : wQ} {L : List (Option Value)} {st : List Value} {w : aw} {cn sn : Nat} {v0 : Value} {b : Nat} : wp d 125 Q 39 L (v0 :: .ref b :: st) w cn sn = (kd w b = 9 ∧ catS st ≤ 8 ∧ wpD d 124 [.ref b, v0] w (fun v w' => wp d 125 Q 42 L (v.toList ++ st) w' cn sn)) := w_virtual (As := [v0]) d_125_39 (by decide +kernel : cT (mO 125) 196 = some (0, 124)) rfl (by decide +kernel) rfl (by decide +kernel) rfl
theorem d_125_42 : decode (mB 125) 42 = .ok (.aload_n 0, 1) := by decide +kernel
theorem s_125_42 {d : Nat} {Q : wQ} {L : List (Option Value)} {st : List Value} {w : aw} {cn sn : Nat} {v : Nat} : wp d 125 Q 42 (some (.ref v) :: L) st w cn sn = wp d 125 Q 43 (some (.ref v) :: L) (.ref v :: st) w cn sn := w_aload_n d_125_42 rfl
theorem d_125_43 : decode (mB 125) 43 = .ok (.getfield 193, 3) := by decide +kernel
theorem s_125_43 {d : Nat} {Q : wQ} {L : List (Option Value)} {st : List Value} {w : aw} {cn sn : Nat} {a : Nat} : wp d 125 Q 43 L (.ref a :: st) w cn sn = (kd w a = 9 ∧ wp d 125 Q 46 L (fd w 543 a :: st) w cn sn) := w_getfield d_125_43 (by decide +kernel : fT (mO 125) 193 = some (8, 31))
theorem d_125_46 : decode (mB 125) 46 = .ok (.ireturn, 1) := by decide +kernel
theorem s_125_46 {d : Nat} {Q : wQ} {L : List (Option Value)} {w : aw} {cn sn : Nat} {v : Int32} : wp d 125 Q 46 L [.int v] w cn sn = Q (some (.int v)) w := w_ireturn d_125_46 rfl
theorem d_126_0 : decode (mB 126) 0 = .ok (.iload_n 1, 1) := by decide +kernel
theorem s_126_0 {d : Nat} {Q : wQ} {L : List (Option Value)} {st : List Value} {w : aw} {cn sn : Nat} {a0 : Option Value} {v : Int32} : wp d 126 Q 0 (a0 :: some (.int v) :: L) st w cn sn = wp d 126 Q 1 (a0 :: some (.int v) :: L) (.int v :: st) w cn sn := w_iload_n d_126_0 rfl
theorem d_126_1 : decode (mB 126) 1 = .ok (.iconst 0, 1) := by decide +kernel
theorem s_126_1 {d : Nat} {Q : wQ} {L : List (Option Value)} {st : List Value} {w : aw} {cn sn : Nat}  : wp d 126 Q 1 L st w cn sn = wp d 126 Q 2 L (.int 0 :: st) w cn sn := w_iconst d_126_1 (by decide)
theorem d_126_2 : decode (mB 126) 2 = .ok (.aload_n 0, 1) := by decide +kernel
theorem s_126_2 {d : Nat} {Q : wQ} {L : List (Option Value)} {st : List Value} {w : aw} {cn sn : Nat} {v : Nat} : wp d 126 Q 2 (some (.ref v) :: L) st w cn sn = wp d 126 Q 3 (some (.ref v) :: L) (.ref v :: st) w cn sn := w_aload_n d_126_2 rfl
theorem d_126_3 : decode (mB 126) 3 = .ok (.getfield 193, 3) := by decide +kernel
theorem s_126_3 {d : Nat} {Q : wQ} {L : List (Option Value)} {st : List Value} {w : aw} {cn sn : Nat} {a : Nat} : wp d 126 Q 3 L (.ref a :: st) w cn sn = (kd w a = 9 ∧ wp d 126 Q 6 L (fd w 543 a :: st) w cn sn) := w_getfield d_126_3 (by decide +kernel : fT (mO 126) 193 = some (8, 31))
theorem d_126_6 : decode (mB 126) 6 = .ok (.invokestatic 111, 3) := by decide +kernel
theorem s_126_6 {d : Nat} {Q : wQ} {L : List (Option Value)} {st : List Value} {w : aw} {cn sn : Nat} {v0 v1 v2 : Value} : wp d 126 Q 6 L (v2 :: v1 :: v0 :: st) w cn sn = (catS st ≤ 8 ∧ wpD d 105 [v0, v1, v2] w (fun v w' => wp d 126 Q 9 L (v.toList ++ st) w' cn sn)) := w_static (As := [v0, v1, v2]) d_126_6 (by decide +kernel : cT (mO 126) 111 = some (2, 105)) (by decide +kernel) rfl (by decide +kernel) rfl
theorem d_126_9 : decode (mB 126) 9 = .ok (.ifCond .ne 5, 3) := by decide +kernel
theorem s_126_9 {d : Nat} {Q : wQ} {L : List (Option Value)} {st : List Value} {w : aw} {cn sn : Nat} {x : Int32} : wp d 126 Q 9 L (.int x :: st) w cn sn = ((¬ x = 0 → wp d 126 Q 14 L st w cn sn) ∧ (x = 0 → wp d 126 Q 12 L st w cn sn)) := w_ifne d_126_9 (by decide)
theorem d_126_12 : decode (mB 126) 12 = .ok (.iconst (-1), 1) := by decide +kernel
theorem s_126_12 {d : Nat} {Q : wQ} {L : List (Option Value)} {st : List Value} {w : aw} {cn sn : Nat}  : wp d 126 Q 12 L st w cn sn = wp d 126 Q 13 L (.int (-1) :: st) w cn sn := w_iconst d_126_12 (by decide)
theorem d_126_13 : decode (mB 126) 13 = .ok (.ireturn, 1) := by decide +kernel
theorem s_126_13 {d : Nat} {Q : wQ} {L : List (Option Value)} {w : aw} {cn sn : Nat} {v : Int32} : wp d 126 Q 13 L [.int v] w cn sn = Q (some (.int v)) w := w_ireturn d_126_13 rfl
theorem d_126_14 : decode (mB 126) 14 = .ok (.aload_n 0, 1) := by decide +kernel
theorem s_126_14 {d : Nat} {Q : wQ} {L : List (Option Value)} {st : List Value} {w : aw} {cn sn : Nat} {v : Nat} : wp d 126 Q 14 (some (.ref v) :: L) st w cn sn = wp d 126 Q 15 (some (.ref v) :: L) (.ref v :: st) w cn sn := w_aload_n d_126_14 rfl
theorem d_126_15 : decode (mB 126) 15 = .ok (.iload_n 1, 1) := by decide +kernel
theorem s_126_15 {d : Nat} {Q : wQ} {L : List (Option Value)} {st : List Value} {w : aw} {cn sn : Nat} {a0 : Option Value} {v : Int32} : wp d 126 Q 15 (a0 :: some (.int v) :: L) st w cn sn = wp d 126 Q 16 (a0 :: some (.int v) :: L) (.int v :: st) w cn sn := w_iload_n d_126_15 rfl
theorem d_126_16 : decode (mB 126) 16 = .ok (.putfield 193, 3) := by decide +kernel
theorem s_126_16 {d : Nat} {Q : wQ} {L : List (Option Value)} {st : List Value} {w : aw} {cn sn : Nat} {x : Int32} {a : Nat} : wp d 126 Q 16 L (.int x :: .ref a :: st) w cn sn = (kd w a = 9 ∧ wp d 126 Q 19 L st (uF w 543 a (.int x)) cn sn) := w_putfield d_126_16 (by decide +kernel : fT (mO 126) 193 = some (8, 31)) (by decide +kernel) ok_int
theorem d_126_19 : decode (mB 126) 19 = .ok (.iload_n 1, 1) := by decide +kernel
theorem s_126_19 {d : Nat} {Q : wQ} {L : List (Option Value)} {st : List Value} {w : aw} {cn sn : Nat} {a0 : Option Value} {v : Int32} : wp d 126 Q 19 (a0 :: some (.int v) :: L) st w cn sn = wp d 126 Q 20 (a0 :: some (.int v) :: L) (.int v :: st) w cn sn := w_iload_n d_126_19 rfl
theorem d_126_20 : decode (mB 126) 20 = .ok (.ireturn, 1) := by decide +kernel
theorem s_126_20 {d : Nat} {Q : wQ} {L : List (Option Value)} {w : aw} {cn sn : Nat} {v : Int32} : wp d 126 Q 20 L [.int v] w cn sn = Q (some (.int v)) w := w_ireturn d_126_20 rfl
