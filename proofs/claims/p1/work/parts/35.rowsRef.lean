theorem d_137_0 : decode (mB 137) 0 = .ok (.aload_n 0, 1) := by decide +kernel
theorem s_137_0 {d : Nat} {Q : wQ} {L : List (Option Value)} {st : List Value} {w : aw} {cn sn : Nat} {v : Nat} : wp d 137 Q 0 (some (.ref v) :: L) st w cn sn = wp d 137 Q 1 (some (.ref v) :: L) (.ref v :: st) w cn sn := w_aload_n d_137_0 rfl
theorem d_137_1 : decode (mB 137) 1 = .ok (.iload_n 1, 1) := by decide +kernel
theorem s_137_1 {d : Nat} {Q : wQ} {L : List (Option Value)} {st : List Value} {w : aw} {cn sn : Nat} {a0 : Option Value} {v : Int32} : wp d 137 Q 1 (a0 :: some (.int v) :: L) st w cn sn = wp d 137 Q 2 (a0 :: some (.int v) :: L) (.int v :: st) w cn sn := w_iload_n d_137_1 rfl
theorem d_137_2 : decode (mB 137) 2 = .ok (.invokevirtual 205, 3) := by decide +kernel
theorem s_137_2 {d : Nat} {Q : wQ} {L : List (Option Value)} {st : List Value} {w : aw} {cn sn : Nat} {v0 : Value} {b : Nat} : wp d 137 Q 2 L (v0 :: .ref b :: st) w cn sn = (kd w b = 9 ∧ catS st ≤ 8 ∧ wpD d 104 [.ref b, v0] w (fun v w' => wp d 137 Q 5 L (v.toList ++ st) w' cn sn)) := w_virtual (As := [v0]) d_137_2 (by decide +kernel : cT (mO 137) 205 = some (0, 104)) rfl (by decide +kernel) rfl (by decide +kernel) rfl
theorem d_137_5 : decode (mB 137) 5 = .ok (.ifCond .eq 33, 3) := by decide +kernel
theorem s_137_5 {d : Nat} {Q : wQ} {L : List (Option Value)} {st : List Value} {w : aw} {cn sn : Nat} {x : Int32} : wp d 137 Q 5 L (.int x :: st) w cn sn = ((x = 0 → wp d 137 Q 38 L st w cn sn) ∧ (¬ x = 0 → wp d 137 Q 8 L st w cn sn)) := w_ifeq d_137_5 (by decide)
theorem d_137_8 : decode (mB 137) 8 = .ok (.iload_n 2, 1) := by decide +kernel
theorem s_137_8 {d : Nat} {Q : wQ} {L : List (Option Value)} {st : List Value} {w : aw} {cn sn : Nat} {a0 a1 : Option Value} {v : Int32} : wp d 137 Q 8 (a0 :: a1 :: some (.int v) :: L) st w cn sn = wp d 137 Q 9 (a0 :: a1 :: some (.int v) :: L) (.int v :: st) w cn sn := w_iload_n d_137_8 rfl
theorem d_137_9 : decode (mB 137) 9 = .ok (.iconst 0, 1) := by decide +kernel
theorem s_137_9 {d : Nat} {Q : wQ} {L : List (Option Value)} {st : List Value} {w : aw} {cn sn : Nat}  : wp d 137 Q 9 L st w cn sn = wp d 137 Q 10 L (.int 0 :: st) w cn sn := w_iconst d_137_9 (by decide)
theorem d_137_10 : decode (mB 137) 10 = .ok (.aload_n 0, 1) := by decide +kernel
theorem s_137_10 {d : Nat} {Q : wQ} {L : List (Option Value)} {st : List Value} {w : aw} {cn sn : Nat} {v : Nat} : wp d 137 Q 10 (some (.ref v) :: L) st w cn sn = wp d 137 Q 11 (some (.ref v) :: L) (.ref v :: st) w cn sn := w_aload_n d_137_10 rfl
theorem d_137_11 : decode (mB 137) 11 = .ok (.getfield 57, 3) := by decide +kernel
theorem s_137_11 {d : Nat} {Q : wQ} {L : List (Option Value)} {st : List Value} {w : aw} {cn sn : Nat} {a : Nat} : wp d 137 Q 11 L (.ref a :: st) w cn sn = (kd w a = 9 ∧ wp d 137 Q 14 L (fd w 537 a :: st) w cn sn) := w_getfield d_137_11 (by decide +kernel : fT (mO 137) 57 = some (8, 25))
theorem d_137_14 : decode (mB 137) 14 = .ok (.iload_n 1, 1) := by decide +kernel
theorem s_137_14 {d : Nat} {Q : wQ} {L : List (Option Value)} {st : List Value} {w : aw} {cn sn : Nat} {a0 : Option Value} {v : Int32} : wp d 137 Q 14 (a0 :: some (.int v) :: L) st w cn sn = wp d 137 Q 15 (a0 :: some (.int v) :: L) (.int v :: st) w cn sn := w_iload_n d_137_14 rfl
theorem d_137_15 : decode (mB 137) 15 = .ok (.iaload, 1) := by decide +kernel
theorem s_137_15 {d : Nat} {Q : wQ} {L : List (Option Value)} {st : List Value} {w : aw} {cn sn : Nat} {a : Nat} {i : Int32} : wp d 137 Q 15 L (.int i :: .ref a :: st) w cn sn = ((kd w a = 20 ∨ kd w a = 30) ∧ inR i (ln w a) ∧ wp d 137 Q 16 L (.int (ai w a i.toNatClampNeg) :: st) w cn sn) := wp_row d_137_15 _ _ _ _ _
theorem d_137_16 : decode (mB 137) 16 = .ok (.iconst 1, 1) := by decide +kernel
theorem s_137_16 {d : Nat} {Q : wQ} {L : List (Option Value)} {st : List Value} {w : aw} {cn sn : Nat}  : wp d 137 Q 16 L st w cn sn = wp d 137 Q 17 L (.int 1 :: st) w cn sn := w_iconst d_137_16 (by decide)
theorem d_137_17 : decode (mB 137) 17 = .ok (.isub, 1) := by decide +kernel
theorem s_137_17 {d : Nat} {Q : wQ} {L : List (Option Value)} {st : List Value} {w : aw} {cn sn : Nat} {a b : Int32} : wp d 137 Q 17 L (.int b :: .int a :: st) w cn sn = wp d 137 Q 18 L (.int (a - b) :: st) w cn sn := wp_row d_137_17 _ _ _ _ _
theorem d_137_18 : decode (mB 137) 18 = .ok (.invokestatic 111, 3) := by decide +kernel
theorem s_137_18 {d : Nat} {Q : wQ} {L : List (Option Value)} {st : List Value} {w : aw} {cn sn : Nat} {v0 v1 v2 : Value} : wp d 137 Q 18 L (v2 :: v1 :: v0 :: st) w cn sn = (catS st ≤ 8 ∧ wpD d 103 [v0, v1, v2] w (fun v w' => wp d 137 Q 21 L (v.toList ++ st) w' cn sn)) := w_static (As := [v0, v1, v2]) d_137_18 (by decide +kernel : cT (mO 137) 111 = some (2, 103)) rfl (by decide +kernel) rfl
theorem d_137_21 : decode (mB 137) 21 = .ok (.ifCond .eq 17, 3) := by decide +kernel
theorem s_137_21 {d : Nat} {Q : wQ} {L : List (Option Value)} {st : List Value} {w : aw} {cn sn : Nat} {x : Int32} : wp d 137 Q 21 L (.int x :: st) w cn sn = ((x = 0 → wp d 137 Q 38 L st w cn sn) ∧ (¬ x = 0 → wp d 137 Q 24 L st w cn sn)) := w_ifeq d_137_21 (by decide)
theorem d_137_24 : decode (mB 137) 24 = .ok (.aload_n 0, 1) := by decide +kernel
theorem s_137_24 {d : Nat} {Q : wQ} {L : List (Option Value)} {st : List Value} {w : aw} {cn sn : Nat} {v : Nat} : wp d 137 Q 24 (some (.ref v) :: L) st w cn sn = wp d 137 Q 25 (some (.ref v) :: L) (.ref v :: st) w cn sn := w_aload_n d_137_24 rfl
theorem d_137_25 : decode (mB 137) 25 = .ok (.getfield 54, 3) := by decide +kernel
theorem s_137_25 {d : Nat} {Q : wQ} {L : List (Option Value)} {st : List Value} {w : aw} {cn sn : Nat} {a : Nat} : wp d 137 Q 25 L (.ref a :: st) w cn sn = (kd w a = 9 ∧ wp d 137 Q 28 L (fd w 536 a :: st) w cn sn) := w_getfield d_137_25 (by decide +kernel : fT (mO 137) 54 = some (8, 24))
theorem d_137_28 : decode (mB 137) 28 = .ok (.bipush 16, 2) := by decide +kernel
theorem s_137_28 {d : Nat} {Q : wQ} {L : List (Option Value)} {st : List Value} {w : aw} {cn sn : Nat}  : wp d 137 Q 28 L st w cn sn = wp d 137 Q 30 L (.int 16 :: st) w cn sn := w_bipush d_137_28 (by decide)
theorem d_137_30 : decode (mB 137) 30 = .ok (.iload_n 1, 1) := by decide +kernel
theorem s_137_30 {d : Nat} {Q : wQ} {L : List (Option Value)} {st : List Value} {w : aw} {cn sn : Nat} {a0 : Option Value} {v : Int32} : wp d 137 Q 30 (a0 :: some (.int v) :: L) st w cn sn = wp d 137 Q 31 (a0 :: some (.int v) :: L) (.int v :: st) w cn sn := w_iload_n d_137_30 rfl
theorem d_137_31 : decode (mB 137) 31 = .ok (.imul, 1) := by decide +kernel
theorem s_137_31 {d : Nat} {Q : wQ} {L : List (Option Value)} {st : List Value} {w : aw} {cn sn : Nat} {a b : Int32} : wp d 137 Q 31 L (.int b :: .int a :: st) w cn sn = wp d 137 Q 32 L (.int (a * b) :: st) w cn sn := wp_row d_137_31 _ _ _ _ _
theorem d_137_32 : decode (mB 137) 32 = .ok (.iload_n 2, 1) := by decide +kernel
theorem s_137_32 {d : Nat} {Q : wQ} {L : List (Option Value)} {st : List Value} {w : aw} {cn sn : Nat} {a0 a1 : Option Value} {v : Int32} : wp d 137 Q 32 (a0 :: a1 :: some (.int v) :: L) st w cn sn = wp d 137 Q 33 (a0 :: a1 :: some (.int v) :: L) (.int v :: st) w cn sn := w_iload_n d_137_32 rfl
theorem d_137_33 : decode (mB 137) 33 = .ok (.iadd, 1) := by decide +kernel
theorem s_137_33 {d : Nat} {Q : wQ} {L : List (Option Value)} {st : List Value} {w : aw} {cn sn : Nat} {a b : Int32} : wp d 137 Q 33 L (.int b :: .int a :: st) w cn sn = wp d 137 Q 34 L (.int (a + b) :: st) w cn sn := wp_row d_137_33 _ _ _ _ _
theorem d_137_34 : decode (mB 137) 34 = .ok (.iaload, 1) := by decide +kernel
theorem s_137_34 {d : Nat} {Q : wQ} {L : List (Option Value)} {st : List Value} {w : aw} {cn sn : Nat} {a : Nat} {i : Int32} : wp d 137 Q 34 L (.int i :: .ref a :: st) w cn sn = ((kd w a = 20 ∨ kd w a = 30) ∧ inR i (ln w a) ∧ wp d 137 Q 35 L (.int (ai w a i.toNatClampNeg) :: st) w cn sn) := wp_row d_137_34 _ _ _ _ _
theorem d_137_35 : decode (mB 137) 35 = .ok (.goto 4, 3) := by decide +kernel
theorem s_137_35 {d : Nat} {Q : wQ} {L : List (Option Value)} {st : List Value} {w : aw} {cn sn : Nat}  : wp d 137 Q 35 L st w cn sn = wp d 137 Q 39 L st w cn sn := w_goto d_137_35 (by decide)
theorem d_137_38 : decode (mB 137) 38 = .ok (.iconst (-1), 1) := by decide +kernel
theorem s_137_38 {d : Nat} {Q : wQ} {L : List (Option Value)} {st : List Value} {w : aw} {cn sn : Nat}  : wp d 137 Q 38 L st w cn sn = wp d 137 Q 39 L (.int (-1) :: st) w cn sn := w_iconst d_137_38 (by decide)
theorem d_137_39 : decode (mB 137) 39 = .ok (.ireturn, 1) := by decide +kernel
theorem s_137_39 {d : Nat} {Q : wQ} {L : List (Option Value)} {w : aw} {cn sn : Nat} {v : Int32} : wp d 137 Q 39 L [.int v] w cn sn = Q (some (.int v)) w := w_ireturn d_137_39 rfl
theorem d_138_0 : decode (mB 138) 0 = .ok (.aload_n 0, 1) := by decide +kernel
theorem s_138_0 {d : Nat} {Q : wQ} {L : List (Option Value)} {st : List Value} {w : aw} {cn sn : Nat} {v : Nat} : wp d 138 Q 0 (some (.ref v) :: L) st w cn sn = wp d 138 Q 1 (some (.ref v) :: L) (.ref v :: st) w cn sn := w_aload_n d_138_0 rfl
theorem d_138_1 : decode (mB 138) 1 = .ok (.iload_n 1, 1) := by decide +kernel
theorem s_138_1 {d : Nat} {Q : wQ} {L : List (Option Value)} {st : List Value} {w : aw} {cn sn : Nat} {a0 : Option Value} {v : Int32} : wp d 138 Q 1 (a0 :: some (.int v) :: L) st w cn sn = wp d 138 Q 2 (a0 :: some (.int v) :: L) (.int v :: st) w cn sn := w_iload_n d_138_1 rfl
theorem d_138_2 : decode (mB 138) 2 = .ok (.invokevirtual 205, 3) := by decide +kernel
theorem s_138_2 {d : Nat} {Q : wQ} {L : List (Option Value)} {st : List Value} {w : aw} {cn sn : Nat} {v0 : Value} {b : Nat} : wp d 138 Q 2 L (v0 :: .ref b :: st) w cn sn = (kd w b = 9 ∧ catS st ≤ 8 ∧ wpD d 104 [.ref b, v0] w (fun v w' => wp d 138 Q 5 L (v.toList ++ st) w' cn sn)) := w_virtual (As := [v0]) d_138_2 (by decide +kernel : cT (mO 138) 205 = some (0, 104)) rfl (by decide +kernel) rfl (by decide +kernel) rfl
theorem d_138_5 : decode (mB 138) 5 = .ok (.ifCond .eq 33, 3) := by decide +kernel
theorem s_138_5 {d : Nat} {Q : wQ} {L : List (Option Value)} {st : List Value} {w : aw} {cn sn : Nat} {x : Int32} : wp d 138 Q 5 L (.int x :: st) w cn sn = ((x = 0 → wp d 138 Q 38 L st w cn sn) ∧ (¬ x = 0 → wp d 138 Q 8 L st w cn sn)) := w_ifeq d_138_5 (by decide)
theorem d_138_8 : decode (mB 138) 8 = .ok (.iload_n 2, 1) := by decide +kernel
theorem s_138_8 {d : Nat} {Q : wQ} {L : List (Option Value)} {st : List Value} {w : aw} {cn sn : Nat} {a0 a1 : Option Value} {v : Int32} : wp d 138 Q 8 (a0 :: a1 :: some (.int v) :: L) st w cn sn = wp d 138 Q 9 (a0 :: a1 :: some (.int v) :: L) (.int v :: st) w cn sn := w_iload_n d_138_8 rfl
theorem d_138_9 : decode (mB 138) 9 = .ok (.iconst 0, 1) := by decide +kernel
theorem s_138_9 {d : Nat} {Q : wQ} {L : List (Option Value)} {st : List Value} {w : aw} {cn sn : Nat}  : wp d 138 Q 9 L st w cn sn = wp d 138 Q 10 L (.int 0 :: st) w cn sn := w_iconst d_138_9 (by decide)
theorem d_138_10 : decode (mB 138) 10 = .ok (.aload_n 0, 1) := by decide +kernel
theorem s_138_10 {d : Nat} {Q : wQ} {L : List (Option Value)} {st : List Value} {w : aw} {cn sn : Nat} {v : Nat} : wp d 138 Q 10 (some (.ref v) :: L) st w cn sn = wp d 138 Q 11 (some (.ref v) :: L) (.ref v :: st) w cn sn := w_aload_n d_138_10 rfl
theorem d_138_11 : decode (mB 138) 11 = .ok (.getfield 63, 3) := by decide +kernel
theorem s_138_11 {d : Nat} {Q : wQ} {L : List (Option Value)} {st : List Value} {w : aw} {cn sn : Nat} {a : Nat} : wp d 138 Q 11 L (.ref a :: st) w cn sn = (kd w a = 9 ∧ wp d 138 Q 14 L (fd w 539 a :: st) w cn sn) := w_getfield d_138_11 (by decide +kernel : fT (mO 138) 63 = some (8, 27))
theorem d_138_14 : decode (mB 138) 14 = .ok (.iload_n 1, 1) := by decide +kernel
theorem s_138_14 {d : Nat} {Q : wQ} {L : List (Option Value)} {st : List Value} {w : aw} {cn sn : Nat} {a0 : Option Value} {v : Int32} : wp d 138 Q 14 (a0 :: some (.int v) :: L) st w cn sn = wp d 138 Q 15 (a0 :: some (.int v) :: L) (.int v :: st) w cn sn := w_iload_n d_138_14 rfl
theorem d_138_15 : decode (mB 138) 15 = .ok (.iaload, 1) := by decide +kernel
theorem s_138_15 {d : Nat} {Q : wQ} {L : List (Option Value)} {st : List Value} {w : aw} {cn sn : Nat} {a : Nat} {i : Int32} : wp d 138 Q 15 L (.int i :: .ref a :: st) w cn sn = ((kd w a = 20 ∨ kd w a = 30) ∧ inR i (ln w a) ∧ wp d 138 Q 16 L (.int (ai w a i.toNatClampNeg) :: st) w cn sn) := wp_row d_138_15 _ _ _ _ _
theorem d_138_16 : decode (mB 138) 16 = .ok (.iconst 1, 1) := by decide +kernel
theorem s_138_16 {d : Nat} {Q : wQ} {L : List (Option Value)} {st : List Value} {w : aw} {cn sn : Nat}  : wp d 138 Q 16 L st w cn sn = wp d 138 Q 17 L (.int 1 :: st) w cn sn := w_iconst d_138_16 (by decide)
theorem d_138_17 : decode (mB 138) 17 = .ok (.isub, 1) := by decide +kernel
theorem s_138_17 {d : Nat} {Q : wQ} {L : List (Option Value)} {st : List Value} {w : aw} {cn sn : Nat} {a b : Int32} : wp d 138 Q 17 L (.int b :: .int a :: st) w cn sn = wp d 138 Q 18 L (.int (a - b) :: st) w cn sn := wp_row d_138_17 _ _ _ _ _
theorem d_138_18 : decode (mB 138) 18 = .ok (.invokestatic 111, 3) := by decide +kernel
theorem s_138_18 {d : Nat} {Q : wQ} {L : List (Option Value)} {st : List Value} {w : aw} {cn sn : Nat} {v0 v1 v2 : Value} : wp d 138 Q 18 L (v2 :: v1 :: v0 :: st) w cn sn = (catS st ≤ 8 ∧ wpD d 103 [v0, v1, v2] w (fun v w' => wp d 138 Q 21 L (v.toList ++ st) w' cn sn)) := w_static (As := [v0, v1, v2]) d_138_18 (by decide +kernel : cT (mO 138) 111 = some (2, 103)) rfl (by decide +kernel) rfl
theorem d_138_21 : decode (mB 138) 21 = .ok (.ifCond .eq 17, 3) := by decide +kernel
theorem s_138_21 {d : Nat} {Q : wQ} {L : List (Option Value)} {st : List Value} {w : aw} {cn sn : Nat} {x : Int32} : wp d 138 Q 21 L (.int x :: st) w cn sn = ((x = 0 → wp d 138 Q 38 L st w cn sn) ∧ (¬ x = 0 → wp d 138 Q 24 L st w cn sn)) := w_ifeq d_138_21 (by decide)
theorem d_138_24 : decode (mB 138) 24 = .ok (.aload_n 0, 1) := by decide +kernel
theorem s_138_24 {d : Nat} {Q : wQ} {L : List (Option Value)} {st : List Value} {w : aw} {cn sn : Nat} {v : Nat} : wp d 138 Q 24 (some (.ref v) :: L) st w cn sn = wp d 138 Q 25 (some (.ref v) :: L) (.ref v :: st) w cn sn := w_aload_n d_138_24 rfl
theorem d_138_25 : decode (mB 138) 25 = .ok (.getfield 60, 3) := by decide +kernel
theorem s_138_25 {d : Nat} {Q : wQ} {L : List (Option Value)} {st : List Value} {w : aw} {cn sn : Nat} {a : Nat} : wp d 138 Q 25 L (.ref a :: st) w cn sn = (kd w a = 9 ∧ wp d 138 Q 28 L (fd w 538 a :: st) w cn sn) := w_getfield d_138_25 (by decide +kernel : fT (mO 138) 60 = some (8, 26))
theorem d_138_28 : decode (mB 138) 28 = .ok (.bipush 16, 2) := by decide +kernel
theorem s_138_28 {d : Nat} {Q : wQ} {L : List (Option Value)} {st : List Value} {w : aw} {cn sn : Nat}  : wp d 138 Q 28 L st w cn sn = wp d 138 Q 30 L (.int 16 :: st) w cn sn := w_bipush d_138_28 (by decide)
theorem d_138_30 : decode (mB 138) 30 = .ok (.iload_n 1, 1) := by decide +kernel
theorem s_138_30 {d : Nat} {Q : wQ} {L : List (Option Value)} {st : List Value} {w : aw} {cn sn : Nat} {a0 : Option Value} {v : Int32} : wp d 138 Q 30 (a0 :: some (.int v) :: L) st w cn sn = wp d 138 Q 31 (a0 :: some (.int v) :: L) (.int v :: st) w cn sn := w_iload_n d_138_30 rfl
theorem d_138_31 : decode (mB 138) 31 = .ok (.imul, 1) := by decide +kernel
theorem s_138_31 {d : Nat} {Q : wQ} {L : List (Option Value)} {st : List Value} {w : aw} {cn sn : Nat} {a b : Int32} : wp d 138 Q 31 L (.int b :: .int a :: st) w cn sn = wp d 138 Q 32 L (.int (a * b) :: st) w cn sn := wp_row d_138_31 _ _ _ _ _
theorem d_138_32 : decode (mB 138) 32 = .ok (.iload_n 2, 1) := by decide +kernel
theorem s_138_32 {d : Nat} {Q : wQ} {L : List (Option Value)} {st : List Value} {w : aw} {cn sn : Nat} {a0 a1 : Option Value} {v : Int32} : wp d 138 Q 32 (a0 :: a1 :: some (.int v) :: L) st w cn sn = wp d 138 Q 33 (a0 :: a1 :: some (.int v) :: L) (.int v :: st) w cn sn := w_iload_n d_138_32 rfl
theorem d_138_33 : decode (mB 138) 33 = .ok (.iadd, 1) := by decide +kernel
theorem s_138_33 {d : Nat} {Q : wQ} {L : List (Option Value)} {st : List Value} {w : aw} {cn sn : Nat} {a b : Int32} : wp d 138 Q 33 L (.int b :: .int a :: st) w cn sn = wp d 138 Q 34 L (.int (a + b) :: st) w cn sn := wp_row d_138_33 _ _ _ _ _
theorem d_138_34 : decode (mB 138) 34 = .ok (.iaload, 1) := by decide +kernel
theorem s_138_34 {d : Nat} {Q : wQ} {L : List (Option Value)} {st : List Value} {w : aw} {cn sn : Nat} {a : Nat} {i : Int32} : wp d 138 Q 34 L (.int i :: .ref a :: st) w cn sn = ((kd w a = 20 ∨ kd w a = 30) ∧ inR i (ln w a) ∧ wp d 138 Q 35 L (.int (ai w a i.toNatClampNeg) :: st) w cn sn) := wp_row d_138_34 _ _ _ _ _
theorem d_138_35 : decode (mB 138) 35 = .ok (.goto 4, 3) := by decide +kernel
theorem s_138_35 {d : Nat} {Q : wQ} {L : List (Option Value)} {st : List Value} {w : aw} {cn sn : Nat}  : wp d 138 Q 35 L st w cn sn = wp d 138 Q 39 L st w cn sn := w_goto d_138_35 (by decide)
theorem d_138_38 : decode (mB 138) 38 = .ok (.iconst (-1), 1) := by decide +kernel
theorem s_138_38 {d : Nat} {Q : wQ} {L : List (Option Value)} {st : List Value} {w : aw} {cn sn : Nat}  : wp d 138 Q 38 L st w cn sn = wp d 138 Q 39 L (.int (-1) :: st) w cn sn := w_iconst d_138_38 (by decide)
theorem d_138_39 : decode (mB 138) 39 = .ok (.ireturn, 1) := by decide +kernel
theorem s_138_39 {d : Nat} {Q : wQ} {L : List (Option Value)} {w : aw} {cn sn : Nat} {v : Int32} : wp d 138 Q 39 L [.int v] w cn sn = Q (some (.int v)) w := w_ireturn d_138_39 rfl
theorem d_139_0 : decode (mB 139) 0 = .ok (.aload_n 0, 1) := by decide +kernel
theorem s_139_0 {d : Nat} {Q : wQ} {L : List (Option Value)} {st : List Value} {w : aw} {cn sn : Nat} {v : Nat} : wp d 139 Q 0 (some (.ref v) :: L) st w cn sn = wp d 139 Q 1 (some (.ref v) :: L) (.ref v :: st) w cn sn := w_aload_n d_139_0 rfl
theorem d_139_1 : decode (mB 139) 1 = .ok (.getfield 108, 3) := by decide +kernel
theorem s_139_1 {d : Nat} {Q : wQ} {L : List (Option Value)} {st : List Value} {w : aw} {cn sn : Nat} {a : Nat} : wp d 139 Q 1 L (.ref a :: st) w cn sn = (kd w a = 9 ∧ wp d 139 Q 4 L (fd w 512 a :: st) w cn sn) := w_getfield d_139_1 (by decide +kernel : fT (mO 139) 108 = some (8, 0))
theorem d_139_4 : decode (mB 139) 4 = .ok (.ifCond .ne 5, 3) := by decide +kernel
theorem s_139_4 {d : Nat} {Q : wQ} {L : List (Option Value)} {st : List Value} {w : aw} {cn sn : Nat} {x : Int32} : wp d 139 Q 4 L (.int x :: st) w cn sn = ((¬ x = 0 → wp d 139 Q 9 L st w cn sn) ∧ (x = 0 → wp d 139 Q 7 L st w cn sn)) := w_ifne d_139_4 (by decide)
theorem d_139_7 : decode (mB 139) 7 = .ok (.iconst (-1), 1) := by decide +kernel
theorem s_139_7 {d : Nat} {Q : wQ} {L : List (Option Value)} {st : List Value} {w : aw} {cn sn : Nat}  : wp d 139 Q 7 L st w cn sn = wp d 139 Q 8 L (.int (-1) :: st) w cn sn := w_iconst d_139_7 (by decide)
theorem d_139_8 : decode (mB 139) 8 = .ok (.ireturn, 1) := by decide +kernel
theorem s_139_8 {d : Nat} {Q : wQ} {L : List (Option Value)} {w : aw} {cn sn : Nat} {v : Int32} : wp d 139 Q 8 L [.int v] w cn sn = Q (some (.int v)) w := w_ireturn d_139_8 rfl
theorem d_139_9 : decode (mB 139) 9 = .ok (.iload_n 1, 1) := by decide +kernel
theorem s_139_9 {d : Nat} {Q : wQ} {L : List (Option Value)} {st : List Value} {w : aw} {cn sn : Nat} {a0 : Option Value} {v : Int32} : wp d 139 Q 9 (a0 :: some (.int v) :: L) st w cn sn = wp d 139 Q 10 (a0 :: some (.int v) :: L) (.int v :: st) w cn sn := w_iload_n d_139_9 rfl
theorem d_139_10 : decode (mB 139) 10 = .ok (.tableswitch 113 0 10 #[58, 63, 68, 73, 78, 83, 88, 93, 98, 103, 108], 58) := by decide +kernel
theorem s_139_10 {d : Nat} {Q : wQ} {L : List (Option Value)} {st : List Value} {w : aw} {cn sn : Nat} {x : Int32} : wp d 139 Q 10 L (.int x :: st) w cn sn = ((x.toInt < 0 ∨ 10 < x.toInt → wp d 139 Q 123 L st w cn sn) ∧ ∀ (i t : Nat), ([68, 73, 78, 83, 88, 93, 98, 103, 108, 113, 118] : List Nat)[i]? = some t → x.toInt = 0 + i → wp d 139 Q t L st w cn sn) := w_table d_139_10 (by decide) (by decide) (by decide)
theorem d_139_68 : decode (mB 139) 68 = .ok (.aload_n 0, 1) := by decide +kernel
theorem s_139_68 {d : Nat} {Q : wQ} {L : List (Option Value)} {st : List Value} {w : aw} {cn sn : Nat} {v : Nat} : wp d 139 Q 68 (some (.ref v) :: L) st w cn sn = wp d 139 Q 69 (some (.ref v) :: L) (.ref v :: st) w cn sn := w_aload_n d_139_68 rfl
theorem d_139_69 : decode (mB 139) 69 = .ok (.getfield 108, 3) := by decide +kernel
theorem s_139_69 {d : Nat} {Q : wQ} {L : List (Option Value)} {st : List Value} {w : aw} {cn sn : Nat} {a : Nat} : wp d 139 Q 69 L (.ref a :: st) w cn sn = (kd w a = 9 ∧ wp d 139 Q 72 L (fd w 512 a :: st) w cn sn) := w_getfield d_139_69 (by decide +kernel : fT (mO 139) 108 = some (8, 0))
theorem d_139_72 : decode (mB 139) 72 = .ok (.ireturn, 1) := by decide +kernel
theorem s_139_72 {d : Nat} {Q : wQ} {L : List (Option Value)} {w : aw} {cn sn : Nat} {v : Int32} : wp d 139 Q 72 L [.int v] w cn sn = Q (some (.int v)) w := w_ireturn d_139_72 rfl
theorem d_139_73 : decode (mB 139) 73 = .ok (.aload_n 0, 1) := by decide +kernel
theorem s_139_73 {d : Nat} {Q : wQ} {L : List (Option Value)} {st : List Value} {w : aw} {cn sn : Nat} {v : Nat} : wp d 139 Q 73 (some (.ref v) :: L) st w cn sn = wp d 139 Q 74 (some (.ref v) :: L) (.ref v :: st) w cn sn := w_aload_n d_139_73 rfl
theorem d_139_74 : decode (mB 139) 74 = .ok (.getfield 172, 3) := by decide +kernel
theorem s_139_74 {d : Nat} {Q : wQ} {L : List (Option Value)} {st : List Value} {w : aw} {cn sn : Nat} {a : Nat} : wp d 139 Q 74 L (.ref a :: st) w cn sn = (kd w a = 9 ∧ wp d 139 Q 77 L (fd w 513 a :: st) w cn sn) := w_getfield d_139_74 (by decide +kernel : fT (mO 139) 172 = some (8, 1))
theorem d_139_77 : decode (mB 139) 77 = .ok (.ireturn, 1) := by decide +kernel
theorem s_139_77 {d : Nat} {Q : wQ} {L : List (Option Value)} {w : aw} {cn sn : Nat} {v : Int32} : wp d 139 Q 77 L [.int v] w cn sn = Q (some (.int v)) w := w_ireturn d_139_77 rfl
theorem d_139_78 : decode (mB 139) 78 = .ok (.aload_n 0, 1) := by decide +kernel
theorem s_139_78 {d : Nat} {Q : wQ} {L : List (Option Value)} {st : List Value} {w : aw} {cn sn : Nat} {v : Nat} : wp d 139 Q 78 (some (.ref v) :: L) st w cn sn = wp d 139 Q 79 (some (.ref v) :: L) (.ref v :: st) w cn sn := w_aload_n d_139_78 rfl
theorem d_139_79 : decode (mB 139) 79 = .ok (.getfield 166, 3) := by decide +kernel
theorem s_139_79 {d : Nat} {Q : wQ} {L : List (Option Value)} {st : List Value} {w : aw} {cn sn : Nat} {a : Nat} : wp d 139 Q 79 L (.ref a :: st) w cn sn = (kd w a = 9 ∧ wp d 139 Q 82 L (fd w 514 a :: st) w cn sn) := w_getfield d_139_79 (by decide +kernel : fT (mO 139) 166 = some (8, 2))
theorem d_139_82 : decode (mB 139) 82 = .ok (.ireturn, 1) := by decide +kernel
theorem s_139_82 {d : Nat} {Q : wQ} {L : List (Option Value)} {w : aw} {cn sn : Nat} {v : Int32} : wp d 139 Q 82 L [.int v] w cn sn = Q (some (.int v)) w := w_ireturn d_139_82 rfl
theorem d_139_83 : decode (mB 139) 83 = .ok (.aload_n 0, 1) := by decide +kernel
theorem s_139_83 {d : Nat} {Q : wQ} {L : List (Option Value)} {st : List Value} {w : aw} {cn sn : Nat} {v : Nat} : wp d 139 Q 83 (some (.ref v) :: L) st w cn sn = wp d 139 Q 84 (some (.ref v) :: L) (.ref v :: st) w cn sn := w_aload_n d_139_83 rfl
theorem d_139_84 : decode (mB 139) 84 = .ok (.getfield 184, 3) := by decide +kernel
theorem s_139_84 {d : Nat} {Q : wQ} {L : List (Option Value)} {st : List Value} {w : aw} {cn sn : Nat} {a : Nat} : wp d 139 Q 84 L (.ref a :: st) w cn sn = (kd w a = 9 ∧ wp d 139 Q 87 L (fd w 515 a :: st) w cn sn) := w_getfield d_139_84 (by decide +kernel : fT (mO 139) 184 = some (8, 3))
theorem d_139_87 : decode (mB 139) 87 = .ok (.ireturn, 1) := by decide +kernel
theorem s_139_87 {d : Nat} {Q : wQ} {L : List (Option Value)} {w : aw} {cn sn : Nat} {v : Int32} : wp d 139 Q 87 L [.int v] w cn sn = Q (some (.int v)) w := w_ireturn d_139_87 rfl
theorem d_139_88 : decode (mB 139) 88 = .ok (.aload_n 0, 1) := by decide +kernel
theorem s_139_88 {d : Nat} {Q : wQ} {L : List (Option Value)} {st : List Value} {w : aw} {cn sn : Nat} {v : Nat} : wp d 139 Q 88 (some (.ref v) :: L) st w cn sn = wp d 139 Q 89 (some (.ref v) :: L) (.ref v :: st) w cn sn := w_aload_n d_139_88 rfl
theorem d_139_89 : decode (mB 139) 89 = .ok (.getfield 175, 3) := by decide +kernel
theorem s_139_89 {d : Nat} {Q : wQ} {L : List (Option Value)} {st : List Value} {w : aw} {cn sn : Nat} {a : Nat} : wp d 139 Q 89 L (.ref a :: st) w cn sn = (kd w a = 9 ∧ wp d 139 Q 92 L (fd w 516 a :: st) w cn sn) := w_getfield d_139_89 (by decide +kernel : fT (mO 139) 175 = some (8, 4))
theorem d_139_92 : decode (mB 139) 92 = .ok (.ireturn, 1) := by decide +kernel
theorem s_139_92 {d : Nat} {Q : wQ} {L : List (Option Value)} {w : aw} {cn sn : Nat} {v : Int32} : wp d 139 Q 92 L [.int v] w cn sn = Q (some (.int v)) w := w_ireturn d_139_92 rfl
theorem d_139_93 : decode (mB 139) 93 = .ok (.aload_n 0, 1) := by decide +kernel
theorem s_139_93 {d : Nat} {Q : wQ} {L : List (Option Value)} {st : List Value} {w : aw} {cn sn : Nat} {v : Nat} : wp d 139 Q 93 (some (.ref v) :: L) st w cn sn = wp d 139 Q 94 (some (.ref v) :: L) (.ref v :: st) w cn sn := w_aload_n d_139_93 rfl
theorem d_139_94 : decode (mB 139) 94 = .ok (.getfield 159, 3) := by decide +kernel
theorem s_139_94 {d : Nat} {Q : wQ} {L : List (Option Value)} {st : List Value} {w : aw} {cn sn : Nat} {a : Nat} : wp d 139 Q 94 L (.ref a :: st) w cn sn = (kd w a = 9 ∧ wp d 139 Q 97 L (fd w 517 a :: st) w cn sn) := w_getfield d_139_94 (by decide +kernel : fT (mO 139) 159 = some (8, 5))
theorem d_139_97 : decode (mB 139) 97 = .ok (.ireturn, 1) := by decide +kernel
theorem s_139_97 {d : Nat} {Q : wQ} {L : List (Option Value)} {w : aw} {cn sn : Nat} {v : Int32} : wp d 139 Q 97 L [.int v] w cn sn = Q (some (.int v)) w := w_ireturn d_139_97 rfl
theorem d_139_98 : decode (mB 139) 98 = .ok (.aload_n 0, 1) := by decide +kernel
theorem s_139_98 {d : Nat} {Q : wQ} {L : List (Option Value)} {st : List Value} {w : aw} {cn sn : Nat} {v : Nat} : wp d 139 Q 98 (some (.ref v) :: L) st w cn sn = wp d 139 Q 99 (some (.ref v) :: L) (.ref v :: st) w cn sn := w_aload_n d_139_98 rfl
theorem d_139_99 : decode (mB 139) 99 = .ok (.getfield 13, 3) := by decide +kernel
theorem s_139_99 {d : Nat} {Q : wQ} {L : List (Option Value)} {st : List Value} {w : aw} {cn sn : Nat} {a : Nat} : wp d 139 Q 99 L (.ref a :: st) w cn sn = (kd w a = 9 ∧ wp d 139 Q 102 L (fd w 521 a :: st) w cn sn) := w_getfield d_139_99 (by decide +kernel : fT (mO 139) 13 = some (8, 9))
theorem d_139_102 : decode (mB 139) 102 = .ok (.ireturn, 1) := by decide +kernel
theorem s_139_102 {d : Nat} {Q : wQ} {L : List (Option Value)} {w : aw} {cn sn : Nat} {v : Int32} : wp d 139 Q 102 L [.int v] w cn sn = Q (some (.int v)) w := w_ireturn d_139_102 rfl
theorem d_139_103 : decode (mB 139) 103 = .ok (.aload_n 0, 1) := by decide +kernel
theorem s_139_103 {d : Nat} {Q : wQ} {L : List (Option Value)} {st : List Value} {w : aw} {cn sn : Nat} {v : Nat} : wp d 139 Q 103 (some (.ref v) :: L) st w cn sn = wp d 139 Q 104 (some (.ref v) :: L) (.ref v :: st) w cn sn := w_aload_n d_139_103 rfl
theorem d_139_104 : decode (mB 139) 104 = .ok (.getfield 156, 3) := by decide +kernel
theorem s_139_104 {d : Nat} {Q : wQ} {L : List (Option Value)} {st : List Value} {w : aw} {cn sn : Nat} {a : Nat} : wp d 139 Q 104 L (.ref a :: st) w cn sn = (kd w a = 9 ∧ wp d 139 Q 107 L (fd w 524 a :: st) w cn sn) := w_getfield d_139_104 (by decide +kernel : fT (mO 139) 156 = some (8, 12))
theorem d_139_107 : decode (mB 139) 107 = .ok (.ireturn, 1) := by decide +kernel
theorem s_139_107 {d : Nat} {Q : wQ} {L : List (Option Value)} {w : aw} {cn sn : Nat} {v : Int32} : wp d 139 Q 107 L [.int v] w cn sn = Q (some (.int v)) w := w_ireturn d_139_107 rfl
theorem d_139_108 : decode (mB 139) 108 = .ok (.aload_n 0, 1) := by decide +kernel
theorem s_139_108 {d : Nat} {Q : wQ} {L : List (Option Value)} {st : List Value} {w : aw} {cn sn : Nat} {v : Nat} : wp d 139 Q 108 (some (.ref v) :: L) st w cn sn = wp d 139 Q 109 (some (.ref v) :: L) (.ref v :: st) w cn sn := w_aload_n d_139_108 rfl
theorem d_139_109 : decode (mB 139) 109 = .ok (.getfield 169, 3) := by decide +kernel
theorem s_139_109 {d : Nat} {Q : wQ} {L : List (Option Value)} {st : List Value} {w : aw} {cn sn : Nat} {a : Nat} : wp d 139 Q 109 L (.ref a :: st) w cn sn = (kd w a = 9 ∧ wp d 139 Q 112 L (fd w 518 a :: st) w cn sn) := w_getfield d_139_109 (by decide +kernel : fT (mO 139) 169 = some (8, 6))
theorem d_139_112 : decode (mB 139) 112 = .ok (.ireturn, 1) := by decide +kernel
theorem s_139_112 {d : Nat} {Q : wQ} {L : List (Option Value)} {w : aw} {cn sn : Nat} {v : Int32} : wp d 139 Q 112 L [.int v] w cn sn = Q (some (.int v)) w := w_ireturn d_139_112 rfl
theorem d_139_113 : decode (mB 139) 113 = .ok (.aload_n 0, 1) := by decide +kernel
theorem s_139_113 {d : Nat} {Q : wQ} {L : List (Option Value)} {st : List Value} {w : aw} {cn sn : Nat} {v : Nat} : wp d 139 Q 113 (some (.ref v) :: L) st w cn sn = wp d 139 Q 114 (some (.ref v) :: L) (.ref v :: st) w cn sn := w_aload_n d_139_113 rfl
theorem d_139_114 : decode (mB 139) 114 = .ok (.getfield 7, 3) := by decide +kernel
theorem s_139_114 {d : Nat} {Q : wQ} {L : List (Option Value)} {st : List Value} {w : aw} {cn sn : Nat} {a : Nat} : wp d 139 Q 114 L (.ref a :: st) w cn sn = (kd w a = 9 ∧ wp d 139 Q 117 L (fd w 519 a :: st) w cn sn) := w_getfield d_139_114 (by decide +kernel : fT (mO 139) 7 = some (8, 7))
theorem d_139_117 : decode (mB 139) 117 = .ok (.ireturn, 1) := by decide +kernel
theorem s_139_117 {d : Nat} {Q : wQ} {L : List (Option Value)} {w : aw} {cn sn : Nat} {v : Int32} : wp d 139 Q 117 L [.int v] w cn sn = Q (some (.int v)) w := w_ireturn d_139_117 rfl
theorem d_139_118 : decode (mB 139) 118 = .ok (.aload_n 0, 1) := by decide +kernel
theorem s_139_118 {d : Nat} {Q : wQ} {L : List (Option Value)} {st : List Value} {w : aw} {cn sn : Nat} {v : Nat} : wp d 139 Q 118 (some (.ref v) :: L) st w cn sn = wp d 139 Q 119 (some (.ref v) :: L) (.ref v :: st) w cn sn := w_aload_n d_139_118 rfl
theorem d_139_119 : decode (mB 139) 119 = .ok (.getfield 181, 3) := by decide +kernel
theorem s_139_119 {d : Nat} {Q : wQ} {L : List (Option Value)} {st : List Value} {w : aw} {cn sn : Nat} {a : Nat} : wp d 139 Q 119 L (.ref a :: st) w cn sn = (kd w a = 9 ∧ wp d 139 Q 122 L (fd w 520 a :: st) w cn sn) := w_getfield d_139_119 (by decide +kernel : fT (mO 139) 181 = some (8, 8))
theorem d_139_122 : decode (mB 139) 122 = .ok (.ireturn, 1) := by decide +kernel
theorem s_139_122 {d : Nat} {Q : wQ} {L : List (Option Value)} {w : aw} {cn sn : Nat} {v : Int32} : wp d 139 Q 122 L [.int v] w cn sn = Q (some (.int v)) w := w_ireturn d_139_122 rfl
theorem d_139_123 : decode (mB 139) 123 = .ok (.iconst (-1), 1) := by decide +kernel
theorem s_139_123 {d : Nat} {Q : wQ} {L : List (Option Value)} {st : List Value} {w : aw} {cn sn : Nat}  : wp d 139 Q 123 L st w cn sn = wp d 139 Q 124 L (.int (-1) :: st) w cn sn := w_iconst d_139_123 (by decide)
theorem d_139_124 : decode (mB 139) 124 = .ok (.ireturn, 1) := by decide +kernel
theorem s_139_124 {d : Nat} {Q : wQ} {L : List (Option Value)} {w : aw} {cn sn : Nat} {v : Int32} : wp d 139 Q 124 L [.int v] w cn sn = Q (some (.int v)) w := w_ireturn d_139_124 rfl
theorem d_140_0 : decode (mB 140) 0 = .ok (.iload_n 1, 1) := by decide +kernel
theorem s_140_0 {d : Nat} {Q : wQ} {L : List (Option Value)} {st : List Value} {w : aw} {cn sn : Nat} {a0 : Option Value} {v : Int32} : wp d 140 Q 0 (a0 :: some (.int v) :: L) st w cn sn = wp d 140 Q 1 (a0 :: some (.int v) :: L) (.int v :: st) w cn sn := w_iload_n d_140_0 rfl
theorem d_140_1 : decode (mB 140) 1 = .ok (.iconst 0, 1) := by decide +kernel
theorem s_140_1 {d : Nat} {Q : wQ} {L : List (Option Value)} {st : List Value} {w : aw} {cn sn : Nat}  : wp d 140 Q 1 L st w cn sn = wp d 140 Q 2 L (.int 0 :: st) w cn sn := w_iconst d_140_1 (by decide)
theorem d_140_2 : decode (mB 140) 2 = .ok (.aload_n 0, 1) := by decide +kernel
theorem s_140_2 {d : Nat} {Q : wQ} {L : List (Option Value)} {st : List Value} {w : aw} {cn sn : Nat} {v : Nat} : wp d 140 Q 2 (some (.ref v) :: L) st w cn sn = wp d 140 Q 3 (some (.ref v) :: L) (.ref v :: st) w cn sn := w_aload_n d_140_2 rfl
theorem d_140_3 : decode (mB 140) 3 = .ok (.getfield 156, 3) := by decide +kernel
theorem s_140_3 {d : Nat} {Q : wQ} {L : List (Option Value)} {st : List Value} {w : aw} {cn sn : Nat} {a : Nat} : wp d 140 Q 3 L (.ref a :: st) w cn sn = (kd w a = 9 ∧ wp d 140 Q 6 L (fd w 524 a :: st) w cn sn) := w_getfield d_140_3 (by decide +kernel : fT (mO 140) 156 = some (8, 12))
theorem d_140_6 : decode (mB 140) 6 = .ok (.iconst 1, 1) := by decide +kernel
theorem s_140_6 {d : Nat} {Q : wQ} {L : List (Option Value)} {st : List Value} {w : aw} {cn sn : Nat}  : wp d 140 Q 6 L st w cn sn = wp d 140 Q 7 L (.int 1 :: st) w cn sn := w_iconst d_140_6 (by decide)
theorem d_140_7 : decode (mB 140) 7 = .ok (.isub, 1) := by decide +kernel
theorem s_140_7 {d : Nat} {Q : wQ} {L : List (Option Value)} {st : List Value} {w : aw} {cn sn : Nat} {a b : Int32} : wp d 140 Q 7 L (.int b :: .int a :: st) w cn sn = wp d 140 Q 8 L (.int (a - b) :: st) w cn sn := wp_row d_140_7 _ _ _ _ _
theorem d_140_8 : decode (mB 140) 8 = .ok (.invokestatic 111, 3) := by decide +kernel
theorem s_140_8 {d : Nat} {Q : wQ} {L : List (Option Value)} {st : List Value} {w : aw} {cn sn : Nat} {v0 v1 v2 : Value} : wp d 140 Q 8 L (v2 :: v1 :: v0 :: st) w cn sn = (catS st ≤ 8 ∧ wpD d 103 [v0, v1, v2] w (fun v w' => wp d 140 Q 11 L (v.toList ++ st) w' cn sn)) := w_static (As := [v0, v1, v2]) d_140_8 (by decide +kernel : cT (mO 140) 111 = some (2, 103)) rfl (by decide +kernel) rfl
theorem d_140_11 : decode (mB 140) 11 = .ok (.ifCond .eq 12, 3) := by decide +kernel
theorem s_140_11 {d : Nat} {Q : wQ} {L : List (Option Value)} {st : List Value} {w : aw} {cn sn : Nat} {x : Int32} : wp d 140 Q 11 L (.int x :: st) w cn sn = ((x = 0 → wp d 140 Q 23 L st w cn sn) ∧ (¬ x = 0 → wp d 140 Q 14 L st w cn sn)) := w_ifeq d_140_11 (by decide)
theorem d_140_14 : decode (mB 140) 14 = .ok (.aload_n 0, 1) := by decide +kernel
theorem s_140_14 {d : Nat} {Q : wQ} {L : List (Option Value)} {st : List Value} {w : aw} {cn sn : Nat} {v : Nat} : wp d 140 Q 14 (some (.ref v) :: L) st w cn sn = wp d 140 Q 15 (some (.ref v) :: L) (.ref v :: st) w cn sn := w_aload_n d_140_14 rfl
theorem d_140_15 : decode (mB 140) 15 = .ok (.getfield 16, 3) := by decide +kernel
theorem s_140_15 {d : Nat} {Q : wQ} {L : List (Option Value)} {st : List Value} {w : aw} {cn sn : Nat} {a : Nat} : wp d 140 Q 15 L (.ref a :: st) w cn sn = (kd w a = 9 ∧ wp d 140 Q 18 L (fd w 523 a :: st) w cn sn) := w_getfield d_140_15 (by decide +kernel : fT (mO 140) 16 = some (8, 11))
theorem d_140_18 : decode (mB 140) 18 = .ok (.iload_n 1, 1) := by decide +kernel
theorem s_140_18 {d : Nat} {Q : wQ} {L : List (Option Value)} {st : List Value} {w : aw} {cn sn : Nat} {a0 : Option Value} {v : Int32} : wp d 140 Q 18 (a0 :: some (.int v) :: L) st w cn sn = wp d 140 Q 19 (a0 :: some (.int v) :: L) (.int v :: st) w cn sn := w_iload_n d_140_18 rfl
theorem d_140_19 : decode (mB 140) 19 = .ok (.iaload, 1) := by decide +kernel
theorem s_140_19 {d : Nat} {Q : wQ} {L : List (Option Value)} {st : List Value} {w : aw} {cn sn : Nat} {a : Nat} {i : Int32} : wp d 140 Q 19 L (.int i :: .ref a :: st) w cn sn = ((kd w a = 20 ∨ kd w a = 30) ∧ inR i (ln w a) ∧ wp d 140 Q 20 L (.int (ai w a i.toNatClampNeg) :: st) w cn sn) := wp_row d_140_19 _ _ _ _ _
theorem d_140_20 : decode (mB 140) 20 = .ok (.goto 4, 3) := by decide +kernel
theorem s_140_20 {d : Nat} {Q : wQ} {L : List (Option Value)} {st : List Value} {w : aw} {cn sn : Nat}  : wp d 140 Q 20 L st w cn sn = wp d 140 Q 24 L st w cn sn := w_goto d_140_20 (by decide)
theorem d_140_23 : decode (mB 140) 23 = .ok (.iconst (-1), 1) := by decide +kernel
theorem s_140_23 {d : Nat} {Q : wQ} {L : List (Option Value)} {st : List Value} {w : aw} {cn sn : Nat}  : wp d 140 Q 23 L st w cn sn = wp d 140 Q 24 L (.int (-1) :: st) w cn sn := w_iconst d_140_23 (by decide)
theorem d_140_24 : decode (mB 140) 24 = .ok (.ireturn, 1) := by decide +kernel
theorem s_140_24 {d : Nat} {Q : wQ} {L : List (Option Value)} {w : aw} {cn sn : Nat} {v : Int32} : wp d 140 Q 24 L [.int v] w cn sn = Q (some (.int v)) w := w_ireturn d_140_24 rfl
theorem d_141_0 : decode (mB 141) 0 = .ok (.ldc2_w 215, 3) := by decide +kernel
theorem s_141_0 {d : Nat} {Q : wQ} {L : List (Option Value)} {st : List Value} {w : aw} {cn sn : Nat}  : wp d 141 Q 0 L st w cn sn = wp d 141 Q 3 L (.long 7 :: st) w cn sn := w_ldc2 d_141_0 (by decide +kernel : kT (mO 141) 215 = some (.long 7))
theorem d_141_3 : decode (mB 141) 3 = .ok (.lstore_n 1, 1) := by decide +kernel
theorem s_141_3 {d : Nat} {Q : wQ} {L : List (Option Value)} {st : List Value} {w : aw} {cn sn : Nat} {a0 a1 a2 : Option Value} {v : Int64} : wp d 141 Q 3 (a0 :: a1 :: a2 :: L) (.long v :: st) w cn sn = wp d 141 Q 4 (clr a0 :: some (.long v) :: none :: L) st w cn sn := w_lstore_n d_141_3 (Nat.le_add_left 3 _) rfl
theorem d_141_4 : decode (mB 141) 4 = .ok (.iconst 0, 1) := by decide +kernel
theorem s_141_4 {d : Nat} {Q : wQ} {L : List (Option Value)} {st : List Value} {w : aw} {cn sn : Nat}  : wp d 141 Q 4 L st w cn sn = wp d 141 Q 5 L (.int 0 :: st) w cn sn := w_iconst d_141_4 (by decide)
theorem d_141_5 : decode (mB 141) 5 = .ok (.istore_n 3, 1) := by decide +kernel
theorem s_141_5 {d : Nat} {Q : wQ} {L : List (Option Value)} {st : List Value} {w : aw} {cn sn : Nat} {a0 a1 a2 a3 : Option Value} {v : Int32} : wp d 141 Q 5 (a0 :: a1 :: a2 :: a3 :: L) (.int v :: st) w cn sn = wp d 141 Q 6 (a0 :: a1 :: clr a2 :: some (.int v) :: L) st w cn sn := w_istore_n d_141_5 (Nat.le_add_left 4 _) rfl
theorem d_141_6 : decode (mB 141) 6 = .ok (.iload_n 3, 1) := by decide +kernel
theorem s_141_6 {d : Nat} {Q : wQ} {L : List (Option Value)} {st : List Value} {w : aw} {cn sn : Nat} {a0 a1 a2 : Option Value} {v : Int32} : wp d 141 Q 6 (a0 :: a1 :: a2 :: some (.int v) :: L) st w cn sn = wp d 141 Q 7 (a0 :: a1 :: a2 :: some (.int v) :: L) (.int v :: st) w cn sn := w_iload_n d_141_6 rfl
theorem d_141_7 : decode (mB 141) 7 = .ok (.bipush 11, 2) := by decide +kernel
theorem s_141_7 {d : Nat} {Q : wQ} {L : List (Option Value)} {st : List Value} {w : aw} {cn sn : Nat}  : wp d 141 Q 7 L st w cn sn = wp d 141 Q 9 L (.int 11 :: st) w cn sn := w_bipush d_141_7 (by decide)
theorem d_141_9 : decode (mB 141) 9 = .ok (.if_icmp .ge 22, 3) := by decide +kernel
theorem s_141_9 {d : Nat} {Q : wQ} {L : List (Option Value)} {st : List Value} {w : aw} {cn sn : Nat} {a b : Int32} : wp d 141 Q 9 L (.int b :: .int a :: st) w cn sn = ((b ≤ a → wp d 141 Q 31 L st w cn sn) ∧ (¬ b ≤ a → wp d 141 Q 12 L st w cn sn)) := w_icge d_141_9 (by decide)
theorem d_141_12 : decode (mB 141) 12 = .ok (.lload_n 1, 1) := by decide +kernel
theorem s_141_12 {d : Nat} {Q : wQ} {L : List (Option Value)} {st : List Value} {w : aw} {cn sn : Nat} {a0 : Option Value} {v : Int64} : wp d 141 Q 12 (a0 :: some (.long v) :: L) st w cn sn = wp d 141 Q 13 (a0 :: some (.long v) :: L) (.long v :: st) w cn sn := w_lload_n d_141_12 rfl
theorem d_141_13 : decode (mB 141) 13 = .ok (.ldc2_w 217, 3) := by decide +kernel
theorem s_141_13 {d : Nat} {Q : wQ} {L : List (Option Value)} {st : List Value} {w : aw} {cn sn : Nat}  : wp d 141 Q 13 L st w cn sn = wp d 141 Q 16 L (.long 31 :: st) w cn sn := w_ldc2 d_141_13 (by decide +kernel : kT (mO 141) 217 = some (.long 31))
theorem d_141_16 : decode (mB 141) 16 = .ok (.lmul, 1) := by decide +kernel
theorem s_141_16 {d : Nat} {Q : wQ} {L : List (Option Value)} {st : List Value} {w : aw} {cn sn : Nat} {a b : Int64} : wp d 141 Q 16 L (.long b :: .long a :: st) w cn sn = wp d 141 Q 17 L (.long (a * b) :: st) w cn sn := wp_row d_141_16 _ _ _ _ _
theorem d_141_17 : decode (mB 141) 17 = .ok (.aload_n 0, 1) := by decide +kernel
theorem s_141_17 {d : Nat} {Q : wQ} {L : List (Option Value)} {st : List Value} {w : aw} {cn sn : Nat} {v : Nat} : wp d 141 Q 17 (some (.ref v) :: L) st w cn sn = wp d 141 Q 18 (some (.ref v) :: L) (.ref v :: st) w cn sn := w_aload_n d_141_17 rfl
theorem d_141_18 : decode (mB 141) 18 = .ok (.iload_n 3, 1) := by decide +kernel
theorem s_141_18 {d : Nat} {Q : wQ} {L : List (Option Value)} {st : List Value} {w : aw} {cn sn : Nat} {a0 a1 a2 : Option Value} {v : Int32} : wp d 141 Q 18 (a0 :: a1 :: a2 :: some (.int v) :: L) st w cn sn = wp d 141 Q 19 (a0 :: a1 :: a2 :: some (.int v) :: L) (.int v :: st) w cn sn := w_iload_n d_141_18 rfl
theorem d_141_19 : decode (mB 141) 19 = .ok (.invokevirtual 219, 3) := by decide +kernel
theorem s_141_19 {d : Nat} {Q : wQ} {L : List (Option Value)} {st : List Value} {w : aw} {cn sn : Nat} {v0 : Value} {b : Nat} : wp d 141 Q 19 L (v0 :: .ref b :: st) w cn sn = (kd w b = 9 ∧ catS st ≤ 8 ∧ wpD d 139 [.ref b, v0] w (fun v w' => wp d 141 Q 22 L (v.toList ++ st) w' cn sn)) := w_virtual (As := [v0]) d_141_19 (by decide +kernel : cT (mO 141) 219 = some (0, 139)) rfl (by decide +kernel) rfl (by decide +kernel) rfl
theorem d_141_22 : decode (mB 141) 22 = .ok (.i2l, 1) := by decide +kernel
theorem s_141_22 {d : Nat} {Q : wQ} {L : List (Option Value)} {st : List Value} {w : aw} {cn sn : Nat} {a : Int32} : wp d 141 Q 22 L (.int a :: st) w cn sn = wp d 141 Q 23 L (.long a.toInt64 :: st) w cn sn := wp_row d_141_22 _ _ _ _ _
theorem d_141_23 : decode (mB 141) 23 = .ok (.ladd, 1) := by decide +kernel
theorem s_141_23 {d : Nat} {Q : wQ} {L : List (Option Value)} {st : List Value} {w : aw} {cn sn : Nat} {a b : Int64} : wp d 141 Q 23 L (.long b :: .long a :: st) w cn sn = wp d 141 Q 24 L (.long (a + b) :: st) w cn sn := wp_row d_141_23 _ _ _ _ _
theorem d_141_24 : decode (mB 141) 24 = .ok (.lstore_n 1, 1) := by decide +kernel
theorem s_141_24 {d : Nat} {Q : wQ} {L : List (Option Value)} {st : List Value} {w : aw} {cn sn : Nat} {a0 a1 a2 : Option Value} {v : Int64} : wp d 141 Q 24 (a0 :: a1 :: a2 :: L) (.long v :: st) w cn sn = wp d 141 Q 25 (clr a0 :: some (.long v) :: none :: L) st w cn sn := w_lstore_n d_141_24 (Nat.le_add_left 3 _) rfl
theorem d_141_25 : decode (mB 141) 25 = .ok (.iinc 3 1, 3) := by decide +kernel
theorem s_141_25 {d : Nat} {Q : wQ} {L : List (Option Value)} {st : List Value} {w : aw} {cn sn : Nat} {a0 a1 a2 : Option Value} {v : Int32} : wp d 141 Q 25 (a0 :: a1 :: a2 :: some (.int v) :: L) st w cn sn = wp d 141 Q 28 (a0 :: a1 :: clr a2 :: some (.int (v + 1)) :: L) st w cn sn := w_iinc d_141_25 rfl (by decide) rfl
theorem d_141_28 : decode (mB 141) 28 = .ok (.goto (-22), 3) := by decide +kernel
theorem s_141_28 {d : Nat} {Q : wQ} {L : List (Option Value)} {st : List Value} {w : aw} {cn sn : Nat}  : wp d 141 Q 28 L st w cn sn = wp d 141 Q 6 L st w cn sn := w_goto d_141_28 (by decide)
theorem d_141_31 : decode (mB 141) 31 = .ok (.iconst 0, 1) := by decide +kernel
theorem s_141_31 {d : Nat} {Q : wQ} {L : List (Option Value)} {st : List Value} {w : aw} {cn sn : Nat}  : wp d 141 Q 31 L st w cn sn = wp d 141 Q 32 L (.int 0 :: st) w cn sn := w_iconst d_141_31 (by decide)
theorem d_141_32 : decode (mB 141) 32 = .ok (.istore_n 3, 1) := by decide +kernel
theorem s_141_32 {d : Nat} {Q : wQ} {L : List (Option Value)} {st : List Value} {w : aw} {cn sn : Nat} {a0 a1 a2 a3 : Option Value} {v : Int32} : wp d 141 Q 32 (a0 :: a1 :: a2 :: a3 :: L) (.int v :: st) w cn sn = wp d 141 Q 33 (a0 :: a1 :: clr a2 :: some (.int v) :: L) st w cn sn := w_istore_n d_141_32 (Nat.le_add_left 4 _) rfl
theorem d_141_33 : decode (mB 141) 33 = .ok (.iload_n 3, 1) := by decide +kernel
theorem s_141_33 {d : Nat} {Q : wQ} {L : List (Option Value)} {st : List Value} {w : aw} {cn sn : Nat} {a0 a1 a2 : Option Value} {v : Int32} : wp d 141 Q 33 (a0 :: a1 :: a2 :: some (.int v) :: L) st w cn sn = wp d 141 Q 34 (a0 :: a1 :: a2 :: some (.int v) :: L) (.int v :: st) w cn sn := w_iload_n d_141_33 rfl
theorem d_141_34 : decode (mB 141) 34 = .ok (.aload_n 0, 1) := by decide +kernel
theorem s_141_34 {d : Nat} {Q : wQ} {L : List (Option Value)} {st : List Value} {w : aw} {cn sn : Nat} {v : Nat} : wp d 141 Q 34 (some (.ref v) :: L) st w cn sn = wp d 141 Q 35 (some (.ref v) :: L) (.ref v :: st) w cn sn := w_aload_n d_141_34 rfl
theorem d_141_35 : decode (mB 141) 35 = .ok (.getfield 108, 3) := by decide +kernel
theorem s_141_35 {d : Nat} {Q : wQ} {L : List (Option Value)} {st : List Value} {w : aw} {cn sn : Nat} {a : Nat} : wp d 141 Q 35 L (.ref a :: st) w cn sn = (kd w a = 9 ∧ wp d 141 Q 38 L (fd w 512 a :: st) w cn sn) := w_getfield d_141_35 (by decide +kernel : fT (mO 141) 108 = some (8, 0))
theorem d_141_38 : decode (mB 141) 38 = .ok (.if_icmp .ge 110, 3) := by decide +kernel
theorem s_141_38 {d : Nat} {Q : wQ} {L : List (Option Value)} {st : List Value} {w : aw} {cn sn : Nat} {a b : Int32} : wp d 141 Q 38 L (.int b :: .int a :: st) w cn sn = ((b ≤ a → wp d 141 Q 148 L st w cn sn) ∧ (¬ b ≤ a → wp d 141 Q 41 L st w cn sn)) := w_icge d_141_38 (by decide)
theorem d_141_41 : decode (mB 141) 41 = .ok (.iconst 0, 1) := by decide +kernel
theorem s_141_41 {d : Nat} {Q : wQ} {L : List (Option Value)} {st : List Value} {w : aw} {cn sn : Nat}  : wp d 141 Q 41 L st w cn sn = wp d 141 Q 42 L (.int 0 :: st) w cn sn := w_iconst d_141_41 (by decide)
theorem d_141_42 : decode (mB 141) 42 = .ok (.istore 4, 2) := by decide +kernel
theorem s_141_42 {d : Nat} {Q : wQ} {L : List (Option Value)} {st : List Value} {w : aw} {cn sn : Nat} {a0 a1 a2 a3 a4 : Option Value} {v : Int32} : wp d 141 Q 42 (a0 :: a1 :: a2 :: a3 :: a4 :: L) (.int v :: st) w cn sn = wp d 141 Q 44 (a0 :: a1 :: a2 :: clr a3 :: some (.int v) :: L) st w cn sn := w_istore d_141_42 (Nat.le_add_left 5 _) rfl
theorem d_141_44 : decode (mB 141) 44 = .ok (.iload 4, 2) := by decide +kernel
theorem s_141_44 {d : Nat} {Q : wQ} {L : List (Option Value)} {st : List Value} {w : aw} {cn sn : Nat} {a0 a1 a2 a3 : Option Value} {v : Int32} : wp d 141 Q 44 (a0 :: a1 :: a2 :: a3 :: some (.int v) :: L) st w cn sn = wp d 141 Q 46 (a0 :: a1 :: a2 :: a3 :: some (.int v) :: L) (.int v :: st) w cn sn := w_iload d_141_44 rfl
theorem d_141_46 : decode (mB 141) 46 = .ok (.bipush 12, 2) := by decide +kernel
theorem s_141_46 {d : Nat} {Q : wQ} {L : List (Option Value)} {st : List Value} {w : aw} {cn sn : Nat}  : wp d 141 Q 46 L st w cn sn = wp d 141 Q 48 L (.int 12 :: st) w cn sn := w_bipush d_141_46 (by decide)
theorem d_141_48 : decode (mB 141) 48 = .ok (.if_icmp .ge 24, 3) := by decide +kernel
theorem s_141_48 {d : Nat} {Q : wQ} {L : List (Option Value)} {st : List Value} {w : aw} {cn sn : Nat} {a b : Int32} : wp d 141 Q 48 L (.int b :: .int a :: st) w cn sn = ((b ≤ a → wp d 141 Q 72 L st w cn sn) ∧ (¬ b ≤ a → wp d 141 Q 51 L st w cn sn)) := w_icge d_141_48 (by decide)
theorem d_141_51 : decode (mB 141) 51 = .ok (.lload_n 1, 1) := by decide +kernel
theorem s_141_51 {d : Nat} {Q : wQ} {L : List (Option Value)} {st : List Value} {w : aw} {cn sn : Nat} {a0 : Option Value} {v : Int64} : wp d 141 Q 51 (a0 :: some (.long v) :: L) st w cn sn = wp d 141 Q 52 (a0 :: some (.long v) :: L) (.long v :: st) w cn sn := w_lload_n d_141_51 rfl
theorem d_141_52 : decode (mB 141) 52 = .ok (.ldc2_w 217, 3) := by decide +kernel
theorem s_141_52 {d : Nat} {Q : wQ} {L : List (Option Value)} {st : List Value} {w : aw} {cn sn : Nat}  : wp d 141 Q 52 L st w cn sn = wp d 141 Q 55 L (.long 31 :: st) w cn sn := w_ldc2 d_141_52 (by decide +kernel : kT (mO 141) 217 = some (.long 31))
theorem d_141_55 : decode (mB 141) 55 = .ok (.lmul, 1) := by decide +kernel
theorem s_141_55 {d : Nat} {Q : wQ} {L : List (Option Value)} {st : List Value} {w : aw} {cn sn : Nat} {a b : Int64} : wp d 141 Q 55 L (.long b :: .long a :: st) w cn sn = wp d 141 Q 56 L (.long (a * b) :: st) w cn sn := wp_row d_141_55 _ _ _ _ _
theorem d_141_56 : decode (mB 141) 56 = .ok (.aload_n 0, 1) := by decide +kernel
theorem s_141_56 {d : Nat} {Q : wQ} {L : List (Option Value)} {st : List Value} {w : aw} {cn sn : Nat} {v : Nat} : wp d 141 Q 56 (some (.ref v) :: L) st w cn sn = wp d 141 Q 57 (some (.ref v) :: L) (.ref v :: st) w cn sn := w_aload_n d_141_56 rfl
theorem d_141_57 : decode (mB 141) 57 = .ok (.iload_n 3, 1) := by decide +kernel
theorem s_141_57 {d : Nat} {Q : wQ} {L : List (Option Value)} {st : List Value} {w : aw} {cn sn : Nat} {a0 a1 a2 : Option Value} {v : Int32} : wp d 141 Q 57 (a0 :: a1 :: a2 :: some (.int v) :: L) st w cn sn = wp d 141 Q 58 (a0 :: a1 :: a2 :: some (.int v) :: L) (.int v :: st) w cn sn := w_iload_n d_141_57 rfl
theorem d_141_58 : decode (mB 141) 58 = .ok (.iload 4, 2) := by decide +kernel
theorem s_141_58 {d : Nat} {Q : wQ} {L : List (Option Value)} {st : List Value} {w : aw} {cn sn : Nat} {a0 a1 a2 a3 : Option Value} {v : Int32} : wp d 141 Q 58 (a0 :: a1 :: a2 :: a3 :: some (.int v) :: L) st w cn sn = wp d 141 Q 60 (a0 :: a1 :: a2 :: a3 :: some (.int v) :: L) (.int v :: st) w cn sn := w_iload d_141_58 rfl
theorem d_141_60 : decode (mB 141) 60 = .ok (.invokevirtual 222, 3) := by decide +kernel
theorem s_141_60 {d : Nat} {Q : wQ} {L : List (Option Value)} {st : List Value} {w : aw} {cn sn : Nat} {v0 v1 : Value} {b : Nat} : wp d 141 Q 60 L (v1 :: v0 :: .ref b :: st) w cn sn = (kd w b = 9 ∧ catS st ≤ 8 ∧ wpD d 135 [.ref b, v0, v1] w (fun v w' => wp d 141 Q 63 L (v.toList ++ st) w' cn sn)) := w_virtual (As := [v0, v1]) d_141_60 (by decide +kernel : cT (mO 141) 222 = some (0, 135)) rfl (by decide +kernel) rfl (by decide +kernel) rfl
theorem d_141_63 : decode (mB 141) 63 = .ok (.i2l, 1) := by decide +kernel
theorem s_141_63 {d : Nat} {Q : wQ} {L : List (Option Value)} {st : List Value} {w : aw} {cn sn : Nat} {a : Int32} : wp d 141 Q 63 L (.int a :: st) w cn sn = wp d 141 Q 64 L (.long a.toInt64 :: st) w cn sn := wp_row d_141_63 _ _ _ _ _
theorem d_141_64 : decode (mB 141) 64 = .ok (.ladd, 1) := by decide +kernel
theorem s_141_64 {d : Nat} {Q : wQ} {L : List (Option Value)} {st : List Value} {w : aw} {cn sn : Nat} {a b : Int64} : wp d 141 Q 64 L (.long b :: .long a :: st) w cn sn = wp d 141 Q 65 L (.long (a + b) :: st) w cn sn := wp_row d_141_64 _ _ _ _ _
theorem d_141_65 : decode (mB 141) 65 = .ok (.lstore_n 1, 1) := by decide +kernel
theorem s_141_65 {d : Nat} {Q : wQ} {L : List (Option Value)} {st : List Value} {w : aw} {cn sn : Nat} {a0 a1 a2 : Option Value} {v : Int64} : wp d 141 Q 65 (a0 :: a1 :: a2 :: L) (.long v :: st) w cn sn = wp d 141 Q 66 (clr a0 :: some (.long v) :: none :: L) st w cn sn := w_lstore_n d_141_65 (Nat.le_add_left 3 _) rfl
theorem d_141_66 : decode (mB 141) 66 = .ok (.iinc 4 1, 3) := by decide +kernel
theorem s_141_66 {d : Nat} {Q : wQ} {L : List (Option Value)} {st : List Value} {w : aw} {cn sn : Nat} {a0 a1 a2 a3 : Option Value} {v : Int32} : wp d 141 Q 66 (a0 :: a1 :: a2 :: a3 :: some (.int v) :: L) st w cn sn = wp d 141 Q 69 (a0 :: a1 :: a2 :: clr a3 :: some (.int (v + 1)) :: L) st w cn sn := w_iinc d_141_66 rfl (by decide) rfl
theorem d_141_69 : decode (mB 141) 69 = .ok (.goto (-25), 3) := by decide +kernel
theorem s_141_69 {d : Nat} {Q : wQ} {L : List (Option Value)} {st : List Value} {w : aw} {cn sn : Nat}  : wp d 141 Q 69 L st w cn sn = wp d 141 Q 44 L st w cn sn := w_goto d_141_69 (by decide)
theorem d_141_72 : decode (mB 141) 72 = .ok (.iconst 0, 1) := by decide +kernel
theorem s_141_72 {d : Nat} {Q : wQ} {L : List (Option Value)} {st : List Value} {w : aw} {cn sn : Nat}  : wp d 141 Q 72 L st w cn sn = wp d 141 Q 73 L (.int 0 :: st) w cn sn := w_iconst d_141_72 (by decide)
theorem d_141_73 : decode (mB 141) 73 = .ok (.istore 4, 2) := by decide +kernel
theorem s_141_73 {d : Nat} {Q : wQ} {L : List (Option Value)} {st : List Value} {w : aw} {cn sn : Nat} {a0 a1 a2 a3 a4 : Option Value} {v : Int32} : wp d 141 Q 73 (a0 :: a1 :: a2 :: a3 :: a4 :: L) (.int v :: st) w cn sn = wp d 141 Q 75 (a0 :: a1 :: a2 :: clr a3 :: some (.int v) :: L) st w cn sn := w_istore d_141_73 (Nat.le_add_left 5 _) rfl
theorem d_141_75 : decode (mB 141) 75 = .ok (.iload 4, 2) := by decide +kernel
theorem s_141_75 {d : Nat} {Q : wQ} {L : List (Option Value)} {st : List Value} {w : aw} {cn sn : Nat} {a0 a1 a2 a3 : Option Value} {v : Int32} : wp d 141 Q 75 (a0 :: a1 :: a2 :: a3 :: some (.int v) :: L) st w cn sn = wp d 141 Q 77 (a0 :: a1 :: a2 :: a3 :: some (.int v) :: L) (.int v :: st) w cn sn := w_iload d_141_75 rfl
theorem d_141_77 : decode (mB 141) 77 = .ok (.sipush 4096, 3) := by decide +kernel
theorem s_141_77 {d : Nat} {Q : wQ} {L : List (Option Value)} {st : List Value} {w : aw} {cn sn : Nat}  : wp d 141 Q 77 L st w cn sn = wp d 141 Q 80 L (.int 4096 :: st) w cn sn := w_sipush d_141_77 (by decide)
theorem d_141_80 : decode (mB 141) 80 = .ok (.if_icmp .ge 24, 3) := by decide +kernel
theorem s_141_80 {d : Nat} {Q : wQ} {L : List (Option Value)} {st : List Value} {w : aw} {cn sn : Nat} {a b : Int32} : wp d 141 Q 80 L (.int b :: .int a :: st) w cn sn = ((b ≤ a → wp d 141 Q 104 L st w cn sn) ∧ (¬ b ≤ a → wp d 141 Q 83 L st w cn sn)) := w_icge d_141_80 (by decide)
theorem d_141_83 : decode (mB 141) 83 = .ok (.lload_n 1, 1) := by decide +kernel
theorem s_141_83 {d : Nat} {Q : wQ} {L : List (Option Value)} {st : List Value} {w : aw} {cn sn : Nat} {a0 : Option Value} {v : Int64} : wp d 141 Q 83 (a0 :: some (.long v) :: L) st w cn sn = wp d 141 Q 84 (a0 :: some (.long v) :: L) (.long v :: st) w cn sn := w_lload_n d_141_83 rfl
theorem d_141_84 : decode (mB 141) 84 = .ok (.ldc2_w 217, 3) := by decide +kernel
theorem s_141_84 {d : Nat} {Q : wQ} {L : List (Option Value)} {st : List Value} {w : aw} {cn sn : Nat}  : wp d 141 Q 84 L st w cn sn = wp d 141 Q 87 L (.long 31 :: st) w cn sn := w_ldc2 d_141_84 (by decide +kernel : kT (mO 141) 217 = some (.long 31))
theorem d_141_87 : decode (mB 141) 87 = .ok (.lmul, 1) := by decide +kernel
theorem s_141_87 {d : Nat} {Q : wQ} {L : List (Option Value)} {st : List Value} {w : aw} {cn sn : Nat} {a b : Int64} : wp d 141 Q 87 L (.long b :: .long a :: st) w cn sn = wp d 141 Q 88 L (.long (a * b) :: st) w cn sn := wp_row d_141_87 _ _ _ _ _
theorem d_141_88 : decode (mB 141) 88 = .ok (.aload_n 0, 1) := by decide +kernel
theorem s_141_88 {d : Nat} {Q : wQ} {L : List (Option Value)} {st : List Value} {w : aw} {cn sn : Nat} {v : Nat} : wp d 141 Q 88 (some (.ref v) :: L) st w cn sn = wp d 141 Q 89 (some (.ref v) :: L) (.ref v :: st) w cn sn := w_aload_n d_141_88 rfl
theorem d_141_89 : decode (mB 141) 89 = .ok (.iload_n 3, 1) := by decide +kernel
theorem s_141_89 {d : Nat} {Q : wQ} {L : List (Option Value)} {st : List Value} {w : aw} {cn sn : Nat} {a0 a1 a2 : Option Value} {v : Int32} : wp d 141 Q 89 (a0 :: a1 :: a2 :: some (.int v) :: L) st w cn sn = wp d 141 Q 90 (a0 :: a1 :: a2 :: some (.int v) :: L) (.int v :: st) w cn sn := w_iload_n d_141_89 rfl
theorem d_141_90 : decode (mB 141) 90 = .ok (.iload 4, 2) := by decide +kernel
theorem s_141_90 {d : Nat} {Q : wQ} {L : List (Option Value)} {st : List Value} {w : aw} {cn sn : Nat} {a0 a1 a2 a3 : Option Value} {v : Int32} : wp d 141 Q 90 (a0 :: a1 :: a2 :: a3 :: some (.int v) :: L) st w cn sn = wp d 141 Q 92 (a0 :: a1 :: a2 :: a3 :: some (.int v) :: L) (.int v :: st) w cn sn := w_iload d_141_90 rfl
theorem d_141_92 : decode (mB 141) 92 = .ok (.invokevirtual 115, 3) := by decide +kernel
theorem s_141_92 {d : Nat} {Q : wQ} {L : List (Option Value)} {st : List Value} {w : aw} {cn sn : Nat} {v0 v1 : Value} {b : Nat} : wp d 141 Q 92 L (v1 :: v0 :: .ref b :: st) w cn sn = (kd w b = 9 ∧ catS st ≤ 8 ∧ wpD d 105 [.ref b, v0, v1] w (fun v w' => wp d 141 Q 95 L (v.toList ++ st) w' cn sn)) := w_virtual (As := [v0, v1]) d_141_92 (by decide +kernel : cT (mO 141) 115 = some (0, 105)) rfl (by decide +kernel) rfl (by decide +kernel) rfl
theorem d_141_95 : decode (mB 141) 95 = .ok (.i2l, 1) := by decide +kernel
theorem s_141_95 {d : Nat} {Q : wQ} {L : List (Option Value)} {st : List Value} {w : aw} {cn sn : Nat} {a : Int32} : wp d 141 Q 95 L (.int a :: st) w cn sn = wp d 141 Q 96 L (.long a.toInt64 :: st) w cn sn := wp_row d_141_95 _ _ _ _ _
theorem d_141_96 : decode (mB 141) 96 = .ok (.ladd, 1) := by decide +kernel
theorem s_141_96 {d : Nat} {Q : wQ} {L : List (Option Value)} {st : List Value} {w : aw} {cn sn : Nat} {a b : Int64} : wp d 141 Q 96 L (.long b :: .long a :: st) w cn sn = wp d 141 Q 97 L (.long (a + b) :: st) w cn sn := wp_row d_141_96 _ _ _ _ _
theorem d_141_97 : decode (mB 141) 97 = .ok (.lstore_n 1, 1) := by decide +kernel
theorem s_141_97 {d : Nat} {Q : wQ} {L : List (Option Value)} {st : List Value} {w : aw} {cn sn : Nat} {a0 a1 a2 : Option Value} {v : Int64} : wp d 141 Q 97 (a0 :: a1 :: a2 :: L) (.long v :: st) w cn sn = wp d 141 Q 98 (clr a0 :: some (.long v) :: none :: L) st w cn sn := w_lstore_n d_141_97 (Nat.le_add_left 3 _) rfl
theorem d_141_98 : decode (mB 141) 98 = .ok (.iinc 4 1, 3) := by decide +kernel
theorem s_141_98 {d : Nat} {Q : wQ} {L : List (Option Value)} {st : List Value} {w : aw} {cn sn : Nat} {a0 a1 a2 a3 : Option Value} {v : Int32} : wp d 141 Q 98 (a0 :: a1 :: a2 :: a3 :: some (.int v) :: L) st w cn sn = wp d 141 Q 101 (a0 :: a1 :: a2 :: clr a3 :: some (.int (v + 1)) :: L) st w cn sn := w_iinc d_141_98 rfl (by decide) rfl
theorem d_141_101 : decode (mB 141) 101 = .ok (.goto (-26), 3) := by decide +kernel
theorem s_141_101 {d : Nat} {Q : wQ} {L : List (Option Value)} {st : List Value} {w : aw} {cn sn : Nat}  : wp d 141 Q 101 L st w cn sn = wp d 141 Q 75 L st w cn sn := w_goto d_141_101 (by decide)
theorem d_141_104 : decode (mB 141) 104 = .ok (.iconst 0, 1) := by decide +kernel
theorem s_141_104 {d : Nat} {Q : wQ} {L : List (Option Value)} {st : List Value} {w : aw} {cn sn : Nat}  : wp d 141 Q 104 L st w cn sn = wp d 141 Q 105 L (.int 0 :: st) w cn sn := w_iconst d_141_104 (by decide)
theorem d_141_105 : decode (mB 141) 105 = .ok (.istore 4, 2) := by decide +kernel
theorem s_141_105 {d : Nat} {Q : wQ} {L : List (Option Value)} {st : List Value} {w : aw} {cn sn : Nat} {a0 a1 a2 a3 a4 : Option Value} {v : Int32} : wp d 141 Q 105 (a0 :: a1 :: a2 :: a3 :: a4 :: L) (.int v :: st) w cn sn = wp d 141 Q 107 (a0 :: a1 :: a2 :: clr a3 :: some (.int v) :: L) st w cn sn := w_istore d_141_105 (Nat.le_add_left 5 _) rfl
theorem d_141_107 : decode (mB 141) 107 = .ok (.iload 4, 2) := by decide +kernel
theorem s_141_107 {d : Nat} {Q : wQ} {L : List (Option Value)} {st : List Value} {w : aw} {cn sn : Nat} {a0 a1 a2 a3 : Option Value} {v : Int32} : wp d 141 Q 107 (a0 :: a1 :: a2 :: a3 :: some (.int v) :: L) st w cn sn = wp d 141 Q 109 (a0 :: a1 :: a2 :: a3 :: some (.int v) :: L) (.int v :: st) w cn sn := w_iload d_141_107 rfl
theorem d_141_109 : decode (mB 141) 109 = .ok (.sipush 4096, 3) := by decide +kernel
theorem s_141_109 {d : Nat} {Q : wQ} {L : List (Option Value)} {st : List Value} {w : aw} {cn sn : Nat}  : wp d 141 Q 109 L st w cn sn = wp d 141 Q 112 L (.int 4096 :: st) w cn sn := w_sipush d_141_109 (by decide)
theorem d_141_112 : decode (mB 141) 112 = .ok (.if_icmp .ge 30, 3) := by decide +kernel
theorem s_141_112 {d : Nat} {Q : wQ} {L : List (Option Value)} {st : List Value} {w : aw} {cn sn : Nat} {a b : Int32} : wp d 141 Q 112 L (.int b :: .int a :: st) w cn sn = ((b ≤ a → wp d 141 Q 142 L st w cn sn) ∧ (¬ b ≤ a → wp d 141 Q 115 L st w cn sn)) := w_icge d_141_112 (by decide)
theorem d_141_115 : decode (mB 141) 115 = .ok (.lload_n 1, 1) := by decide +kernel
theorem s_141_115 {d : Nat} {Q : wQ} {L : List (Option Value)} {st : List Value} {w : aw} {cn sn : Nat} {a0 : Option Value} {v : Int64} : wp d 141 Q 115 (a0 :: some (.long v) :: L) st w cn sn = wp d 141 Q 116 (a0 :: some (.long v) :: L) (.long v :: st) w cn sn := w_lload_n d_141_115 rfl
theorem d_141_116 : decode (mB 141) 116 = .ok (.ldc2_w 217, 3) := by decide +kernel
theorem s_141_116 {d : Nat} {Q : wQ} {L : List (Option Value)} {st : List Value} {w : aw} {cn sn : Nat}  : wp d 141 Q 116 L st w cn sn = wp d 141 Q 119 L (.long 31 :: st) w cn sn := w_ldc2 d_141_116 (by decide +kernel : kT (mO 141) 217 = some (.long 31))
theorem d_141_119 : decode (mB 141) 119 = .ok (.lmul, 1) := by decide +kernel
theorem s_141_119 {d : Nat} {Q : wQ} {L : List (Option Value)} {st : List Value} {w : aw} {cn sn : Nat} {a b : Int64} : wp d 141 Q 119 L (.long b :: .long a :: st) w cn sn = wp d 141 Q 120 L (.long (a * b) :: st) w cn sn := wp_row d_141_119 _ _ _ _ _
theorem d_141_120 : decode (mB 141) 120 = .ok (.aload_n 0, 1) := by decide +kernel
theorem s_141_120 {d : Nat} {Q : wQ} {L : List (Option Value)} {st : List Value} {w : aw} {cn sn : Nat} {v : Nat} : wp d 141 Q 120 (some (.ref v) :: L) st w cn sn = wp d 141 Q 121 (some (.ref v) :: L) (.ref v :: st) w cn sn := w_aload_n d_141_120 rfl
theorem d_141_121 : decode (mB 141) 121 = .ok (.getfield 27, 3) := by decide +kernel
theorem s_141_121 {d : Nat} {Q : wQ} {L : List (Option Value)} {st : List Value} {w : aw} {cn sn : Nat} {a : Nat} : wp d 141 Q 121 L (.ref a :: st) w cn sn = (kd w a = 9 ∧ wp d 141 Q 124 L (fd w 527 a :: st) w cn sn) := w_getfield d_141_121 (by decide +kernel : fT (mO 141) 27 = some (8, 15))
theorem d_141_124 : decode (mB 141) 124 = .ok (.sipush 4096, 3) := by decide +kernel
theorem s_141_124 {d : Nat} {Q : wQ} {L : List (Option Value)} {st : List Value} {w : aw} {cn sn : Nat}  : wp d 141 Q 124 L st w cn sn = wp d 141 Q 127 L (.int 4096 :: st) w cn sn := w_sipush d_141_124 (by decide)
theorem d_141_127 : decode (mB 141) 127 = .ok (.iload_n 3, 1) := by decide +kernel
theorem s_141_127 {d : Nat} {Q : wQ} {L : List (Option Value)} {st : List Value} {w : aw} {cn sn : Nat} {a0 a1 a2 : Option Value} {v : Int32} : wp d 141 Q 127 (a0 :: a1 :: a2 :: some (.int v) :: L) st w cn sn = wp d 141 Q 128 (a0 :: a1 :: a2 :: some (.int v) :: L) (.int v :: st) w cn sn := w_iload_n d_141_127 rfl
theorem d_141_128 : decode (mB 141) 128 = .ok (.imul, 1) := by decide +kernel
theorem s_141_128 {d : Nat} {Q : wQ} {L : List (Option Value)} {st : List Value} {w : aw} {cn sn : Nat} {a b : Int32} : wp d 141 Q 128 L (.int b :: .int a :: st) w cn sn = wp d 141 Q 129 L (.int (a * b) :: st) w cn sn := wp_row d_141_128 _ _ _ _ _
theorem d_141_129 : decode (mB 141) 129 = .ok (.iload 4, 2) := by decide +kernel
theorem s_141_129 {d : Nat} {Q : wQ} {L : List (Option Value)} {st : List Value} {w : aw} {cn sn : Nat} {a0 a1 a2 a3 : Option Value} {v : Int32} : wp d 141 Q 129 (a0 :: a1 :: a2 :: a3 :: some (.int v) :: L) st w cn sn = wp d 141 Q 131 (a0 :: a1 :: a2 :: a3 :: some (.int v) :: L) (.int v :: st) w cn sn := w_iload d_141_129 rfl
theorem d_141_131 : decode (mB 141) 131 = .ok (.iadd, 1) := by decide +kernel
theorem s_141_131 {d : Nat} {Q : wQ} {L : List (Option Value)} {st : List Value} {w : aw} {cn sn : Nat} {a b : Int32} : wp d 141 Q 131 L (.int b :: .int a :: st) w cn sn = wp d 141 Q 132 L (.int (a + b) :: st) w cn sn := wp_row d_141_131 _ _ _ _ _
theorem d_141_132 : decode (mB 141) 132 = .ok (.iaload, 1) := by decide +kernel
theorem s_141_132 {d : Nat} {Q : wQ} {L : List (Option Value)} {st : List Value} {w : aw} {cn sn : Nat} {a : Nat} {i : Int32} : wp d 141 Q 132 L (.int i :: .ref a :: st) w cn sn = ((kd w a = 20 ∨ kd w a = 30) ∧ inR i (ln w a) ∧ wp d 141 Q 133 L (.int (ai w a i.toNatClampNeg) :: st) w cn sn) := wp_row d_141_132 _ _ _ _ _
theorem d_141_133 : decode (mB 141) 133 = .ok (.i2l, 1) := by decide +kernel
theorem s_141_133 {d : Nat} {Q : wQ} {L : List (Option Value)} {st : List Value} {w : aw} {cn sn : Nat} {a : Int32} : wp d 141 Q 133 L (.int a :: st) w cn sn = wp d 141 Q 134 L (.long a.toInt64 :: st) w cn sn := wp_row d_141_133 _ _ _ _ _
theorem d_141_134 : decode (mB 141) 134 = .ok (.ladd, 1) := by decide +kernel
theorem s_141_134 {d : Nat} {Q : wQ} {L : List (Option Value)} {st : List Value} {w : aw} {cn sn : Nat} {a b : Int64} : wp d 141 Q 134 L (.long b :: .long a :: st) w cn sn = wp d 141 Q 135 L (.long (a + b) :: st) w cn sn := wp_row d_141_134 _ _ _ _ _
theorem d_141_135 : decode (mB 141) 135 = .ok (.lstore_n 1, 1) := by decide +kernel
theorem s_141_135 {d : Nat} {Q : wQ} {L : List (Option Value)} {st : List Value} {w : aw} {cn sn : Nat} {a0 a1 a2 : Option Value} {v : Int64} : wp d 141 Q 135 (a0 :: a1 :: a2 :: L) (.long v :: st) w cn sn = wp d 141 Q 136 (clr a0 :: some (.long v) :: none :: L) st w cn sn := w_lstore_n d_141_135 (Nat.le_add_left 3 _) rfl
theorem d_141_136 : decode (mB 141) 136 = .ok (.iinc 4 1, 3) := by decide +kernel
theorem s_141_136 {d : Nat} {Q : wQ} {L : List (Option Value)} {st : List Value} {w : aw} {cn sn : Nat} {a0 a1 a2 a3 : Option Value} {v : Int32} : wp d 141 Q 136 (a0 :: a1 :: a2 :: a3 :: some (.int v) :: L) st w cn sn = wp d 141 Q 139 (a0 :: a1 :: a2 :: clr a3 :: some (.int (v + 1)) :: L) st w cn sn := w_iinc d_141_136 rfl (by decide) rfl
theorem d_141_139 : decode (mB 141) 139 = .ok (.goto (-32), 3) := by decide +kernel
theorem s_141_139 {d : Nat} {Q : wQ} {L : List (Option Value)} {st : List Value} {w : aw} {cn sn : Nat}  : wp d 141 Q 139 L st w cn sn = wp d 141 Q 107 L st w cn sn := w_goto d_141_139 (by decide)
theorem d_141_142 : decode (mB 141) 142 = .ok (.iinc 3 1, 3) := by decide +kernel
theorem s_141_142 {d : Nat} {Q : wQ} {L : List (Option Value)} {st : List Value} {w : aw} {cn sn : Nat} {a0 a1 a2 : Option Value} {v : Int32} : wp d 141 Q 142 (a0 :: a1 :: a2 :: some (.int v) :: L) st w cn sn = wp d 141 Q 145 (a0 :: a1 :: clr a2 :: some (.int (v + 1)) :: L) st w cn sn := w_iinc d_141_142 rfl (by decide) rfl
theorem d_141_145 : decode (mB 141) 145 = .ok (.goto (-112), 3) := by decide +kernel
theorem s_141_145 {d : Nat} {Q : wQ} {L : List (Option Value)} {st : List Value} {w : aw} {cn sn : Nat}  : wp d 141 Q 145 L st w cn sn = wp d 141 Q 33 L st w cn sn := w_goto d_141_145 (by decide)
theorem d_141_148 : decode (mB 141) 148 = .ok (.lload_n 1, 1) := by decide +kernel
theorem s_141_148 {d : Nat} {Q : wQ} {L : List (Option Value)} {st : List Value} {w : aw} {cn sn : Nat} {a0 : Option Value} {v : Int64} : wp d 141 Q 148 (a0 :: some (.long v) :: L) st w cn sn = wp d 141 Q 149 (a0 :: some (.long v) :: L) (.long v :: st) w cn sn := w_lload_n d_141_148 rfl
theorem d_141_149 : decode (mB 141) 149 = .ok (.lreturn, 1) := by decide +kernel
theorem s_141_149 {d : Nat} {Q : wQ} {L : List (Option Value)} {w : aw} {cn sn : Nat} {v : Int64} : wp d 141 Q 149 L [.long v] w cn sn = Q (some (.long v)) w := w_lreturn d_141_149 rfl
theorem d_142_0 : decode (mB 142) 0 = .ok (.iload_n 0, 1) := by decide +kernel
theorem s_142_0 {d : Nat} {Q : wQ} {L : List (Option Value)} {st : List Value} {w : aw} {cn sn : Nat} {v : Int32} : wp d 142 Q 0 (some (.int v) :: L) st w cn sn = wp d 142 Q 1 (some (.int v) :: L) (.int v :: st) w cn sn := w_iload_n d_142_0 rfl
theorem d_142_1 : decode (mB 142) 1 = .ok (.bipush 65, 2) := by decide +kernel
theorem s_142_1 {d : Nat} {Q : wQ} {L : List (Option Value)} {st : List Value} {w : aw} {cn sn : Nat}  : wp d 142 Q 1 L st w cn sn = wp d 142 Q 3 L (.int 65 :: st) w cn sn := w_bipush d_142_1 (by decide)
theorem d_142_3 : decode (mB 142) 3 = .ok (.if_icmp .lt 13, 3) := by decide +kernel
theorem s_142_3 {d : Nat} {Q : wQ} {L : List (Option Value)} {st : List Value} {w : aw} {cn sn : Nat} {a b : Int32} : wp d 142 Q 3 L (.int b :: .int a :: st) w cn sn = ((a < b → wp d 142 Q 16 L st w cn sn) ∧ (¬ a < b → wp d 142 Q 6 L st w cn sn)) := w_iclt d_142_3 (by decide)
theorem d_142_6 : decode (mB 142) 6 = .ok (.iload_n 0, 1) := by decide +kernel
theorem s_142_6 {d : Nat} {Q : wQ} {L : List (Option Value)} {st : List Value} {w : aw} {cn sn : Nat} {v : Int32} : wp d 142 Q 6 (some (.int v) :: L) st w cn sn = wp d 142 Q 7 (some (.int v) :: L) (.int v :: st) w cn sn := w_iload_n d_142_6 rfl
theorem d_142_7 : decode (mB 142) 7 = .ok (.bipush 90, 2) := by decide +kernel
theorem s_142_7 {d : Nat} {Q : wQ} {L : List (Option Value)} {st : List Value} {w : aw} {cn sn : Nat}  : wp d 142 Q 7 L st w cn sn = wp d 142 Q 9 L (.int 90 :: st) w cn sn := w_bipush d_142_7 (by decide)
theorem d_142_9 : decode (mB 142) 9 = .ok (.if_icmp .gt 7, 3) := by decide +kernel
theorem s_142_9 {d : Nat} {Q : wQ} {L : List (Option Value)} {st : List Value} {w : aw} {cn sn : Nat} {a b : Int32} : wp d 142 Q 9 L (.int b :: .int a :: st) w cn sn = ((b < a → wp d 142 Q 16 L st w cn sn) ∧ (¬ b < a → wp d 142 Q 12 L st w cn sn)) := w_icgt d_142_9 (by decide)
theorem d_142_12 : decode (mB 142) 12 = .ok (.iconst 1, 1) := by decide +kernel
theorem s_142_12 {d : Nat} {Q : wQ} {L : List (Option Value)} {st : List Value} {w : aw} {cn sn : Nat}  : wp d 142 Q 12 L st w cn sn = wp d 142 Q 13 L (.int 1 :: st) w cn sn := w_iconst d_142_12 (by decide)
theorem d_142_13 : decode (mB 142) 13 = .ok (.goto 4, 3) := by decide +kernel
theorem s_142_13 {d : Nat} {Q : wQ} {L : List (Option Value)} {st : List Value} {w : aw} {cn sn : Nat}  : wp d 142 Q 13 L st w cn sn = wp d 142 Q 17 L st w cn sn := w_goto d_142_13 (by decide)
theorem d_142_16 : decode (mB 142) 16 = .ok (.iconst 0, 1) := by decide +kernel
theorem s_142_16 {d : Nat} {Q : wQ} {L : List (Option Value)} {st : List Value} {w : aw} {cn sn : Nat}  : wp d 142 Q 16 L st w cn sn = wp d 142 Q 17 L (.int 0 :: st) w cn sn := w_iconst d_142_16 (by decide)
theorem d_142_17 : decode (mB 142) 17 = .ok (.ireturn, 1) := by decide +kernel
theorem s_142_17 {d : Nat} {Q : wQ} {L : List (Option Value)} {w : aw} {cn sn : Nat} {v : Int32} : wp d 142 Q 17 L [.int v] w cn sn = (narrow .boolean (.int v) = .int v ∧ Q (some (.int v)) w) := w_zreturn d_142_17 rfl
theorem d_143_0 : decode (mB 143) 0 = .ok (.iload_n 0, 1) := by decide +kernel
theorem s_143_0 {d : Nat} {Q : wQ} {L : List (Option Value)} {st : List Value} {w : aw} {cn sn : Nat} {v : Int32} : wp d 143 Q 0 (some (.int v) :: L) st w cn sn = wp d 143 Q 1 (some (.int v) :: L) (.int v :: st) w cn sn := w_iload_n d_143_0 rfl
theorem d_143_1 : decode (mB 143) 1 = .ok (.bipush 48, 2) := by decide +kernel
theorem s_143_1 {d : Nat} {Q : wQ} {L : List (Option Value)} {st : List Value} {w : aw} {cn sn : Nat}  : wp d 143 Q 1 L st w cn sn = wp d 143 Q 3 L (.int 48 :: st) w cn sn := w_bipush d_143_1 (by decide)
theorem d_143_3 : decode (mB 143) 3 = .ok (.if_icmp .lt 13, 3) := by decide +kernel
theorem s_143_3 {d : Nat} {Q : wQ} {L : List (Option Value)} {st : List Value} {w : aw} {cn sn : Nat} {a b : Int32} : wp d 143 Q 3 L (.int b :: .int a :: st) w cn sn = ((a < b → wp d 143 Q 16 L st w cn sn) ∧ (¬ a < b → wp d 143 Q 6 L st w cn sn)) := w_iclt d_143_3 (by decide)
theorem d_143_6 : decode (mB 143) 6 = .ok (.iload_n 0, 1) := by decide +kernel
theorem s_143_6 {d : Nat} {Q : wQ} {L : List (Option Value)} {st : List Value} {w : aw} {cn sn : Nat} {v : Int32} : wp d 143 Q 6 (some (.int v) :: L) st w cn sn = wp d 143 Q 7 (some (.int v) :: L) (.int v :: st) w cn sn := w_iload_n d_143_6 rfl
theorem d_143_7 : decode (mB 143) 7 = .ok (.bipush 57, 2) := by decide +kernel
theorem s_143_7 {d : Nat} {Q : wQ} {L : List (Option Value)} {st : List Value} {w : aw} {cn sn : Nat}  : wp d 143 Q 7 L st w cn sn = wp d 143 Q 9 L (.int 57 :: st) w cn sn := w_bipush d_143_7 (by decide)
theorem d_143_9 : decode (mB 143) 9 = .ok (.if_icmp .gt 7, 3) := by decide +kernel
theorem s_143_9 {d : Nat} {Q : wQ} {L : List (Option Value)} {st : List Value} {w : aw} {cn sn : Nat} {a b : Int32} : wp d 143 Q 9 L (.int b :: .int a :: st) w cn sn = ((b < a → wp d 143 Q 16 L st w cn sn) ∧ (¬ b < a → wp d 143 Q 12 L st w cn sn)) := w_icgt d_143_9 (by decide)
theorem d_143_12 : decode (mB 143) 12 = .ok (.iconst 1, 1) := by decide +kernel
theorem s_143_12 {d : Nat} {Q : wQ} {L : List (Option Value)} {st : List Value} {w : aw} {cn sn : Nat}  : wp d 143 Q 12 L st w cn sn = wp d 143 Q 13 L (.int 1 :: st) w cn sn := w_iconst d_143_12 (by decide)
theorem d_143_13 : decode (mB 143) 13 = .ok (.goto 4, 3) := by decide +kernel
theorem s_143_13 {d : Nat} {Q : wQ} {L : List (Option Value)} {st : List Value} {w : aw} {cn sn : Nat}  : wp d 143 Q 13 L st w cn sn = wp d 143 Q 17 L st w cn sn := w_goto d_143_13 (by decide)
theorem d_143_16 : decode (mB 143) 16 = .ok (.iconst 0, 1) := by decide +kernel
theorem s_143_16 {d : Nat} {Q : wQ} {L : List (Option Value)} {st : List Value} {w : aw} {cn sn : Nat}  : wp d 143 Q 16 L st w cn sn = wp d 143 Q 17 L (.int 0 :: st) w cn sn := w_iconst d_143_16 (by decide)
theorem d_143_17 : decode (mB 143) 17 = .ok (.ireturn, 1) := by decide +kernel
theorem s_143_17 {d : Nat} {Q : wQ} {L : List (Option Value)} {w : aw} {cn sn : Nat} {v : Int32} : wp d 143 Q 17 L [.int v] w cn sn = (narrow .boolean (.int v) = .int v ∧ Q (some (.int v)) w) := w_zreturn d_143_17 rfl
theorem d_144_0 : decode (mB 144) 0 = .ok (.iload_n 0, 1) := by decide +kernel
theorem s_144_0 {d : Nat} {Q : wQ} {L : List (Option Value)} {st : List Value} {w : aw} {cn sn : Nat} {v : Int32} : wp d 144 Q 0 (some (.int v) :: L) st w cn sn = wp d 144 Q 1 (some (.int v) :: L) (.int v :: st) w cn sn := w_iload_n d_144_0 rfl
theorem d_144_1 : decode (mB 144) 1 = .ok (.invokestatic 225, 3) := by decide +kernel
theorem s_144_1 {d : Nat} {Q : wQ} {L : List (Option Value)} {st : List Value} {w : aw} {cn sn : Nat} {v0 : Value} : wp d 144 Q 1 L (v0 :: st) w cn sn = (catS st ≤ 8 ∧ wpD d 142 [v0] w (fun v w' => wp d 144 Q 4 L (v.toList ++ st) w' cn sn)) := w_static (As := [v0]) d_144_1 (by decide +kernel : cT (mO 144) 225 = some (2, 142)) rfl (by decide +kernel) rfl
theorem d_144_4 : decode (mB 144) 4 = .ok (.ifCond .eq 12, 3) := by decide +kernel
theorem s_144_4 {d : Nat} {Q : wQ} {L : List (Option Value)} {st : List Value} {w : aw} {cn sn : Nat} {x : Int32} : wp d 144 Q 4 L (.int x :: st) w cn sn = ((x = 0 → wp d 144 Q 16 L st w cn sn) ∧ (¬ x = 0 → wp d 144 Q 7 L st w cn sn)) := w_ifeq d_144_4 (by decide)
theorem d_144_7 : decode (mB 144) 7 = .ok (.iload_n 0, 1) := by decide +kernel
theorem s_144_7 {d : Nat} {Q : wQ} {L : List (Option Value)} {st : List Value} {w : aw} {cn sn : Nat} {v : Int32} : wp d 144 Q 7 (some (.int v) :: L) st w cn sn = wp d 144 Q 8 (some (.int v) :: L) (.int v :: st) w cn sn := w_iload_n d_144_7 rfl
theorem d_144_8 : decode (mB 144) 8 = .ok (.bipush 65, 2) := by decide +kernel
theorem s_144_8 {d : Nat} {Q : wQ} {L : List (Option Value)} {st : List Value} {w : aw} {cn sn : Nat}  : wp d 144 Q 8 L st w cn sn = wp d 144 Q 10 L (.int 65 :: st) w cn sn := w_bipush d_144_8 (by decide)
theorem d_144_10 : decode (mB 144) 10 = .ok (.isub, 1) := by decide +kernel
theorem s_144_10 {d : Nat} {Q : wQ} {L : List (Option Value)} {st : List Value} {w : aw} {cn sn : Nat} {a b : Int32} : wp d 144 Q 10 L (.int b :: .int a :: st) w cn sn = wp d 144 Q 11 L (.int (a - b) :: st) w cn sn := wp_row d_144_10 _ _ _ _ _
theorem d_144_11 : decode (mB 144) 11 = .ok (.iconst 1, 1) := by decide +kernel
theorem s_144_11 {d : Nat} {Q : wQ} {L : List (Option Value)} {st : List Value} {w : aw} {cn sn : Nat}  : wp d 144 Q 11 L st w cn sn = wp d 144 Q 12 L (.int 1 :: st) w cn sn := w_iconst d_144_11 (by decide)
theorem d_144_12 : decode (mB 144) 12 = .ok (.iadd, 1) := by decide +kernel
theorem s_144_12 {d : Nat} {Q : wQ} {L : List (Option Value)} {st : List Value} {w : aw} {cn sn : Nat} {a b : Int32} : wp d 144 Q 12 L (.int b :: .int a :: st) w cn sn = wp d 144 Q 13 L (.int (a + b) :: st) w cn sn := wp_row d_144_12 _ _ _ _ _
theorem d_144_13 : decode (mB 144) 13 = .ok (.goto 10, 3) := by decide +kernel
theorem s_144_13 {d : Nat} {Q : wQ} {L : List (Option Value)} {st : List Value} {w : aw} {cn sn : Nat}  : wp d 144 Q 13 L st w cn sn = wp d 144 Q 23 L st w cn sn := w_goto d_144_13 (by decide)
theorem d_144_16 : decode (mB 144) 16 = .ok (.iload_n 0, 1) := by decide +kernel
theorem s_144_16 {d : Nat} {Q : wQ} {L : List (Option Value)} {st : List Value} {w : aw} {cn sn : Nat} {v : Int32} : wp d 144 Q 16 (some (.int v) :: L) st w cn sn = wp d 144 Q 17 (some (.int v) :: L) (.int v :: st) w cn sn := w_iload_n d_144_16 rfl
theorem d_144_17 : decode (mB 144) 17 = .ok (.bipush 48, 2) := by decide +kernel
theorem s_144_17 {d : Nat} {Q : wQ} {L : List (Option Value)} {st : List Value} {w : aw} {cn sn : Nat}  : wp d 144 Q 17 L st w cn sn = wp d 144 Q 19 L (.int 48 :: st) w cn sn := w_bipush d_144_17 (by decide)
theorem d_144_19 : decode (mB 144) 19 = .ok (.isub, 1) := by decide +kernel
theorem s_144_19 {d : Nat} {Q : wQ} {L : List (Option Value)} {st : List Value} {w : aw} {cn sn : Nat} {a b : Int32} : wp d 144 Q 19 L (.int b :: .int a :: st) w cn sn = wp d 144 Q 20 L (.int (a - b) :: st) w cn sn := wp_row d_144_19 _ _ _ _ _
theorem d_144_20 : decode (mB 144) 20 = .ok (.bipush 27, 2) := by decide +kernel
theorem s_144_20 {d : Nat} {Q : wQ} {L : List (Option Value)} {st : List Value} {w : aw} {cn sn : Nat}  : wp d 144 Q 20 L st w cn sn = wp d 144 Q 22 L (.int 27 :: st) w cn sn := w_bipush d_144_20 (by decide)
theorem d_144_22 : decode (mB 144) 22 = .ok (.iadd, 1) := by decide +kernel
theorem s_144_22 {d : Nat} {Q : wQ} {L : List (Option Value)} {st : List Value} {w : aw} {cn sn : Nat} {a b : Int32} : wp d 144 Q 22 L (.int b :: .int a :: st) w cn sn = wp d 144 Q 23 L (.int (a + b) :: st) w cn sn := wp_row d_144_22 _ _ _ _ _
theorem d_144_23 : decode (mB 144) 23 = .ok (.ireturn, 1) := by decide +kernel
theorem s_144_23 {d : Nat} {Q : wQ} {L : List (Option Value)} {w : aw} {cn sn : Nat} {v : Int32} : wp d 144 Q 23 L [.int v] w cn sn = Q (some (.int v)) w := w_ireturn d_144_23 rfl
theorem d_145_0 : decode (mB 145) 0 = .ok (.iload_n 1, 1) := by decide +kernel
theorem s_145_0 {d : Nat} {Q : wQ} {L : List (Option Value)} {st : List Value} {w : aw} {cn sn : Nat} {a0 : Option Value} {v : Int32} : wp d 145 Q 0 (a0 :: some (.int v) :: L) st w cn sn = wp d 145 Q 1 (a0 :: some (.int v) :: L) (.int v :: st) w cn sn := w_iload_n d_145_0 rfl
theorem d_145_1 : decode (mB 145) 1 = .ok (.aload_n 0, 1) := by decide +kernel
theorem s_145_1 {d : Nat} {Q : wQ} {L : List (Option Value)} {st : List Value} {w : aw} {cn sn : Nat} {v : Nat} : wp d 145 Q 1 (some (.ref v) :: L) st w cn sn = wp d 145 Q 2 (some (.ref v) :: L) (.ref v :: st) w cn sn := w_aload_n d_145_1 rfl
theorem d_145_2 : decode (mB 145) 2 = .ok (.getfield 228, 3) := by decide +kernel
theorem s_145_2 {d : Nat} {Q : wQ} {L : List (Option Value)} {st : List Value} {w : aw} {cn sn : Nat} {a : Nat} : wp d 145 Q 2 L (.ref a :: st) w cn sn = (kd w a = 9 ∧ wp d 145 Q 5 L (fd w 556 a :: st) w cn sn) := w_getfield d_145_2 (by decide +kernel : fT (mO 145) 228 = some (8, 44))
theorem d_145_5 : decode (mB 145) 5 = .ok (.if_icmp .ge 12, 3) := by decide +kernel
theorem s_145_5 {d : Nat} {Q : wQ} {L : List (Option Value)} {st : List Value} {w : aw} {cn sn : Nat} {a b : Int32} : wp d 145 Q 5 L (.int b :: .int a :: st) w cn sn = ((b ≤ a → wp d 145 Q 17 L st w cn sn) ∧ (¬ b ≤ a → wp d 145 Q 8 L st w cn sn)) := w_icge d_145_5 (by decide)
theorem d_145_8 : decode (mB 145) 8 = .ok (.aload_n 0, 1) := by decide +kernel
theorem s_145_8 {d : Nat} {Q : wQ} {L : List (Option Value)} {st : List Value} {w : aw} {cn sn : Nat} {v : Nat} : wp d 145 Q 8 (some (.ref v) :: L) st w cn sn = wp d 145 Q 9 (some (.ref v) :: L) (.ref v :: st) w cn sn := w_aload_n d_145_8 rfl
theorem d_145_9 : decode (mB 145) 9 = .ok (.getfield 72, 3) := by decide +kernel
theorem s_145_9 {d : Nat} {Q : wQ} {L : List (Option Value)} {st : List Value} {w : aw} {cn sn : Nat} {a : Nat} : wp d 145 Q 9 L (.ref a :: st) w cn sn = (kd w a = 9 ∧ wp d 145 Q 12 L (fd w 542 a :: st) w cn sn) := w_getfield d_145_9 (by decide +kernel : fT (mO 145) 72 = some (8, 30))
theorem d_145_12 : decode (mB 145) 12 = .ok (.iload_n 1, 1) := by decide +kernel
theorem s_145_12 {d : Nat} {Q : wQ} {L : List (Option Value)} {st : List Value} {w : aw} {cn sn : Nat} {a0 : Option Value} {v : Int32} : wp d 145 Q 12 (a0 :: some (.int v) :: L) st w cn sn = wp d 145 Q 13 (a0 :: some (.int v) :: L) (.int v :: st) w cn sn := w_iload_n d_145_12 rfl
theorem d_145_13 : decode (mB 145) 13 = .ok (.iaload, 1) := by decide +kernel
theorem s_145_13 {d : Nat} {Q : wQ} {L : List (Option Value)} {st : List Value} {w : aw} {cn sn : Nat} {a : Nat} {i : Int32} : wp d 145 Q 13 L (.int i :: .ref a :: st) w cn sn = ((kd w a = 20 ∨ kd w a = 30) ∧ inR i (ln w a) ∧ wp d 145 Q 14 L (.int (ai w a i.toNatClampNeg) :: st) w cn sn) := wp_row d_145_13 _ _ _ _ _
theorem d_145_14 : decode (mB 145) 14 = .ok (.goto 4, 3) := by decide +kernel
theorem s_145_14 {d : Nat} {Q : wQ} {L : List (Option Value)} {st : List Value} {w : aw} {cn sn : Nat}  : wp d 145 Q 14 L st w cn sn = wp d 145 Q 18 L st w cn sn := w_goto d_145_14 (by decide)
theorem d_145_17 : decode (mB 145) 17 = .ok (.iconst 0, 1) := by decide +kernel
theorem s_145_17 {d : Nat} {Q : wQ} {L : List (Option Value)} {st : List Value} {w : aw} {cn sn : Nat}  : wp d 145 Q 17 L st w cn sn = wp d 145 Q 18 L (.int 0 :: st) w cn sn := w_iconst d_145_17 (by decide)
theorem d_145_18 : decode (mB 145) 18 = .ok (.ireturn, 1) := by decide +kernel
theorem s_145_18 {d : Nat} {Q : wQ} {L : List (Option Value)} {w : aw} {cn sn : Nat} {v : Int32} : wp d 145 Q 18 L [.int v] w cn sn = Q (some (.int v)) w := w_ireturn d_145_18 rfl
theorem d_146_0 : decode (mB 146) 0 = .ok (.aload_n 0, 1) := by decide +kernel
theorem s_146_0 {d : Nat} {Q : wQ} {L : List (Option Value)} {st : List Value} {w : aw} {cn sn : Nat} {v : Nat} : wp d 146 Q 0 (some (.ref v) :: L) st w cn sn = wp d 146 Q 1 (some (.ref v) :: L) (.ref v :: st) w cn sn := w_aload_n d_146_0 rfl
theorem d_146_1 : decode (mB 146) 1 = .ok (.getfield 231, 3) := by decide +kernel
theorem s_146_1 {d : Nat} {Q : wQ} {L : List (Option Value)} {st : List Value} {w : aw} {cn sn : Nat} {a : Nat} : wp d 146 Q 1 L (.ref a :: st) w cn sn = (kd w a = 9 ∧ wp d 146 Q 4 L (fd w 555 a :: st) w cn sn) := w_getfield d_146_1 (by decide +kernel : fT (mO 146) 231 = some (8, 43))
theorem d_146_4 : decode (mB 146) 4 = .ok (.aload_n 0, 1) := by decide +kernel
theorem s_146_4 {d : Nat} {Q : wQ} {L : List (Option Value)} {st : List Value} {w : aw} {cn sn : Nat} {v : Nat} : wp d 146 Q 4 (some (.ref v) :: L) st w cn sn = wp d 146 Q 5 (some (.ref v) :: L) (.ref v :: st) w cn sn := w_aload_n d_146_4 rfl
theorem d_146_5 : decode (mB 146) 5 = .ok (.getfield 228, 3) := by decide +kernel
theorem s_146_5 {d : Nat} {Q : wQ} {L : List (Option Value)} {st : List Value} {w : aw} {cn sn : Nat} {a : Nat} : wp d 146 Q 5 L (.ref a :: st) w cn sn = (kd w a = 9 ∧ wp d 146 Q 8 L (fd w 556 a :: st) w cn sn) := w_getfield d_146_5 (by decide +kernel : fT (mO 146) 228 = some (8, 44))
theorem d_146_8 : decode (mB 146) 8 = .ok (.if_icmp .ge 44, 3) := by decide +kernel
theorem s_146_8 {d : Nat} {Q : wQ} {L : List (Option Value)} {st : List Value} {w : aw} {cn sn : Nat} {a b : Int32} : wp d 146 Q 8 L (.int b :: .int a :: st) w cn sn = ((b ≤ a → wp d 146 Q 52 L st w cn sn) ∧ (¬ b ≤ a → wp d 146 Q 11 L st w cn sn)) := w_icge d_146_8 (by decide)
theorem d_146_11 : decode (mB 146) 11 = .ok (.aload_n 0, 1) := by decide +kernel
theorem s_146_11 {d : Nat} {Q : wQ} {L : List (Option Value)} {st : List Value} {w : aw} {cn sn : Nat} {v : Nat} : wp d 146 Q 11 (some (.ref v) :: L) st w cn sn = wp d 146 Q 12 (some (.ref v) :: L) (.ref v :: st) w cn sn := w_aload_n d_146_11 rfl
theorem d_146_12 : decode (mB 146) 12 = .ok (.getfield 72, 3) := by decide +kernel
theorem s_146_12 {d : Nat} {Q : wQ} {L : List (Option Value)} {st : List Value} {w : aw} {cn sn : Nat} {a : Nat} : wp d 146 Q 12 L (.ref a :: st) w cn sn = (kd w a = 9 ∧ wp d 146 Q 15 L (fd w 542 a :: st) w cn sn) := w_getfield d_146_12 (by decide +kernel : fT (mO 146) 72 = some (8, 30))
theorem d_146_15 : decode (mB 146) 15 = .ok (.aload_n 0, 1) := by decide +kernel
theorem s_146_15 {d : Nat} {Q : wQ} {L : List (Option Value)} {st : List Value} {w : aw} {cn sn : Nat} {v : Nat} : wp d 146 Q 15 (some (.ref v) :: L) st w cn sn = wp d 146 Q 16 (some (.ref v) :: L) (.ref v :: st) w cn sn := w_aload_n d_146_15 rfl
theorem d_146_16 : decode (mB 146) 16 = .ok (.getfield 231, 3) := by decide +kernel
theorem s_146_16 {d : Nat} {Q : wQ} {L : List (Option Value)} {st : List Value} {w : aw} {cn sn : Nat} {a : Nat} : wp d 146 Q 16 L (.ref a :: st) w cn sn = (kd w a = 9 ∧ wp d 146 Q 19 L (fd w 555 a :: st) w cn sn) := w_getfield d_146_16 (by decide +kernel : fT (mO 146) 231 = some (8, 43))
theorem d_146_19 : decode (mB 146) 19 = .ok (.iaload, 1) := by decide +kernel
theorem s_146_19 {d : Nat} {Q : wQ} {L : List (Option Value)} {st : List Value} {w : aw} {cn sn : Nat} {a : Nat} {i : Int32} : wp d 146 Q 19 L (.int i :: .ref a :: st) w cn sn = ((kd w a = 20 ∨ kd w a = 30) ∧ inR i (ln w a) ∧ wp d 146 Q 20 L (.int (ai w a i.toNatClampNeg) :: st) w cn sn) := wp_row d_146_19 _ _ _ _ _
theorem d_146_20 : decode (mB 146) 20 = .ok (.bipush 32, 2) := by decide +kernel
theorem s_146_20 {d : Nat} {Q : wQ} {L : List (Option Value)} {st : List Value} {w : aw} {cn sn : Nat}  : wp d 146 Q 20 L st w cn sn = wp d 146 Q 22 L (.int 32 :: st) w cn sn := w_bipush d_146_20 (by decide)
theorem d_146_22 : decode (mB 146) 22 = .ok (.if_icmp .eq 17, 3) := by decide +kernel
theorem s_146_22 {d : Nat} {Q : wQ} {L : List (Option Value)} {st : List Value} {w : aw} {cn sn : Nat} {a b : Int32} : wp d 146 Q 22 L (.int b :: .int a :: st) w cn sn = ((a = b → wp d 146 Q 39 L st w cn sn) ∧ (¬ a = b → wp d 146 Q 25 L st w cn sn)) := w_iceq d_146_22 (by decide)
theorem d_146_25 : decode (mB 146) 25 = .ok (.aload_n 0, 1) := by decide +kernel
theorem s_146_25 {d : Nat} {Q : wQ} {L : List (Option Value)} {st : List Value} {w : aw} {cn sn : Nat} {v : Nat} : wp d 146 Q 25 (some (.ref v) :: L) st w cn sn = wp d 146 Q 26 (some (.ref v) :: L) (.ref v :: st) w cn sn := w_aload_n d_146_25 rfl
theorem d_146_26 : decode (mB 146) 26 = .ok (.getfield 72, 3) := by decide +kernel
theorem s_146_26 {d : Nat} {Q : wQ} {L : List (Option Value)} {st : List Value} {w : aw} {cn sn : Nat} {a : Nat} : wp d 146 Q 26 L (.ref a :: st) w cn sn = (kd w a = 9 ∧ wp d 146 Q 29 L (fd w 542 a :: st) w cn sn) := w_getfield d_146_26 (by decide +kernel : fT (mO 146) 72 = some (8, 30))
theorem d_146_29 : decode (mB 146) 29 = .ok (.aload_n 0, 1) := by decide +kernel
theorem s_146_29 {d : Nat} {Q : wQ} {L : List (Option Value)} {st : List Value} {w : aw} {cn sn : Nat} {v : Nat} : wp d 146 Q 29 (some (.ref v) :: L) st w cn sn = wp d 146 Q 30 (some (.ref v) :: L) (.ref v :: st) w cn sn := w_aload_n d_146_29 rfl
theorem d_146_30 : decode (mB 146) 30 = .ok (.getfield 231, 3) := by decide +kernel
theorem s_146_30 {d : Nat} {Q : wQ} {L : List (Option Value)} {st : List Value} {w : aw} {cn sn : Nat} {a : Nat} : wp d 146 Q 30 L (.ref a :: st) w cn sn = (kd w a = 9 ∧ wp d 146 Q 33 L (fd w 555 a :: st) w cn sn) := w_getfield d_146_30 (by decide +kernel : fT (mO 146) 231 = some (8, 43))
theorem d_146_33 : decode (mB 146) 33 = .ok (.iaload, 1) := by decide +kernel
theorem s_146_33 {d : Nat} {Q : wQ} {L : List (Option Value)} {st : List Value} {w : aw} {cn sn : Nat} {a : Nat} {i : Int32} : wp d 146 Q 33 L (.int i :: .ref a :: st) w cn sn = ((kd w a = 20 ∨ kd w a = 30) ∧ inR i (ln w a) ∧ wp d 146 Q 34 L (.int (ai w a i.toNatClampNeg) :: st) w cn sn) := wp_row d_146_33 _ _ _ _ _
theorem d_146_34 : decode (mB 146) 34 = .ok (.bipush 9, 2) := by decide +kernel
theorem s_146_34 {d : Nat} {Q : wQ} {L : List (Option Value)} {st : List Value} {w : aw} {cn sn : Nat}  : wp d 146 Q 34 L st w cn sn = wp d 146 Q 36 L (.int 9 :: st) w cn sn := w_bipush d_146_34 (by decide)
theorem d_146_36 : decode (mB 146) 36 = .ok (.if_icmp .ne 16, 3) := by decide +kernel
theorem s_146_36 {d : Nat} {Q : wQ} {L : List (Option Value)} {st : List Value} {w : aw} {cn sn : Nat} {a b : Int32} : wp d 146 Q 36 L (.int b :: .int a :: st) w cn sn = ((¬ a = b → wp d 146 Q 52 L st w cn sn) ∧ (a = b → wp d 146 Q 39 L st w cn sn)) := w_icne d_146_36 (by decide)
theorem d_146_39 : decode (mB 146) 39 = .ok (.aload_n 0, 1) := by decide +kernel
theorem s_146_39 {d : Nat} {Q : wQ} {L : List (Option Value)} {st : List Value} {w : aw} {cn sn : Nat} {v : Nat} : wp d 146 Q 39 (some (.ref v) :: L) st w cn sn = wp d 146 Q 40 (some (.ref v) :: L) (.ref v :: st) w cn sn := w_aload_n d_146_39 rfl
theorem d_146_40 : decode (mB 146) 40 = .ok (.dup, 1) := by decide +kernel
theorem s_146_40 {d : Nat} {Q : wQ} {L : List (Option Value)} {st : List Value} {w : aw} {cn sn : Nat} {v : Value} : wp d 146 Q 40 L (v :: st) w cn sn = (v.category = 1 ∧ wp d 146 Q 41 L (v :: v :: st) w cn sn) := wp_row d_146_40 _ _ _ _ _
theorem d_146_41 : decode (mB 146) 41 = .ok (.getfield 231, 3) := by decide +kernel
theorem s_146_41 {d : Nat} {Q : wQ} {L : List (Option Value)} {st : List Value} {w : aw} {cn sn : Nat} {a : Nat} : wp d 146 Q 41 L (.ref a :: st) w cn sn = (kd w a = 9 ∧ wp d 146 Q 44 L (fd w 555 a :: st) w cn sn) := w_getfield d_146_41 (by decide +kernel : fT (mO 146) 231 = some (8, 43))
theorem d_146_44 : decode (mB 146) 44 = .ok (.iconst 1, 1) := by decide +kernel
theorem s_146_44 {d : Nat} {Q : wQ} {L : List (Option Value)} {st : List Value} {w : aw} {cn sn : Nat}  : wp d 146 Q 44 L st w cn sn = wp d 146 Q 45 L (.int 1 :: st) w cn sn := w_iconst d_146_44 (by decide)
theorem d_146_45 : decode (mB 146) 45 = .ok (.iadd, 1) := by decide +kernel
theorem s_146_45 {d : Nat} {Q : wQ} {L : List (Option Value)} {st : List Value} {w : aw} {cn sn : Nat} {a b : Int32} : wp d 146 Q 45 L (.int b :: .int a :: st) w cn sn = wp d 146 Q 46 L (.int (a + b) :: st) w cn sn := wp_row d_146_45 _ _ _ _ _
theorem d_146_46 : decode (mB 146) 46 = .ok (.putfield 231, 3) := by decide +kernel
theorem s_146_46 {d : Nat} {Q : wQ} {L : List (Option Value)} {st : List Value} {w : aw} {cn sn : Nat} {x : Int32} {a : Nat} : wp d 146 Q 46 L (.int x :: .ref a :: st) w cn sn = (kd w a = 9 ∧ wp d 146 Q 49 L st (uF w 555 a (.int x)) cn sn) := w_putfield d_146_46 (by decide +kernel : fT (mO 146) 231 = some (8, 43)) (by decide +kernel) ok_int
theorem d_146_49 : decode (mB 146) 49 = .ok (.goto (-49), 3) := by decide +kernel
theorem s_146_49 {d : Nat} {Q : wQ} {L : List (Option Value)} {st : List Value} {w : aw} {cn sn : Nat}  : wp d 146 Q 49 L st w cn sn = wp d 146 Q 0 L st w cn sn := w_goto d_146_49 (by decide)
theorem d_146_52 : decode (mB 146) 52 = .ok (.return_, 1) := by decide +kernel
theorem s_146_52 {d : Nat} {Q : wQ} {L : List (Option Value)} {w : aw} {cn sn : Nat}  : wp d 146 Q 52 L [] w cn sn = Q none w := w_return d_146_52 rfl
theorem d_147_0 : decode (mB 147) 0 = .ok (.iload_n 1, 1) := by decide +kernel
theorem s_147_0 {d : Nat} {Q : wQ} {L : List (Option Value)} {st : List Value} {w : aw} {cn sn : Nat} {a0 : Option Value} {v : Int32} : wp d 147 Q 0 (a0 :: some (.int v) :: L) st w cn sn = wp d 147 Q 1 (a0 :: some (.int v) :: L) (.int v :: st) w cn sn := w_iload_n d_147_0 rfl
theorem d_147_1 : decode (mB 147) 1 = .ok (.istore_n 2, 1) := by decide +kernel
theorem s_147_1 {d : Nat} {Q : wQ} {L : List (Option Value)} {st : List Value} {w : aw} {cn sn : Nat} {a0 a1 a2 : Option Value} {v : Int32} : wp d 147 Q 1 (a0 :: a1 :: a2 :: L) (.int v :: st) w cn sn = wp d 147 Q 2 (a0 :: clr a1 :: some (.int v) :: L) st w cn sn := w_istore_n d_147_1 (Nat.le_add_left 3 _) rfl
theorem d_147_2 : decode (mB 147) 2 = .ok (.iload_n 2, 1) := by decide +kernel
theorem s_147_2 {d : Nat} {Q : wQ} {L : List (Option Value)} {st : List Value} {w : aw} {cn sn : Nat} {a0 a1 : Option Value} {v : Int32} : wp d 147 Q 2 (a0 :: a1 :: some (.int v) :: L) st w cn sn = wp d 147 Q 3 (a0 :: a1 :: some (.int v) :: L) (.int v :: st) w cn sn := w_iload_n d_147_2 rfl
theorem d_147_3 : decode (mB 147) 3 = .ok (.aload_n 0, 1) := by decide +kernel
theorem s_147_3 {d : Nat} {Q : wQ} {L : List (Option Value)} {st : List Value} {w : aw} {cn sn : Nat} {v : Nat} : wp d 147 Q 3 (some (.ref v) :: L) st w cn sn = wp d 147 Q 4 (some (.ref v) :: L) (.ref v :: st) w cn sn := w_aload_n d_147_3 rfl
theorem d_147_4 : decode (mB 147) 4 = .ok (.getfield 228, 3) := by decide +kernel
theorem s_147_4 {d : Nat} {Q : wQ} {L : List (Option Value)} {st : List Value} {w : aw} {cn sn : Nat} {a : Nat} : wp d 147 Q 4 L (.ref a :: st) w cn sn = (kd w a = 9 ∧ wp d 147 Q 7 L (fd w 556 a :: st) w cn sn) := w_getfield d_147_4 (by decide +kernel : fT (mO 147) 228 = some (8, 44))
theorem d_147_7 : decode (mB 147) 7 = .ok (.if_icmp .ge 33, 3) := by decide +kernel
theorem s_147_7 {d : Nat} {Q : wQ} {L : List (Option Value)} {st : List Value} {w : aw} {cn sn : Nat} {a b : Int32} : wp d 147 Q 7 L (.int b :: .int a :: st) w cn sn = ((b ≤ a → wp d 147 Q 40 L st w cn sn) ∧ (¬ b ≤ a → wp d 147 Q 10 L st w cn sn)) := w_icge d_147_7 (by decide)
theorem d_147_10 : decode (mB 147) 10 = .ok (.aload_n 0, 1) := by decide +kernel
theorem s_147_10 {d : Nat} {Q : wQ} {L : List (Option Value)} {st : List Value} {w : aw} {cn sn : Nat} {v : Nat} : wp d 147 Q 10 (some (.ref v) :: L) st w cn sn = wp d 147 Q 11 (some (.ref v) :: L) (.ref v :: st) w cn sn := w_aload_n d_147_10 rfl
theorem d_147_11 : decode (mB 147) 11 = .ok (.getfield 72, 3) := by decide +kernel
theorem s_147_11 {d : Nat} {Q : wQ} {L : List (Option Value)} {st : List Value} {w : aw} {cn sn : Nat} {a : Nat} : wp d 147 Q 11 L (.ref a :: st) w cn sn = (kd w a = 9 ∧ wp d 147 Q 14 L (fd w 542 a :: st) w cn sn) := w_getfield d_147_11 (by decide +kernel : fT (mO 147) 72 = some (8, 30))
theorem d_147_14 : decode (mB 147) 14 = .ok (.iload_n 2, 1) := by decide +kernel
theorem s_147_14 {d : Nat} {Q : wQ} {L : List (Option Value)} {st : List Value} {w : aw} {cn sn : Nat} {a0 a1 : Option Value} {v : Int32} : wp d 147 Q 14 (a0 :: a1 :: some (.int v) :: L) st w cn sn = wp d 147 Q 15 (a0 :: a1 :: some (.int v) :: L) (.int v :: st) w cn sn := w_iload_n d_147_14 rfl
theorem d_147_15 : decode (mB 147) 15 = .ok (.iaload, 1) := by decide +kernel
theorem s_147_15 {d : Nat} {Q : wQ} {L : List (Option Value)} {st : List Value} {w : aw} {cn sn : Nat} {a : Nat} {i : Int32} : wp d 147 Q 15 L (.int i :: .ref a :: st) w cn sn = ((kd w a = 20 ∨ kd w a = 30) ∧ inR i (ln w a) ∧ wp d 147 Q 16 L (.int (ai w a i.toNatClampNeg) :: st) w cn sn) := wp_row d_147_15 _ _ _ _ _
theorem d_147_16 : decode (mB 147) 16 = .ok (.invokestatic 225, 3) := by decide +kernel
theorem s_147_16 {d : Nat} {Q : wQ} {L : List (Option Value)} {st : List Value} {w : aw} {cn sn : Nat} {v0 : Value} : wp d 147 Q 16 L (v0 :: st) w cn sn = (catS st ≤ 8 ∧ wpD d 142 [v0] w (fun v w' => wp d 147 Q 19 L (v.toList ++ st) w' cn sn)) := w_static (As := [v0]) d_147_16 (by decide +kernel : cT (mO 147) 225 = some (2, 142)) rfl (by decide +kernel) rfl
theorem d_147_19 : decode (mB 147) 19 = .ok (.ifCond .ne 15, 3) := by decide +kernel
theorem s_147_19 {d : Nat} {Q : wQ} {L : List (Option Value)} {st : List Value} {w : aw} {cn sn : Nat} {x : Int32} : wp d 147 Q 19 L (.int x :: st) w cn sn = ((¬ x = 0 → wp d 147 Q 34 L st w cn sn) ∧ (x = 0 → wp d 147 Q 22 L st w cn sn)) := w_ifne d_147_19 (by decide)
theorem d_147_22 : decode (mB 147) 22 = .ok (.aload_n 0, 1) := by decide +kernel
theorem s_147_22 {d : Nat} {Q : wQ} {L : List (Option Value)} {st : List Value} {w : aw} {cn sn : Nat} {v : Nat} : wp d 147 Q 22 (some (.ref v) :: L) st w cn sn = wp d 147 Q 23 (some (.ref v) :: L) (.ref v :: st) w cn sn := w_aload_n d_147_22 rfl
theorem d_147_23 : decode (mB 147) 23 = .ok (.getfield 72, 3) := by decide +kernel
theorem s_147_23 {d : Nat} {Q : wQ} {L : List (Option Value)} {st : List Value} {w : aw} {cn sn : Nat} {a : Nat} : wp d 147 Q 23 L (.ref a :: st) w cn sn = (kd w a = 9 ∧ wp d 147 Q 26 L (fd w 542 a :: st) w cn sn) := w_getfield d_147_23 (by decide +kernel : fT (mO 147) 72 = some (8, 30))
theorem d_147_26 : decode (mB 147) 26 = .ok (.iload_n 2, 1) := by decide +kernel
theorem s_147_26 {d : Nat} {Q : wQ} {L : List (Option Value)} {st : List Value} {w : aw} {cn sn : Nat} {a0 a1 : Option Value} {v : Int32} : wp d 147 Q 26 (a0 :: a1 :: some (.int v) :: L) st w cn sn = wp d 147 Q 27 (a0 :: a1 :: some (.int v) :: L) (.int v :: st) w cn sn := w_iload_n d_147_26 rfl
theorem d_147_27 : decode (mB 147) 27 = .ok (.iaload, 1) := by decide +kernel
theorem s_147_27 {d : Nat} {Q : wQ} {L : List (Option Value)} {st : List Value} {w : aw} {cn sn : Nat} {a : Nat} {i : Int32} : wp d 147 Q 27 L (.int i :: .ref a :: st) w cn sn = ((kd w a = 20 ∨ kd w a = 30) ∧ inR i (ln w a) ∧ wp d 147 Q 28 L (.int (ai w a i.toNatClampNeg) :: st) w cn sn) := wp_row d_147_27 _ _ _ _ _
theorem d_147_28 : decode (mB 147) 28 = .ok (.invokestatic 234, 3) := by decide +kernel
theorem s_147_28 {d : Nat} {Q : wQ} {L : List (Option Value)} {st : List Value} {w : aw} {cn sn : Nat} {v0 : Value} : wp d 147 Q 28 L (v0 :: st) w cn sn = (catS st ≤ 8 ∧ wpD d 143 [v0] w (fun v w' => wp d 147 Q 31 L (v.toList ++ st) w' cn sn)) := w_static (As := [v0]) d_147_28 (by decide +kernel : cT (mO 147) 234 = some (2, 143)) rfl (by decide +kernel) rfl
theorem d_147_31 : decode (mB 147) 31 = .ok (.ifCond .eq 9, 3) := by decide +kernel
theorem s_147_31 {d : Nat} {Q : wQ} {L : List (Option Value)} {st : List Value} {w : aw} {cn sn : Nat} {x : Int32} : wp d 147 Q 31 L (.int x :: st) w cn sn = ((x = 0 → wp d 147 Q 40 L st w cn sn) ∧ (¬ x = 0 → wp d 147 Q 34 L st w cn sn)) := w_ifeq d_147_31 (by decide)
theorem d_147_34 : decode (mB 147) 34 = .ok (.iinc 2 1, 3) := by decide +kernel
theorem s_147_34 {d : Nat} {Q : wQ} {L : List (Option Value)} {st : List Value} {w : aw} {cn sn : Nat} {a0 a1 : Option Value} {v : Int32} : wp d 147 Q 34 (a0 :: a1 :: some (.int v) :: L) st w cn sn = wp d 147 Q 37 (a0 :: clr a1 :: some (.int (v + 1)) :: L) st w cn sn := w_iinc d_147_34 rfl (by decide) rfl
theorem d_147_37 : decode (mB 147) 37 = .ok (.goto (-35), 3) := by decide +kernel
theorem s_147_37 {d : Nat} {Q : wQ} {L : List (Option Value)} {st : List Value} {w : aw} {cn sn : Nat}  : wp d 147 Q 37 L st w cn sn = wp d 147 Q 2 L st w cn sn := w_goto d_147_37 (by decide)
theorem d_147_40 : decode (mB 147) 40 = .ok (.iload_n 2, 1) := by decide +kernel
theorem s_147_40 {d : Nat} {Q : wQ} {L : List (Option Value)} {st : List Value} {w : aw} {cn sn : Nat} {a0 a1 : Option Value} {v : Int32} : wp d 147 Q 40 (a0 :: a1 :: some (.int v) :: L) st w cn sn = wp d 147 Q 41 (a0 :: a1 :: some (.int v) :: L) (.int v :: st) w cn sn := w_iload_n d_147_40 rfl
theorem d_147_41 : decode (mB 147) 41 = .ok (.ireturn, 1) := by decide +kernel
theorem s_147_41 {d : Nat} {Q : wQ} {L : List (Option Value)} {w : aw} {cn sn : Nat} {v : Int32} : wp d 147 Q 41 L [.int v] w cn sn = Q (some (.int v)) w := w_ireturn d_147_41 rfl
theorem d_148_0 : decode (mB 148) 0 = .ok (.aload_n 0, 1) := by decide +kernel
theorem s_148_0 {d : Nat} {Q : wQ} {L : List (Option Value)} {st : List Value} {w : aw} {cn sn : Nat} {v : Nat} : wp d 148 Q 0 (some (.ref v) :: L) st w cn sn = wp d 148 Q 1 (some (.ref v) :: L) (.ref v :: st) w cn sn := w_aload_n d_148_0 rfl
theorem d_148_1 : decode (mB 148) 1 = .ok (.iload_n 1, 1) := by decide +kernel
theorem s_148_1 {d : Nat} {Q : wQ} {L : List (Option Value)} {st : List Value} {w : aw} {cn sn : Nat} {a0 : Option Value} {v : Int32} : wp d 148 Q 1 (a0 :: some (.int v) :: L) st w cn sn = wp d 148 Q 2 (a0 :: some (.int v) :: L) (.int v :: st) w cn sn := w_iload_n d_148_1 rfl
theorem d_148_2 : decode (mB 148) 2 = .ok (.invokevirtual 237, 3) := by decide +kernel
theorem s_148_2 {d : Nat} {Q : wQ} {L : List (Option Value)} {st : List Value} {w : aw} {cn sn : Nat} {v0 : Value} {b : Nat} : wp d 148 Q 2 L (v0 :: .ref b :: st) w cn sn = (kd w b = 9 ∧ catS st ≤ 8 ∧ wpD d 145 [.ref b, v0] w (fun v w' => wp d 148 Q 5 L (v.toList ++ st) w' cn sn)) := w_virtual (As := [v0]) d_148_2 (by decide +kernel : cT (mO 148) 237 = some (0, 145)) rfl (by decide +kernel) rfl (by decide +kernel) rfl
theorem d_148_5 : decode (mB 148) 5 = .ok (.invokestatic 225, 3) := by decide +kernel
theorem s_148_5 {d : Nat} {Q : wQ} {L : List (Option Value)} {st : List Value} {w : aw} {cn sn : Nat} {v0 : Value} : wp d 148 Q 5 L (v0 :: st) w cn sn = (catS st ≤ 8 ∧ wpD d 142 [v0] w (fun v w' => wp d 148 Q 8 L (v.toList ++ st) w' cn sn)) := w_static (As := [v0]) d_148_5 (by decide +kernel : cT (mO 148) 225 = some (2, 142)) rfl (by decide +kernel) rfl
theorem d_148_8 : decode (mB 148) 8 = .ok (.ifCond .eq 19, 3) := by decide +kernel
theorem s_148_8 {d : Nat} {Q : wQ} {L : List (Option Value)} {st : List Value} {w : aw} {cn sn : Nat} {x : Int32} : wp d 148 Q 8 L (.int x :: st) w cn sn = ((x = 0 → wp d 148 Q 27 L st w cn sn) ∧ (¬ x = 0 → wp d 148 Q 11 L st w cn sn)) := w_ifeq d_148_8 (by decide)
theorem d_148_11 : decode (mB 148) 11 = .ok (.aload_n 0, 1) := by decide +kernel
theorem s_148_11 {d : Nat} {Q : wQ} {L : List (Option Value)} {st : List Value} {w : aw} {cn sn : Nat} {v : Nat} : wp d 148 Q 11 (some (.ref v) :: L) st w cn sn = wp d 148 Q 12 (some (.ref v) :: L) (.ref v :: st) w cn sn := w_aload_n d_148_11 rfl
theorem d_148_12 : decode (mB 148) 12 = .ok (.iload_n 1, 1) := by decide +kernel
theorem s_148_12 {d : Nat} {Q : wQ} {L : List (Option Value)} {st : List Value} {w : aw} {cn sn : Nat} {a0 : Option Value} {v : Int32} : wp d 148 Q 12 (a0 :: some (.int v) :: L) st w cn sn = wp d 148 Q 13 (a0 :: some (.int v) :: L) (.int v :: st) w cn sn := w_iload_n d_148_12 rfl
theorem d_148_13 : decode (mB 148) 13 = .ok (.invokevirtual 240, 3) := by decide +kernel
theorem s_148_13 {d : Nat} {Q : wQ} {L : List (Option Value)} {st : List Value} {w : aw} {cn sn : Nat} {v0 : Value} {b : Nat} : wp d 148 Q 13 L (v0 :: .ref b :: st) w cn sn = (kd w b = 9 ∧ catS st ≤ 8 ∧ wpD d 147 [.ref b, v0] w (fun v w' => wp d 148 Q 16 L (v.toList ++ st) w' cn sn)) := w_virtual (As := [v0]) d_148_13 (by decide +kernel : cT (mO 148) 240 = some (0, 147)) rfl (by decide +kernel) rfl (by decide +kernel) rfl
theorem d_148_16 : decode (mB 148) 16 = .ok (.iload_n 1, 1) := by decide +kernel
theorem s_148_16 {d : Nat} {Q : wQ} {L : List (Option Value)} {st : List Value} {w : aw} {cn sn : Nat} {a0 : Option Value} {v : Int32} : wp d 148 Q 16 (a0 :: some (.int v) :: L) st w cn sn = wp d 148 Q 17 (a0 :: some (.int v) :: L) (.int v :: st) w cn sn := w_iload_n d_148_16 rfl
theorem d_148_17 : decode (mB 148) 17 = .ok (.isub, 1) := by decide +kernel
theorem s_148_17 {d : Nat} {Q : wQ} {L : List (Option Value)} {st : List Value} {w : aw} {cn sn : Nat} {a b : Int32} : wp d 148 Q 17 L (.int b :: .int a :: st) w cn sn = wp d 148 Q 18 L (.int (a - b) :: st) w cn sn := wp_row d_148_17 _ _ _ _ _
theorem d_148_18 : decode (mB 148) 18 = .ok (.bipush 6, 2) := by decide +kernel
theorem s_148_18 {d : Nat} {Q : wQ} {L : List (Option Value)} {st : List Value} {w : aw} {cn sn : Nat}  : wp d 148 Q 18 L st w cn sn = wp d 148 Q 20 L (.int 6 :: st) w cn sn := w_bipush d_148_18 (by decide)
theorem d_148_20 : decode (mB 148) 20 = .ok (.if_icmp .gt 7, 3) := by decide +kernel
theorem s_148_20 {d : Nat} {Q : wQ} {L : List (Option Value)} {st : List Value} {w : aw} {cn sn : Nat} {a b : Int32} : wp d 148 Q 20 L (.int b :: .int a :: st) w cn sn = ((b < a → wp d 148 Q 27 L st w cn sn) ∧ (¬ b < a → wp d 148 Q 23 L st w cn sn)) := w_icgt d_148_20 (by decide)
theorem d_148_23 : decode (mB 148) 23 = .ok (.iconst 1, 1) := by decide +kernel
theorem s_148_23 {d : Nat} {Q : wQ} {L : List (Option Value)} {st : List Value} {w : aw} {cn sn : Nat}  : wp d 148 Q 23 L st w cn sn = wp d 148 Q 24 L (.int 1 :: st) w cn sn := w_iconst d_148_23 (by decide)
theorem d_148_24 : decode (mB 148) 24 = .ok (.goto 4, 3) := by decide +kernel
theorem s_148_24 {d : Nat} {Q : wQ} {L : List (Option Value)} {st : List Value} {w : aw} {cn sn : Nat}  : wp d 148 Q 24 L st w cn sn = wp d 148 Q 28 L st w cn sn := w_goto d_148_24 (by decide)
theorem d_148_27 : decode (mB 148) 27 = .ok (.iconst 0, 1) := by decide +kernel
theorem s_148_27 {d : Nat} {Q : wQ} {L : List (Option Value)} {st : List Value} {w : aw} {cn sn : Nat}  : wp d 148 Q 27 L st w cn sn = wp d 148 Q 28 L (.int 0 :: st) w cn sn := w_iconst d_148_27 (by decide)
theorem d_148_28 : decode (mB 148) 28 = .ok (.ireturn, 1) := by decide +kernel
theorem s_148_28 {d : Nat} {Q : wQ} {L : List (Option Value)} {w : aw} {cn sn : Nat} {v : Int32} : wp d 148 Q 28 L [.int v] w cn sn = (narrow .boolean (.int v) = .int v ∧ Q (some (.int v)) w) := w_zreturn d_148_28 rfl
theorem d_149_0 : decode (mB 149) 0 = .ok (.lconst 0, 1) := by decide +kernel
theorem s_149_0 {d : Nat} {Q : wQ} {L : List (Option Value)} {st : List Value} {w : aw} {cn sn : Nat}  : wp d 149 Q 0 L st w cn sn = wp d 149 Q 1 L (.long 0 :: st) w cn sn := w_lconst d_149_0 (by decide)
theorem d_149_1 : decode (mB 149) 1 = .ok (.lstore_n 2, 1) := by decide +kernel
theorem s_149_1 {d : Nat} {Q : wQ} {L : List (Option Value)} {st : List Value} {w : aw} {cn sn : Nat} {a0 a1 a2 a3 : Option Value} {v : Int64} : wp d 149 Q 1 (a0 :: a1 :: a2 :: a3 :: L) (.long v :: st) w cn sn = wp d 149 Q 2 (a0 :: clr a1 :: some (.long v) :: none :: L) st w cn sn := w_lstore_n d_149_1 (Nat.le_add_left 4 _) rfl
theorem d_149_2 : decode (mB 149) 2 = .ok (.aload_n 0, 1) := by decide +kernel
theorem s_149_2 {d : Nat} {Q : wQ} {L : List (Option Value)} {st : List Value} {w : aw} {cn sn : Nat} {v : Nat} : wp d 149 Q 2 (some (.ref v) :: L) st w cn sn = wp d 149 Q 3 (some (.ref v) :: L) (.ref v :: st) w cn sn := w_aload_n d_149_2 rfl
theorem d_149_3 : decode (mB 149) 3 = .ok (.iload_n 1, 1) := by decide +kernel
theorem s_149_3 {d : Nat} {Q : wQ} {L : List (Option Value)} {st : List Value} {w : aw} {cn sn : Nat} {a0 : Option Value} {v : Int32} : wp d 149 Q 3 (a0 :: some (.int v) :: L) st w cn sn = wp d 149 Q 4 (a0 :: some (.int v) :: L) (.int v :: st) w cn sn := w_iload_n d_149_3 rfl
theorem d_149_4 : decode (mB 149) 4 = .ok (.invokevirtual 240, 3) := by decide +kernel
theorem s_149_4 {d : Nat} {Q : wQ} {L : List (Option Value)} {st : List Value} {w : aw} {cn sn : Nat} {v0 : Value} {b : Nat} : wp d 149 Q 4 L (v0 :: .ref b :: st) w cn sn = (kd w b = 9 ∧ catS st ≤ 8 ∧ wpD d 147 [.ref b, v0] w (fun v w' => wp d 149 Q 7 L (v.toList ++ st) w' cn sn)) := w_virtual (As := [v0]) d_149_4 (by decide +kernel : cT (mO 149) 240 = some (0, 147)) rfl (by decide +kernel) rfl (by decide +kernel) rfl
theorem d_149_7 : decode (mB 149) 7 = .ok (.istore 4, 2) := by decide +kernel
theorem s_149_7 {d : Nat} {Q : wQ} {L : List (Option Value)} {st : List Value} {w : aw} {cn sn : Nat} {a0 a1 a2 a3 a4 : Option Value} {v : Int32} : wp d 149 Q 7 (a0 :: a1 :: a2 :: a3 :: a4 :: L) (.int v :: st) w cn sn = wp d 149 Q 9 (a0 :: a1 :: a2 :: clr a3 :: some (.int v) :: L) st w cn sn := w_istore d_149_7 (Nat.le_add_left 5 _) rfl
theorem d_149_9 : decode (mB 149) 9 = .ok (.iload_n 1, 1) := by decide +kernel
theorem s_149_9 {d : Nat} {Q : wQ} {L : List (Option Value)} {st : List Value} {w : aw} {cn sn : Nat} {a0 : Option Value} {v : Int32} : wp d 149 Q 9 (a0 :: some (.int v) :: L) st w cn sn = wp d 149 Q 10 (a0 :: some (.int v) :: L) (.int v :: st) w cn sn := w_iload_n d_149_9 rfl
theorem d_149_10 : decode (mB 149) 10 = .ok (.istore 5, 2) := by decide +kernel
theorem s_149_10 {d : Nat} {Q : wQ} {L : List (Option Value)} {st : List Value} {w : aw} {cn sn : Nat} {a0 a1 a2 a3 a4 a5 : Option Value} {v : Int32} : wp d 149 Q 10 (a0 :: a1 :: a2 :: a3 :: a4 :: a5 :: L) (.int v :: st) w cn sn = wp d 149 Q 12 (a0 :: a1 :: a2 :: a3 :: clr a4 :: some (.int v) :: L) st w cn sn := w_istore d_149_10 (Nat.le_add_left 6 _) rfl
theorem d_149_12 : decode (mB 149) 12 = .ok (.iload 5, 2) := by decide +kernel
theorem s_149_12 {d : Nat} {Q : wQ} {L : List (Option Value)} {st : List Value} {w : aw} {cn sn : Nat} {a0 a1 a2 a3 a4 : Option Value} {v : Int32} : wp d 149 Q 12 (a0 :: a1 :: a2 :: a3 :: a4 :: some (.int v) :: L) st w cn sn = wp d 149 Q 14 (a0 :: a1 :: a2 :: a3 :: a4 :: some (.int v) :: L) (.int v :: st) w cn sn := w_iload d_149_12 rfl
theorem d_149_14 : decode (mB 149) 14 = .ok (.iload 4, 2) := by decide +kernel
theorem s_149_14 {d : Nat} {Q : wQ} {L : List (Option Value)} {st : List Value} {w : aw} {cn sn : Nat} {a0 a1 a2 a3 : Option Value} {v : Int32} : wp d 149 Q 14 (a0 :: a1 :: a2 :: a3 :: some (.int v) :: L) st w cn sn = wp d 149 Q 16 (a0 :: a1 :: a2 :: a3 :: some (.int v) :: L) (.int v :: st) w cn sn := w_iload d_149_14 rfl
theorem d_149_16 : decode (mB 149) 16 = .ok (.if_icmp .ge 27, 3) := by decide +kernel
theorem s_149_16 {d : Nat} {Q : wQ} {L : List (Option Value)} {st : List Value} {w : aw} {cn sn : Nat} {a b : Int32} : wp d 149 Q 16 L (.int b :: .int a :: st) w cn sn = ((b ≤ a → wp d 149 Q 43 L st w cn sn) ∧ (¬ b ≤ a → wp d 149 Q 19 L st w cn sn)) := w_icge d_149_16 (by decide)
theorem d_149_19 : decode (mB 149) 19 = .ok (.lload_n 2, 1) := by decide +kernel
theorem s_149_19 {d : Nat} {Q : wQ} {L : List (Option Value)} {st : List Value} {w : aw} {cn sn : Nat} {a0 a1 : Option Value} {v : Int64} : wp d 149 Q 19 (a0 :: a1 :: some (.long v) :: L) st w cn sn = wp d 149 Q 20 (a0 :: a1 :: some (.long v) :: L) (.long v :: st) w cn sn := w_lload_n d_149_19 rfl
theorem d_149_20 : decode (mB 149) 20 = .ok (.ldc2_w 106, 3) := by decide +kernel
theorem s_149_20 {d : Nat} {Q : wQ} {L : List (Option Value)} {st : List Value} {w : aw} {cn sn : Nat}  : wp d 149 Q 20 L st w cn sn = wp d 149 Q 23 L (.long 37 :: st) w cn sn := w_ldc2 d_149_20 (by decide +kernel : kT (mO 149) 106 = some (.long 37))
theorem d_149_23 : decode (mB 149) 23 = .ok (.lmul, 1) := by decide +kernel
theorem s_149_23 {d : Nat} {Q : wQ} {L : List (Option Value)} {st : List Value} {w : aw} {cn sn : Nat} {a b : Int64} : wp d 149 Q 23 L (.long b :: .long a :: st) w cn sn = wp d 149 Q 24 L (.long (a * b) :: st) w cn sn := wp_row d_149_23 _ _ _ _ _
theorem d_149_24 : decode (mB 149) 24 = .ok (.aload_n 0, 1) := by decide +kernel
theorem s_149_24 {d : Nat} {Q : wQ} {L : List (Option Value)} {st : List Value} {w : aw} {cn sn : Nat} {v : Nat} : wp d 149 Q 24 (some (.ref v) :: L) st w cn sn = wp d 149 Q 25 (some (.ref v) :: L) (.ref v :: st) w cn sn := w_aload_n d_149_24 rfl
theorem d_149_25 : decode (mB 149) 25 = .ok (.getfield 72, 3) := by decide +kernel
theorem s_149_25 {d : Nat} {Q : wQ} {L : List (Option Value)} {st : List Value} {w : aw} {cn sn : Nat} {a : Nat} : wp d 149 Q 25 L (.ref a :: st) w cn sn = (kd w a = 9 ∧ wp d 149 Q 28 L (fd w 542 a :: st) w cn sn) := w_getfield d_149_25 (by decide +kernel : fT (mO 149) 72 = some (8, 30))
theorem d_149_28 : decode (mB 149) 28 = .ok (.iload 5, 2) := by decide +kernel
theorem s_149_28 {d : Nat} {Q : wQ} {L : List (Option Value)} {st : List Value} {w : aw} {cn sn : Nat} {a0 a1 a2 a3 a4 : Option Value} {v : Int32} : wp d 149 Q 28 (a0 :: a1 :: a2 :: a3 :: a4 :: some (.int v) :: L) st w cn sn = wp d 149 Q 30 (a0 :: a1 :: a2 :: a3 :: a4 :: some (.int v) :: L) (.int v :: st) w cn sn := w_iload d_149_28 rfl
theorem d_149_30 : decode (mB 149) 30 = .ok (.iaload, 1) := by decide +kernel
theorem s_149_30 {d : Nat} {Q : wQ} {L : List (Option Value)} {st : List Value} {w : aw} {cn sn : Nat} {a : Nat} {i : Int32} : wp d 149 Q 30 L (.int i :: .ref a :: st) w cn sn = ((kd w a = 20 ∨ kd w a = 30) ∧ inR i (ln w a) ∧ wp d 149 Q 31 L (.int (ai w a i.toNatClampNeg) :: st) w cn sn) := wp_row d_149_30 _ _ _ _ _
theorem d_149_31 : decode (mB 149) 31 = .ok (.invokestatic 99, 3) := by decide +kernel
theorem s_149_31 {d : Nat} {Q : wQ} {L : List (Option Value)} {st : List Value} {w : aw} {cn sn : Nat} {v0 : Value} : wp d 149 Q 31 L (v0 :: st) w cn sn = (catS st ≤ 8 ∧ wpD d 144 [v0] w (fun v w' => wp d 149 Q 34 L (v.toList ++ st) w' cn sn)) := w_static (As := [v0]) d_149_31 (by decide +kernel : cT (mO 149) 99 = some (2, 144)) rfl (by decide +kernel) rfl
theorem d_149_34 : decode (mB 149) 34 = .ok (.i2l, 1) := by decide +kernel
theorem s_149_34 {d : Nat} {Q : wQ} {L : List (Option Value)} {st : List Value} {w : aw} {cn sn : Nat} {a : Int32} : wp d 149 Q 34 L (.int a :: st) w cn sn = wp d 149 Q 35 L (.long a.toInt64 :: st) w cn sn := wp_row d_149_34 _ _ _ _ _
theorem d_149_35 : decode (mB 149) 35 = .ok (.ladd, 1) := by decide +kernel
theorem s_149_35 {d : Nat} {Q : wQ} {L : List (Option Value)} {st : List Value} {w : aw} {cn sn : Nat} {a b : Int64} : wp d 149 Q 35 L (.long b :: .long a :: st) w cn sn = wp d 149 Q 36 L (.long (a + b) :: st) w cn sn := wp_row d_149_35 _ _ _ _ _
theorem d_149_36 : decode (mB 149) 36 = .ok (.lstore_n 2, 1) := by decide +kernel
theorem s_149_36 {d : Nat} {Q : wQ} {L : List (Option Value)} {st : List Value} {w : aw} {cn sn : Nat} {a0 a1 a2 a3 : Option Value} {v : Int64} : wp d 149 Q 36 (a0 :: a1 :: a2 :: a3 :: L) (.long v :: st) w cn sn = wp d 149 Q 37 (a0 :: clr a1 :: some (.long v) :: none :: L) st w cn sn := w_lstore_n d_149_36 (Nat.le_add_left 4 _) rfl
theorem d_149_37 : decode (mB 149) 37 = .ok (.iinc 5 1, 3) := by decide +kernel
theorem s_149_37 {d : Nat} {Q : wQ} {L : List (Option Value)} {st : List Value} {w : aw} {cn sn : Nat} {a0 a1 a2 a3 a4 : Option Value} {v : Int32} : wp d 149 Q 37 (a0 :: a1 :: a2 :: a3 :: a4 :: some (.int v) :: L) st w cn sn = wp d 149 Q 40 (a0 :: a1 :: a2 :: a3 :: clr a4 :: some (.int (v + 1)) :: L) st w cn sn := w_iinc d_149_37 rfl (by decide) rfl
theorem d_149_40 : decode (mB 149) 40 = .ok (.goto (-28), 3) := by decide +kernel
theorem s_149_40 {d : Nat} {Q : wQ} {L : List (Option Value)} {st : List Value} {w : aw} {cn sn : Nat}  : wp d 149 Q 40 L st w cn sn = wp d 149 Q 12 L st w cn sn := w_goto d_149_40 (by decide)
theorem d_149_43 : decode (mB 149) 43 = .ok (.lload_n 2, 1) := by decide +kernel
theorem s_149_43 {d : Nat} {Q : wQ} {L : List (Option Value)} {st : List Value} {w : aw} {cn sn : Nat} {a0 a1 : Option Value} {v : Int64} : wp d 149 Q 43 (a0 :: a1 :: some (.long v) :: L) st w cn sn = wp d 149 Q 44 (a0 :: a1 :: some (.long v) :: L) (.long v :: st) w cn sn := w_lload_n d_149_43 rfl
theorem d_149_44 : decode (mB 149) 44 = .ok (.lreturn, 1) := by decide +kernel
theorem s_149_44 {d : Nat} {Q : wQ} {L : List (Option Value)} {w : aw} {cn sn : Nat} {v : Int64} : wp d 149 Q 44 L [.long v] w cn sn = Q (some (.long v)) w := w_lreturn d_149_44 rfl
theorem d_150_0 : decode (mB 150) 0 = .ok (.iconst (-1), 1) := by decide +kernel
theorem s_150_0 {d : Nat} {Q : wQ} {L : List (Option Value)} {st : List Value} {w : aw} {cn sn : Nat}  : wp d 150 Q 0 L st w cn sn = wp d 150 Q 1 L (.int (-1) :: st) w cn sn := w_iconst d_150_0 (by decide)
theorem d_150_1 : decode (mB 150) 1 = .ok (.istore_n 3, 1) := by decide +kernel
theorem s_150_1 {d : Nat} {Q : wQ} {L : List (Option Value)} {st : List Value} {w : aw} {cn sn : Nat} {a0 a1 a2 a3 : Option Value} {v : Int32} : wp d 150 Q 1 (a0 :: a1 :: a2 :: a3 :: L) (.int v :: st) w cn sn = wp d 150 Q 2 (a0 :: a1 :: clr a2 :: some (.int v) :: L) st w cn sn := w_istore_n d_150_1 (Nat.le_add_left 4 _) rfl
theorem d_150_2 : decode (mB 150) 2 = .ok (.iconst 0, 1) := by decide +kernel
theorem s_150_2 {d : Nat} {Q : wQ} {L : List (Option Value)} {st : List Value} {w : aw} {cn sn : Nat}  : wp d 150 Q 2 L st w cn sn = wp d 150 Q 3 L (.int 0 :: st) w cn sn := w_iconst d_150_2 (by decide)
theorem d_150_3 : decode (mB 150) 3 = .ok (.istore 4, 2) := by decide +kernel
theorem s_150_3 {d : Nat} {Q : wQ} {L : List (Option Value)} {st : List Value} {w : aw} {cn sn : Nat} {a0 a1 a2 a3 a4 : Option Value} {v : Int32} : wp d 150 Q 3 (a0 :: a1 :: a2 :: a3 :: a4 :: L) (.int v :: st) w cn sn = wp d 150 Q 5 (a0 :: a1 :: a2 :: clr a3 :: some (.int v) :: L) st w cn sn := w_istore d_150_3 (Nat.le_add_left 5 _) rfl
theorem d_150_5 : decode (mB 150) 5 = .ok (.iload 4, 2) := by decide +kernel
theorem s_150_5 {d : Nat} {Q : wQ} {L : List (Option Value)} {st : List Value} {w : aw} {cn sn : Nat} {a0 a1 a2 a3 : Option Value} {v : Int32} : wp d 150 Q 5 (a0 :: a1 :: a2 :: a3 :: some (.int v) :: L) st w cn sn = wp d 150 Q 7 (a0 :: a1 :: a2 :: a3 :: some (.int v) :: L) (.int v :: st) w cn sn := w_iload d_150_5 rfl
theorem d_150_7 : decode (mB 150) 7 = .ok (.aload_n 0, 1) := by decide +kernel
theorem s_150_7 {d : Nat} {Q : wQ} {L : List (Option Value)} {st : List Value} {w : aw} {cn sn : Nat} {v : Nat} : wp d 150 Q 7 (some (.ref v) :: L) st w cn sn = wp d 150 Q 8 (some (.ref v) :: L) (.ref v :: st) w cn sn := w_aload_n d_150_7 rfl
theorem d_150_8 : decode (mB 150) 8 = .ok (.getfield 96, 3) := by decide +kernel
theorem s_150_8 {d : Nat} {Q : wQ} {L : List (Option Value)} {st : List Value} {w : aw} {cn sn : Nat} {a : Nat} : wp d 150 Q 8 L (.ref a :: st) w cn sn = (kd w a = 9 ∧ wp d 150 Q 11 L (fd w 548 a :: st) w cn sn) := w_getfield d_150_8 (by decide +kernel : fT (mO 150) 96 = some (8, 36))
theorem d_150_11 : decode (mB 150) 11 = .ok (.if_icmp .ge 28, 3) := by decide +kernel
theorem s_150_11 {d : Nat} {Q : wQ} {L : List (Option Value)} {st : List Value} {w : aw} {cn sn : Nat} {a b : Int32} : wp d 150 Q 11 L (.int b :: .int a :: st) w cn sn = ((b ≤ a → wp d 150 Q 39 L st w cn sn) ∧ (¬ b ≤ a → wp d 150 Q 14 L st w cn sn)) := w_icge d_150_11 (by decide)
theorem d_150_14 : decode (mB 150) 14 = .ok (.aload_n 0, 1) := by decide +kernel
theorem s_150_14 {d : Nat} {Q : wQ} {L : List (Option Value)} {st : List Value} {w : aw} {cn sn : Nat} {v : Nat} : wp d 150 Q 14 (some (.ref v) :: L) st w cn sn = wp d 150 Q 15 (some (.ref v) :: L) (.ref v :: st) w cn sn := w_aload_n d_150_14 rfl
theorem d_150_15 : decode (mB 150) 15 = .ok (.getfield 75, 3) := by decide +kernel
theorem s_150_15 {d : Nat} {Q : wQ} {L : List (Option Value)} {st : List Value} {w : aw} {cn sn : Nat} {a : Nat} : wp d 150 Q 15 L (.ref a :: st) w cn sn = (kd w a = 9 ∧ wp d 150 Q 18 L (fd w 546 a :: st) w cn sn) := w_getfield d_150_15 (by decide +kernel : fT (mO 150) 75 = some (8, 34))
theorem d_150_18 : decode (mB 150) 18 = .ok (.iload 4, 2) := by decide +kernel
theorem s_150_18 {d : Nat} {Q : wQ} {L : List (Option Value)} {st : List Value} {w : aw} {cn sn : Nat} {a0 a1 a2 a3 : Option Value} {v : Int32} : wp d 150 Q 18 (a0 :: a1 :: a2 :: a3 :: some (.int v) :: L) st w cn sn = wp d 150 Q 20 (a0 :: a1 :: a2 :: a3 :: some (.int v) :: L) (.int v :: st) w cn sn := w_iload d_150_18 rfl
theorem d_150_20 : decode (mB 150) 20 = .ok (.laload, 1) := by decide +kernel
theorem s_150_20 {d : Nat} {Q : wQ} {L : List (Option Value)} {st : List Value} {w : aw} {cn sn : Nat} {a : Nat} {i : Int32} : wp d 150 Q 20 L (.int i :: .ref a :: st) w cn sn = (kd w a = 22 ∧ inR i (ln w a) ∧ wp d 150 Q 21 L (.long (al w a i.toNatClampNeg) :: st) w cn sn) := wp_row d_150_20 _ _ _ _ _
theorem d_150_21 : decode (mB 150) 21 = .ok (.lload_n 1, 1) := by decide +kernel
theorem s_150_21 {d : Nat} {Q : wQ} {L : List (Option Value)} {st : List Value} {w : aw} {cn sn : Nat} {a0 : Option Value} {v : Int64} : wp d 150 Q 21 (a0 :: some (.long v) :: L) st w cn sn = wp d 150 Q 22 (a0 :: some (.long v) :: L) (.long v :: st) w cn sn := w_lload_n d_150_21 rfl
theorem d_150_22 : decode (mB 150) 22 = .ok (.lcmp, 1) := by decide +kernel
theorem s_150_22 {d : Nat} {Q : wQ} {L : List (Option Value)} {st : List Value} {w : aw} {cn sn : Nat} {a b : Int64} : wp d 150 Q 22 L (.long b :: .long a :: st) w cn sn = wp d 150 Q 23 L (.int (lg_cmp a b) :: st) w cn sn := wp_row d_150_22 _ _ _ _ _
theorem d_150_23 : decode (mB 150) 23 = .ok (.ifCond .ne 8, 3) := by decide +kernel
theorem s_150_23 {d : Nat} {Q : wQ} {L : List (Option Value)} {st : List Value} {w : aw} {cn sn : Nat} {x : Int32} : wp d 150 Q 23 L (.int x :: st) w cn sn = ((¬ x = 0 → wp d 150 Q 31 L st w cn sn) ∧ (x = 0 → wp d 150 Q 26 L st w cn sn)) := w_ifne d_150_23 (by decide)
theorem d_150_26 : decode (mB 150) 26 = .ok (.iload 4, 2) := by decide +kernel
theorem s_150_26 {d : Nat} {Q : wQ} {L : List (Option Value)} {st : List Value} {w : aw} {cn sn : Nat} {a0 a1 a2 a3 : Option Value} {v : Int32} : wp d 150 Q 26 (a0 :: a1 :: a2 :: a3 :: some (.int v) :: L) st w cn sn = wp d 150 Q 28 (a0 :: a1 :: a2 :: a3 :: some (.int v) :: L) (.int v :: st) w cn sn := w_iload d_150_26 rfl
theorem d_150_28 : decode (mB 150) 28 = .ok (.goto 4, 3) := by decide +kernel
theorem s_150_28 {d : Nat} {Q : wQ} {L : List (Option Value)} {st : List Value} {w : aw} {cn sn : Nat}  : wp d 150 Q 28 L st w cn sn = wp d 150 Q 32 L st w cn sn := w_goto d_150_28 (by decide)
theorem d_150_31 : decode (mB 150) 31 = .ok (.iload_n 3, 1) := by decide +kernel
theorem s_150_31 {d : Nat} {Q : wQ} {L : List (Option Value)} {st : List Value} {w : aw} {cn sn : Nat} {a0 a1 a2 : Option Value} {v : Int32} : wp d 150 Q 31 (a0 :: a1 :: a2 :: some (.int v) :: L) st w cn sn = wp d 150 Q 32 (a0 :: a1 :: a2 :: some (.int v) :: L) (.int v :: st) w cn sn := w_iload_n d_150_31 rfl
theorem d_150_32 : decode (mB 150) 32 = .ok (.istore_n 3, 1) := by decide +kernel
theorem s_150_32 {d : Nat} {Q : wQ} {L : List (Option Value)} {st : List Value} {w : aw} {cn sn : Nat} {a0 a1 a2 a3 : Option Value} {v : Int32} : wp d 150 Q 32 (a0 :: a1 :: a2 :: a3 :: L) (.int v :: st) w cn sn = wp d 150 Q 33 (a0 :: a1 :: clr a2 :: some (.int v) :: L) st w cn sn := w_istore_n d_150_32 (Nat.le_add_left 4 _) rfl
theorem d_150_33 : decode (mB 150) 33 = .ok (.iinc 4 1, 3) := by decide +kernel
theorem s_150_33 {d : Nat} {Q : wQ} {L : List (Option Value)} {st : List Value} {w : aw} {cn sn : Nat} {a0 a1 a2 a3 : Option Value} {v : Int32} : wp d 150 Q 33 (a0 :: a1 :: a2 :: a3 :: some (.int v) :: L) st w cn sn = wp d 150 Q 36 (a0 :: a1 :: a2 :: clr a3 :: some (.int (v + 1)) :: L) st w cn sn := w_iinc d_150_33 rfl (by decide) rfl
theorem d_150_36 : decode (mB 150) 36 = .ok (.goto (-31), 3) := by decide +kernel
theorem s_150_36 {d : Nat} {Q : wQ} {L : List (Option Value)} {st : List Value} {w : aw} {cn sn : Nat}  : wp d 150 Q 36 L st w cn sn = wp d 150 Q 5 L st w cn sn := w_goto d_150_36 (by decide)
theorem d_150_39 : decode (mB 150) 39 = .ok (.iload_n 3, 1) := by decide +kernel
theorem s_150_39 {d : Nat} {Q : wQ} {L : List (Option Value)} {st : List Value} {w : aw} {cn sn : Nat} {a0 a1 a2 : Option Value} {v : Int32} : wp d 150 Q 39 (a0 :: a1 :: a2 :: some (.int v) :: L) st w cn sn = wp d 150 Q 40 (a0 :: a1 :: a2 :: some (.int v) :: L) (.int v :: st) w cn sn := w_iload_n d_150_39 rfl
theorem d_150_40 : decode (mB 150) 40 = .ok (.ireturn, 1) := by decide +kernel
theorem s_150_40 {d : Nat} {Q : wQ} {L : List (Option Value)} {w : aw} {cn sn : Nat} {v : Int32} : wp d 150 Q 40 L [.int v] w cn sn = Q (some (.int v)) w := w_ireturn d_150_40 rfl
theorem d_151_0 : decode (mB 151) 0 = .ok (.aload_n 0, 1) := by decide +kernel
theorem s_151_0 {d : Nat} {Q : wQ} {L : List (Option Value)} {st : List Value} {w : aw} {cn sn : Nat} {v : Nat} : wp d 151 Q 0 (some (.ref v) :: L) st w cn sn = wp d 151 Q 1 (some (.ref v) :: L) (.ref v :: st) w cn sn := w_aload_n d_151_0 rfl
theorem d_151_1 : decode (mB 151) 1 = .ok (.iload_n 1, 1) := by decide +kernel
theorem s_151_1 {d : Nat} {Q : wQ} {L : List (Option Value)} {st : List Value} {w : aw} {cn sn : Nat} {a0 : Option Value} {v : Int32} : wp d 151 Q 1 (a0 :: some (.int v) :: L) st w cn sn = wp d 151 Q 2 (a0 :: some (.int v) :: L) (.int v :: st) w cn sn := w_iload_n d_151_1 rfl
theorem d_151_2 : decode (mB 151) 2 = .ok (.invokevirtual 243, 3) := by decide +kernel
theorem s_151_2 {d : Nat} {Q : wQ} {L : List (Option Value)} {st : List Value} {w : aw} {cn sn : Nat} {v0 : Value} {b : Nat} : wp d 151 Q 2 L (v0 :: .ref b :: st) w cn sn = (kd w b = 9 ∧ catS st ≤ 8 ∧ wpD d 148 [.ref b, v0] w (fun v w' => wp d 151 Q 5 L (v.toList ++ st) w' cn sn)) := w_virtual (As := [v0]) d_151_2 (by decide +kernel : cT (mO 151) 243 = some (0, 148)) rfl (by decide +kernel) rfl (by decide +kernel) rfl
theorem d_151_5 : decode (mB 151) 5 = .ok (.ifCond .eq 15, 3) := by decide +kernel
theorem s_151_5 {d : Nat} {Q : wQ} {L : List (Option Value)} {st : List Value} {w : aw} {cn sn : Nat} {x : Int32} : wp d 151 Q 5 L (.int x :: st) w cn sn = ((x = 0 → wp d 151 Q 20 L st w cn sn) ∧ (¬ x = 0 → wp d 151 Q 8 L st w cn sn)) := w_ifeq d_151_5 (by decide)
theorem d_151_8 : decode (mB 151) 8 = .ok (.aload_n 0, 1) := by decide +kernel
theorem s_151_8 {d : Nat} {Q : wQ} {L : List (Option Value)} {st : List Value} {w : aw} {cn sn : Nat} {v : Nat} : wp d 151 Q 8 (some (.ref v) :: L) st w cn sn = wp d 151 Q 9 (some (.ref v) :: L) (.ref v :: st) w cn sn := w_aload_n d_151_8 rfl
theorem d_151_9 : decode (mB 151) 9 = .ok (.aload_n 0, 1) := by decide +kernel
theorem s_151_9 {d : Nat} {Q : wQ} {L : List (Option Value)} {st : List Value} {w : aw} {cn sn : Nat} {v : Nat} : wp d 151 Q 9 (some (.ref v) :: L) st w cn sn = wp d 151 Q 10 (some (.ref v) :: L) (.ref v :: st) w cn sn := w_aload_n d_151_9 rfl
theorem d_151_10 : decode (mB 151) 10 = .ok (.iload_n 1, 1) := by decide +kernel
theorem s_151_10 {d : Nat} {Q : wQ} {L : List (Option Value)} {st : List Value} {w : aw} {cn sn : Nat} {a0 : Option Value} {v : Int32} : wp d 151 Q 10 (a0 :: some (.int v) :: L) st w cn sn = wp d 151 Q 11 (a0 :: some (.int v) :: L) (.int v :: st) w cn sn := w_iload_n d_151_10 rfl
theorem d_151_11 : decode (mB 151) 11 = .ok (.invokevirtual 246, 3) := by decide +kernel
theorem s_151_11 {d : Nat} {Q : wQ} {L : List (Option Value)} {st : List Value} {w : aw} {cn sn : Nat} {v0 : Value} {b : Nat} : wp d 151 Q 11 L (v0 :: .ref b :: st) w cn sn = (kd w b = 9 ∧ catS st ≤ 8 ∧ wpD d 149 [.ref b, v0] w (fun v w' => wp d 151 Q 14 L (v.toList ++ st) w' cn sn)) := w_virtual (As := [v0]) d_151_11 (by decide +kernel : cT (mO 151) 246 = some (0, 149)) rfl (by decide +kernel) rfl (by decide +kernel) rfl
theorem d_151_14 : decode (mB 151) 14 = .ok (.invokevirtual 250, 3) := by decide +kernel
theorem s_151_14 {d : Nat} {Q : wQ} {L : List (Option Value)} {st : List Value} {w : aw} {cn sn : Nat} {v0 : Value} {b : Nat} : wp d 151 Q 14 L (v0 :: .ref b :: st) w cn sn = (kd w b = 9 ∧ catS st ≤ 8 ∧ wpD d 150 [.ref b, v0] w (fun v w' => wp d 151 Q 17 L (v.toList ++ st) w' cn sn)) := w_virtual (As := [v0]) d_151_14 (by decide +kernel : cT (mO 151) 250 = some (0, 150)) rfl (by decide +kernel) rfl (by decide +kernel) rfl
theorem d_151_17 : decode (mB 151) 17 = .ok (.goto 4, 3) := by decide +kernel
theorem s_151_17 {d : Nat} {Q : wQ} {L : List (Option Value)} {st : List Value} {w : aw} {cn sn : Nat}  : wp d 151 Q 17 L st w cn sn = wp d 151 Q 21 L st w cn sn := w_goto d_151_17 (by decide)
theorem d_151_20 : decode (mB 151) 20 = .ok (.iconst (-1), 1) := by decide +kernel
theorem s_151_20 {d : Nat} {Q : wQ} {L : List (Option Value)} {st : List Value} {w : aw} {cn sn : Nat}  : wp d 151 Q 20 L st w cn sn = wp d 151 Q 21 L (.int (-1) :: st) w cn sn := w_iconst d_151_20 (by decide)
theorem d_151_21 : decode (mB 151) 21 = .ok (.istore_n 2, 1) := by decide +kernel
theorem s_151_21 {d : Nat} {Q : wQ} {L : List (Option Value)} {st : List Value} {w : aw} {cn sn : Nat} {a0 a1 a2 : Option Value} {v : Int32} : wp d 151 Q 21 (a0 :: a1 :: a2 :: L) (.int v :: st) w cn sn = wp d 151 Q 22 (a0 :: clr a1 :: some (.int v) :: L) st w cn sn := w_istore_n d_151_21 (Nat.le_add_left 3 _) rfl
theorem d_151_22 : decode (mB 151) 22 = .ok (.iload_n 2, 1) := by decide +kernel
theorem s_151_22 {d : Nat} {Q : wQ} {L : List (Option Value)} {st : List Value} {w : aw} {cn sn : Nat} {a0 a1 : Option Value} {v : Int32} : wp d 151 Q 22 (a0 :: a1 :: some (.int v) :: L) st w cn sn = wp d 151 Q 23 (a0 :: a1 :: some (.int v) :: L) (.int v :: st) w cn sn := w_iload_n d_151_22 rfl
theorem d_151_23 : decode (mB 151) 23 = .ok (.aload_n 0, 1) := by decide +kernel
theorem s_151_23 {d : Nat} {Q : wQ} {L : List (Option Value)} {st : List Value} {w : aw} {cn sn : Nat} {v : Nat} : wp d 151 Q 23 (some (.ref v) :: L) st w cn sn = wp d 151 Q 24 (some (.ref v) :: L) (.ref v :: st) w cn sn := w_aload_n d_151_23 rfl
theorem d_151_24 : decode (mB 151) 24 = .ok (.getfield 103, 3) := by decide +kernel
theorem s_151_24 {d : Nat} {Q : wQ} {L : List (Option Value)} {st : List Value} {w : aw} {cn sn : Nat} {a : Nat} : wp d 151 Q 24 L (.ref a :: st) w cn sn = (kd w a = 9 ∧ wp d 151 Q 27 L (fd w 549 a :: st) w cn sn) := w_getfield d_151_24 (by decide +kernel : fT (mO 151) 103 = some (8, 37))
theorem d_151_27 : decode (mB 151) 27 = .ok (.bipush 7, 2) := by decide +kernel
theorem s_151_27 {d : Nat} {Q : wQ} {L : List (Option Value)} {st : List Value} {w : aw} {cn sn : Nat}  : wp d 151 Q 27 L st w cn sn = wp d 151 Q 29 L (.int 7 :: st) w cn sn := w_bipush d_151_27 (by decide)
theorem d_151_29 : decode (mB 151) 29 = .ok (.isub, 1) := by decide +kernel
theorem s_151_29 {d : Nat} {Q : wQ} {L : List (Option Value)} {st : List Value} {w : aw} {cn sn : Nat} {a b : Int32} : wp d 151 Q 29 L (.int b :: .int a :: st) w cn sn = wp d 151 Q 30 L (.int (a - b) :: st) w cn sn := wp_row d_151_29 _ _ _ _ _
theorem d_151_30 : decode (mB 151) 30 = .ok (.if_icmp .lt 25, 3) := by decide +kernel
theorem s_151_30 {d : Nat} {Q : wQ} {L : List (Option Value)} {st : List Value} {w : aw} {cn sn : Nat} {a b : Int32} : wp d 151 Q 30 L (.int b :: .int a :: st) w cn sn = ((a < b → wp d 151 Q 55 L st w cn sn) ∧ (¬ a < b → wp d 151 Q 33 L st w cn sn)) := w_iclt d_151_30 (by decide)
theorem d_151_33 : decode (mB 151) 33 = .ok (.iload_n 2, 1) := by decide +kernel
theorem s_151_33 {d : Nat} {Q : wQ} {L : List (Option Value)} {st : List Value} {w : aw} {cn sn : Nat} {a0 a1 : Option Value} {v : Int32} : wp d 151 Q 33 (a0 :: a1 :: some (.int v) :: L) st w cn sn = wp d 151 Q 34 (a0 :: a1 :: some (.int v) :: L) (.int v :: st) w cn sn := w_iload_n d_151_33 rfl
theorem d_151_34 : decode (mB 151) 34 = .ok (.aload_n 0, 1) := by decide +kernel
theorem s_151_34 {d : Nat} {Q : wQ} {L : List (Option Value)} {st : List Value} {w : aw} {cn sn : Nat} {v : Nat} : wp d 151 Q 34 (some (.ref v) :: L) st w cn sn = wp d 151 Q 35 (some (.ref v) :: L) (.ref v :: st) w cn sn := w_aload_n d_151_34 rfl
theorem d_151_35 : decode (mB 151) 35 = .ok (.getfield 103, 3) := by decide +kernel
theorem s_151_35 {d : Nat} {Q : wQ} {L : List (Option Value)} {st : List Value} {w : aw} {cn sn : Nat} {a : Nat} : wp d 151 Q 35 L (.ref a :: st) w cn sn = (kd w a = 9 ∧ wp d 151 Q 38 L (fd w 549 a :: st) w cn sn) := w_getfield d_151_35 (by decide +kernel : fT (mO 151) 103 = some (8, 37))
theorem d_151_38 : decode (mB 151) 38 = .ok (.iconst 1, 1) := by decide +kernel
theorem s_151_38 {d : Nat} {Q : wQ} {L : List (Option Value)} {st : List Value} {w : aw} {cn sn : Nat}  : wp d 151 Q 38 L st w cn sn = wp d 151 Q 39 L (.int 1 :: st) w cn sn := w_iconst d_151_38 (by decide)
theorem d_151_39 : decode (mB 151) 39 = .ok (.isub, 1) := by decide +kernel
theorem s_151_39 {d : Nat} {Q : wQ} {L : List (Option Value)} {st : List Value} {w : aw} {cn sn : Nat} {a b : Int32} : wp d 151 Q 39 L (.int b :: .int a :: st) w cn sn = wp d 151 Q 40 L (.int (a - b) :: st) w cn sn := wp_row d_151_39 _ _ _ _ _
theorem d_151_40 : decode (mB 151) 40 = .ok (.if_icmp .ge 15, 3) := by decide +kernel
theorem s_151_40 {d : Nat} {Q : wQ} {L : List (Option Value)} {st : List Value} {w : aw} {cn sn : Nat} {a b : Int32} : wp d 151 Q 40 L (.int b :: .int a :: st) w cn sn = ((b ≤ a → wp d 151 Q 55 L st w cn sn) ∧ (¬ b ≤ a → wp d 151 Q 43 L st w cn sn)) := w_icge d_151_40 (by decide)
theorem d_151_43 : decode (mB 151) 43 = .ok (.iload_n 2, 1) := by decide +kernel
theorem s_151_43 {d : Nat} {Q : wQ} {L : List (Option Value)} {st : List Value} {w : aw} {cn sn : Nat} {a0 a1 : Option Value} {v : Int32} : wp d 151 Q 43 (a0 :: a1 :: some (.int v) :: L) st w cn sn = wp d 151 Q 44 (a0 :: a1 :: some (.int v) :: L) (.int v :: st) w cn sn := w_iload_n d_151_43 rfl
theorem d_151_44 : decode (mB 151) 44 = .ok (.aload_n 0, 1) := by decide +kernel
theorem s_151_44 {d : Nat} {Q : wQ} {L : List (Option Value)} {st : List Value} {w : aw} {cn sn : Nat} {v : Nat} : wp d 151 Q 44 (some (.ref v) :: L) st w cn sn = wp d 151 Q 45 (some (.ref v) :: L) (.ref v :: st) w cn sn := w_aload_n d_151_44 rfl
theorem d_151_45 : decode (mB 151) 45 = .ok (.getfield 103, 3) := by decide +kernel
theorem s_151_45 {d : Nat} {Q : wQ} {L : List (Option Value)} {st : List Value} {w : aw} {cn sn : Nat} {a : Nat} : wp d 151 Q 45 L (.ref a :: st) w cn sn = (kd w a = 9 ∧ wp d 151 Q 48 L (fd w 549 a :: st) w cn sn) := w_getfield d_151_45 (by decide +kernel : fT (mO 151) 103 = some (8, 37))
theorem d_151_48 : decode (mB 151) 48 = .ok (.isub, 1) := by decide +kernel
theorem s_151_48 {d : Nat} {Q : wQ} {L : List (Option Value)} {st : List Value} {w : aw} {cn sn : Nat} {a b : Int32} : wp d 151 Q 48 L (.int b :: .int a :: st) w cn sn = wp d 151 Q 49 L (.int (a - b) :: st) w cn sn := wp_row d_151_48 _ _ _ _ _
theorem d_151_49 : decode (mB 151) 49 = .ok (.bipush 7, 2) := by decide +kernel
theorem s_151_49 {d : Nat} {Q : wQ} {L : List (Option Value)} {st : List Value} {w : aw} {cn sn : Nat}  : wp d 151 Q 49 L st w cn sn = wp d 151 Q 51 L (.int 7 :: st) w cn sn := w_bipush d_151_49 (by decide)
theorem d_151_51 : decode (mB 151) 51 = .ok (.iadd, 1) := by decide +kernel
theorem s_151_51 {d : Nat} {Q : wQ} {L : List (Option Value)} {st : List Value} {w : aw} {cn sn : Nat} {a b : Int32} : wp d 151 Q 51 L (.int b :: .int a :: st) w cn sn = wp d 151 Q 52 L (.int (a + b) :: st) w cn sn := wp_row d_151_51 _ _ _ _ _
theorem d_151_52 : decode (mB 151) 52 = .ok (.goto 4, 3) := by decide +kernel
theorem s_151_52 {d : Nat} {Q : wQ} {L : List (Option Value)} {st : List Value} {w : aw} {cn sn : Nat}  : wp d 151 Q 52 L st w cn sn = wp d 151 Q 56 L st w cn sn := w_goto d_151_52 (by decide)
theorem d_151_55 : decode (mB 151) 55 = .ok (.iconst (-1), 1) := by decide +kernel
theorem s_151_55 {d : Nat} {Q : wQ} {L : List (Option Value)} {st : List Value} {w : aw} {cn sn : Nat}  : wp d 151 Q 55 L st w cn sn = wp d 151 Q 56 L (.int (-1) :: st) w cn sn := w_iconst d_151_55 (by decide)
theorem d_151_56 : decode (mB 151) 56 = .ok (.ireturn, 1) := by decide +kernel
theorem s_151_56 {d : Nat} {Q : wQ} {L : List (Option Value)} {w : aw} {cn sn : Nat} {v : Int32} : wp d 151 Q 56 L [.int v] w cn sn = Q (some (.int v)) w := w_ireturn d_151_56 rfl
