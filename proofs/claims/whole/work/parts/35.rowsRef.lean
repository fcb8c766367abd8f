theorem d_139_0 : decode (mB 139) 0 = .ok (.aload_n 0, 1) := by decide +kernel
theorem s_139_0 {d : Nat} {Q : wQ} {L : List (Option Value)} {st : List Value} {w : aw} {cn sn : Nat} {v : Nat} : wp d 139 Q 0 (some (.ref v) :: L) st w cn sn = wp d 139 Q 1 (some (.ref v) :: L) (.ref v :: st) w cn sn := w_aload_n d_139_0 rfl
theorem d_139_1 : decode (mB 139) 1 = .ok (.iload_n 1, 1) := by decide +kernel
theorem s_139_1 {d : Nat} {Q : wQ} {L : List (Option Value)} {st : List Value} {w : aw} {cn sn : Nat} {a0 : Option Value} {v : Int32} : wp d 139 Q 1 (a0 :: some (.int v) :: L) st w cn sn = wp d 139 Q 2 (a0 :: some (.int v) :: L) (.int v :: st) w cn sn := w_iload_n d_139_1 rfl
theorem d_139_2 : decode (mB 139) 2 = .ok (.invokevirtual 205, 3) := by decide +kernel
theorem s_139_2 {d : Nat} {Q : wQ} {L : List (Option Value)} {st : List Value} {w : aw} {cn sn : Nat} {v0 : Value} {b : Nat} : wp d 139 Q 2 L (v0 :: .ref b :: st) w cn sn = (kd w b = 9 ∧ catS st ≤ 8 ∧ wpD d 106 [.ref b, v0] w (fun v w' => wp d 139 Q 5 L (v.toList ++ st) w' cn sn)) := w_virtual (As := [v0]) d_139_2 (by decide +kernel : cT (mO 139) 205 = some (0, 106)) rfl (by decide +kernel) rfl (by decide +kernel) rfl
theorem d_139_5 : decode (mB 139) 5 = .ok (.ifCond .eq 33, 3) := by decide +kernel
theorem s_139_5 {d : Nat} {Q : wQ} {L : List (Option Value)} {st : List Value} {w : aw} {cn sn : Nat} {x : Int32} : wp d 139 Q 5 L (.int x :: st) w cn sn = ((x = 0 → wp d 139 Q 38 L st w cn sn) ∧ (¬ x = 0 → wp d 139 Q 8 L st w cn sn)) := w_ifeq d_139_5 (by decide)
theorem d_139_8 : decode (mB 139) 8 = .ok (.iload_n 2, 1) := by decide +kernel
theorem s_139_8 {d : Nat} {Q : wQ} {L : List (Option Value)} {st : List Value} {w : aw} {cn sn : Nat} {a0 a1 : Option Value} {v : Int32} : wp d 139 Q 8 (a0 :: a1 :: some (.int v) :: L) st w cn sn = wp d 139 Q 9 (a0 :: a1 :: some (.int v) :: L) (.int v :: st) w cn sn := w_iload_n d_139_8 rfl
theorem d_139_9 : decode (mB 139) 9 = .ok (.iconst 0, 1) := by decide +kernel
theorem s_139_9 {d : Nat} {Q : wQ} {L : List (Option Value)} {st : List Value} {w : aw} {cn sn : Nat}  : wp d 139 Q 9 L st w cn sn = wp d 139 Q 10 L (.int 0 :: st) w cn sn := w_iconst d_139_9 (by decide)
theorem d_139_10 : decode (mB 139) 10 = .ok (.aload_n 0, 1) := by decide +kernel
theorem s_139_10 {d : Nat} {Q : wQ} {L : List (Option Value)} {st : List Value} {w : aw} {cn sn : Nat} {v : Nat} : wp d 139 Q 10 (some (.ref v) :: L) st w cn sn = wp d 139 Q 11 (some (.ref v) :: L) (.ref v :: st) w cn sn := w_aload_n d_139_10 rfl
theorem d_139_11 : decode (mB 139) 11 = .ok (.getfield 57, 3) := by decide +kernel
theorem s_139_11 {d : Nat} {Q : wQ} {L : List (Option Value)} {st : List Value} {w : aw} {cn sn : Nat} {a : Nat} : wp d 139 Q 11 L (.ref a :: st) w cn sn = (kd w a = 9 ∧ wp d 139 Q 14 L (fd w 537 a :: st) w cn sn) := w_getfield d_139_11 (by decide +kernel : fT (mO 139) 57 = some (8, 25))
theorem d_139_14 : decode (mB 139) 14 = .ok (.iload_n 1, 1) := by decide +kernel
theorem s_139_14 {d : Nat} {Q : wQ} {L : List (Option Value)} {st : List Value} {w : aw} {cn sn : Nat} {a0 : Option Value} {v : Int32} : wp d 139 Q 14 (a0 :: some (.int v) :: L) st w cn sn = wp d 139 Q 15 (a0 :: some (.int v) :: L) (.int v :: st) w cn sn := w_iload_n d_139_14 rfl
theorem d_139_15 : decode (mB 139) 15 = .ok (.iaload, 1) := by decide +kernel
theorem s_139_15 {d : Nat} {Q : wQ} {L : List (Option Value)} {st : List Value} {w : aw} {cn sn : Nat} {a : Nat} {i : Int32} : wp d 139 Q 15 L (.int i :: .ref a :: st) w cn sn = ((kd w a = 20 ∨ kd w a = 30) ∧ inR i (ln w a) ∧ wp d 139 Q 16 L (.int (ai w a i.toNatClampNeg) :: st) w cn sn) := wp_row d_139_15 _ _ _ _ _
theorem d_139_16 : decode (mB 139) 16 = .ok (.iconst 1, 1) := by decide +kernel
theorem s_139_16 {d : Nat} {Q : wQ} {L : List (Option Value)} {st : List Value} {w : aw} {cn sn : Nat}  : wp d 139 Q 16 L st w cn sn = wp d 139 Q 17 L (.int 1 :: st) w cn sn := w_iconst d_139_16 (by decide)
theorem d_139_17 : decode (mB 139) 17 = .ok (.isub, 1) := by decide +kernel
theorem s_139_17 {d : Nat} {Q : wQ} {L : List (Option Value)} {st : List Value} {w : aw} {cn sn : Nat} {a b : Int32} : wp d 139 Q 17 L (.int b :: .int a :: st) w cn sn = wp d 139 Q 18 L (.int (a - b) :: st) w cn sn := wp_row d_139_17 _ _ _ _ _
theorem d_139_18 : decode (mB 139) 18 = .ok (.invokestatic 111, 3) := by decide +kernel
theorem s_139_18 {d : Nat} {Q : wQ} {L : List (Option Value)} {st : List Value} {w : aw} {cn sn : Nat} {v0 v1 v2 : Value} : wp d 139 Q 18 L (v2 :: v1 :: v0 :: st) w cn sn = (catS st ≤ 8 ∧ wpD d 105 [v0, v1, v2] w (fun v w' => wp d 139 Q 21 L (v.toList ++ st) w' cn sn)) := w_static (As := [v0, v1, v2]) d_139_18 (by decide +kernel : cT (mO 139) 111 = some (2, 105)) (by decide +kernel) rfl (by decide +kernel) rfl
theorem d_139_21 : decode (mB 139) 21 = .ok (.ifCond .eq 17, 3) := by decide +kernel
theorem s_139_21 {d : Nat} {Q : wQ} {L : List (Option Value)} {st : List Value} {w : aw} {cn sn : Nat} {x : Int32} : wp d 139 Q 21 L (.int x :: st) w cn sn = ((x = 0 → wp d 139 Q 38 L st w cn sn) ∧ (¬ x = 0 → wp d 139 Q 24 L st w cn sn)) := w_ifeq d_139_21 (by decide)
theorem d_139_24 : decode (mB 139) 24 = .ok (.aload_n 0, 1) := by decide +kernel
theorem s_139_24 {d : Nat} {Q : wQ} {L : List (Option Value)} {st : List Value} {w : aw} {cn sn : Nat} {v : Nat} : wp d 139 Q 24 (some (.ref v) :: L) st w cn sn = wp d 139 Q 25 (some (.ref v) :: L) (.ref v :: st) w cn sn := w_aload_n d_139_24 rfl
theorem d_139_25 : decode (mB 139) 25 = .ok (.getfield 54, 3) := by decide +kernel
theorem s_139_25 {d : Nat} {Q : wQ} {L : List (Option Value)} {st : List Value} {w : aw} {cn sn : Nat} {a : Nat} : wp d 139 Q 25 L (.ref a :: st) w cn sn = (kd w a = 9 ∧ wp d 139 Q 28 L (fd w 536 a :: st) w cn sn) := w_getfield d_139_25 (by decide +kernel : fT (mO 139) 54 = some (8, 24))
theorem d_139_28 : decode (mB 139) 28 = .ok (.bipush 16, 2) := by decide +kernel
theorem s_139_28 {d : Nat} {Q : wQ} {L : List (Option Value)} {st : List Value} {w : aw} {cn sn : Nat}  : wp d 139 Q 28 L st w cn sn = wp d 139 Q 30 L (.int 16 :: st) w cn sn := w_bipush d_139_28 (by decide)
theorem d_139_30 : decode (mB 139) 30 = .ok (.iload_n 1, 1) := by decide +kernel
theorem s_139_30 {d : Nat} {Q : wQ} {L : List (Option Value)} {st : List Value} {w : aw} {cn sn : Nat} {a0 : Option Value} {v : Int32} : wp d 139 Q 30 (a0 :: some (.int v) :: L) st w cn sn = wp d 139 Q 31 (a0 :: some (.int v) :: L) (.int v :: st) w cn sn := w_iload_n d_139_30 rfl
theorem d_139_31 : decode (mB 139) 31 = .ok (.imul, 1) := by decide +kernel
theorem s_139_31 {d : Nat} {Q : wQ} {L : List (Option Value)} {st : List Value} {w : aw} {cn sn : Nat} {a b : Int32} : wp d 139 Q 31 L (.int b :: .int a :: st) w cn sn = wp d 139 Q 32 L (.int (a * b) :: st) w cn sn := wp_row d_139_31 _ _ _ _ _
theorem d_139_32 : decode (mB 139) 32 = .ok (.iload_n 2, 1) := by decide +kernel
theorem s_139_32 {d : Nat} {Q : wQ} {L : List (Option Value)} {st : List Value} {w : aw} {cn sn : Nat} {a0 a1 : Option Value} {v : Int32} : wp d 139 Q 32 (a0 :: a1 :: some (.int v) :: L) st w cn sn = wp d 139 Q 33 (a0 :: a1 :: some (.int v) :: L) (.int v :: st) w cn sn := w_iload_n d_139_32 rfl
theorem d_139_33 : decode (mB 139) 33 = .ok (.iadd, 1) := by decide +kernel
theorem s_139_33 {d : Nat} {Q : wQ} {L : List (Option Value)} {st : List Value} {w : aw} {cn sn : Nat} {a b : Int32} : wp d 139 Q 33 L (.int b :: .int a :: st) w cn sn = wp d 139 Q 34 L (.int (a + b) :: st) w cn sn := wp_row d_139_33 _ _ _ _ _
theorem d_139_34 : decode (mB 139) 34 = .ok (.iaload, 1) := by decide +kernel
theorem s_139_34 {d : Nat} {Q : wQ} {L : List (Option Value)} {st : List Value} {w : aw} {cn sn : Nat} {a : Nat} {i : Int32} : wp d 139 Q 34 L (.int i :: .ref a :: st) w cn sn = ((kd w a = 20 ∨ kd w a = 30) ∧ inR i (ln w a) ∧ wp d 139 Q 35 L (.int (ai w a i.toNatClampNeg) :: st) w cn sn) := wp_row d_139_34 _ _ _ _ _
theorem d_139_35 : decode (mB 139) 35 = .ok (.goto 4, 3) := by decide +kernel
theorem s_139_35 {d : Nat} {Q : wQ} {L : List (Option Value)} {st : List Value} {w : aw} {cn sn : Nat}  : wp d 139 Q 35 L st w cn sn = wp d 139 Q 39 L st w cn sn := w_goto d_139_35 (by decide)
theorem d_139_38 : decode (mB 139) 38 = .ok (.iconst (-1), 1) := by decide +kernel
theorem s_139_38 {d : Nat} {Q : wQ} {L : List (Option Value)} {st : List Value} {w : aw} {cn sn : Nat}  : wp d 139 Q 38 L st w cn sn = wp d 139 Q 39 L (.int (-1) :: st) w cn sn := w_iconst d_139_38 (by decide)
theorem d_139_39 : decode (mB 139) 39 = .ok (.ireturn, 1) := by decide +kernel
theorem s_139_39 {d : Nat} {Q : wQ} {L : List (Option Value)} {w : aw} {cn sn : Nat} {v : Int32} : wp d 139 Q 39 L [.int v] w cn sn = Q (some (.int v)) w := w_ireturn d_139_39 rfl
theorem d_140_0 : decode (mB 140) 0 = .ok (.aload_n 0, 1) := by decide +kernel
theorem s_140_0 {d : Nat} {Q : wQ} {L : List (Option Value)} {st : List Value} {w : aw} {cn sn : Nat} {v : Nat} : wp d 140 Q 0 (some (.ref v) :: L) st w cn sn = wp d 140 Q 1 (some (.ref v) :: L) (.ref v :: st) w cn sn := w_aload_n d_140_0 rfl
theorem d_140_1 : decode (mB 140) 1 = .ok (.iload_n 1, 1) := by decide +kernel
theorem s_140_1 {d : Nat} {Q : wQ} {L : List (Option Value)} {st : List Value} {w : aw} {cn sn : Nat} {a0 : Option Value} {v : Int32} : wp d 140 Q 1 (a0 :: some (.int v) :: L) st w cn sn = wp d 140 Q 2 (a0 :: some (.int v) :: L) (.int v :: st) w cn sn := w_iload_n d_140_1 rfl
theorem d_140_2 : decode (mB 140) 2 = .ok (.invokevirtual 205, 3) := by decide +kernel
theorem s_140_2 {d : Nat} {Q : wQ} {L : List (Option Value)} {st : List Value} {w : aw} {cn sn : Nat} {v0 : Value} {b : Nat} : wp d 140 Q 2 L (v0 :: .ref b :: st) w cn sn = (kd w b = 9 ∧ catS st ≤ 8 ∧ wpD d 106 [.ref b, v0] w (fun v w' => wp d 140 Q 5 L (v.toList ++ st) w' cn sn)) := w_virtual (As := [v0]) d_140_2 (by decide +kernel : cT (mO 140) 205 = some (0, 106)) rfl (by decide +kernel) rfl (by decide +kernel) rfl
theorem d_140_5 : decode (mB 140) 5 = .ok (.ifCond .eq 33, 3) := by decide +kernel
theorem s_140_5 {d : Nat} {Q : wQ} {L : List (Option Value)} {st : List Value} {w : aw} {cn sn : Nat} {x : Int32} : wp d 140 Q 5 L (.int x :: st) w cn sn = ((x = 0 → wp d 140 Q 38 L st w cn sn) ∧ (¬ x = 0 → wp d 140 Q 8 L st w cn sn)) := w_ifeq d_140_5 (by decide)
theorem d_140_8 : decode (mB 140) 8 = .ok (.iload_n 2, 1) := by decide +kernel
theorem s_140_8 {d : Nat} {Q : wQ} {L : List (Option Value)} {st : List Value} {w : aw} {cn sn : Nat} {a0 a1 : Option Value} {v : Int32} : wp d 140 Q 8 (a0 :: a1 :: some (.int v) :: L) st w cn sn = wp d 140 Q 9 (a0 :: a1 :: some (.int v) :: L) (.int v :: st) w cn sn := w_iload_n d_140_8 rfl
theorem d_140_9 : decode (mB 140) 9 = .ok (.iconst 0, 1) := by decide +kernel
theorem s_140_9 {d : Nat} {Q : wQ} {L : List (Option Value)} {st : List Value} {w : aw} {cn sn : Nat}  : wp d 140 Q 9 L st w cn sn = wp d 140 Q 10 L (.int 0 :: st) w cn sn := w_iconst d_140_9 (by decide)
theorem d_140_10 : decode (mB 140) 10 = .ok (.aload_n 0, 1) := by decide +kernel
theorem s_140_10 {d : Nat} {Q : wQ} {L : List (Option Value)} {st : List Value} {w : aw} {cn sn : Nat} {v : Nat} : wp d 140 Q 10 (some (.ref v) :: L) st w cn sn = wp d 140 Q 11 (some (.ref v) :: L) (.ref v :: st) w cn sn := w_aload_n d_140_10 rfl
theorem d_140_11 : decode (mB 140) 11 = .ok (.getfield 63, 3) := by decide +kernel
theorem s_140_11 {d : Nat} {Q : wQ} {L : List (Option Value)} {st : List Value} {w : aw} {cn sn : Nat} {a : Nat} : wp d 140 Q 11 L (.ref a :: st) w cn sn = (kd w a = 9 ∧ wp d 140 Q 14 L (fd w 539 a :: st) w cn sn) := w_getfield d_140_11 (by decide +kernel : fT (mO 140) 63 = some (8, 27))
theorem d_140_14 : decode (mB 140) 14 = .ok (.iload_n 1, 1) := by decide +kernel
theorem s_140_14 {d : Nat} {Q : wQ} {L : List (Option Value)} {st : List Value} {w : aw} {cn sn : Nat} {a0 : Option Value} {v : Int32} : wp d 140 Q 14 (a0 :: some (.int v) :: L) st w cn sn = wp d 140 Q 15 (a0 :: some (.int v) :: L) (.int v :: st) w cn sn := w_iload_n d_140_14 rfl
theorem d_140_15 : decode (mB 140) 15 = .ok (.iaload, 1) := by decide +kernel
theorem s_140_15 {d : Nat} {Q : wQ} {L : List (Option Value)} {st : List Value} {w : aw} {cn sn : Nat} {a : Nat} {i : Int32} : wp d 140 Q 15 L (.int i :: .ref a :: st) w cn sn = ((kd w a = 20 ∨ kd w a = 30) ∧ inR i (ln w a) ∧ wp d 140 Q 16 L (.int (ai w a i.toNatClampNeg) :: st) w cn sn) := wp_row d_140_15 _ _ _ _ _
theorem d_140_16 : decode (mB 140) 16 = .ok (.iconst 1, 1) := by decide +kernel
theorem s_140_16 {d : Nat} {Q : wQ} {L : List (Option Value)} {st : List Value} {w : aw} {cn sn : Nat}  : wp d 140 Q 16 L st w cn sn = wp d 140 Q 17 L (.int 1 :: st) w cn sn := w_iconst d_140_16 (by decide)
theorem d_140_17 : decode (mB 140) 17 = .ok (.isub, 1) := by decide +kernel
theorem s_140_17 {d : Nat} {Q : wQ} {L : List (Option Value)} {st : List Value} {w : aw} {cn sn : Nat} {a b : Int32} : wp d 140 Q 17 L (.int b :: .int a :: st) w cn sn = wp d 140 Q 18 L (.int (a - b) :: st) w cn sn := wp_row d_140_17 _ _ _ _ _
theorem d_140_18 : decode (mB 140) 18 = .ok (.invokestatic 111, 3) := by decide +kernel
theorem s_140_18 {d : Nat} {Q : wQ} {L : List (Option Value)} {st : List Value} {w : aw} {cn sn : Nat} {v0 v1 v2 : Value} : wp d 140 Q 18 L (v2 :: v1 :: v0 :: st) w cn sn = (catS st ≤ 8 ∧ wpD d 105 [v0, v1, v2] w (fun v w' => wp d 140 Q 21 L (v.toList ++ st) w' cn sn)) := w_static (As := [v0, v1, v2]) d_140_18 (by decide +kernel : cT (mO 140) 111 = some (2, 105)) (by decide +kernel) rfl (by decide +kernel) rfl
theorem d_140_21 : decode (mB 140) 21 = .ok (.ifCond .eq 17, 3) := by decide +kernel
theorem s_140_21 {d : Nat} {Q : wQ} {L : List (Option Value)} {st : List Value} {w : aw} {cn sn : Nat} {x : Int32} : wp d 140 Q 21 L (.int x :: st) w cn sn = ((x = 0 → wp d 140 Q 38 L st w cn sn) ∧ (¬ x = 0 → wp d 140 Q 24 L st w cn sn)) := w_ifeq d_140_21 (by decide)
theorem d_140_24 : decode (mB 140) 24 = .ok (.aload_n 0, 1) := by decide +kernel
theorem s_140_24 {d : Nat} {Q : wQ} {L : List (Option Value)} {st : List Value} {w : aw} {cn sn : Nat} {v : Nat} : wp d 140 Q 24 (some (.ref v) :: L) st w cn sn = wp d 140 Q 25 (some (.ref v) :: L) (.ref v :: st) w cn sn := w_aload_n d_140_24 rfl
theorem d_140_25 : decode (mB 140) 25 = .ok (.getfield 60, 3) := by decide +kernel
theorem s_140_25 {d : Nat} {Q : wQ} {L : List (Option Value)} {st : List Value} {w : aw} {cn sn : Nat} {a : Nat} : wp d 140 Q 25 L (.ref a :: st) w cn sn = (kd w a = 9 ∧ wp d 140 Q 28 L (fd w 538 a :: st) w cn sn) := w_getfield d_140_25 (by decide +kernel : fT (mO 140) 60 = some (8, 26))
theorem d_140_28 : decode (mB 140) 28 = .ok (.bipush 16, 2) := by decide +kernel
theorem s_140_28 {d : Nat} {Q : wQ} {L : List (Option Value)} {st : List Value} {w : aw} {cn sn : Nat}  : wp d 140 Q 28 L st w cn sn = wp d 140 Q 30 L (.int 16 :: st) w cn sn := w_bipush d_140_28 (by decide)
theorem d_140_30 : decode (mB 140) 30 = .ok (.iload_n 1, 1) := by decide +kernel
theorem s_140_30 {d : Nat} {Q : wQ} {L : List (Option Value)} {st : List Value} {w : aw} {cn sn : Nat} {a0 : Option Value} {v : Int32} : wp d 140 Q 30 (a0 :: some (.int v) :: L) st w cn sn = wp d 140 Q 31 (a0 :: some (.int v) :: L) (.int v :: st) w cn sn := w_iload_n d_140_30 rfl
theorem d_140_31 : decode (mB 140) 31 = .ok (.imul, 1) := by decide +kernel
theorem s_140_31 {d : Nat} {Q : wQ} {L : List (Option Value)} {st : List Value} {w : aw} {cn sn : Nat} {a b : Int32} : wp d 140 Q 31 L (.int b :: .int a :: st) w cn sn = wp d 140 Q 32 L (.int (a * b) :: st) w cn sn := wp_row d_140_31 _ _ _ _ _
theorem d_140_32 : decode (mB 140) 32 = .ok (.iload_n 2, 1) := by decide +kernel
theorem s_140_32 {d : Nat} {Q : wQ} {L : List (Option Value)} {st : List Value} {w : aw} {cn sn : Nat} {a0 a1 : Option Value} {v : Int32} : wp d 140 Q 32 (a0 :: a1 :: some (.int v) :: L) st w cn sn = wp d 140 Q 33 (a0 :: a1 :: some (.int v) :: L) (.int v :: st) w cn sn := w_iload_n d_140_32 rfl
theorem d_140_33 : decode (mB 140) 33 = .ok (.iadd, 1) := by decide +kernel
theorem s_140_33 {d : Nat} {Q : wQ} {L : List (Option Value)} {st : List Value} {w : aw} {cn sn : Nat} {a b : Int32} : wp d 140 Q 33 L (.int b :: .int a :: st) w cn sn = wp d 140 Q 34 L (.int (a + b) :: st) w cn sn := wp_row d_140_33 _ _ _ _ _
theorem d_140_34 : decode (mB 140) 34 = .ok (.iaload, 1) := by decide +kernel
theorem s_140_34 {d : Nat} {Q : wQ} {L : List (Option Value)} {st : List Value} {w : aw} {cn sn : Nat} {a : Nat} {i : Int32} : wp d 140 Q 34 L (.int i :: .ref a :: st) w cn sn = ((kd w a = 20 ∨ kd w a = 30) ∧ inR i (ln w a) ∧ wp d 140 Q 35 L (.int (ai w a i.toNatClampNeg) :: st) w cn sn) := wp_row d_140_34 _ _ _ _ _
theorem d_140_35 : decode (mB 140) 35 = .ok (.goto 4, 3) := by decide +kernel
theorem s_140_35 {d : Nat} {Q : wQ} {L : List (Option Value)} {st : List Value} {w : aw} {cn sn : Nat}  : wp d 140 Q 35 L st w cn sn = wp d 140 Q 39 L st w cn sn := w_goto d_140_35 (by decide)
theorem d_140_38 : decode (mB 140) 38 = .ok (.iconst (-1), 1) := by decide +kernel
theorem s_140_38 {d : Nat} {Q : wQ} {L : List (Option Value)} {st : List Value} {w : aw} {cn sn : Nat}  : wp d 140 Q 38 L st w cn sn = wp d 140 Q 39 L (.int (-1) :: st) w cn sn := w_iconst d_140_38 (by decide)
theorem d_140_39 : decode (mB 140) 39 = .ok (.ireturn, 1) := by decide +kernel
theorem s_140_39 {d : Nat} {Q : wQ} {L : List (Option Value)} {w : aw} {cn sn : Nat} {v : Int32} : wp d 140 Q 39 L [.int v] w cn sn = Q (some (.int v)) w := w_ireturn d_140_39 rfl
theorem d_141_0 : decode (mB 141) 0 = .ok (.aload_n 0, 1) := by decide +kernel
theorem s_141_0 {d : Nat} {Q : wQ} {L : List (Option Value)} {st : List Value} {w : aw} {cn sn : Nat} {v : Nat} : wp d 141 Q 0 (some (.ref v) :: L) st w cn sn = wp d 141 Q 1 (some (.ref v) :: L) (.ref v :: st) w cn sn := w_aload_n d_141_0 rfl
theorem d_141_1 : decode (mB 141) 1 = .ok (.getfield 108, 3) := by decide +kernel
theorem s_141_1 {d : Nat} {Q : wQ} {L : List (Option Value)} {st : List Value} {w : aw} {cn sn : Nat} {a : Nat} : wp d 141 Q 1 L (.ref a :: st) w cn sn = (kd w a = 9 ∧ wp d 141 Q 4 L (fd w 512 a :: st) w cn sn) := w_getfield d_141_1 (by decide +kernel : fT (mO 141) 108 = some (8, 0))
theorem d_141_4 : decode (mB 141) 4 = .ok (.ifCond .ne 5, 3) := by decide +kernel
theorem s_141_4 {d : Nat} {Q : wQ} {L : List (Option Value)} {st : List Value} {w : aw} {cn sn : Nat} {x : Int32} : wp d 141 Q 4 L (.int x :: st) w cn sn = ((¬ x = 0 → wp d 141 Q 9 L st w cn sn) ∧ (x = 0 → wp d 141 Q 7 L st w cn sn)) := w_ifne d_141_4 (by decide)
theorem d_141_7 : decode (mB 141) 7 = .ok (.iconst (-1), 1) := by decide +kernel
theorem s_141_7 {d : Nat} {Q : wQ} {L : List (Option Value)} {st : List Value} {w : aw} {cn sn : Nat}  : wp d 141 Q 7 L st w cn sn = wp d 141 Q 8 L (.int (-1) :: st) w cn sn := w_iconst d_141_7 (by decide)
theorem d_141_8 : decode (mB 141) 8 = .ok (.ireturn, 1) := by decide +kernel
theorem s_141_8 {d : Nat} {Q : wQ} {L : List (Option Value)} {w : aw} {cn sn : Nat} {v : Int32} : wp d 141 Q 8 L [.int v] w cn sn = Q (some (.int v)) w := w_ireturn d_141_8 rfl
theorem d_141_9 : decode (mB 141) 9 = .ok (.iload_n 1, 1) := by decide +kernel
theorem s_141_9 {d : Nat} {Q : wQ} {L : List (Option Value)} {st : List Value} {w : aw} {cn sn : Nat} {a0 : Option Value} {v : Int32} : wp d 141 Q 9 (a0 :: some (.int v) :: L) st w cn sn = wp d 141 Q 10 (a0 :: some (.int v) :: L) (.int v :: st) w cn sn := w_iload_n d_141_9 rfl
theorem d_141_10 : decode (mB 141) 10 = .ok (.tableswitch 113 0 10 #[58, 63, 68, 73, 78, 83, 88, 93, 98, 103, 108], 58) := by decide +kernel
theorem s_141_10 {d : Nat} {Q : wQ} {L : List (Option Value)} {st : List Value} {w : aw} {cn sn : Nat} {x : Int32} : wp d 141 Q 10 L (.int x :: st) w cn sn = ((x.toInt < 0 ∨ 10 < x.toInt → wp d 141 Q 123 L st w cn sn) ∧ ∀ (i t : Nat), ([68, 73, 78, 83, 88, 93, 98, 103, 108, 113, 118] : List Nat)[i]? = some t → x.toInt = 0 + i → wp d 141 Q t L st w cn sn) := w_table d_141_10 (by decide) (by decide) (by decide)
theorem d_141_68 : decode (mB 141) 68 = .ok (.aload_n 0, 1) := by decide +kernel
theorem s_141_68 {d : Nat} {Q : wQ} {L : List (Option Value)} {st : List Value} {w : aw} {cn sn : Nat} {v : Nat} : wp d 141 Q 68 (some (.ref v) :: L) st w cn sn = wp d 141 Q 69 (some (.ref v) :: L) (.ref v :: st) w cn sn := w_aload_n d_141_68 rfl
theorem d_141_69 : decode (mB 141) 69 = .ok (.getfield 108, 3) := by decide +kernel
theorem s_141_69 {d : Nat} {Q : wQ} {L : List (Option Value)} {st : List Value} {w : aw} {cn sn : Nat} {a : Nat} : wp d 141 Q 69 L (.ref a :: st) w cn sn = (kd w a = 9 ∧ wp d 141 Q 72 L (fd w 512 a :: st) w cn sn) := w_getfield d_141_69 (by decide +kernel : fT (mO 141) 108 = some (8, 0))
theorem d_141_72 : decode (mB 141) 72 = .ok (.ireturn, 1) := by decide +kernel
theorem s_141_72 {d : Nat} {Q : wQ} {L : List (Option Value)} {w : aw} {cn sn : Nat} {v : Int32} : wp d 141 Q 72 L [.int v] w cn sn = Q (some (.int v)) w := w_ireturn d_141_72 rfl
theorem d_141_73 : decode (mB 141) 73 = .ok (.aload_n 0, 1) := by decide +kernel
theorem s_141_73 {d : Nat} {Q : wQ} {L : List (Option Value)} {st : List Value} {w : aw} {cn sn : Nat} {v : Nat} : wp d 141 Q 73 (some (.ref v) :: L) st w cn sn = wp d 141 Q 74 (some (.ref v) :: L) (.ref v :: st) w cn sn := w_aload_n d_141_73 rfl
theorem d_141_74 : decode (mB 141) 74 = .ok (.getfield 172, 3) := by decide +kernel
theorem s_141_74 {d : Nat} {Q : wQ} {L : List (Option Value)} {st : List Value} {w : aw} {cn sn : Nat} {a : Nat} : wp d 141 Q 74 L (.ref a :: st) w cn sn = (kd w a = 9 ∧ wp d 141 Q 77 L (fd w 513 a :: st) w cn sn) := w_getfield d_141_74 (by decide +kernel : fT (mO 141) 172 = some (8, 1))
theorem d_141_77 : decode (mB 141) 77 = .ok (.ireturn, 1) := by decide +kernel
theorem s_141_77 {d : Nat} {Q : wQ} {L : List (Option Value)} {w : aw} {cn sn : Nat} {v : Int32} : wp d 141 Q 77 L [.int v] w cn sn = Q (some (.int v)) w := w_ireturn d_141_77 rfl
theorem d_141_78 : decode (mB 141) 78 = .ok (.aload_n 0, 1) := by decide +kernel
theorem s_141_78 {d : Nat} {Q : wQ} {L : List (Option Value)} {st : List Value} {w : aw} {cn sn : Nat} {v : Nat} : wp d 141 Q 78 (some (.ref v) :: L) st w cn sn = wp d 141 Q 79 (some (.ref v) :: L) (.ref v :: st) w cn sn := w_aload_n d_141_78 rfl
theorem d_141_79 : decode (mB 141) 79 = .ok (.getfield 166, 3) := by decide +kernel
theorem s_141_79 {d : Nat} {Q : wQ} {L : List (Option Value)} {st : List Value} {w : aw} {cn sn : Nat} {a : Nat} : wp d 141 Q 79 L (.ref a :: st) w cn sn = (kd w a = 9 ∧ wp d 141 Q 82 L (fd w 514 a :: st) w cn sn) := w_getfield d_141_79 (by decide +kernel : fT (mO 141) 166 = some (8, 2))
theorem d_141_82 : decode (mB 141) 82 = .ok (.ireturn, 1) := by decide +kernel
theorem s_141_82 {d : Nat} {Q : wQ} {L : List (Option Value)} {w : aw} {cn sn : Nat} {v : Int32} : wp d 141 Q 82 L [.int v] w cn sn = Q (some (.int v)) w := w_ireturn d_141_82 rfl
theorem d_141_83 : decode (mB 141) 83 = .ok (.aload_n 0, 1) := by decide +kernel
theorem s_141_83 {d : Nat} {Q : wQ} {L : List (Option Value)} {st : List Value} {w : aw} {cn sn : Nat} {v : Nat} : wp d 141 Q 83 (some (.ref v) :: L) st w cn sn = wp d 141 Q 84 (some (.ref v) :: L) (.ref v :: st) w cn sn := w_aload_n d_141_83 rfl
theorem d_141_84 : decode (mB 141) 84 = .ok (.getfield 184, 3) := by decide +kernel
theorem s_141_84 {d : Nat} {Q : wQ} {L : List (Option Value)} {st : List Value} {w : aw} {cn sn : Nat} {a : Nat} : wp d 141 Q 84 L (.ref a :: st) w cn sn = (kd w a = 9 ∧ wp d 141 Q 87 L (fd w 515 a :: st) w cn sn) := w_getfield d_141_84 (by decide +kernel : fT (mO 141) 184 = some (8, 3))
theorem d_141_87 : decode (mB 141) 87 = .ok (.ireturn, 1) := by decide +kernel
theorem s_141_87 {d : Nat} {Q : wQ} {L : List (Option Value)} {w : aw} {cn sn : Nat} {v : Int32} : wp d 141 Q 87 L [.int v] w cn sn = Q (some (.int v)) w := w_ireturn d_141_87 rfl
theorem d_141_88 : decode (mB 141) 88 = .ok (.aload_n 0, 1) := by decide +kernel
theorem s_141_88 {d : Nat} {Q : wQ} {L : List (Option Value)} {st : List Value} {w : aw} {cn sn : Nat} {v : Nat} : wp d 141 Q 88 (some (.ref v) :: L) st w cn sn = wp d 141 Q 89 (some (.ref v) :: L) (.ref v :: st) w cn sn := w_aload_n d_141_88 rfl
theorem d_141_89 : decode (mB 141) 89 = .ok (.getfield 175, 3) := by decide +kernel
theorem s_141_89 {d : Nat} {Q : wQ} {L : List (Option Value)} {st : List Value} {w : aw} {cn sn : Nat} {a : Nat} : wp d 141 Q 89 L (.ref a :: st) w cn sn = (kd w a = 9 ∧ wp d 141 Q 92 L (fd w 516 a :: st) w cn sn) := w_getfield d_141_89 (by decide +kernel : fT (mO 141) 175 = some (8, 4))
theorem d_141_92 : decode (mB 141) 92 = .ok (.ireturn, 1) := by decide +kernel
theorem s_141_92 {d : Nat} {Q : wQ} {L : List (Option Value)} {w : aw} {cn sn : Nat} {v : Int32} : wp d 141 Q 92 L [.int v] w cn sn = Q (some (.int v)) w := w_ireturn d_141_92 rfl
theorem d_141_93 : decode (mB 141) 93 = .ok (.aload_n 0, 1) := by decide +kernel
theorem s_141_93 {d : Nat} {Q : wQ} {L : List (Option Value)} {st : List Value} {w : aw} {cn sn : Nat} {v : Nat} : wp d 141 Q 93 (some (.ref v) :: L) st w cn sn = wp d 141 Q 94 (some (.ref v) :: L) (.ref v :: st) w cn sn := w_aload_n d_141_93 rfl
theorem d_141_94 : decode (mB 141) 94 = .ok (.getfield 159, 3) := by decide +kernel
theorem s_141_94 {d : Nat} {Q : wQ} {L : List (Option Value)} {st : List Value} {w : aw} {cn sn : Nat} {a : Nat} : wp d 141 Q 94 L (.ref a :: st) w cn sn = (kd w a = 9 ∧ wp d 141 Q 97 L (fd w 517 a :: st) w cn sn) := w_getfield d_141_94 (by decide +kernel : fT (mO 141) 159 = some (8, 5))
theorem d_141_97 : decode (mB 141) 97 = .ok (.ireturn, 1) := by decide +kernel
theorem s_141_97 {d : Nat} {Q : wQ} {L : List (Option Value)} {w : aw} {cn sn : Nat} {v : Int32} : wp d 141 Q 97 L [.int v] w cn sn = Q (some (.int v)) w := w_ireturn d_141_97 rfl
theorem d_141_98 : decode (mB 141) 98 = .ok (.aload_n 0, 1) := by decide +kernel
theorem s_141_98 {d : Nat} {Q : wQ} {L : List (Option Value)} {st : List Value} {w : aw} {cn sn : Nat} {v : Nat} : wp d 141 Q 98 (some (.ref v) :: L) st w cn sn = wp d 141 Q 99 (some (.ref v) :: L) (.ref v :: st) w cn sn := w_aload_n d_141_98 rfl
theorem d_141_99 : decode (mB 141) 99 = .ok (.getfield 13, 3) := by decide +kernel
theorem s_141_99 {d : Nat} {Q : wQ} {L : List (Option Value)} {st : List Value} {w : aw} {cn sn : Nat} {a : Nat} : wp d 141 Q 99 L (.ref a :: st) w cn sn = (kd w a = 9 ∧ wp d 141 Q 102 L (fd w 521 a :: st) w cn sn) := w_getfield d_141_99 (by decide +kernel : fT (mO 141) 13 = some (8, 9))
theorem d_141_102 : decode (mB 141) 102 = .ok (.ireturn, 1) := by decide +kernel
theorem s_141_102 {d : Nat} {Q : wQ} {L : List (Option Value)} {w : aw} {cn sn : Nat} {v : Int32} : wp d 141 Q 102 L [.int v] w cn sn = Q (some (.int v)) w := w_ireturn d_141_102 rfl
theorem d_141_103 : decode (mB 141) 103 = .ok (.aload_n 0, 1) := by decide +kernel
theorem s_141_103 {d : Nat} {Q : wQ} {L : List (Option Value)} {st : List Value} {w : aw} {cn sn : Nat} {v : Nat} : wp d 141 Q 103 (some (.ref v) :: L) st w cn sn = wp d 141 Q 104 (some (.ref v) :: L) (.ref v :: st) w cn sn := w_aload_n d_141_103 rfl
theorem d_141_104 : decode (mB 141) 104 = .ok (.getfield 156, 3) := by decide +kernel
theorem s_141_104 {d : Nat} {Q : wQ} {L : List (Option Value)} {st : List Value} {w : aw} {cn sn : Nat} {a : Nat} : wp d 141 Q 104 L (.ref a :: st) w cn sn = (kd w a = 9 ∧ wp d 141 Q 107 L (fd w 524 a :: st) w cn sn) := w_getfield d_141_104 (by decide +kernel : fT (mO 141) 156 = some (8, 12))
theorem d_141_107 : decode (mB 141) 107 = .ok (.ireturn, 1) := by decide +kernel
theorem s_141_107 {d : Nat} {Q : wQ} {L : List (Option Value)} {w : aw} {cn sn : Nat} {v : Int32} : wp d 141 Q 107 L [.int v] w cn sn = Q (some (.int v)) w := w_ireturn d_141_107 rfl
theorem d_141_108 : decode (mB 141) 108 = .ok (.aload_n 0, 1) := by decide +kernel
theorem s_141_108 {d : Nat} {Q : wQ} {L : List (Option Value)} {st : List Value} {w : aw} {cn sn : Nat} {v : Nat} : wp d 141 Q 108 (some (.ref v) :: L) st w cn sn = wp d 141 Q 109 (some (.ref v) :: L) (.ref v :: st) w cn sn := w_aload_n d_141_108 rfl
theorem d_141_109 : decode (mB 141) 109 = .ok (.getfield 169, 3) := by decide +kernel
theorem s_141_109 {d : Nat} {Q : wQ} {L : List (Option Value)} {st : List Value} {w : aw} {cn sn : Nat} {a : Nat} : wp d 141 Q 109 L (.ref a :: st) w cn sn = (kd w a = 9 ∧ wp d 141 Q 112 L (fd w 518 a :: st) w cn sn) := w_getfield d_141_109 (by decide +kernel : fT (mO 141) 169 = some (8, 6))
theorem d_141_112 : decode (mB 141) 112 = .ok (.ireturn, 1) := by decide +kernel
theorem s_141_112 {d : Nat} {Q : wQ} {L : List (Option Value)} {w : aw} {cn sn : Nat} {v : Int32} : wp d 141 Q 112 L [.int v] w cn sn = Q (some (.int v)) w := w_ireturn d_141_112 rfl
theorem d_141_113 : decode (mB 141) 113 = .ok (.aload_n 0, 1) := by decide +kernel
theorem s_141_113 {d : Nat} {Q : wQ} {L : List (Option Value)} {st : List Value} {w : aw} {cn sn : Nat} {v : Nat} : wp d 141 Q 113 (some (.ref v) :: L) st w cn sn = wp d 141 Q 114 (some (.ref v) :: L) (.ref v :: st) w cn sn := w_aload_n d_141_113 rfl
theorem d_141_114 : decode (mB 141) 114 = .ok (.getfield 7, 3) := by decide +kernel
theorem s_141_114 {d : Nat} {Q : wQ} {L : List (Option Value)} {st : List Value} {w : aw} {cn sn : Nat} {a : Nat} : wp d 141 Q 114 L (.ref a :: st) w cn sn = (kd w a = 9 ∧ wp d 141 Q 117 L (fd w 519 a :: st) w cn sn) := w_getfield d_141_114 (by decide +kernel : fT (mO 141) 7 = some (8, 7))
theorem d_141_117 : decode (mB 141) 117 = .ok (.ireturn, 1) := by decide +kernel
theorem s_141_117 {d : Nat} {Q : wQ} {L : List (Option Value)} {w : aw} {cn sn : Nat} {v : Int32} : wp d 141 Q 117 L [.int v] w cn sn = Q (some (.int v)) w := w_ireturn d_141_117 rfl
theorem d_141_118 : decode (mB 141) 118 = .ok (.aload_n 0, 1) := by decide +kernel
theorem s_141_118 {d : Nat} {Q : wQ} {L : List (Option Value)} {st : List Value} {w : aw} {cn sn : Nat} {v : Nat} : wp d 141 Q 118 (some (.ref v) :: L) st w cn sn = wp d 141 Q 119 (some (.ref v) :: L) (.ref v :: st) w cn sn := w_aload_n d_141_118 rfl
theorem d_141_119 : decode (mB 141) 119 = .ok (.getfield 181, 3) := by decide +kernel
theorem s_141_119 {d : Nat} {Q : wQ} {L : List (Option Value)} {st : List Value} {w : aw} {cn sn : Nat} {a : Nat} : wp d 141 Q 119 L (.ref a :: st) w cn sn = (kd w a = 9 ∧ wp d 141 Q 122 L (fd w 520 a :: st) w cn sn) := w_getfield d_141_119 (by decide +kernel : fT (mO 141) 181 = some (8, 8))
theorem d_141_122 : decode (mB 141) 122 = .ok (.ireturn, 1) := by decide +kernel
theorem s_141_122 {d : Nat} {Q : wQ} {L : List (Option Value)} {w : aw} {cn sn : Nat} {v : Int32} : wp d 141 Q 122 L [.int v] w cn sn = Q (some (.int v)) w := w_ireturn d_141_122 rfl
theorem d_141_123 : decode (mB 141) 123 = .ok (.iconst (-1), 1) := by decide +kernel
theorem s_141_123 {d : Nat} {Q : wQ} {L : List (Option Value)} {st : List Value} {w : aw} {cn sn : Nat}  : wp d 141 Q 123 L st w cn sn = wp d 141 Q 124 L (.int (-1) :: st) w cn sn := w_iconst d_141_123 (by decide)
theorem d_141_124 : decode (mB 141) 124 = .ok (.ireturn, 1) := by decide +kernel
theorem s_141_124 {d : Nat} {Q : wQ} {L : List (Option Value)} {w : aw} {cn sn : Nat} {v : Int32} : wp d 141 Q 124 L [.int v] w cn sn = Q (some (.int v)) w := w_ireturn d_141_124 rfl
theorem d_142_0 : decode (mB 142) 0 = .ok (.iload_n 1, 1) := by decide +kernel
theorem s_142_0 {d : Nat} {Q : wQ} {L : List (Option Value)} {st : List Value} {w : aw} {cn sn : Nat} {a0 : Option Value} {v : Int32} : wp d 142 Q 0 (a0 :: some (.int v) :: L) st w cn sn = wp d 142 Q 1 (a0 :: some (.int v) :: L) (.int v :: st) w cn sn := w_iload_n d_142_0 rfl
theorem d_142_1 : decode (mB 142) 1 = .ok (.iconst 0, 1) := by decide +kernel
theorem s_142_1 {d : Nat} {Q : wQ} {L : List (Option Value)} {st : List Value} {w : aw} {cn sn : Nat}  : wp d 142 Q 1 L st w cn sn = wp d 142 Q 2 L (.int 0 :: st) w cn sn := w_iconst d_142_1 (by decide)
theorem d_142_2 : decode (mB 142) 2 = .ok (.aload_n 0, 1) := by decide +kernel
theorem s_142_2 {d : Nat} {Q : wQ} {L : List (Option Value)} {st : List Value} {w : aw} {cn sn : Nat} {v : Nat} : wp d 142 Q 2 (some (.ref v) :: L) st w cn sn = wp d 142 Q 3 (some (.ref v) :: L) (.ref v :: st) w cn sn := w_aload_n d_142_2 rfl
theorem d_142_3 : decode (mB 142) 3 = .ok (.getfield 156, 3) := by decide +kernel
theorem s_142_3 {d : Nat} {Q : wQ} {L : List (Option Value)} {st : List Value} {w : aw} {cn sn : Nat} {a : Nat} : wp d 142 Q 3 L (.ref a :: st) w cn sn = (kd w a = 9 ∧ wp d 142 Q 6 L (fd w 524 a :: st) w cn sn) := w_getfield d_142_3 (by decide +kernel : fT (mO 142) 156 = some (8, 12))
theorem d_142_6 : decode (mB 142) 6 = .ok (.iconst 1, 1) := by decide +kernel
theorem s_142_6 {d : Nat} {Q : wQ} {L : List (Option Value)} {st : List Value} {w : aw} {cn sn : Nat}  : wp d 142 Q 6 L st w cn sn = wp d 142 Q 7 L (.int 1 :: st) w cn sn := w_iconst d_142_6 (by decide)
theorem d_142_7 : decode (mB 142) 7 = .ok (.isub, 1) := by decide +kernel
theorem s_142_7 {d : Nat} {Q : wQ} {L : List (Option Value)} {st : List Value} {w : aw} {cn sn : Nat} {a b : Int32} : wp d 142 Q 7 L (.int b :: .int a :: st) w cn sn = wp d 142 Q 8 L (.int (a - b) :: st) w cn sn := wp_row d_142_7 _ _ _ _ _
theorem d_142_8 : decode (mB 142) 8 = .ok (.invokestatic 111, 3) := by decide +kernel
theorem s_142_8 {d : Nat} {Q : wQ} {L : List (Option Value)} {st : List Value} {w : aw} {cn sn : Nat} {v0 v1 v2 : Value} : wp d 142 Q 8 L (v2 :: v1 :: v0 :: st) w cn sn = (catS st ≤ 8 ∧ wpD d 105 [v0, v1, v2] w (fun v w' => wp d 142 Q 11 L (v.toList ++ st) w' cn sn)) := w_static (As := [v0, v1, v2]) d_142_8 (by decide +kernel : cT (mO 142) 111 = some (2, 105)) (by decide +kernel) rfl (by decide +kernel) rfl
theorem d_142_11 : decode (mB 142) 11 = .ok (.ifCond .eq 12, 3) := by decide +kernel
theorem s_142_11 {d : Nat} {Q : wQ} {L : List (Option Value)} {st : List Value} {w : aw} {cn sn : Nat} {x : Int32} : wp d 142 Q 11 L (.int x :: st) w cn sn = ((x = 0 → wp d 142 Q 23 L st w cn sn) ∧ (¬ x = 0 → wp d 142 Q 14 L st w cn sn)) := w_ifeq d_142_11 (by decide)
theorem d_142_14 : decode (mB 142) 14 = .ok (.aload_n 0, 1) := by decide +kernel
theorem s_142_14 {d : Nat} {Q : wQ} {L : List (Option Value)} {st : List Value} {w : aw} {cn sn : Nat} {v : Nat} : wp d 142 Q 14 (some (.ref v) :: L) st w cn sn = wp d 142 Q 15 (some (.ref v) :: L) (.ref v :: st) w cn sn := w_aload_n d_142_14 rfl
theorem d_142_15 : decode (mB 142) 15 = .ok (.getfield 16, 3) := by decide +kernel
theorem s_142_15 {d : Nat} {Q : wQ} {L : List (Option Value)} {st : List Value} {w : aw} {cn sn : Nat} {a : Nat} : wp d 142 Q 15 L (.ref a :: st) w cn sn = (kd w a = 9 ∧ wp d 142 Q 18 L (fd w 523 a :: st) w cn sn) := w_getfield d_142_15 (by decide +kernel : fT (mO 142) 16 = some (8, 11))
theorem d_142_18 : decode (mB 142) 18 = .ok (.iload_n 1, 1) := by decide +kernel
theorem s_142_18 {d : Nat} {Q : wQ} {L : List (Option Value)} {st : List Value} {w : aw} {cn sn : Nat} {a0 : Option Value} {v : Int32} : wp d 142 Q 18 (a0 :: some (.int v) :: L) st w cn sn = wp d 142 Q 19 (a0 :: some (.int v) :: L) (.int v :: st) w cn sn := w_iload_n d_142_18 rfl
theorem d_142_19 : decode (mB 142) 19 = .ok (.iaload, 1) := by decide +kernel
theorem s_142_19 {d : Nat} {Q : wQ} {L : List (Option Value)} {st : List Value} {w : aw} {cn sn : Nat} {a : Nat} {i : Int32} : wp d 142 Q 19 L (.int i :: .ref a :: st) w cn sn = ((kd w a = 20 ∨ kd w a = 30) ∧ inR i (ln w a) ∧ wp d 142 Q 20 L (.int (ai w a i.toNatClampNeg) :: st) w cn sn) := wp_row d_142_19 _ _ _ _ _
theorem d_142_20 : decode (mB 142) 20 = .ok (.goto 4, 3) := by decide +kernel
theorem s_142_20 {d : Nat} {Q : wQ} {L : List (Option Value)} {st : List Value} {w : aw} {cn sn : Nat}  : wp d 142 Q 20 L st w cn sn = wp d 142 Q 24 L st w cn sn := w_goto d_142_20 (by decide)
theorem d_142_23 : decode (mB 142) 23 = .ok (.iconst (-1), 1) := by decide +kernel
theorem s_142_23 {d : Nat} {Q : wQ} {L : List (Option Value)} {st : List Value} {w : aw} {cn sn : Nat}  : wp d 142 Q 23 L st w cn sn = wp d 142 Q 24 L (.int (-1) :: st) w cn sn := w_iconst d_142_23 (by decide)
theorem d_142_24 : decode (mB 142) 24 = .ok (.ireturn, 1) := by decide +kernel
theorem s_142_24 {d : Nat} {Q : wQ} {L : List (Option Value)} {w : aw} {cn sn : Nat} {v : Int32} : wp d 142 Q 24 L [.int v] w cn sn = Q (some (.int v)) w := w_ireturn d_142_24 rfl
theorem d_143_0 : decode (mB 143) 0 = .ok (.ldc2_w 215, 3) := by decide +kernel
theorem s_143_0 {d : Nat} {Q : wQ} {L : List (Option Value)} {st : List Value} {w : aw} {cn sn : Nat}  : wp d 143 Q 0 L st w cn sn = wp d 143 Q 3 L (.long 7 :: st) w cn sn := w_ldc2 d_143_0 (by decide +kernel : kT (mO 143) 215 = some (.long 7))
theorem d_143_3 : decode (mB 143) 3 = .ok (.lstore_n 1, 1) := by decide +kernel
theorem s_143_3 {d : Nat} {Q : wQ} {L : List (Option Value)} {st : List Value} {w : aw} {cn sn : Nat} {a0 a1 a2 : Option Value} {v : Int64} : wp d 143 Q 3 (a0 :: a1 :: a2 :: L) (.long v :: st) w cn sn = wp d 143 Q 4 (clr a0 :: some (.long v) :: none :: L) st w cn sn := w_lstore_n d_143_3 (Nat.le_add_left 3 _) rfl
theorem d_143_4 : decode (mB 143) 4 = .ok (.iconst 0, 1) := by decide +kernel
theorem s_143_4 {d : Nat} {Q : wQ} {L : List (Option Value)} {st : List Value} {w : aw} {cn sn : Nat}  : wp d 143 Q 4 L st w cn sn = wp d 143 Q 5 L (.int 0 :: st) w cn sn := w_iconst d_143_4 (by decide)
theorem d_143_5 : decode (mB 143) 5 = .ok (.istore_n 3, 1) := by decide +kernel
theorem s_143_5 {d : Nat} {Q : wQ} {L : List (Option Value)} {st : List Value} {w : aw} {cn sn : Nat} {a0 a1 a2 a3 : Option Value} {v : Int32} : wp d 143 Q 5 (a0 :: a1 :: a2 :: a3 :: L) (.int v :: st) w cn sn = wp d 143 Q 6 (a0 :: a1 :: clr a2 :: some (.int v) :: L) st w cn sn := w_istore_n d_143_5 (Nat.le_add_left 4 _) rfl
theorem d_143_6 : decode (mB 143) 6 = .ok (.iload_n 3, 1) := by decide +kernel
theorem s_143_6 {d : Nat} {Q : wQ} {L : List (Option Value)} {st : List Value} {w : aw} {cn sn : Nat} {a0 a1 a2 : Option Value} {v : Int32} : wp d 143 Q 6 (a0 :: a1 :: a2 :: some (.int v) :: L) st w cn sn = wp d 143 Q 7 (a0 :: a1 :: a2 :: some (.int v) :: L) (.int v :: st) w cn sn := w_iload_n d_143_6 rfl
theorem d_143_7 : decode (mB 143) 7 = .ok (.bipush 11, 2) := by decide +kernel
theorem s_143_7 {d : Nat} {Q : wQ} {L : List (Option Value)} {st : List Value} {w : aw} {cn sn : Nat}  : wp d 143 Q 7 L st w cn sn = wp d 143 Q 9 L (.int 11 :: st) w cn sn := w_bipush d_143_7 (by decide)
theorem d_143_9 : decode (mB 143) 9 = .ok (.if_icmp .ge 22, 3) := by decide +kernel
theorem s_143_9 {d : Nat} {Q : wQ} {L : List (Option Value)} {st : List Value} {w : aw} {cn sn : Nat} {a b : Int32} : wp d 143 Q 9 L (.int b :: .int a :: st) w cn sn = ((b ≤ a → wp d 143 Q 31 L st w cn sn) ∧ (¬ b ≤ a → wp d 143 Q 12 L st w cn sn)) := w_icge d_143_9 (by decide)
theorem d_143_12 : decode (mB 143) 12 = .ok (.lload_n 1, 1) := by decide +kernel
theorem s_143_12 {d : Nat} {Q : wQ} {L : List (Option Value)} {st : List Value} {w : aw} {cn sn : Nat} {a0 : Option Value} {v : Int64} : wp d 143 Q 12 (a0 :: some (.long v) :: L) st w cn sn = wp d 143 Q 13 (a0 :: some (.long v) :: L) (.long v :: st) w cn sn := w_lload_n d_143_12 rfl
theorem d_143_13 : decode (mB 143) 13 = .ok (.ldc2_w 217, 3) := by decide +kernel
theorem s_143_13 {d : Nat} {Q : wQ} {L : List (Option Value)} {st : List Value} {w : aw} {cn sn : Nat}  : wp d 143 Q 13 L st w cn sn = wp d 143 Q 16 L (.long 31 :: st) w cn sn := w_ldc2 d_143_13 (by decide +kernel : kT (mO 143) 217 = some (.long 31))
theorem d_143_16 : decode (mB 143) 16 = .ok (.lmul, 1) := by decide +kernel
theorem s_143_16 {d : Nat} {Q : wQ} {L : List (Option Value)} {st : List Value} {w : aw} {cn sn : Nat} {a b : Int64} : wp d 143 Q 16 L (.long b :: .long a :: st) w cn sn = wp d 143 Q 17 L (.long (a * b) :: st) w cn sn := wp_row d_143_16 _ _ _ _ _
theorem d_143_17 : decode (mB 143) 17 = .ok (.aload_n 0, 1) := by decide +kernel
theorem s_143_17 {d : Nat} {Q : wQ} {L : List (Option Value)} {st : List Value} {w : aw} {cn sn : Nat} {v : Nat} : wp d 143 Q 17 (some (.ref v) :: L) st w cn sn = wp d 143 Q 18 (some (.ref v) :: L) (.ref v :: st) w cn sn := w_aload_n d_143_17 rfl
theorem d_143_18 : decode (mB 143) 18 = .ok (.iload_n 3, 1) := by decide +kernel
theorem s_143_18 {d : Nat} {Q : wQ} {L : List (Option Value)} {st : List Value} {w : aw} {cn sn : Nat} {a0 a1 a2 : Option Value} {v : Int32} : wp d 143 Q 18 (a0 :: a1 :: a2 :: some (.int v) :: L) st w cn sn = wp d 143 Q 19 (a0 :: a1 :: a2 :: some (.int v) :: L) (.int v :: st) w cn sn := w_iload_n d_143_18 rfl
theorem d_143_19 : decode (mB 143) 19 = .ok (.invokevirtual 219, 3) := by decide +kernel
theorem s_143_19 {d : Nat} {Q : wQ} {L : List (Option Value)} {st : List Value} {w : aw} {cn sn : Nat} {v0 : Value} {b : Nat} : wp d 143 Q 19 L (v0 :: .ref b :: st) w cn sn = (kd w b = 9 ∧ catS st ≤ 8 ∧ wpD d 141 [.ref b, v0] w (fun v w' => wp d 143 Q 22 L (v.toList ++ st) w' cn sn)) := w_virtual (As := [v0]) d_143_19 (by decide +kernel : cT (mO 143) 219 = some (0, 141)) rfl (by decide +kernel) rfl (by decide +kernel) rfl
theorem d_143_22 : decode (mB 143) 22 = .ok (.i2l, 1) := by decide +kernel
theorem s_143_22 {d : Nat} {Q : wQ} {L : List (Option Value)} {st : List Value} {w : aw} {cn sn : Nat} {a : Int32} : wp d 143 Q 22 L (.int a :: st) w cn sn = wp d 143 Q 23 L (.long a.toInt64 :: st) w cn sn := wp_row d_143_22 _ _ _ _ _
theorem d_143_23 : decode (mB 143) 23 = .ok (.ladd, 1) := by decide +kernel
theorem s_143_23 {d : Nat} {Q : wQ} {L : List (Option Value)} {st : List Value} {w : aw} {cn sn : Nat} {a b : Int64} : wp d 143 Q 23 L (.long b :: .long a :: st) w cn sn = wp d 143 Q 24 L (.long (a + b) :: st) w cn sn := wp_row d_143_23 _ _ _ _ _
theorem d_143_24 : decode (mB 143) 24 = .ok (.lstore_n 1, 1) := by decide +kernel
theorem s_143_24 {d : Nat} {Q : wQ} {L : List (Option Value)} {st : List Value} {w : aw} {cn sn : Nat} {a0 a1 a2 : Option Value} {v : Int64} : wp d 143 Q 24 (a0 :: a1 :: a2 :: L) (.long v :: st) w cn sn = wp d 143 Q 25 (clr a0 :: some (.long v) :: none :: L) st w cn sn := w_lstore_n d_143_24 (Nat.le_add_left 3 _) rfl
theorem d_143_25 : decode (mB 143) 25 = .ok (.iinc 3 1, 3) := by decide +kernel
theorem s_143_25 {d : Nat} {Q : wQ} {L : List (Option Value)} {st : List Value} {w : aw} {cn sn : Nat} {a0 a1 a2 : Option Value} {v : Int32} : wp d 143 Q 25 (a0 :: a1 :: a2 :: some (.int v) :: L) st w cn sn = wp d 143 Q 28 (a0 :: a1 :: clr a2 :: some (.int (v + 1)) :: L) st w cn sn := w_iinc d_143_25 rfl (by decide) rfl
theorem d_143_28 : decode (mB 143) 28 = .ok (.goto (-22), 3) := by decide +kernel
theorem s_143_28 {d : Nat} {Q : wQ} {L : List (Option Value)} {st : List Value} {w : aw} {cn sn : Nat}  : wp d 143 Q 28 L st w cn sn = wp d 143 Q 6 L st w cn sn := w_goto d_143_28 (by decide)
theorem d_143_31 : decode (mB 143) 31 = .ok (.iconst 0, 1) := by decide +kernel
theorem s_143_31 {d : Nat} {Q : wQ} {L : List (Option Value)} {st : List Value} {w : aw} {cn sn : Nat}  : wp d 143 Q 31 L st w cn sn = wp d 143 Q 32 L (.int 0 :: st) w cn sn := w_iconst d_143_31 (by decide)
theorem d_143_32 : decode (mB 143) 32 = .ok (.istore_n 3, 1) := by decide +kernel
theorem s_143_32 {d : Nat} {Q : wQ} {L : List (Option Value)} {st : List Value} {w : aw} {cn sn : Nat} {a0 a1 a2 a3 : Option Value} {v : Int32} : wp d 143 Q 32 (a0 :: a1 :: a2 :: a3 :: L) (.int v :: st) w cn sn = wp d 143 Q 33 (a0 :: a1 :: clr a2 :: some (.int v) :: L) st w cn sn := w_istore_n d_143_32 (Nat.le_add_left 4 _) rfl
theorem d_143_33 : decode (mB 143) 33 = .ok (.iload_n 3, 1) := by decide +kernel
theorem s_143_33 {d : Nat} {Q : wQ} {L : List (Option Value)} {st : List Value} {w : aw} {cn sn : Nat} {a0 a1 a2 : Option Value} {v : Int32} : wp d 143 Q 33 (a0 :: a1 :: a2 :: some (.int v) :: L) st w cn sn = wp d 143 Q 34 (a0 :: a1 :: a2 :: some (.int v) :: L) (.int v :: st) w cn sn := w_iload_n d_143_33 rfl
theorem d_143_34 : decode (mB 143) 34 = .ok (.aload_n 0, 1) := by decide +kernel
theorem s_143_34 {d : Nat} {Q : wQ} {L : List (Option Value)} {st : List Value} {w : aw} {cn sn : Nat} {v : Nat} : wp d 143 Q 34 (some (.ref v) :: L) st w cn sn = wp d 143 Q 35 (some (.ref v) :: L) (.ref v :: st) w cn sn := w_aload_n d_143_34 rfl
theorem d_143_35 : decode (mB 143) 35 = .ok (.getfield 108, 3) := by decide +kernel
theorem s_143_35 {d : Nat} {Q : wQ} {L : List (Option Value)} {st : List Value} {w : aw} {cn sn : Nat} {a : Nat} : wp d 143 Q 35 L (.ref a :: st) w cn sn = (kd w a = 9 ∧ wp d 143 Q 38 L (fd w 512 a :: st) w cn sn) := w_getfield d_143_35 (by decide +kernel : fT (mO 143) 108 = some (8, 0))
theorem d_143_38 : decode (mB 143) 38 = .ok (.if_icmp .ge 110, 3) := by decide +kernel
theorem s_143_38 {d : Nat} {Q : wQ} {L : List (Option Value)} {st : List Value} {w : aw} {cn sn : Nat} {a b : Int32} : wp d 143 Q 38 L (.int b :: .int a :: st) w cn sn = ((b ≤ a → wp d 143 Q 148 L st w cn sn) ∧ (¬ b ≤ a → wp d 143 Q 41 L st w cn sn)) := w_icge d_143_38 (by decide)
theorem d_143_41 : decode (mB 143) 41 = .ok (.iconst 0, 1) := by decide +kernel
theorem s_143_41 {d : Nat} {Q : wQ} {L : List (Option Value)} {st : List Value} {w : aw} {cn sn : Nat}  : wp d 143 Q 41 L st w cn sn = wp d 143 Q 42 L (.int 0 :: st) w cn sn := w_iconst d_143_41 (by decide)
theorem d_143_42 : decode (mB 143) 42 = .ok (.istore 4, 2) := by decide +kernel
theorem s_143_42 {d : Nat} {Q : wQ} {L : List (Option Value)} {st : List Value} {w : aw} {cn sn : Nat} {a0 a1 a2 a3 a4 : Option Value} {v : Int32} : wp d 143 Q 42 (a0 :: a1 :: a2 :: a3 :: a4 :: L) (.int v :: st) w cn sn = wp d 143 Q 44 (a0 :: a1 :: a2 :: clr a3 :: some (.int v) :: L) st w cn sn := w_istore d_143_42 (Nat.le_add_left 5 _) rfl
theorem d_143_44 : decode (mB 143) 44 = .ok (.iload 4, 2) := by decide +kernel
theorem s_143_44 {d : Nat} {Q : wQ} {L : List (Option Value)} {st : List Value} {w : aw} {cn sn : Nat} {a0 a1 a2 a3 : Option Value} {v : Int32} : wp d 143 Q 44 (a0 :: a1 :: a2 :: a3 :: some (.int v) :: L) st w cn sn = wp d 143 Q 46 (a0 :: a1 :: a2 :: a3 :: some (.int v) :: L) (.int v :: st) w cn sn := w_iload d_143_44 rfl
theorem d_143_46 : decode (mB 143) 46 = .ok (.bipush 12, 2) := by decide +kernel
theorem s_143_46 {d : Nat} {Q : wQ} {L : List (Option Value)} {st : List Value} {w : aw} {cn sn : Nat}  : wp d 143 Q 46 L st w cn sn = wp d 143 Q 48 L (.int 12 :: st) w cn sn := w_bipush d_143_46 (by decide)
theorem d_143_48 : decode (mB 143) 48 = .ok (.if_icmp .ge 24, 3) := by decide +kernel
theorem s_143_48 {d : Nat} {Q : wQ} {L : List (Option Value)} {st : List Value} {w : aw} {cn sn : Nat} {a b : Int32} : wp d 143 Q 48 L (.int b :: .int a :: st) w cn sn = ((b ≤ a → wp d 143 Q 72 L st w cn sn) ∧ (¬ b ≤ a → wp d 143 Q 51 L st w cn sn)) := w_icge d_143_48 (by decide)
theorem d_143_51 : decode (mB 143) 51 = .ok (.lload_n 1, 1) := by decide +kernel
theorem s_143_51 {d : Nat} {Q : wQ} {L : List (Option Value)} {st : List Value} {w : aw} {cn sn : Nat} {a0 : Option Value} {v : Int64} : wp d 143 Q 51 (a0 :: some (.long v) :: L) st w cn sn = wp d 143 Q 52 (a0 :: some (.long v) :: L) (.long v :: st) w cn sn := w_lload_n d_143_51 rfl
theorem d_143_52 : decode (mB 143) 52 = .ok (.ldc2_w 217, 3) := by decide +kernel
theorem s_143_52 {d : Nat} {Q : wQ} {L : List (Option Value)} {st : List Value} {w : aw} {cn sn : Nat}  : wp d 143 Q 52 L st w cn sn = wp d 143 Q 55 L (.long 31 :: st) w cn sn := w_ldc2 d_143_52 (by decide +kernel : kT (mO 143) 217 = some (.long 31))
theorem d_143_55 : decode (mB 143) 55 = .ok (.lmul, 1) := by decide +kernel
theorem s_143_55 {d : Nat} {Q : wQ} {L : List (Option Value)} {st : List Value} {w : aw} {cn sn : Nat} {a b : Int64} : wp d 143 Q 55 L (.long b :: .long a :: st) w cn sn = wp d 143 Q 56 L (.long (a * b) :: st) w cn sn := wp_row d_143_55 _ _ _ _ _
theorem d_143_56 : decode (mB 143) 56 = .ok (.aload_n 0, 1) := by decide +kernel
theorem s_143_56 {d : Nat} {Q : wQ} {L : List (Option Value)} {st : List Value} {w : aw} {cn sn : Nat} {v : Nat} : wp d 143 Q 56 (some (.ref v) :: L) st w cn sn = wp d 143 Q 57 (some (.ref v) :: L) (.ref v :: st) w cn sn := w_aload_n d_143_56 rfl
theorem d_143_57 : decode (mB 143) 57 = .ok (.iload_n 3, 1) := by decide +kernel
theorem s_143_57 {d : Nat} {Q : wQ} {L : List (Option Value)} {st : List Value} {w : aw} {cn sn : Nat} {a0 a1 a2 : Option Value} {v : Int32} : wp d 143 Q 57 (a0 :: a1 :: a2 :: some (.int v) :: L) st w cn sn = wp d 143 Q 58 (a0 :: a1 :: a2 :: some (.int v) :: L) (.int v :: st) w cn sn := w_iload_n d_143_57 rfl
theorem d_143_58 : decode (mB 143) 58 = .ok (.iload 4, 2) := by decide +kernel
theorem s_143_58 {d : Nat} {Q : wQ} {L : List (Option Value)} {st : List Value} {w : aw} {cn sn : Nat} {a0 a1 a2 a3 : Option Value} {v : Int32} : wp d 143 Q 58 (a0 :: a1 :: a2 :: a3 :: some (.int v) :: L) st w cn sn = wp d 143 Q 60 (a0 :: a1 :: a2 :: a3 :: some (.int v) :: L) (.int v :: st) w cn sn := w_iload d_143_58 rfl
theorem d_143_60 : decode (mB 143) 60 = .ok (.invokevirtual 222, 3) := by decide +kernel
theorem s_143_60 {d : Nat} {Q : wQ} {L : List (Option Value)} {st : List Value} {w : aw} {cn sn : Nat} {v0 v1 : Value} {b : Nat} : wp d 143 Q 60 L (v1 :: v0 :: .ref b :: st) w cn sn = (kd w b = 9 ∧ catS st ≤ 8 ∧ wpD d 137 [.ref b, v0, v1] w (fun v w' => wp d 143 Q 63 L (v.toList ++ st) w' cn sn)) := w_virtual (As := [v0, v1]) d_143_60 (by decide +kernel : cT (mO 143) 222 = some (0, 137)) rfl (by decide +kernel) rfl (by decide +kernel) rfl
theorem d_143_63 : decode (mB 143) 63 = .ok (.i2l, 1) := by decide +kernel
theorem s_143_63 {d : Nat} {Q : wQ} {L : List (Option Value)} {st : List Value} {w : aw} {cn sn : Nat} {a : Int32} : wp d 143 Q 63 L (.int a :: st) w cn sn = wp d 143 Q 64 L (.long a.toInt64 :: st) w cn sn := wp_row d_143_63 _ _ _ _ _
theorem d_143_64 : decode (mB 143) 64 = .ok (.ladd, 1) := by decide +kernel
theorem s_143_64 {d : Nat} {Q : wQ} {L : List (Option Value)} {st : List Value} {w : aw} {cn sn : Nat} {a b : Int64} : wp d 143 Q 64 L (.long b :: .long a :: st) w cn sn = wp d 143 Q 65 L (.long (a + b) :: st) w cn sn := wp_row d_143_64 _ _ _ _ _
theorem d_143_65 : decode (mB 143) 65 = .ok (.lstore_n 1, 1) := by decide +kernel
theorem s_143_65 {d : Nat} {Q : wQ} {L : List (Option Value)} {st : List Value} {w : aw} {cn sn : Nat} {a0 a1 a2 : Option Value} {v : Int64} : wp d 143 Q 65 (a0 :: a1 :: a2 :: L) (.long v :: st) w cn sn = wp d 143 Q 66 (clr a0 :: some (.long v) :: none :: L) st w cn sn := w_lstore_n d_143_65 (Nat.le_add_left 3 _) rfl
theorem d_143_66 : decode (mB 143) 66 = .ok (.iinc 4 1, 3) := by decide +kernel
theorem s_143_66 {d : Nat} {Q : wQ} {L : List (Option Value)} {st : List Value} {w : aw} {cn sn : Nat} {a0 a1 a2 a3 : Option Value} {v : Int32} : wp d 143 Q 66 (a0 :: a1 :: a2 :: a3 :: some (.int v) :: L) st w cn sn = wp d 143 Q 69 (a0 :: a1 :: a2 :: clr a3 :: some (.int (v + 1)) :: L) st w cn sn := w_iinc d_143_66 rfl (by decide) rfl
theorem d_143_69 : decode (mB 143) 69 = .ok (.goto (-25), 3) := by decide +kernel
theorem s_143_69 {d : Nat} {Q : wQ} {L : List (Option Value)} {st : List Value} {w : aw} {cn sn : Nat}  : wp d 143 Q 69 L st w cn sn = wp d 143 Q 44 L st w cn sn := w_goto d_143_69 (by decide)
theorem d_143_72 : decode (mB 143) 72 = .ok (.iconst 0, 1) := by decide +kernel
theorem s_143_72 {d : Nat} {Q : wQ} {L : List (Option Value)} {st : List Value} {w : aw} {cn sn : Nat}  : wp d 143 Q 72 L st w cn sn = wp d 143 Q 73 L (.int 0 :: st) w cn sn := w_iconst d_143_72 (by decide)
theorem d_143_73 : decode (mB 143) 73 = .ok (.istore 4, 2) := by decide +kernel
theorem s_143_73 {d : Nat} {Q : wQ} {L : List (Option Value)} {st : List Value} {w : aw} {cn sn : Nat} {a0 a1 a2 a3 a4 : Option Value} {v : Int32} : wp d 143 Q 73 (a0 :: a1 :: a2 :: a3 :: a4 :: L) (.int v :: st) w cn sn = wp d 143 Q 75 (a0 :: a1 :: a2 :: clr a3 :: some (.int v) :: L) st w cn sn := w_istore d_143_73 (Nat.le_add_left 5 _) rfl
theorem d_143_75 : decode (mB 143) 75 = .ok (.iload 4, 2) := by decide +kernel
theorem s_143_75 {d : Nat} {Q : wQ} {L : List (Option Value)} {st : List Value} {w : aw} {cn sn : Nat} {a0 a1 a2 a3 : Option Value} {v : Int32} : wp d 143 Q 75 (a0 :: a1 :: a2 :: a3 :: some (.int v) :: L) st w cn sn = wp d 143 Q 77 (a0 :: a1 :: a2 :: a3 :: some (.int v) :: L) (.int v :: st) w cn sn := w_iload d_143_75 rfl
theorem d_143_77 : decode (mB 143) 77 = .ok (.sipush 4096, 3) := by decide +kernel
theorem s_143_77 {d : Nat} {Q : wQ} {L : List (Option Value)} {st : List Value} {w : aw} {cn sn : Nat}  : wp d 143 Q 77 L st w cn sn = wp d 143 Q 80 L (.int 4096 :: st) w cn sn := w_sipush d_143_77 (by decide)
theorem d_143_80 : decode (mB 143) 80 = .ok (.if_icmp .ge 24, 3) := by decide +kernel
theorem s_143_80 {d : Nat} {Q : wQ} {L : List (Option Value)} {st : List Value} {w : aw} {cn sn : Nat} {a b : Int32} : wp d 143 Q 80 L (.int b :: .int a :: st) w cn sn = ((b ≤ a → wp d 143 Q 104 L st w cn sn) ∧ (¬ b ≤ a → wp d 143 Q 83 L st w cn sn)) := w_icge d_143_80 (by decide)
theorem d_143_83 : decode (mB 143) 83 = .ok (.lload_n 1, 1) := by decide +kernel
theorem s_143_83 {d : Nat} {Q : wQ} {L : List (Option Value)} {st : List Value} {w : aw} {cn sn : Nat} {a0 : Option Value} {v : Int64} : wp d 143 Q 83 (a0 :: some (.long v) :: L) st w cn sn = wp d 143 Q 84 (a0 :: some (.long v) :: L) (.long v :: st) w cn sn := w_lload_n d_143_83 rfl
theorem d_143_84 : decode (mB 143) 84 = .ok (.ldc2_w 217, 3) := by decide +kernel
theorem s_143_84 {d : Nat} {Q : wQ} {L : List (Option Value)} {st : List Value} {w : aw} {cn sn : Nat}  : wp d 143 Q 84 L st w cn sn = wp d 143 Q 87 L (.long 31 :: st) w cn sn := w_ldc2 d_143_84 (by decide +kernel : kT (mO 143) 217 = some (.long 31))
theorem d_143_87 : decode (mB 143) 87 = .ok (.lmul, 1) := by decide +kernel
theorem s_143_87 {d : Nat} {Q : wQ} {L : List (Option Value)} {st : List Value} {w : aw} {cn sn : Nat} {a b : Int64} : wp d 143 Q 87 L (.long b :: .long a :: st) w cn sn = wp d 143 Q 88 L (.long (a * b) :: st) w cn sn := wp_row d_143_87 _ _ _ _ _
theorem d_143_88 : decode (mB 143) 88 = .ok (.aload_n 0, 1) := by decide +kernel
theorem s_143_88 {d : Nat} {Q : wQ} {L : List (Option Value)} {st : List Value} {w : aw} {cn sn : Nat} {v : Nat} : wp d 143 Q 88 (some (.ref v) :: L) st w cn sn = wp d 143 Q 89 (some (.ref v) :: L) (.ref v :: st) w cn sn := w_aload_n d_143_88 rfl
theorem d_143_89 : decode (mB 143) 89 = .ok (.iload_n 3, 1) := by decide +kernel
theorem s_143_89 {d : Nat} {Q : wQ} {L : List (Option Value)} {st : List Value} {w : aw} {cn sn : Nat} {a0 a1 a2 : Option Value} {v : Int32} : wp d 143 Q 89 (a0 :: a1 :: a2 :: some (.int v) :: L) st w cn sn = wp d 143 Q 90 (a0 :: a1 :: a2 :: some (.int v) :: L) (.int v :: st) w cn sn := w_iload_n d_143_89 rfl
theorem d_143_90 : decode (mB 143) 90 = .ok (.iload 4, 2) := by decide +kernel
theorem s_143_90 {d : Nat} {Q : wQ} {L : List (Option Value)} {st : List Value} {w : aw} {cn sn : Nat} {a0 a1 a2 a3 : Option Value} {v : Int32} : wp d 143 Q 90 (a0 :: a1 :: a2 :: a3 :: some (.int v) :: L) st w cn sn = wp d 143 Q 92 (a0 :: a1 :: a2 :: a3 :: some (.int v) :: L) (.int v :: st) w cn sn := w_iload d_143_90 rfl
theorem d_143_92 : decode (mB 143) 92 = .ok (.invokevirtual 115, 3) := by decide +kernel
theorem s_143_92 {d : Nat} {Q : wQ} {L : List (Option Value)} {st : List Value} {w : aw} {cn sn : Nat} {v0 v1 : Value} {b : Nat} : wp d 143 Q 92 L (v1 :: v0 :: .ref b :: st) w cn sn = (kd w b = 9 ∧ catS st ≤ 8 ∧ wpD d 107 [.ref b, v0, v1] w (fun v w' => wp d 143 Q 95 L (v.toList ++ st) w' cn sn)) := w_virtual (As := [v0, v1]) d_143_92 (by decide +kernel : cT (mO 143) 115 = some (0, 107)) rfl (by decide +kernel) rfl (by decide +kernel) rfl
theorem d_143_95 : decode (mB 143) 95 = .ok (.i2l, 1) := by decide +kernel
theorem s_143_95 {d : Nat} {Q : wQ} {L : List (Option Value)} {st : List Value} {w : aw} {cn sn : Nat} {a : Int32} : wp d 143 Q 95 L (.int a :: st) w cn sn = wp d 143 Q 96 L (.long a.toInt64 :: st) w cn sn := wp_row d_143_95 _ _ _ _ _
theorem d_143_96 : decode (mB 143) 96 = .ok (.ladd, 1) := by decide +kernel
theorem s_143_96 {d : Nat} {Q : wQ} {L : List (Option Value)} {st : List Value} {w : aw} {cn sn : Nat} {a b : Int64} : wp d 143 Q 96 L (.long b :: .long a :: st) w cn sn = wp d 143 Q 97 L (.long (a + b) :: st) w cn sn := wp_row d_143_96 _ _ _ _ _
theorem d_143_97 : decode (mB 143) 97 = .ok (.lstore_n 1, 1) := by decide +kernel
theorem s_143_97 {d : Nat} {Q : wQ} {L : List (Option Value)} {st : List Value} {w : aw} {cn sn : Nat} {a0 a1 a2 : Option Value} {v : Int64} : wp d 143 Q 97 (a0 :: a1 :: a2 :: L) (.long v :: st) w cn sn = wp d 143 Q 98 (clr a0 :: some (.long v) :: none :: L) st w cn sn := w_lstore_n d_143_97 (Nat.le_add_left 3 _) rfl
theorem d_143_98 : decode (mB 143) 98 = .ok (.iinc 4 1, 3) := by decide +kernel
theorem s_143_98 {d : Nat} {Q : wQ} {L : List (Option Value)} {st : List Value} {w : aw} {cn sn : Nat} {a0 a1 a2 a3 : Option Value} {v : Int32} : wp d 143 Q 98 (a0 :: a1 :: a2 :: a3 :: some (.int v) :: L) st w cn sn = wp d 143 Q 101 (a0 :: a1 :: a2 :: clr a3 :: some (.int (v + 1)) :: L) st w cn sn := w_iinc d_143_98 rfl (by decide) rfl
theorem d_143_101 : decode (mB 143) 101 = .ok (.goto (-26), 3) := by decide +kernel
theorem s_143_101 {d : Nat} {Q : wQ} {L : List (Option Value)} {st : List Value} {w : aw} {cn sn : Nat}  : wp d 143 Q 101 L st w cn sn = wp d 143 Q 75 L st w cn sn := w_goto d_143_101 (by decide)
theorem d_143_104 : decode (mB 143) 104 = .ok (.iconst 0, 1) := by decide +kernel
theorem s_143_104 {d : Nat} {Q : wQ} {L : List (Option Value)} {st : List Value} {w : aw} {cn sn : Nat}  : wp d 143 Q 104 L st w cn sn = wp d 143 Q 105 L (.int 0 :: st) w cn sn := w_iconst d_143_104 (by decide)
theorem d_143_105 : decode (mB 143) 105 = .ok (.istore 4, 2) := by decide +kernel
theorem s_143_105 {d : Nat} {Q : wQ} {L : List (Option Value)} {st : List Value} {w : aw} {cn sn : Nat} {a0 a1 a2 a3 a4 : Option Value} {v : Int32} : wp d 143 Q 105 (a0 :: a1 :: a2 :: a3 :: a4 :: L) (.int v :: st) w cn sn = wp d 143 Q 107 (a0 :: a1 :: a2 :: clr a3 :: some (.int v) :: L) st w cn sn := w_istore d_143_105 (Nat.le_add_left 5 _) rfl
theorem d_143_107 : decode (mB 143) 107 = .ok (.iload 4, 2) := by decide +kernel
theorem s_143_107 {d : Nat} {Q : wQ} {L : List (Option Value)} {st : List Value} {w : aw} {cn sn : Nat} {a0 a1 a2 a3 : Option Value} {v : Int32} : wp d 143 Q 107 (a0 :: a1 :: a2 :: a3 :: some (.int v) :: L) st w cn sn = wp d 143 Q 109 (a0 :: a1 :: a2 :: a3 :: some (.int v) :: L) (.int v :: st) w cn sn := w_iload d_143_107 rfl
theorem d_143_109 : decode (mB 143) 109 = .ok (.sipush 4096, 3) := by decide +kernel
theorem s_143_109 {d : Nat} {Q : wQ} {L : List (Option Value)} {st : List Value} {w : aw} {cn sn : Nat}  : wp d 143 Q 109 L st w cn sn = wp d 143 Q 112 L (.int 4096 :: st) w cn sn := w_sipush d_143_109 (by decide)
theorem d_143_112 : decode (mB 143) 112 = .ok (.if_icmp .ge 30, 3) := by decide +kernel
theorem s_143_112 {d : Nat} {Q : wQ} {L : List (Option Value)} {st : List Value} {w : aw} {cn sn : Nat} {a b : Int32} : wp d 143 Q 112 L (.int b :: .int a :: st) w cn sn = ((b ≤ a → wp d 143 Q 142 L st w cn sn) ∧ (¬ b ≤ a → wp d 143 Q 115 L st w cn sn)) := w_icge d_143_112 (by decide)
theorem d_143_115 : decode (mB 143) 115 = .ok (.lload_n 1, 1) := by decide +kernel
theorem s_143_115 {d : Nat} {Q : wQ} {L : List (Option Value)} {st : List Value} {w : aw} {cn sn : Nat} {a0 : Option Value} {v : Int64} : wp d 143 Q 115 (a0 :: some (.long v) :: L) st w cn sn = wp d 143 Q 116 (a0 :: some (.long v) :: L) (.long v :: st) w cn sn := w_lload_n d_143_115 rfl
theorem d_143_116 : decode (mB 143) 116 = .ok (.ldc2_w 217, 3) := by decide +kernel
theorem s_143_116 {d : Nat} {Q : wQ} {L : List (Option Value)} {st : List Value} {w : aw} {cn sn : Nat}  : wp d 143 Q 116 L st w cn sn = wp d 143 Q 119 L (.long 31 :: st) w cn sn := w_ldc2 d_143_116 (by decide +kernel : kT (mO 143) 217 = some (.long 31))
theorem d_143_119 : decode (mB 143) 119 = .ok (.lmul, 1) := by decide +kernel
theorem s_143_119 {d : Nat} {Q : wQ} {L : List (Option Value)} {st : List Value} {w : aw} {cn sn : Nat} {a b : Int64} : wp d 143 Q 119 L (.long b :: .long a :: st) w cn sn = wp d 143 Q 120 L (.long (a * b) :: st) w cn sn := wp_row d_143_119 _ _ _ _ _
theorem d_143_120 : decode (mB 143) 120 = .ok (.aload_n 0, 1) := by decide +kernel
theorem s_143_120 {d : Nat} {Q : wQ} {L : List (Option Value)} {st : List Value} {w : aw} {cn sn : Nat} {v : Nat} : wp d 143 Q 120 (some (.ref v) :: L) st w cn sn = wp d 143 Q 121 (some (.ref v) :: L) (.ref v :: st) w cn sn := w_aload_n d_143_120 rfl
theorem d_143_121 : decode (mB 143) 121 = .ok (.getfield 27, 3) := by decide +kernel
theorem s_143_121 {d : Nat} {Q : wQ} {L : List (Option Value)} {st : List Value} {w : aw} {cn sn : Nat} {a : Nat} : wp d 143 Q 121 L (.ref a :: st) w cn sn = (kd w a = 9 ∧ wp d 143 Q 124 L (fd w 527 a :: st) w cn sn) := w_getfield d_143_121 (by decide +kernel : fT (mO 143) 27 = some (8, 15))
theorem d_143_124 : decode (mB 143) 124 = .ok (.sipush 4096, 3) := by decide +kernel
theorem s_143_124 {d : Nat} {Q : wQ} {L : List (Option Value)} {st : List Value} {w : aw} {cn sn : Nat}  : wp d 143 Q 124 L st w cn sn = wp d 143 Q 127 L (.int 4096 :: st) w cn sn := w_sipush d_143_124 (by decide)
theorem d_143_127 : decode (mB 143) 127 = .ok (.iload_n 3, 1) := by decide +kernel
theorem s_143_127 {d : Nat} {Q : wQ} {L : List (Option Value)} {st : List Value} {w : aw} {cn sn : Nat} {a0 a1 a2 : Option Value} {v : Int32} : wp d 143 Q 127 (a0 :: a1 :: a2 :: some (.int v) :: L) st w cn sn = wp d 143 Q 128 (a0 :: a1 :: a2 :: some (.int v) :: L) (.int v :: st) w cn sn := w_iload_n d_143_127 rfl
theorem d_143_128 : decode (mB 143) 128 = .ok (.imul, 1) := by decide +kernel
theorem s_143_128 {d : Nat} {Q : wQ} {L : List (Option Value)} {st : List Value} {w : aw} {cn sn : Nat} {a b : Int32} : wp d 143 Q 128 L (.int b :: .int a :: st) w cn sn = wp d 143 Q 129 L (.int (a * b) :: st) w cn sn := wp_row d_143_128 _ _ _ _ _
theorem d_143_129 : decode (mB 143) 129 = .ok (.iload 4, 2) := by decide +kernel
theorem s_143_129 {d : Nat} {Q : wQ} {L : List (Option Value)} {st : List Value} {w : aw} {cn sn : Nat} {a0 a1 a2 a3 : Option Value} {v : Int32} : wp d 143 Q 129 (a0 :: a1 :: a2 :: a3 :: some (.int v) :: L) st w cn sn = wp d 143 Q 131 (a0 :: a1 :: a2 :: a3 :: some (.int v) :: L) (.int v :: st) w cn sn := w_iload d_143_129 rfl
theorem d_143_131 : decode (mB 143) 131 = .ok (.iadd, 1) := by decide +kernel
theorem s_143_131 {d : Nat} {Q : wQ} {L : List (Option Value)} {st : List Value} {w : aw} {cn sn : Nat} {a b : Int32} : wp d 143 Q 131 L (.int b :: .int a :: st) w cn sn = wp d 143 Q 132 L (.int (a + b) :: st) w cn sn := wp_row d_143_131 _ _ _ _ _
theorem d_143_132 : decode (mB 143) 132 = .ok (.iaload, 1) := by decide +kernel
theorem s_143_132 {d : Nat} {Q : wQ} {L : List (Option Value)} {st : List Value} {w : aw} {cn sn : Nat} {a : Nat} {i : Int32} : wp d 143 Q 132 L (.int i :: .ref a :: st) w cn sn = ((kd w a = 20 ∨ kd w a = 30) ∧ inR i (ln w a) ∧ wp d 143 Q 133 L (.int (ai w a i.toNatClampNeg) :: st) w cn sn) := wp_row d_143_132 _ _ _ _ _
theorem d_143_133 : decode (mB 143) 133 = .ok (.i2l, 1) := by decide +kernel
theorem s_143_133 {d : Nat} {Q : wQ} {L : List (Option Value)} {st : List Value} {w : aw} {cn sn : Nat} {a : Int32} : wp d 143 Q 133 L (.int a :: st) w cn sn = wp d 143 Q 134 L (.long a.toInt64 :: st) w cn sn := wp_row d_143_133 _ _ _ _ _
theorem d_143_134 : decode (mB 143) 134 = .ok (.ladd, 1) := by decide +kernel
theorem s_143_134 {d : Nat} {Q : wQ} {L : List (Option Value)} {st : List Value} {w : aw} {cn sn : Nat} {a b : Int64} : wp d 143 Q 134 L (.long b :: .long a :: st) w cn sn = wp d 143 Q 135 L (.long (a + b) :: st) w cn sn := wp_row d_143_134 _ _ _ _ _
theorem d_143_135 : decode (mB 143) 135 = .ok (.lstore_n 1, 1) := by decide +kernel
theorem s_143_135 {d : Nat} {Q : wQ} {L : List (Option Value)} {st : List Value} {w : aw} {cn sn : Nat} {a0 a1 a2 : Option Value} {v : Int64} : wp d 143 Q 135 (a0 :: a1 :: a2 :: L) (.long v :: st) w cn sn = wp d 143 Q 136 (clr a0 :: some (.long v) :: none :: L) st w cn sn := w_lstore_n d_143_135 (Nat.le_add_left 3 _) rfl
theorem d_143_136 : decode (mB 143) 136 = .ok (.iinc 4 1, 3) := by decide +kernel
theorem s_143_136 {d : Nat} {Q : wQ} {L : List (Option Value)} {st : List Value} {w : aw} {cn sn : Nat} {a0 a1 a2 a3 : Option Value} {v : Int32} : wp d 143 Q 136 (a0 :: a1 :: a2 :: a3 :: some (.int v) :: L) st w cn sn = wp d 143 Q 139 (a0 :: a1 :: a2 :: clr a3 :: some (.int (v + 1)) :: L) st w cn sn := w_iinc d_143_136 rfl (by decide) rfl
theorem d_143_139 : decode (mB 143) 139 = .ok (.goto (-32), 3) := by decide +kernel
theorem s_143_139 {d : Nat} {Q : wQ} {L : List (Option Value)} {st : List Value} {w : aw} {cn sn : Nat}  : wp d 143 Q 139 L st w cn sn = wp d 143 Q 107 L st w cn sn := w_goto d_143_139 (by decide)
theorem d_143_142 : decode (mB 143) 142 = .ok (.iinc 3 1, 3) := by decide +kernel
theorem s_143_142 {d : Nat} {Q : wQ} {L : List (Option Value)} {st : List Value} {w : aw} {cn sn : Nat} {a0 a1 a2 : Option Value} {v : Int32} : wp d 143 Q 142 (a0 :: a1 :: a2 :: some (.int v) :: L) st w cn sn = wp d 143 Q 145 (a0 :: a1 :: clr a2 :: some (.int (v + 1)) :: L) st w cn sn := w_iinc d_143_142 rfl (by decide) rfl
theorem d_143_145 : decode (mB 143) 145 = .ok (.goto (-112), 3) := by decide +kernel
theorem s_143_145 {d : Nat} {Q : wQ} {L : List (Option Value)} {st : List Value} {w : aw} {cn sn : Nat}  : wp d 143 Q 145 L st w cn sn = wp d 143 Q 33 L st w cn sn := w_goto d_143_145 (by decide)
theorem d_143_148 : decode (mB 143) 148 = .ok (.lload_n 1, 1) := by decide +kernel
theorem s_143_148 {d : Nat} {Q : wQ} {L : List (Option Value)} {st : List Value} {w : aw} {cn sn : Nat} {a0 : Option Value} {v : Int64} : wp d 143 Q 148 (a0 :: some (.long v) :: L) st w cn sn = wp d 143 Q 149 (a0 :: some (.long v) :: L) (.long v :: st) w cn sn := w_lload_n d_143_148 rfl
theorem d_143_149 : decode (mB 143) 149 = .ok (.lreturn, 1) := by decide +kernel
theorem s_143_149 {d : Nat} {Q : wQ} {L : List (Option Value)} {w : aw} {cn sn : Nat} {v : Int64} : wp d 143 Q 149 L [.long v] w cn sn = Q (some (.long v)) w := w_lreturn d_143_149 rfl
theorem d_144_0 : decode (mB 144) 0 = .ok (.iload_n 0, 1) := by decide +kernel
theorem s_144_0 {d : Nat} {Q : wQ} {L : List (Option Value)} {st : List Value} {w : aw} {cn sn : Nat} {v : Int32} : wp d 144 Q 0 (some (.int v) :: L) st w cn sn = wp d 144 Q 1 (some (.int v) :: L) (.int v :: st) w cn sn := w_iload_n d_144_0 rfl
theorem d_144_1 : decode (mB 144) 1 = .ok (.bipush 65, 2) := by decide +kernel
theorem s_144_1 {d : Nat} {Q : wQ} {L : List (Option Value)} {st : List Value} {w : aw} {cn sn : Nat}  : wp d 144 Q 1 L st w cn sn = wp d 144 Q 3 L (.int 65 :: st) w cn sn := w_bipush d_144_1 (by decide)
theorem d_144_3 : decode (mB 144) 3 = .ok (.if_icmp .lt 13, 3) := by decide +kernel
theorem s_144_3 {d : Nat} {Q : wQ} {L : List (Option Value)} {st : List Value} {w : aw} {cn sn : Nat} {a b : Int32} : wp d 144 Q 3 L (.int b :: .int a :: st) w cn sn = ((a < b → wp d 144 Q 16 L st w cn sn) ∧ (¬ a < b → wp d 144 Q 6 L st w cn sn)) := w_iclt d_144_3 (by decide)
theorem d_144_6 : decode (mB 144) 6 = .ok (.iload_n 0, 1) := by decide +kernel
theorem s_144_6 {d : Nat} {Q : wQ} {L : List (Option Value)} {st : List Value} {w : aw} {cn sn : Nat} {v : Int32} : wp d 144 Q 6 (some (.int v) :: L) st w cn sn = wp d 144 Q 7 (some (.int v) :: L) (.int v :: st) w cn sn := w_iload_n d_144_6 rfl
theorem d_144_7 : decode (mB 144) 7 = .ok (.bipush 90, 2) := by decide +kernel
theorem s_144_7 {d : Nat} {Q : wQ} {L : List (Option Value)} {st : List Value} {w : aw} {cn sn : Nat}  : wp d 144 Q 7 L st w cn sn = wp d 144 Q 9 L (.int 90 :: st) w cn sn := w_bipush d_144_7 (by decide)
theorem d_144_9 : decode (mB 144) 9 = .ok (.if_icmp .gt 7, 3) := by decide +kernel
theorem s_144_9 {d : Nat} {Q : wQ} {L : List (Option Value)} {st : List Value} {w : aw} {cn sn : Nat} {a b : Int32} : wp d 144 Q 9 L (.int b :: .int a :: st) w cn sn = ((b < a → wp d 144 Q 16 L st w cn sn) ∧ (¬ b < a → wp d 144 Q 12 L st w cn sn)) := w_icgt d_144_9 (by decide)
theorem d_144_12 : decode (mB 144) 12 = .ok (.iconst 1, 1) := by decide +kernel
theorem s_144_12 {d : Nat} {Q : wQ} {L : List (Option Value)} {st : List Value} {w : aw} {cn sn : Nat}  : wp d 144 Q 12 L st w cn sn = wp d 144 Q 13 L (.int 1 :: st) w cn sn := w_iconst d_144_12 (by decide)
theorem d_144_13 : decode (mB 144) 13 = .ok (.goto 4, 3) := by decide +kernel
theorem s_144_13 {d : Nat} {Q : wQ} {L : List (Option Value)} {st : List Value} {w : aw} {cn sn : Nat}  : wp d 144 Q 13 L st w cn sn = wp d 144 Q 17 L st w cn sn := w_goto d_144_13 (by decide)
theorem d_144_16 : decode (mB 144) 16 = .ok (.iconst 0, 1) := by decide +kernel
theorem s_144_16 {d : Nat} {Q : wQ} {L : List (Option Value)} {st : List Value} {w : aw} {cn sn : Nat}  : wp d 144 Q 16 L st w cn sn = wp d 144 Q 17 L (.int 0 :: st) w cn sn := w_iconst d_144_16 (by decide)
theorem d_144_17 : decode (mB 144) 17 = .ok (.ireturn, 1) := by decide +kernel
theorem s_144_17 {d : Nat} {Q : wQ} {L : List (Option Value)} {w : aw} {cn sn : Nat} {v : Int32} : wp d 144 Q 17 L [.int v] w cn sn = (narrow .boolean (.int v) = .int v ∧ Q (some (.int v)) w) := w_zreturn d_144_17 rfl
theorem d_145_0 : decode (mB 145) 0 = .ok (.iload_n 0, 1) := by decide +kernel
theorem s_145_0 {d : Nat} {Q : wQ} {L : List (Option Value)} {st : List Value} {w : aw} {cn sn : Nat} {v : Int32} : wp d 145 Q 0 (some (.int v) :: L) st w cn sn = wp d 145 Q 1 (some (.int v) :: L) (.int v :: st) w cn sn := w_iload_n d_145_0 rfl
theorem d_145_1 : decode (mB 145) 1 = .ok (.bipush 48, 2) := by decide +kernel
theorem s_145_1 {d : Nat} {Q : wQ} {L : List (Option Value)} {st : List Value} {w : aw} {cn sn : Nat}  : wp d 145 Q 1 L st w cn sn = wp d 145 Q 3 L (.int 48 :: st) w cn sn := w_bipush d_145_1 (by decide)
theorem d_145_3 : decode (mB 145) 3 = .ok (.if_icmp .lt 13, 3) := by decide +kernel
theorem s_145_3 {d : Nat} {Q : wQ} {L : List (Option Value)} {st : List Value} {w : aw} {cn sn : Nat} {a b : Int32} : wp d 145 Q 3 L (.int b :: .int a :: st) w cn sn = ((a < b → wp d 145 Q 16 L st w cn sn) ∧ (¬ a < b → wp d 145 Q 6 L st w cn sn)) := w_iclt d_145_3 (by decide)
theorem d_145_6 : decode (mB 145) 6 = .ok (.iload_n 0, 1) := by decide +kernel
theorem s_145_6 {d : Nat} {Q : wQ} {L : List (Option Value)} {st : List Value} {w : aw} {cn sn : Nat} {v : Int32} : wp d 145 Q 6 (some (.int v) :: L) st w cn sn = wp d 145 Q 7 (some (.int v) :: L) (.int v :: st) w cn sn := w_iload_n d_145_6 rfl
theorem d_145_7 : decode (mB 145) 7 = .ok (.bipush 57, 2) := by decide +kernel
theorem s_145_7 {d : Nat} {Q : wQ} {L : List (Option Value)} {st : List Value} {w : aw} {cn sn : Nat}  : wp d 145 Q 7 L st w cn sn = wp d 145 Q 9 L (.int 57 :: st) w cn sn := w_bipush d_145_7 (by decide)
theorem d_145_9 : decode (mB 145) 9 = .ok (.if_icmp .gt 7, 3) := by decide +kernel
theorem s_145_9 {d : Nat} {Q : wQ} {L : List (Option Value)} {st : List Value} {w : aw} {cn sn : Nat} {a b : Int32} : wp d 145 Q 9 L (.int b :: .int a :: st) w cn sn = ((b < a → wp d 145 Q 16 L st w cn sn) ∧ (¬ b < a → wp d 145 Q 12 L st w cn sn)) := w_icgt d_145_9 (by decide)
theorem d_145_12 : decode (mB 145) 12 = .ok (.iconst 1, 1) := by decide +kernel
theorem s_145_12 {d : Nat} {Q : wQ} {L : List (Option Value)} {st : List Value} {w : aw} {cn sn : Nat}  : wp d 145 Q 12 L st w cn sn = wp d 145 Q 13 L (.int 1 :: st) w cn sn := w_iconst d_145_12 (by decide)
theorem d_145_13 : decode (mB 145) 13 = .ok (.goto 4, 3) := by decide +kernel
theorem s_145_13 {d : Nat} {Q : wQ} {L : List (Option Value)} {st : List Value} {w : aw} {cn sn : Nat}  : wp d 145 Q 13 L st w cn sn = wp d 145 Q 17 L st w cn sn := w_goto d_145_13 (by decide)
theorem d_145_16 : decode (mB 145) 16 = .ok (.iconst 0, 1) := by decide +kernel
theorem s_145_16 {d : Nat} {Q : wQ} {L : List (Option Value)} {st : List Value} {w : aw} {cn sn : Nat}  : wp d 145 Q 16 L st w cn sn = wp d 145 Q 17 L (.int 0 :: st) w cn sn := w_iconst d_145_16 (by decide)
theorem d_145_17 : decode (mB 145) 17 = .ok (.ireturn, 1) := by decide +kernel
theorem s_145_17 {d : Nat} {Q : wQ} {L : List (Option Value)} {w : aw} {cn sn : Nat} {v : Int32} : wp d 145 Q 17 L [.int v] w cn sn = (narrow .boolean (.int v) = .int v ∧ Q (some (.int v)) w) := w_zreturn d_145_17 rfl
theorem d_146_0 : decode (mB 146) 0 = .ok (.iload_n 0, 1) := by decide +kernel
theorem s_146_0 {d : Nat} {Q : wQ} {L : List (Option Value)} {st : List Value} {w : aw} {cn sn : Nat} {v : Int32} : wp d 146 Q 0 (some (.int v) :: L) st w cn sn = wp d 146 Q 1 (some (.int v) :: L) (.int v :: st) w cn sn := w_iload_n d_146_0 rfl
theorem d_146_1 : decode (mB 146) 1 = .ok (.invokestatic 225, 3) := by decide +kernel
theorem s_146_1 {d : Nat} {Q : wQ} {L : List (Option Value)} {st : List Value} {w : aw} {cn sn : Nat} {v0 : Value} : wp d 146 Q 1 L (v0 :: st) w cn sn = (catS st ≤ 8 ∧ wpD d 144 [v0] w (fun v w' => wp d 146 Q 4 L (v.toList ++ st) w' cn sn)) := w_static (As := [v0]) d_146_1 (by decide +kernel : cT (mO 146) 225 = some (2, 144)) (by decide +kernel) rfl (by decide +kernel) rfl
theorem d_146_4 : decode (mB 146) 4 = .ok (.ifCond .eq 12, 3) := by decide +kernel
theorem s_146_4 {d : Nat} {Q : wQ} {L : List (Option Value)} {st : List Value} {w : aw} {cn sn : Nat} {x : Int32} : wp d 146 Q 4 L (.int x :: st) w cn sn = ((x = 0 → wp d 146 Q 16 L st w cn sn) ∧ (¬ x = 0 → wp d 146 Q 7 L st w cn sn)) := w_ifeq d_146_4 (by decide)
theorem d_146_7 : decode (mB 146) 7 = .ok (.iload_n 0, 1) := by decide +kernel
theorem s_146_7 {d : Nat} {Q : wQ} {L : List (Option Value)} {st : List Value} {w : aw} {cn sn : Nat} {v : Int32} : wp d 146 Q 7 (some (.int v) :: L) st w cn sn = wp d 146 Q 8 (some (.int v) :: L) (.int v :: st) w cn sn := w_iload_n d_146_7 rfl
theorem d_146_8 : decode (mB 146) 8 = .ok (.bipush 65, 2) := by decide +kernel
theorem s_146_8 {d : Nat} {Q : wQ} {L : List (Option Value)} {st : List Value} {w : aw} {cn sn : Nat}  : wp d 146 Q 8 L st w cn sn = wp d 146 Q 10 L (.int 65 :: st) w cn sn := w_bipush d_146_8 (by decide)
theorem d_146_10 : decode (mB 146) 10 = .ok (.isub, 1) := by decide +kernel
theorem s_146_10 {d : Nat} {Q : wQ} {L : List (Option Value)} {st : List Value} {w : aw} {cn sn : Nat} {a b : Int32} : wp d 146 Q 10 L (.int b :: .int a :: st) w cn sn = wp d 146 Q 11 L (.int (a - b) :: st) w cn sn := wp_row d_146_10 _ _ _ _ _
theorem d_146_11 : decode (mB 146) 11 = .ok (.iconst 1, 1) := by decide +kernel
theorem s_146_11 {d : Nat} {Q : wQ} {L : List (Option Value)} {st : List Value} {w : aw} {cn sn : Nat}  : wp d 146 Q 11 L st w cn sn = wp d 146 Q 12 L (.int 1 :: st) w cn sn := w_iconst d_146_11 (by decide)
theorem d_146_12 : decode (mB 146) 12 = .ok (.iadd, 1) := by decide +kernel
theorem s_146_12 {d : Nat} {Q : wQ} {L : List (Option Value)} {st : List Value} {w : aw} {cn sn : Nat} {a b : Int32} : wp d 146 Q 12 L (.int b :: .int a :: st) w cn sn = wp d 146 Q 13 L (.int (a + b) :: st) w cn sn := wp_row d_146_12 _ _ _ _ _
theorem d_146_13 : decode (mB 146) 13 = .ok (.goto 10, 3) := by decide +kernel
theorem s_146_13 {d : Nat} {Q : wQ} {L : List (Option Value)} {st : List Value} {w : aw} {cn sn : Nat}  : wp d 146 Q 13 L st w cn sn = wp d 146 Q 23 L st w cn sn := w_goto d_146_13 (by decide)
theorem d_146_16 : decode (mB 146) 16 = .ok (.iload_n 0, 1) := by decide +kernel
theorem s_146_16 {d : Nat} {Q : wQ} {L : List (Option Value)} {st : List Value} {w : aw} {cn sn : Nat} {v : Int32} : wp d 146 Q 16 (some (.int v) :: L) st w cn sn = wp d 146 Q 17 (some (.int v) :: L) (.int v :: st) w cn sn := w_iload_n d_146_16 rfl
theorem d_146_17 : decode (mB 146) 17 = .ok (.bipush 48, 2) := by decide +kernel
theorem s_146_17 {d : Nat} {Q : wQ} {L : List (Option Value)} {st : List Value} {w : aw} {cn sn : Nat}  : wp d 146 Q 17 L st w cn sn = wp d 146 Q 19 L (.int 48 :: st) w cn sn := w_bipush d_146_17 (by decide)
theorem d_146_19 : decode (mB 146) 19 = .ok (.isub, 1) := by decide +kernel
theorem s_146_19 {d : Nat} {Q : wQ} {L : List (Option Value)} {st : List Value} {w : aw} {cn sn : Nat} {a b : Int32} : wp d 146 Q 19 L (.int b :: .int a :: st) w cn sn = wp d 146 Q 20 L (.int (a - b) :: st) w cn sn := wp_row d_146_19 _ _ _ _ _
theorem d_146_20 : decode (mB 146) 20 = .ok (.bipush 27, 2) := by decide +kernel
theorem s_146_20 {d : Nat} {Q : wQ} {L : List (Option Value)} {st : List Value} {w : aw} {cn sn : Nat}  : wp d 146 Q 20 L st w cn sn = wp d 146 Q 22 L (.int 27 :: st) w cn sn := w_bipush d_146_20 (by decide)
theorem d_146_22 : decode (mB 146) 22 = .ok (.iadd, 1) := by decide +kernel
theorem s_146_22 {d : Nat} {Q : wQ} {L : List (Option Value)} {st : List Value} {w : aw} {cn sn : Nat} {a b : Int32} : wp d 146 Q 22 L (.int b :: .int a :: st) w cn sn = wp d 146 Q 23 L (.int (a + b) :: st) w cn sn := wp_row d_146_22 _ _ _ _ _
theorem d_146_23 : decode (mB 146) 23 = .ok (.ireturn, 1) := by decide +kernel
theorem s_146_23 {d : Nat} {Q : wQ} {L : List (Option Value)} {w : aw} {cn sn : Nat} {v : Int32} : wp d 146 Q 23 L [.int v] w cn sn = Q (some (.int v)) w := w_ireturn d_146_23 rfl
theorem d_147_0 : decode (mB 147) 0 = .ok (.iload_n 1, 1) := by decide +kernel
theorem s_147_0 {d : Nat} {Q : wQ} {L : List (Option Value)} {st : List Value} {w : aw} {cn sn : Nat} {a0 : Option Value} {v : Int32} : wp d 147 Q 0 (a0 :: some (.int v) :: L) st w cn sn = wp d 147 Q 1 (a0 :: some (.int v) :: L) (.int v :: st) w cn sn := w_iload_n d_147_0 rfl
theorem d_147_1 : decode (mB 147) 1 = .ok (.aload_n 0, 1) := by decide +kernel
theorem s_147_1 {d : Nat} {Q : wQ} {L : List (Option Value)} {st : List Value} {w : aw} {cn sn : Nat} {v : Nat} : wp d 147 Q 1 (some (.ref v) :: L) st w cn sn = wp d 147 Q 2 (some (.ref v) :: L) (.ref v :: st) w cn sn := w_aload_n d_147_1 rfl
theorem d_147_2 : decode (mB 147) 2 = .ok (.getfield 228, 3) := by decide +kernel
theorem s_147_2 {d : Nat} {Q : wQ} {L : List (Option Value)} {st : List Value} {w : aw} {cn sn : Nat} {a : Nat} : wp d 147 Q 2 L (.ref a :: st) w cn sn = (kd w a = 9 ∧ wp d 147 Q 5 L (fd w 556 a :: st) w cn sn) := w_getfield d_147_2 (by decide +kernel : fT (mO 147) 228 = some (8, 44))
theorem d_147_5 : decode (mB 147) 5 = .ok (.if_icmp .ge 12, 3) := by decide +kernel
theorem s_147_5 {d : Nat} {Q : wQ} {L : List (Option Value)} {st : List Value} {w : aw} {cn sn : Nat} {a b : Int32} : wp d 147 Q 5 L (.int b :: .int a :: st) w cn sn = ((b ≤ a → wp d 147 Q 17 L st w cn sn) ∧ (¬ b ≤ a → wp d 147 Q 8 L st w cn sn)) := w_icge d_147_5 (by decide)
theorem d_147_8 : decode (mB 147) 8 = .ok (.aload_n 0, 1) := by decide +kernel
theorem s_147_8 {d : Nat} {Q : wQ} {L : List (Option Value)} {st : List Value} {w : aw} {cn sn : Nat} {v : Nat} : wp d 147 Q 8 (some (.ref v) :: L) st w cn sn = wp d 147 Q 9 (some (.ref v) :: L) (.ref v :: st) w cn sn := w_aload_n d_147_8 rfl
theorem d_147_9 : decode (mB 147) 9 = .ok (.getfield 72, 3) := by decide +kernel
theorem s_147_9 {d : Nat} {Q : wQ} {L : List (Option Value)} {st : List Value} {w : aw} {cn sn : Nat} {a : Nat} : wp d 147 Q 9 L (.ref a :: st) w cn sn = (kd w a = 9 ∧ wp d 147 Q 12 L (fd w 542 a :: st) w cn sn) := w_getfield d_147_9 (by decide +kernel : fT (mO 147) 72 = some (8, 30))
theorem d_147_12 : decode (mB 147) 12 = .ok (.iload_n 1, 1) := by decide +kernel
theorem s_147_12 {d : Nat} {Q : wQ} {L : List (Option Value)} {st : List Value} {w : aw} {cn sn : Nat} {a0 : Option Value} {v : Int32} : wp d 147 Q 12 (a0 :: some (.int v) :: L) st w cn sn = wp d 147 Q 13 (a0 :: some (.int v) :: L) (.int v :: st) w cn sn := w_iload_n d_147_12 rfl
theorem d_147_13 : decode (mB 147) 13 = .ok (.iaload, 1) := by decide +kernel
theorem s_147_13 {d : Nat} {Q : wQ} {L : List (Option Value)} {st : List Value} {w : aw} {cn sn : Nat} {a : Nat} {i : Int32} : wp d 147 Q 13 L (.int i :: .ref a :: st) w cn sn = ((kd w a = 20 ∨ kd w a = 30) ∧ inR i (ln w a) ∧ wp d 147 Q 14 L (.int (ai w a i.toNatClampNeg) :: st) w cn sn) := wp_row d_147_13 _ _ _ _ _
theorem d_147_14 : decode (mB 147) 14 = .ok (.goto 4, 3) := by decide +kernel
theorem s_147_14 {d : Nat} {Q : wQ} {L : List (Option Value)} {st : List Value} {w : aw} {cn sn : Nat}  : wp d 147 Q 14 L st w cn sn = wp d 147 Q 18 L st w cn sn := w_goto d_147_14 (by decide)
theorem d_147_17 : decode (mB 147) 17 = .ok (.iconst 0, 1) := by decide +kernel
theorem s_147_17 {d : Nat} {Q : wQ} {L : List (Option Value)} {st : List Value} {w : aw} {cn sn : Nat}  : wp d 147 Q 17 L st w cn sn = wp d 147 Q 18 L (.int 0 :: st) w cn sn := w_iconst d_147_17 (by decide)
theorem d_147_18 : decode (mB 147) 18 = .ok (.ireturn, 1) := by decide +kernel
theorem s_147_18 {d : Nat} {Q : wQ} {L : List (Option Value)} {w : aw} {cn sn : Nat} {v : Int32} : wp d 147 Q 18 L [.int v] w cn sn = Q (some (.int v)) w := w_ireturn d_147_18 rfl
theorem d_148_0 : decode (mB 148) 0 = .ok (.aload_n 0, 1) := by decide +kernel
theorem s_148_0 {d : Nat} {Q : wQ} {L : List (Option Value)} {st : List Value} {w : aw} {cn sn : Nat} {v : Nat} : wp d 148 Q 0 (some (.ref v) :: L) st w cn sn = wp d 148 Q 1 (some (.ref v) :: L) (.ref v :: st) w cn sn := w_aload_n d_148_0 rfl
theorem d_148_1 : decode (mB 148) 1 = .ok (.getfield 231, 3) := by decide +kernel
theorem s_148_1 {d : Nat} {Q : wQ} {L : List (Option Value)} {st : List Value} {w : aw} {cn sn : Nat} {a : Nat} : wp d 148 Q 1 L (.ref a :: st) w cn sn = (kd w a = 9 ∧ wp d 148 Q 4 L (fd w 555 a :: st) w cn sn) := w_getfield d_148_1 (by decide +kernel : fT (mO 148) 231 = some (8, 43))
theorem d_148_4 : decode (mB 148) 4 = .ok (.aload_n 0, 1) := by decide +kernel
theorem s_148_4 {d : Nat} {Q : wQ} {L : List (Option Value)} {st : List Value} {w : aw} {cn sn : Nat} {v : Nat} : wp d 148 Q 4 (some (.ref v) :: L) st w cn sn = wp d 148 Q 5 (some (.ref v) :: L) (.ref v :: st) w cn sn := w_aload_n d_148_4 rfl
theorem d_148_5 : decode (mB 148) 5 = .ok (.getfield 228, 3) := by decide +kernel
theorem s_148_5 {d : Nat} {Q : wQ} {L : List (Option Value)} {st : List Value} {w : aw} {cn sn : Nat} {a : Nat} : wp d 148 Q 5 L (.ref a :: st) w cn sn = (kd w a = 9 ∧ wp d 148 Q 8 L (fd w 556 a :: st) w cn sn) := w_getfield d_148_5 (by decide +kernel : fT (mO 148) 228 = some (8, 44))
theorem d_148_8 : decode (mB 148) 8 = .ok (.if_icmp .ge 44, 3) := by decide +kernel
theorem s_148_8 {d : Nat} {Q : wQ} {L : List (Option Value)} {st : List Value} {w : aw} {cn sn : Nat} {a b : Int32} : wp d 148 Q 8 L (.int b :: .int a :: st) w cn sn = ((b ≤ a → wp d 148 Q 52 L st w cn sn) ∧ (¬ b ≤ a → wp d 148 Q 11 L st w cn sn)) := w_icge d_148_8 (by decide)
theorem d_148_11 : decode (mB 148) 11 = .ok (.aload_n 0, 1) := by decide +kernel
theorem s_148_11 {d : Nat} {Q : wQ} {L : List (Option Value)} {st : List Value} {w : aw} {cn sn : Nat} {v : Nat} : wp d 148 Q 11 (some (.ref v) :: L) st w cn sn = wp d 148 Q 12 (some (.ref v) :: L) (.ref v :: st) w cn sn := w_aload_n d_148_11 rfl
theorem d_148_12 : decode (mB 148) 12 = .ok (.getfield 72, 3) := by decide +kernel
theorem s_148_12 {d : Nat} {Q : wQ} {L : List (Option Value)} {st : List Value} {w : aw} {cn sn : Nat} {a : Nat} : wp d 148 Q 12 L (.ref a :: st) w cn sn = (kd w a = 9 ∧ wp d 148 Q 15 L (fd w 542 a :: st) w cn sn) := w_getfield d_148_12 (by decide +kernel : fT (mO 148) 72 = some (8, 30))
theorem d_148_15 : decode (mB 148) 15 = .ok (.aload_n 0, 1) := by decide +kernel
theorem s_148_15 {d : Nat} {Q : wQ} {L : List (Option Value)} {st : List Value} {w : aw} {cn sn : Nat} {v : Nat} : wp d 148 Q 15 (some (.ref v) :: L) st w cn sn = wp d 148 Q 16 (some (.ref v) :: L) (.ref v :: st) w cn sn := w_aload_n d_148_15 rfl
theorem d_148_16 : decode (mB 148) 16 = .ok (.getfield 231, 3) := by decide +kernel
theorem s_148_16 {d : Nat} {Q : wQ} {L : List (Option Value)} {st : List Value} {w : aw} {cn sn : Nat} {a : Nat} : wp d 148 Q 16 L (.ref a :: st) w cn sn = (kd w a = 9 ∧ wp d 148 Q 19 L (fd w 555 a :: st) w cn sn) := w_getfield d_148_16 (by decide +kernel : fT (mO 148) 231 = some (8, 43))
theorem d_148_19 : decode (mB 148) 19 = .ok (.iaload, 1) := by decide +kernel
theorem s_148_19 {d : Nat} {Q : wQ} {L : List (Option Value)} {st : List Value} {w : aw} {cn sn : Nat} {a : Nat} {i : Int32} : wp d 148 Q 19 L (.int i :: .ref a :: st) w cn sn = ((kd w a = 20 ∨ kd w a = 30) ∧ inR i (ln w a) ∧ wp d 148 Q 20 L (.int (ai w a i.toNatClampNeg) :: st) w cn sn) := wp_row d_148_19 _ _ _ _ _
theorem d_148_20 : decode (mB 148) 20 = .ok (.bipush 32, 2) := by decide +kernel
theorem s_148_20 {d : Nat} {Q : wQ} {L : List (Option Value)} {st : List Value} {w : aw} {cn sn : Nat}  : wp d 148 Q 20 L st w cn sn = wp d 148 Q 22 L (.int 32 :: st) w cn sn := w_bipush d_148_20 (by decide)
theorem d_148_22 : decode (mB 148) 22 = .ok (.if_icmp .eq 17, 3) := by decide +kernel
theorem s_148_22 {d : Nat} {Q : wQ} {L : List (Option Value)} {st : List Value} {w : aw} {cn sn : Nat} {a b : Int32} : wp d 148 Q 22 L (.int b :: .int a :: st) w cn sn = ((a = b → wp d 148 Q 39 L st w cn sn) ∧ (¬ a = b → wp d 148 Q 25 L st w cn sn)) := w_iceq d_148_22 (by decide)
theorem d_148_25 : decode (mB 148) 25 = .ok (.aload_n 0, 1) := by decide +kernel
theorem s_148_25 {d : Nat} {Q : wQ} {L : List (Option Value)} {st : List Value} {w : aw} {cn sn : Nat} {v : Nat} : wp d 148 Q 25 (some (.ref v) :: L) st w cn sn = wp d 148 Q 26 (some (.ref v) :: L) (.ref v :: st) w cn sn := w_aload_n d_148_25 rfl
theorem d_148_26 : decode (mB 148) 26 = .ok (.getfield 72, 3) := by decide +kernel
theorem s_148_26 {d : Nat} {Q : wQ} {L : List (Option Value)} {st : List Value} {w : aw} {cn sn : Nat} {a : Nat} : wp d 148 Q 26 L (.ref a :: st) w cn sn = (kd w a = 9 ∧ wp d 148 Q 29 L (fd w 542 a :: st) w cn sn) := w_getfield d_148_26 (by decide +kernel : fT (mO 148) 72 = some (8, 30))
theorem d_148_29 : decode (mB 148) 29 = .ok (.aload_n 0, 1) := by decide +kernel
theorem s_148_29 {d : Nat} {Q : wQ} {L : List (Option Value)} {st : List Value} {w : aw} {cn sn : Nat} {v : Nat} : wp d 148 Q 29 (some (.ref v) :: L) st w cn sn = wp d 148 Q 30 (some (.ref v) :: L) (.ref v :: st) w cn sn := w_aload_n d_148_29 rfl
theorem d_148_30 : decode (mB 148) 30 = .ok (.getfield 231, 3) := by decide +kernel
theorem s_148_30 {d : Nat} {Q : wQ} {L : List (Option Value)} {st : List Value} {w : aw} {cn sn : Nat} {a : Nat} : wp d 148 Q 30 L (.ref a :: st) w cn sn = (kd w a = 9 ∧ wp d 148 Q 33 L (fd w 555 a :: st) w cn sn) := w_getfield d_148_30 (by decide +kernel : fT (mO 148) 231 = some (8, 43))
theorem d_148_33 : decode (mB 148) 33 = .ok (.iaload, 1) := by decide +kernel
theorem s_148_33 {d : Nat} {Q : wQ} {L : List (Option Value)} {st : List Value} {w : aw} {cn sn : Nat} {a : Nat} {i : Int32} : wp d 148 Q 33 L (.int i :: .ref a :: st) w cn sn = ((kd w a = 20 ∨ kd w a = 30) ∧ inR i (ln w a) ∧ wp d 148 Q 34 L (.int (ai w a i.toNatClampNeg) :: st) w cn sn) := wp_row d_148_33 _ _ _ _ _
theorem d_148_34 : decode (mB 148) 34 = .ok (.bipush 9, 2) := by decide +kernel
theorem s_148_34 {d : Nat} {Q : wQ} {L : List (Option Value)} {st : List Value} {w : aw} {cn sn : Nat}  : wp d 148 Q 34 L st w cn sn = wp d 148 Q 36 L (.int 9 :: st) w cn sn := w_bipush d_148_34 (by decide)
theorem d_148_36 : decode (mB 148) 36 = .ok (.if_icmp .ne 16, 3) := by decide +kernel
theorem s_148_36 {d : Nat} {Q : wQ} {L : List (Option Value)} {st : List Value} {w : aw} {cn sn : Nat} {a b : Int32} : wp d 148 Q 36 L (.int b :: .int a :: st) w cn sn = ((¬ a = b → wp d 148 Q 52 L st w cn sn) ∧ (a = b → wp d 148 Q 39 L st w cn sn)) := w_icne d_148_36 (by decide)
theorem d_148_39 : decode (mB 148) 39 = .ok (.aload_n 0, 1) := by decide +kernel
theorem s_148_39 {d : Nat} {Q : wQ} {L : List (Option Value)} {st : List Value} {w : aw} {cn sn : Nat} {v : Nat} : wp d 148 Q 39 (some (.ref v) :: L) st w cn sn = wp d 148 Q 40 (some (.ref v) :: L) (.ref v :: st) w cn sn := w_aload_n d_148_39 rfl
theorem d_148_40 : decode (mB 148) 40 = .ok (.dup, 1) := by decide +kernel
theorem s_148_40 {d : Nat} {Q : wQ} {L : List (Option Value)} {st : List Value} {w : aw} {cn sn : Nat} {v : Value} : wp d 148 Q 40 L (v :: st) w cn sn = (v.category = 1 ∧ wp d 148 Q 41 L (v :: v :: st) w cn sn) := wp_row d_148_40 _ _ _ _ _
theorem d_148_41 : decode (mB 148) 41 = .ok (.getfield 231, 3) := by decide +kernel
theorem s_148_41 {d : Nat} {Q : wQ} {L : List (Option Value)} {st : List Value} {w : aw} {cn sn : Nat} {a : Nat} : wp d 148 Q 41 L (.ref a :: st) w cn sn = (kd w a = 9 ∧ wp d 148 Q 44 L (fd w 555 a :: st) w cn sn) := w_getfield d_148_41 (by decide +kernel : fT (mO 148) 231 = some (8, 43))
theorem d_148_44 : decode (mB 148) 44 = .ok (.iconst 1, 1) := by decide +kernel
theorem s_148_44 {d : Nat} {Q : wQ} {L : List (Option Value)} {st : List Value} {w : aw} {cn sn : Nat}  : wp d 148 Q 44 L st w cn sn = wp d 148 Q 45 L (.int 1 :: st) w cn sn := w_iconst d_148_44 (by decide)
theorem d_148_45 : decode (mB 148) 45 = .ok (.iadd, 1) := by decide +kernel
theorem s_148_45 {d : Nat} {Q : wQ} {L : List (Option Value)} {st : List Value} {w : aw} {cn sn : Nat} {a b : Int32} : wp d 148 Q 45 L (.int b :: .int a :: st) w cn sn = wp d 148 Q 46 L (.int (a + b) :: st) w cn sn := wp_row d_148_45 _ _ _ _ _
theorem d_148_46 : decode (mB 148) 46 = .ok (.putfield 231, 3) := by decide +kernel
theorem s_148_46 {d : Nat} {Q : wQ} {L : List (Option Value)} {st : List Value} {w : aw} {cn sn : Nat} {x : Int32} {a : Nat} : wp d 148 Q 46 L (.int x :: .ref a :: st) w cn sn = (kd w a = 9 ∧ wp d 148 Q 49 L st (uF w 555 a (.int x)) cn sn) := w_putfield d_148_46 (by decide +kernel : fT (mO 148) 231 = some (8, 43)) (by decide +kernel) ok_int
theorem d_148_49 : decode (mB 148) 49 = .ok (.goto (-49), 3) := by decide +kernel
theorem s_148_49 {d : Nat} {Q : wQ} {L : List (Option Value)} {st : List Value} {w : aw} {cn sn : Nat}  : wp d 148 Q 49 L st w cn sn = wp d 148 Q 0 L st w cn sn := w_goto d_148_49 (by decide)
theorem d_148_52 : decode (mB 148) 52 = .ok (.return_, 1) := by decide +kernel
theorem s_148_52 {d : Nat} {Q : wQ} {L : List (Option Value)} {w : aw} {cn sn : Nat}  : wp d 148 Q 52 L [] w cn sn = Q none w := w_return d_148_52 rfl
theorem d_149_0 : decode (mB 149) 0 = .ok (.iload_n 1, 1) := by decide +kernel
theorem s_149_0 {d : Nat} {Q : wQ} {L : List (Option Value)} {st : List Value} {w : aw} {cn sn : Nat} {a0 : Option Value} {v : Int32} : wp d 149 Q 0 (a0 :: some (.int v) :: L) st w cn sn = wp d 149 Q 1 (a0 :: some (.int v) :: L) (.int v :: st) w cn sn := w_iload_n d_149_0 rfl
theorem d_149_1 : decode (mB 149) 1 = .ok (.istore_n 2, 1) := by decide +kernel
theorem s_149_1 {d : Nat} {Q : wQ} {L : List (Option Value)} {st : List Value} {w : aw} {cn sn : Nat} {a0 a1 a2 : Option Value} {v : Int32} : wp d 149 Q 1 (a0 :: a1 :: a2 :: L) (.int v :: st) w cn sn = wp d 149 Q 2 (a0 :: clr a1 :: some (.int v) :: L) st w cn sn := w_istore_n d_149_1 (Nat.le_add_left 3 _) rfl
theorem d_149_2 : decode (mB 149) 2 = .ok (.iload_n 2, 1) := by decide +kernel
theorem s_149_2 {d : Nat} {Q : wQ} {L : List (Option Value)} {st : List Value} {w : aw} {cn sn : Nat} {a0 a1 : Option Value} {v : Int32} : wp d 149 Q 2 (a0 :: a1 :: some (.int v) :: L) st w cn sn = wp d 149 Q 3 (a0 :: a1 :: some (.int v) :: L) (.int v :: st) w cn sn := w_iload_n d_149_2 rfl
theorem d_149_3 : decode (mB 149) 3 = .ok (.aload_n 0, 1) := by decide +kernel
theorem s_149_3 {d : Nat} {Q : wQ} {L : List (Option Value)} {st : List Value} {w : aw} {cn sn : Nat} {v : Nat} : wp d 149 Q 3 (some (.ref v) :: L) st w cn sn = wp d 149 Q 4 (some (.ref v) :: L) (.ref v :: st) w cn sn := w_aload_n d_149_3 rfl
theorem d_149_4 : decode (mB 149) 4 = .ok (.getfield 228, 3) := by decide +kernel
theorem s_149_4 {d : Nat} {Q : wQ} {L : List (Option Value)} {st : List Value} {w : aw} {cn sn : Nat} {a : Nat} : wp d 149 Q 4 L (.ref a :: st) w cn sn = (kd w a = 9 ∧ wp d 149 Q 7 L (fd w 556 a :: st) w cn sn) := w_getfield d_149_4 (by decide +kernel : fT (mO 149) 228 = some (8, 44))
theorem d_149_7 : decode (mB 149) 7 = .ok (.if_icmp .ge 33, 3) := by decide +kernel
theorem s_149_7 {d : Nat} {Q : wQ} {L : List (Option Value)} {st : List Value} {w : aw} {cn sn : Nat} {a b : Int32} : wp d 149 Q 7 L (.int b :: .int a :: st) w cn sn = ((b ≤ a → wp d 149 Q 40 L st w cn sn) ∧ (¬ b ≤ a → wp d 149 Q 10 L st w cn sn)) := w_icge d_149_7 (by decide)
theorem d_149_10 : decode (mB 149) 10 = .ok (.aload_n 0, 1) := by decide +kernel
theorem s_149_10 {d : Nat} {Q : wQ} {L : List (Option Value)} {st : List Value} {w : aw} {cn sn : Nat} {v : Nat} : wp d 149 Q 10 (some (.ref v) :: L) st w cn sn = wp d 149 Q 11 (some (.ref v) :: L) (.ref v :: st) w cn sn := w_aload_n d_149_10 rfl
theorem d_149_11 : decode (mB 149) 11 = .ok (.getfield 72, 3) := by decide +kernel
theorem s_149_11 {d : Nat} {Q : wQ} {L : List (Option Value)} {st : List Value} {w : aw} {cn sn : Nat} {a : Nat} : wp d 149 Q 11 L (.ref a :: st) w cn sn = (kd w a = 9 ∧ wp d 149 Q 14 L (fd w 542 a :: st) w cn sn) := w_getfield d_149_11 (by decide +kernel : fT (mO 149) 72 = some (8, 30))
theorem d_149_14 : decode (mB 149) 14 = .ok (.iload_n 2, 1) := by decide +kernel
theorem s_149_14 {d : Nat} {Q : wQ} {L : List (Option Value)} {st : List Value} {w : aw} {cn sn : Nat} {a0 a1 : Option Value} {v : Int32} : wp d 149 Q 14 (a0 :: a1 :: some (.int v) :: L) st w cn sn = wp d 149 Q 15 (a0 :: a1 :: some (.int v) :: L) (.int v :: st) w cn sn := w_iload_n d_149_14 rfl
theorem d_149_15 : decode (mB 149) 15 = .ok (.iaload, 1) := by decide +kernel
theorem s_149_15 {d : Nat} {Q : wQ} {L : List (Option Value)} {st : List Value} {w : aw} {cn sn : Nat} {a : Nat} {i : Int32} : wp d 149 Q 15 L (.int i :: .ref a :: st) w cn sn = ((kd w a = 20 ∨ kd w a = 30) ∧ inR i (ln w a) ∧ wp d 149 Q 16 L (.int (ai w a i.toNatClampNeg) :: st) w cn sn) := wp_row d_149_15 _ _ _ _ _
theorem d_149_16 : decode (mB 149) 16 = .ok (.invokestatic 225, 3) := by decide +kernel
theorem s_149_16 {d : Nat} {Q : wQ} {L : List (Option Value)} {st : List Value} {w : aw} {cn sn : Nat} {v0 : Value} : wp d 149 Q 16 L (v0 :: st) w cn sn = (catS st ≤ 8 ∧ wpD d 144 [v0] w (fun v w' => wp d 149 Q 19 L (v.toList ++ st) w' cn sn)) := w_static (As := [v0]) d_149_16 (by decide +kernel : cT (mO 149) 225 = some (2, 144)) (by decide +kernel) rfl (by decide +kernel) rfl
theorem d_149_19 : decode (mB 149) 19 = .ok (.ifCond .ne 15, 3) := by decide +kernel
theorem s_149_19 {d : Nat} {Q : wQ} {L : List (Option Value)} {st : List Value} {w : aw} {cn sn : Nat} {x : Int32} : wp d 149 Q 19 L (.int x :: st) w cn sn = ((¬ x = 0 → wp d 149 Q 34 L st w cn sn) ∧ (x = 0 → wp d 149 Q 22 L st w cn sn)) := w_ifne d_149_19 (by decide)
theorem d_149_22 : decode (mB 149) 22 = .ok (.aload_n 0, 1) := by decide +kernel
theorem s_149_22 {d : Nat} {Q : wQ} {L : List (Option Value)} {st : List Value} {w : aw} {cn sn : Nat} {v : Nat} : wp d 149 Q 22 (some (.ref v) :: L) st w cn sn = wp d 149 Q 23 (some (.ref v) :: L) (.ref v :: st) w cn sn := w_aload_n d_149_22 rfl
theorem d_149_23 : decode (mB 149) 23 = .ok (.getfield 72, 3) := by decide +kernel
theorem s_149_23 {d : Nat} {Q : wQ} {L : List (Option Value)} {st : List Value} {w : aw} {cn sn : Nat} {a : Nat} : wp d 149 Q 23 L (.ref a :: st) w cn sn = (kd w a = 9 ∧ wp d 149 Q 26 L (fd w 542 a :: st) w cn sn) := w_getfield d_149_23 (by decide +kernel : fT (mO 149) 72 = some (8, 30))
theorem d_149_26 : decode (mB 149) 26 = .ok (.iload_n 2, 1) := by decide +kernel
theorem s_149_26 {d : Nat} {Q : wQ} {L : List (Option Value)} {st : List Value} {w : aw} {cn sn : Nat} {a0 a1 : Option Value} {v : Int32} : wp d 149 Q 26 (a0 :: a1 :: some (.int v) :: L) st w cn sn = wp d 149 Q 27 (a0 :: a1 :: some (.int v) :: L) (.int v :: st) w cn sn := w_iload_n d_149_26 rfl
theorem d_149_27 : decode (mB 149) 27 = .ok (.iaload, 1) := by decide +kernel
theorem s_149_27 {d : Nat} {Q : wQ} {L : List (Option Value)} {st : List Value} {w : aw} {cn sn : Nat} {a : Nat} {i : Int32} : wp d 149 Q 27 L (.int i :: .ref a :: st) w cn sn = ((kd w a = 20 ∨ kd w a = 30) ∧ inR i (ln w a) ∧ wp d 149 Q 28 L (.int (ai w a i.toNatClampNeg) :: st) w cn sn) := wp_row d_149_27 _ _ _ _ _
theorem d_149_28 : decode (mB 149) 28 = .ok (.invokestatic 234, 3) := by decide +kernel
theorem s_149_28 {d : Nat} {Q : wQ} {L : List (Option Value)} {st : List Value} {w : aw} {cn sn : Nat} {v0 : Value} : wp d 149 Q 28 L (v0 :: st) w cn sn = (catS st ≤ 8 ∧ wpD d 145 [v0] w (fun v w' => wp d 149 Q 31 L (v.toList ++ st) w' cn sn)) := w_static (As := [v0]) d_149_28 (by decide +kernel : cT (mO 149) 234 = some (2, 145)) (by decide +kernel) rfl (by decide +kernel) rfl
theorem d_149_31 : decode (mB 149) 31 = .ok (.ifCond .eq 9, 3) := by decide +kernel
theorem s_149_31 {d : Nat} {Q : wQ} {L : List (Option Value)} {st : List Value} {w : aw} {cn sn : Nat} {x : Int32} : wp d 149 Q 31 L (.int x :: st) w cn sn = ((x = 0 → wp d 149 Q 40 L st w cn sn) ∧ (¬ x = 0 → wp d 149 Q 34 L st w cn sn)) := w_ifeq d_149_31 (by decide)
theorem d_149_34 : decode (mB 149) 34 = .ok (.iinc 2 1, 3) := by decide +kernel
theorem s_149_34 {d : Nat} {Q : wQ} {L : List (Option Value)} {st : List Value} {w : aw} {cn sn : Nat} {a0 a1 : Option Value} {v : Int32} : wp d 149 Q 34 (a0 :: a1 :: some (.int v) :: L) st w cn sn = wp d 149 Q 37 (a0 :: clr a1 :: some (.int (v + 1)) :: L) st w cn sn := w_iinc d_149_34 rfl (by decide) rfl
theorem d_149_37 : decode (mB 149) 37 = .ok (.goto (-35), 3) := by decide +kernel
theorem s_149_37 {d : Nat} {Q : wQ} {L : List (Option Value)} {st : List Value} {w : aw} {cn sn : Nat}  : wp d 149 Q 37 L st w cn sn = wp d 149 Q 2 L st w cn sn := w_goto d_149_37 (by decide)
theorem d_149_40 : decode (mB 149) 40 = .ok (.iload_n 2, 1) := by decide +kernel
theorem s_149_40 {d : Nat} {Q : wQ} {L : List (Option Value)} {st : List Value} {w : aw} {cn sn : Nat} {a0 a1 : Option Value} {v : Int32} : wp d 149 Q 40 (a0 :: a1 :: some (.int v) :: L) st w cn sn = wp d 149 Q 41 (a0 :: a1 :: some (.int v) :: L) (.int v :: st) w cn sn := w_iload_n d_149_40 rfl
theorem d_149_41 : decode (mB 149) 41 = .ok (.ireturn, 1) := by decide +kernel
theorem s_149_41 {d : Nat} {Q : wQ} {L : List (Option Value)} {w : aw} {cn sn : Nat} {v : Int32} : wp d 149 Q 41 L [.int v] w cn sn = Q (some (.int v)) w := w_ireturn d_149_41 rfl
theorem d_150_0 : decode (mB 150) 0 = .ok (.aload_n 0, 1) := by decide +kernel
theorem s_150_0 {d : Nat} {Q : wQ} {L : List (Option Value)} {st : List Value} {w : aw} {cn sn : Nat} {v : Nat} : wp d 150 Q 0 (some (.ref v) :: L) st w cn sn = wp d 150 Q 1 (some (.ref v) :: L) (.ref v :: st) w cn sn := w_aload_n d_150_0 rfl
theorem d_150_1 : decode (mB 150) 1 = .ok (.iload_n 1, 1) := by decide +kernel
theorem s_150_1 {d : Nat} {Q : wQ} {L : List (Option Value)} {st : List Value} {w : aw} {cn sn : Nat} {a0 : Option Value} {v : Int32} : wp d 150 Q 1 (a0 :: some (.int v) :: L) st w cn sn = wp d 150 Q 2 (a0 :: some (.int v) :: L) (.int v :: st) w cn sn := w_iload_n d_150_1 rfl
theorem d_150_2 : decode (mB 150) 2 = .ok (.invokevirtual 237, 3) := by decide +kernel
theorem s_150_2 {d : Nat} {Q : wQ} {L : List (Option Value)} {st : List Value} {w : aw} {cn sn : Nat} {v0 : Value} {b : Nat} : wp d 150 Q 2 L (v0 :: .ref b :: st) w cn sn = (kd w b = 9 ∧ catS st ≤ 8 ∧ wpD d 147 [.ref b, v0] w (fun v w' => wp d 150 Q 5 L (v.toList ++ st) w' cn sn)) := w_virtual (As := [v0]) d_150_2 (by decide +kernel : cT (mO 150) 237 = some (0, 147)) rfl (by decide +kernel) rfl (by decide +kernel) rfl
theorem d_150_5 : decode (mB 150) 5 = .ok (.invokestatic 225, 3) := by decide +kernel
theorem s_150_5 {d : Nat} {Q : wQ} {L : List (Option Value)} {st : List Value} {w : aw} {cn sn : Nat} {v0 : Value} : wp d 150 Q 5 L (v0 :: st) w cn sn = (catS st ≤ 8 ∧ wpD d 144 [v0] w (fun v w' => wp d 150 Q 8 L (v.toList ++ st) w' cn sn)) := w_static (As := [v0]) d_150_5 (by decide +kernel : cT (mO 150) 225 = some (2, 144)) (by decide +kernel) rfl (by decide +kernel) rfl
theorem d_150_8 : decode (mB 150) 8 = .ok (.ifCond .eq 19, 3) := by decide +kernel
theorem s_150_8 {d : Nat} {Q : wQ} {L : List (Option Value)} {st : List Value} {w : aw} {cn sn : Nat} {x : Int32} : wp d 150 Q 8 L (.int x :: st) w cn sn = ((x = 0 → wp d 150 Q 27 L st w cn sn) ∧ (¬ x = 0 → wp d 150 Q 11 L st w cn sn)) := w_ifeq d_150_8 (by decide)
theorem d_150_11 : decode (mB 150) 11 = .ok (.aload_n 0, 1) := by decide +kernel
theorem s_150_11 {d : Nat} {Q : wQ} {L : List (Option Value)} {st : List Value} {w : aw} {cn sn : Nat} {v : Nat} : wp d 150 Q 11 (some (.ref v) :: L) st w cn sn = wp d 150 Q 12 (some (.ref v) :: L) (.ref v :: st) w cn sn := w_aload_n d_150_11 rfl
theorem d_150_12 : decode (mB 150) 12 = .ok (.iload_n 1, 1) := by decide +kernel
theorem s_150_12 {d : Nat} {Q : wQ} {L : List (Option Value)} {st : List Value} {w : aw} {cn sn : Nat} {a0 : Option Value} {v : Int32} : wp d 150 Q 12 (a0 :: some (.int v) :: L) st w cn sn = wp d 150 Q 13 (a0 :: some (.int v) :: L) (.int v :: st) w cn sn := w_iload_n d_150_12 rfl
theorem d_150_13 : decode (mB 150) 13 = .ok (.invokevirtual 240, 3) := by decide +kernel
theorem s_150_13 {d : Nat} {Q : wQ} {L : List (Option Value)} {st : List Value} {w : aw} {cn sn : Nat} {v0 : Value} {b : Nat} : wp d 150 Q 13 L (v0 :: .ref b :: st) w cn sn = (kd w b = 9 ∧ catS st ≤ 8 ∧ wpD d 149 [.ref b, v0] w (fun v w' => wp d 150 Q 16 L (v.toList ++ st) w' cn sn)) := w_virtual (As := [v0]) d_150_13 (by decide +kernel : cT (mO 150) 240 = some (0, 149)) rfl (by decide +kernel) rfl (by decide +kernel) rfl
theorem d_150_16 : decode (mB 150) 16 = .ok (.iload_n 1, 1) := by decide +kernel
theorem s_150_16 {d : Nat} {Q : wQ} {L : List (Option Value)} {st : List Value} {w : aw} {cn sn : Nat} {a0 : Option Value} {v : Int32} : wp d 150 Q 16 (a0 :: some (.int v) :: L) st w cn sn = wp d 150 Q 17 (a0 :: some (.int v) :: L) (.int v :: st) w cn sn := w_iload_n d_150_16 rfl
theorem d_150_17 : decode (mB 150) 17 = .ok (.isub, 1) := by decide +kernel
theorem s_150_17 {d : Nat} {Q : wQ} {L : List (Option Value)} {st : List Value} {w : aw} {cn sn : Nat} {a b : Int32} : wp d 150 Q 17 L (.int b :: .int a :: st) w cn sn = wp d 150 Q 18 L (.int (a - b) :: st) w cn sn := wp_row d_150_17 _ _ _ _ _
theorem d_150_18 : decode (mB 150) 18 = .ok (.bipush 6, 2) := by decide +kernel
theorem s_150_18 {d : Nat} {Q : wQ} {L : List (Option Value)} {st : List Value} {w : aw} {cn sn : Nat}  : wp d 150 Q 18 L st w cn sn = wp d 150 Q 20 L (.int 6 :: st) w cn sn := w_bipush d_150_18 (by decide)
theorem d_150_20 : decode (mB 150) 20 = .ok (.if_icmp .gt 7, 3) := by decide +kernel
theorem s_150_20 {d : Nat} {Q : wQ} {L : List (Option Value)} {st : List Value} {w : aw} {cn sn : Nat} {a b : Int32} : wp d 150 Q 20 L (.int b :: .int a :: st) w cn sn = ((b < a → wp d 150 Q 27 L st w cn sn) ∧ (¬ b < a → wp d 150 Q 23 L st w cn sn)) := w_icgt d_150_20 (by decide)
theorem d_150_23 : decode (mB 150) 23 = .ok (.iconst 1, 1) := by decide +kernel
theorem s_150_23 {d : Nat} {Q : wQ} {L : List (Option Value)} {st : List Value} {w : aw} {cn sn : Nat}  : wp d 150 Q 23 L st w cn sn = wp d 150 Q 24 L (.int 1 :: st) w cn sn := w_iconst d_150_23 (by decide)
theorem d_150_24 : decode (mB 150) 24 = .ok (.goto 4, 3) := by decide +kernel
theorem s_150_24 {d : Nat} {Q : wQ} {L : List (Option Value)} {st : List Value} {w : aw} {cn sn : Nat}  : wp d 150 Q 24 L st w cn sn = wp d 150 Q 28 L st w cn sn := w_goto d_150_24 (by decide)
theorem d_150_27 : decode (mB 150) 27 = .ok (.iconst 0, 1) := by decide +kernel
theorem s_150_27 {d : Nat} {Q : wQ} {L : List (Option Value)} {st : List Value} {w : aw} {cn sn : Nat}  : wp d 150 Q 27 L st w cn sn = wp d 150 Q 28 L (.int 0 :: st) w cn sn := w_iconst d_150_27 (by decide)
theorem d_150_28 : decode (mB 150) 28 = .ok (.ireturn, 1) := by decide +kernel
theorem s_150_28 {d : Nat} {Q : wQ} {L : List (Option Value)} {w : aw} {cn sn : Nat} {v : Int32} : wp d 150 Q 28 L [.int v] w cn sn = (narrow .boolean (.int v) = .int v ∧ Q (some (.int v)) w) := w_zreturn d_150_28 rfl
theorem d_151_0 : decode (mB 151) 0 = .ok (.lconst 0, 1) := by decide +kernel
theorem s_151_0 {d : Nat} {Q : wQ} {L : List (Option Value)} {st : List Value} {w : aw} {cn sn : Nat}  : wp d 151 Q 0 L st w cn sn = wp d 151 Q 1 L (.long 0 :: st) w cn sn := w_lconst d_151_0 (by decide)
theorem d_151_1 : decode (mB 151) 1 = .ok (.lstore_n 2, 1) := by decide +kernel
theorem s_151_1 {d : Nat} {Q : wQ} {L : List (Option Value)} {st : List Value} {w : aw} {cn sn : Nat} {a0 a1 a2 a3 : Option Value} {v : Int64} : wp d 151 Q 1 (a0 :: a1 :: a2 :: a3 :: L) (.long v :: st) w cn sn = wp d 151 Q 2 (a0 :: clr a1 :: some (.long v) :: none :: L) st w cn sn := w_lstore_n d_151_1 (Nat.le_add_left 4 _) rfl
theorem d_151_2 : decode (mB 151) 2 = .ok (.aload_n 0, 1) := by decide +kernel
theorem s_151_2 {d : Nat} {Q : wQ} {L : List (Option Value)} {st : List Value} {w : aw} {cn sn : Nat} {v : Nat} : wp d 151 Q 2 (some (.ref v) :: L) st w cn sn = wp d 151 Q 3 (some (.ref v) :: L) (.ref v :: st) w cn sn := w_aload_n d_151_2 rfl
theorem d_151_3 : decode (mB 151) 3 = .ok (.iload_n 1, 1) := by decide +kernel
theorem s_151_3 {d : Nat} {Q : wQ} {L : List (Option Value)} {st : List Value} {w : aw} {cn sn : Nat} {a0 : Option Value} {v : Int32} : wp d 151 Q 3 (a0 :: some (.int v) :: L) st w cn sn = wp d 151 Q 4 (a0 :: some (.int v) :: L) (.int v :: st) w cn sn := w_iload_n d_151_3 rfl
theorem d_151_4 : decode (mB 151) 4 = .ok (.invokevirtual 240, 3) := by decide +kernel
theorem s_151_4 {d : Nat} {Q : wQ} {L : List (Option Value)} {st : List Value} {w : aw} {cn sn : Nat} {v0 : Value} {b : Nat} : wp d 151 Q 4 L (v0 :: .ref b :: st) w cn sn = (kd w b = 9 ∧ catS st ≤ 8 ∧ wpD d 149 [.ref b, v0] w (fun v w' => wp d 151 Q 7 L (v.toList ++ st) w' cn sn)) := w_virtual (As := [v0]) d_151_4 (by decide +kernel : cT (mO 151) 240 = some (0, 149)) rfl (by decide +kernel) rfl (by decide +kernel) rfl
theorem d_151_7 : decode (mB 151) 7 = .ok (.istore 4, 2) := by decide +kernel
theorem s_151_7 {d : Nat} {Q : wQ} {L : List (Option Value)} {st : List Value} {w : aw} {cn sn : Nat} {a0 a1 a2 a3 a4 : Option Value} {v : Int32} : wp d 151 Q 7 (a0 :: a1 :: a2 :: a3 :: a4 :: L) (.int v :: st) w cn sn = wp d 151 Q 9 (a0 :: a1 :: a2 :: clr a3 :: some (.int v) :: L) st w cn sn := w_istore d_151_7 (Nat.le_add_left 5 _) rfl
theorem d_151_9 : decode (mB 151) 9 = .ok (.iload_n 1, 1) := by decide +kernel
theorem s_151_9 {d : Nat} {Q : wQ} {L : List (Option Value)} {st : List Value} {w : aw} {cn sn : Nat} {a0 : Option Value} {v : Int32} : wp d 151 Q 9 (a0 :: some (.int v) :: L) st w cn sn = wp d 151 Q 10 (a0 :: some (.int v) :: L) (.int v :: st) w cn sn := w_iload_n d_151_9 rfl
theorem d_151_10 : decode (mB 151) 10 = .ok (.istore 5, 2) := by decide +kernel
theorem s_151_10 {d : Nat} {Q : wQ} {L : List (Option Value)} {st : List Value} {w : aw} {cn sn : Nat} {a0 a1 a2 a3 a4 a5 : Option Value} {v : Int32} : wp d 151 Q 10 (a0 :: a1 :: a2 :: a3 :: a4 :: a5 :: L) (.int v :: st) w cn sn = wp d 151 Q 12 (a0 :: a1 :: a2 :: a3 :: clr a4 :: some (.int v) :: L) st w cn sn := w_istore d_151_10 (Nat.le_add_left 6 _) rfl
theorem d_151_12 : decode (mB 151) 12 = .ok (.iload 5, 2) := by decide +kernel
theorem s_151_12 {d : Nat} {Q : wQ} {L : List (Option Value)} {st : List Value} {w : aw} {cn sn : Nat} {a0 a1 a2 a3 a4 : Option Value} {v : Int32} : wp d 151 Q 12 (a0 :: a1 :: a2 :: a3 :: a4 :: some (.int v) :: L) st w cn sn = wp d 151 Q 14 (a0 :: a1 :: a2 :: a3 :: a4 :: some (.int v) :: L) (.int v :: st) w cn sn := w_iload d_151_12 rfl
theorem d_151_14 : decode (mB 151) 14 = .ok (.iload 4, 2) := by decide +kernel
theorem s_151_14 {d : Nat} {Q : wQ} {L : List (Option Value)} {st : List Value} {w : aw} {cn sn : Nat} {a0 a1 a2 a3 : Option Value} {v : Int32} : wp d 151 Q 14 (a0 :: a1 :: a2 :: a3 :: some (.int v) :: L) st w cn sn = wp d 151 Q 16 (a0 :: a1 :: a2 :: a3 :: some (.int v) :: L) (.int v :: st) w cn sn := w_iload d_151_14 rfl
theorem d_151_16 : decode (mB 151) 16 = .ok (.if_icmp .ge 27, 3) := by decide +kernel
theorem s_151_16 {d : Nat} {Q : wQ} {L : List (Option Value)} {st : List Value} {w : aw} {cn sn : Nat} {a b : Int32} : wp d 151 Q 16 L (.int b :: .int a :: st) w cn sn = ((b ≤ a → wp d 151 Q 43 L st w cn sn) ∧ (¬ b ≤ a → wp d 151 Q 19 L st w cn sn)) := w_icge d_151_16 (by decide)
theorem d_151_19 : decode (mB 151) 19 = .ok (.lload_n 2, 1) := by decide +kernel
theorem s_151_19 {d : Nat} {Q : wQ} {L : List (Option Value)} {st : List Value} {w : aw} {cn sn : Nat} {a0 a1 : Option Value} {v : Int64} : wp d 151 Q 19 (a0 :: a1 :: some (.long v) :: L) st w cn sn = wp d 151 Q 20 (a0 :: a1 :: some (.long v) :: L) (.long v :: st) w cn sn := w_lload_n d_151_19 rfl
theorem d_151_20 : decode (mB 151) 20 = .ok (.ldc2_w 106, 3) := by decide +kernel
theorem s_151_20 {d : Nat} {Q : wQ} {L : List (Option Value)} {st : List Value} {w : aw} {cn sn : Nat}  : wp d 151 Q 20 L st w cn sn = wp d 151 Q 23 L (.long 37 :: st) w cn sn := w_ldc2 d_151_20 (by decide +kernel : kT (mO 151) 106 = some (.long 37))
theorem d_151_23 : decode (mB 151) 23 = .ok (.lmul, 1) := by decide +kernel
theorem s_151_23 {d : Nat} {Q : wQ} {L : List (Option Value)} {st : List Value} {w : aw} {cn sn : Nat} {a b : Int64} : wp d 151 Q 23 L (.long b :: .long a :: st) w cn sn = wp d 151 Q 24 L (.long (a * b) :: st) w cn sn := wp_row d_151_23 _ _ _ _ _
theorem d_151_24 : decode (mB 151) 24 = .ok (.aload_n 0, 1) := by decide +kernel
theorem s_151_24 {d : Nat} {Q : wQ} {L : List (Option Value)} {st : List Value} {w : aw} {cn sn : Nat} {v : Nat} : wp d 151 Q 24 (some (.ref v) :: L) st w cn sn = wp d 151 Q 25 (some (.ref v) :: L) (.ref v :: st) w cn sn := w_aload_n d_151_24 rfl
theorem d_151_25 : decode (mB 151) 25 = .ok (.getfield 72, 3) := by decide +kernel
theorem s_151_25 {d : Nat} {Q : wQ} {L : List (Option Value)} {st : List Value} {w : aw} {cn sn : Nat} {a : Nat} : wp d 151 Q 25 L (.ref a :: st) w cn sn = (kd w a = 9 ∧ wp d 151 Q 28 L (fd w 542 a :: st) w cn sn) := w_getfield d_151_25 (by decide +kernel : fT (mO 151) 72 = some (8, 30))
theorem d_151_28 : decode (mB 151) 28 = .ok (.iload 5, 2) := by decide +kernel
theorem s_151_28 {d : Nat} {Q : wQ} {L : List (Option Value)} {st : List Value} {w : aw} {cn sn : Nat} {a0 a1 a2 a3 a4 : Option Value} {v : Int32} : wp d 151 Q 28 (a0 :: a1 :: a2 :: a3 :: a4 :: some (.int v) :: L) st w cn sn = wp d 151 Q 30 (a0 :: a1 :: a2 :: a3 :: a4 :: some (.int v) :: L) (.int v :: st) w cn sn := w_iload d_151_28 rfl
theorem d_151_30 : decode (mB 151) 30 = .ok (.iaload, 1) := by decide +kernel
theorem s_151_30 {d : Nat} {Q : wQ} {L : List (Option Value)} {st : List Value} {w : aw} {cn sn : Nat} {a : Nat} {i : Int32} : wp d 151 Q 30 L (.int i :: .ref a :: st) w cn sn = ((kd w a = 20 ∨ kd w a = 30) ∧ inR i (ln w a) ∧ wp d 151 Q 31 L (.int (ai w a i.toNatClampNeg) :: st) w cn sn) := wp_row d_151_30 _ _ _ _ _
theorem d_151_31 : decode (mB 151) 31 = .ok (.invokestatic 99, 3) := by decide +kernel
theorem s_151_31 {d : Nat} {Q : wQ} {L : List (Option Value)} {st : List Value} {w : aw} {cn sn : Nat} {v0 : Value} : wp d 151 Q 31 L (v0 :: st) w cn sn = (catS st ≤ 8 ∧ wpD d 146 [v0] w (fun v w' => wp d 151 Q 34 L (v.toList ++ st) w' cn sn)) := w_static (As := [v0]) d_151_31 (by decide +kernel : cT (mO 151) 99 = some (2, 146)) (by decide +kernel) rfl (by decide +kernel) rfl
theorem d_151_34 : decode (mB 151) 34 = .ok (.i2l, 1) := by decide +kernel
theorem s_151_34 {d : Nat} {Q : wQ} {L : List (Option Value)} {st : List Value} {w : aw} {cn sn : Nat} {a : Int32} : wp d 151 Q 34 L (.int a :: st) w cn sn = wp d 151 Q 35 L (.long a.toInt64 :: st) w cn sn := wp_row d_151_34 _ _ _ _ _
theorem d_151_35 : decode (mB 151) 35 = .ok (.ladd, 1) := by decide +kernel
theorem s_151_35 {d : Nat} {Q : wQ} {L : List (Option Value)} {st : List Value} {w : aw} {cn sn : Nat} {a b : Int64} : wp d 151 Q 35 L (.long b :: .long a :: st) w cn sn = wp d 151 Q 36 L (.long (a + b) :: st) w cn sn := wp_row d_151_35 _ _ _ _ _
theorem d_151_36 : decode (mB 151) 36 = .ok (.lstore_n 2, 1) := by decide +kernel
theorem s_151_36 {d : Nat} {Q : wQ} {L : List (Option Value)} {st : List Value} {w : aw} {cn sn : Nat} {a0 a1 a2 a3 : Option Value} {v : Int64} : wp d 151 Q 36 (a0 :: a1 :: a2 :: a3 :: L) (.long v :: st) w cn sn = wp d 151 Q 37 (a0 :: clr a1 :: some (.long v) :: none :: L) st w cn sn := w_lstore_n d_151_36 (Nat.le_add_left 4 _) rfl
theorem d_151_37 : decode (mB 151) 37 = .ok (.iinc 5 1, 3) := by decide +kernel
theorem s_151_37 {d : Nat} {Q : wQ} {L : List (Option Value)} {st : List Value} {w : aw} {cn sn : Nat} {a0 a1 a2 a3 a4 : Option Value} {v : Int32} : wp d 151 Q 37 (a0 :: a1 :: a2 :: a3 :: a4 :: some (.int v) :: L) st w cn sn = wp d 151 Q 40 (a0 :: a1 :: a2 :: a3 :: clr a4 :: some (.int (v + 1)) :: L) st w cn sn := w_iinc d_151_37 rfl (by decide) rfl
theorem d_151_40 : decode (mB 151) 40 = .ok (.goto (-28), 3) := by decide +kernel
theorem s_151_40 {d : Nat} {Q : wQ} {L : List (Option Value)} {st : List Value} {w : aw} {cn sn : Nat}  : wp d 151 Q 40 L st w cn sn = wp d 151 Q 12 L st w cn sn := w_goto d_151_40 (by decide)
theorem d_151_43 : decode (mB 151) 43 = .ok (.lload_n 2, 1) := by decide +kernel
theorem s_151_43 {d : Nat} {Q : wQ} {L : List (Option Value)} {st : List Value} {w : aw} {cn sn : Nat} {a0 a1 : Option Value} {v : Int64} : wp d 151 Q 43 (a0 :: a1 :: some (.long v) :: L) st w cn sn = wp d 151 Q 44 (a0 :: a1 :: some (.long v) :: L) (.long v :: st) w cn sn := w_lload_n d_151_43 rfl
theorem d_151_44 : decode (mB 151) 44 = .ok (.lreturn, 1) := by decide +kernel
theorem s_151_44 {d : Nat} {Q : wQ} {L : List (Option Value)} {w : aw} {cn sn : Nat} {v : Int64} : wp d 151 Q 44 L [.long v] w cn sn = Q (some (.long v)) w := w_lreturn d_151_44 rfl
theorem d_152_0 : decode (mB 152) 0 = .ok (.iconst (-1), 1) := by decide +kernel
theorem s_152_0 {d : Nat} {Q : wQ} {L : List (Option Value)} {st : List Value} {w : aw} {cn sn : Nat}  : wp d 152 Q 0 L st w cn sn = wp d 152 Q 1 L (.int (-1) :: st) w cn sn := w_iconst d_152_0 (by decide)
theorem d_152_1 : decode (mB 152) 1 = .ok (.istore_n 3, 1) := by decide +kernel
theorem s_152_1 {d : Nat} {Q : wQ} {L : List (Option Value)} {st : List Value} {w : aw} {cn sn : Nat} {a0 a1 a2 a3 : Option Value} {v : Int32} : wp d 152 Q 1 (a0 :: a1 :: a2 :: a3 :: L) (.int v :: st) w cn sn = wp d 152 Q 2 (a0 :: a1 :: clr a2 :: some (.int v) :: L) st w cn sn := w_istore_n d_152_1 (Nat.le_add_left 4 _) rfl
theorem d_152_2 : decode (mB 152) 2 = .ok (.iconst 0, 1) := by decide +kernel
theorem s_152_2 {d : Nat} {Q : wQ} {L : List (Option Value)} {st : List Value} {w : aw} {cn sn : Nat}  : wp d 152 Q 2 L st w cn sn = wp d 152 Q 3 L (.int 0 :: st) w cn sn := w_iconst d_152_2 (by decide)
theorem d_152_3 : decode (mB 152) 3 = .ok (.istore 4, 2) := by decide +kernel
theorem s_152_3 {d : Nat} {Q : wQ} {L : List (Option Value)} {st : List Value} {w : aw} {cn sn : Nat} {a0 a1 a2 a3 a4 : Option Value} {v : Int32} : wp d 152 Q 3 (a0 :: a1 :: a2 :: a3 :: a4 :: L) (.int v :: st) w cn sn = wp d 152 Q 5 (a0 :: a1 :: a2 :: clr a3 :: some (.int v) :: L) st w cn sn := w_istore d_152_3 (Nat.le_add_left 5 _) rfl
theorem d_152_5 : decode (mB 152) 5 = .ok (.iload 4, 2) := by decide +kernel
theorem s_152_5 {d : Nat} {Q : wQ} {L : List (Option Value)} {st : List Value} {w : aw} {cn sn : Nat} {a0 a1 a2 a3 : Option Value} {v : Int32} : wp d 152 Q 5 (a0 :: a1 :: a2 :: a3 :: some (.int v) :: L) st w cn sn = wp d 152 Q 7 (a0 :: a1 :: a2 :: a3 :: some (.int v) :: L) (.int v :: st) w cn sn := w_iload d_152_5 rfl
theorem d_152_7 : decode (mB 152) 7 = .ok (.aload_n 0, 1) := by decide +kernel
theorem s_152_7 {d : Nat} {Q : wQ} {L : List (Option Value)} {st : List Value} {w : aw} {cn sn : Nat} {v : Nat} : wp d 152 Q 7 (some (.ref v) :: L) st w cn sn = wp d 152 Q 8 (some (.ref v) :: L) (.ref v :: st) w cn sn := w_aload_n d_152_7 rfl
theorem d_152_8 : decode (mB 152) 8 = .ok (.getfield 96, 3) := by decide +kernel
theorem s_152_8 {d : Nat} {Q : wQ} {L : List (Option Value)} {st : List Value} {w : aw} {cn sn : Nat} {a : Nat} : wp d 152 Q 8 L (.ref a :: st) w cn sn = (kd w a = 9 ∧ wp d 152 Q 11 L (fd w 548 a :: st) w cn sn) := w_getfield d_152_8 (by decide +kernel : fT (mO 152) 96 = some (8, 36))
theorem d_152_11 : decode (mB 152) 11 = .ok (.if_icmp .ge 28, 3) := by decide +kernel
theorem s_152_11 {d : Nat} {Q : wQ} {L : List (Option Value)} {st : List Value} {w : aw} {cn sn : Nat} {a b : Int32} : wp d 152 Q 11 L (.int b :: .int a :: st) w cn sn = ((b ≤ a → wp d 152 Q 39 L st w cn sn) ∧ (¬ b ≤ a → wp d 152 Q 14 L st w cn sn)) := w_icge d_152_11 (by decide)
theorem d_152_14 : decode (mB 152) 14 = .ok (.aload_n 0, 1) := by decide +kernel
theorem s_152_14 {d : Nat} {Q : wQ} {L : List (Option Value)} {st : List Value} {w : aw} {cn sn : Nat} {v : Nat} : wp d 152 Q 14 (some (.ref v) :: L) st w cn sn = wp d 152 Q 15 (some (.ref v) :: L) (.ref v :: st) w cn sn := w_aload_n d_152_14 rfl
theorem d_152_15 : decode (mB 152) 15 = .ok (.getfield 75, 3) := by decide +kernel
theorem s_152_15 {d : Nat} {Q : wQ} {L : List (Option Value)} {st : List Value} {w : aw} {cn sn : Nat} {a : Nat} : wp d 152 Q 15 L (.ref a :: st) w cn sn = (kd w a = 9 ∧ wp d 152 Q 18 L (fd w 546 a :: st) w cn sn) := w_getfield d_152_15 (by decide +kernel : fT (mO 152) 75 = some (8, 34))
theorem d_152_18 : decode (mB 152) 18 = .ok (.iload 4, 2) := by decide +kernel
theorem s_152_18 {d : Nat} {Q : wQ} {L : List (Option Value)} {st : List Value} {w : aw} {cn sn : Nat} {a0 a1 a2 a3 : Option Value} {v : Int32} : wp d 152 Q 18 (a0 :: a1 :: a2 :: a3 :: some (.int v) :: L) st w cn sn = wp d 152 Q 20 (a0 :: a1 :: a2 :: a3 :: some (.int v) :: L) (.int v :: st) w cn sn := w_iload d_152_18 rfl
theorem d_152_20 : decode (mB 152) 20 = .ok (.laload, 1) := by decide +kernel
theorem s_152_20 {d : Nat} {Q : wQ} {L : List (Option Value)} {st : List Value} {w : aw} {cn sn : Nat} {a : Nat} {i : Int32} : wp d 152 Q 20 L (.int i :: .ref a :: st) w cn sn = (kd w a = 22 ∧ inR i (ln w a) ∧ wp d 152 Q 21 L (.long (al w a i.toNatClampNeg) :: st) w cn sn) := wp_row d_152_20 _ _ _ _ _
theorem d_152_21 : decode (mB 152) 21 = .ok (.lload_n 1, 1) := by decide +kernel
theorem s_152_21 {d : Nat} {Q : wQ} {L : List (Option Value)} {st : List Value} {w : aw} {cn sn : Nat} {a0 : Option Value} {v : Int64} : wp d 152 Q 21 (a0 :: some (.long v) :: L) st w cn sn = wp d 152 Q 22 (a0 :: some (.long v) :: L) (.long v :: st) w cn sn := w_lload_n d_152_21 rfl
theorem d_152_22 : decode (mB 152) 22 = .ok (.lcmp, 1) := by decide +kernel
theorem s_152_22 {d : Nat} {Q : wQ} {L : List (Option Value)} {st : List Value} {w : aw} {cn sn : Nat} {a b : Int64} : wp d 152 Q 22 L (.long b :: .long a :: st) w cn sn = wp d 152 Q 23 L (.int (lg_cmp a b) :: st) w cn sn := wp_row d_152_22 _ _ _ _ _
theorem d_152_23 : decode (mB 152) 23 = .ok (.ifCond .ne 8, 3) := by decide +kernel
theorem s_152_23 {d : Nat} {Q : wQ} {L : List (Option Value)} {st : List Value} {w : aw} {cn sn : Nat} {x : Int32} : wp d 152 Q 23 L (.int x :: st) w cn sn = ((¬ x = 0 → wp d 152 Q 31 L st w cn sn) ∧ (x = 0 → wp d 152 Q 26 L st w cn sn)) := w_ifne d_152_23 (by decide)
theorem d_152_26 : decode (mB 152) 26 = .ok (.iload 4, 2) := by decide +kernel
theorem s_152_26 {d : Nat} {Q : wQ} {L : List (Option Value)} {st : List Value} {w : aw} {cn sn : Nat} {a0 a1 a2 a3 : Option Value} {v : Int32} : wp d 152 Q 26 (a0 :: a1 :: a2 :: a3 :: some (.int v) :: L) st w cn sn = wp d 152 Q 28 (a0 :: a1 :: a2 :: a3 :: some (.int v) :: L) (.int v :: st) w cn sn := w_iload d_152_26 rfl
theorem d_152_28 : decode (mB 152) 28 = .ok (.goto 4, 3) := by decide +kernel
theorem s_152_28 {d : Nat} {Q : wQ} {L : List (Option Value)} {st : List Value} {w : aw} {cn sn : Nat}  : wp d 152 Q 28 L st w cn sn = wp d 152 Q 32 L st w cn sn := w_goto d_152_28 (by decide)
theorem d_152_31 : decode (mB 152) 31 = .ok (.iload_n 3, 1) := by decide +kernel
theorem s_152_31 {d : Nat} {Q : wQ} {L : List (Option Value)} {st : List Value} {w : aw} {cn sn : Nat} {a0 a1 a2 : Option Value} {v : Int32} : wp d 152 Q 31 (a0 :: a1 :: a2 :: some (.int v) :: L) st w cn sn = wp d 152 Q 32 (a0 :: a1 :: a2 :: some (.int v) :: L) (.int v :: st) w cn sn := w_iload_n d_152_31 rfl
theorem d_152_32 : decode (mB 152) 32 = .ok (.istore_n 3, 1) := by decide +kernel
theorem s_152_32 {d : Nat} {Q : wQ} {L : List (Option Value)} {st : List Value} {w : aw} {cn sn : Nat} {a0 a1 a2 a3 : Option Value} {v : Int32} : wp d 152 Q 32 (a0 :: a1 :: a2 :: a3 :: L) (.int v :: st) w cn sn = wp d 152 Q 33 (a0 :: a1 :: clr a2 :: some (.int v) :: L) st w cn sn := w_istore_n d_152_32 (Nat.le_add_left 4 _) rfl
theorem d_152_33 : decode (mB 152) 33 = .ok (.iinc 4 1, 3) := by decide +kernel
theorem s_152_33 {d : Nat} {Q : wQ} {L : List (Option Value)} {st : List Value} {w : aw} {cn sn : Nat} {a0 a1 a2 a3 : Option Value} {v : Int32} : wp d 152 Q 33 (a0 :: a1 :: a2 :: a3 :: some (.int v) :: L) st w cn sn = wp d 152 Q 36 (a0 :: a1 :: a2 :: clr a3 :: some (.int (v + 1)) :: L) st w cn sn := w_iinc d_152_33 rfl (by decide) rfl
theorem d_152_36 : decode (mB 152) 36 = .ok (.goto (-31), 3) := by decide +kernel
theorem s_152_36 {d : Nat} {Q : wQ} {L : List (Option Value)} {st : List Value} {w : aw} {cn sn : Nat}  : wp d 152 Q 36 L st w cn sn = wp d 152 Q 5 L st w cn sn := w_goto d_152_36 (by decide)
theorem d_152_39 : decode (mB 152) 39 = .ok (.iload_n 3, 1) := by decide +kernel
theorem s_152_39 {d : Nat} {Q : wQ} {L : List (Option Value)} {st : List Value} {w : aw} {cn sn : Nat} {a0 a1 a2 : Option Value} {v : Int32} : wp d 152 Q 39 (a0 :: a1 :: a2 :: some (.int v) :: L) st w cn sn = wp d 152 Q 40 (a0 :: a1 :: a2 :: some (.int v) :: L) (.int v :: st) w cn sn := w_iload_n d_152_39 rfl
theorem d_152_40 : decode (mB 152) 40 = .ok (.ireturn, 1) := by decide +kernel
theorem s_152_40 {d : Nat} {Q : wQ} {L : List (Option Value)} {w : aw} {cn sn : Nat} {v : Int32} : wp d 152 Q 40 L [.int v] w cn sn = Q (some (.int v)) w := w_ireturn d_152_40 rfl
theorem d_153_0 : decode (mB 153) 0 = .ok (.aload_n 0, 1) := by decide +kernel
theorem s_153_0 {d : Nat} {Q : wQ} {L : List (Option Value)} {st : List Value} {w : aw} {cn sn : Nat} {v : Nat} : wp d 153 Q 0 (some (.ref v) :: L) st w cn sn = wp d 153 Q 1 (some (.ref v) :: L) (.ref v :: st) w cn sn := w_aload_n d_153_0 rfl
theorem d_153_1 : decode (mB 153) 1 = .ok (.iload_n 1, 1) := by decide +kernel
theorem s_153_1 {d : Nat} {Q : wQ} {L : List (Option Value)} {st : List Value} {w : aw} {cn sn : Nat} {a0 : Option Value} {v : Int32} : wp d 153 Q 1 (a0 :: some (.int v) :: L) st w cn sn = wp d 153 Q 2 (a0 :: some (.int v) :: L) (.int v :: st) w cn sn := w_iload_n d_153_1 rfl
theorem d_153_2 : decode (mB 153) 2 = .ok (.invokevirtual 243, 3) := by decide +kernel
theorem s_153_2 {d : Nat} {Q : wQ} {L : List (Option Value)} {st : List Value} {w : aw} {cn sn : Nat} {v0 : Value} {b : Nat} : wp d 153 Q 2 L (v0 :: .ref b :: st) w cn sn = (kd w b = 9 ∧ catS st ≤ 8 ∧ wpD d 150 [.ref b, v0] w (fun v w' => wp d 153 Q 5 L (v.toList ++ st) w' cn sn)) := w_virtual (As := [v0]) d_153_2 (by decide +kernel : cT (mO 153) 243 = some (0, 150)) rfl (by decide +kernel) rfl (by decide +kernel) rfl
theorem d_153_5 : decode (mB 153) 5 = .ok (.ifCond .eq 15, 3) := by decide +kernel
theorem s_153_5 {d : Nat} {Q : wQ} {L : List (Option Value)} {st : List Value} {w : aw} {cn sn : Nat} {x : Int32} : wp d 153 Q 5 L (.int x :: st) w cn sn = ((x = 0 → wp d 153 Q 20 L st w cn sn) ∧ (¬ x = 0 → wp d 153 Q 8 L st w cn sn)) := w_ifeq d_153_5 (by decide)
theorem d_153_8 : decode (mB 153) 8 = .ok (.aload_n 0, 1) := by decide +kernel
theorem s_153_8 {d : Nat} {Q : wQ} {L : List (Option Value)} {st : List Value} {w : aw} {cn sn : Nat} {v : Nat} : wp d 153 Q 8 (some (.ref v) :: L) st w cn sn = wp d 153 Q 9 (some (.ref v) :: L) (.ref v :: st) w cn sn := w_aload_n d_153_8 rfl
theorem d_153_9 : decode (mB 153) 9 = .ok (.aload_n 0, 1) := by decide +kernel
theorem s_153_9 {d : Nat} {Q : wQ} {L : List (Option Value)} {st : List Value} {w : aw} {cn sn : Nat} {v : Nat} : wp d 153 Q 9 (some (.ref v) :: L) st w cn sn = wp d 153 Q 10 (some (.ref v) :: L) (.ref v :: st) w cn sn := w_aload_n d_153_9 rfl
theorem d_153_10 : decode (mB 153) 10 = .ok (.iload_n 1, 1) := by decide +kernel
theorem s_153_10 {d : Nat} {Q : wQ} {L : List (Option Value)} {st : List Value} {w : aw} {cn sn : Nat} {a0 : Option Value} {v : Int32} : wp d 153 Q 10 (a0 :: some (.int v) :: L) st w cn sn = wp d 153 Q 11 (a0 :: some (.int v) :: L) (.int v :: st) w cn sn := w_iload_n d_153_10 rfl
theorem d_153_11 : decode (mB 153) 11 = .ok (.invokevirtual 246, 3) := by decide +kernel
theorem s_153_11 {d : Nat} {Q : wQ} {L : List (Option Value)} {st : List Value} {w : aw} {cn sn : Nat} {v0 : Value} {b : Nat} : wp d 153 Q 11 L (v0 :: .ref b :: st) w cn sn = (kd w b = 9 ∧ catS st ≤ 8 ∧ wpD d 151 [.ref b, v0] w (fun v w' => wp d 153 Q 14 L (v.toList ++ st) w' cn sn)) := w_virtual (As := [v0]) d_153_11 (by decide +kernel : cT (mO 153) 246 = some (0, 151)) rfl (by decide +kernel) rfl (by decide +kernel) rfl
theorem d_153_14 : decode (mB 153) 14 = .ok (.invokevirtual 250, 3) := by decide +kernel
theorem s_153_14 {d : Nat} {Q : wQ} {L : List (Option Value)} {st : List Value} {w : aw} {cn sn : Nat} {v0 : Value} {b : Nat} : wp d 153 Q 14 L (v0 :: .ref b :: st) w cn sn = (kd w b = 9 ∧ catS st ≤ 8 ∧ wpD d 152 [.ref b, v0] w (fun v w' => wp d 153 Q 17 L (v.toList ++ st) w' cn sn)) := w_virtual (As := [v0]) d_153_14 (by decide +kernel : cT (mO 153) 250 = some (0, 152)) rfl (by decide +kernel) rfl (by decide +kernel) rfl
theorem d_153_17 : decode (mB 153) 17 = .ok (.goto 4, 3) := by decide +kernel
theorem s_153_17 {d : Nat} {Q : wQ} {L : List (Option Value)} {st : List Value} {w : aw} {cn sn : Nat}  : wp d 153 Q 17 L st w cn sn = wp d 153 Q 21 L st w cn sn := w_goto d_153_17 (by decide)
theorem d_153_20 : decode (mB 153) 20 = .ok (.iconst (-1), 1) := by decide +kernel
theorem s_153_20 {d : Nat} {Q : wQ} {L : List (Option Value)} {st : List Value} {w : aw} {cn sn : Nat}  : wp d 153 Q 20 L st w cn sn = wp d 153 Q 21 L (.int (-1) :: st) w cn sn := w_iconst d_153_20 (by decide)
theorem d_153_21 : decode (mB 153) 21 = .ok (.istore_n 2, 1) := by decide +kernel
theorem s_153_21 {d : Nat} {Q : wQ} {L : List (Option Value)} {st : List Value} {w : aw} {cn sn : Nat} {a0 a1 a2 : Option Value} {v : Int32} : wp d 153 Q 21 (a0 :: a1 :: a2 :: L) (.int v :: st) w cn sn = wp d 153 Q 22 (a0 :: clr a1 :: some (.int v) :: L) st w cn sn := w_istore_n d_153_21 (Nat.le_add_left 3 _) rfl
theorem d_153_22 : decode (mB 153) 22 = .ok (.iload_n 2, 1) := by decide +kernel
theorem s_153_22 {d : Nat} {Q : wQ} {L : List (Option Value)} {st : List Value} {w : aw} {cn sn : Nat} {a0 a1 : Option Value} {v : Int32} : wp d 153 Q 22 (a0 :: a1 :: some (.int v) :: L) st w cn sn = wp d 153 Q 23 (a0 :: a1 :: some (.int v) :: L) (.int v :: st) w cn sn := w_iload_n d_153_22 rfl
theorem d_153_23 : decode (mB 153) 23 = .ok (.aload_n 0, 1) := by decide +kernel
theorem s_153_23 {d : Nat} {Q : wQ} {L : List (Option Value)} {st : List Value} {w : aw} {cn sn : Nat} {v : Nat} : wp d 153 Q 23 (some (.ref v) :: L) st w cn sn = wp d 153 Q 24 (some (.ref v) :: L) (.ref v :: st) w cn sn := w_aload_n d_153_23 rfl
theorem d_153_24 : decode (mB 153) 24 = .ok (.getfield 103, 3) := by decide +kernel
theorem s_153_24 {d : Nat} {Q : wQ} {L : List (Option Value)} {st : List Value} {w : aw} {cn sn : Nat} {a : Nat} : wp d 153 Q 24 L (.ref a :: st) w cn sn = (kd w a = 9 ∧ wp d 153 Q 27 L (fd w 549 a :: st) w cn sn) := w_getfield d_153_24 (by decide +kernel : fT (mO 153) 103 = some (8, 37))
theorem d_153_27 : decode (mB 153) 27 = .ok (.bipush 7, 2) := by decide +kernel
theorem s_153_27 {d : Nat} {Q : wQ} {L : List (Option Value)} {st : List Value} {w : aw} {cn sn : Nat}  : wp d 153 Q 27 L st w cn sn = wp d 153 Q 29 L (.int 7 :: st) w cn sn := w_bipush d_153_27 (by decide)
theorem d_153_29 : decode (mB 153) 29 = .ok (.isub, 1) := by decide +kernel
theorem s_153_29 {d : Nat} {Q : wQ} {L : List (Option Value)} {st : List Value} {w : aw} {cn sn : Nat} {a b : Int32} : wp d 153 Q 29 L (.int b :: .int a :: st) w cn sn = wp d 153 Q 30 L (.int (a - b) :: st) w cn sn := wp_row d_153_29 _ _ _ _ _
theorem d_153_30 : decode (mB 153) 30 = .ok (.if_icmp .lt 25, 3) := by decide +kernel
theorem s_153_30 {d : Nat} {Q : wQ} {L : List (Option Value)} {st : List Value} {w : aw} {cn sn : Nat} {a b : Int32} : wp d 153 Q 30 L (.int b :: .int a :: st) w cn sn = ((a < b → wp d 153 Q 55 L st w cn sn) ∧ (¬ a < b → wp d 153 Q 33 L st w cn sn)) := w_iclt d_153_30 (by decide)
theorem d_153_33 : decode (mB 153) 33 = .ok (.iload_n 2, 1) := by decide +kernel
theorem s_153_33 {d : Nat} {Q : wQ} {L : List (Option Value)} {st : List Value} {w : aw} {cn sn : Nat} {a0 a1 : Option Value} {v : Int32} : wp d 153 Q 33 (a0 :: a1 :: some (.int v) :: L) st w cn sn = wp d 153 Q 34 (a0 :: a1 :: some (.int v) :: L) (.int v :: st) w cn sn := w_iload_n d_153_33 rfl
theorem d_153_34 : decode (mB 153) 34 = .ok (.aload_n 0, 1) := by decide +kernel
theorem s_153_34 {d : Nat} {Q : wQ} {L : List (Option Value)} {st : List Value} {w : aw} {cn sn : Nat} {v : Nat} : wp d 153 Q 34 (some (.ref v) :: L) st w cn sn = wp d 153 Q 35 (some (.ref v) :: L) (.ref v :: st) w cn sn := w_aload_n d_153_34 rfl
theorem d_153_35 : decode (mB 153) 35 = .ok (.getfield 103, 3) := by decide +kernel
theorem s_153_35 {d : Nat} {Q : wQ} {L : List (Option Value)} {st : List Value} {w : aw} {cn sn : Nat} {a : Nat} : wp d 153 Q 35 L (.ref a :: st) w cn sn = (kd w a = 9 ∧ wp d 153 Q 38 L (fd w 549 a :: st) w cn sn) := w_getfield d_153_35 (by decide +kernel : fT (mO 153) 103 = some (8, 37))
theorem d_153_38 : decode (mB 153) 38 = .ok (.iconst 1, 1) := by decide +kernel
theorem s_153_38 {d : Nat} {Q : wQ} {L : List (Option Value)} {st : List Value} {w : aw} {cn sn : Nat}  : wp d 153 Q 38 L st w cn sn = wp d 153 Q 39 L (.int 1 :: st) w cn sn := w_iconst d_153_38 (by decide)
theorem d_153_39 : decode (mB 153) 39 = .ok (.isub, 1) := by decide +kernel
theorem s_153_39 {d : Nat} {Q : wQ} {L : List (Option Value)} {st : List Value} {w : aw} {cn sn : Nat} {a b : Int32} : wp d 153 Q 39 L (.int b :: .int a :: st) w cn sn = wp d 153 Q 40 L (.int (a - b) :: st) w cn sn := wp_row d_153_39 _ _ _ _ _
theorem d_153_40 : decode (mB 153) 40 = .ok (.if_icmp .ge 15, 3) := by decide +kernel
theorem s_153_40 {d : Nat} {Q : wQ} {L : List (Option Value)} {st : List Value} {w : aw} {cn sn : Nat} {a b : Int32} : wp d 153 Q 40 L (.int b :: .int a :: st) w cn sn = ((b ≤ a → wp d 153 Q 55 L st w cn sn) ∧ (¬ b ≤ a → wp d 153 Q 43 L st w cn sn)) := w_icge d_153_40 (by decide)
theorem d_153_43 : decode (mB 153) 43 = .ok (.iload_n 2, 1) := by decide +kernel
theorem s_153_43 {d : Nat} {Q : wQ} {L : List (Option Value)} {st : List Value} {w : aw} {cn sn : Nat} {a0 a1 : Option Value} {v : Int32} : wp d 153 Q 43 (a0 :: a1 :: some (.int v) :: L) st w cn sn = wp d 153 Q 44 (a0 :: a1 :: some (.int v) :: L) (.int v :: st) w cn sn := w_iload_n d_153_43 rfl
theorem d_153_44 : decode (mB 153) 44 = .ok (.aload_n 0, 1) := by decide +kernel
theorem s_153_44 {d : Nat} {Q : wQ} {L : List (Option Value)} {st : List Value} {w : aw} {cn sn : Nat} {v : Nat} : wp d 153 Q 44 (some (.ref v) :: L) st w cn sn = wp d 153 Q 45 (some (.ref v) :: L) (.ref v :: st) w cn sn := w_aload_n d_153_44 rfl
theorem d_153_45 : decode (mB 153) 45 = .ok (.getfield 103, 3) := by decide +kernel
theorem s_153_45 {d : Nat} {Q : wQ} {L : List (Option Value)} {st : List Value} {w : aw} {cn sn : Nat} {a : Nat} : wp d 153 Q 45 L (.ref a :: st) w cn sn = (kd w a = 9 ∧ wp d 153 Q 48 L (fd w 549 a :: st) w cn sn) := w_getfield d_153_45 (by decide +kernel : fT (mO 153) 103 = some (8, 37))
theorem d_153_48 : decode (mB 153) 48 = .ok (.isub, 1) := by decide +kernel
theorem s_153_48 {d : Nat} {Q : wQ} {L : List (Option Value)} {st : List Value} {w : aw} {cn sn : Nat} {a b : Int32} : wp d 153 Q 48 L (.int b :: .int a :: st) w cn sn = wp d 153 Q 49 L (.int (a - b) :: st) w cn sn := wp_row d_153_48 _ _ _ _ _
theorem d_153_49 : decode (mB 153) 49 = .ok (.bipush 7, 2) := by decide +kernel
theorem s_153_49 {d : Nat} {Q : wQ} {L : List (Option Value)} {st : List Value} {w : aw} {cn sn : Nat}  : wp d 153 Q 49 L st w cn sn = wp d 153 Q 51 L (.int 7 :: st) w cn sn := w_bipush d_153_49 (by decide)
theorem d_153_51 : decode (mB 153) 51 = .ok (.iadd, 1) := by decide +kernel
theorem s_153_51 {d : Nat} {Q : wQ} {L : List (Option Value)} {st : List Value} {w : aw} {cn sn : Nat} {a b : Int32} : wp d 153 Q 51 L (.int b :: .int a :: st) w cn sn = wp d 153 Q 52 L (.int (a + b) :: st) w cn sn := wp_row d_153_51 _ _ _ _ _
theorem d_153_52 : decode (mB 153) 52 = .ok (.goto 4, 3) := by decide +kernel
theorem s_153_52 {d : Nat} {Q : wQ} {L : List (Option Value)} {st : List Value} {w : aw} {cn sn : Nat}  : wp d 153 Q 52 L st w cn sn = wp d 153 Q 56 L st w cn sn := w_goto d_153_52 (by decide)
theorem d_153_55 : decode (mB 153) 55 = .ok (.iconst (-1), 1) := by decide +kernel
theorem s_153_55 {d : Nat} {Q : wQ} {L : List (Option Value)} {st : List Value} {w : aw} {cn sn : Nat}  : wp d 153 Q 55 L st w cn sn = wp d 153 Q 56 L (.int (-1) :: st) w cn sn := w_iconst d_153_55 (by decide)
theorem d_153_56 : decode (mB 153) 56 = .ok (.ireturn, 1) := by decide +kernel
theorem s_153_56 {d : Nat} {Q : wQ} {L : List (Option Value)} {w : aw} {cn sn : Nat} {v : Int32} : wp d 153 Q 56 L [.int v] w cn sn = Q (some (.int v)) w := w_ireturn d_153_56 rfl
