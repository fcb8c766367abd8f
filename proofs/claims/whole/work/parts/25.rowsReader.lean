theorem d_39_0 : decode (mB 39) 0 = .ok (.aload_n 0, 1) := by decide +kernel
theorem s_39_0 {d : Nat} {Q : wQ} {L : List (Option Value)} {st : List Value} {w : aw} {cn sn : Nat} {v : Nat} : wp d 39 Q 0 (some (.ref v) :: L) st w cn sn = wp d 39 Q 1 (some (.ref v) :: L) (.ref v :: st) w cn sn := w_aload_n d_39_0 rfl
theorem d_39_1 : decode (mB 39) 1 = .ok (.invokespecial 3, 3) := by decide +kernel
theorem s_39_1 {d : Nat} {Q : wQ} {L : List (Option Value)} {st : List Value} {w : aw} {cn sn : Nat} {b : Nat} : wp d 39 Q 1 L (.ref b :: st) w cn sn = (catS st ≤ 8 ∧ wp d 39 Q 4 L st w cn sn) := w_objinit d_39_1 (by decide +kernel : cT (mO 39) 3 = some (3, 0))
theorem d_39_4 : decode (mB 39) 4 = .ok (.aload_n 0, 1) := by decide +kernel
theorem s_39_4 {d : Nat} {Q : wQ} {L : List (Option Value)} {st : List Value} {w : aw} {cn sn : Nat} {v : Nat} : wp d 39 Q 4 (some (.ref v) :: L) st w cn sn = wp d 39 Q 5 (some (.ref v) :: L) (.ref v :: st) w cn sn := w_aload_n d_39_4 rfl
theorem d_39_5 : decode (mB 39) 5 = .ok (.aload_n 1, 1) := by decide +kernel
theorem s_39_5 {d : Nat} {Q : wQ} {L : List (Option Value)} {st : List Value} {w : aw} {cn sn : Nat} {a0 : Option Value} {v : Nat} : wp d 39 Q 5 (a0 :: some (.ref v) :: L) st w cn sn = wp d 39 Q 6 (a0 :: some (.ref v) :: L) (.ref v :: st) w cn sn := w_aload_n d_39_5 rfl
theorem s_39_5n {d : Nat} {Q : wQ} {L : List (Option Value)} {st : List Value} {w : aw} {cn sn : Nat} {a0 : Option Value} : wp d 39 Q 5 (a0 :: some .null :: L) st w cn sn = wp d 39 Q 6 (a0 :: some .null :: L) (.null :: st) w cn sn := w_aload_nN d_39_5 rfl
theorem d_39_6 : decode (mB 39) 6 = .ok (.putfield 9, 3) := by decide +kernel
theorem s_39_6 {d : Nat} {Q : wQ} {L : List (Option Value)} {st : List Value} {w : aw} {cn sn : Nat} {x : Nat} {a : Nat} : wp d 39 Q 6 L (.ref x :: .ref a :: st) w cn sn = (kd w a = 5 ∧ wp d 39 Q 9 L st (uF w 256 a (.ref x)) cn sn) := w_putfield d_39_6 (by decide +kernel : fT (mO 39) 9 = some (4, 0)) (by decide +kernel) ok_ref
theorem s_39_6n {d : Nat} {Q : wQ} {L : List (Option Value)} {st : List Value} {w : aw} {cn sn : Nat} {a : Nat} : wp d 39 Q 6 L (.null :: .ref a :: st) w cn sn = (kd w a = 5 ∧ wp d 39 Q 9 L st (uF w 256 a (.null)) cn sn) := w_putfield d_39_6 (by decide +kernel : fT (mO 39) 9 = some (4, 0)) (by decide +kernel) ok_null
theorem d_39_9 : decode (mB 39) 9 = .ok (.aload_n 0, 1) := by decide +kernel
theorem s_39_9 {d : Nat} {Q : wQ} {L : List (Option Value)} {st : List Value} {w : aw} {cn sn : Nat} {v : Nat} : wp d 39 Q 9 (some (.ref v) :: L) st w cn sn = wp d 39 Q 10 (some (.ref v) :: L) (.ref v :: st) w cn sn := w_aload_n d_39_9 rfl
theorem d_39_10 : decode (mB 39) 10 = .ok (.aload_n 2, 1) := by decide +kernel
theorem s_39_10 {d : Nat} {Q : wQ} {L : List (Option Value)} {st : List Value} {w : aw} {cn sn : Nat} {a0 a1 : Option Value} {v : Nat} : wp d 39 Q 10 (a0 :: a1 :: some (.ref v) :: L) st w cn sn = wp d 39 Q 11 (a0 :: a1 :: some (.ref v) :: L) (.ref v :: st) w cn sn := w_aload_n d_39_10 rfl
theorem s_39_10n {d : Nat} {Q : wQ} {L : List (Option Value)} {st : List Value} {w : aw} {cn sn : Nat} {a0 a1 : Option Value} : wp d 39 Q 10 (a0 :: a1 :: some .null :: L) st w cn sn = wp d 39 Q 11 (a0 :: a1 :: some .null :: L) (.null :: st) w cn sn := w_aload_nN d_39_10 rfl
theorem d_39_11 : decode (mB 39) 11 = .ok (.putfield 15, 3) := by decide +kernel
theorem s_39_11 {d : Nat} {Q : wQ} {L : List (Option Value)} {st : List Value} {w : aw} {cn sn : Nat} {x : Nat} {a : Nat} : wp d 39 Q 11 L (.ref x :: .ref a :: st) w cn sn = (kd w a = 5 ∧ wp d 39 Q 14 L st (uF w 257 a (.ref x)) cn sn) := w_putfield d_39_11 (by decide +kernel : fT (mO 39) 15 = some (4, 1)) (by decide +kernel) ok_ref
theorem s_39_11n {d : Nat} {Q : wQ} {L : List (Option Value)} {st : List Value} {w : aw} {cn sn : Nat} {a : Nat} : wp d 39 Q 11 L (.null :: .ref a :: st) w cn sn = (kd w a = 5 ∧ wp d 39 Q 14 L st (uF w 257 a (.null)) cn sn) := w_putfield d_39_11 (by decide +kernel : fT (mO 39) 15 = some (4, 1)) (by decide +kernel) ok_null
theorem d_39_14 : decode (mB 39) 14 = .ok (.return_, 1) := by decide +kernel
theorem s_39_14 {d : Nat} {Q : wQ} {L : List (Option Value)} {w : aw} {cn sn : Nat}  : wp d 39 Q 14 L [] w cn sn = Q none w := w_return d_39_14 rfl
theorem d_40_0 : decode (mB 40) 0 = .ok (.iload_n 1, 1) := by decide +kernel
theorem s_40_0 {d : Nat} {Q : wQ} {L : List (Option Value)} {st : List Value} {w : aw} {cn sn : Nat} {a0 : Option Value} {v : Int32} : wp d 40 Q 0 (a0 :: some (.int v) :: L) st w cn sn = wp d 40 Q 1 (a0 :: some (.int v) :: L) (.int v :: st) w cn sn := w_iload_n d_40_0 rfl
theorem d_40_1 : decode (mB 40) 1 = .ok (.ifCond .lt 22, 3) := by decide +kernel
theorem s_40_1 {d : Nat} {Q : wQ} {L : List (Option Value)} {st : List Value} {w : aw} {cn sn : Nat} {x : Int32} : wp d 40 Q 1 L (.int x :: st) w cn sn = ((x < 0 → wp d 40 Q 23 L st w cn sn) ∧ (¬ x < 0 → wp d 40 Q 4 L st w cn sn)) := w_iflt d_40_1 (by decide)
theorem d_40_4 : decode (mB 40) 4 = .ok (.iload_n 1, 1) := by decide +kernel
theorem s_40_4 {d : Nat} {Q : wQ} {L : List (Option Value)} {st : List Value} {w : aw} {cn sn : Nat} {a0 : Option Value} {v : Int32} : wp d 40 Q 4 (a0 :: some (.int v) :: L) st w cn sn = wp d 40 Q 5 (a0 :: some (.int v) :: L) (.int v :: st) w cn sn := w_iload_n d_40_4 rfl
theorem d_40_5 : decode (mB 40) 5 = .ok (.aload_n 0, 1) := by decide +kernel
theorem s_40_5 {d : Nat} {Q : wQ} {L : List (Option Value)} {st : List Value} {w : aw} {cn sn : Nat} {v : Nat} : wp d 40 Q 5 (some (.ref v) :: L) st w cn sn = wp d 40 Q 6 (some (.ref v) :: L) (.ref v :: st) w cn sn := w_aload_n d_40_5 rfl
theorem d_40_6 : decode (mB 40) 6 = .ok (.getfield 19, 3) := by decide +kernel
theorem s_40_6 {d : Nat} {Q : wQ} {L : List (Option Value)} {st : List Value} {w : aw} {cn sn : Nat} {a : Nat} : wp d 40 Q 6 L (.ref a :: st) w cn sn = (kd w a = 5 ∧ wp d 40 Q 9 L (fd w 259 a :: st) w cn sn) := w_getfield d_40_6 (by decide +kernel : fT (mO 40) 19 = some (4, 3))
theorem d_40_9 : decode (mB 40) 9 = .ok (.if_icmp .ge 14, 3) := by decide +kernel
theorem s_40_9 {d : Nat} {Q : wQ} {L : List (Option Value)} {st : List Value} {w : aw} {cn sn : Nat} {a b : Int32} : wp d 40 Q 9 L (.int b :: .int a :: st) w cn sn = ((b ≤ a → wp d 40 Q 23 L st w cn sn) ∧ (¬ b ≤ a → wp d 40 Q 12 L st w cn sn)) := w_icge d_40_9 (by decide)
theorem d_40_12 : decode (mB 40) 12 = .ok (.iload_n 1, 1) := by decide +kernel
theorem s_40_12 {d : Nat} {Q : wQ} {L : List (Option Value)} {st : List Value} {w : aw} {cn sn : Nat} {a0 : Option Value} {v : Int32} : wp d 40 Q 12 (a0 :: some (.int v) :: L) st w cn sn = wp d 40 Q 13 (a0 :: some (.int v) :: L) (.int v :: st) w cn sn := w_iload_n d_40_12 rfl
theorem d_40_13 : decode (mB 40) 13 = .ok (.aload_n 0, 1) := by decide +kernel
theorem s_40_13 {d : Nat} {Q : wQ} {L : List (Option Value)} {st : List Value} {w : aw} {cn sn : Nat} {v : Nat} : wp d 40 Q 13 (some (.ref v) :: L) st w cn sn = wp d 40 Q 14 (some (.ref v) :: L) (.ref v :: st) w cn sn := w_aload_n d_40_13 rfl
theorem d_40_14 : decode (mB 40) 14 = .ok (.getfield 9, 3) := by decide +kernel
theorem s_40_14 {d : Nat} {Q : wQ} {L : List (Option Value)} {st : List Value} {w : aw} {cn sn : Nat} {a : Nat} : wp d 40 Q 14 L (.ref a :: st) w cn sn = (kd w a = 5 ∧ wp d 40 Q 17 L (fd w 256 a :: st) w cn sn) := w_getfield d_40_14 (by decide +kernel : fT (mO 40) 9 = some (4, 0))
theorem d_40_17 : decode (mB 40) 17 = .ok (.getfield 23, 3) := by decide +kernel
theorem s_40_17 {d : Nat} {Q : wQ} {L : List (Option Value)} {st : List Value} {w : aw} {cn sn : Nat} {a : Nat} : wp d 40 Q 17 L (.ref a :: st) w cn sn = (kd w a = 6 ∧ wp d 40 Q 20 L (fd w 321 a :: st) w cn sn) := w_getfield d_40_17 (by decide +kernel : fT (mO 40) 23 = some (5, 1))
theorem d_40_20 : decode (mB 40) 20 = .ok (.if_icmp .lt 7, 3) := by decide +kernel
theorem s_40_20 {d : Nat} {Q : wQ} {L : List (Option Value)} {st : List Value} {w : aw} {cn sn : Nat} {a b : Int32} : wp d 40 Q 20 L (.int b :: .int a :: st) w cn sn = ((a < b → wp d 40 Q 27 L st w cn sn) ∧ (¬ a < b → wp d 40 Q 23 L st w cn sn)) := w_iclt d_40_20 (by decide)
theorem d_40_23 : decode (mB 40) 23 = .ok (.iconst (-1), 1) := by decide +kernel
theorem s_40_23 {d : Nat} {Q : wQ} {L : List (Option Value)} {st : List Value} {w : aw} {cn sn : Nat}  : wp d 40 Q 23 L st w cn sn = wp d 40 Q 24 L (.int (-1) :: st) w cn sn := w_iconst d_40_23 (by decide)
theorem d_40_24 : decode (mB 40) 24 = .ok (.goto 16, 3) := by decide +kernel
theorem s_40_24 {d : Nat} {Q : wQ} {L : List (Option Value)} {st : List Value} {w : aw} {cn sn : Nat}  : wp d 40 Q 24 L st w cn sn = wp d 40 Q 40 L st w cn sn := w_goto d_40_24 (by decide)
theorem d_40_27 : decode (mB 40) 27 = .ok (.aload_n 0, 1) := by decide +kernel
theorem s_40_27 {d : Nat} {Q : wQ} {L : List (Option Value)} {st : List Value} {w : aw} {cn sn : Nat} {v : Nat} : wp d 40 Q 27 (some (.ref v) :: L) st w cn sn = wp d 40 Q 28 (some (.ref v) :: L) (.ref v :: st) w cn sn := w_aload_n d_40_27 rfl
theorem d_40_28 : decode (mB 40) 28 = .ok (.getfield 9, 3) := by decide +kernel
theorem s_40_28 {d : Nat} {Q : wQ} {L : List (Option Value)} {st : List Value} {w : aw} {cn sn : Nat} {a : Nat} : wp d 40 Q 28 L (.ref a :: st) w cn sn = (kd w a = 5 ∧ wp d 40 Q 31 L (fd w 256 a :: st) w cn sn) := w_getfield d_40_28 (by decide +kernel : fT (mO 40) 9 = some (4, 0))
theorem d_40_31 : decode (mB 40) 31 = .ok (.getfield 28, 3) := by decide +kernel
theorem s_40_31 {d : Nat} {Q : wQ} {L : List (Option Value)} {st : List Value} {w : aw} {cn sn : Nat} {a : Nat} : wp d 40 Q 31 L (.ref a :: st) w cn sn = (kd w a = 6 ∧ wp d 40 Q 34 L (fd w 320 a :: st) w cn sn) := w_getfield d_40_31 (by decide +kernel : fT (mO 40) 28 = some (5, 0))
theorem d_40_34 : decode (mB 40) 34 = .ok (.iload_n 1, 1) := by decide +kernel
theorem s_40_34 {d : Nat} {Q : wQ} {L : List (Option Value)} {st : List Value} {w : aw} {cn sn : Nat} {a0 : Option Value} {v : Int32} : wp d 40 Q 34 (a0 :: some (.int v) :: L) st w cn sn = wp d 40 Q 35 (a0 :: some (.int v) :: L) (.int v :: st) w cn sn := w_iload_n d_40_34 rfl
theorem d_40_35 : decode (mB 40) 35 = .ok (.baload, 1) := by decide +kernel
theorem s_40_35 {d : Nat} {Q : wQ} {L : List (Option Value)} {st : List Value} {w : aw} {cn sn : Nat} {a : Nat} {i : Int32} : wp d 40 Q 35 L (.int i :: .ref a :: st) w cn sn = ((kd w a = 21 ∨ kd w a = 23 ∨ kd w a = 31) ∧ inR i (ln w a) ∧ wp d 40 Q 36 L (.int (ai w a i.toNatClampNeg) :: st) w cn sn) := wp_row d_40_35 _ _ _ _ _
theorem d_40_36 : decode (mB 40) 36 = .ok (.sipush 255, 3) := by decide +kernel
theorem s_40_36 {d : Nat} {Q : wQ} {L : List (Option Value)} {st : List Value} {w : aw} {cn sn : Nat}  : wp d 40 Q 36 L st w cn sn = wp d 40 Q 39 L (.int 255 :: st) w cn sn := w_sipush d_40_36 (by decide)
theorem d_40_39 : decode (mB 40) 39 = .ok (.iand, 1) := by decide +kernel
theorem s_40_39 {d : Nat} {Q : wQ} {L : List (Option Value)} {st : List Value} {w : aw} {cn sn : Nat} {a b : Int32} : wp d 40 Q 39 L (.int b :: .int a :: st) w cn sn = wp d 40 Q 40 L (.int (a &&& b) :: st) w cn sn := wp_row d_40_39 _ _ _ _ _
theorem d_40_40 : decode (mB 40) 40 = .ok (.ireturn, 1) := by decide +kernel
theorem s_40_40 {d : Nat} {Q : wQ} {L : List (Option Value)} {w : aw} {cn sn : Nat} {v : Int32} : wp d 40 Q 40 L [.int v] w cn sn = Q (some (.int v)) w := w_ireturn d_40_40 rfl
theorem d_41_0 : decode (mB 41) 0 = .ok (.iload_n 0, 1) := by decide +kernel
theorem s_41_0 {d : Nat} {Q : wQ} {L : List (Option Value)} {st : List Value} {w : aw} {cn sn : Nat} {v : Int32} : wp d 41 Q 0 (some (.int v) :: L) st w cn sn = wp d 41 Q 1 (some (.int v) :: L) (.int v :: st) w cn sn := w_iload_n d_41_0 rfl
theorem d_41_1 : decode (mB 41) 1 = .ok (.bipush 65, 2) := by decide +kernel
theorem s_41_1 {d : Nat} {Q : wQ} {L : List (Option Value)} {st : List Value} {w : aw} {cn sn : Nat}  : wp d 41 Q 1 L st w cn sn = wp d 41 Q 3 L (.int 65 :: st) w cn sn := w_bipush d_41_1 (by decide)
theorem d_41_3 : decode (mB 41) 3 = .ok (.if_icmp .lt 13, 3) := by decide +kernel
theorem s_41_3 {d : Nat} {Q : wQ} {L : List (Option Value)} {st : List Value} {w : aw} {cn sn : Nat} {a b : Int32} : wp d 41 Q 3 L (.int b :: .int a :: st) w cn sn = ((a < b → wp d 41 Q 16 L st w cn sn) ∧ (¬ a < b → wp d 41 Q 6 L st w cn sn)) := w_iclt d_41_3 (by decide)
theorem d_41_6 : decode (mB 41) 6 = .ok (.iload_n 0, 1) := by decide +kernel
theorem s_41_6 {d : Nat} {Q : wQ} {L : List (Option Value)} {st : List Value} {w : aw} {cn sn : Nat} {v : Int32} : wp d 41 Q 6 (some (.int v) :: L) st w cn sn = wp d 41 Q 7 (some (.int v) :: L) (.int v :: st) w cn sn := w_iload_n d_41_6 rfl
theorem d_41_7 : decode (mB 41) 7 = .ok (.bipush 90, 2) := by decide +kernel
theorem s_41_7 {d : Nat} {Q : wQ} {L : List (Option Value)} {st : List Value} {w : aw} {cn sn : Nat}  : wp d 41 Q 7 L st w cn sn = wp d 41 Q 9 L (.int 90 :: st) w cn sn := w_bipush d_41_7 (by decide)
theorem d_41_9 : decode (mB 41) 9 = .ok (.if_icmp .gt 7, 3) := by decide +kernel
theorem s_41_9 {d : Nat} {Q : wQ} {L : List (Option Value)} {st : List Value} {w : aw} {cn sn : Nat} {a b : Int32} : wp d 41 Q 9 L (.int b :: .int a :: st) w cn sn = ((b < a → wp d 41 Q 16 L st w cn sn) ∧ (¬ b < a → wp d 41 Q 12 L st w cn sn)) := w_icgt d_41_9 (by decide)
theorem d_41_12 : decode (mB 41) 12 = .ok (.iconst 1, 1) := by decide +kernel
theorem s_41_12 {d : Nat} {Q : wQ} {L : List (Option Value)} {st : List Value} {w : aw} {cn sn : Nat}  : wp d 41 Q 12 L st w cn sn = wp d 41 Q 13 L (.int 1 :: st) w cn sn := w_iconst d_41_12 (by decide)
theorem d_41_13 : decode (mB 41) 13 = .ok (.goto 4, 3) := by decide +kernel
theorem s_41_13 {d : Nat} {Q : wQ} {L : List (Option Value)} {st : List Value} {w : aw} {cn sn : Nat}  : wp d 41 Q 13 L st w cn sn = wp d 41 Q 17 L st w cn sn := w_goto d_41_13 (by decide)
theorem d_41_16 : decode (mB 41) 16 = .ok (.iconst 0, 1) := by decide +kernel
theorem s_41_16 {d : Nat} {Q : wQ} {L : List (Option Value)} {st : List Value} {w : aw} {cn sn : Nat}  : wp d 41 Q 16 L st w cn sn = wp d 41 Q 17 L (.int 0 :: st) w cn sn := w_iconst d_41_16 (by decide)
theorem d_41_17 : decode (mB 41) 17 = .ok (.ireturn, 1) := by decide +kernel
theorem s_41_17 {d : Nat} {Q : wQ} {L : List (Option Value)} {w : aw} {cn sn : Nat} {v : Int32} : wp d 41 Q 17 L [.int v] w cn sn = (narrow .boolean (.int v) = .int v ∧ Q (some (.int v)) w) := w_zreturn d_41_17 rfl
theorem d_42_0 : decode (mB 42) 0 = .ok (.iload_n 0, 1) := by decide +kernel
theorem s_42_0 {d : Nat} {Q : wQ} {L : List (Option Value)} {st : List Value} {w : aw} {cn sn : Nat} {v : Int32} : wp d 42 Q 0 (some (.int v) :: L) st w cn sn = wp d 42 Q 1 (some (.int v) :: L) (.int v :: st) w cn sn := w_iload_n d_42_0 rfl
theorem d_42_1 : decode (mB 42) 1 = .ok (.bipush 48, 2) := by decide +kernel
theorem s_42_1 {d : Nat} {Q : wQ} {L : List (Option Value)} {st : List Value} {w : aw} {cn sn : Nat}  : wp d 42 Q 1 L st w cn sn = wp d 42 Q 3 L (.int 48 :: st) w cn sn := w_bipush d_42_1 (by decide)
theorem d_42_3 : decode (mB 42) 3 = .ok (.if_icmp .lt 13, 3) := by decide +kernel
theorem s_42_3 {d : Nat} {Q : wQ} {L : List (Option Value)} {st : List Value} {w : aw} {cn sn : Nat} {a b : Int32} : wp d 42 Q 3 L (.int b :: .int a :: st) w cn sn = ((a < b → wp d 42 Q 16 L st w cn sn) ∧ (¬ a < b → wp d 42 Q 6 L st w cn sn)) := w_iclt d_42_3 (by decide)
theorem d_42_6 : decode (mB 42) 6 = .ok (.iload_n 0, 1) := by decide +kernel
theorem s_42_6 {d : Nat} {Q : wQ} {L : List (Option Value)} {st : List Value} {w : aw} {cn sn : Nat} {v : Int32} : wp d 42 Q 6 (some (.int v) :: L) st w cn sn = wp d 42 Q 7 (some (.int v) :: L) (.int v :: st) w cn sn := w_iload_n d_42_6 rfl
theorem d_42_7 : decode (mB 42) 7 = .ok (.bipush 57, 2) := by decide +kernel
theorem s_42_7 {d : Nat} {Q : wQ} {L : List (Option Value)} {st : List Value} {w : aw} {cn sn : Nat}  : wp d 42 Q 7 L st w cn sn = wp d 42 Q 9 L (.int 57 :: st) w cn sn := w_bipush d_42_7 (by decide)
theorem d_42_9 : decode (mB 42) 9 = .ok (.if_icmp .gt 7, 3) := by decide +kernel
theorem s_42_9 {d : Nat} {Q : wQ} {L : List (Option Value)} {st : List Value} {w : aw} {cn sn : Nat} {a b : Int32} : wp d 42 Q 9 L (.int b :: .int a :: st) w cn sn = ((b < a → wp d 42 Q 16 L st w cn sn) ∧ (¬ b < a → wp d 42 Q 12 L st w cn sn)) := w_icgt d_42_9 (by decide)
theorem d_42_12 : decode (mB 42) 12 = .ok (.iconst 1, 1) := by decide +kernel
theorem s_42_12 {d : Nat} {Q : wQ} {L : List (Option Value)} {st : List Value} {w : aw} {cn sn : Nat}  : wp d 42 Q 12 L st w cn sn = wp d 42 Q 13 L (.int 1 :: st) w cn sn := w_iconst d_42_12 (by decide)
theorem d_42_13 : decode (mB 42) 13 = .ok (.goto 4, 3) := by decide +kernel
theorem s_42_13 {d : Nat} {Q : wQ} {L : List (Option Value)} {st : List Value} {w : aw} {cn sn : Nat}  : wp d 42 Q 13 L st w cn sn = wp d 42 Q 17 L st w cn sn := w_goto d_42_13 (by decide)
theorem d_42_16 : decode (mB 42) 16 = .ok (.iconst 0, 1) := by decide +kernel
theorem s_42_16 {d : Nat} {Q : wQ} {L : List (Option Value)} {st : List Value} {w : aw} {cn sn : Nat}  : wp d 42 Q 16 L st w cn sn = wp d 42 Q 17 L (.int 0 :: st) w cn sn := w_iconst d_42_16 (by decide)
theorem d_42_17 : decode (mB 42) 17 = .ok (.ireturn, 1) := by decide +kernel
theorem s_42_17 {d : Nat} {Q : wQ} {L : List (Option Value)} {w : aw} {cn sn : Nat} {v : Int32} : wp d 42 Q 17 L [.int v] w cn sn = (narrow .boolean (.int v) = .int v ∧ Q (some (.int v)) w) := w_zreturn d_42_17 rfl
theorem d_43_0 : decode (mB 43) 0 = .ok (.iload_n 1, 1) := by decide +kernel
theorem s_43_0 {d : Nat} {Q : wQ} {L : List (Option Value)} {st : List Value} {w : aw} {cn sn : Nat} {a0 : Option Value} {v : Int32} : wp d 43 Q 0 (a0 :: some (.int v) :: L) st w cn sn = wp d 43 Q 1 (a0 :: some (.int v) :: L) (.int v :: st) w cn sn := w_iload_n d_43_0 rfl
theorem d_43_1 : decode (mB 43) 1 = .ok (.istore_n 2, 1) := by decide +kernel
theorem s_43_1 {d : Nat} {Q : wQ} {L : List (Option Value)} {st : List Value} {w : aw} {cn sn : Nat} {a0 a1 a2 : Option Value} {v : Int32} : wp d 43 Q 1 (a0 :: a1 :: a2 :: L) (.int v :: st) w cn sn = wp d 43 Q 2 (a0 :: clr a1 :: some (.int v) :: L) st w cn sn := w_istore_n d_43_1 (Nat.le_add_left 3 _) rfl
theorem d_43_2 : decode (mB 43) 2 = .ok (.iload_n 2, 1) := by decide +kernel
theorem s_43_2 {d : Nat} {Q : wQ} {L : List (Option Value)} {st : List Value} {w : aw} {cn sn : Nat} {a0 a1 : Option Value} {v : Int32} : wp d 43 Q 2 (a0 :: a1 :: some (.int v) :: L) st w cn sn = wp d 43 Q 3 (a0 :: a1 :: some (.int v) :: L) (.int v :: st) w cn sn := w_iload_n d_43_2 rfl
theorem d_43_3 : decode (mB 43) 3 = .ok (.aload_n 0, 1) := by decide +kernel
theorem s_43_3 {d : Nat} {Q : wQ} {L : List (Option Value)} {st : List Value} {w : aw} {cn sn : Nat} {v : Nat} : wp d 43 Q 3 (some (.ref v) :: L) st w cn sn = wp d 43 Q 4 (some (.ref v) :: L) (.ref v :: st) w cn sn := w_aload_n d_43_3 rfl
theorem d_43_4 : decode (mB 43) 4 = .ok (.getfield 19, 3) := by decide +kernel
theorem s_43_4 {d : Nat} {Q : wQ} {L : List (Option Value)} {st : List Value} {w : aw} {cn sn : Nat} {a : Nat} : wp d 43 Q 4 L (.ref a :: st) w cn sn = (kd w a = 5 ∧ wp d 43 Q 7 L (fd w 259 a :: st) w cn sn) := w_getfield d_43_4 (by decide +kernel : fT (mO 43) 19 = some (4, 3))
theorem d_43_7 : decode (mB 43) 7 = .ok (.if_icmp .ge 29, 3) := by decide +kernel
theorem s_43_7 {d : Nat} {Q : wQ} {L : List (Option Value)} {st : List Value} {w : aw} {cn sn : Nat} {a b : Int32} : wp d 43 Q 7 L (.int b :: .int a :: st) w cn sn = ((b ≤ a → wp d 43 Q 36 L st w cn sn) ∧ (¬ b ≤ a → wp d 43 Q 10 L st w cn sn)) := w_icge d_43_7 (by decide)
theorem d_43_10 : decode (mB 43) 10 = .ok (.aload_n 0, 1) := by decide +kernel
theorem s_43_10 {d : Nat} {Q : wQ} {L : List (Option Value)} {st : List Value} {w : aw} {cn sn : Nat} {v : Nat} : wp d 43 Q 10 (some (.ref v) :: L) st w cn sn = wp d 43 Q 11 (some (.ref v) :: L) (.ref v :: st) w cn sn := w_aload_n d_43_10 rfl
theorem d_43_11 : decode (mB 43) 11 = .ok (.iload_n 2, 1) := by decide +kernel
theorem s_43_11 {d : Nat} {Q : wQ} {L : List (Option Value)} {st : List Value} {w : aw} {cn sn : Nat} {a0 a1 : Option Value} {v : Int32} : wp d 43 Q 11 (a0 :: a1 :: some (.int v) :: L) st w cn sn = wp d 43 Q 12 (a0 :: a1 :: some (.int v) :: L) (.int v :: st) w cn sn := w_iload_n d_43_11 rfl
theorem d_43_12 : decode (mB 43) 12 = .ok (.invokevirtual 32, 3) := by decide +kernel
theorem s_43_12 {d : Nat} {Q : wQ} {L : List (Option Value)} {st : List Value} {w : aw} {cn sn : Nat} {v0 : Value} {b : Nat} : wp d 43 Q 12 L (v0 :: .ref b :: st) w cn sn = (kd w b = 5 ∧ catS st ≤ 8 ∧ wpD d 40 [.ref b, v0] w (fun v w' => wp d 43 Q 15 L (v.toList ++ st) w' cn sn)) := w_virtual (As := [v0]) d_43_12 (by decide +kernel : cT (mO 43) 32 = some (0, 40)) rfl (by decide +kernel) rfl (by decide +kernel) rfl
theorem d_43_15 : decode (mB 43) 15 = .ok (.bipush 32, 2) := by decide +kernel
theorem s_43_15 {d : Nat} {Q : wQ} {L : List (Option Value)} {st : List Value} {w : aw} {cn sn : Nat}  : wp d 43 Q 15 L st w cn sn = wp d 43 Q 17 L (.int 32 :: st) w cn sn := w_bipush d_43_15 (by decide)
theorem d_43_17 : decode (mB 43) 17 = .ok (.if_icmp .eq 13, 3) := by decide +kernel
theorem s_43_17 {d : Nat} {Q : wQ} {L : List (Option Value)} {st : List Value} {w : aw} {cn sn : Nat} {a b : Int32} : wp d 43 Q 17 L (.int b :: .int a :: st) w cn sn = ((a = b → wp d 43 Q 30 L st w cn sn) ∧ (¬ a = b → wp d 43 Q 20 L st w cn sn)) := w_iceq d_43_17 (by decide)
theorem d_43_20 : decode (mB 43) 20 = .ok (.aload_n 0, 1) := by decide +kernel
theorem s_43_20 {d : Nat} {Q : wQ} {L : List (Option Value)} {st : List Value} {w : aw} {cn sn : Nat} {v : Nat} : wp d 43 Q 20 (some (.ref v) :: L) st w cn sn = wp d 43 Q 21 (some (.ref v) :: L) (.ref v :: st) w cn sn := w_aload_n d_43_20 rfl
theorem d_43_21 : decode (mB 43) 21 = .ok (.iload_n 2, 1) := by decide +kernel
theorem s_43_21 {d : Nat} {Q : wQ} {L : List (Option Value)} {st : List Value} {w : aw} {cn sn : Nat} {a0 a1 : Option Value} {v : Int32} : wp d 43 Q 21 (a0 :: a1 :: some (.int v) :: L) st w cn sn = wp d 43 Q 22 (a0 :: a1 :: some (.int v) :: L) (.int v :: st) w cn sn := w_iload_n d_43_21 rfl
theorem d_43_22 : decode (mB 43) 22 = .ok (.invokevirtual 32, 3) := by decide +kernel
theorem s_43_22 {d : Nat} {Q : wQ} {L : List (Option Value)} {st : List Value} {w : aw} {cn sn : Nat} {v0 : Value} {b : Nat} : wp d 43 Q 22 L (v0 :: .ref b :: st) w cn sn = (kd w b = 5 ∧ catS st ≤ 8 ∧ wpD d 40 [.ref b, v0] w (fun v w' => wp d 43 Q 25 L (v.toList ++ st) w' cn sn)) := w_virtual (As := [v0]) d_43_22 (by decide +kernel : cT (mO 43) 32 = some (0, 40)) rfl (by decide +kernel) rfl (by decide +kernel) rfl
theorem d_43_25 : decode (mB 43) 25 = .ok (.bipush 9, 2) := by decide +kernel
theorem s_43_25 {d : Nat} {Q : wQ} {L : List (Option Value)} {st : List Value} {w : aw} {cn sn : Nat}  : wp d 43 Q 25 L st w cn sn = wp d 43 Q 27 L (.int 9 :: st) w cn sn := w_bipush d_43_25 (by decide)
theorem d_43_27 : decode (mB 43) 27 = .ok (.if_icmp .ne 9, 3) := by decide +kernel
theorem s_43_27 {d : Nat} {Q : wQ} {L : List (Option Value)} {st : List Value} {w : aw} {cn sn : Nat} {a b : Int32} : wp d 43 Q 27 L (.int b :: .int a :: st) w cn sn = ((¬ a = b → wp d 43 Q 36 L st w cn sn) ∧ (a = b → wp d 43 Q 30 L st w cn sn)) := w_icne d_43_27 (by decide)
theorem d_43_30 : decode (mB 43) 30 = .ok (.iinc 2 1, 3) := by decide +kernel
theorem s_43_30 {d : Nat} {Q : wQ} {L : List (Option Value)} {st : List Value} {w : aw} {cn sn : Nat} {a0 a1 : Option Value} {v : Int32} : wp d 43 Q 30 (a0 :: a1 :: some (.int v) :: L) st w cn sn = wp d 43 Q 33 (a0 :: clr a1 :: some (.int (v + 1)) :: L) st w cn sn := w_iinc d_43_30 rfl (by decide) rfl
theorem d_43_33 : decode (mB 43) 33 = .ok (.goto (-31), 3) := by decide +kernel
theorem s_43_33 {d : Nat} {Q : wQ} {L : List (Option Value)} {st : List Value} {w : aw} {cn sn : Nat}  : wp d 43 Q 33 L st w cn sn = wp d 43 Q 2 L st w cn sn := w_goto d_43_33 (by decide)
theorem d_43_36 : decode (mB 43) 36 = .ok (.iload_n 2, 1) := by decide +kernel
theorem s_43_36 {d : Nat} {Q : wQ} {L : List (Option Value)} {st : List Value} {w : aw} {cn sn : Nat} {a0 a1 : Option Value} {v : Int32} : wp d 43 Q 36 (a0 :: a1 :: some (.int v) :: L) st w cn sn = wp d 43 Q 37 (a0 :: a1 :: some (.int v) :: L) (.int v :: st) w cn sn := w_iload_n d_43_36 rfl
theorem d_43_37 : decode (mB 43) 37 = .ok (.ireturn, 1) := by decide +kernel
theorem s_43_37 {d : Nat} {Q : wQ} {L : List (Option Value)} {w : aw} {cn sn : Nat} {v : Int32} : wp d 43 Q 37 L [.int v] w cn sn = Q (some (.int v)) w := w_ireturn d_43_37 rfl
theorem d_44_0 : decode (mB 44) 0 = .ok (.iload_n 1, 1) := by decide +kernel
theorem s_44_0 {d : Nat} {Q : wQ} {L : List (Option Value)} {st : List Value} {w : aw} {cn sn : Nat} {a0 : Option Value} {v : Int32} : wp d 44 Q 0 (a0 :: some (.int v) :: L) st w cn sn = wp d 44 Q 1 (a0 :: some (.int v) :: L) (.int v :: st) w cn sn := w_iload_n d_44_0 rfl
theorem d_44_1 : decode (mB 44) 1 = .ok (.istore_n 2, 1) := by decide +kernel
theorem s_44_1 {d : Nat} {Q : wQ} {L : List (Option Value)} {st : List Value} {w : aw} {cn sn : Nat} {a0 a1 a2 : Option Value} {v : Int32} : wp d 44 Q 1 (a0 :: a1 :: a2 :: L) (.int v :: st) w cn sn = wp d 44 Q 2 (a0 :: clr a1 :: some (.int v) :: L) st w cn sn := w_istore_n d_44_1 (Nat.le_add_left 3 _) rfl
theorem d_44_2 : decode (mB 44) 2 = .ok (.iload_n 2, 1) := by decide +kernel
theorem s_44_2 {d : Nat} {Q : wQ} {L : List (Option Value)} {st : List Value} {w : aw} {cn sn : Nat} {a0 a1 : Option Value} {v : Int32} : wp d 44 Q 2 (a0 :: a1 :: some (.int v) :: L) st w cn sn = wp d 44 Q 3 (a0 :: a1 :: some (.int v) :: L) (.int v :: st) w cn sn := w_iload_n d_44_2 rfl
theorem d_44_3 : decode (mB 44) 3 = .ok (.aload_n 0, 1) := by decide +kernel
theorem s_44_3 {d : Nat} {Q : wQ} {L : List (Option Value)} {st : List Value} {w : aw} {cn sn : Nat} {v : Nat} : wp d 44 Q 3 (some (.ref v) :: L) st w cn sn = wp d 44 Q 4 (some (.ref v) :: L) (.ref v :: st) w cn sn := w_aload_n d_44_3 rfl
theorem d_44_4 : decode (mB 44) 4 = .ok (.getfield 19, 3) := by decide +kernel
theorem s_44_4 {d : Nat} {Q : wQ} {L : List (Option Value)} {st : List Value} {w : aw} {cn sn : Nat} {a : Nat} : wp d 44 Q 4 L (.ref a :: st) w cn sn = (kd w a = 5 ∧ wp d 44 Q 7 L (fd w 259 a :: st) w cn sn) := w_getfield d_44_4 (by decide +kernel : fT (mO 44) 19 = some (4, 3))
theorem d_44_7 : decode (mB 44) 7 = .ok (.if_icmp .ge 31, 3) := by decide +kernel
theorem s_44_7 {d : Nat} {Q : wQ} {L : List (Option Value)} {st : List Value} {w : aw} {cn sn : Nat} {a b : Int32} : wp d 44 Q 7 L (.int b :: .int a :: st) w cn sn = ((b ≤ a → wp d 44 Q 38 L st w cn sn) ∧ (¬ b ≤ a → wp d 44 Q 10 L st w cn sn)) := w_icge d_44_7 (by decide)
theorem d_44_10 : decode (mB 44) 10 = .ok (.aload_n 0, 1) := by decide +kernel
theorem s_44_10 {d : Nat} {Q : wQ} {L : List (Option Value)} {st : List Value} {w : aw} {cn sn : Nat} {v : Nat} : wp d 44 Q 10 (some (.ref v) :: L) st w cn sn = wp d 44 Q 11 (some (.ref v) :: L) (.ref v :: st) w cn sn := w_aload_n d_44_10 rfl
theorem d_44_11 : decode (mB 44) 11 = .ok (.iload_n 2, 1) := by decide +kernel
theorem s_44_11 {d : Nat} {Q : wQ} {L : List (Option Value)} {st : List Value} {w : aw} {cn sn : Nat} {a0 a1 : Option Value} {v : Int32} : wp d 44 Q 11 (a0 :: a1 :: some (.int v) :: L) st w cn sn = wp d 44 Q 12 (a0 :: a1 :: some (.int v) :: L) (.int v :: st) w cn sn := w_iload_n d_44_11 rfl
theorem d_44_12 : decode (mB 44) 12 = .ok (.invokevirtual 32, 3) := by decide +kernel
theorem s_44_12 {d : Nat} {Q : wQ} {L : List (Option Value)} {st : List Value} {w : aw} {cn sn : Nat} {v0 : Value} {b : Nat} : wp d 44 Q 12 L (v0 :: .ref b :: st) w cn sn = (kd w b = 5 ∧ catS st ≤ 8 ∧ wpD d 40 [.ref b, v0] w (fun v w' => wp d 44 Q 15 L (v.toList ++ st) w' cn sn)) := w_virtual (As := [v0]) d_44_12 (by decide +kernel : cT (mO 44) 32 = some (0, 40)) rfl (by decide +kernel) rfl (by decide +kernel) rfl
theorem d_44_15 : decode (mB 44) 15 = .ok (.invokestatic 36, 3) := by decide +kernel
theorem s_44_15 {d : Nat} {Q : wQ} {L : List (Option Value)} {st : List Value} {w : aw} {cn sn : Nat} {v0 : Value} : wp d 44 Q 15 L (v0 :: st) w cn sn = (catS st ≤ 8 ∧ wpD d 41 [v0] w (fun v w' => wp d 44 Q 18 L (v.toList ++ st) w' cn sn)) := w_static (As := [v0]) d_44_15 (by decide +kernel : cT (mO 44) 36 = some (2, 41)) (by decide +kernel) rfl (by decide +kernel) rfl
theorem d_44_18 : decode (mB 44) 18 = .ok (.ifCond .ne 14, 3) := by decide +kernel
theorem s_44_18 {d : Nat} {Q : wQ} {L : List (Option Value)} {st : List Value} {w : aw} {cn sn : Nat} {x : Int32} : wp d 44 Q 18 L (.int x :: st) w cn sn = ((¬ x = 0 → wp d 44 Q 32 L st w cn sn) ∧ (x = 0 → wp d 44 Q 21 L st w cn sn)) := w_ifne d_44_18 (by decide)
theorem d_44_21 : decode (mB 44) 21 = .ok (.aload_n 0, 1) := by decide +kernel
theorem s_44_21 {d : Nat} {Q : wQ} {L : List (Option Value)} {st : List Value} {w : aw} {cn sn : Nat} {v : Nat} : wp d 44 Q 21 (some (.ref v) :: L) st w cn sn = wp d 44 Q 22 (some (.ref v) :: L) (.ref v :: st) w cn sn := w_aload_n d_44_21 rfl
theorem d_44_22 : decode (mB 44) 22 = .ok (.iload_n 2, 1) := by decide +kernel
theorem s_44_22 {d : Nat} {Q : wQ} {L : List (Option Value)} {st : List Value} {w : aw} {cn sn : Nat} {a0 a1 : Option Value} {v : Int32} : wp d 44 Q 22 (a0 :: a1 :: some (.int v) :: L) st w cn sn = wp d 44 Q 23 (a0 :: a1 :: some (.int v) :: L) (.int v :: st) w cn sn := w_iload_n d_44_22 rfl
theorem d_44_23 : decode (mB 44) 23 = .ok (.invokevirtual 32, 3) := by decide +kernel
theorem s_44_23 {d : Nat} {Q : wQ} {L : List (Option Value)} {st : List Value} {w : aw} {cn sn : Nat} {v0 : Value} {b : Nat} : wp d 44 Q 23 L (v0 :: .ref b :: st) w cn sn = (kd w b = 5 ∧ catS st ≤ 8 ∧ wpD d 40 [.ref b, v0] w (fun v w' => wp d 44 Q 26 L (v.toList ++ st) w' cn sn)) := w_virtual (As := [v0]) d_44_23 (by decide +kernel : cT (mO 44) 32 = some (0, 40)) rfl (by decide +kernel) rfl (by decide +kernel) rfl
theorem d_44_26 : decode (mB 44) 26 = .ok (.invokestatic 40, 3) := by decide +kernel
theorem s_44_26 {d : Nat} {Q : wQ} {L : List (Option Value)} {st : List Value} {w : aw} {cn sn : Nat} {v0 : Value} : wp d 44 Q 26 L (v0 :: st) w cn sn = (catS st ≤ 8 ∧ wpD d 42 [v0] w (fun v w' => wp d 44 Q 29 L (v.toList ++ st) w' cn sn)) := w_static (As := [v0]) d_44_26 (by decide +kernel : cT (mO 44) 40 = some (2, 42)) (by decide +kernel) rfl (by decide +kernel) rfl
theorem d_44_29 : decode (mB 44) 29 = .ok (.ifCond .eq 9, 3) := by decide +kernel
theorem s_44_29 {d : Nat} {Q : wQ} {L : List (Option Value)} {st : List Value} {w : aw} {cn sn : Nat} {x : Int32} : wp d 44 Q 29 L (.int x :: st) w cn sn = ((x = 0 → wp d 44 Q 38 L st w cn sn) ∧ (¬ x = 0 → wp d 44 Q 32 L st w cn sn)) := w_ifeq d_44_29 (by decide)
theorem d_44_32 : decode (mB 44) 32 = .ok (.iinc 2 1, 3) := by decide +kernel
theorem s_44_32 {d : Nat} {Q : wQ} {L : List (Option Value)} {st : List Value} {w : aw} {cn sn : Nat} {a0 a1 : Option Value} {v : Int32} : wp d 44 Q 32 (a0 :: a1 :: some (.int v) :: L) st w cn sn = wp d 44 Q 35 (a0 :: clr a1 :: some (.int (v + 1)) :: L) st w cn sn := w_iinc d_44_32 rfl (by decide) rfl
theorem d_44_35 : decode (mB 44) 35 = .ok (.goto (-33), 3) := by decide +kernel
theorem s_44_35 {d : Nat} {Q : wQ} {L : List (Option Value)} {st : List Value} {w : aw} {cn sn : Nat}  : wp d 44 Q 35 L st w cn sn = wp d 44 Q 2 L st w cn sn := w_goto d_44_35 (by decide)
theorem d_44_38 : decode (mB 44) 38 = .ok (.iload_n 2, 1) := by decide +kernel
theorem s_44_38 {d : Nat} {Q : wQ} {L : List (Option Value)} {st : List Value} {w : aw} {cn sn : Nat} {a0 a1 : Option Value} {v : Int32} : wp d 44 Q 38 (a0 :: a1 :: some (.int v) :: L) st w cn sn = wp d 44 Q 39 (a0 :: a1 :: some (.int v) :: L) (.int v :: st) w cn sn := w_iload_n d_44_38 rfl
theorem d_44_39 : decode (mB 44) 39 = .ok (.ireturn, 1) := by decide +kernel
theorem s_44_39 {d : Nat} {Q : wQ} {L : List (Option Value)} {w : aw} {cn sn : Nat} {v : Int32} : wp d 44 Q 39 L [.int v] w cn sn = Q (some (.int v)) w := w_ireturn d_44_39 rfl
theorem d_45_0 : decode (mB 45) 0 = .ok (.aload_n 0, 1) := by decide +kernel
theorem s_45_0 {d : Nat} {Q : wQ} {L : List (Option Value)} {st : List Value} {w : aw} {cn sn : Nat} {v : Nat} : wp d 45 Q 0 (some (.ref v) :: L) st w cn sn = wp d 45 Q 1 (some (.ref v) :: L) (.ref v :: st) w cn sn := w_aload_n d_45_0 rfl
theorem d_45_1 : decode (mB 45) 1 = .ok (.iload_n 1, 1) := by decide +kernel
theorem s_45_1 {d : Nat} {Q : wQ} {L : List (Option Value)} {st : List Value} {w : aw} {cn sn : Nat} {a0 : Option Value} {v : Int32} : wp d 45 Q 1 (a0 :: some (.int v) :: L) st w cn sn = wp d 45 Q 2 (a0 :: some (.int v) :: L) (.int v :: st) w cn sn := w_iload_n d_45_1 rfl
theorem d_45_2 : decode (mB 45) 2 = .ok (.invokevirtual 32, 3) := by decide +kernel
theorem s_45_2 {d : Nat} {Q : wQ} {L : List (Option Value)} {st : List Value} {w : aw} {cn sn : Nat} {v0 : Value} {b : Nat} : wp d 45 Q 2 L (v0 :: .ref b :: st) w cn sn = (kd w b = 5 ∧ catS st ≤ 8 ∧ wpD d 40 [.ref b, v0] w (fun v w' => wp d 45 Q 5 L (v.toList ++ st) w' cn sn)) := w_virtual (As := [v0]) d_45_2 (by decide +kernel : cT (mO 45) 32 = some (0, 40)) rfl (by decide +kernel) rfl (by decide +kernel) rfl
theorem d_45_5 : decode (mB 45) 5 = .ok (.invokestatic 36, 3) := by decide +kernel
theorem s_45_5 {d : Nat} {Q : wQ} {L : List (Option Value)} {st : List Value} {w : aw} {cn sn : Nat} {v0 : Value} : wp d 45 Q 5 L (v0 :: st) w cn sn = (catS st ≤ 8 ∧ wpD d 41 [v0] w (fun v w' => wp d 45 Q 8 L (v.toList ++ st) w' cn sn)) := w_static (As := [v0]) d_45_5 (by decide +kernel : cT (mO 45) 36 = some (2, 41)) (by decide +kernel) rfl (by decide +kernel) rfl
theorem d_45_8 : decode (mB 45) 8 = .ok (.ifCond .eq 11, 3) := by decide +kernel
theorem s_45_8 {d : Nat} {Q : wQ} {L : List (Option Value)} {st : List Value} {w : aw} {cn sn : Nat} {x : Int32} : wp d 45 Q 8 L (.int x :: st) w cn sn = ((x = 0 → wp d 45 Q 19 L st w cn sn) ∧ (¬ x = 0 → wp d 45 Q 11 L st w cn sn)) := w_ifeq d_45_8 (by decide)
theorem d_45_11 : decode (mB 45) 11 = .ok (.iload_n 2, 1) := by decide +kernel
theorem s_45_11 {d : Nat} {Q : wQ} {L : List (Option Value)} {st : List Value} {w : aw} {cn sn : Nat} {a0 a1 : Option Value} {v : Int32} : wp d 45 Q 11 (a0 :: a1 :: some (.int v) :: L) st w cn sn = wp d 45 Q 12 (a0 :: a1 :: some (.int v) :: L) (.int v :: st) w cn sn := w_iload_n d_45_11 rfl
theorem d_45_12 : decode (mB 45) 12 = .ok (.iload_n 1, 1) := by decide +kernel
theorem s_45_12 {d : Nat} {Q : wQ} {L : List (Option Value)} {st : List Value} {w : aw} {cn sn : Nat} {a0 : Option Value} {v : Int32} : wp d 45 Q 12 (a0 :: some (.int v) :: L) st w cn sn = wp d 45 Q 13 (a0 :: some (.int v) :: L) (.int v :: st) w cn sn := w_iload_n d_45_12 rfl
theorem d_45_13 : decode (mB 45) 13 = .ok (.isub, 1) := by decide +kernel
theorem s_45_13 {d : Nat} {Q : wQ} {L : List (Option Value)} {st : List Value} {w : aw} {cn sn : Nat} {a b : Int32} : wp d 45 Q 13 L (.int b :: .int a :: st) w cn sn = wp d 45 Q 14 L (.int (a - b) :: st) w cn sn := wp_row d_45_13 _ _ _ _ _
theorem d_45_14 : decode (mB 45) 14 = .ok (.bipush 6, 2) := by decide +kernel
theorem s_45_14 {d : Nat} {Q : wQ} {L : List (Option Value)} {st : List Value} {w : aw} {cn sn : Nat}  : wp d 45 Q 14 L st w cn sn = wp d 45 Q 16 L (.int 6 :: st) w cn sn := w_bipush d_45_14 (by decide)
theorem d_45_16 : decode (mB 45) 16 = .ok (.if_icmp .le 5, 3) := by decide +kernel
theorem s_45_16 {d : Nat} {Q : wQ} {L : List (Option Value)} {st : List Value} {w : aw} {cn sn : Nat} {a b : Int32} : wp d 45 Q 16 L (.int b :: .int a :: st) w cn sn = ((a ≤ b → wp d 45 Q 21 L st w cn sn) ∧ (¬ a ≤ b → wp d 45 Q 19 L st w cn sn)) := w_icle d_45_16 (by decide)
theorem d_45_19 : decode (mB 45) 19 = .ok (.lconst 0, 1) := by decide +kernel
theorem s_45_19 {d : Nat} {Q : wQ} {L : List (Option Value)} {st : List Value} {w : aw} {cn sn : Nat}  : wp d 45 Q 19 L st w cn sn = wp d 45 Q 20 L (.long 0 :: st) w cn sn := w_lconst d_45_19 (by decide)
theorem d_45_20 : decode (mB 45) 20 = .ok (.lreturn, 1) := by decide +kernel
theorem s_45_20 {d : Nat} {Q : wQ} {L : List (Option Value)} {w : aw} {cn sn : Nat} {v : Int64} : wp d 45 Q 20 L [.long v] w cn sn = Q (some (.long v)) w := w_lreturn d_45_20 rfl
theorem d_45_21 : decode (mB 45) 21 = .ok (.lconst 0, 1) := by decide +kernel
theorem s_45_21 {d : Nat} {Q : wQ} {L : List (Option Value)} {st : List Value} {w : aw} {cn sn : Nat}  : wp d 45 Q 21 L st w cn sn = wp d 45 Q 22 L (.long 0 :: st) w cn sn := w_lconst d_45_21 (by decide)
theorem d_45_22 : decode (mB 45) 22 = .ok (.lstore_n 3, 1) := by decide +kernel
theorem s_45_22 {d : Nat} {Q : wQ} {L : List (Option Value)} {st : List Value} {w : aw} {cn sn : Nat} {a0 a1 a2 a3 a4 : Option Value} {v : Int64} : wp d 45 Q 22 (a0 :: a1 :: a2 :: a3 :: a4 :: L) (.long v :: st) w cn sn = wp d 45 Q 23 (a0 :: a1 :: clr a2 :: some (.long v) :: none :: L) st w cn sn := w_lstore_n d_45_22 (Nat.le_add_left 5 _) rfl
theorem d_45_23 : decode (mB 45) 23 = .ok (.iload_n 1, 1) := by decide +kernel
theorem s_45_23 {d : Nat} {Q : wQ} {L : List (Option Value)} {st : List Value} {w : aw} {cn sn : Nat} {a0 : Option Value} {v : Int32} : wp d 45 Q 23 (a0 :: some (.int v) :: L) st w cn sn = wp d 45 Q 24 (a0 :: some (.int v) :: L) (.int v :: st) w cn sn := w_iload_n d_45_23 rfl
theorem d_45_24 : decode (mB 45) 24 = .ok (.istore 5, 2) := by decide +kernel
theorem s_45_24 {d : Nat} {Q : wQ} {L : List (Option Value)} {st : List Value} {w : aw} {cn sn : Nat} {a0 a1 a2 a3 a4 a5 : Option Value} {v : Int32} : wp d 45 Q 24 (a0 :: a1 :: a2 :: a3 :: a4 :: a5 :: L) (.int v :: st) w cn sn = wp d 45 Q 26 (a0 :: a1 :: a2 :: a3 :: clr a4 :: some (.int v) :: L) st w cn sn := w_istore d_45_24 (Nat.le_add_left 6 _) rfl
theorem d_45_26 : decode (mB 45) 26 = .ok (.iload 5, 2) := by decide +kernel
theorem s_45_26 {d : Nat} {Q : wQ} {L : List (Option Value)} {st : List Value} {w : aw} {cn sn : Nat} {a0 a1 a2 a3 a4 : Option Value} {v : Int32} : wp d 45 Q 26 (a0 :: a1 :: a2 :: a3 :: a4 :: some (.int v) :: L) st w cn sn = wp d 45 Q 28 (a0 :: a1 :: a2 :: a3 :: a4 :: some (.int v) :: L) (.int v :: st) w cn sn := w_iload d_45_26 rfl
theorem d_45_28 : decode (mB 45) 28 = .ok (.iload_n 2, 1) := by decide +kernel
theorem s_45_28 {d : Nat} {Q : wQ} {L : List (Option Value)} {st : List Value} {w : aw} {cn sn : Nat} {a0 a1 : Option Value} {v : Int32} : wp d 45 Q 28 (a0 :: a1 :: some (.int v) :: L) st w cn sn = wp d 45 Q 29 (a0 :: a1 :: some (.int v) :: L) (.int v :: st) w cn sn := w_iload_n d_45_28 rfl
theorem d_45_29 : decode (mB 45) 29 = .ok (.if_icmp .ge 20, 3) := by decide +kernel
theorem s_45_29 {d : Nat} {Q : wQ} {L : List (Option Value)} {st : List Value} {w : aw} {cn sn : Nat} {a b : Int32} : wp d 45 Q 29 L (.int b :: .int a :: st) w cn sn = ((b ≤ a → wp d 45 Q 49 L st w cn sn) ∧ (¬ b ≤ a → wp d 45 Q 32 L st w cn sn)) := w_icge d_45_29 (by decide)
theorem d_45_32 : decode (mB 45) 32 = .ok (.lload_n 3, 1) := by decide +kernel
theorem s_45_32 {d : Nat} {Q : wQ} {L : List (Option Value)} {st : List Value} {w : aw} {cn sn : Nat} {a0 a1 a2 : Option Value} {v : Int64} : wp d 45 Q 32 (a0 :: a1 :: a2 :: some (.long v) :: L) st w cn sn = wp d 45 Q 33 (a0 :: a1 :: a2 :: some (.long v) :: L) (.long v :: st) w cn sn := w_lload_n d_45_32 rfl
theorem d_45_33 : decode (mB 45) 33 = .ok (.aload_n 0, 1) := by decide +kernel
theorem s_45_33 {d : Nat} {Q : wQ} {L : List (Option Value)} {st : List Value} {w : aw} {cn sn : Nat} {v : Nat} : wp d 45 Q 33 (some (.ref v) :: L) st w cn sn = wp d 45 Q 34 (some (.ref v) :: L) (.ref v :: st) w cn sn := w_aload_n d_45_33 rfl
theorem d_45_34 : decode (mB 45) 34 = .ok (.iload 5, 2) := by decide +kernel
theorem s_45_34 {d : Nat} {Q : wQ} {L : List (Option Value)} {st : List Value} {w : aw} {cn sn : Nat} {a0 a1 a2 a3 a4 : Option Value} {v : Int32} : wp d 45 Q 34 (a0 :: a1 :: a2 :: a3 :: a4 :: some (.int v) :: L) st w cn sn = wp d 45 Q 36 (a0 :: a1 :: a2 :: a3 :: a4 :: some (.int v) :: L) (.int v :: st) w cn sn := w_iload d_45_34 rfl
theorem d_45_36 : decode (mB 45) 36 = .ok (.invokevirtual 32, 3) := by decide +kernel
theorem s_45_36 {d : Nat} {Q : wQ} {L : List (Option Value)} {st : List Value} {w : aw} {cn sn : Nat} {v0 : Value} {b : Nat} : wp d 45 Q 36 L (v0 :: .ref b :: st) w cn sn = (kd w b = 5 ∧ catS st ≤ 8 ∧ wpD d 40 [.ref b, v0] w (fun v w' => wp d 45 Q 39 L (v.toList ++ st) w' cn sn)) := w_virtual (As := [v0]) d_45_36 (by decide +kernel : cT (mO 45) 32 = some (0, 40)) rfl (by decide +kernel) rfl (by decide +kernel) rfl
theorem d_45_39 : decode (mB 45) 39 = .ok (.invokestatic 45, 3) := by decide +kernel
theorem s_45_39 {d : Nat} {Q : wQ} {L : List (Option Value)} {st : List Value} {w : aw} {cn sn : Nat} {v0 v1 : Value} : wp d 45 Q 39 L (v1 :: v0 :: st) w cn sn = (catS st ≤ 8 ∧ wpD d 33 [v0, v1] w (fun v w' => wp d 45 Q 42 L (v.toList ++ st) w' cn sn)) := w_static (As := [v0, v1]) d_45_39 (by decide +kernel : cT (mO 45) 45 = some (2, 33)) (by decide +kernel) rfl (by decide +kernel) rfl
theorem d_45_42 : decode (mB 45) 42 = .ok (.lstore_n 3, 1) := by decide +kernel
theorem s_45_42 {d : Nat} {Q : wQ} {L : List (Option Value)} {st : List Value} {w : aw} {cn sn : Nat} {a0 a1 a2 a3 a4 : Option Value} {v : Int64} : wp d 45 Q 42 (a0 :: a1 :: a2 :: a3 :: a4 :: L) (.long v :: st) w cn sn = wp d 45 Q 43 (a0 :: a1 :: clr a2 :: some (.long v) :: none :: L) st w cn sn := w_lstore_n d_45_42 (Nat.le_add_left 5 _) rfl
theorem d_45_43 : decode (mB 45) 43 = .ok (.iinc 5 1, 3) := by decide +kernel
theorem s_45_43 {d : Nat} {Q : wQ} {L : List (Option Value)} {st : List Value} {w : aw} {cn sn : Nat} {a0 a1 a2 a3 a4 : Option Value} {v : Int32} : wp d 45 Q 43 (a0 :: a1 :: a2 :: a3 :: a4 :: some (.int v) :: L) st w cn sn = wp d 45 Q 46 (a0 :: a1 :: a2 :: a3 :: clr a4 :: some (.int (v + 1)) :: L) st w cn sn := w_iinc d_45_43 rfl (by decide) rfl
theorem d_45_46 : decode (mB 45) 46 = .ok (.goto (-20), 3) := by decide +kernel
theorem s_45_46 {d : Nat} {Q : wQ} {L : List (Option Value)} {st : List Value} {w : aw} {cn sn : Nat}  : wp d 45 Q 46 L st w cn sn = wp d 45 Q 26 L st w cn sn := w_goto d_45_46 (by decide)
theorem d_45_49 : decode (mB 45) 49 = .ok (.lload_n 3, 1) := by decide +kernel
theorem s_45_49 {d : Nat} {Q : wQ} {L : List (Option Value)} {st : List Value} {w : aw} {cn sn : Nat} {a0 a1 a2 : Option Value} {v : Int64} : wp d 45 Q 49 (a0 :: a1 :: a2 :: some (.long v) :: L) st w cn sn = wp d 45 Q 50 (a0 :: a1 :: a2 :: some (.long v) :: L) (.long v :: st) w cn sn := w_lload_n d_45_49 rfl
theorem d_45_50 : decode (mB 45) 50 = .ok (.lreturn, 1) := by decide +kernel
theorem s_45_50 {d : Nat} {Q : wQ} {L : List (Option Value)} {w : aw} {cn sn : Nat} {v : Int64} : wp d 45 Q 50 L [.long v] w cn sn = Q (some (.long v)) w := w_lreturn d_45_50 rfl
theorem d_46_0 : decode (mB 46) 0 = .ok (.aload_n 0, 1) := by decide +kernel
theorem s_46_0 {d : Nat} {Q : wQ} {L : List (Option Value)} {st : List Value} {w : aw} {cn sn : Nat} {v : Nat} : wp d 46 Q 0 (some (.ref v) :: L) st w cn sn = wp d 46 Q 1 (some (.ref v) :: L) (.ref v :: st) w cn sn := w_aload_n d_46_0 rfl
theorem d_46_1 : decode (mB 46) 1 = .ok (.iload_n 2, 1) := by decide +kernel
theorem s_46_1 {d : Nat} {Q : wQ} {L : List (Option Value)} {st : List Value} {w : aw} {cn sn : Nat} {a0 a1 : Option Value} {v : Int32} : wp d 46 Q 1 (a0 :: a1 :: some (.int v) :: L) st w cn sn = wp d 46 Q 2 (a0 :: a1 :: some (.int v) :: L) (.int v :: st) w cn sn := w_iload_n d_46_1 rfl
theorem d_46_2 : decode (mB 46) 2 = .ok (.putfield 19, 3) := by decide +kernel
theorem s_46_2 {d : Nat} {Q : wQ} {L : List (Option Value)} {st : List Value} {w : aw} {cn sn : Nat} {x : Int32} {a : Nat} : wp d 46 Q 2 L (.int x :: .ref a :: st) w cn sn = (kd w a = 5 ∧ wp d 46 Q 5 L st (uF w 259 a (.int x)) cn sn) := w_putfield d_46_2 (by decide +kernel : fT (mO 46) 19 = some (4, 3)) (by decide +kernel) ok_int
theorem d_46_5 : decode (mB 46) 5 = .ok (.aload_n 0, 1) := by decide +kernel
theorem s_46_5 {d : Nat} {Q : wQ} {L : List (Option Value)} {st : List Value} {w : aw} {cn sn : Nat} {v : Nat} : wp d 46 Q 5 (some (.ref v) :: L) st w cn sn = wp d 46 Q 6 (some (.ref v) :: L) (.ref v :: st) w cn sn := w_aload_n d_46_5 rfl
theorem d_46_6 : decode (mB 46) 6 = .ok (.aload_n 0, 1) := by decide +kernel
theorem s_46_6 {d : Nat} {Q : wQ} {L : List (Option Value)} {st : List Value} {w : aw} {cn sn : Nat} {v : Nat} : wp d 46 Q 6 (some (.ref v) :: L) st w cn sn = wp d 46 Q 7 (some (.ref v) :: L) (.ref v :: st) w cn sn := w_aload_n d_46_6 rfl
theorem d_46_7 : decode (mB 46) 7 = .ok (.iload_n 1, 1) := by decide +kernel
theorem s_46_7 {d : Nat} {Q : wQ} {L : List (Option Value)} {st : List Value} {w : aw} {cn sn : Nat} {a0 : Option Value} {v : Int32} : wp d 46 Q 7 (a0 :: some (.int v) :: L) st w cn sn = wp d 46 Q 8 (a0 :: some (.int v) :: L) (.int v :: st) w cn sn := w_iload_n d_46_7 rfl
theorem d_46_8 : decode (mB 46) 8 = .ok (.invokevirtual 49, 3) := by decide +kernel
theorem s_46_8 {d : Nat} {Q : wQ} {L : List (Option Value)} {st : List Value} {w : aw} {cn sn : Nat} {v0 : Value} {b : Nat} : wp d 46 Q 8 L (v0 :: .ref b :: st) w cn sn = (kd w b = 5 ∧ catS st ≤ 8 ∧ wpD d 43 [.ref b, v0] w (fun v w' => wp d 46 Q 11 L (v.toList ++ st) w' cn sn)) := w_virtual (As := [v0]) d_46_8 (by decide +kernel : cT (mO 46) 49 = some (0, 43)) rfl (by decide +kernel) rfl (by decide +kernel) rfl
theorem d_46_11 : decode (mB 46) 11 = .ok (.putfield 52, 3) := by decide +kernel
theorem s_46_11 {d : Nat} {Q : wQ} {L : List (Option Value)} {st : List Value} {w : aw} {cn sn : Nat} {x : Int32} {a : Nat} : wp d 46 Q 11 L (.int x :: .ref a :: st) w cn sn = (kd w a = 5 ∧ wp d 46 Q 14 L st (uF w 258 a (.int x)) cn sn) := w_putfield d_46_11 (by decide +kernel : fT (mO 46) 52 = some (4, 2)) (by decide +kernel) ok_int
theorem d_46_14 : decode (mB 46) 14 = .ok (.return_, 1) := by decide +kernel
theorem s_46_14 {d : Nat} {Q : wQ} {L : List (Option Value)} {w : aw} {cn sn : Nat}  : wp d 46 Q 14 L [] w cn sn = Q none w := w_return d_46_14 rfl
theorem d_47_0 : decode (mB 47) 0 = .ok (.aload_n 0, 1) := by decide +kernel
theorem s_47_0 {d : Nat} {Q : wQ} {L : List (Option Value)} {st : List Value} {w : aw} {cn sn : Nat} {v : Nat} : wp d 47 Q 0 (some (.ref v) :: L) st w cn sn = wp d 47 Q 1 (some (.ref v) :: L) (.ref v :: st) w cn sn := w_aload_n d_47_0 rfl
theorem d_47_1 : decode (mB 47) 1 = .ok (.aload_n 0, 1) := by decide +kernel
theorem s_47_1 {d : Nat} {Q : wQ} {L : List (Option Value)} {st : List Value} {w : aw} {cn sn : Nat} {v : Nat} : wp d 47 Q 1 (some (.ref v) :: L) st w cn sn = wp d 47 Q 2 (some (.ref v) :: L) (.ref v :: st) w cn sn := w_aload_n d_47_1 rfl
theorem d_47_2 : decode (mB 47) 2 = .ok (.getfield 52, 3) := by decide +kernel
theorem s_47_2 {d : Nat} {Q : wQ} {L : List (Option Value)} {st : List Value} {w : aw} {cn sn : Nat} {a : Nat} : wp d 47 Q 2 L (.ref a :: st) w cn sn = (kd w a = 5 ∧ wp d 47 Q 5 L (fd w 258 a :: st) w cn sn) := w_getfield d_47_2 (by decide +kernel : fT (mO 47) 52 = some (4, 2))
theorem d_47_5 : decode (mB 47) 5 = .ok (.invokevirtual 55, 3) := by decide +kernel
theorem s_47_5 {d : Nat} {Q : wQ} {L : List (Option Value)} {st : List Value} {w : aw} {cn sn : Nat} {v0 : Value} {b : Nat} : wp d 47 Q 5 L (v0 :: .ref b :: st) w cn sn = (kd w b = 5 ∧ catS st ≤ 8 ∧ wpD d 44 [.ref b, v0] w (fun v w' => wp d 47 Q 8 L (v.toList ++ st) w' cn sn)) := w_virtual (As := [v0]) d_47_5 (by decide +kernel : cT (mO 47) 55 = some (0, 44)) rfl (by decide +kernel) rfl (by decide +kernel) rfl
theorem d_47_8 : decode (mB 47) 8 = .ok (.istore_n 1, 1) := by decide +kernel
theorem s_47_8 {d : Nat} {Q : wQ} {L : List (Option Value)} {st : List Value} {w : aw} {cn sn : Nat} {a0 a1 : Option Value} {v : Int32} : wp d 47 Q 8 (a0 :: a1 :: L) (.int v :: st) w cn sn = wp d 47 Q 9 (clr a0 :: some (.int v) :: L) st w cn sn := w_istore_n d_47_8 (Nat.le_add_left 2 _) rfl
theorem d_47_9 : decode (mB 47) 9 = .ok (.aload_n 0, 1) := by decide +kernel
theorem s_47_9 {d : Nat} {Q : wQ} {L : List (Option Value)} {st : List Value} {w : aw} {cn sn : Nat} {v : Nat} : wp d 47 Q 9 (some (.ref v) :: L) st w cn sn = wp d 47 Q 10 (some (.ref v) :: L) (.ref v :: st) w cn sn := w_aload_n d_47_9 rfl
theorem d_47_10 : decode (mB 47) 10 = .ok (.aload_n 0, 1) := by decide +kernel
theorem s_47_10 {d : Nat} {Q : wQ} {L : List (Option Value)} {st : List Value} {w : aw} {cn sn : Nat} {v : Nat} : wp d 47 Q 10 (some (.ref v) :: L) st w cn sn = wp d 47 Q 11 (some (.ref v) :: L) (.ref v :: st) w cn sn := w_aload_n d_47_10 rfl
theorem d_47_11 : decode (mB 47) 11 = .ok (.aload_n 0, 1) := by decide +kernel
theorem s_47_11 {d : Nat} {Q : wQ} {L : List (Option Value)} {st : List Value} {w : aw} {cn sn : Nat} {v : Nat} : wp d 47 Q 11 (some (.ref v) :: L) st w cn sn = wp d 47 Q 12 (some (.ref v) :: L) (.ref v :: st) w cn sn := w_aload_n d_47_11 rfl
theorem d_47_12 : decode (mB 47) 12 = .ok (.getfield 52, 3) := by decide +kernel
theorem s_47_12 {d : Nat} {Q : wQ} {L : List (Option Value)} {st : List Value} {w : aw} {cn sn : Nat} {a : Nat} : wp d 47 Q 12 L (.ref a :: st) w cn sn = (kd w a = 5 ∧ wp d 47 Q 15 L (fd w 258 a :: st) w cn sn) := w_getfield d_47_12 (by decide +kernel : fT (mO 47) 52 = some (4, 2))
theorem d_47_15 : decode (mB 47) 15 = .ok (.iload_n 1, 1) := by decide +kernel
theorem s_47_15 {d : Nat} {Q : wQ} {L : List (Option Value)} {st : List Value} {w : aw} {cn sn : Nat} {a0 : Option Value} {v : Int32} : wp d 47 Q 15 (a0 :: some (.int v) :: L) st w cn sn = wp d 47 Q 16 (a0 :: some (.int v) :: L) (.int v :: st) w cn sn := w_iload_n d_47_15 rfl
theorem d_47_16 : decode (mB 47) 16 = .ok (.invokevirtual 58, 3) := by decide +kernel
theorem s_47_16 {d : Nat} {Q : wQ} {L : List (Option Value)} {st : List Value} {w : aw} {cn sn : Nat} {v0 v1 : Value} {b : Nat} : wp d 47 Q 16 L (v1 :: v0 :: .ref b :: st) w cn sn = (kd w b = 5 ∧ catS st ≤ 8 ∧ wpD d 45 [.ref b, v0, v1] w (fun v w' => wp d 47 Q 19 L (v.toList ++ st) w' cn sn)) := w_virtual (As := [v0, v1]) d_47_16 (by decide +kernel : cT (mO 47) 58 = some (0, 45)) rfl (by decide +kernel) rfl (by decide +kernel) rfl
theorem d_47_19 : decode (mB 47) 19 = .ok (.putfield 62, 3) := by decide +kernel
theorem s_47_19 {d : Nat} {Q : wQ} {L : List (Option Value)} {st : List Value} {w : aw} {cn sn : Nat} {x : Int64} {a : Nat} : wp d 47 Q 19 L (.long x :: .ref a :: st) w cn sn = (kd w a = 5 ∧ wp d 47 Q 22 L st (uF w 262 a (.long x)) cn sn) := w_putfield d_47_19 (by decide +kernel : fT (mO 47) 62 = some (4, 6)) (by decide +kernel) ok_long
theorem d_47_22 : decode (mB 47) 22 = .ok (.aload_n 0, 1) := by decide +kernel
theorem s_47_22 {d : Nat} {Q : wQ} {L : List (Option Value)} {st : List Value} {w : aw} {cn sn : Nat} {v : Nat} : wp d 47 Q 22 (some (.ref v) :: L) st w cn sn = wp d 47 Q 23 (some (.ref v) :: L) (.ref v :: st) w cn sn := w_aload_n d_47_22 rfl
theorem d_47_23 : decode (mB 47) 23 = .ok (.getfield 62, 3) := by decide +kernel
theorem s_47_23 {d : Nat} {Q : wQ} {L : List (Option Value)} {st : List Value} {w : aw} {cn sn : Nat} {a : Nat} : wp d 47 Q 23 L (.ref a :: st) w cn sn = (kd w a = 5 ∧ wp d 47 Q 26 L (fd w 262 a :: st) w cn sn) := w_getfield d_47_23 (by decide +kernel : fT (mO 47) 62 = some (4, 6))
theorem d_47_26 : decode (mB 47) 26 = .ok (.lconst 0, 1) := by decide +kernel
theorem s_47_26 {d : Nat} {Q : wQ} {L : List (Option Value)} {st : List Value} {w : aw} {cn sn : Nat}  : wp d 47 Q 26 L st w cn sn = wp d 47 Q 27 L (.long 0 :: st) w cn sn := w_lconst d_47_26 (by decide)
theorem d_47_27 : decode (mB 47) 27 = .ok (.lcmp, 1) := by decide +kernel
theorem s_47_27 {d : Nat} {Q : wQ} {L : List (Option Value)} {st : List Value} {w : aw} {cn sn : Nat} {a b : Int64} : wp d 47 Q 27 L (.long b :: .long a :: st) w cn sn = wp d 47 Q 28 L (.int (lg_cmp a b) :: st) w cn sn := wp_row d_47_27 _ _ _ _ _
theorem d_47_28 : decode (mB 47) 28 = .ok (.ifCond .eq 13, 3) := by decide +kernel
theorem s_47_28 {d : Nat} {Q : wQ} {L : List (Option Value)} {st : List Value} {w : aw} {cn sn : Nat} {x : Int32} : wp d 47 Q 28 L (.int x :: st) w cn sn = ((x = 0 → wp d 47 Q 41 L st w cn sn) ∧ (¬ x = 0 → wp d 47 Q 31 L st w cn sn)) := w_ifeq d_47_28 (by decide)
theorem d_47_31 : decode (mB 47) 31 = .ok (.aload_n 0, 1) := by decide +kernel
theorem s_47_31 {d : Nat} {Q : wQ} {L : List (Option Value)} {st : List Value} {w : aw} {cn sn : Nat} {v : Nat} : wp d 47 Q 31 (some (.ref v) :: L) st w cn sn = wp d 47 Q 32 (some (.ref v) :: L) (.ref v :: st) w cn sn := w_aload_n d_47_31 rfl
theorem d_47_32 : decode (mB 47) 32 = .ok (.iload_n 1, 1) := by decide +kernel
theorem s_47_32 {d : Nat} {Q : wQ} {L : List (Option Value)} {st : List Value} {w : aw} {cn sn : Nat} {a0 : Option Value} {v : Int32} : wp d 47 Q 32 (a0 :: some (.int v) :: L) st w cn sn = wp d 47 Q 33 (a0 :: some (.int v) :: L) (.int v :: st) w cn sn := w_iload_n d_47_32 rfl
theorem d_47_33 : decode (mB 47) 33 = .ok (.invokevirtual 32, 3) := by decide +kernel
theorem s_47_33 {d : Nat} {Q : wQ} {L : List (Option Value)} {st : List Value} {w : aw} {cn sn : Nat} {v0 : Value} {b : Nat} : wp d 47 Q 33 L (v0 :: .ref b :: st) w cn sn = (kd w b = 5 ∧ catS st ≤ 8 ∧ wpD d 40 [.ref b, v0] w (fun v w' => wp d 47 Q 36 L (v.toList ++ st) w' cn sn)) := w_virtual (As := [v0]) d_47_33 (by decide +kernel : cT (mO 47) 32 = some (0, 40)) rfl (by decide +kernel) rfl (by decide +kernel) rfl
theorem d_47_36 : decode (mB 47) 36 = .ok (.bipush 44, 2) := by decide +kernel
theorem s_47_36 {d : Nat} {Q : wQ} {L : List (Option Value)} {st : List Value} {w : aw} {cn sn : Nat}  : wp d 47 Q 36 L st w cn sn = wp d 47 Q 38 L (.int 44 :: st) w cn sn := w_bipush d_47_36 (by decide)
theorem d_47_38 : decode (mB 47) 38 = .ok (.if_icmp .eq 5, 3) := by decide +kernel
theorem s_47_38 {d : Nat} {Q : wQ} {L : List (Option Value)} {st : List Value} {w : aw} {cn sn : Nat} {a b : Int32} : wp d 47 Q 38 L (.int b :: .int a :: st) w cn sn = ((a = b → wp d 47 Q 43 L st w cn sn) ∧ (¬ a = b → wp d 47 Q 41 L st w cn sn)) := w_iceq d_47_38 (by decide)
theorem d_47_41 : decode (mB 47) 41 = .ok (.iconst 0, 1) := by decide +kernel
theorem s_47_41 {d : Nat} {Q : wQ} {L : List (Option Value)} {st : List Value} {w : aw} {cn sn : Nat}  : wp d 47 Q 41 L st w cn sn = wp d 47 Q 42 L (.int 0 :: st) w cn sn := w_iconst d_47_41 (by decide)
theorem d_47_42 : decode (mB 47) 42 = .ok (.ireturn, 1) := by decide +kernel
theorem s_47_42 {d : Nat} {Q : wQ} {L : List (Option Value)} {w : aw} {cn sn : Nat} {v : Int32} : wp d 47 Q 42 L [.int v] w cn sn = (narrow .boolean (.int v) = .int v ∧ Q (some (.int v)) w) := w_zreturn d_47_42 rfl
theorem d_47_43 : decode (mB 47) 43 = .ok (.aload_n 0, 1) := by decide +kernel
theorem s_47_43 {d : Nat} {Q : wQ} {L : List (Option Value)} {st : List Value} {w : aw} {cn sn : Nat} {v : Nat} : wp d 47 Q 43 (some (.ref v) :: L) st w cn sn = wp d 47 Q 44 (some (.ref v) :: L) (.ref v :: st) w cn sn := w_aload_n d_47_43 rfl
theorem d_47_44 : decode (mB 47) 44 = .ok (.aload_n 0, 1) := by decide +kernel
theorem s_47_44 {d : Nat} {Q : wQ} {L : List (Option Value)} {st : List Value} {w : aw} {cn sn : Nat} {v : Nat} : wp d 47 Q 44 (some (.ref v) :: L) st w cn sn = wp d 47 Q 45 (some (.ref v) :: L) (.ref v :: st) w cn sn := w_aload_n d_47_44 rfl
theorem d_47_45 : decode (mB 47) 45 = .ok (.iload_n 1, 1) := by decide +kernel
theorem s_47_45 {d : Nat} {Q : wQ} {L : List (Option Value)} {st : List Value} {w : aw} {cn sn : Nat} {a0 : Option Value} {v : Int32} : wp d 47 Q 45 (a0 :: some (.int v) :: L) st w cn sn = wp d 47 Q 46 (a0 :: some (.int v) :: L) (.int v :: st) w cn sn := w_iload_n d_47_45 rfl
theorem d_47_46 : decode (mB 47) 46 = .ok (.iconst 1, 1) := by decide +kernel
theorem s_47_46 {d : Nat} {Q : wQ} {L : List (Option Value)} {st : List Value} {w : aw} {cn sn : Nat}  : wp d 47 Q 46 L st w cn sn = wp d 47 Q 47 L (.int 1 :: st) w cn sn := w_iconst d_47_46 (by decide)
theorem d_47_47 : decode (mB 47) 47 = .ok (.iadd, 1) := by decide +kernel
theorem s_47_47 {d : Nat} {Q : wQ} {L : List (Option Value)} {st : List Value} {w : aw} {cn sn : Nat} {a b : Int32} : wp d 47 Q 47 L (.int b :: .int a :: st) w cn sn = wp d 47 Q 48 L (.int (a + b) :: st) w cn sn := wp_row d_47_47 _ _ _ _ _
theorem d_47_48 : decode (mB 47) 48 = .ok (.invokevirtual 49, 3) := by decide +kernel
theorem s_47_48 {d : Nat} {Q : wQ} {L : List (Option Value)} {st : List Value} {w : aw} {cn sn : Nat} {v0 : Value} {b : Nat} : wp d 47 Q 48 L (v0 :: .ref b :: st) w cn sn = (kd w b = 5 ∧ catS st ≤ 8 ∧ wpD d 43 [.ref b, v0] w (fun v w' => wp d 47 Q 51 L (v.toList ++ st) w' cn sn)) := w_virtual (As := [v0]) d_47_48 (by decide +kernel : cT (mO 47) 49 = some (0, 43)) rfl (by decide +kernel) rfl (by decide +kernel) rfl
theorem d_47_51 : decode (mB 47) 51 = .ok (.putfield 52, 3) := by decide +kernel
theorem s_47_51 {d : Nat} {Q : wQ} {L : List (Option Value)} {st : List Value} {w : aw} {cn sn : Nat} {x : Int32} {a : Nat} : wp d 47 Q 51 L (.int x :: .ref a :: st) w cn sn = (kd w a = 5 ∧ wp d 47 Q 54 L st (uF w 258 a (.int x)) cn sn) := w_putfield d_47_51 (by decide +kernel : fT (mO 47) 52 = some (4, 2)) (by decide +kernel) ok_int
theorem d_47_54 : decode (mB 47) 54 = .ok (.iconst 1, 1) := by decide +kernel
theorem s_47_54 {d : Nat} {Q : wQ} {L : List (Option Value)} {st : List Value} {w : aw} {cn sn : Nat}  : wp d 47 Q 54 L st w cn sn = wp d 47 Q 55 L (.int 1 :: st) w cn sn := w_iconst d_47_54 (by decide)
theorem d_47_55 : decode (mB 47) 55 = .ok (.ireturn, 1) := by decide +kernel
theorem s_47_55 {d : Nat} {Q : wQ} {L : List (Option Value)} {w : aw} {cn sn : Nat} {v : Int32} : wp d 47 Q 55 L [.int v] w cn sn = (narrow .boolean (.int v) = .int v ∧ Q (some (.int v)) w) := w_zreturn d_47_55 rfl
theorem d_48_0 : decode (mB 48) 0 = .ok (.aload_n 0, 1) := by decide +kernel
theorem s_48_0 {d : Nat} {Q : wQ} {L : List (Option Value)} {st : List Value} {w : aw} {cn sn : Nat} {v : Nat} : wp d 48 Q 0 (some (.ref v) :: L) st w cn sn = wp d 48 Q 1 (some (.ref v) :: L) (.ref v :: st) w cn sn := w_aload_n d_48_0 rfl
theorem d_48_1 : decode (mB 48) 1 = .ok (.iload_n 1, 1) := by decide +kernel
theorem s_48_1 {d : Nat} {Q : wQ} {L : List (Option Value)} {st : List Value} {w : aw} {cn sn : Nat} {a0 : Option Value} {v : Int32} : wp d 48 Q 1 (a0 :: some (.int v) :: L) st w cn sn = wp d 48 Q 2 (a0 :: some (.int v) :: L) (.int v :: st) w cn sn := w_iload_n d_48_1 rfl
theorem d_48_2 : decode (mB 48) 2 = .ok (.putfield 66, 3) := by decide +kernel
theorem s_48_2 {d : Nat} {Q : wQ} {L : List (Option Value)} {st : List Value} {w : aw} {cn sn : Nat} {x : Int32} {a : Nat} : wp d 48 Q 2 L (.int x :: .ref a :: st) w cn sn = (kd w a = 5 ∧ wp d 48 Q 5 L st (uF w 260 a (.int x)) cn sn) := w_putfield d_48_2 (by decide +kernel : fT (mO 48) 66 = some (4, 4)) (by decide +kernel) ok_int
theorem d_48_5 : decode (mB 48) 5 = .ok (.aload_n 0, 1) := by decide +kernel
theorem s_48_5 {d : Nat} {Q : wQ} {L : List (Option Value)} {st : List Value} {w : aw} {cn sn : Nat} {v : Nat} : wp d 48 Q 5 (some (.ref v) :: L) st w cn sn = wp d 48 Q 6 (some (.ref v) :: L) (.ref v :: st) w cn sn := w_aload_n d_48_5 rfl
theorem d_48_6 : decode (mB 48) 6 = .ok (.iconst 0, 1) := by decide +kernel
theorem s_48_6 {d : Nat} {Q : wQ} {L : List (Option Value)} {st : List Value} {w : aw} {cn sn : Nat}  : wp d 48 Q 6 L st w cn sn = wp d 48 Q 7 L (.int 0 :: st) w cn sn := w_iconst d_48_6 (by decide)
theorem d_48_7 : decode (mB 48) 7 = .ok (.putfield 69, 3) := by decide +kernel
theorem s_48_7 {d : Nat} {Q : wQ} {L : List (Option Value)} {st : List Value} {w : aw} {cn sn : Nat} {x : Int32} {a : Nat} : wp d 48 Q 7 L (.int x :: .ref a :: st) w cn sn = (kd w a = 5 ∧ wp d 48 Q 10 L st (uF w 266 a (.int x)) cn sn) := w_putfield d_48_7 (by decide +kernel : fT (mO 48) 69 = some (4, 10)) (by decide +kernel) ok_int
theorem d_48_10 : decode (mB 48) 10 = .ok (.aload_n 0, 1) := by decide +kernel
theorem s_48_10 {d : Nat} {Q : wQ} {L : List (Option Value)} {st : List Value} {w : aw} {cn sn : Nat} {v : Nat} : wp d 48 Q 10 (some (.ref v) :: L) st w cn sn = wp d 48 Q 11 (some (.ref v) :: L) (.ref v :: st) w cn sn := w_aload_n d_48_10 rfl
theorem d_48_11 : decode (mB 48) 11 = .ok (.iconst 0, 1) := by decide +kernel
theorem s_48_11 {d : Nat} {Q : wQ} {L : List (Option Value)} {st : List Value} {w : aw} {cn sn : Nat}  : wp d 48 Q 11 L st w cn sn = wp d 48 Q 12 L (.int 0 :: st) w cn sn := w_iconst d_48_11 (by decide)
theorem d_48_12 : decode (mB 48) 12 = .ok (.putfield 72, 3) := by decide +kernel
theorem s_48_12 {d : Nat} {Q : wQ} {L : List (Option Value)} {st : List Value} {w : aw} {cn sn : Nat} {x : Int32} {a : Nat} : wp d 48 Q 12 L (.int x :: .ref a :: st) w cn sn = (kd w a = 5 ∧ okv .boolean (.int x) ∧ wp d 48 Q 15 L st (uF w 264 a (.int x)) cn sn) := w_putfieldC d_48_12 (by decide +kernel : fT (mO 48) 72 = some (4, 8)) (by decide +kernel)
theorem d_48_15 : decode (mB 48) 15 = .ok (.aload_n 0, 1) := by decide +kernel
theorem s_48_15 {d : Nat} {Q : wQ} {L : List (Option Value)} {st : List Value} {w : aw} {cn sn : Nat} {v : Nat} : wp d 48 Q 15 (some (.ref v) :: L) st w cn sn = wp d 48 Q 16 (some (.ref v) :: L) (.ref v :: st) w cn sn := w_aload_n d_48_15 rfl
theorem d_48_16 : decode (mB 48) 16 = .ok (.iconst 0, 1) := by decide +kernel
theorem s_48_16 {d : Nat} {Q : wQ} {L : List (Option Value)} {st : List Value} {w : aw} {cn sn : Nat}  : wp d 48 Q 16 L st w cn sn = wp d 48 Q 17 L (.int 0 :: st) w cn sn := w_iconst d_48_16 (by decide)
theorem d_48_17 : decode (mB 48) 17 = .ok (.putfield 76, 3) := by decide +kernel
theorem s_48_17 {d : Nat} {Q : wQ} {L : List (Option Value)} {st : List Value} {w : aw} {cn sn : Nat} {x : Int32} {a : Nat} : wp d 48 Q 17 L (.int x :: .ref a :: st) w cn sn = (kd w a = 5 ∧ okv .boolean (.int x) ∧ wp d 48 Q 20 L st (uF w 265 a (.int x)) cn sn) := w_putfieldC d_48_17 (by decide +kernel : fT (mO 48) 76 = some (4, 9)) (by decide +kernel)
theorem d_48_20 : decode (mB 48) 20 = .ok (.aload_n 0, 1) := by decide +kernel
theorem s_48_20 {d : Nat} {Q : wQ} {L : List (Option Value)} {st : List Value} {w : aw} {cn sn : Nat} {v : Nat} : wp d 48 Q 20 (some (.ref v) :: L) st w cn sn = wp d 48 Q 21 (some (.ref v) :: L) (.ref v :: st) w cn sn := w_aload_n d_48_20 rfl
theorem d_48_21 : decode (mB 48) 21 = .ok (.iconst 0, 1) := by decide +kernel
theorem s_48_21 {d : Nat} {Q : wQ} {L : List (Option Value)} {st : List Value} {w : aw} {cn sn : Nat}  : wp d 48 Q 21 L st w cn sn = wp d 48 Q 22 L (.int 0 :: st) w cn sn := w_iconst d_48_21 (by decide)
theorem d_48_22 : decode (mB 48) 22 = .ok (.putfield 79, 3) := by decide +kernel
theorem s_48_22 {d : Nat} {Q : wQ} {L : List (Option Value)} {st : List Value} {w : aw} {cn sn : Nat} {x : Int32} {a : Nat} : wp d 48 Q 22 L (.int x :: .ref a :: st) w cn sn = (kd w a = 5 ∧ okv .boolean (.int x) ∧ wp d 48 Q 25 L st (uF w 267 a (.int x)) cn sn) := w_putfieldC d_48_22 (by decide +kernel : fT (mO 48) 79 = some (4, 11)) (by decide +kernel)
theorem d_48_25 : decode (mB 48) 25 = .ok (.aload_n 0, 1) := by decide +kernel
theorem s_48_25 {d : Nat} {Q : wQ} {L : List (Option Value)} {st : List Value} {w : aw} {cn sn : Nat} {v : Nat} : wp d 48 Q 25 (some (.ref v) :: L) st w cn sn = wp d 48 Q 26 (some (.ref v) :: L) (.ref v :: st) w cn sn := w_aload_n d_48_25 rfl
theorem d_48_26 : decode (mB 48) 26 = .ok (.iconst 0, 1) := by decide +kernel
theorem s_48_26 {d : Nat} {Q : wQ} {L : List (Option Value)} {st : List Value} {w : aw} {cn sn : Nat}  : wp d 48 Q 26 L st w cn sn = wp d 48 Q 27 L (.int 0 :: st) w cn sn := w_iconst d_48_26 (by decide)
theorem d_48_27 : decode (mB 48) 27 = .ok (.putfield 82, 3) := by decide +kernel
theorem s_48_27 {d : Nat} {Q : wQ} {L : List (Option Value)} {st : List Value} {w : aw} {cn sn : Nat} {x : Int32} {a : Nat} : wp d 48 Q 27 L (.int x :: .ref a :: st) w cn sn = (kd w a = 5 ∧ okv .boolean (.int x) ∧ wp d 48 Q 30 L st (uF w 268 a (.int x)) cn sn) := w_putfieldC d_48_27 (by decide +kernel : fT (mO 48) 82 = some (4, 12)) (by decide +kernel)
theorem d_48_30 : decode (mB 48) 30 = .ok (.aload_n 0, 1) := by decide +kernel
theorem s_48_30 {d : Nat} {Q : wQ} {L : List (Option Value)} {st : List Value} {w : aw} {cn sn : Nat} {v : Nat} : wp d 48 Q 30 (some (.ref v) :: L) st w cn sn = wp d 48 Q 31 (some (.ref v) :: L) (.ref v :: st) w cn sn := w_aload_n d_48_30 rfl
theorem d_48_31 : decode (mB 48) 31 = .ok (.aload_n 0, 1) := by decide +kernel
theorem s_48_31 {d : Nat} {Q : wQ} {L : List (Option Value)} {st : List Value} {w : aw} {cn sn : Nat} {v : Nat} : wp d 48 Q 31 (some (.ref v) :: L) st w cn sn = wp d 48 Q 32 (some (.ref v) :: L) (.ref v :: st) w cn sn := w_aload_n d_48_31 rfl
theorem d_48_32 : decode (mB 48) 32 = .ok (.getfield 52, 3) := by decide +kernel
theorem s_48_32 {d : Nat} {Q : wQ} {L : List (Option Value)} {st : List Value} {w : aw} {cn sn : Nat} {a : Nat} : wp d 48 Q 32 L (.ref a :: st) w cn sn = (kd w a = 5 ∧ wp d 48 Q 35 L (fd w 258 a :: st) w cn sn) := w_getfield d_48_32 (by decide +kernel : fT (mO 48) 52 = some (4, 2))
theorem d_48_35 : decode (mB 48) 35 = .ok (.invokevirtual 55, 3) := by decide +kernel
theorem s_48_35 {d : Nat} {Q : wQ} {L : List (Option Value)} {st : List Value} {w : aw} {cn sn : Nat} {v0 : Value} {b : Nat} : wp d 48 Q 35 L (v0 :: .ref b :: st) w cn sn = (kd w b = 5 ∧ catS st ≤ 8 ∧ wpD d 44 [.ref b, v0] w (fun v w' => wp d 48 Q 38 L (v.toList ++ st) w' cn sn)) := w_virtual (As := [v0]) d_48_35 (by decide +kernel : cT (mO 48) 55 = some (0, 44)) rfl (by decide +kernel) rfl (by decide +kernel) rfl
theorem d_48_38 : decode (mB 48) 38 = .ok (.istore_n 2, 1) := by decide +kernel
theorem s_48_38 {d : Nat} {Q : wQ} {L : List (Option Value)} {st : List Value} {w : aw} {cn sn : Nat} {a0 a1 a2 : Option Value} {v : Int32} : wp d 48 Q 38 (a0 :: a1 :: a2 :: L) (.int v :: st) w cn sn = wp d 48 Q 39 (a0 :: clr a1 :: some (.int v) :: L) st w cn sn := w_istore_n d_48_38 (Nat.le_add_left 3 _) rfl
theorem d_48_39 : decode (mB 48) 39 = .ok (.aload_n 0, 1) := by decide +kernel
theorem s_48_39 {d : Nat} {Q : wQ} {L : List (Option Value)} {st : List Value} {w : aw} {cn sn : Nat} {v : Nat} : wp d 48 Q 39 (some (.ref v) :: L) st w cn sn = wp d 48 Q 40 (some (.ref v) :: L) (.ref v :: st) w cn sn := w_aload_n d_48_39 rfl
theorem d_48_40 : decode (mB 48) 40 = .ok (.aload_n 0, 1) := by decide +kernel
theorem s_48_40 {d : Nat} {Q : wQ} {L : List (Option Value)} {st : List Value} {w : aw} {cn sn : Nat} {v : Nat} : wp d 48 Q 40 (some (.ref v) :: L) st w cn sn = wp d 48 Q 41 (some (.ref v) :: L) (.ref v :: st) w cn sn := w_aload_n d_48_40 rfl
theorem d_48_41 : decode (mB 48) 41 = .ok (.aload_n 0, 1) := by decide +kernel
theorem s_48_41 {d : Nat} {Q : wQ} {L : List (Option Value)} {st : List Value} {w : aw} {cn sn : Nat} {v : Nat} : wp d 48 Q 41 (some (.ref v) :: L) st w cn sn = wp d 48 Q 42 (some (.ref v) :: L) (.ref v :: st) w cn sn := w_aload_n d_48_41 rfl
theorem d_48_42 : decode (mB 48) 42 = .ok (.getfield 52, 3) := by decide +kernel
theorem s_48_42 {d : Nat} {Q : wQ} {L : List (Option Value)} {st : List Value} {w : aw} {cn sn : Nat} {a : Nat} : wp d 48 Q 42 L (.ref a :: st) w cn sn = (kd w a = 5 ∧ wp d 48 Q 45 L (fd w 258 a :: st) w cn sn) := w_getfield d_48_42 (by decide +kernel : fT (mO 48) 52 = some (4, 2))
theorem d_48_45 : decode (mB 48) 45 = .ok (.iload_n 2, 1) := by decide +kernel
theorem s_48_45 {d : Nat} {Q : wQ} {L : List (Option Value)} {st : List Value} {w : aw} {cn sn : Nat} {a0 a1 : Option Value} {v : Int32} : wp d 48 Q 45 (a0 :: a1 :: some (.int v) :: L) st w cn sn = wp d 48 Q 46 (a0 :: a1 :: some (.int v) :: L) (.int v :: st) w cn sn := w_iload_n d_48_45 rfl
theorem d_48_46 : decode (mB 48) 46 = .ok (.invokevirtual 58, 3) := by decide +kernel
theorem s_48_46 {d : Nat} {Q : wQ} {L : List (Option Value)} {st : List Value} {w : aw} {cn sn : Nat} {v0 v1 : Value} {b : Nat} : wp d 48 Q 46 L (v1 :: v0 :: .ref b :: st) w cn sn = (kd w b = 5 ∧ catS st ≤ 8 ∧ wpD d 45 [.ref b, v0, v1] w (fun v w' => wp d 48 Q 49 L (v.toList ++ st) w' cn sn)) := w_virtual (As := [v0, v1]) d_48_46 (by decide +kernel : cT (mO 48) 58 = some (0, 45)) rfl (by decide +kernel) rfl (by decide +kernel) rfl
theorem d_48_49 : decode (mB 48) 49 = .ok (.putfield 62, 3) := by decide +kernel
theorem s_48_49 {d : Nat} {Q : wQ} {L : List (Option Value)} {st : List Value} {w : aw} {cn sn : Nat} {x : Int64} {a : Nat} : wp d 48 Q 49 L (.long x :: .ref a :: st) w cn sn = (kd w a = 5 ∧ wp d 48 Q 52 L st (uF w 262 a (.long x)) cn sn) := w_putfield d_48_49 (by decide +kernel : fT (mO 48) 62 = some (4, 6)) (by decide +kernel) ok_long
theorem d_48_52 : decode (mB 48) 52 = .ok (.aload_n 0, 1) := by decide +kernel
theorem s_48_52 {d : Nat} {Q : wQ} {L : List (Option Value)} {st : List Value} {w : aw} {cn sn : Nat} {v : Nat} : wp d 48 Q 52 (some (.ref v) :: L) st w cn sn = wp d 48 Q 53 (some (.ref v) :: L) (.ref v :: st) w cn sn := w_aload_n d_48_52 rfl
theorem d_48_53 : decode (mB 48) 53 = .ok (.aload_n 0, 1) := by decide +kernel
theorem s_48_53 {d : Nat} {Q : wQ} {L : List (Option Value)} {st : List Value} {w : aw} {cn sn : Nat} {v : Nat} : wp d 48 Q 53 (some (.ref v) :: L) st w cn sn = wp d 48 Q 54 (some (.ref v) :: L) (.ref v :: st) w cn sn := w_aload_n d_48_53 rfl
theorem d_48_54 : decode (mB 48) 54 = .ok (.getfield 15, 3) := by decide +kernel
theorem s_48_54 {d : Nat} {Q : wQ} {L : List (Option Value)} {st : List Value} {w : aw} {cn sn : Nat} {a : Nat} : wp d 48 Q 54 L (.ref a :: st) w cn sn = (kd w a = 5 ∧ wp d 48 Q 57 L (fd w 257 a :: st) w cn sn) := w_getfield d_48_54 (by decide +kernel : fT (mO 48) 15 = some (4, 1))
theorem d_48_57 : decode (mB 48) 57 = .ok (.aload_n 0, 1) := by decide +kernel
theorem s_48_57 {d : Nat} {Q : wQ} {L : List (Option Value)} {st : List Value} {w : aw} {cn sn : Nat} {v : Nat} : wp d 48 Q 57 (some (.ref v) :: L) st w cn sn = wp d 48 Q 58 (some (.ref v) :: L) (.ref v :: st) w cn sn := w_aload_n d_48_57 rfl
theorem d_48_58 : decode (mB 48) 58 = .ok (.getfield 62, 3) := by decide +kernel
theorem s_48_58 {d : Nat} {Q : wQ} {L : List (Option Value)} {st : List Value} {w : aw} {cn sn : Nat} {a : Nat} : wp d 48 Q 58 L (.ref a :: st) w cn sn = (kd w a = 5 ∧ wp d 48 Q 61 L (fd w 262 a :: st) w cn sn) := w_getfield d_48_58 (by decide +kernel : fT (mO 48) 62 = some (4, 6))
theorem d_48_61 : decode (mB 48) 61 = .ok (.invokevirtual 85, 3) := by decide +kernel
theorem s_48_61 {d : Nat} {Q : wQ} {L : List (Option Value)} {st : List Value} {w : aw} {cn sn : Nat} {v0 : Value} {b : Nat} : wp d 48 Q 61 L (v0 :: .ref b :: st) w cn sn = (kd w b = 4 ∧ catS st ≤ 8 ∧ wpD d 36 [.ref b, v0] w (fun v w' => wp d 48 Q 64 L (v.toList ++ st) w' cn sn)) := w_virtual (As := [v0]) d_48_61 (by decide +kernel : cT (mO 48) 85 = some (0, 36)) rfl (by decide +kernel) rfl (by decide +kernel) rfl
theorem d_48_64 : decode (mB 48) 64 = .ok (.putfield 89, 3) := by decide +kernel
theorem s_48_64 {d : Nat} {Q : wQ} {L : List (Option Value)} {st : List Value} {w : aw} {cn sn : Nat} {x : Int32} {a : Nat} : wp d 48 Q 64 L (.int x :: .ref a :: st) w cn sn = (kd w a = 5 ∧ wp d 48 Q 67 L st (uF w 263 a (.int x)) cn sn) := w_putfield d_48_64 (by decide +kernel : fT (mO 48) 89 = some (4, 7)) (by decide +kernel) ok_int
theorem d_48_67 : decode (mB 48) 67 = .ok (.aload_n 0, 1) := by decide +kernel
theorem s_48_67 {d : Nat} {Q : wQ} {L : List (Option Value)} {st : List Value} {w : aw} {cn sn : Nat} {v : Nat} : wp d 48 Q 67 (some (.ref v) :: L) st w cn sn = wp d 48 Q 68 (some (.ref v) :: L) (.ref v :: st) w cn sn := w_aload_n d_48_67 rfl
theorem d_48_68 : decode (mB 48) 68 = .ok (.getfield 52, 3) := by decide +kernel
theorem s_48_68 {d : Nat} {Q : wQ} {L : List (Option Value)} {st : List Value} {w : aw} {cn sn : Nat} {a : Nat} : wp d 48 Q 68 L (.ref a :: st) w cn sn = (kd w a = 5 ∧ wp d 48 Q 71 L (fd w 258 a :: st) w cn sn) := w_getfield d_48_68 (by decide +kernel : fT (mO 48) 52 = some (4, 2))
theorem d_48_71 : decode (mB 48) 71 = .ok (.aload_n 0, 1) := by decide +kernel
theorem s_48_71 {d : Nat} {Q : wQ} {L : List (Option Value)} {st : List Value} {w : aw} {cn sn : Nat} {v : Nat} : wp d 48 Q 71 (some (.ref v) :: L) st w cn sn = wp d 48 Q 72 (some (.ref v) :: L) (.ref v :: st) w cn sn := w_aload_n d_48_71 rfl
theorem d_48_72 : decode (mB 48) 72 = .ok (.getfield 19, 3) := by decide +kernel
theorem s_48_72 {d : Nat} {Q : wQ} {L : List (Option Value)} {st : List Value} {w : aw} {cn sn : Nat} {a : Nat} : wp d 48 Q 72 L (.ref a :: st) w cn sn = (kd w a = 5 ∧ wp d 48 Q 75 L (fd w 259 a :: st) w cn sn) := w_getfield d_48_72 (by decide +kernel : fT (mO 48) 19 = some (4, 3))
theorem d_48_75 : decode (mB 48) 75 = .ok (.if_icmp .lt 11, 3) := by decide +kernel
theorem s_48_75 {d : Nat} {Q : wQ} {L : List (Option Value)} {st : List Value} {w : aw} {cn sn : Nat} {a b : Int32} : wp d 48 Q 75 L (.int b :: .int a :: st) w cn sn = ((a < b → wp d 48 Q 86 L st w cn sn) ∧ (¬ a < b → wp d 48 Q 78 L st w cn sn)) := w_iclt d_48_75 (by decide)
theorem d_48_78 : decode (mB 48) 78 = .ok (.aload_n 0, 1) := by decide +kernel
theorem s_48_78 {d : Nat} {Q : wQ} {L : List (Option Value)} {st : List Value} {w : aw} {cn sn : Nat} {v : Nat} : wp d 48 Q 78 (some (.ref v) :: L) st w cn sn = wp d 48 Q 79 (some (.ref v) :: L) (.ref v :: st) w cn sn := w_aload_n d_48_78 rfl
theorem d_48_79 : decode (mB 48) 79 = .ok (.iconst 0, 1) := by decide +kernel
theorem s_48_79 {d : Nat} {Q : wQ} {L : List (Option Value)} {st : List Value} {w : aw} {cn sn : Nat}  : wp d 48 Q 79 L st w cn sn = wp d 48 Q 80 L (.int 0 :: st) w cn sn := w_iconst d_48_79 (by decide)
theorem d_48_80 : decode (mB 48) 80 = .ok (.putfield 92, 3) := by decide +kernel
theorem s_48_80 {d : Nat} {Q : wQ} {L : List (Option Value)} {st : List Value} {w : aw} {cn sn : Nat} {x : Int32} {a : Nat} : wp d 48 Q 80 L (.int x :: .ref a :: st) w cn sn = (kd w a = 5 ∧ wp d 48 Q 83 L st (uF w 261 a (.int x)) cn sn) := w_putfield d_48_80 (by decide +kernel : fT (mO 48) 92 = some (4, 5)) (by decide +kernel) ok_int
theorem d_48_83 : decode (mB 48) 83 = .ok (.goto 193, 3) := by decide +kernel
theorem s_48_83 {d : Nat} {Q : wQ} {L : List (Option Value)} {st : List Value} {w : aw} {cn sn : Nat}  : wp d 48 Q 83 L st w cn sn = wp d 48 Q 276 L st w cn sn := w_goto d_48_83 (by decide)
theorem d_48_86 : decode (mB 48) 86 = .ok (.aload_n 0, 1) := by decide +kernel
theorem s_48_86 {d : Nat} {Q : wQ} {L : List (Option Value)} {st : List Value} {w : aw} {cn sn : Nat} {v : Nat} : wp d 48 Q 86 (some (.ref v) :: L) st w cn sn = wp d 48 Q 87 (some (.ref v) :: L) (.ref v :: st) w cn sn := w_aload_n d_48_86 rfl
theorem d_48_87 : decode (mB 48) 87 = .ok (.aload_n 0, 1) := by decide +kernel
theorem s_48_87 {d : Nat} {Q : wQ} {L : List (Option Value)} {st : List Value} {w : aw} {cn sn : Nat} {v : Nat} : wp d 48 Q 87 (some (.ref v) :: L) st w cn sn = wp d 48 Q 88 (some (.ref v) :: L) (.ref v :: st) w cn sn := w_aload_n d_48_87 rfl
theorem d_48_88 : decode (mB 48) 88 = .ok (.getfield 52, 3) := by decide +kernel
theorem s_48_88 {d : Nat} {Q : wQ} {L : List (Option Value)} {st : List Value} {w : aw} {cn sn : Nat} {a : Nat} : wp d 48 Q 88 L (.ref a :: st) w cn sn = (kd w a = 5 ∧ wp d 48 Q 91 L (fd w 258 a :: st) w cn sn) := w_getfield d_48_88 (by decide +kernel : fT (mO 48) 52 = some (4, 2))
theorem d_48_91 : decode (mB 48) 91 = .ok (.invokevirtual 32, 3) := by decide +kernel
theorem s_48_91 {d : Nat} {Q : wQ} {L : List (Option Value)} {st : List Value} {w : aw} {cn sn : Nat} {v0 : Value} {b : Nat} : wp d 48 Q 91 L (v0 :: .ref b :: st) w cn sn = (kd w b = 5 ∧ catS st ≤ 8 ∧ wpD d 40 [.ref b, v0] w (fun v w' => wp d 48 Q 94 L (v.toList ++ st) w' cn sn)) := w_virtual (As := [v0]) d_48_91 (by decide +kernel : cT (mO 48) 32 = some (0, 40)) rfl (by decide +kernel) rfl (by decide +kernel) rfl
theorem d_48_94 : decode (mB 48) 94 = .ok (.bipush 42, 2) := by decide +kernel
theorem s_48_94 {d : Nat} {Q : wQ} {L : List (Option Value)} {st : List Value} {w : aw} {cn sn : Nat}  : wp d 48 Q 94 L st w cn sn = wp d 48 Q 96 L (.int 42 :: st) w cn sn := w_bipush d_48_94 (by decide)
theorem d_48_96 : decode (mB 48) 96 = .ok (.if_icmp .ne 33, 3) := by decide +kernel
theorem s_48_96 {d : Nat} {Q : wQ} {L : List (Option Value)} {st : List Value} {w : aw} {cn sn : Nat} {a b : Int32} : wp d 48 Q 96 L (.int b :: .int a :: st) w cn sn = ((¬ a = b → wp d 48 Q 129 L st w cn sn) ∧ (a = b → wp d 48 Q 99 L st w cn sn)) := w_icne d_48_96 (by decide)
theorem d_48_99 : decode (mB 48) 99 = .ok (.aload_n 0, 1) := by decide +kernel
theorem s_48_99 {d : Nat} {Q : wQ} {L : List (Option Value)} {st : List Value} {w : aw} {cn sn : Nat} {v : Nat} : wp d 48 Q 99 (some (.ref v) :: L) st w cn sn = wp d 48 Q 100 (some (.ref v) :: L) (.ref v :: st) w cn sn := w_aload_n d_48_99 rfl
theorem d_48_100 : decode (mB 48) 100 = .ok (.iconst 1, 1) := by decide +kernel
theorem s_48_100 {d : Nat} {Q : wQ} {L : List (Option Value)} {st : List Value} {w : aw} {cn sn : Nat}  : wp d 48 Q 100 L st w cn sn = wp d 48 Q 101 L (.int 1 :: st) w cn sn := w_iconst d_48_100 (by decide)
theorem d_48_101 : decode (mB 48) 101 = .ok (.putfield 92, 3) := by decide +kernel
theorem s_48_101 {d : Nat} {Q : wQ} {L : List (Option Value)} {st : List Value} {w : aw} {cn sn : Nat} {x : Int32} {a : Nat} : wp d 48 Q 101 L (.int x :: .ref a :: st) w cn sn = (kd w a = 5 ∧ wp d 48 Q 104 L st (uF w 261 a (.int x)) cn sn) := w_putfield d_48_101 (by decide +kernel : fT (mO 48) 92 = some (4, 5)) (by decide +kernel) ok_int
theorem d_48_104 : decode (mB 48) 104 = .ok (.aload_n 0, 1) := by decide +kernel
theorem s_48_104 {d : Nat} {Q : wQ} {L : List (Option Value)} {st : List Value} {w : aw} {cn sn : Nat} {v : Nat} : wp d 48 Q 104 (some (.ref v) :: L) st w cn sn = wp d 48 Q 105 (some (.ref v) :: L) (.ref v :: st) w cn sn := w_aload_n d_48_104 rfl
theorem d_48_105 : decode (mB 48) 105 = .ok (.aload_n 0, 1) := by decide +kernel
theorem s_48_105 {d : Nat} {Q : wQ} {L : List (Option Value)} {st : List Value} {w : aw} {cn sn : Nat} {v : Nat} : wp d 48 Q 105 (some (.ref v) :: L) st w cn sn = wp d 48 Q 106 (some (.ref v) :: L) (.ref v :: st) w cn sn := w_aload_n d_48_105 rfl
theorem d_48_106 : decode (mB 48) 106 = .ok (.aload_n 0, 1) := by decide +kernel
theorem s_48_106 {d : Nat} {Q : wQ} {L : List (Option Value)} {st : List Value} {w : aw} {cn sn : Nat} {v : Nat} : wp d 48 Q 106 (some (.ref v) :: L) st w cn sn = wp d 48 Q 107 (some (.ref v) :: L) (.ref v :: st) w cn sn := w_aload_n d_48_106 rfl
theorem d_48_107 : decode (mB 48) 107 = .ok (.getfield 52, 3) := by decide +kernel
theorem s_48_107 {d : Nat} {Q : wQ} {L : List (Option Value)} {st : List Value} {w : aw} {cn sn : Nat} {a : Nat} : wp d 48 Q 107 L (.ref a :: st) w cn sn = (kd w a = 5 ∧ wp d 48 Q 110 L (fd w 258 a :: st) w cn sn) := w_getfield d_48_107 (by decide +kernel : fT (mO 48) 52 = some (4, 2))
theorem d_48_110 : decode (mB 48) 110 = .ok (.iconst 1, 1) := by decide +kernel
theorem s_48_110 {d : Nat} {Q : wQ} {L : List (Option Value)} {st : List Value} {w : aw} {cn sn : Nat}  : wp d 48 Q 110 L st w cn sn = wp d 48 Q 111 L (.int 1 :: st) w cn sn := w_iconst d_48_110 (by decide)
theorem d_48_111 : decode (mB 48) 111 = .ok (.iadd, 1) := by decide +kernel
theorem s_48_111 {d : Nat} {Q : wQ} {L : List (Option Value)} {st : List Value} {w : aw} {cn sn : Nat} {a b : Int32} : wp d 48 Q 111 L (.int b :: .int a :: st) w cn sn = wp d 48 Q 112 L (.int (a + b) :: st) w cn sn := wp_row d_48_111 _ _ _ _ _
theorem d_48_112 : decode (mB 48) 112 = .ok (.invokevirtual 49, 3) := by decide +kernel
theorem s_48_112 {d : Nat} {Q : wQ} {L : List (Option Value)} {st : List Value} {w : aw} {cn sn : Nat} {v0 : Value} {b : Nat} : wp d 48 Q 112 L (v0 :: .ref b :: st) w cn sn = (kd w b = 5 ∧ catS st ≤ 8 ∧ wpD d 43 [.ref b, v0] w (fun v w' => wp d 48 Q 115 L (v.toList ++ st) w' cn sn)) := w_virtual (As := [v0]) d_48_112 (by decide +kernel : cT (mO 48) 49 = some (0, 43)) rfl (by decide +kernel) rfl (by decide +kernel) rfl
theorem d_48_115 : decode (mB 48) 115 = .ok (.putfield 52, 3) := by decide +kernel
theorem s_48_115 {d : Nat} {Q : wQ} {L : List (Option Value)} {st : List Value} {w : aw} {cn sn : Nat} {x : Int32} {a : Nat} : wp d 48 Q 115 L (.int x :: .ref a :: st) w cn sn = (kd w a = 5 ∧ wp d 48 Q 118 L st (uF w 258 a (.int x)) cn sn) := w_putfield d_48_115 (by decide +kernel : fT (mO 48) 52 = some (4, 2)) (by decide +kernel) ok_int
theorem d_48_118 : decode (mB 48) 118 = .ok (.aload_n 0, 1) := by decide +kernel
theorem s_48_118 {d : Nat} {Q : wQ} {L : List (Option Value)} {st : List Value} {w : aw} {cn sn : Nat} {v : Nat} : wp d 48 Q 118 (some (.ref v) :: L) st w cn sn = wp d 48 Q 119 (some (.ref v) :: L) (.ref v :: st) w cn sn := w_aload_n d_48_118 rfl
theorem d_48_119 : decode (mB 48) 119 = .ok (.aload_n 0, 1) := by decide +kernel
theorem s_48_119 {d : Nat} {Q : wQ} {L : List (Option Value)} {st : List Value} {w : aw} {cn sn : Nat} {v : Nat} : wp d 48 Q 119 (some (.ref v) :: L) st w cn sn = wp d 48 Q 120 (some (.ref v) :: L) (.ref v :: st) w cn sn := w_aload_n d_48_119 rfl
theorem d_48_120 : decode (mB 48) 120 = .ok (.invokevirtual 95, 3) := by decide +kernel
theorem s_48_120 {d : Nat} {Q : wQ} {L : List (Option Value)} {st : List Value} {w : aw} {cn sn : Nat} {b : Nat} : wp d 48 Q 120 L (.ref b :: st) w cn sn = (kd w b = 5 ∧ catS st ≤ 8 ∧ wpD d 53 [.ref b] w (fun v w' => wp d 48 Q 123 L (v.toList ++ st) w' cn sn)) := w_virtual (As := []) d_48_120 (by decide +kernel : cT (mO 48) 95 = some (0, 53)) rfl (by decide +kernel) rfl (by decide +kernel) rfl
theorem d_48_123 : decode (mB 48) 123 = .ok (.putfield 69, 3) := by decide +kernel
theorem s_48_123 {d : Nat} {Q : wQ} {L : List (Option Value)} {st : List Value} {w : aw} {cn sn : Nat} {x : Int32} {a : Nat} : wp d 48 Q 123 L (.int x :: .ref a :: st) w cn sn = (kd w a = 5 ∧ wp d 48 Q 126 L st (uF w 266 a (.int x)) cn sn) := w_putfield d_48_123 (by decide +kernel : fT (mO 48) 69 = some (4, 10)) (by decide +kernel) ok_int
theorem d_48_126 : decode (mB 48) 126 = .ok (.goto 150, 3) := by decide +kernel
theorem s_48_126 {d : Nat} {Q : wQ} {L : List (Option Value)} {st : List Value} {w : aw} {cn sn : Nat}  : wp d 48 Q 126 L st w cn sn = wp d 48 Q 276 L st w cn sn := w_goto d_48_126 (by decide)
theorem d_48_129 : decode (mB 48) 129 = .ok (.aload_n 0, 1) := by decide +kernel
theorem s_48_129 {d : Nat} {Q : wQ} {L : List (Option Value)} {st : List Value} {w : aw} {cn sn : Nat} {v : Nat} : wp d 48 Q 129 (some (.ref v) :: L) st w cn sn = wp d 48 Q 130 (some (.ref v) :: L) (.ref v :: st) w cn sn := w_aload_n d_48_129 rfl
theorem d_48_130 : decode (mB 48) 130 = .ok (.getfield 62, 3) := by decide +kernel
theorem s_48_130 {d : Nat} {Q : wQ} {L : List (Option Value)} {st : List Value} {w : aw} {cn sn : Nat} {a : Nat} : wp d 48 Q 130 L (.ref a :: st) w cn sn = (kd w a = 5 ∧ wp d 48 Q 133 L (fd w 262 a :: st) w cn sn) := w_getfield d_48_130 (by decide +kernel : fT (mO 48) 62 = some (4, 6))
theorem d_48_133 : decode (mB 48) 133 = .ok (.lconst 0, 1) := by decide +kernel
theorem s_48_133 {d : Nat} {Q : wQ} {L : List (Option Value)} {st : List Value} {w : aw} {cn sn : Nat}  : wp d 48 Q 133 L st w cn sn = wp d 48 Q 134 L (.long 0 :: st) w cn sn := w_lconst d_48_133 (by decide)
theorem d_48_134 : decode (mB 48) 134 = .ok (.lcmp, 1) := by decide +kernel
theorem s_48_134 {d : Nat} {Q : wQ} {L : List (Option Value)} {st : List Value} {w : aw} {cn sn : Nat} {a b : Int64} : wp d 48 Q 134 L (.long b :: .long a :: st) w cn sn = wp d 48 Q 135 L (.int (lg_cmp a b) :: st) w cn sn := wp_row d_48_134 _ _ _ _ _
theorem d_48_135 : decode (mB 48) 135 = .ok (.ifCond .eq 40, 3) := by decide +kernel
theorem s_48_135 {d : Nat} {Q : wQ} {L : List (Option Value)} {st : List Value} {w : aw} {cn sn : Nat} {x : Int32} : wp d 48 Q 135 L (.int x :: st) w cn sn = ((x = 0 → wp d 48 Q 175 L st w cn sn) ∧ (¬ x = 0 → wp d 48 Q 138 L st w cn sn)) := w_ifeq d_48_135 (by decide)
theorem d_48_138 : decode (mB 48) 138 = .ok (.aload_n 0, 1) := by decide +kernel
theorem s_48_138 {d : Nat} {Q : wQ} {L : List (Option Value)} {st : List Value} {w : aw} {cn sn : Nat} {v : Nat} : wp d 48 Q 138 (some (.ref v) :: L) st w cn sn = wp d 48 Q 139 (some (.ref v) :: L) (.ref v :: st) w cn sn := w_aload_n d_48_138 rfl
theorem d_48_139 : decode (mB 48) 139 = .ok (.iload_n 2, 1) := by decide +kernel
theorem s_48_139 {d : Nat} {Q : wQ} {L : List (Option Value)} {st : List Value} {w : aw} {cn sn : Nat} {a0 a1 : Option Value} {v : Int32} : wp d 48 Q 139 (a0 :: a1 :: some (.int v) :: L) st w cn sn = wp d 48 Q 140 (a0 :: a1 :: some (.int v) :: L) (.int v :: st) w cn sn := w_iload_n d_48_139 rfl
theorem d_48_140 : decode (mB 48) 140 = .ok (.invokevirtual 32, 3) := by decide +kernel
theorem s_48_140 {d : Nat} {Q : wQ} {L : List (Option Value)} {st : List Value} {w : aw} {cn sn : Nat} {v0 : Value} {b : Nat} : wp d 48 Q 140 L (v0 :: .ref b :: st) w cn sn = (kd w b = 5 ∧ catS st ≤ 8 ∧ wpD d 40 [.ref b, v0] w (fun v w' => wp d 48 Q 143 L (v.toList ++ st) w' cn sn)) := w_virtual (As := [v0]) d_48_140 (by decide +kernel : cT (mO 48) 32 = some (0, 40)) rfl (by decide +kernel) rfl (by decide +kernel) rfl
theorem d_48_143 : decode (mB 48) 143 = .ok (.bipush 61, 2) := by decide +kernel
theorem s_48_143 {d : Nat} {Q : wQ} {L : List (Option Value)} {st : List Value} {w : aw} {cn sn : Nat}  : wp d 48 Q 143 L st w cn sn = wp d 48 Q 145 L (.int 61 :: st) w cn sn := w_bipush d_48_143 (by decide)
theorem d_48_145 : decode (mB 48) 145 = .ok (.if_icmp .ne 30, 3) := by decide +kernel
theorem s_48_145 {d : Nat} {Q : wQ} {L : List (Option Value)} {st : List Value} {w : aw} {cn sn : Nat} {a b : Int32} : wp d 48 Q 145 L (.int b :: .int a :: st) w cn sn = ((¬ a = b → wp d 48 Q 175 L st w cn sn) ∧ (a = b → wp d 48 Q 148 L st w cn sn)) := w_icne d_48_145 (by decide)
theorem d_48_148 : decode (mB 48) 148 = .ok (.aload_n 0, 1) := by decide +kernel
theorem s_48_148 {d : Nat} {Q : wQ} {L : List (Option Value)} {st : List Value} {w : aw} {cn sn : Nat} {v : Nat} : wp d 48 Q 148 (some (.ref v) :: L) st w cn sn = wp d 48 Q 149 (some (.ref v) :: L) (.ref v :: st) w cn sn := w_aload_n d_48_148 rfl
theorem d_48_149 : decode (mB 48) 149 = .ok (.iconst 2, 1) := by decide +kernel
theorem s_48_149 {d : Nat} {Q : wQ} {L : List (Option Value)} {st : List Value} {w : aw} {cn sn : Nat}  : wp d 48 Q 149 L st w cn sn = wp d 48 Q 150 L (.int 2 :: st) w cn sn := w_iconst d_48_149 (by decide)
theorem d_48_150 : decode (mB 48) 150 = .ok (.putfield 92, 3) := by decide +kernel
theorem s_48_150 {d : Nat} {Q : wQ} {L : List (Option Value)} {st : List Value} {w : aw} {cn sn : Nat} {x : Int32} {a : Nat} : wp d 48 Q 150 L (.int x :: .ref a :: st) w cn sn = (kd w a = 5 ∧ wp d 48 Q 153 L st (uF w 261 a (.int x)) cn sn) := w_putfield d_48_150 (by decide +kernel : fT (mO 48) 92 = some (4, 5)) (by decide +kernel) ok_int
theorem d_48_153 : decode (mB 48) 153 = .ok (.aload_n 0, 1) := by decide +kernel
theorem s_48_153 {d : Nat} {Q : wQ} {L : List (Option Value)} {st : List Value} {w : aw} {cn sn : Nat} {v : Nat} : wp d 48 Q 153 (some (.ref v) :: L) st w cn sn = wp d 48 Q 154 (some (.ref v) :: L) (.ref v :: st) w cn sn := w_aload_n d_48_153 rfl
theorem d_48_154 : decode (mB 48) 154 = .ok (.aload_n 0, 1) := by decide +kernel
theorem s_48_154 {d : Nat} {Q : wQ} {L : List (Option Value)} {st : List Value} {w : aw} {cn sn : Nat} {v : Nat} : wp d 48 Q 154 (some (.ref v) :: L) st w cn sn = wp d 48 Q 155 (some (.ref v) :: L) (.ref v :: st) w cn sn := w_aload_n d_48_154 rfl
theorem d_48_155 : decode (mB 48) 155 = .ok (.iload_n 2, 1) := by decide +kernel
theorem s_48_155 {d : Nat} {Q : wQ} {L : List (Option Value)} {st : List Value} {w : aw} {cn sn : Nat} {a0 a1 : Option Value} {v : Int32} : wp d 48 Q 155 (a0 :: a1 :: some (.int v) :: L) st w cn sn = wp d 48 Q 156 (a0 :: a1 :: some (.int v) :: L) (.int v :: st) w cn sn := w_iload_n d_48_155 rfl
theorem d_48_156 : decode (mB 48) 156 = .ok (.iconst 1, 1) := by decide +kernel
theorem s_48_156 {d : Nat} {Q : wQ} {L : List (Option Value)} {st : List Value} {w : aw} {cn sn : Nat}  : wp d 48 Q 156 L st w cn sn = wp d 48 Q 157 L (.int 1 :: st) w cn sn := w_iconst d_48_156 (by decide)
theorem d_48_157 : decode (mB 48) 157 = .ok (.iadd, 1) := by decide +kernel
theorem s_48_157 {d : Nat} {Q : wQ} {L : List (Option Value)} {st : List Value} {w : aw} {cn sn : Nat} {a b : Int32} : wp d 48 Q 157 L (.int b :: .int a :: st) w cn sn = wp d 48 Q 158 L (.int (a + b) :: st) w cn sn := wp_row d_48_157 _ _ _ _ _
theorem d_48_158 : decode (mB 48) 158 = .ok (.invokevirtual 49, 3) := by decide +kernel
theorem s_48_158 {d : Nat} {Q : wQ} {L : List (Option Value)} {st : List Value} {w : aw} {cn sn : Nat} {v0 : Value} {b : Nat} : wp d 48 Q 158 L (v0 :: .ref b :: st) w cn sn = (kd w b = 5 ∧ catS st ≤ 8 ∧ wpD d 43 [.ref b, v0] w (fun v w' => wp d 48 Q 161 L (v.toList ++ st) w' cn sn)) := w_virtual (As := [v0]) d_48_158 (by decide +kernel : cT (mO 48) 49 = some (0, 43)) rfl (by decide +kernel) rfl (by decide +kernel) rfl
theorem d_48_161 : decode (mB 48) 161 = .ok (.putfield 52, 3) := by decide +kernel
theorem s_48_161 {d : Nat} {Q : wQ} {L : List (Option Value)} {st : List Value} {w : aw} {cn sn : Nat} {x : Int32} {a : Nat} : wp d 48 Q 161 L (.int x :: .ref a :: st) w cn sn = (kd w a = 5 ∧ wp d 48 Q 164 L st (uF w 258 a (.int x)) cn sn) := w_putfield d_48_161 (by decide +kernel : fT (mO 48) 52 = some (4, 2)) (by decide +kernel) ok_int
theorem d_48_164 : decode (mB 48) 164 = .ok (.aload_n 0, 1) := by decide +kernel
theorem s_48_164 {d : Nat} {Q : wQ} {L : List (Option Value)} {st : List Value} {w : aw} {cn sn : Nat} {v : Nat} : wp d 48 Q 164 (some (.ref v) :: L) st w cn sn = wp d 48 Q 165 (some (.ref v) :: L) (.ref v :: st) w cn sn := w_aload_n d_48_164 rfl
theorem d_48_165 : decode (mB 48) 165 = .ok (.aload_n 0, 1) := by decide +kernel
theorem s_48_165 {d : Nat} {Q : wQ} {L : List (Option Value)} {st : List Value} {w : aw} {cn sn : Nat} {v : Nat} : wp d 48 Q 165 (some (.ref v) :: L) st w cn sn = wp d 48 Q 166 (some (.ref v) :: L) (.ref v :: st) w cn sn := w_aload_n d_48_165 rfl
theorem d_48_166 : decode (mB 48) 166 = .ok (.invokevirtual 95, 3) := by decide +kernel
theorem s_48_166 {d : Nat} {Q : wQ} {L : List (Option Value)} {st : List Value} {w : aw} {cn sn : Nat} {b : Nat} : wp d 48 Q 166 L (.ref b :: st) w cn sn = (kd w b = 5 ∧ catS st ≤ 8 ∧ wpD d 53 [.ref b] w (fun v w' => wp d 48 Q 169 L (v.toList ++ st) w' cn sn)) := w_virtual (As := []) d_48_166 (by decide +kernel : cT (mO 48) 95 = some (0, 53)) rfl (by decide +kernel) rfl (by decide +kernel) rfl
theorem d_48_169 : decode (mB 48) 169 = .ok (.putfield 69, 3) := by decide +kernel
theorem s_48_169 {d : Nat} {Q : wQ} {L : List (Option Value)} {st : List Value} {w : aw} {cn sn : Nat} {x : Int32} {a : Nat} : wp d 48 Q 169 L (.int x :: .ref a :: st) w cn sn = (kd w a = 5 ∧ wp d 48 Q 172 L st (uF w 266 a (.int x)) cn sn) := w_putfield d_48_169 (by decide +kernel : fT (mO 48) 69 = some (4, 10)) (by decide +kernel) ok_int
theorem d_48_172 : decode (mB 48) 172 = .ok (.goto 104, 3) := by decide +kernel
theorem s_48_172 {d : Nat} {Q : wQ} {L : List (Option Value)} {st : List Value} {w : aw} {cn sn : Nat}  : wp d 48 Q 172 L st w cn sn = wp d 48 Q 276 L st w cn sn := w_goto d_48_172 (by decide)
theorem d_48_175 : decode (mB 48) 175 = .ok (.aload_n 0, 1) := by decide +kernel
theorem s_48_175 {d : Nat} {Q : wQ} {L : List (Option Value)} {st : List Value} {w : aw} {cn sn : Nat} {v : Nat} : wp d 48 Q 175 (some (.ref v) :: L) st w cn sn = wp d 48 Q 176 (some (.ref v) :: L) (.ref v :: st) w cn sn := w_aload_n d_48_175 rfl
theorem d_48_176 : decode (mB 48) 176 = .ok (.getfield 89, 3) := by decide +kernel
theorem s_48_176 {d : Nat} {Q : wQ} {L : List (Option Value)} {st : List Value} {w : aw} {cn sn : Nat} {a : Nat} : wp d 48 Q 176 L (.ref a :: st) w cn sn = (kd w a = 5 ∧ wp d 48 Q 179 L (fd w 263 a :: st) w cn sn) := w_getfield d_48_176 (by decide +kernel : fT (mO 48) 89 = some (4, 7))
theorem d_48_179 : decode (mB 48) 179 = .ok (.ifCond .lt 45, 3) := by decide +kernel
theorem s_48_179 {d : Nat} {Q : wQ} {L : List (Option Value)} {st : List Value} {w : aw} {cn sn : Nat} {x : Int32} : wp d 48 Q 179 L (.int x :: st) w cn sn = ((x < 0 → wp d 48 Q 224 L st w cn sn) ∧ (¬ x < 0 → wp d 48 Q 182 L st w cn sn)) := w_iflt d_48_179 (by decide)
theorem d_48_182 : decode (mB 48) 182 = .ok (.aload_n 0, 1) := by decide +kernel
theorem s_48_182 {d : Nat} {Q : wQ} {L : List (Option Value)} {st : List Value} {w : aw} {cn sn : Nat} {v : Nat} : wp d 48 Q 182 (some (.ref v) :: L) st w cn sn = wp d 48 Q 183 (some (.ref v) :: L) (.ref v :: st) w cn sn := w_aload_n d_48_182 rfl
theorem d_48_183 : decode (mB 48) 183 = .ok (.getfield 89, 3) := by decide +kernel
theorem s_48_183 {d : Nat} {Q : wQ} {L : List (Option Value)} {st : List Value} {w : aw} {cn sn : Nat} {a : Nat} : wp d 48 Q 183 L (.ref a :: st) w cn sn = (kd w a = 5 ∧ wp d 48 Q 186 L (fd w 263 a :: st) w cn sn) := w_getfield d_48_183 (by decide +kernel : fT (mO 48) 89 = some (4, 7))
theorem d_48_186 : decode (mB 48) 186 = .ok (.bipush 6, 2) := by decide +kernel
theorem s_48_186 {d : Nat} {Q : wQ} {L : List (Option Value)} {st : List Value} {w : aw} {cn sn : Nat}  : wp d 48 Q 186 L st w cn sn = wp d 48 Q 188 L (.int 6 :: st) w cn sn := w_bipush d_48_186 (by decide)
theorem d_48_188 : decode (mB 48) 188 = .ok (.if_icmp .ge 36, 3) := by decide +kernel
theorem s_48_188 {d : Nat} {Q : wQ} {L : List (Option Value)} {st : List Value} {w : aw} {cn sn : Nat} {a b : Int32} : wp d 48 Q 188 L (.int b :: .int a :: st) w cn sn = ((b ≤ a → wp d 48 Q 224 L st w cn sn) ∧ (¬ b ≤ a → wp d 48 Q 191 L st w cn sn)) := w_icge d_48_188 (by decide)
theorem d_48_191 : decode (mB 48) 191 = .ok (.aload_n 0, 1) := by decide +kernel
theorem s_48_191 {d : Nat} {Q : wQ} {L : List (Option Value)} {st : List Value} {w : aw} {cn sn : Nat} {v : Nat} : wp d 48 Q 191 (some (.ref v) :: L) st w cn sn = wp d 48 Q 192 (some (.ref v) :: L) (.ref v :: st) w cn sn := w_aload_n d_48_191 rfl
theorem d_48_192 : decode (mB 48) 192 = .ok (.iconst 3, 1) := by decide +kernel
theorem s_48_192 {d : Nat} {Q : wQ} {L : List (Option Value)} {st : List Value} {w : aw} {cn sn : Nat}  : wp d 48 Q 192 L st w cn sn = wp d 48 Q 193 L (.int 3 :: st) w cn sn := w_iconst d_48_192 (by decide)
theorem d_48_193 : decode (mB 48) 193 = .ok (.putfield 92, 3) := by decide +kernel
theorem s_48_193 {d : Nat} {Q : wQ} {L : List (Option Value)} {st : List Value} {w : aw} {cn sn : Nat} {x : Int32} {a : Nat} : wp d 48 Q 193 L (.int x :: .ref a :: st) w cn sn = (kd w a = 5 ∧ wp d 48 Q 196 L st (uF w 261 a (.int x)) cn sn) := w_putfield d_48_193 (by decide +kernel : fT (mO 48) 92 = some (4, 5)) (by decide +kernel) ok_int
theorem d_48_196 : decode (mB 48) 196 = .ok (.aload_n 0, 1) := by decide +kernel
theorem s_48_196 {d : Nat} {Q : wQ} {L : List (Option Value)} {st : List Value} {w : aw} {cn sn : Nat} {v : Nat} : wp d 48 Q 196 (some (.ref v) :: L) st w cn sn = wp d 48 Q 197 (some (.ref v) :: L) (.ref v :: st) w cn sn := w_aload_n d_48_196 rfl
theorem d_48_197 : decode (mB 48) 197 = .ok (.aload_n 0, 1) := by decide +kernel
theorem s_48_197 {d : Nat} {Q : wQ} {L : List (Option Value)} {st : List Value} {w : aw} {cn sn : Nat} {v : Nat} : wp d 48 Q 197 (some (.ref v) :: L) st w cn sn = wp d 48 Q 198 (some (.ref v) :: L) (.ref v :: st) w cn sn := w_aload_n d_48_197 rfl
theorem d_48_198 : decode (mB 48) 198 = .ok (.iload_n 2, 1) := by decide +kernel
theorem s_48_198 {d : Nat} {Q : wQ} {L : List (Option Value)} {st : List Value} {w : aw} {cn sn : Nat} {a0 a1 : Option Value} {v : Int32} : wp d 48 Q 198 (a0 :: a1 :: some (.int v) :: L) st w cn sn = wp d 48 Q 199 (a0 :: a1 :: some (.int v) :: L) (.int v :: st) w cn sn := w_iload_n d_48_198 rfl
theorem d_48_199 : decode (mB 48) 199 = .ok (.invokevirtual 49, 3) := by decide +kernel
theorem s_48_199 {d : Nat} {Q : wQ} {L : List (Option Value)} {st : List Value} {w : aw} {cn sn : Nat} {v0 : Value} {b : Nat} : wp d 48 Q 199 L (v0 :: .ref b :: st) w cn sn = (kd w b = 5 ∧ catS st ≤ 8 ∧ wpD d 43 [.ref b, v0] w (fun v w' => wp d 48 Q 202 L (v.toList ++ st) w' cn sn)) := w_virtual (As := [v0]) d_48_199 (by decide +kernel : cT (mO 48) 49 = some (0, 43)) rfl (by decide +kernel) rfl (by decide +kernel) rfl
theorem d_48_202 : decode (mB 48) 202 = .ok (.putfield 52, 3) := by decide +kernel
theorem s_48_202 {d : Nat} {Q : wQ} {L : List (Option Value)} {st : List Value} {w : aw} {cn sn : Nat} {x : Int32} {a : Nat} : wp d 48 Q 202 L (.int x :: .ref a :: st) w cn sn = (kd w a = 5 ∧ wp d 48 Q 205 L st (uF w 258 a (.int x)) cn sn) := w_putfield d_48_202 (by decide +kernel : fT (mO 48) 52 = some (4, 2)) (by decide +kernel) ok_int
theorem d_48_205 : decode (mB 48) 205 = .ok (.aload_n 0, 1) := by decide +kernel
theorem s_48_205 {d : Nat} {Q : wQ} {L : List (Option Value)} {st : List Value} {w : aw} {cn sn : Nat} {v : Nat} : wp d 48 Q 205 (some (.ref v) :: L) st w cn sn = wp d 48 Q 206 (some (.ref v) :: L) (.ref v :: st) w cn sn := w_aload_n d_48_205 rfl
theorem d_48_206 : decode (mB 48) 206 = .ok (.invokevirtual 99, 3) := by decide +kernel
theorem s_48_206 {d : Nat} {Q : wQ} {L : List (Option Value)} {st : List Value} {w : aw} {cn sn : Nat} {b : Nat} : wp d 48 Q 206 L (.ref b :: st) w cn sn = (kd w b = 5 ∧ catS st ≤ 8 ∧ wpD d 50 [.ref b] w (fun v w' => wp d 48 Q 209 L (v.toList ++ st) w' cn sn)) := w_virtual (As := []) d_48_206 (by decide +kernel : cT (mO 48) 99 = some (0, 50)) rfl (by decide +kernel) rfl (by decide +kernel) rfl
theorem d_48_209 : decode (mB 48) 209 = .ok (.aload_n 0, 1) := by decide +kernel
theorem s_48_209 {d : Nat} {Q : wQ} {L : List (Option Value)} {st : List Value} {w : aw} {cn sn : Nat} {v : Nat} : wp d 48 Q 209 (some (.ref v) :: L) st w cn sn = wp d 48 Q 210 (some (.ref v) :: L) (.ref v :: st) w cn sn := w_aload_n d_48_209 rfl
theorem d_48_210 : decode (mB 48) 210 = .ok (.aload_n 0, 1) := by decide +kernel
theorem s_48_210 {d : Nat} {Q : wQ} {L : List (Option Value)} {st : List Value} {w : aw} {cn sn : Nat} {v : Nat} : wp d 48 Q 210 (some (.ref v) :: L) st w cn sn = wp d 48 Q 211 (some (.ref v) :: L) (.ref v :: st) w cn sn := w_aload_n d_48_210 rfl
theorem d_48_211 : decode (mB 48) 211 = .ok (.invokevirtual 95, 3) := by decide +kernel
theorem s_48_211 {d : Nat} {Q : wQ} {L : List (Option Value)} {st : List Value} {w : aw} {cn sn : Nat} {b : Nat} : wp d 48 Q 211 L (.ref b :: st) w cn sn = (kd w b = 5 ∧ catS st ≤ 8 ∧ wpD d 53 [.ref b] w (fun v w' => wp d 48 Q 214 L (v.toList ++ st) w' cn sn)) := w_virtual (As := []) d_48_211 (by decide +kernel : cT (mO 48) 95 = some (0, 53)) rfl (by decide +kernel) rfl (by decide +kernel) rfl
theorem d_48_214 : decode (mB 48) 214 = .ok (.putfield 69, 3) := by decide +kernel
theorem s_48_214 {d : Nat} {Q : wQ} {L : List (Option Value)} {st : List Value} {w : aw} {cn sn : Nat} {x : Int32} {a : Nat} : wp d 48 Q 214 L (.int x :: .ref a :: st) w cn sn = (kd w a = 5 ∧ wp d 48 Q 217 L st (uF w 266 a (.int x)) cn sn) := w_putfield d_48_214 (by decide +kernel : fT (mO 48) 69 = some (4, 10)) (by decide +kernel) ok_int
theorem d_48_217 : decode (mB 48) 217 = .ok (.aload_n 0, 1) := by decide +kernel
theorem s_48_217 {d : Nat} {Q : wQ} {L : List (Option Value)} {st : List Value} {w : aw} {cn sn : Nat} {v : Nat} : wp d 48 Q 217 (some (.ref v) :: L) st w cn sn = wp d 48 Q 218 (some (.ref v) :: L) (.ref v :: st) w cn sn := w_aload_n d_48_217 rfl
theorem d_48_218 : decode (mB 48) 218 = .ok (.invokevirtual 102, 3) := by decide +kernel
theorem s_48_218 {d : Nat} {Q : wQ} {L : List (Option Value)} {st : List Value} {w : aw} {cn sn : Nat} {b : Nat} : wp d 48 Q 218 L (.ref b :: st) w cn sn = (kd w b = 5 ∧ catS st ≤ 8 ∧ wpD d 52 [.ref b] w (fun v w' => wp d 48 Q 221 L (v.toList ++ st) w' cn sn)) := w_virtual (As := []) d_48_218 (by decide +kernel : cT (mO 48) 102 = some (0, 52)) rfl (by decide +kernel) rfl (by decide +kernel) rfl
theorem d_48_221 : decode (mB 48) 221 = .ok (.goto 55, 3) := by decide +kernel
theorem s_48_221 {d : Nat} {Q : wQ} {L : List (Option Value)} {st : List Value} {w : aw} {cn sn : Nat}  : wp d 48 Q 221 L st w cn sn = wp d 48 Q 276 L st w cn sn := w_goto d_48_221 (by decide)
theorem d_48_224 : decode (mB 48) 224 = .ok (.aload_n 0, 1) := by decide +kernel
theorem s_48_224 {d : Nat} {Q : wQ} {L : List (Option Value)} {st : List Value} {w : aw} {cn sn : Nat} {v : Nat} : wp d 48 Q 224 (some (.ref v) :: L) st w cn sn = wp d 48 Q 225 (some (.ref v) :: L) (.ref v :: st) w cn sn := w_aload_n d_48_224 rfl
theorem d_48_225 : decode (mB 48) 225 = .ok (.iconst 4, 1) := by decide +kernel
theorem s_48_225 {d : Nat} {Q : wQ} {L : List (Option Value)} {st : List Value} {w : aw} {cn sn : Nat}  : wp d 48 Q 225 L st w cn sn = wp d 48 Q 226 L (.int 4 :: st) w cn sn := w_iconst d_48_225 (by decide)
theorem d_48_226 : decode (mB 48) 226 = .ok (.putfield 92, 3) := by decide +kernel
theorem s_48_226 {d : Nat} {Q : wQ} {L : List (Option Value)} {st : List Value} {w : aw} {cn sn : Nat} {x : Int32} {a : Nat} : wp d 48 Q 226 L (.int x :: .ref a :: st) w cn sn = (kd w a = 5 ∧ wp d 48 Q 229 L st (uF w 261 a (.int x)) cn sn) := w_putfield d_48_226 (by decide +kernel : fT (mO 48) 92 = some (4, 5)) (by decide +kernel) ok_int
theorem d_48_229 : decode (mB 48) 229 = .ok (.aload_n 0, 1) := by decide +kernel
theorem s_48_229 {d : Nat} {Q : wQ} {L : List (Option Value)} {st : List Value} {w : aw} {cn sn : Nat} {v : Nat} : wp d 48 Q 229 (some (.ref v) :: L) st w cn sn = wp d 48 Q 230 (some (.ref v) :: L) (.ref v :: st) w cn sn := w_aload_n d_48_229 rfl
theorem d_48_230 : decode (mB 48) 230 = .ok (.aload_n 0, 1) := by decide +kernel
theorem s_48_230 {d : Nat} {Q : wQ} {L : List (Option Value)} {st : List Value} {w : aw} {cn sn : Nat} {v : Nat} : wp d 48 Q 230 (some (.ref v) :: L) st w cn sn = wp d 48 Q 231 (some (.ref v) :: L) (.ref v :: st) w cn sn := w_aload_n d_48_230 rfl
theorem d_48_231 : decode (mB 48) 231 = .ok (.invokevirtual 95, 3) := by decide +kernel
theorem s_48_231 {d : Nat} {Q : wQ} {L : List (Option Value)} {st : List Value} {w : aw} {cn sn : Nat} {b : Nat} : wp d 48 Q 231 L (.ref b :: st) w cn sn = (kd w b = 5 ∧ catS st ≤ 8 ∧ wpD d 53 [.ref b] w (fun v w' => wp d 48 Q 234 L (v.toList ++ st) w' cn sn)) := w_virtual (As := []) d_48_231 (by decide +kernel : cT (mO 48) 95 = some (0, 53)) rfl (by decide +kernel) rfl (by decide +kernel) rfl
theorem d_48_234 : decode (mB 48) 234 = .ok (.putfield 69, 3) := by decide +kernel
theorem s_48_234 {d : Nat} {Q : wQ} {L : List (Option Value)} {st : List Value} {w : aw} {cn sn : Nat} {x : Int32} {a : Nat} : wp d 48 Q 234 L (.int x :: .ref a :: st) w cn sn = (kd w a = 5 ∧ wp d 48 Q 237 L st (uF w 266 a (.int x)) cn sn) := w_putfield d_48_234 (by decide +kernel : fT (mO 48) 69 = some (4, 10)) (by decide +kernel) ok_int
theorem d_48_237 : decode (mB 48) 237 = .ok (.aload_n 0, 1) := by decide +kernel
theorem s_48_237 {d : Nat} {Q : wQ} {L : List (Option Value)} {st : List Value} {w : aw} {cn sn : Nat} {v : Nat} : wp d 48 Q 237 (some (.ref v) :: L) st w cn sn = wp d 48 Q 238 (some (.ref v) :: L) (.ref v :: st) w cn sn := w_aload_n d_48_237 rfl
theorem d_48_238 : decode (mB 48) 238 = .ok (.getfield 52, 3) := by decide +kernel
theorem s_48_238 {d : Nat} {Q : wQ} {L : List (Option Value)} {st : List Value} {w : aw} {cn sn : Nat} {a : Nat} : wp d 48 Q 238 L (.ref a :: st) w cn sn = (kd w a = 5 ∧ wp d 48 Q 241 L (fd w 258 a :: st) w cn sn) := w_getfield d_48_238 (by decide +kernel : fT (mO 48) 52 = some (4, 2))
theorem d_48_241 : decode (mB 48) 241 = .ok (.istore_n 3, 1) := by decide +kernel
theorem s_48_241 {d : Nat} {Q : wQ} {L : List (Option Value)} {st : List Value} {w : aw} {cn sn : Nat} {a0 a1 a2 a3 : Option Value} {v : Int32} : wp d 48 Q 241 (a0 :: a1 :: a2 :: a3 :: L) (.int v :: st) w cn sn = wp d 48 Q 242 (a0 :: a1 :: clr a2 :: some (.int v) :: L) st w cn sn := w_istore_n d_48_241 (Nat.le_add_left 4 _) rfl
theorem d_48_242 : decode (mB 48) 242 = .ok (.iload_n 3, 1) := by decide +kernel
theorem s_48_242 {d : Nat} {Q : wQ} {L : List (Option Value)} {st : List Value} {w : aw} {cn sn : Nat} {a0 a1 a2 : Option Value} {v : Int32} : wp d 48 Q 242 (a0 :: a1 :: a2 :: some (.int v) :: L) st w cn sn = wp d 48 Q 243 (a0 :: a1 :: a2 :: some (.int v) :: L) (.int v :: st) w cn sn := w_iload_n d_48_242 rfl
theorem d_48_243 : decode (mB 48) 243 = .ok (.aload_n 0, 1) := by decide +kernel
theorem s_48_243 {d : Nat} {Q : wQ} {L : List (Option Value)} {st : List Value} {w : aw} {cn sn : Nat} {v : Nat} : wp d 48 Q 243 (some (.ref v) :: L) st w cn sn = wp d 48 Q 244 (some (.ref v) :: L) (.ref v :: st) w cn sn := w_aload_n d_48_243 rfl
theorem d_48_244 : decode (mB 48) 244 = .ok (.getfield 19, 3) := by decide +kernel
theorem s_48_244 {d : Nat} {Q : wQ} {L : List (Option Value)} {st : List Value} {w : aw} {cn sn : Nat} {a : Nat} : wp d 48 Q 244 L (.ref a :: st) w cn sn = (kd w a = 5 ∧ wp d 48 Q 247 L (fd w 259 a :: st) w cn sn) := w_getfield d_48_244 (by decide +kernel : fT (mO 48) 19 = some (4, 3))
theorem d_48_247 : decode (mB 48) 247 = .ok (.if_icmp .ge 29, 3) := by decide +kernel
theorem s_48_247 {d : Nat} {Q : wQ} {L : List (Option Value)} {st : List Value} {w : aw} {cn sn : Nat} {a b : Int32} : wp d 48 Q 247 L (.int b :: .int a :: st) w cn sn = ((b ≤ a → wp d 48 Q 276 L st w cn sn) ∧ (¬ b ≤ a → wp d 48 Q 250 L st w cn sn)) := w_icge d_48_247 (by decide)
theorem d_48_250 : decode (mB 48) 250 = .ok (.aload_n 0, 1) := by decide +kernel
theorem s_48_250 {d : Nat} {Q : wQ} {L : List (Option Value)} {st : List Value} {w : aw} {cn sn : Nat} {v : Nat} : wp d 48 Q 250 (some (.ref v) :: L) st w cn sn = wp d 48 Q 251 (some (.ref v) :: L) (.ref v :: st) w cn sn := w_aload_n d_48_250 rfl
theorem d_48_251 : decode (mB 48) 251 = .ok (.invokevirtual 105, 3) := by decide +kernel
theorem s_48_251 {d : Nat} {Q : wQ} {L : List (Option Value)} {st : List Value} {w : aw} {cn sn : Nat} {b : Nat} : wp d 48 Q 251 L (.ref b :: st) w cn sn = (kd w b = 5 ∧ catS st ≤ 8 ∧ wpD d 49 [.ref b] w (fun v w' => wp d 48 Q 254 L (v.toList ++ st) w' cn sn)) := w_virtual (As := []) d_48_251 (by decide +kernel : cT (mO 48) 105 = some (0, 49)) rfl (by decide +kernel) rfl (by decide +kernel) rfl
theorem d_48_254 : decode (mB 48) 254 = .ok (.ifCond .eq 22, 3) := by decide +kernel
theorem s_48_254 {d : Nat} {Q : wQ} {L : List (Option Value)} {st : List Value} {w : aw} {cn sn : Nat} {x : Int32} : wp d 48 Q 254 L (.int x :: st) w cn sn = ((x = 0 → wp d 48 Q 276 L st w cn sn) ∧ (¬ x = 0 → wp d 48 Q 257 L st w cn sn)) := w_ifeq d_48_254 (by decide)
theorem d_48_257 : decode (mB 48) 257 = .ok (.aload_n 0, 1) := by decide +kernel
theorem s_48_257 {d : Nat} {Q : wQ} {L : List (Option Value)} {st : List Value} {w : aw} {cn sn : Nat} {v : Nat} : wp d 48 Q 257 (some (.ref v) :: L) st w cn sn = wp d 48 Q 258 (some (.ref v) :: L) (.ref v :: st) w cn sn := w_aload_n d_48_257 rfl
theorem d_48_258 : decode (mB 48) 258 = .ok (.dup, 1) := by decide +kernel
theorem s_48_258 {d : Nat} {Q : wQ} {L : List (Option Value)} {st : List Value} {w : aw} {cn sn : Nat} {v : Value} : wp d 48 Q 258 L (v :: st) w cn sn = (v.category = 1 ∧ wp d 48 Q 259 L (v :: v :: st) w cn sn) := wp_row d_48_258 _ _ _ _ _
theorem d_48_259 : decode (mB 48) 259 = .ok (.getfield 69, 3) := by decide +kernel
theorem s_48_259 {d : Nat} {Q : wQ} {L : List (Option Value)} {st : List Value} {w : aw} {cn sn : Nat} {a : Nat} : wp d 48 Q 259 L (.ref a :: st) w cn sn = (kd w a = 5 ∧ wp d 48 Q 262 L (fd w 266 a :: st) w cn sn) := w_getfield d_48_259 (by decide +kernel : fT (mO 48) 69 = some (4, 10))
theorem d_48_262 : decode (mB 48) 262 = .ok (.aload_n 0, 1) := by decide +kernel
theorem s_48_262 {d : Nat} {Q : wQ} {L : List (Option Value)} {st : List Value} {w : aw} {cn sn : Nat} {v : Nat} : wp d 48 Q 262 (some (.ref v) :: L) st w cn sn = wp d 48 Q 263 (some (.ref v) :: L) (.ref v :: st) w cn sn := w_aload_n d_48_262 rfl
theorem d_48_263 : decode (mB 48) 263 = .ok (.invokevirtual 95, 3) := by decide +kernel
theorem s_48_263 {d : Nat} {Q : wQ} {L : List (Option Value)} {st : List Value} {w : aw} {cn sn : Nat} {b : Nat} : wp d 48 Q 263 L (.ref b :: st) w cn sn = (kd w b = 5 ∧ catS st ≤ 8 ∧ wpD d 53 [.ref b] w (fun v w' => wp d 48 Q 266 L (v.toList ++ st) w' cn sn)) := w_virtual (As := []) d_48_263 (by decide +kernel : cT (mO 48) 95 = some (0, 53)) rfl (by decide +kernel) rfl (by decide +kernel) rfl
theorem d_48_266 : decode (mB 48) 266 = .ok (.ior, 1) := by decide +kernel
theorem s_48_266 {d : Nat} {Q : wQ} {L : List (Option Value)} {st : List Value} {w : aw} {cn sn : Nat} {a b : Int32} : wp d 48 Q 266 L (.int b :: .int a :: st) w cn sn = wp d 48 Q 267 L (.int (a ||| b) :: st) w cn sn := wp_row d_48_266 _ _ _ _ _
theorem d_48_267 : decode (mB 48) 267 = .ok (.putfield 69, 3) := by decide +kernel
theorem s_48_267 {d : Nat} {Q : wQ} {L : List (Option Value)} {st : List Value} {w : aw} {cn sn : Nat} {x : Int32} {a : Nat} : wp d 48 Q 267 L (.int x :: .ref a :: st) w cn sn = (kd w a = 5 ∧ wp d 48 Q 270 L st (uF w 266 a (.int x)) cn sn) := w_putfield d_48_267 (by decide +kernel : fT (mO 48) 69 = some (4, 10)) (by decide +kernel) ok_int
theorem d_48_270 : decode (mB 48) 270 = .ok (.iinc 3 1, 3) := by decide +kernel
theorem s_48_270 {d : Nat} {Q : wQ} {L : List (Option Value)} {st : List Value} {w : aw} {cn sn : Nat} {a0 a1 a2 : Option Value} {v : Int32} : wp d 48 Q 270 (a0 :: a1 :: a2 :: some (.int v) :: L) st w cn sn = wp d 48 Q 273 (a0 :: a1 :: clr a2 :: some (.int (v + 1)) :: L) st w cn sn := w_iinc d_48_270 rfl (by decide) rfl
theorem d_48_273 : decode (mB 48) 273 = .ok (.goto (-31), 3) := by decide +kernel
theorem s_48_273 {d : Nat} {Q : wQ} {L : List (Option Value)} {st : List Value} {w : aw} {cn sn : Nat}  : wp d 48 Q 273 L st w cn sn = wp d 48 Q 242 L st w cn sn := w_goto d_48_273 (by decide)
theorem d_48_276 : decode (mB 48) 276 = .ok (.aload_n 0, 1) := by decide +kernel
theorem s_48_276 {d : Nat} {Q : wQ} {L : List (Option Value)} {st : List Value} {w : aw} {cn sn : Nat} {v : Nat} : wp d 48 Q 276 (some (.ref v) :: L) st w cn sn = wp d 48 Q 277 (some (.ref v) :: L) (.ref v :: st) w cn sn := w_aload_n d_48_276 rfl
theorem d_48_277 : decode (mB 48) 277 = .ok (.dup, 1) := by decide +kernel
theorem s_48_277 {d : Nat} {Q : wQ} {L : List (Option Value)} {st : List Value} {w : aw} {cn sn : Nat} {v : Value} : wp d 48 Q 277 L (v :: st) w cn sn = (v.category = 1 ∧ wp d 48 Q 278 L (v :: v :: st) w cn sn) := wp_row d_48_277 _ _ _ _ _
theorem d_48_278 : decode (mB 48) 278 = .ok (.getfield 79, 3) := by decide +kernel
theorem s_48_278 {d : Nat} {Q : wQ} {L : List (Option Value)} {st : List Value} {w : aw} {cn sn : Nat} {a : Nat} : wp d 48 Q 278 L (.ref a :: st) w cn sn = (kd w a = 5 ∧ wp d 48 Q 281 L (fd w 267 a :: st) w cn sn) := w_getfield d_48_278 (by decide +kernel : fT (mO 48) 79 = some (4, 11))
theorem d_48_281 : decode (mB 48) 281 = .ok (.aload_n 0, 1) := by decide +kernel
theorem s_48_281 {d : Nat} {Q : wQ} {L : List (Option Value)} {st : List Value} {w : aw} {cn sn : Nat} {v : Nat} : wp d 48 Q 281 (some (.ref v) :: L) st w cn sn = wp d 48 Q 282 (some (.ref v) :: L) (.ref v :: st) w cn sn := w_aload_n d_48_281 rfl
theorem d_48_282 : decode (mB 48) 282 = .ok (.aload_n 0, 1) := by decide +kernel
theorem s_48_282 {d : Nat} {Q : wQ} {L : List (Option Value)} {st : List Value} {w : aw} {cn sn : Nat} {v : Nat} : wp d 48 Q 282 (some (.ref v) :: L) st w cn sn = wp d 48 Q 283 (some (.ref v) :: L) (.ref v :: st) w cn sn := w_aload_n d_48_282 rfl
theorem d_48_283 : decode (mB 48) 283 = .ok (.getfield 52, 3) := by decide +kernel
theorem s_48_283 {d : Nat} {Q : wQ} {L : List (Option Value)} {st : List Value} {w : aw} {cn sn : Nat} {a : Nat} : wp d 48 Q 283 L (.ref a :: st) w cn sn = (kd w a = 5 ∧ wp d 48 Q 286 L (fd w 258 a :: st) w cn sn) := w_getfield d_48_283 (by decide +kernel : fT (mO 48) 52 = some (4, 2))
theorem d_48_286 : decode (mB 48) 286 = .ok (.invokevirtual 49, 3) := by decide +kernel
theorem s_48_286 {d : Nat} {Q : wQ} {L : List (Option Value)} {st : List Value} {w : aw} {cn sn : Nat} {v0 : Value} {b : Nat} : wp d 48 Q 286 L (v0 :: .ref b :: st) w cn sn = (kd w b = 5 ∧ catS st ≤ 8 ∧ wpD d 43 [.ref b, v0] w (fun v w' => wp d 48 Q 289 L (v.toList ++ st) w' cn sn)) := w_virtual (As := [v0]) d_48_286 (by decide +kernel : cT (mO 48) 49 = some (0, 43)) rfl (by decide +kernel) rfl (by decide +kernel) rfl
theorem d_48_289 : decode (mB 48) 289 = .ok (.aload_n 0, 1) := by decide +kernel
theorem s_48_289 {d : Nat} {Q : wQ} {L : List (Option Value)} {st : List Value} {w : aw} {cn sn : Nat} {v : Nat} : wp d 48 Q 289 (some (.ref v) :: L) st w cn sn = wp d 48 Q 290 (some (.ref v) :: L) (.ref v :: st) w cn sn := w_aload_n d_48_289 rfl
theorem d_48_290 : decode (mB 48) 290 = .ok (.getfield 19, 3) := by decide +kernel
theorem s_48_290 {d : Nat} {Q : wQ} {L : List (Option Value)} {st : List Value} {w : aw} {cn sn : Nat} {a : Nat} : wp d 48 Q 290 L (.ref a :: st) w cn sn = (kd w a = 5 ∧ wp d 48 Q 293 L (fd w 259 a :: st) w cn sn) := w_getfield d_48_290 (by decide +kernel : fT (mO 48) 19 = some (4, 3))
theorem d_48_293 : decode (mB 48) 293 = .ok (.if_icmp .ge 7, 3) := by decide +kernel
theorem s_48_293 {d : Nat} {Q : wQ} {L : List (Option Value)} {st : List Value} {w : aw} {cn sn : Nat} {a b : Int32} : wp d 48 Q 293 L (.int b :: .int a :: st) w cn sn = ((b ≤ a → wp d 48 Q 300 L st w cn sn) ∧ (¬ b ≤ a → wp d 48 Q 296 L st w cn sn)) := w_icge d_48_293 (by decide)
theorem d_48_296 : decode (mB 48) 296 = .ok (.iconst 1, 1) := by decide +kernel
theorem s_48_296 {d : Nat} {Q : wQ} {L : List (Option Value)} {st : List Value} {w : aw} {cn sn : Nat}  : wp d 48 Q 296 L st w cn sn = wp d 48 Q 297 L (.int 1 :: st) w cn sn := w_iconst d_48_296 (by decide)
theorem d_48_297 : decode (mB 48) 297 = .ok (.goto 4, 3) := by decide +kernel
theorem s_48_297 {d : Nat} {Q : wQ} {L : List (Option Value)} {st : List Value} {w : aw} {cn sn : Nat}  : wp d 48 Q 297 L st w cn sn = wp d 48 Q 301 L st w cn sn := w_goto d_48_297 (by decide)
theorem d_48_300 : decode (mB 48) 300 = .ok (.iconst 0, 1) := by decide +kernel
theorem s_48_300 {d : Nat} {Q : wQ} {L : List (Option Value)} {st : List Value} {w : aw} {cn sn : Nat}  : wp d 48 Q 300 L st w cn sn = wp d 48 Q 301 L (.int 0 :: st) w cn sn := w_iconst d_48_300 (by decide)
theorem d_48_301 : decode (mB 48) 301 = .ok (.ior, 1) := by decide +kernel
theorem s_48_301 {d : Nat} {Q : wQ} {L : List (Option Value)} {st : List Value} {w : aw} {cn sn : Nat} {a b : Int32} : wp d 48 Q 301 L (.int b :: .int a :: st) w cn sn = wp d 48 Q 302 L (.int (a ||| b) :: st) w cn sn := wp_row d_48_301 _ _ _ _ _
theorem d_48_302 : decode (mB 48) 302 = .ok (.putfield 79, 3) := by decide +kernel
theorem s_48_302 {d : Nat} {Q : wQ} {L : List (Option Value)} {st : List Value} {w : aw} {cn sn : Nat} {x : Int32} {a : Nat} : wp d 48 Q 302 L (.int x :: .ref a :: st) w cn sn = (kd w a = 5 ∧ okv .boolean (.int x) ∧ wp d 48 Q 305 L st (uF w 267 a (.int x)) cn sn) := w_putfieldC d_48_302 (by decide +kernel : fT (mO 48) 79 = some (4, 11)) (by decide +kernel)
theorem d_48_305 : decode (mB 48) 305 = .ok (.return_, 1) := by decide +kernel
theorem s_48_305 {d : Nat} {Q : wQ} {L : List (Option Value)} {w : aw} {cn sn : Nat}  : wp d 48 Q 305 L [] w cn sn = Q none w := w_return d_48_305 rfl
theorem d_49_0 : decode (mB 49) 0 = .ok (.aload_n 0, 1) := by decide +kernel
theorem s_49_0 {d : Nat} {Q : wQ} {L : List (Option Value)} {st : List Value} {w : aw} {cn sn : Nat} {v : Nat} : wp d 49 Q 0 (some (.ref v) :: L) st w cn sn = wp d 49 Q 1 (some (.ref v) :: L) (.ref v :: st) w cn sn := w_aload_n d_49_0 rfl
theorem d_49_1 : decode (mB 49) 1 = .ok (.aload_n 0, 1) := by decide +kernel
theorem s_49_1 {d : Nat} {Q : wQ} {L : List (Option Value)} {st : List Value} {w : aw} {cn sn : Nat} {v : Nat} : wp d 49 Q 1 (some (.ref v) :: L) st w cn sn = wp d 49 Q 2 (some (.ref v) :: L) (.ref v :: st) w cn sn := w_aload_n d_49_1 rfl
theorem d_49_2 : decode (mB 49) 2 = .ok (.getfield 52, 3) := by decide +kernel
theorem s_49_2 {d : Nat} {Q : wQ} {L : List (Option Value)} {st : List Value} {w : aw} {cn sn : Nat} {a : Nat} : wp d 49 Q 2 L (.ref a :: st) w cn sn = (kd w a = 5 ∧ wp d 49 Q 5 L (fd w 258 a :: st) w cn sn) := w_getfield d_49_2 (by decide +kernel : fT (mO 49) 52 = some (4, 2))
theorem d_49_5 : decode (mB 49) 5 = .ok (.invokevirtual 49, 3) := by decide +kernel
theorem s_49_5 {d : Nat} {Q : wQ} {L : List (Option Value)} {st : List Value} {w : aw} {cn sn : Nat} {v0 : Value} {b : Nat} : wp d 49 Q 5 L (v0 :: .ref b :: st) w cn sn = (kd w b = 5 ∧ catS st ≤ 8 ∧ wpD d 43 [.ref b, v0] w (fun v w' => wp d 49 Q 8 L (v.toList ++ st) w' cn sn)) := w_virtual (As := [v0]) d_49_5 (by decide +kernel : cT (mO 49) 49 = some (0, 43)) rfl (by decide +kernel) rfl (by decide +kernel) rfl
theorem d_49_8 : decode (mB 49) 8 = .ok (.istore_n 1, 1) := by decide +kernel
theorem s_49_8 {d : Nat} {Q : wQ} {L : List (Option Value)} {st : List Value} {w : aw} {cn sn : Nat} {a0 a1 : Option Value} {v : Int32} : wp d 49 Q 8 (a0 :: a1 :: L) (.int v :: st) w cn sn = wp d 49 Q 9 (clr a0 :: some (.int v) :: L) st w cn sn := w_istore_n d_49_8 (Nat.le_add_left 2 _) rfl
theorem d_49_9 : decode (mB 49) 9 = .ok (.aload_n 0, 1) := by decide +kernel
theorem s_49_9 {d : Nat} {Q : wQ} {L : List (Option Value)} {st : List Value} {w : aw} {cn sn : Nat} {v : Nat} : wp d 49 Q 9 (some (.ref v) :: L) st w cn sn = wp d 49 Q 10 (some (.ref v) :: L) (.ref v :: st) w cn sn := w_aload_n d_49_9 rfl
theorem d_49_10 : decode (mB 49) 10 = .ok (.getfield 79, 3) := by decide +kernel
theorem s_49_10 {d : Nat} {Q : wQ} {L : List (Option Value)} {st : List Value} {w : aw} {cn sn : Nat} {a : Nat} : wp d 49 Q 10 L (.ref a :: st) w cn sn = (kd w a = 5 ∧ wp d 49 Q 13 L (fd w 267 a :: st) w cn sn) := w_getfield d_49_10 (by decide +kernel : fT (mO 49) 79 = some (4, 11))
theorem d_49_13 : decode (mB 49) 13 = .ok (.ifCond .ne 19, 3) := by decide +kernel
theorem s_49_13 {d : Nat} {Q : wQ} {L : List (Option Value)} {st : List Value} {w : aw} {cn sn : Nat} {x : Int32} : wp d 49 Q 13 L (.int x :: st) w cn sn = ((¬ x = 0 → wp d 49 Q 32 L st w cn sn) ∧ (x = 0 → wp d 49 Q 16 L st w cn sn)) := w_ifne d_49_13 (by decide)
theorem d_49_16 : decode (mB 49) 16 = .ok (.iload_n 1, 1) := by decide +kernel
theorem s_49_16 {d : Nat} {Q : wQ} {L : List (Option Value)} {st : List Value} {w : aw} {cn sn : Nat} {a0 : Option Value} {v : Int32} : wp d 49 Q 16 (a0 :: some (.int v) :: L) st w cn sn = wp d 49 Q 17 (a0 :: some (.int v) :: L) (.int v :: st) w cn sn := w_iload_n d_49_16 rfl
theorem d_49_17 : decode (mB 49) 17 = .ok (.aload_n 0, 1) := by decide +kernel
theorem s_49_17 {d : Nat} {Q : wQ} {L : List (Option Value)} {st : List Value} {w : aw} {cn sn : Nat} {v : Nat} : wp d 49 Q 17 (some (.ref v) :: L) st w cn sn = wp d 49 Q 18 (some (.ref v) :: L) (.ref v :: st) w cn sn := w_aload_n d_49_17 rfl
theorem d_49_18 : decode (mB 49) 18 = .ok (.getfield 52, 3) := by decide +kernel
theorem s_49_18 {d : Nat} {Q : wQ} {L : List (Option Value)} {st : List Value} {w : aw} {cn sn : Nat} {a : Nat} : wp d 49 Q 18 L (.ref a :: st) w cn sn = (kd w a = 5 ∧ wp d 49 Q 21 L (fd w 258 a :: st) w cn sn) := w_getfield d_49_18 (by decide +kernel : fT (mO 49) 52 = some (4, 2))
theorem d_49_21 : decode (mB 49) 21 = .ok (.if_icmp .eq 11, 3) := by decide +kernel
theorem s_49_21 {d : Nat} {Q : wQ} {L : List (Option Value)} {st : List Value} {w : aw} {cn sn : Nat} {a b : Int32} : wp d 49 Q 21 L (.int b :: .int a :: st) w cn sn = ((a = b → wp d 49 Q 32 L st w cn sn) ∧ (¬ a = b → wp d 49 Q 24 L st w cn sn)) := w_iceq d_49_21 (by decide)
theorem d_49_24 : decode (mB 49) 24 = .ok (.iload_n 1, 1) := by decide +kernel
theorem s_49_24 {d : Nat} {Q : wQ} {L : List (Option Value)} {st : List Value} {w : aw} {cn sn : Nat} {a0 : Option Value} {v : Int32} : wp d 49 Q 24 (a0 :: some (.int v) :: L) st w cn sn = wp d 49 Q 25 (a0 :: some (.int v) :: L) (.int v :: st) w cn sn := w_iload_n d_49_24 rfl
theorem d_49_25 : decode (mB 49) 25 = .ok (.aload_n 0, 1) := by decide +kernel
theorem s_49_25 {d : Nat} {Q : wQ} {L : List (Option Value)} {st : List Value} {w : aw} {cn sn : Nat} {v : Nat} : wp d 49 Q 25 (some (.ref v) :: L) st w cn sn = wp d 49 Q 26 (some (.ref v) :: L) (.ref v :: st) w cn sn := w_aload_n d_49_25 rfl
theorem d_49_26 : decode (mB 49) 26 = .ok (.getfield 19, 3) := by decide +kernel
theorem s_49_26 {d : Nat} {Q : wQ} {L : List (Option Value)} {st : List Value} {w : aw} {cn sn : Nat} {a : Nat} : wp d 49 Q 26 L (.ref a :: st) w cn sn = (kd w a = 5 ∧ wp d 49 Q 29 L (fd w 259 a :: st) w cn sn) := w_getfield d_49_26 (by decide +kernel : fT (mO 49) 19 = some (4, 3))
theorem d_49_29 : decode (mB 49) 29 = .ok (.if_icmp .lt 5, 3) := by decide +kernel
theorem s_49_29 {d : Nat} {Q : wQ} {L : List (Option Value)} {st : List Value} {w : aw} {cn sn : Nat} {a b : Int32} : wp d 49 Q 29 L (.int b :: .int a :: st) w cn sn = ((a < b → wp d 49 Q 34 L st w cn sn) ∧ (¬ a < b → wp d 49 Q 32 L st w cn sn)) := w_iclt d_49_29 (by decide)
theorem d_49_32 : decode (mB 49) 32 = .ok (.iconst 0, 1) := by decide +kernel
theorem s_49_32 {d : Nat} {Q : wQ} {L : List (Option Value)} {st : List Value} {w : aw} {cn sn : Nat}  : wp d 49 Q 32 L st w cn sn = wp d 49 Q 33 L (.int 0 :: st) w cn sn := w_iconst d_49_32 (by decide)
theorem d_49_33 : decode (mB 49) 33 = .ok (.ireturn, 1) := by decide +kernel
theorem s_49_33 {d : Nat} {Q : wQ} {L : List (Option Value)} {w : aw} {cn sn : Nat} {v : Int32} : wp d 49 Q 33 L [.int v] w cn sn = (narrow .boolean (.int v) = .int v ∧ Q (some (.int v)) w) := w_zreturn d_49_33 rfl
theorem d_49_34 : decode (mB 49) 34 = .ok (.aload_n 0, 1) := by decide +kernel
theorem s_49_34 {d : Nat} {Q : wQ} {L : List (Option Value)} {st : List Value} {w : aw} {cn sn : Nat} {v : Nat} : wp d 49 Q 34 (some (.ref v) :: L) st w cn sn = wp d 49 Q 35 (some (.ref v) :: L) (.ref v :: st) w cn sn := w_aload_n d_49_34 rfl
theorem d_49_35 : decode (mB 49) 35 = .ok (.iload_n 1, 1) := by decide +kernel
theorem s_49_35 {d : Nat} {Q : wQ} {L : List (Option Value)} {st : List Value} {w : aw} {cn sn : Nat} {a0 : Option Value} {v : Int32} : wp d 49 Q 35 (a0 :: some (.int v) :: L) st w cn sn = wp d 49 Q 36 (a0 :: some (.int v) :: L) (.int v :: st) w cn sn := w_iload_n d_49_35 rfl
theorem d_49_36 : decode (mB 49) 36 = .ok (.putfield 52, 3) := by decide +kernel
theorem s_49_36 {d : Nat} {Q : wQ} {L : List (Option Value)} {st : List Value} {w : aw} {cn sn : Nat} {x : Int32} {a : Nat} : wp d 49 Q 36 L (.int x :: .ref a :: st) w cn sn = (kd w a = 5 ∧ wp d 49 Q 39 L st (uF w 258 a (.int x)) cn sn) := w_putfield d_49_36 (by decide +kernel : fT (mO 49) 52 = some (4, 2)) (by decide +kernel) ok_int
theorem d_49_39 : decode (mB 49) 39 = .ok (.iconst 1, 1) := by decide +kernel
theorem s_49_39 {d : Nat} {Q : wQ} {L : List (Option Value)} {st : List Value} {w : aw} {cn sn : Nat}  : wp d 49 Q 39 L st w cn sn = wp d 49 Q 40 L (.int 1 :: st) w cn sn := w_iconst d_49_39 (by decide)
theorem d_49_40 : decode (mB 49) 40 = .ok (.ireturn, 1) := by decide +kernel
theorem s_49_40 {d : Nat} {Q : wQ} {L : List (Option Value)} {w : aw} {cn sn : Nat} {v : Int32} : wp d 49 Q 40 L [.int v] w cn sn = (narrow .boolean (.int v) = .int v ∧ Q (some (.int v)) w) := w_zreturn d_49_40 rfl
theorem d_50_0 : decode (mB 50) 0 = .ok (.aload_n 0, 1) := by decide +kernel
theorem s_50_0 {d : Nat} {Q : wQ} {L : List (Option Value)} {st : List Value} {w : aw} {cn sn : Nat} {v : Nat} : wp d 50 Q 0 (some (.ref v) :: L) st w cn sn = wp d 50 Q 1 (some (.ref v) :: L) (.ref v :: st) w cn sn := w_aload_n d_50_0 rfl
theorem d_50_1 : decode (mB 50) 1 = .ok (.aload_n 0, 1) := by decide +kernel
theorem s_50_1 {d : Nat} {Q : wQ} {L : List (Option Value)} {st : List Value} {w : aw} {cn sn : Nat} {v : Nat} : wp d 50 Q 1 (some (.ref v) :: L) st w cn sn = wp d 50 Q 2 (some (.ref v) :: L) (.ref v :: st) w cn sn := w_aload_n d_50_1 rfl
theorem d_50_2 : decode (mB 50) 2 = .ok (.getfield 52, 3) := by decide +kernel
theorem s_50_2 {d : Nat} {Q : wQ} {L : List (Option Value)} {st : List Value} {w : aw} {cn sn : Nat} {a : Nat} : wp d 50 Q 2 L (.ref a :: st) w cn sn = (kd w a = 5 ∧ wp d 50 Q 5 L (fd w 258 a :: st) w cn sn) := w_getfield d_50_2 (by decide +kernel : fT (mO 50) 52 = some (4, 2))
theorem d_50_5 : decode (mB 50) 5 = .ok (.iconst 1, 1) := by decide +kernel
theorem s_50_5 {d : Nat} {Q : wQ} {L : List (Option Value)} {st : List Value} {w : aw} {cn sn : Nat}  : wp d 50 Q 5 L st w cn sn = wp d 50 Q 6 L (.int 1 :: st) w cn sn := w_iconst d_50_5 (by decide)
theorem d_50_6 : decode (mB 50) 6 = .ok (.iadd, 1) := by decide +kernel
theorem s_50_6 {d : Nat} {Q : wQ} {L : List (Option Value)} {st : List Value} {w : aw} {cn sn : Nat} {a b : Int32} : wp d 50 Q 6 L (.int b :: .int a :: st) w cn sn = wp d 50 Q 7 L (.int (a + b) :: st) w cn sn := wp_row d_50_6 _ _ _ _ _
theorem d_50_7 : decode (mB 50) 7 = .ok (.invokevirtual 49, 3) := by decide +kernel
theorem s_50_7 {d : Nat} {Q : wQ} {L : List (Option Value)} {st : List Value} {w : aw} {cn sn : Nat} {v0 : Value} {b : Nat} : wp d 50 Q 7 L (v0 :: .ref b :: st) w cn sn = (kd w b = 5 ∧ catS st ≤ 8 ∧ wpD d 43 [.ref b, v0] w (fun v w' => wp d 50 Q 10 L (v.toList ++ st) w' cn sn)) := w_virtual (As := [v0]) d_50_7 (by decide +kernel : cT (mO 50) 49 = some (0, 43)) rfl (by decide +kernel) rfl (by decide +kernel) rfl
theorem d_50_10 : decode (mB 50) 10 = .ok (.istore_n 1, 1) := by decide +kernel
theorem s_50_10 {d : Nat} {Q : wQ} {L : List (Option Value)} {st : List Value} {w : aw} {cn sn : Nat} {a0 a1 : Option Value} {v : Int32} : wp d 50 Q 10 (a0 :: a1 :: L) (.int v :: st) w cn sn = wp d 50 Q 11 (clr a0 :: some (.int v) :: L) st w cn sn := w_istore_n d_50_10 (Nat.le_add_left 2 _) rfl
theorem d_50_11 : decode (mB 50) 11 = .ok (.aload_n 0, 1) := by decide +kernel
theorem s_50_11 {d : Nat} {Q : wQ} {L : List (Option Value)} {st : List Value} {w : aw} {cn sn : Nat} {v : Nat} : wp d 50 Q 11 (some (.ref v) :: L) st w cn sn = wp d 50 Q 12 (some (.ref v) :: L) (.ref v :: st) w cn sn := w_aload_n d_50_11 rfl
theorem d_50_12 : decode (mB 50) 12 = .ok (.aload_n 0, 1) := by decide +kernel
theorem s_50_12 {d : Nat} {Q : wQ} {L : List (Option Value)} {st : List Value} {w : aw} {cn sn : Nat} {v : Nat} : wp d 50 Q 12 (some (.ref v) :: L) st w cn sn = wp d 50 Q 13 (some (.ref v) :: L) (.ref v :: st) w cn sn := w_aload_n d_50_12 rfl
theorem d_50_13 : decode (mB 50) 13 = .ok (.getfield 52, 3) := by decide +kernel
theorem s_50_13 {d : Nat} {Q : wQ} {L : List (Option Value)} {st : List Value} {w : aw} {cn sn : Nat} {a : Nat} : wp d 50 Q 13 L (.ref a :: st) w cn sn = (kd w a = 5 ∧ wp d 50 Q 16 L (fd w 258 a :: st) w cn sn) := w_getfield d_50_13 (by decide +kernel : fT (mO 50) 52 = some (4, 2))
theorem d_50_16 : decode (mB 50) 16 = .ok (.invokevirtual 32, 3) := by decide +kernel
theorem s_50_16 {d : Nat} {Q : wQ} {L : List (Option Value)} {st : List Value} {w : aw} {cn sn : Nat} {v0 : Value} {b : Nat} : wp d 50 Q 16 L (v0 :: .ref b :: st) w cn sn = (kd w b = 5 ∧ catS st ≤ 8 ∧ wpD d 40 [.ref b, v0] w (fun v w' => wp d 50 Q 19 L (v.toList ++ st) w' cn sn)) := w_virtual (As := [v0]) d_50_16 (by decide +kernel : cT (mO 50) 32 = some (0, 40)) rfl (by decide +kernel) rfl (by decide +kernel) rfl
theorem d_50_19 : decode (mB 50) 19 = .ok (.bipush 73, 2) := by decide +kernel
theorem s_50_19 {d : Nat} {Q : wQ} {L : List (Option Value)} {st : List Value} {w : aw} {cn sn : Nat}  : wp d 50 Q 19 L st w cn sn = wp d 50 Q 21 L (.int 73 :: st) w cn sn := w_bipush d_50_19 (by decide)
theorem d_50_21 : decode (mB 50) 21 = .ok (.if_icmp .ne 41, 3) := by decide +kernel
theorem s_50_21 {d : Nat} {Q : wQ} {L : List (Option Value)} {st : List Value} {w : aw} {cn sn : Nat} {a b : Int32} : wp d 50 Q 21 L (.int b :: .int a :: st) w cn sn = ((¬ a = b → wp d 50 Q 62 L st w cn sn) ∧ (a = b → wp d 50 Q 24 L st w cn sn)) := w_icne d_50_21 (by decide)
theorem d_50_24 : decode (mB 50) 24 = .ok (.aload_n 0, 1) := by decide +kernel
theorem s_50_24 {d : Nat} {Q : wQ} {L : List (Option Value)} {st : List Value} {w : aw} {cn sn : Nat} {v : Nat} : wp d 50 Q 24 (some (.ref v) :: L) st w cn sn = wp d 50 Q 25 (some (.ref v) :: L) (.ref v :: st) w cn sn := w_aload_n d_50_24 rfl
theorem d_50_25 : decode (mB 50) 25 = .ok (.aload_n 0, 1) := by decide +kernel
theorem s_50_25 {d : Nat} {Q : wQ} {L : List (Option Value)} {st : List Value} {w : aw} {cn sn : Nat} {v : Nat} : wp d 50 Q 25 (some (.ref v) :: L) st w cn sn = wp d 50 Q 26 (some (.ref v) :: L) (.ref v :: st) w cn sn := w_aload_n d_50_25 rfl
theorem d_50_26 : decode (mB 50) 26 = .ok (.getfield 52, 3) := by decide +kernel
theorem s_50_26 {d : Nat} {Q : wQ} {L : List (Option Value)} {st : List Value} {w : aw} {cn sn : Nat} {a : Nat} : wp d 50 Q 26 L (.ref a :: st) w cn sn = (kd w a = 5 ∧ wp d 50 Q 29 L (fd w 258 a :: st) w cn sn) := w_getfield d_50_26 (by decide +kernel : fT (mO 50) 52 = some (4, 2))
theorem d_50_29 : decode (mB 50) 29 = .ok (.invokevirtual 55, 3) := by decide +kernel
theorem s_50_29 {d : Nat} {Q : wQ} {L : List (Option Value)} {st : List Value} {w : aw} {cn sn : Nat} {v0 : Value} {b : Nat} : wp d 50 Q 29 L (v0 :: .ref b :: st) w cn sn = (kd w b = 5 ∧ catS st ≤ 8 ∧ wpD d 44 [.ref b, v0] w (fun v w' => wp d 50 Q 32 L (v.toList ++ st) w' cn sn)) := w_virtual (As := [v0]) d_50_29 (by decide +kernel : cT (mO 50) 55 = some (0, 44)) rfl (by decide +kernel) rfl (by decide +kernel) rfl
theorem d_50_32 : decode (mB 50) 32 = .ok (.aload_n 0, 1) := by decide +kernel
theorem s_50_32 {d : Nat} {Q : wQ} {L : List (Option Value)} {st : List Value} {w : aw} {cn sn : Nat} {v : Nat} : wp d 50 Q 32 (some (.ref v) :: L) st w cn sn = wp d 50 Q 33 (some (.ref v) :: L) (.ref v :: st) w cn sn := w_aload_n d_50_32 rfl
theorem d_50_33 : decode (mB 50) 33 = .ok (.getfield 52, 3) := by decide +kernel
theorem s_50_33 {d : Nat} {Q : wQ} {L : List (Option Value)} {st : List Value} {w : aw} {cn sn : Nat} {a : Nat} : wp d 50 Q 33 L (.ref a :: st) w cn sn = (kd w a = 5 ∧ wp d 50 Q 36 L (fd w 258 a :: st) w cn sn) := w_getfield d_50_33 (by decide +kernel : fT (mO 50) 52 = some (4, 2))
theorem d_50_36 : decode (mB 50) 36 = .ok (.iconst 1, 1) := by decide +kernel
theorem s_50_36 {d : Nat} {Q : wQ} {L : List (Option Value)} {st : List Value} {w : aw} {cn sn : Nat}  : wp d 50 Q 36 L st w cn sn = wp d 50 Q 37 L (.int 1 :: st) w cn sn := w_iconst d_50_36 (by decide)
theorem d_50_37 : decode (mB 50) 37 = .ok (.iadd, 1) := by decide +kernel
theorem s_50_37 {d : Nat} {Q : wQ} {L : List (Option Value)} {st : List Value} {w : aw} {cn sn : Nat} {a b : Int32} : wp d 50 Q 37 L (.int b :: .int a :: st) w cn sn = wp d 50 Q 38 L (.int (a + b) :: st) w cn sn := wp_row d_50_37 _ _ _ _ _
theorem d_50_38 : decode (mB 50) 38 = .ok (.if_icmp .ne 24, 3) := by decide +kernel
theorem s_50_38 {d : Nat} {Q : wQ} {L : List (Option Value)} {st : List Value} {w : aw} {cn sn : Nat} {a b : Int32} : wp d 50 Q 38 L (.int b :: .int a :: st) w cn sn = ((¬ a = b → wp d 50 Q 62 L st w cn sn) ∧ (a = b → wp d 50 Q 41 L st w cn sn)) := w_icne d_50_38 (by decide)
theorem d_50_41 : decode (mB 50) 41 = .ok (.aload_n 0, 1) := by decide +kernel
theorem s_50_41 {d : Nat} {Q : wQ} {L : List (Option Value)} {st : List Value} {w : aw} {cn sn : Nat} {v : Nat} : wp d 50 Q 41 (some (.ref v) :: L) st w cn sn = wp d 50 Q 42 (some (.ref v) :: L) (.ref v :: st) w cn sn := w_aload_n d_50_41 rfl
theorem d_50_42 : decode (mB 50) 42 = .ok (.iload_n 1, 1) := by decide +kernel
theorem s_50_42 {d : Nat} {Q : wQ} {L : List (Option Value)} {st : List Value} {w : aw} {cn sn : Nat} {a0 : Option Value} {v : Int32} : wp d 50 Q 42 (a0 :: some (.int v) :: L) st w cn sn = wp d 50 Q 43 (a0 :: some (.int v) :: L) (.int v :: st) w cn sn := w_iload_n d_50_42 rfl
theorem d_50_43 : decode (mB 50) 43 = .ok (.invokevirtual 32, 3) := by decide +kernel
theorem s_50_43 {d : Nat} {Q : wQ} {L : List (Option Value)} {st : List Value} {w : aw} {cn sn : Nat} {v0 : Value} {b : Nat} : wp d 50 Q 43 L (v0 :: .ref b :: st) w cn sn = (kd w b = 5 ∧ catS st ≤ 8 ∧ wpD d 40 [.ref b, v0] w (fun v w' => wp d 50 Q 46 L (v.toList ++ st) w' cn sn)) := w_virtual (As := [v0]) d_50_43 (by decide +kernel : cT (mO 50) 32 = some (0, 40)) rfl (by decide +kernel) rfl (by decide +kernel) rfl
theorem d_50_46 : decode (mB 50) 46 = .ok (.invokestatic 109, 3) := by decide +kernel
theorem s_50_46 {d : Nat} {Q : wQ} {L : List (Option Value)} {st : List Value} {w : aw} {cn sn : Nat} {v0 : Value} : wp d 50 Q 46 L (v0 :: st) w cn sn = (catS st ≤ 8 ∧ wpD d 51 [v0] w (fun v w' => wp d 50 Q 49 L (v.toList ++ st) w' cn sn)) := w_static (As := [v0]) d_50_46 (by decide +kernel : cT (mO 50) 109 = some (2, 51)) (by decide +kernel) rfl (by decide +kernel) rfl
theorem d_50_49 : decode (mB 50) 49 = .ok (.ifCond .eq 13, 3) := by decide +kernel
theorem s_50_49 {d : Nat} {Q : wQ} {L : List (Option Value)} {st : List Value} {w : aw} {cn sn : Nat} {x : Int32} : wp d 50 Q 49 L (.int x :: st) w cn sn = ((x = 0 → wp d 50 Q 62 L st w cn sn) ∧ (¬ x = 0 → wp d 50 Q 52 L st w cn sn)) := w_ifeq d_50_49 (by decide)
theorem d_50_52 : decode (mB 50) 52 = .ok (.aload_n 0, 1) := by decide +kernel
theorem s_50_52 {d : Nat} {Q : wQ} {L : List (Option Value)} {st : List Value} {w : aw} {cn sn : Nat} {v : Nat} : wp d 50 Q 52 (some (.ref v) :: L) st w cn sn = wp d 50 Q 53 (some (.ref v) :: L) (.ref v :: st) w cn sn := w_aload_n d_50_52 rfl
theorem d_50_53 : decode (mB 50) 53 = .ok (.iconst 1, 1) := by decide +kernel
theorem s_50_53 {d : Nat} {Q : wQ} {L : List (Option Value)} {st : List Value} {w : aw} {cn sn : Nat}  : wp d 50 Q 53 L st w cn sn = wp d 50 Q 54 L (.int 1 :: st) w cn sn := w_iconst d_50_53 (by decide)
theorem d_50_54 : decode (mB 50) 54 = .ok (.putfield 72, 3) := by decide +kernel
theorem s_50_54 {d : Nat} {Q : wQ} {L : List (Option Value)} {st : List Value} {w : aw} {cn sn : Nat} {x : Int32} {a : Nat} : wp d 50 Q 54 L (.int x :: .ref a :: st) w cn sn = (kd w a = 5 ∧ okv .boolean (.int x) ∧ wp d 50 Q 57 L st (uF w 264 a (.int x)) cn sn) := w_putfieldC d_50_54 (by decide +kernel : fT (mO 50) 72 = some (4, 8)) (by decide +kernel)
theorem d_50_57 : decode (mB 50) 57 = .ok (.aload_n 0, 1) := by decide +kernel
theorem s_50_57 {d : Nat} {Q : wQ} {L : List (Option Value)} {st : List Value} {w : aw} {cn sn : Nat} {v : Nat} : wp d 50 Q 57 (some (.ref v) :: L) st w cn sn = wp d 50 Q 58 (some (.ref v) :: L) (.ref v :: st) w cn sn := w_aload_n d_50_57 rfl
theorem d_50_58 : decode (mB 50) 58 = .ok (.iload_n 1, 1) := by decide +kernel
theorem s_50_58 {d : Nat} {Q : wQ} {L : List (Option Value)} {st : List Value} {w : aw} {cn sn : Nat} {a0 : Option Value} {v : Int32} : wp d 50 Q 58 (a0 :: some (.int v) :: L) st w cn sn = wp d 50 Q 59 (a0 :: some (.int v) :: L) (.int v :: st) w cn sn := w_iload_n d_50_58 rfl
theorem d_50_59 : decode (mB 50) 59 = .ok (.putfield 52, 3) := by decide +kernel
theorem s_50_59 {d : Nat} {Q : wQ} {L : List (Option Value)} {st : List Value} {w : aw} {cn sn : Nat} {x : Int32} {a : Nat} : wp d 50 Q 59 L (.int x :: .ref a :: st) w cn sn = (kd w a = 5 ∧ wp d 50 Q 62 L st (uF w 258 a (.int x)) cn sn) := w_putfield d_50_59 (by decide +kernel : fT (mO 50) 52 = some (4, 2)) (by decide +kernel) ok_int
theorem d_50_62 : decode (mB 50) 62 = .ok (.aload_n 0, 1) := by decide +kernel
theorem s_50_62 {d : Nat} {Q : wQ} {L : List (Option Value)} {st : List Value} {w : aw} {cn sn : Nat} {v : Nat} : wp d 50 Q 62 (some (.ref v) :: L) st w cn sn = wp d 50 Q 63 (some (.ref v) :: L) (.ref v :: st) w cn sn := w_aload_n d_50_62 rfl
theorem d_50_63 : decode (mB 50) 63 = .ok (.aload_n 0, 1) := by decide +kernel
theorem s_50_63 {d : Nat} {Q : wQ} {L : List (Option Value)} {st : List Value} {w : aw} {cn sn : Nat} {v : Nat} : wp d 50 Q 63 (some (.ref v) :: L) st w cn sn = wp d 50 Q 64 (some (.ref v) :: L) (.ref v :: st) w cn sn := w_aload_n d_50_63 rfl
theorem d_50_64 : decode (mB 50) 64 = .ok (.getfield 52, 3) := by decide +kernel
theorem s_50_64 {d : Nat} {Q : wQ} {L : List (Option Value)} {st : List Value} {w : aw} {cn sn : Nat} {a : Nat} : wp d 50 Q 64 L (.ref a :: st) w cn sn = (kd w a = 5 ∧ wp d 50 Q 67 L (fd w 258 a :: st) w cn sn) := w_getfield d_50_64 (by decide +kernel : fT (mO 50) 52 = some (4, 2))
theorem d_50_67 : decode (mB 50) 67 = .ok (.invokevirtual 32, 3) := by decide +kernel
theorem s_50_67 {d : Nat} {Q : wQ} {L : List (Option Value)} {st : List Value} {w : aw} {cn sn : Nat} {v0 : Value} {b : Nat} : wp d 50 Q 67 L (v0 :: .ref b :: st) w cn sn = (kd w b = 5 ∧ catS st ≤ 8 ∧ wpD d 40 [.ref b, v0] w (fun v w' => wp d 50 Q 70 L (v.toList ++ st) w' cn sn)) := w_virtual (As := [v0]) d_50_67 (by decide +kernel : cT (mO 50) 32 = some (0, 40)) rfl (by decide +kernel) rfl (by decide +kernel) rfl
theorem d_50_70 : decode (mB 50) 70 = .ok (.bipush 40, 2) := by decide +kernel
theorem s_50_70 {d : Nat} {Q : wQ} {L : List (Option Value)} {st : List Value} {w : aw} {cn sn : Nat}  : wp d 50 Q 70 L st w cn sn = wp d 50 Q 72 L (.int 40 :: st) w cn sn := w_bipush d_50_70 (by decide)
theorem d_50_72 : decode (mB 50) 72 = .ok (.if_icmp .ne 22, 3) := by decide +kernel
theorem s_50_72 {d : Nat} {Q : wQ} {L : List (Option Value)} {st : List Value} {w : aw} {cn sn : Nat} {a b : Int32} : wp d 50 Q 72 L (.int b :: .int a :: st) w cn sn = ((¬ a = b → wp d 50 Q 94 L st w cn sn) ∧ (a = b → wp d 50 Q 75 L st w cn sn)) := w_icne d_50_72 (by decide)
theorem d_50_75 : decode (mB 50) 75 = .ok (.aload_n 0, 1) := by decide +kernel
theorem s_50_75 {d : Nat} {Q : wQ} {L : List (Option Value)} {st : List Value} {w : aw} {cn sn : Nat} {v : Nat} : wp d 50 Q 75 (some (.ref v) :: L) st w cn sn = wp d 50 Q 76 (some (.ref v) :: L) (.ref v :: st) w cn sn := w_aload_n d_50_75 rfl
theorem d_50_76 : decode (mB 50) 76 = .ok (.iconst 1, 1) := by decide +kernel
theorem s_50_76 {d : Nat} {Q : wQ} {L : List (Option Value)} {st : List Value} {w : aw} {cn sn : Nat}  : wp d 50 Q 76 L st w cn sn = wp d 50 Q 77 L (.int 1 :: st) w cn sn := w_iconst d_50_76 (by decide)
theorem d_50_77 : decode (mB 50) 77 = .ok (.putfield 76, 3) := by decide +kernel
theorem s_50_77 {d : Nat} {Q : wQ} {L : List (Option Value)} {st : List Value} {w : aw} {cn sn : Nat} {x : Int32} {a : Nat} : wp d 50 Q 77 L (.int x :: .ref a :: st) w cn sn = (kd w a = 5 ∧ okv .boolean (.int x) ∧ wp d 50 Q 80 L st (uF w 265 a (.int x)) cn sn) := w_putfieldC d_50_77 (by decide +kernel : fT (mO 50) 76 = some (4, 9)) (by decide +kernel)
theorem d_50_80 : decode (mB 50) 80 = .ok (.aload_n 0, 1) := by decide +kernel
theorem s_50_80 {d : Nat} {Q : wQ} {L : List (Option Value)} {st : List Value} {w : aw} {cn sn : Nat} {v : Nat} : wp d 50 Q 80 (some (.ref v) :: L) st w cn sn = wp d 50 Q 81 (some (.ref v) :: L) (.ref v :: st) w cn sn := w_aload_n d_50_80 rfl
theorem d_50_81 : decode (mB 50) 81 = .ok (.aload_n 0, 1) := by decide +kernel
theorem s_50_81 {d : Nat} {Q : wQ} {L : List (Option Value)} {st : List Value} {w : aw} {cn sn : Nat} {v : Nat} : wp d 50 Q 81 (some (.ref v) :: L) st w cn sn = wp d 50 Q 82 (some (.ref v) :: L) (.ref v :: st) w cn sn := w_aload_n d_50_81 rfl
theorem d_50_82 : decode (mB 50) 82 = .ok (.aload_n 0, 1) := by decide +kernel
theorem s_50_82 {d : Nat} {Q : wQ} {L : List (Option Value)} {st : List Value} {w : aw} {cn sn : Nat} {v : Nat} : wp d 50 Q 82 (some (.ref v) :: L) st w cn sn = wp d 50 Q 83 (some (.ref v) :: L) (.ref v :: st) w cn sn := w_aload_n d_50_82 rfl
theorem d_50_83 : decode (mB 50) 83 = .ok (.getfield 52, 3) := by decide +kernel
theorem s_50_83 {d : Nat} {Q : wQ} {L : List (Option Value)} {st : List Value} {w : aw} {cn sn : Nat} {a : Nat} : wp d 50 Q 83 L (.ref a :: st) w cn sn = (kd w a = 5 ∧ wp d 50 Q 86 L (fd w 258 a :: st) w cn sn) := w_getfield d_50_83 (by decide +kernel : fT (mO 50) 52 = some (4, 2))
theorem d_50_86 : decode (mB 50) 86 = .ok (.iconst 1, 1) := by decide +kernel
theorem s_50_86 {d : Nat} {Q : wQ} {L : List (Option Value)} {st : List Value} {w : aw} {cn sn : Nat}  : wp d 50 Q 86 L st w cn sn = wp d 50 Q 87 L (.int 1 :: st) w cn sn := w_iconst d_50_86 (by decide)
theorem d_50_87 : decode (mB 50) 87 = .ok (.iadd, 1) := by decide +kernel
theorem s_50_87 {d : Nat} {Q : wQ} {L : List (Option Value)} {st : List Value} {w : aw} {cn sn : Nat} {a b : Int32} : wp d 50 Q 87 L (.int b :: .int a :: st) w cn sn = wp d 50 Q 88 L (.int (a + b) :: st) w cn sn := wp_row d_50_87 _ _ _ _ _
theorem d_50_88 : decode (mB 50) 88 = .ok (.invokevirtual 49, 3) := by decide +kernel
theorem s_50_88 {d : Nat} {Q : wQ} {L : List (Option Value)} {st : List Value} {w : aw} {cn sn : Nat} {v0 : Value} {b : Nat} : wp d 50 Q 88 L (v0 :: .ref b :: st) w cn sn = (kd w b = 5 ∧ catS st ≤ 8 ∧ wpD d 43 [.ref b, v0] w (fun v w' => wp d 50 Q 91 L (v.toList ++ st) w' cn sn)) := w_virtual (As := [v0]) d_50_88 (by decide +kernel : cT (mO 50) 49 = some (0, 43)) rfl (by decide +kernel) rfl (by decide +kernel) rfl
theorem d_50_91 : decode (mB 50) 91 = .ok (.putfield 52, 3) := by decide +kernel
theorem s_50_91 {d : Nat} {Q : wQ} {L : List (Option Value)} {st : List Value} {w : aw} {cn sn : Nat} {x : Int32} {a : Nat} : wp d 50 Q 91 L (.int x :: .ref a :: st) w cn sn = (kd w a = 5 ∧ wp d 50 Q 94 L st (uF w 258 a (.int x)) cn sn) := w_putfield d_50_91 (by decide +kernel : fT (mO 50) 52 = some (4, 2)) (by decide +kernel) ok_int
theorem d_50_94 : decode (mB 50) 94 = .ok (.return_, 1) := by decide +kernel
theorem s_50_94 {d : Nat} {Q : wQ} {L : List (Option Value)} {w : aw} {cn sn : Nat}  : wp d 50 Q 94 L [] w cn sn = Q none w := w_return d_50_94 rfl
theorem d_51_0 : decode (mB 51) 0 = .ok (.iload_n 0, 1) := by decide +kernel
theorem s_51_0 {d : Nat} {Q : wQ} {L : List (Option Value)} {st : List Value} {w : aw} {cn sn : Nat} {v : Int32} : wp d 51 Q 0 (some (.int v) :: L) st w cn sn = wp d 51 Q 1 (some (.int v) :: L) (.int v :: st) w cn sn := w_iload_n d_51_0 rfl
theorem d_51_1 : decode (mB 51) 1 = .ok (.invokestatic 36, 3) := by decide +kernel
theorem s_51_1 {d : Nat} {Q : wQ} {L : List (Option Value)} {st : List Value} {w : aw} {cn sn : Nat} {v0 : Value} : wp d 51 Q 1 L (v0 :: st) w cn sn = (catS st ≤ 8 ∧ wpD d 41 [v0] w (fun v w' => wp d 51 Q 4 L (v.toList ++ st) w' cn sn)) := w_static (As := [v0]) d_51_1 (by decide +kernel : cT (mO 51) 36 = some (2, 41)) (by decide +kernel) rfl (by decide +kernel) rfl
theorem d_51_4 : decode (mB 51) 4 = .ok (.ifCond .ne 28, 3) := by decide +kernel
theorem s_51_4 {d : Nat} {Q : wQ} {L : List (Option Value)} {st : List Value} {w : aw} {cn sn : Nat} {x : Int32} : wp d 51 Q 4 L (.int x :: st) w cn sn = ((¬ x = 0 → wp d 51 Q 32 L st w cn sn) ∧ (x = 0 → wp d 51 Q 7 L st w cn sn)) := w_ifne d_51_4 (by decide)
theorem d_51_7 : decode (mB 51) 7 = .ok (.iload_n 0, 1) := by decide +kernel
theorem s_51_7 {d : Nat} {Q : wQ} {L : List (Option Value)} {st : List Value} {w : aw} {cn sn : Nat} {v : Int32} : wp d 51 Q 7 (some (.int v) :: L) st w cn sn = wp d 51 Q 8 (some (.int v) :: L) (.int v :: st) w cn sn := w_iload_n d_51_7 rfl
theorem d_51_8 : decode (mB 51) 8 = .ok (.invokestatic 40, 3) := by decide +kernel
theorem s_51_8 {d : Nat} {Q : wQ} {L : List (Option Value)} {st : List Value} {w : aw} {cn sn : Nat} {v0 : Value} : wp d 51 Q 8 L (v0 :: st) w cn sn = (catS st ≤ 8 ∧ wpD d 42 [v0] w (fun v w' => wp d 51 Q 11 L (v.toList ++ st) w' cn sn)) := w_static (As := [v0]) d_51_8 (by decide +kernel : cT (mO 51) 40 = some (2, 42)) (by decide +kernel) rfl (by decide +kernel) rfl
theorem d_51_11 : decode (mB 51) 11 = .ok (.ifCond .ne 21, 3) := by decide +kernel
theorem s_51_11 {d : Nat} {Q : wQ} {L : List (Option Value)} {st : List Value} {w : aw} {cn sn : Nat} {x : Int32} : wp d 51 Q 11 L (.int x :: st) w cn sn = ((¬ x = 0 → wp d 51 Q 32 L st w cn sn) ∧ (x = 0 → wp d 51 Q 14 L st w cn sn)) := w_ifne d_51_11 (by decide)
theorem d_51_14 : decode (mB 51) 14 = .ok (.iload_n 0, 1) := by decide +kernel
theorem s_51_14 {d : Nat} {Q : wQ} {L : List (Option Value)} {st : List Value} {w : aw} {cn sn : Nat} {v : Int32} : wp d 51 Q 14 (some (.int v) :: L) st w cn sn = wp d 51 Q 15 (some (.int v) :: L) (.int v :: st) w cn sn := w_iload_n d_51_14 rfl
theorem d_51_15 : decode (mB 51) 15 = .ok (.bipush 46, 2) := by decide +kernel
theorem s_51_15 {d : Nat} {Q : wQ} {L : List (Option Value)} {st : List Value} {w : aw} {cn sn : Nat}  : wp d 51 Q 15 L st w cn sn = wp d 51 Q 17 L (.int 46 :: st) w cn sn := w_bipush d_51_15 (by decide)
theorem d_51_17 : decode (mB 51) 17 = .ok (.if_icmp .eq 15, 3) := by decide +kernel
theorem s_51_17 {d : Nat} {Q : wQ} {L : List (Option Value)} {st : List Value} {w : aw} {cn sn : Nat} {a b : Int32} : wp d 51 Q 17 L (.int b :: .int a :: st) w cn sn = ((a = b → wp d 51 Q 32 L st w cn sn) ∧ (¬ a = b → wp d 51 Q 20 L st w cn sn)) := w_iceq d_51_17 (by decide)
theorem d_51_20 : decode (mB 51) 20 = .ok (.iload_n 0, 1) := by decide +kernel
theorem s_51_20 {d : Nat} {Q : wQ} {L : List (Option Value)} {st : List Value} {w : aw} {cn sn : Nat} {v : Int32} : wp d 51 Q 20 (some (.int v) :: L) st w cn sn = wp d 51 Q 21 (some (.int v) :: L) (.int v :: st) w cn sn := w_iload_n d_51_20 rfl
theorem d_51_21 : decode (mB 51) 21 = .ok (.bipush 45, 2) := by decide +kernel
theorem s_51_21 {d : Nat} {Q : wQ} {L : List (Option Value)} {st : List Value} {w : aw} {cn sn : Nat}  : wp d 51 Q 21 L st w cn sn = wp d 51 Q 23 L (.int 45 :: st) w cn sn := w_bipush d_51_21 (by decide)
theorem d_51_23 : decode (mB 51) 23 = .ok (.if_icmp .eq 9, 3) := by decide +kernel
theorem s_51_23 {d : Nat} {Q : wQ} {L : List (Option Value)} {st : List Value} {w : aw} {cn sn : Nat} {a b : Int32} : wp d 51 Q 23 L (.int b :: .int a :: st) w cn sn = ((a = b → wp d 51 Q 32 L st w cn sn) ∧ (¬ a = b → wp d 51 Q 26 L st w cn sn)) := w_iceq d_51_23 (by decide)
theorem d_51_26 : decode (mB 51) 26 = .ok (.iload_n 0, 1) := by decide +kernel
theorem s_51_26 {d : Nat} {Q : wQ} {L : List (Option Value)} {st : List Value} {w : aw} {cn sn : Nat} {v : Int32} : wp d 51 Q 26 (some (.int v) :: L) st w cn sn = wp d 51 Q 27 (some (.int v) :: L) (.int v :: st) w cn sn := w_iload_n d_51_26 rfl
theorem d_51_27 : decode (mB 51) 27 = .ok (.bipush 40, 2) := by decide +kernel
theorem s_51_27 {d : Nat} {Q : wQ} {L : List (Option Value)} {st : List Value} {w : aw} {cn sn : Nat}  : wp d 51 Q 27 L st w cn sn = wp d 51 Q 29 L (.int 40 :: st) w cn sn := w_bipush d_51_27 (by decide)
theorem d_51_29 : decode (mB 51) 29 = .ok (.if_icmp .ne 7, 3) := by decide +kernel
theorem s_51_29 {d : Nat} {Q : wQ} {L : List (Option Value)} {st : List Value} {w : aw} {cn sn : Nat} {a b : Int32} : wp d 51 Q 29 L (.int b :: .int a :: st) w cn sn = ((¬ a = b → wp d 51 Q 36 L st w cn sn) ∧ (a = b → wp d 51 Q 32 L st w cn sn)) := w_icne d_51_29 (by decide)
theorem d_51_32 : decode (mB 51) 32 = .ok (.iconst 1, 1) := by decide +kernel
theorem s_51_32 {d : Nat} {Q : wQ} {L : List (Option Value)} {st : List Value} {w : aw} {cn sn : Nat}  : wp d 51 Q 32 L st w cn sn = wp d 51 Q 33 L (.int 1 :: st) w cn sn := w_iconst d_51_32 (by decide)
theorem d_51_33 : decode (mB 51) 33 = .ok (.goto 4, 3) := by decide +kernel
theorem s_51_33 {d : Nat} {Q : wQ} {L : List (Option Value)} {st : List Value} {w : aw} {cn sn : Nat}  : wp d 51 Q 33 L st w cn sn = wp d 51 Q 37 L st w cn sn := w_goto d_51_33 (by decide)
theorem d_51_36 : decode (mB 51) 36 = .ok (.iconst 0, 1) := by decide +kernel
theorem s_51_36 {d : Nat} {Q : wQ} {L : List (Option Value)} {st : List Value} {w : aw} {cn sn : Nat}  : wp d 51 Q 36 L st w cn sn = wp d 51 Q 37 L (.int 0 :: st) w cn sn := w_iconst d_51_36 (by decide)
theorem d_51_37 : decode (mB 51) 37 = .ok (.ireturn, 1) := by decide +kernel
theorem s_51_37 {d : Nat} {Q : wQ} {L : List (Option Value)} {w : aw} {cn sn : Nat} {v : Int32} : wp d 51 Q 37 L [.int v] w cn sn = (narrow .boolean (.int v) = .int v ∧ Q (some (.int v)) w) := w_zreturn d_51_37 rfl
theorem d_52_0 : decode (mB 52) 0 = .ok (.aload_n 0, 1) := by decide +kernel
theorem s_52_0 {d : Nat} {Q : wQ} {L : List (Option Value)} {st : List Value} {w : aw} {cn sn : Nat} {v : Nat} : wp d 52 Q 0 (some (.ref v) :: L) st w cn sn = wp d 52 Q 1 (some (.ref v) :: L) (.ref v :: st) w cn sn := w_aload_n d_52_0 rfl
theorem d_52_1 : decode (mB 52) 1 = .ok (.aload_n 0, 1) := by decide +kernel
theorem s_52_1 {d : Nat} {Q : wQ} {L : List (Option Value)} {st : List Value} {w : aw} {cn sn : Nat} {v : Nat} : wp d 52 Q 1 (some (.ref v) :: L) st w cn sn = wp d 52 Q 2 (some (.ref v) :: L) (.ref v :: st) w cn sn := w_aload_n d_52_1 rfl
theorem d_52_2 : decode (mB 52) 2 = .ok (.getfield 52, 3) := by decide +kernel
theorem s_52_2 {d : Nat} {Q : wQ} {L : List (Option Value)} {st : List Value} {w : aw} {cn sn : Nat} {a : Nat} : wp d 52 Q 2 L (.ref a :: st) w cn sn = (kd w a = 5 ∧ wp d 52 Q 5 L (fd w 258 a :: st) w cn sn) := w_getfield d_52_2 (by decide +kernel : fT (mO 52) 52 = some (4, 2))
theorem d_52_5 : decode (mB 52) 5 = .ok (.invokevirtual 49, 3) := by decide +kernel
theorem s_52_5 {d : Nat} {Q : wQ} {L : List (Option Value)} {st : List Value} {w : aw} {cn sn : Nat} {v0 : Value} {b : Nat} : wp d 52 Q 5 L (v0 :: .ref b :: st) w cn sn = (kd w b = 5 ∧ catS st ≤ 8 ∧ wpD d 43 [.ref b, v0] w (fun v w' => wp d 52 Q 8 L (v.toList ++ st) w' cn sn)) := w_virtual (As := [v0]) d_52_5 (by decide +kernel : cT (mO 52) 49 = some (0, 43)) rfl (by decide +kernel) rfl (by decide +kernel) rfl
theorem d_52_8 : decode (mB 52) 8 = .ok (.istore_n 1, 1) := by decide +kernel
theorem s_52_8 {d : Nat} {Q : wQ} {L : List (Option Value)} {st : List Value} {w : aw} {cn sn : Nat} {a0 a1 : Option Value} {v : Int32} : wp d 52 Q 8 (a0 :: a1 :: L) (.int v :: st) w cn sn = wp d 52 Q 9 (clr a0 :: some (.int v) :: L) st w cn sn := w_istore_n d_52_8 (Nat.le_add_left 2 _) rfl
theorem d_52_9 : decode (mB 52) 9 = .ok (.aload_n 0, 1) := by decide +kernel
theorem s_52_9 {d : Nat} {Q : wQ} {L : List (Option Value)} {st : List Value} {w : aw} {cn sn : Nat} {v : Nat} : wp d 52 Q 9 (some (.ref v) :: L) st w cn sn = wp d 52 Q 10 (some (.ref v) :: L) (.ref v :: st) w cn sn := w_aload_n d_52_9 rfl
theorem d_52_10 : decode (mB 52) 10 = .ok (.getfield 76, 3) := by decide +kernel
theorem s_52_10 {d : Nat} {Q : wQ} {L : List (Option Value)} {st : List Value} {w : aw} {cn sn : Nat} {a : Nat} : wp d 52 Q 10 L (.ref a :: st) w cn sn = (kd w a = 5 ∧ wp d 52 Q 13 L (fd w 265 a :: st) w cn sn) := w_getfield d_52_10 (by decide +kernel : fT (mO 52) 76 = some (4, 9))
theorem d_52_13 : decode (mB 52) 13 = .ok (.ifCond .eq 20, 3) := by decide +kernel
theorem s_52_13 {d : Nat} {Q : wQ} {L : List (Option Value)} {st : List Value} {w : aw} {cn sn : Nat} {x : Int32} : wp d 52 Q 13 L (.int x :: st) w cn sn = ((x = 0 → wp d 52 Q 33 L st w cn sn) ∧ (¬ x = 0 → wp d 52 Q 16 L st w cn sn)) := w_ifeq d_52_13 (by decide)
theorem d_52_16 : decode (mB 52) 16 = .ok (.aload_n 0, 1) := by decide +kernel
theorem s_52_16 {d : Nat} {Q : wQ} {L : List (Option Value)} {st : List Value} {w : aw} {cn sn : Nat} {v : Nat} : wp d 52 Q 16 (some (.ref v) :: L) st w cn sn = wp d 52 Q 17 (some (.ref v) :: L) (.ref v :: st) w cn sn := w_aload_n d_52_16 rfl
theorem d_52_17 : decode (mB 52) 17 = .ok (.iload_n 1, 1) := by decide +kernel
theorem s_52_17 {d : Nat} {Q : wQ} {L : List (Option Value)} {st : List Value} {w : aw} {cn sn : Nat} {a0 : Option Value} {v : Int32} : wp d 52 Q 17 (a0 :: some (.int v) :: L) st w cn sn = wp d 52 Q 18 (a0 :: some (.int v) :: L) (.int v :: st) w cn sn := w_iload_n d_52_17 rfl
theorem d_52_18 : decode (mB 52) 18 = .ok (.invokevirtual 32, 3) := by decide +kernel
theorem s_52_18 {d : Nat} {Q : wQ} {L : List (Option Value)} {st : List Value} {w : aw} {cn sn : Nat} {v0 : Value} {b : Nat} : wp d 52 Q 18 L (v0 :: .ref b :: st) w cn sn = (kd w b = 5 ∧ catS st ≤ 8 ∧ wpD d 40 [.ref b, v0] w (fun v w' => wp d 52 Q 21 L (v.toList ++ st) w' cn sn)) := w_virtual (As := [v0]) d_52_18 (by decide +kernel : cT (mO 52) 32 = some (0, 40)) rfl (by decide +kernel) rfl (by decide +kernel) rfl
theorem d_52_21 : decode (mB 52) 21 = .ok (.bipush 41, 2) := by decide +kernel
theorem s_52_21 {d : Nat} {Q : wQ} {L : List (Option Value)} {st : List Value} {w : aw} {cn sn : Nat}  : wp d 52 Q 21 L st w cn sn = wp d 52 Q 23 L (.int 41 :: st) w cn sn := w_bipush d_52_21 (by decide)
theorem d_52_23 : decode (mB 52) 23 = .ok (.if_icmp .ne 10, 3) := by decide +kernel
theorem s_52_23 {d : Nat} {Q : wQ} {L : List (Option Value)} {st : List Value} {w : aw} {cn sn : Nat} {a b : Int32} : wp d 52 Q 23 L (.int b :: .int a :: st) w cn sn = ((¬ a = b → wp d 52 Q 33 L st w cn sn) ∧ (a = b → wp d 52 Q 26 L st w cn sn)) := w_icne d_52_23 (by decide)
theorem d_52_26 : decode (mB 52) 26 = .ok (.aload_n 0, 1) := by decide +kernel
theorem s_52_26 {d : Nat} {Q : wQ} {L : List (Option Value)} {st : List Value} {w : aw} {cn sn : Nat} {v : Nat} : wp d 52 Q 26 (some (.ref v) :: L) st w cn sn = wp d 52 Q 27 (some (.ref v) :: L) (.ref v :: st) w cn sn := w_aload_n d_52_26 rfl
theorem d_52_27 : decode (mB 52) 27 = .ok (.iload_n 1, 1) := by decide +kernel
theorem s_52_27 {d : Nat} {Q : wQ} {L : List (Option Value)} {st : List Value} {w : aw} {cn sn : Nat} {a0 : Option Value} {v : Int32} : wp d 52 Q 27 (a0 :: some (.int v) :: L) st w cn sn = wp d 52 Q 28 (a0 :: some (.int v) :: L) (.int v :: st) w cn sn := w_iload_n d_52_27 rfl
theorem d_52_28 : decode (mB 52) 28 = .ok (.iconst 1, 1) := by decide +kernel
theorem s_52_28 {d : Nat} {Q : wQ} {L : List (Option Value)} {st : List Value} {w : aw} {cn sn : Nat}  : wp d 52 Q 28 L st w cn sn = wp d 52 Q 29 L (.int 1 :: st) w cn sn := w_iconst d_52_28 (by decide)
theorem d_52_29 : decode (mB 52) 29 = .ok (.iadd, 1) := by decide +kernel
theorem s_52_29 {d : Nat} {Q : wQ} {L : List (Option Value)} {st : List Value} {w : aw} {cn sn : Nat} {a b : Int32} : wp d 52 Q 29 L (.int b :: .int a :: st) w cn sn = wp d 52 Q 30 L (.int (a + b) :: st) w cn sn := wp_row d_52_29 _ _ _ _ _
theorem d_52_30 : decode (mB 52) 30 = .ok (.putfield 52, 3) := by decide +kernel
theorem s_52_30 {d : Nat} {Q : wQ} {L : List (Option Value)} {st : List Value} {w : aw} {cn sn : Nat} {x : Int32} {a : Nat} : wp d 52 Q 30 L (.int x :: .ref a :: st) w cn sn = (kd w a = 5 ∧ wp d 52 Q 33 L st (uF w 258 a (.int x)) cn sn) := w_putfield d_52_30 (by decide +kernel : fT (mO 52) 52 = some (4, 2)) (by decide +kernel) ok_int
theorem d_52_33 : decode (mB 52) 33 = .ok (.return_, 1) := by decide +kernel
theorem s_52_33 {d : Nat} {Q : wQ} {L : List (Option Value)} {w : aw} {cn sn : Nat}  : wp d 52 Q 33 L [] w cn sn = Q none w := w_return d_52_33 rfl
theorem d_53_0 : decode (mB 53) 0 = .ok (.aload_n 0, 1) := by decide +kernel
theorem s_53_0 {d : Nat} {Q : wQ} {L : List (Option Value)} {st : List Value} {w : aw} {cn sn : Nat} {v : Nat} : wp d 53 Q 0 (some (.ref v) :: L) st w cn sn = wp d 53 Q 1 (some (.ref v) :: L) (.ref v :: st) w cn sn := w_aload_n d_53_0 rfl
theorem d_53_1 : decode (mB 53) 1 = .ok (.aload_n 0, 1) := by decide +kernel
theorem s_53_1 {d : Nat} {Q : wQ} {L : List (Option Value)} {st : List Value} {w : aw} {cn sn : Nat} {v : Nat} : wp d 53 Q 1 (some (.ref v) :: L) st w cn sn = wp d 53 Q 2 (some (.ref v) :: L) (.ref v :: st) w cn sn := w_aload_n d_53_1 rfl
theorem d_53_2 : decode (mB 53) 2 = .ok (.getfield 52, 3) := by decide +kernel
theorem s_53_2 {d : Nat} {Q : wQ} {L : List (Option Value)} {st : List Value} {w : aw} {cn sn : Nat} {a : Nat} : wp d 53 Q 2 L (.ref a :: st) w cn sn = (kd w a = 5 ∧ wp d 53 Q 5 L (fd w 258 a :: st) w cn sn) := w_getfield d_53_2 (by decide +kernel : fT (mO 53) 52 = some (4, 2))
theorem d_53_5 : decode (mB 53) 5 = .ok (.invokevirtual 32, 3) := by decide +kernel
theorem s_53_5 {d : Nat} {Q : wQ} {L : List (Option Value)} {st : List Value} {w : aw} {cn sn : Nat} {v0 : Value} {b : Nat} : wp d 53 Q 5 L (v0 :: .ref b :: st) w cn sn = (kd w b = 5 ∧ catS st ≤ 8 ∧ wpD d 40 [.ref b, v0] w (fun v w' => wp d 53 Q 8 L (v.toList ++ st) w' cn sn)) := w_virtual (As := [v0]) d_53_5 (by decide +kernel : cT (mO 53) 32 = some (0, 40)) rfl (by decide +kernel) rfl (by decide +kernel) rfl
theorem d_53_8 : decode (mB 53) 8 = .ok (.bipush 45, 2) := by decide +kernel
theorem s_53_8 {d : Nat} {Q : wQ} {L : List (Option Value)} {st : List Value} {w : aw} {cn sn : Nat}  : wp d 53 Q 8 L st w cn sn = wp d 53 Q 10 L (.int 45 :: st) w cn sn := w_bipush d_53_8 (by decide)
theorem d_53_10 : decode (mB 53) 10 = .ok (.if_icmp .ne 7, 3) := by decide +kernel
theorem s_53_10 {d : Nat} {Q : wQ} {L : List (Option Value)} {st : List Value} {w : aw} {cn sn : Nat} {a b : Int32} : wp d 53 Q 10 L (.int b :: .int a :: st) w cn sn = ((¬ a = b → wp d 53 Q 17 L st w cn sn) ∧ (a = b → wp d 53 Q 13 L st w cn sn)) := w_icne d_53_10 (by decide)
theorem d_53_13 : decode (mB 53) 13 = .ok (.iconst 1, 1) := by decide +kernel
theorem s_53_13 {d : Nat} {Q : wQ} {L : List (Option Value)} {st : List Value} {w : aw} {cn sn : Nat}  : wp d 53 Q 13 L st w cn sn = wp d 53 Q 14 L (.int 1 :: st) w cn sn := w_iconst d_53_13 (by decide)
theorem d_53_14 : decode (mB 53) 14 = .ok (.goto 4, 3) := by decide +kernel
theorem s_53_14 {d : Nat} {Q : wQ} {L : List (Option Value)} {st : List Value} {w : aw} {cn sn : Nat}  : wp d 53 Q 14 L st w cn sn = wp d 53 Q 18 L st w cn sn := w_goto d_53_14 (by decide)
theorem d_53_17 : decode (mB 53) 17 = .ok (.iconst 0, 1) := by decide +kernel
theorem s_53_17 {d : Nat} {Q : wQ} {L : List (Option Value)} {st : List Value} {w : aw} {cn sn : Nat}  : wp d 53 Q 17 L st w cn sn = wp d 53 Q 18 L (.int 0 :: st) w cn sn := w_iconst d_53_17 (by decide)
theorem d_53_18 : decode (mB 53) 18 = .ok (.istore_n 1, 1) := by decide +kernel
theorem s_53_18 {d : Nat} {Q : wQ} {L : List (Option Value)} {st : List Value} {w : aw} {cn sn : Nat} {a0 a1 : Option Value} {v : Int32} : wp d 53 Q 18 (a0 :: a1 :: L) (.int v :: st) w cn sn = wp d 53 Q 19 (clr a0 :: some (.int v) :: L) st w cn sn := w_istore_n d_53_18 (Nat.le_add_left 2 _) rfl
theorem d_53_19 : decode (mB 53) 19 = .ok (.iload_n 1, 1) := by decide +kernel
theorem s_53_19 {d : Nat} {Q : wQ} {L : List (Option Value)} {st : List Value} {w : aw} {cn sn : Nat} {a0 : Option Value} {v : Int32} : wp d 53 Q 19 (a0 :: some (.int v) :: L) st w cn sn = wp d 53 Q 20 (a0 :: some (.int v) :: L) (.int v :: st) w cn sn := w_iload_n d_53_19 rfl
theorem d_53_20 : decode (mB 53) 20 = .ok (.ifCond .eq 13, 3) := by decide +kernel
theorem s_53_20 {d : Nat} {Q : wQ} {L : List (Option Value)} {st : List Value} {w : aw} {cn sn : Nat} {x : Int32} : wp d 53 Q 20 L (.int x :: st) w cn sn = ((x = 0 → wp d 53 Q 33 L st w cn sn) ∧ (¬ x = 0 → wp d 53 Q 23 L st w cn sn)) := w_ifeq d_53_20 (by decide)
theorem d_53_23 : decode (mB 53) 23 = .ok (.aload_n 0, 1) := by decide +kernel
theorem s_53_23 {d : Nat} {Q : wQ} {L : List (Option Value)} {st : List Value} {w : aw} {cn sn : Nat} {v : Nat} : wp d 53 Q 23 (some (.ref v) :: L) st w cn sn = wp d 53 Q 24 (some (.ref v) :: L) (.ref v :: st) w cn sn := w_aload_n d_53_23 rfl
theorem d_53_24 : decode (mB 53) 24 = .ok (.dup, 1) := by decide +kernel
theorem s_53_24 {d : Nat} {Q : wQ} {L : List (Option Value)} {st : List Value} {w : aw} {cn sn : Nat} {v : Value} : wp d 53 Q 24 L (v :: st) w cn sn = (v.category = 1 ∧ wp d 53 Q 25 L (v :: v :: st) w cn sn) := wp_row d_53_24 _ _ _ _ _
theorem d_53_25 : decode (mB 53) 25 = .ok (.getfield 52, 3) := by decide +kernel
theorem s_53_25 {d : Nat} {Q : wQ} {L : List (Option Value)} {st : List Value} {w : aw} {cn sn : Nat} {a : Nat} : wp d 53 Q 25 L (.ref a :: st) w cn sn = (kd w a = 5 ∧ wp d 53 Q 28 L (fd w 258 a :: st) w cn sn) := w_getfield d_53_25 (by decide +kernel : fT (mO 53) 52 = some (4, 2))
theorem d_53_28 : decode (mB 53) 28 = .ok (.iconst 1, 1) := by decide +kernel
theorem s_53_28 {d : Nat} {Q : wQ} {L : List (Option Value)} {st : List Value} {w : aw} {cn sn : Nat}  : wp d 53 Q 28 L st w cn sn = wp d 53 Q 29 L (.int 1 :: st) w cn sn := w_iconst d_53_28 (by decide)
theorem d_53_29 : decode (mB 53) 29 = .ok (.iadd, 1) := by decide +kernel
theorem s_53_29 {d : Nat} {Q : wQ} {L : List (Option Value)} {st : List Value} {w : aw} {cn sn : Nat} {a b : Int32} : wp d 53 Q 29 L (.int b :: .int a :: st) w cn sn = wp d 53 Q 30 L (.int (a + b) :: st) w cn sn := wp_row d_53_29 _ _ _ _ _
theorem d_53_30 : decode (mB 53) 30 = .ok (.putfield 52, 3) := by decide +kernel
theorem s_53_30 {d : Nat} {Q : wQ} {L : List (Option Value)} {st : List Value} {w : aw} {cn sn : Nat} {x : Int32} {a : Nat} : wp d 53 Q 30 L (.int x :: .ref a :: st) w cn sn = (kd w a = 5 ∧ wp d 53 Q 33 L st (uF w 258 a (.int x)) cn sn) := w_putfield d_53_30 (by decide +kernel : fT (mO 53) 52 = some (4, 2)) (by decide +kernel) ok_int
theorem d_53_33 : decode (mB 53) 33 = .ok (.iconst 0, 1) := by decide +kernel
theorem s_53_33 {d : Nat} {Q : wQ} {L : List (Option Value)} {st : List Value} {w : aw} {cn sn : Nat}  : wp d 53 Q 33 L st w cn sn = wp d 53 Q 34 L (.int 0 :: st) w cn sn := w_iconst d_53_33 (by decide)
theorem d_53_34 : decode (mB 53) 34 = .ok (.istore_n 2, 1) := by decide +kernel
theorem s_53_34 {d : Nat} {Q : wQ} {L : List (Option Value)} {st : List Value} {w : aw} {cn sn : Nat} {a0 a1 a2 : Option Value} {v : Int32} : wp d 53 Q 34 (a0 :: a1 :: a2 :: L) (.int v :: st) w cn sn = wp d 53 Q 35 (a0 :: clr a1 :: some (.int v) :: L) st w cn sn := w_istore_n d_53_34 (Nat.le_add_left 3 _) rfl
theorem d_53_35 : decode (mB 53) 35 = .ok (.aload_n 0, 1) := by decide +kernel
theorem s_53_35 {d : Nat} {Q : wQ} {L : List (Option Value)} {st : List Value} {w : aw} {cn sn : Nat} {v : Nat} : wp d 53 Q 35 (some (.ref v) :: L) st w cn sn = wp d 53 Q 36 (some (.ref v) :: L) (.ref v :: st) w cn sn := w_aload_n d_53_35 rfl
theorem d_53_36 : decode (mB 53) 36 = .ok (.getfield 52, 3) := by decide +kernel
theorem s_53_36 {d : Nat} {Q : wQ} {L : List (Option Value)} {st : List Value} {w : aw} {cn sn : Nat} {a : Nat} : wp d 53 Q 36 L (.ref a :: st) w cn sn = (kd w a = 5 ∧ wp d 53 Q 39 L (fd w 258 a :: st) w cn sn) := w_getfield d_53_36 (by decide +kernel : fT (mO 53) 52 = some (4, 2))
theorem d_53_39 : decode (mB 53) 39 = .ok (.istore_n 3, 1) := by decide +kernel
theorem s_53_39 {d : Nat} {Q : wQ} {L : List (Option Value)} {st : List Value} {w : aw} {cn sn : Nat} {a0 a1 a2 a3 : Option Value} {v : Int32} : wp d 53 Q 39 (a0 :: a1 :: a2 :: a3 :: L) (.int v :: st) w cn sn = wp d 53 Q 40 (a0 :: a1 :: clr a2 :: some (.int v) :: L) st w cn sn := w_istore_n d_53_39 (Nat.le_add_left 4 _) rfl
theorem d_53_40 : decode (mB 53) 40 = .ok (.iload_n 3, 1) := by decide +kernel
theorem s_53_40 {d : Nat} {Q : wQ} {L : List (Option Value)} {st : List Value} {w : aw} {cn sn : Nat} {a0 a1 a2 : Option Value} {v : Int32} : wp d 53 Q 40 (a0 :: a1 :: a2 :: some (.int v) :: L) st w cn sn = wp d 53 Q 41 (a0 :: a1 :: a2 :: some (.int v) :: L) (.int v :: st) w cn sn := w_iload_n d_53_40 rfl
theorem d_53_41 : decode (mB 53) 41 = .ok (.aload_n 0, 1) := by decide +kernel
theorem s_53_41 {d : Nat} {Q : wQ} {L : List (Option Value)} {st : List Value} {w : aw} {cn sn : Nat} {v : Nat} : wp d 53 Q 41 (some (.ref v) :: L) st w cn sn = wp d 53 Q 42 (some (.ref v) :: L) (.ref v :: st) w cn sn := w_aload_n d_53_41 rfl
theorem d_53_42 : decode (mB 53) 42 = .ok (.getfield 19, 3) := by decide +kernel
theorem s_53_42 {d : Nat} {Q : wQ} {L : List (Option Value)} {st : List Value} {w : aw} {cn sn : Nat} {a : Nat} : wp d 53 Q 42 L (.ref a :: st) w cn sn = (kd w a = 5 ∧ wp d 53 Q 45 L (fd w 259 a :: st) w cn sn) := w_getfield d_53_42 (by decide +kernel : fT (mO 53) 19 = some (4, 3))
theorem d_53_45 : decode (mB 53) 45 = .ok (.if_icmp .gt 92, 3) := by decide +kernel
theorem s_53_45 {d : Nat} {Q : wQ} {L : List (Option Value)} {st : List Value} {w : aw} {cn sn : Nat} {a b : Int32} : wp d 53 Q 45 L (.int b :: .int a :: st) w cn sn = ((b < a → wp d 53 Q 137 L st w cn sn) ∧ (¬ b < a → wp d 53 Q 48 L st w cn sn)) := w_icgt d_53_45 (by decide)
theorem d_53_48 : decode (mB 53) 48 = .ok (.aload_n 0, 1) := by decide +kernel
theorem s_53_48 {d : Nat} {Q : wQ} {L : List (Option Value)} {st : List Value} {w : aw} {cn sn : Nat} {v : Nat} : wp d 53 Q 48 (some (.ref v) :: L) st w cn sn = wp d 53 Q 49 (some (.ref v) :: L) (.ref v :: st) w cn sn := w_aload_n d_53_48 rfl
theorem d_53_49 : decode (mB 53) 49 = .ok (.invokevirtual 112, 3) := by decide +kernel
theorem s_53_49 {d : Nat} {Q : wQ} {L : List (Option Value)} {st : List Value} {w : aw} {cn sn : Nat} {b : Nat} : wp d 53 Q 49 L (.ref b :: st) w cn sn = (kd w b = 5 ∧ catS st ≤ 8 ∧ wpD d 54 [.ref b] w (fun v w' => wp d 53 Q 52 L (v.toList ++ st) w' cn sn)) := w_virtual (As := []) d_53_49 (by decide +kernel : cT (mO 53) 112 = some (0, 54)) rfl (by decide +kernel) rfl (by decide +kernel) rfl
theorem d_53_52 : decode (mB 53) 52 = .ok (.istore 4, 2) := by decide +kernel
theorem s_53_52 {d : Nat} {Q : wQ} {L : List (Option Value)} {st : List Value} {w : aw} {cn sn : Nat} {a0 a1 a2 a3 a4 : Option Value} {v : Int32} : wp d 53 Q 52 (a0 :: a1 :: a2 :: a3 :: a4 :: L) (.int v :: st) w cn sn = wp d 53 Q 54 (a0 :: a1 :: a2 :: clr a3 :: some (.int v) :: L) st w cn sn := w_istore d_53_52 (Nat.le_add_left 5 _) rfl
theorem d_53_54 : decode (mB 53) 54 = .ok (.iload_n 1, 1) := by decide +kernel
theorem s_53_54 {d : Nat} {Q : wQ} {L : List (Option Value)} {st : List Value} {w : aw} {cn sn : Nat} {a0 : Option Value} {v : Int32} : wp d 53 Q 54 (a0 :: some (.int v) :: L) st w cn sn = wp d 53 Q 55 (a0 :: some (.int v) :: L) (.int v :: st) w cn sn := w_iload_n d_53_54 rfl
theorem d_53_55 : decode (mB 53) 55 = .ok (.ifCond .eq 10, 3) := by decide +kernel
theorem s_53_55 {d : Nat} {Q : wQ} {L : List (Option Value)} {st : List Value} {w : aw} {cn sn : Nat} {x : Int32} : wp d 53 Q 55 L (.int x :: st) w cn sn = ((x = 0 → wp d 53 Q 65 L st w cn sn) ∧ (¬ x = 0 → wp d 53 Q 58 L st w cn sn)) := w_ifeq d_53_55 (by decide)
theorem d_53_58 : decode (mB 53) 58 = .ok (.iload_n 2, 1) := by decide +kernel
theorem s_53_58 {d : Nat} {Q : wQ} {L : List (Option Value)} {st : List Value} {w : aw} {cn sn : Nat} {a0 a1 : Option Value} {v : Int32} : wp d 53 Q 58 (a0 :: a1 :: some (.int v) :: L) st w cn sn = wp d 53 Q 59 (a0 :: a1 :: some (.int v) :: L) (.int v :: st) w cn sn := w_iload_n d_53_58 rfl
theorem d_53_59 : decode (mB 53) 59 = .ok (.iload 4, 2) := by decide +kernel
theorem s_53_59 {d : Nat} {Q : wQ} {L : List (Option Value)} {st : List Value} {w : aw} {cn sn : Nat} {a0 a1 a2 a3 : Option Value} {v : Int32} : wp d 53 Q 59 (a0 :: a1 :: a2 :: a3 :: some (.int v) :: L) st w cn sn = wp d 53 Q 61 (a0 :: a1 :: a2 :: a3 :: some (.int v) :: L) (.int v :: st) w cn sn := w_iload d_53_59 rfl
theorem d_53_61 : decode (mB 53) 61 = .ok (.isub, 1) := by decide +kernel
theorem s_53_61 {d : Nat} {Q : wQ} {L : List (Option Value)} {st : List Value} {w : aw} {cn sn : Nat} {a b : Int32} : wp d 53 Q 61 L (.int b :: .int a :: st) w cn sn = wp d 53 Q 62 L (.int (a - b) :: st) w cn sn := wp_row d_53_61 _ _ _ _ _
theorem d_53_62 : decode (mB 53) 62 = .ok (.goto 7, 3) := by decide +kernel
theorem s_53_62 {d : Nat} {Q : wQ} {L : List (Option Value)} {st : List Value} {w : aw} {cn sn : Nat}  : wp d 53 Q 62 L st w cn sn = wp d 53 Q 69 L st w cn sn := w_goto d_53_62 (by decide)
theorem d_53_65 : decode (mB 53) 65 = .ok (.iload_n 2, 1) := by decide +kernel
theorem s_53_65 {d : Nat} {Q : wQ} {L : List (Option Value)} {st : List Value} {w : aw} {cn sn : Nat} {a0 a1 : Option Value} {v : Int32} : wp d 53 Q 65 (a0 :: a1 :: some (.int v) :: L) st w cn sn = wp d 53 Q 66 (a0 :: a1 :: some (.int v) :: L) (.int v :: st) w cn sn := w_iload_n d_53_65 rfl
theorem d_53_66 : decode (mB 53) 66 = .ok (.iload 4, 2) := by decide +kernel
theorem s_53_66 {d : Nat} {Q : wQ} {L : List (Option Value)} {st : List Value} {w : aw} {cn sn : Nat} {a0 a1 a2 a3 : Option Value} {v : Int32} : wp d 53 Q 66 (a0 :: a1 :: a2 :: a3 :: some (.int v) :: L) st w cn sn = wp d 53 Q 68 (a0 :: a1 :: a2 :: a3 :: some (.int v) :: L) (.int v :: st) w cn sn := w_iload d_53_66 rfl
theorem d_53_68 : decode (mB 53) 68 = .ok (.iadd, 1) := by decide +kernel
theorem s_53_68 {d : Nat} {Q : wQ} {L : List (Option Value)} {st : List Value} {w : aw} {cn sn : Nat} {a b : Int32} : wp d 53 Q 68 L (.int b :: .int a :: st) w cn sn = wp d 53 Q 69 L (.int (a + b) :: st) w cn sn := wp_row d_53_68 _ _ _ _ _
theorem d_53_69 : decode (mB 53) 69 = .ok (.sipush 4095, 3) := by decide +kernel
theorem s_53_69 {d : Nat} {Q : wQ} {L : List (Option Value)} {st : List Value} {w : aw} {cn sn : Nat}  : wp d 53 Q 69 L st w cn sn = wp d 53 Q 72 L (.int 4095 :: st) w cn sn := w_sipush d_53_69 (by decide)
theorem d_53_72 : decode (mB 53) 72 = .ok (.iand, 1) := by decide +kernel
theorem s_53_72 {d : Nat} {Q : wQ} {L : List (Option Value)} {st : List Value} {w : aw} {cn sn : Nat} {a b : Int32} : wp d 53 Q 72 L (.int b :: .int a :: st) w cn sn = wp d 53 Q 73 L (.int (a &&& b) :: st) w cn sn := wp_row d_53_72 _ _ _ _ _
theorem d_53_73 : decode (mB 53) 73 = .ok (.istore_n 2, 1) := by decide +kernel
theorem s_53_73 {d : Nat} {Q : wQ} {L : List (Option Value)} {st : List Value} {w : aw} {cn sn : Nat} {a0 a1 a2 : Option Value} {v : Int32} : wp d 53 Q 73 (a0 :: a1 :: a2 :: L) (.int v :: st) w cn sn = wp d 53 Q 74 (a0 :: clr a1 :: some (.int v) :: L) st w cn sn := w_istore_n d_53_73 (Nat.le_add_left 3 _) rfl
theorem d_53_74 : decode (mB 53) 74 = .ok (.aload_n 0, 1) := by decide +kernel
theorem s_53_74 {d : Nat} {Q : wQ} {L : List (Option Value)} {st : List Value} {w : aw} {cn sn : Nat} {v : Nat} : wp d 53 Q 74 (some (.ref v) :: L) st w cn sn = wp d 53 Q 75 (some (.ref v) :: L) (.ref v :: st) w cn sn := w_aload_n d_53_74 rfl
theorem d_53_75 : decode (mB 53) 75 = .ok (.aload_n 0, 1) := by decide +kernel
theorem s_53_75 {d : Nat} {Q : wQ} {L : List (Option Value)} {st : List Value} {w : aw} {cn sn : Nat} {v : Nat} : wp d 53 Q 75 (some (.ref v) :: L) st w cn sn = wp d 53 Q 76 (some (.ref v) :: L) (.ref v :: st) w cn sn := w_aload_n d_53_75 rfl
theorem d_53_76 : decode (mB 53) 76 = .ok (.getfield 52, 3) := by decide +kernel
theorem s_53_76 {d : Nat} {Q : wQ} {L : List (Option Value)} {st : List Value} {w : aw} {cn sn : Nat} {a : Nat} : wp d 53 Q 76 L (.ref a :: st) w cn sn = (kd w a = 5 ∧ wp d 53 Q 79 L (fd w 258 a :: st) w cn sn) := w_getfield d_53_76 (by decide +kernel : fT (mO 53) 52 = some (4, 2))
theorem d_53_79 : decode (mB 53) 79 = .ok (.invokevirtual 32, 3) := by decide +kernel
theorem s_53_79 {d : Nat} {Q : wQ} {L : List (Option Value)} {st : List Value} {w : aw} {cn sn : Nat} {v0 : Value} {b : Nat} : wp d 53 Q 79 L (v0 :: .ref b :: st) w cn sn = (kd w b = 5 ∧ catS st ≤ 8 ∧ wpD d 40 [.ref b, v0] w (fun v w' => wp d 53 Q 82 L (v.toList ++ st) w' cn sn)) := w_virtual (As := [v0]) d_53_79 (by decide +kernel : cT (mO 53) 32 = some (0, 40)) rfl (by decide +kernel) rfl (by decide +kernel) rfl
theorem d_53_82 : decode (mB 53) 82 = .ok (.istore 5, 2) := by decide +kernel
theorem s_53_82 {d : Nat} {Q : wQ} {L : List (Option Value)} {st : List Value} {w : aw} {cn sn : Nat} {a0 a1 a2 a3 a4 a5 : Option Value} {v : Int32} : wp d 53 Q 82 (a0 :: a1 :: a2 :: a3 :: a4 :: a5 :: L) (.int v :: st) w cn sn = wp d 53 Q 84 (a0 :: a1 :: a2 :: a3 :: clr a4 :: some (.int v) :: L) st w cn sn := w_istore d_53_82 (Nat.le_add_left 6 _) rfl
theorem d_53_84 : decode (mB 53) 84 = .ok (.aload_n 0, 1) := by decide +kernel
theorem s_53_84 {d : Nat} {Q : wQ} {L : List (Option Value)} {st : List Value} {w : aw} {cn sn : Nat} {v : Nat} : wp d 53 Q 84 (some (.ref v) :: L) st w cn sn = wp d 53 Q 85 (some (.ref v) :: L) (.ref v :: st) w cn sn := w_aload_n d_53_84 rfl
theorem d_53_85 : decode (mB 53) 85 = .ok (.getfield 79, 3) := by decide +kernel
theorem s_53_85 {d : Nat} {Q : wQ} {L : List (Option Value)} {st : List Value} {w : aw} {cn sn : Nat} {a : Nat} : wp d 53 Q 85 L (.ref a :: st) w cn sn = (kd w a = 5 ∧ wp d 53 Q 88 L (fd w 267 a :: st) w cn sn) := w_getfield d_53_85 (by decide +kernel : fT (mO 53) 79 = some (4, 11))
theorem d_53_88 : decode (mB 53) 88 = .ok (.ifCond .ne 49, 3) := by decide +kernel
theorem s_53_88 {d : Nat} {Q : wQ} {L : List (Option Value)} {st : List Value} {w : aw} {cn sn : Nat} {x : Int32} : wp d 53 Q 88 L (.int x :: st) w cn sn = ((¬ x = 0 → wp d 53 Q 137 L st w cn sn) ∧ (x = 0 → wp d 53 Q 91 L st w cn sn)) := w_ifne d_53_88 (by decide)
theorem d_53_91 : decode (mB 53) 91 = .ok (.iload 5, 2) := by decide +kernel
theorem s_53_91 {d : Nat} {Q : wQ} {L : List (Option Value)} {st : List Value} {w : aw} {cn sn : Nat} {a0 a1 a2 a3 a4 : Option Value} {v : Int32} : wp d 53 Q 91 (a0 :: a1 :: a2 :: a3 :: a4 :: some (.int v) :: L) st w cn sn = wp d 53 Q 93 (a0 :: a1 :: a2 :: a3 :: a4 :: some (.int v) :: L) (.int v :: st) w cn sn := w_iload d_53_91 rfl
theorem d_53_93 : decode (mB 53) 93 = .ok (.bipush 43, 2) := by decide +kernel
theorem s_53_93 {d : Nat} {Q : wQ} {L : List (Option Value)} {st : List Value} {w : aw} {cn sn : Nat}  : wp d 53 Q 93 L st w cn sn = wp d 53 Q 95 L (.int 43 :: st) w cn sn := w_bipush d_53_93 (by decide)
theorem d_53_95 : decode (mB 53) 95 = .ok (.if_icmp .eq 13, 3) := by decide +kernel
theorem s_53_95 {d : Nat} {Q : wQ} {L : List (Option Value)} {st : List Value} {w : aw} {cn sn : Nat} {a b : Int32} : wp d 53 Q 95 L (.int b :: .int a :: st) w cn sn = ((a = b → wp d 53 Q 108 L st w cn sn) ∧ (¬ a = b → wp d 53 Q 98 L st w cn sn)) := w_iceq d_53_95 (by decide)
theorem d_53_98 : decode (mB 53) 98 = .ok (.iload 5, 2) := by decide +kernel
theorem s_53_98 {d : Nat} {Q : wQ} {L : List (Option Value)} {st : List Value} {w : aw} {cn sn : Nat} {a0 a1 a2 a3 a4 : Option Value} {v : Int32} : wp d 53 Q 98 (a0 :: a1 :: a2 :: a3 :: a4 :: some (.int v) :: L) st w cn sn = wp d 53 Q 100 (a0 :: a1 :: a2 :: a3 :: a4 :: some (.int v) :: L) (.int v :: st) w cn sn := w_iload d_53_98 rfl
theorem d_53_100 : decode (mB 53) 100 = .ok (.bipush 45, 2) := by decide +kernel
theorem s_53_100 {d : Nat} {Q : wQ} {L : List (Option Value)} {st : List Value} {w : aw} {cn sn : Nat}  : wp d 53 Q 100 L st w cn sn = wp d 53 Q 102 L (.int 45 :: st) w cn sn := w_bipush d_53_100 (by decide)
theorem d_53_102 : decode (mB 53) 102 = .ok (.if_icmp .eq 6, 3) := by decide +kernel
theorem s_53_102 {d : Nat} {Q : wQ} {L : List (Option Value)} {st : List Value} {w : aw} {cn sn : Nat} {a b : Int32} : wp d 53 Q 102 L (.int b :: .int a :: st) w cn sn = ((a = b → wp d 53 Q 108 L st w cn sn) ∧ (¬ a = b → wp d 53 Q 105 L st w cn sn)) := w_iceq d_53_102 (by decide)
theorem d_53_105 : decode (mB 53) 105 = .ok (.goto 32, 3) := by decide +kernel
theorem s_53_105 {d : Nat} {Q : wQ} {L : List (Option Value)} {st : List Value} {w : aw} {cn sn : Nat}  : wp d 53 Q 105 L st w cn sn = wp d 53 Q 137 L st w cn sn := w_goto d_53_105 (by decide)
theorem d_53_108 : decode (mB 53) 108 = .ok (.iload 5, 2) := by decide +kernel
theorem s_53_108 {d : Nat} {Q : wQ} {L : List (Option Value)} {st : List Value} {w : aw} {cn sn : Nat} {a0 a1 a2 a3 a4 : Option Value} {v : Int32} : wp d 53 Q 108 (a0 :: a1 :: a2 :: a3 :: a4 :: some (.int v) :: L) st w cn sn = wp d 53 Q 110 (a0 :: a1 :: a2 :: a3 :: a4 :: some (.int v) :: L) (.int v :: st) w cn sn := w_iload d_53_108 rfl
theorem d_53_110 : decode (mB 53) 110 = .ok (.bipush 45, 2) := by decide +kernel
theorem s_53_110 {d : Nat} {Q : wQ} {L : List (Option Value)} {st : List Value} {w : aw} {cn sn : Nat}  : wp d 53 Q 110 L st w cn sn = wp d 53 Q 112 L (.int 45 :: st) w cn sn := w_bipush d_53_110 (by decide)
theorem d_53_112 : decode (mB 53) 112 = .ok (.if_icmp .ne 7, 3) := by decide +kernel
theorem s_53_112 {d : Nat} {Q : wQ} {L : List (Option Value)} {st : List Value} {w : aw} {cn sn : Nat} {a b : Int32} : wp d 53 Q 112 L (.int b :: .int a :: st) w cn sn = ((¬ a = b → wp d 53 Q 119 L st w cn sn) ∧ (a = b → wp d 53 Q 115 L st w cn sn)) := w_icne d_53_112 (by decide)
theorem d_53_115 : decode (mB 53) 115 = .ok (.iconst 1, 1) := by decide +kernel
theorem s_53_115 {d : Nat} {Q : wQ} {L : List (Option Value)} {st : List Value} {w : aw} {cn sn : Nat}  : wp d 53 Q 115 L st w cn sn = wp d 53 Q 116 L (.int 1 :: st) w cn sn := w_iconst d_53_115 (by decide)
theorem d_53_116 : decode (mB 53) 116 = .ok (.goto 4, 3) := by decide +kernel
theorem s_53_116 {d : Nat} {Q : wQ} {L : List (Option Value)} {st : List Value} {w : aw} {cn sn : Nat}  : wp d 53 Q 116 L st w cn sn = wp d 53 Q 120 L st w cn sn := w_goto d_53_116 (by decide)
theorem d_53_119 : decode (mB 53) 119 = .ok (.iconst 0, 1) := by decide +kernel
theorem s_53_119 {d : Nat} {Q : wQ} {L : List (Option Value)} {st : List Value} {w : aw} {cn sn : Nat}  : wp d 53 Q 119 L st w cn sn = wp d 53 Q 120 L (.int 0 :: st) w cn sn := w_iconst d_53_119 (by decide)
theorem d_53_120 : decode (mB 53) 120 = .ok (.istore_n 1, 1) := by decide +kernel
theorem s_53_120 {d : Nat} {Q : wQ} {L : List (Option Value)} {st : List Value} {w : aw} {cn sn : Nat} {a0 a1 : Option Value} {v : Int32} : wp d 53 Q 120 (a0 :: a1 :: L) (.int v :: st) w cn sn = wp d 53 Q 121 (clr a0 :: some (.int v) :: L) st w cn sn := w_istore_n d_53_120 (Nat.le_add_left 2 _) rfl
theorem d_53_121 : decode (mB 53) 121 = .ok (.aload_n 0, 1) := by decide +kernel
theorem s_53_121 {d : Nat} {Q : wQ} {L : List (Option Value)} {st : List Value} {w : aw} {cn sn : Nat} {v : Nat} : wp d 53 Q 121 (some (.ref v) :: L) st w cn sn = wp d 53 Q 122 (some (.ref v) :: L) (.ref v :: st) w cn sn := w_aload_n d_53_121 rfl
theorem d_53_122 : decode (mB 53) 122 = .ok (.dup, 1) := by decide +kernel
theorem s_53_122 {d : Nat} {Q : wQ} {L : List (Option Value)} {st : List Value} {w : aw} {cn sn : Nat} {v : Value} : wp d 53 Q 122 L (v :: st) w cn sn = (v.category = 1 ∧ wp d 53 Q 123 L (v :: v :: st) w cn sn) := wp_row d_53_122 _ _ _ _ _
theorem d_53_123 : decode (mB 53) 123 = .ok (.getfield 52, 3) := by decide +kernel
theorem s_53_123 {d : Nat} {Q : wQ} {L : List (Option Value)} {st : List Value} {w : aw} {cn sn : Nat} {a : Nat} : wp d 53 Q 123 L (.ref a :: st) w cn sn = (kd w a = 5 ∧ wp d 53 Q 126 L (fd w 258 a :: st) w cn sn) := w_getfield d_53_123 (by decide +kernel : fT (mO 53) 52 = some (4, 2))
theorem d_53_126 : decode (mB 53) 126 = .ok (.iconst 1, 1) := by decide +kernel
theorem s_53_126 {d : Nat} {Q : wQ} {L : List (Option Value)} {st : List Value} {w : aw} {cn sn : Nat}  : wp d 53 Q 126 L st w cn sn = wp d 53 Q 127 L (.int 1 :: st) w cn sn := w_iconst d_53_126 (by decide)
theorem d_53_127 : decode (mB 53) 127 = .ok (.iadd, 1) := by decide +kernel
theorem s_53_127 {d : Nat} {Q : wQ} {L : List (Option Value)} {st : List Value} {w : aw} {cn sn : Nat} {a b : Int32} : wp d 53 Q 127 L (.int b :: .int a :: st) w cn sn = wp d 53 Q 128 L (.int (a + b) :: st) w cn sn := wp_row d_53_127 _ _ _ _ _
theorem d_53_128 : decode (mB 53) 128 = .ok (.putfield 52, 3) := by decide +kernel
theorem s_53_128 {d : Nat} {Q : wQ} {L : List (Option Value)} {st : List Value} {w : aw} {cn sn : Nat} {x : Int32} {a : Nat} : wp d 53 Q 128 L (.int x :: .ref a :: st) w cn sn = (kd w a = 5 ∧ wp d 53 Q 131 L st (uF w 258 a (.int x)) cn sn) := w_putfield d_53_128 (by decide +kernel : fT (mO 53) 52 = some (4, 2)) (by decide +kernel) ok_int
theorem d_53_131 : decode (mB 53) 131 = .ok (.iinc 3 1, 3) := by decide +kernel
theorem s_53_131 {d : Nat} {Q : wQ} {L : List (Option Value)} {st : List Value} {w : aw} {cn sn : Nat} {a0 a1 a2 : Option Value} {v : Int32} : wp d 53 Q 131 (a0 :: a1 :: a2 :: some (.int v) :: L) st w cn sn = wp d 53 Q 134 (a0 :: a1 :: clr a2 :: some (.int (v + 1)) :: L) st w cn sn := w_iinc d_53_131 rfl (by decide) rfl
theorem d_53_134 : decode (mB 53) 134 = .ok (.goto (-94), 3) := by decide +kernel
theorem s_53_134 {d : Nat} {Q : wQ} {L : List (Option Value)} {st : List Value} {w : aw} {cn sn : Nat}  : wp d 53 Q 134 L st w cn sn = wp d 53 Q 40 L st w cn sn := w_goto d_53_134 (by decide)
theorem d_53_137 : decode (mB 53) 137 = .ok (.iload_n 2, 1) := by decide +kernel
theorem s_53_137 {d : Nat} {Q : wQ} {L : List (Option Value)} {st : List Value} {w : aw} {cn sn : Nat} {a0 a1 : Option Value} {v : Int32} : wp d 53 Q 137 (a0 :: a1 :: some (.int v) :: L) st w cn sn = wp d 53 Q 138 (a0 :: a1 :: some (.int v) :: L) (.int v :: st) w cn sn := w_iload_n d_53_137 rfl
theorem d_53_138 : decode (mB 53) 138 = .ok (.ireturn, 1) := by decide +kernel
theorem s_53_138 {d : Nat} {Q : wQ} {L : List (Option Value)} {w : aw} {cn sn : Nat} {v : Int32} : wp d 53 Q 138 L [.int v] w cn sn = Q (some (.int v)) w := w_ireturn d_53_138 rfl
theorem d_54_0 : decode (mB 54) 0 = .ok (.aload_n 0, 1) := by decide +kernel
theorem s_54_0 {d : Nat} {Q : wQ} {L : List (Option Value)} {st : List Value} {w : aw} {cn sn : Nat} {v : Nat} : wp d 54 Q 0 (some (.ref v) :: L) st w cn sn = wp d 54 Q 1 (some (.ref v) :: L) (.ref v :: st) w cn sn := w_aload_n d_54_0 rfl
theorem d_54_1 : decode (mB 54) 1 = .ok (.aload_n 0, 1) := by decide +kernel
theorem s_54_1 {d : Nat} {Q : wQ} {L : List (Option Value)} {st : List Value} {w : aw} {cn sn : Nat} {v : Nat} : wp d 54 Q 1 (some (.ref v) :: L) st w cn sn = wp d 54 Q 2 (some (.ref v) :: L) (.ref v :: st) w cn sn := w_aload_n d_54_1 rfl
theorem d_54_2 : decode (mB 54) 2 = .ok (.getfield 52, 3) := by decide +kernel
theorem s_54_2 {d : Nat} {Q : wQ} {L : List (Option Value)} {st : List Value} {w : aw} {cn sn : Nat} {a : Nat} : wp d 54 Q 2 L (.ref a :: st) w cn sn = (kd w a = 5 ∧ wp d 54 Q 5 L (fd w 258 a :: st) w cn sn) := w_getfield d_54_2 (by decide +kernel : fT (mO 54) 52 = some (4, 2))
theorem d_54_5 : decode (mB 54) 5 = .ok (.invokevirtual 32, 3) := by decide +kernel
theorem s_54_5 {d : Nat} {Q : wQ} {L : List (Option Value)} {st : List Value} {w : aw} {cn sn : Nat} {v0 : Value} {b : Nat} : wp d 54 Q 5 L (v0 :: .ref b :: st) w cn sn = (kd w b = 5 ∧ catS st ≤ 8 ∧ wpD d 40 [.ref b, v0] w (fun v w' => wp d 54 Q 8 L (v.toList ++ st) w' cn sn)) := w_virtual (As := [v0]) d_54_5 (by decide +kernel : cT (mO 54) 32 = some (0, 40)) rfl (by decide +kernel) rfl (by decide +kernel) rfl
theorem d_54_8 : decode (mB 54) 8 = .ok (.istore_n 1, 1) := by decide +kernel
theorem s_54_8 {d : Nat} {Q : wQ} {L : List (Option Value)} {st : List Value} {w : aw} {cn sn : Nat} {a0 a1 : Option Value} {v : Int32} : wp d 54 Q 8 (a0 :: a1 :: L) (.int v :: st) w cn sn = wp d 54 Q 9 (clr a0 :: some (.int v) :: L) st w cn sn := w_istore_n d_54_8 (Nat.le_add_left 2 _) rfl
theorem d_54_9 : decode (mB 54) 9 = .ok (.iload_n 1, 1) := by decide +kernel
theorem s_54_9 {d : Nat} {Q : wQ} {L : List (Option Value)} {st : List Value} {w : aw} {cn sn : Nat} {a0 : Option Value} {v : Int32} : wp d 54 Q 9 (a0 :: some (.int v) :: L) st w cn sn = wp d 54 Q 10 (a0 :: some (.int v) :: L) (.int v :: st) w cn sn := w_iload_n d_54_9 rfl
theorem d_54_10 : decode (mB 54) 10 = .ok (.bipush 46, 2) := by decide +kernel
theorem s_54_10 {d : Nat} {Q : wQ} {L : List (Option Value)} {st : List Value} {w : aw} {cn sn : Nat}  : wp d 54 Q 10 L st w cn sn = wp d 54 Q 12 L (.int 46 :: st) w cn sn := w_bipush d_54_10 (by decide)
theorem d_54_12 : decode (mB 54) 12 = .ok (.if_icmp .ne 18, 3) := by decide +kernel
theorem s_54_12 {d : Nat} {Q : wQ} {L : List (Option Value)} {st : List Value} {w : aw} {cn sn : Nat} {a b : Int32} : wp d 54 Q 12 L (.int b :: .int a :: st) w cn sn = ((¬ a = b → wp d 54 Q 30 L st w cn sn) ∧ (a = b → wp d 54 Q 15 L st w cn sn)) := w_icne d_54_12 (by decide)
theorem d_54_15 : decode (mB 54) 15 = .ok (.aload_n 0, 1) := by decide +kernel
theorem s_54_15 {d : Nat} {Q : wQ} {L : List (Option Value)} {st : List Value} {w : aw} {cn sn : Nat} {v : Nat} : wp d 54 Q 15 (some (.ref v) :: L) st w cn sn = wp d 54 Q 16 (some (.ref v) :: L) (.ref v :: st) w cn sn := w_aload_n d_54_15 rfl
theorem d_54_16 : decode (mB 54) 16 = .ok (.dup, 1) := by decide +kernel
theorem s_54_16 {d : Nat} {Q : wQ} {L : List (Option Value)} {st : List Value} {w : aw} {cn sn : Nat} {v : Value} : wp d 54 Q 16 L (v :: st) w cn sn = (v.category = 1 ∧ wp d 54 Q 17 L (v :: v :: st) w cn sn) := wp_row d_54_16 _ _ _ _ _
theorem d_54_17 : decode (mB 54) 17 = .ok (.getfield 52, 3) := by decide +kernel
theorem s_54_17 {d : Nat} {Q : wQ} {L : List (Option Value)} {st : List Value} {w : aw} {cn sn : Nat} {a : Nat} : wp d 54 Q 17 L (.ref a :: st) w cn sn = (kd w a = 5 ∧ wp d 54 Q 20 L (fd w 258 a :: st) w cn sn) := w_getfield d_54_17 (by decide +kernel : fT (mO 54) 52 = some (4, 2))
theorem d_54_20 : decode (mB 54) 20 = .ok (.iconst 1, 1) := by decide +kernel
theorem s_54_20 {d : Nat} {Q : wQ} {L : List (Option Value)} {st : List Value} {w : aw} {cn sn : Nat}  : wp d 54 Q 20 L st w cn sn = wp d 54 Q 21 L (.int 1 :: st) w cn sn := w_iconst d_54_20 (by decide)
theorem d_54_21 : decode (mB 54) 21 = .ok (.iadd, 1) := by decide +kernel
theorem s_54_21 {d : Nat} {Q : wQ} {L : List (Option Value)} {st : List Value} {w : aw} {cn sn : Nat} {a b : Int32} : wp d 54 Q 21 L (.int b :: .int a :: st) w cn sn = wp d 54 Q 22 L (.int (a + b) :: st) w cn sn := wp_row d_54_21 _ _ _ _ _
theorem d_54_22 : decode (mB 54) 22 = .ok (.putfield 52, 3) := by decide +kernel
theorem s_54_22 {d : Nat} {Q : wQ} {L : List (Option Value)} {st : List Value} {w : aw} {cn sn : Nat} {x : Int32} {a : Nat} : wp d 54 Q 22 L (.int x :: .ref a :: st) w cn sn = (kd w a = 5 ∧ wp d 54 Q 25 L st (uF w 258 a (.int x)) cn sn) := w_putfield d_54_22 (by decide +kernel : fT (mO 54) 52 = some (4, 2)) (by decide +kernel) ok_int
theorem d_54_25 : decode (mB 54) 25 = .ok (.aload_n 0, 1) := by decide +kernel
theorem s_54_25 {d : Nat} {Q : wQ} {L : List (Option Value)} {st : List Value} {w : aw} {cn sn : Nat} {v : Nat} : wp d 54 Q 25 (some (.ref v) :: L) st w cn sn = wp d 54 Q 26 (some (.ref v) :: L) (.ref v :: st) w cn sn := w_aload_n d_54_25 rfl
theorem d_54_26 : decode (mB 54) 26 = .ok (.getfield 66, 3) := by decide +kernel
theorem s_54_26 {d : Nat} {Q : wQ} {L : List (Option Value)} {st : List Value} {w : aw} {cn sn : Nat} {a : Nat} : wp d 54 Q 26 L (.ref a :: st) w cn sn = (kd w a = 5 ∧ wp d 54 Q 29 L (fd w 260 a :: st) w cn sn) := w_getfield d_54_26 (by decide +kernel : fT (mO 54) 66 = some (4, 4))
theorem d_54_29 : decode (mB 54) 29 = .ok (.ireturn, 1) := by decide +kernel
theorem s_54_29 {d : Nat} {Q : wQ} {L : List (Option Value)} {w : aw} {cn sn : Nat} {v : Int32} : wp d 54 Q 29 L [.int v] w cn sn = Q (some (.int v)) w := w_ireturn d_54_29 rfl
theorem d_54_30 : decode (mB 54) 30 = .ok (.aload_n 0, 1) := by decide +kernel
theorem s_54_30 {d : Nat} {Q : wQ} {L : List (Option Value)} {st : List Value} {w : aw} {cn sn : Nat} {v : Nat} : wp d 54 Q 30 (some (.ref v) :: L) st w cn sn = wp d 54 Q 31 (some (.ref v) :: L) (.ref v :: st) w cn sn := w_aload_n d_54_30 rfl
theorem d_54_31 : decode (mB 54) 31 = .ok (.aload_n 0, 1) := by decide +kernel
theorem s_54_31 {d : Nat} {Q : wQ} {L : List (Option Value)} {st : List Value} {w : aw} {cn sn : Nat} {v : Nat} : wp d 54 Q 31 (some (.ref v) :: L) st w cn sn = wp d 54 Q 32 (some (.ref v) :: L) (.ref v :: st) w cn sn := w_aload_n d_54_31 rfl
theorem d_54_32 : decode (mB 54) 32 = .ok (.getfield 52, 3) := by decide +kernel
theorem s_54_32 {d : Nat} {Q : wQ} {L : List (Option Value)} {st : List Value} {w : aw} {cn sn : Nat} {a : Nat} : wp d 54 Q 32 L (.ref a :: st) w cn sn = (kd w a = 5 ∧ wp d 54 Q 35 L (fd w 258 a :: st) w cn sn) := w_getfield d_54_32 (by decide +kernel : fT (mO 54) 52 = some (4, 2))
theorem d_54_35 : decode (mB 54) 35 = .ok (.invokevirtual 55, 3) := by decide +kernel
theorem s_54_35 {d : Nat} {Q : wQ} {L : List (Option Value)} {st : List Value} {w : aw} {cn sn : Nat} {v0 : Value} {b : Nat} : wp d 54 Q 35 L (v0 :: .ref b :: st) w cn sn = (kd w b = 5 ∧ catS st ≤ 8 ∧ wpD d 44 [.ref b, v0] w (fun v w' => wp d 54 Q 38 L (v.toList ++ st) w' cn sn)) := w_virtual (As := [v0]) d_54_35 (by decide +kernel : cT (mO 54) 55 = some (0, 44)) rfl (by decide +kernel) rfl (by decide +kernel) rfl
theorem d_54_38 : decode (mB 54) 38 = .ok (.istore_n 2, 1) := by decide +kernel
theorem s_54_38 {d : Nat} {Q : wQ} {L : List (Option Value)} {st : List Value} {w : aw} {cn sn : Nat} {a0 a1 a2 : Option Value} {v : Int32} : wp d 54 Q 38 (a0 :: a1 :: a2 :: L) (.int v :: st) w cn sn = wp d 54 Q 39 (a0 :: clr a1 :: some (.int v) :: L) st w cn sn := w_istore_n d_54_38 (Nat.le_add_left 3 _) rfl
theorem d_54_39 : decode (mB 54) 39 = .ok (.iload_n 1, 1) := by decide +kernel
theorem s_54_39 {d : Nat} {Q : wQ} {L : List (Option Value)} {st : List Value} {w : aw} {cn sn : Nat} {a0 : Option Value} {v : Int32} : wp d 54 Q 39 (a0 :: some (.int v) :: L) st w cn sn = wp d 54 Q 40 (a0 :: some (.int v) :: L) (.int v :: st) w cn sn := w_iload_n d_54_39 rfl
theorem d_54_40 : decode (mB 54) 40 = .ok (.invokestatic 40, 3) := by decide +kernel
theorem s_54_40 {d : Nat} {Q : wQ} {L : List (Option Value)} {st : List Value} {w : aw} {cn sn : Nat} {v0 : Value} : wp d 54 Q 40 L (v0 :: st) w cn sn = (catS st ≤ 8 ∧ wpD d 42 [v0] w (fun v w' => wp d 54 Q 43 L (v.toList ++ st) w' cn sn)) := w_static (As := [v0]) d_54_40 (by decide +kernel : cT (mO 54) 40 = some (2, 42)) (by decide +kernel) rfl (by decide +kernel) rfl
theorem d_54_43 : decode (mB 54) 43 = .ok (.ifCond .eq 9, 3) := by decide +kernel
theorem s_54_43 {d : Nat} {Q : wQ} {L : List (Option Value)} {st : List Value} {w : aw} {cn sn : Nat} {x : Int32} : wp d 54 Q 43 L (.int x :: st) w cn sn = ((x = 0 → wp d 54 Q 52 L st w cn sn) ∧ (¬ x = 0 → wp d 54 Q 46 L st w cn sn)) := w_ifeq d_54_43 (by decide)
theorem d_54_46 : decode (mB 54) 46 = .ok (.aload_n 0, 1) := by decide +kernel
theorem s_54_46 {d : Nat} {Q : wQ} {L : List (Option Value)} {st : List Value} {w : aw} {cn sn : Nat} {v : Nat} : wp d 54 Q 46 (some (.ref v) :: L) st w cn sn = wp d 54 Q 47 (some (.ref v) :: L) (.ref v :: st) w cn sn := w_aload_n d_54_46 rfl
theorem d_54_47 : decode (mB 54) 47 = .ok (.iload_n 2, 1) := by decide +kernel
theorem s_54_47 {d : Nat} {Q : wQ} {L : List (Option Value)} {st : List Value} {w : aw} {cn sn : Nat} {a0 a1 : Option Value} {v : Int32} : wp d 54 Q 47 (a0 :: a1 :: some (.int v) :: L) st w cn sn = wp d 54 Q 48 (a0 :: a1 :: some (.int v) :: L) (.int v :: st) w cn sn := w_iload_n d_54_47 rfl
theorem d_54_48 : decode (mB 54) 48 = .ok (.invokevirtual 115, 3) := by decide +kernel
theorem s_54_48 {d : Nat} {Q : wQ} {L : List (Option Value)} {st : List Value} {w : aw} {cn sn : Nat} {v0 : Value} {b : Nat} : wp d 54 Q 48 L (v0 :: .ref b :: st) w cn sn = (kd w b = 5 ∧ catS st ≤ 8 ∧ wpD d 55 [.ref b, v0] w (fun v w' => wp d 54 Q 51 L (v.toList ++ st) w' cn sn)) := w_virtual (As := [v0]) d_54_48 (by decide +kernel : cT (mO 54) 115 = some (0, 55)) rfl (by decide +kernel) rfl (by decide +kernel) rfl
theorem d_54_51 : decode (mB 54) 51 = .ok (.ireturn, 1) := by decide +kernel
theorem s_54_51 {d : Nat} {Q : wQ} {L : List (Option Value)} {w : aw} {cn sn : Nat} {v : Int32} : wp d 54 Q 51 L [.int v] w cn sn = Q (some (.int v)) w := w_ireturn d_54_51 rfl
theorem d_54_52 : decode (mB 54) 52 = .ok (.aload_n 0, 1) := by decide +kernel
theorem s_54_52 {d : Nat} {Q : wQ} {L : List (Option Value)} {st : List Value} {w : aw} {cn sn : Nat} {v : Nat} : wp d 54 Q 52 (some (.ref v) :: L) st w cn sn = wp d 54 Q 53 (some (.ref v) :: L) (.ref v :: st) w cn sn := w_aload_n d_54_52 rfl
theorem d_54_53 : decode (mB 54) 53 = .ok (.aload_n 0, 1) := by decide +kernel
theorem s_54_53 {d : Nat} {Q : wQ} {L : List (Option Value)} {st : List Value} {w : aw} {cn sn : Nat} {v : Nat} : wp d 54 Q 53 (some (.ref v) :: L) st w cn sn = wp d 54 Q 54 (some (.ref v) :: L) (.ref v :: st) w cn sn := w_aload_n d_54_53 rfl
theorem d_54_54 : decode (mB 54) 54 = .ok (.getfield 52, 3) := by decide +kernel
theorem s_54_54 {d : Nat} {Q : wQ} {L : List (Option Value)} {st : List Value} {w : aw} {cn sn : Nat} {a : Nat} : wp d 54 Q 54 L (.ref a :: st) w cn sn = (kd w a = 5 ∧ wp d 54 Q 57 L (fd w 258 a :: st) w cn sn) := w_getfield d_54_54 (by decide +kernel : fT (mO 54) 52 = some (4, 2))
theorem d_54_57 : decode (mB 54) 57 = .ok (.iload_n 2, 1) := by decide +kernel
theorem s_54_57 {d : Nat} {Q : wQ} {L : List (Option Value)} {st : List Value} {w : aw} {cn sn : Nat} {a0 a1 : Option Value} {v : Int32} : wp d 54 Q 57 (a0 :: a1 :: some (.int v) :: L) st w cn sn = wp d 54 Q 58 (a0 :: a1 :: some (.int v) :: L) (.int v :: st) w cn sn := w_iload_n d_54_57 rfl
theorem d_54_58 : decode (mB 54) 58 = .ok (.invokevirtual 58, 3) := by decide +kernel
theorem s_54_58 {d : Nat} {Q : wQ} {L : List (Option Value)} {st : List Value} {w : aw} {cn sn : Nat} {v0 v1 : Value} {b : Nat} : wp d 54 Q 58 L (v1 :: v0 :: .ref b :: st) w cn sn = (kd w b = 5 ∧ catS st ≤ 8 ∧ wpD d 45 [.ref b, v0, v1] w (fun v w' => wp d 54 Q 61 L (v.toList ++ st) w' cn sn)) := w_virtual (As := [v0, v1]) d_54_58 (by decide +kernel : cT (mO 54) 58 = some (0, 45)) rfl (by decide +kernel) rfl (by decide +kernel) rfl
theorem d_54_61 : decode (mB 54) 61 = .ok (.lstore_n 3, 1) := by decide +kernel
theorem s_54_61 {d : Nat} {Q : wQ} {L : List (Option Value)} {st : List Value} {w : aw} {cn sn : Nat} {a0 a1 a2 a3 a4 : Option Value} {v : Int64} : wp d 54 Q 61 (a0 :: a1 :: a2 :: a3 :: a4 :: L) (.long v :: st) w cn sn = wp d 54 Q 62 (a0 :: a1 :: clr a2 :: some (.long v) :: none :: L) st w cn sn := w_lstore_n d_54_61 (Nat.le_add_left 5 _) rfl
theorem d_54_62 : decode (mB 54) 62 = .ok (.lload_n 3, 1) := by decide +kernel
theorem s_54_62 {d : Nat} {Q : wQ} {L : List (Option Value)} {st : List Value} {w : aw} {cn sn : Nat} {a0 a1 a2 : Option Value} {v : Int64} : wp d 54 Q 62 (a0 :: a1 :: a2 :: some (.long v) :: L) st w cn sn = wp d 54 Q 63 (a0 :: a1 :: a2 :: some (.long v) :: L) (.long v :: st) w cn sn := w_lload_n d_54_62 rfl
theorem d_54_63 : decode (mB 54) 63 = .ok (.lconst 0, 1) := by decide +kernel
theorem s_54_63 {d : Nat} {Q : wQ} {L : List (Option Value)} {st : List Value} {w : aw} {cn sn : Nat}  : wp d 54 Q 63 L st w cn sn = wp d 54 Q 64 L (.long 0 :: st) w cn sn := w_lconst d_54_63 (by decide)
theorem d_54_64 : decode (mB 54) 64 = .ok (.lcmp, 1) := by decide +kernel
theorem s_54_64 {d : Nat} {Q : wQ} {L : List (Option Value)} {st : List Value} {w : aw} {cn sn : Nat} {a b : Int64} : wp d 54 Q 64 L (.long b :: .long a :: st) w cn sn = wp d 54 Q 65 L (.int (lg_cmp a b) :: st) w cn sn := wp_row d_54_64 _ _ _ _ _
theorem d_54_65 : decode (mB 54) 65 = .ok (.ifCond .ne 10, 3) := by decide +kernel
theorem s_54_65 {d : Nat} {Q : wQ} {L : List (Option Value)} {st : List Value} {w : aw} {cn sn : Nat} {x : Int32} : wp d 54 Q 65 L (.int x :: st) w cn sn = ((¬ x = 0 → wp d 54 Q 75 L st w cn sn) ∧ (x = 0 → wp d 54 Q 68 L st w cn sn)) := w_ifne d_54_65 (by decide)
theorem d_54_68 : decode (mB 54) 68 = .ok (.aload_n 0, 1) := by decide +kernel
theorem s_54_68 {d : Nat} {Q : wQ} {L : List (Option Value)} {st : List Value} {w : aw} {cn sn : Nat} {v : Nat} : wp d 54 Q 68 (some (.ref v) :: L) st w cn sn = wp d 54 Q 69 (some (.ref v) :: L) (.ref v :: st) w cn sn := w_aload_n d_54_68 rfl
theorem d_54_69 : decode (mB 54) 69 = .ok (.iconst 1, 1) := by decide +kernel
theorem s_54_69 {d : Nat} {Q : wQ} {L : List (Option Value)} {st : List Value} {w : aw} {cn sn : Nat}  : wp d 54 Q 69 L st w cn sn = wp d 54 Q 70 L (.int 1 :: st) w cn sn := w_iconst d_54_69 (by decide)
theorem d_54_70 : decode (mB 54) 70 = .ok (.putfield 79, 3) := by decide +kernel
theorem s_54_70 {d : Nat} {Q : wQ} {L : List (Option Value)} {st : List Value} {w : aw} {cn sn : Nat} {x : Int32} {a : Nat} : wp d 54 Q 70 L (.int x :: .ref a :: st) w cn sn = (kd w a = 5 ∧ okv .boolean (.int x) ∧ wp d 54 Q 73 L st (uF w 267 a (.int x)) cn sn) := w_putfieldC d_54_70 (by decide +kernel : fT (mO 54) 79 = some (4, 11)) (by decide +kernel)
theorem d_54_73 : decode (mB 54) 73 = .ok (.iconst 0, 1) := by decide +kernel
theorem s_54_73 {d : Nat} {Q : wQ} {L : List (Option Value)} {st : List Value} {w : aw} {cn sn : Nat}  : wp d 54 Q 73 L st w cn sn = wp d 54 Q 74 L (.int 0 :: st) w cn sn := w_iconst d_54_73 (by decide)
theorem d_54_74 : decode (mB 54) 74 = .ok (.ireturn, 1) := by decide +kernel
theorem s_54_74 {d : Nat} {Q : wQ} {L : List (Option Value)} {w : aw} {cn sn : Nat} {v : Int32} : wp d 54 Q 74 L [.int v] w cn sn = Q (some (.int v)) w := w_ireturn d_54_74 rfl
theorem d_54_75 : decode (mB 54) 75 = .ok (.aload_n 0, 1) := by decide +kernel
theorem s_54_75 {d : Nat} {Q : wQ} {L : List (Option Value)} {st : List Value} {w : aw} {cn sn : Nat} {v : Nat} : wp d 54 Q 75 (some (.ref v) :: L) st w cn sn = wp d 54 Q 76 (some (.ref v) :: L) (.ref v :: st) w cn sn := w_aload_n d_54_75 rfl
theorem d_54_76 : decode (mB 54) 76 = .ok (.iload_n 2, 1) := by decide +kernel
theorem s_54_76 {d : Nat} {Q : wQ} {L : List (Option Value)} {st : List Value} {w : aw} {cn sn : Nat} {a0 a1 : Option Value} {v : Int32} : wp d 54 Q 76 (a0 :: a1 :: some (.int v) :: L) st w cn sn = wp d 54 Q 77 (a0 :: a1 :: some (.int v) :: L) (.int v :: st) w cn sn := w_iload_n d_54_76 rfl
theorem d_54_77 : decode (mB 54) 77 = .ok (.putfield 52, 3) := by decide +kernel
theorem s_54_77 {d : Nat} {Q : wQ} {L : List (Option Value)} {st : List Value} {w : aw} {cn sn : Nat} {x : Int32} {a : Nat} : wp d 54 Q 77 L (.int x :: .ref a :: st) w cn sn = (kd w a = 5 ∧ wp d 54 Q 80 L st (uF w 258 a (.int x)) cn sn) := w_putfield d_54_77 (by decide +kernel : fT (mO 54) 52 = some (4, 2)) (by decide +kernel) ok_int
theorem d_54_80 : decode (mB 54) 80 = .ok (.aload_n 0, 1) := by decide +kernel
theorem s_54_80 {d : Nat} {Q : wQ} {L : List (Option Value)} {st : List Value} {w : aw} {cn sn : Nat} {v : Nat} : wp d 54 Q 80 (some (.ref v) :: L) st w cn sn = wp d 54 Q 81 (some (.ref v) :: L) (.ref v :: st) w cn sn := w_aload_n d_54_80 rfl
theorem d_54_81 : decode (mB 54) 81 = .ok (.getfield 15, 3) := by decide +kernel
theorem s_54_81 {d : Nat} {Q : wQ} {L : List (Option Value)} {st : List Value} {w : aw} {cn sn : Nat} {a : Nat} : wp d 54 Q 81 L (.ref a :: st) w cn sn = (kd w a = 5 ∧ wp d 54 Q 84 L (fd w 257 a :: st) w cn sn) := w_getfield d_54_81 (by decide +kernel : fT (mO 54) 15 = some (4, 1))
theorem d_54_84 : decode (mB 54) 84 = .ok (.lload_n 3, 1) := by decide +kernel
theorem s_54_84 {d : Nat} {Q : wQ} {L : List (Option Value)} {st : List Value} {w : aw} {cn sn : Nat} {a0 a1 a2 : Option Value} {v : Int64} : wp d 54 Q 84 (a0 :: a1 :: a2 :: some (.long v) :: L) st w cn sn = wp d 54 Q 85 (a0 :: a1 :: a2 :: some (.long v) :: L) (.long v :: st) w cn sn := w_lload_n d_54_84 rfl
theorem d_54_85 : decode (mB 54) 85 = .ok (.invokevirtual 118, 3) := by decide +kernel
theorem s_54_85 {d : Nat} {Q : wQ} {L : List (Option Value)} {st : List Value} {w : aw} {cn sn : Nat} {v0 : Value} {b : Nat} : wp d 54 Q 85 L (v0 :: .ref b :: st) w cn sn = (kd w b = 4 ∧ catS st ≤ 8 ∧ wpD d 37 [.ref b, v0] w (fun v w' => wp d 54 Q 88 L (v.toList ++ st) w' cn sn)) := w_virtual (As := [v0]) d_54_85 (by decide +kernel : cT (mO 54) 118 = some (0, 37)) rfl (by decide +kernel) rfl (by decide +kernel) rfl
theorem d_54_88 : decode (mB 54) 88 = .ok (.istore 5, 2) := by decide +kernel
theorem s_54_88 {d : Nat} {Q : wQ} {L : List (Option Value)} {st : List Value} {w : aw} {cn sn : Nat} {a0 a1 a2 a3 a4 a5 : Option Value} {v : Int32} : wp d 54 Q 88 (a0 :: a1 :: a2 :: a3 :: a4 :: a5 :: L) (.int v :: st) w cn sn = wp d 54 Q 90 (a0 :: a1 :: a2 :: a3 :: clr a4 :: some (.int v) :: L) st w cn sn := w_istore d_54_88 (Nat.le_add_left 6 _) rfl
theorem d_54_90 : decode (mB 54) 90 = .ok (.aload_n 0, 1) := by decide +kernel
theorem s_54_90 {d : Nat} {Q : wQ} {L : List (Option Value)} {st : List Value} {w : aw} {cn sn : Nat} {v : Nat} : wp d 54 Q 90 (some (.ref v) :: L) st w cn sn = wp d 54 Q 91 (some (.ref v) :: L) (.ref v :: st) w cn sn := w_aload_n d_54_90 rfl
theorem d_54_91 : decode (mB 54) 91 = .ok (.dup, 1) := by decide +kernel
theorem s_54_91 {d : Nat} {Q : wQ} {L : List (Option Value)} {st : List Value} {w : aw} {cn sn : Nat} {v : Value} : wp d 54 Q 91 L (v :: st) w cn sn = (v.category = 1 ∧ wp d 54 Q 92 L (v :: v :: st) w cn sn) := wp_row d_54_91 _ _ _ _ _
theorem d_54_92 : decode (mB 54) 92 = .ok (.getfield 82, 3) := by decide +kernel
theorem s_54_92 {d : Nat} {Q : wQ} {L : List (Option Value)} {st : List Value} {w : aw} {cn sn : Nat} {a : Nat} : wp d 54 Q 92 L (.ref a :: st) w cn sn = (kd w a = 5 ∧ wp d 54 Q 95 L (fd w 268 a :: st) w cn sn) := w_getfield d_54_92 (by decide +kernel : fT (mO 54) 82 = some (4, 12))
theorem d_54_95 : decode (mB 54) 95 = .ok (.iload 5, 2) := by decide +kernel
theorem s_54_95 {d : Nat} {Q : wQ} {L : List (Option Value)} {st : List Value} {w : aw} {cn sn : Nat} {a0 a1 a2 a3 a4 : Option Value} {v : Int32} : wp d 54 Q 95 (a0 :: a1 :: a2 :: a3 :: a4 :: some (.int v) :: L) st w cn sn = wp d 54 Q 97 (a0 :: a1 :: a2 :: a3 :: a4 :: some (.int v) :: L) (.int v :: st) w cn sn := w_iload d_54_95 rfl
theorem d_54_97 : decode (mB 54) 97 = .ok (.iconst (-1), 1) := by decide +kernel
theorem s_54_97 {d : Nat} {Q : wQ} {L : List (Option Value)} {st : List Value} {w : aw} {cn sn : Nat}  : wp d 54 Q 97 L st w cn sn = wp d 54 Q 98 L (.int (-1) :: st) w cn sn := w_iconst d_54_97 (by decide)
theorem d_54_98 : decode (mB 54) 98 = .ok (.if_icmp .ne 7, 3) := by decide +kernel
theorem s_54_98 {d : Nat} {Q : wQ} {L : List (Option Value)} {st : List Value} {w : aw} {cn sn : Nat} {a b : Int32} : wp d 54 Q 98 L (.int b :: .int a :: st) w cn sn = ((¬ a = b → wp d 54 Q 105 L st w cn sn) ∧ (a = b → wp d 54 Q 101 L st w cn sn)) := w_icne d_54_98 (by decide)
theorem d_54_101 : decode (mB 54) 101 = .ok (.iconst 1, 1) := by decide +kernel
theorem s_54_101 {d : Nat} {Q : wQ} {L : List (Option Value)} {st : List Value} {w : aw} {cn sn : Nat}  : wp d 54 Q 101 L st w cn sn = wp d 54 Q 102 L (.int 1 :: st) w cn sn := w_iconst d_54_101 (by decide)
theorem d_54_102 : decode (mB 54) 102 = .ok (.goto 4, 3) := by decide +kernel
theorem s_54_102 {d : Nat} {Q : wQ} {L : List (Option Value)} {st : List Value} {w : aw} {cn sn : Nat}  : wp d 54 Q 102 L st w cn sn = wp d 54 Q 106 L st w cn sn := w_goto d_54_102 (by decide)
theorem d_54_105 : decode (mB 54) 105 = .ok (.iconst 0, 1) := by decide +kernel
theorem s_54_105 {d : Nat} {Q : wQ} {L : List (Option Value)} {st : List Value} {w : aw} {cn sn : Nat}  : wp d 54 Q 105 L st w cn sn = wp d 54 Q 106 L (.int 0 :: st) w cn sn := w_iconst d_54_105 (by decide)
theorem d_54_106 : decode (mB 54) 106 = .ok (.ior, 1) := by decide +kernel
theorem s_54_106 {d : Nat} {Q : wQ} {L : List (Option Value)} {st : List Value} {w : aw} {cn sn : Nat} {a b : Int32} : wp d 54 Q 106 L (.int b :: .int a :: st) w cn sn = wp d 54 Q 107 L (.int (a ||| b) :: st) w cn sn := wp_row d_54_106 _ _ _ _ _
theorem d_54_107 : decode (mB 54) 107 = .ok (.putfield 82, 3) := by decide +kernel
theorem s_54_107 {d : Nat} {Q : wQ} {L : List (Option Value)} {st : List Value} {w : aw} {cn sn : Nat} {x : Int32} {a : Nat} : wp d 54 Q 107 L (.int x :: .ref a :: st) w cn sn = (kd w a = 5 ∧ okv .boolean (.int x) ∧ wp d 54 Q 110 L st (uF w 268 a (.int x)) cn sn) := w_putfieldC d_54_107 (by decide +kernel : fT (mO 54) 82 = some (4, 12)) (by decide +kernel)
theorem d_54_110 : decode (mB 54) 110 = .ok (.iload 5, 2) := by decide +kernel
theorem s_54_110 {d : Nat} {Q : wQ} {L : List (Option Value)} {st : List Value} {w : aw} {cn sn : Nat} {a0 a1 a2 a3 a4 : Option Value} {v : Int32} : wp d 54 Q 110 (a0 :: a1 :: a2 :: a3 :: a4 :: some (.int v) :: L) st w cn sn = wp d 54 Q 112 (a0 :: a1 :: a2 :: a3 :: a4 :: some (.int v) :: L) (.int v :: st) w cn sn := w_iload d_54_110 rfl
theorem d_54_112 : decode (mB 54) 112 = .ok (.iconst (-1), 1) := by decide +kernel
theorem s_54_112 {d : Nat} {Q : wQ} {L : List (Option Value)} {st : List Value} {w : aw} {cn sn : Nat}  : wp d 54 Q 112 L st w cn sn = wp d 54 Q 113 L (.int (-1) :: st) w cn sn := w_iconst d_54_112 (by decide)
theorem d_54_113 : decode (mB 54) 113 = .ok (.if_icmp .ne 7, 3) := by decide +kernel
theorem s_54_113 {d : Nat} {Q : wQ} {L : List (Option Value)} {st : List Value} {w : aw} {cn sn : Nat} {a b : Int32} : wp d 54 Q 113 L (.int b :: .int a :: st) w cn sn = ((¬ a = b → wp d 54 Q 120 L st w cn sn) ∧ (a = b → wp d 54 Q 116 L st w cn sn)) := w_icne d_54_113 (by decide)
theorem d_54_116 : decode (mB 54) 116 = .ok (.iconst 0, 1) := by decide +kernel
theorem s_54_116 {d : Nat} {Q : wQ} {L : List (Option Value)} {st : List Value} {w : aw} {cn sn : Nat}  : wp d 54 Q 116 L st w cn sn = wp d 54 Q 117 L (.int 0 :: st) w cn sn := w_iconst d_54_116 (by decide)
theorem d_54_117 : decode (mB 54) 117 = .ok (.goto 5, 3) := by decide +kernel
theorem s_54_117 {d : Nat} {Q : wQ} {L : List (Option Value)} {st : List Value} {w : aw} {cn sn : Nat}  : wp d 54 Q 117 L st w cn sn = wp d 54 Q 122 L st w cn sn := w_goto d_54_117 (by decide)
theorem d_54_120 : decode (mB 54) 120 = .ok (.iload 5, 2) := by decide +kernel
theorem s_54_120 {d : Nat} {Q : wQ} {L : List (Option Value)} {st : List Value} {w : aw} {cn sn : Nat} {a0 a1 a2 a3 a4 : Option Value} {v : Int32} : wp d 54 Q 120 (a0 :: a1 :: a2 :: a3 :: a4 :: some (.int v) :: L) st w cn sn = wp d 54 Q 122 (a0 :: a1 :: a2 :: a3 :: a4 :: some (.int v) :: L) (.int v :: st) w cn sn := w_iload d_54_120 rfl
theorem d_54_122 : decode (mB 54) 122 = .ok (.ireturn, 1) := by decide +kernel
theorem s_54_122 {d : Nat} {Q : wQ} {L : List (Option Value)} {w : aw} {cn sn : Nat} {v : Int32} : wp d 54 Q 122 L [.int v] w cn sn = Q (some (.int v)) w := w_ireturn d_54_122 rfl
theorem d_55_0 : decode (mB 55) 0 = .ok (.aload_n 0, 1) := by decide +kernel
theorem s_55_0 {d : Nat} {Q : wQ} {L : List (Option Value)} {st : List Value} {w : aw} {cn sn : Nat} {v : Nat} : wp d 55 Q 0 (some (.ref v) :: L) st w cn sn = wp d 55 Q 1 (some (.ref v) :: L) (.ref v :: st) w cn sn := w_aload_n d_55_0 rfl
theorem d_55_1 : decode (mB 55) 1 = .ok (.dup, 1) := by decide +kernel
theorem s_55_1 {d : Nat} {Q : wQ} {L : List (Option Value)} {st : List Value} {w : aw} {cn sn : Nat} {v : Value} : wp d 55 Q 1 L (v :: st) w cn sn = (v.category = 1 ∧ wp d 55 Q 2 L (v :: v :: st) w cn sn) := wp_row d_55_1 _ _ _ _ _
theorem d_55_2 : decode (mB 55) 2 = .ok (.getfield 79, 3) := by decide +kernel
theorem s_55_2 {d : Nat} {Q : wQ} {L : List (Option Value)} {st : List Value} {w : aw} {cn sn : Nat} {a : Nat} : wp d 55 Q 2 L (.ref a :: st) w cn sn = (kd w a = 5 ∧ wp d 55 Q 5 L (fd w 267 a :: st) w cn sn) := w_getfield d_55_2 (by decide +kernel : fT (mO 55) 79 = some (4, 11))
theorem d_55_5 : decode (mB 55) 5 = .ok (.iload_n 1, 1) := by decide +kernel
theorem s_55_5 {d : Nat} {Q : wQ} {L : List (Option Value)} {st : List Value} {w : aw} {cn sn : Nat} {a0 : Option Value} {v : Int32} : wp d 55 Q 5 (a0 :: some (.int v) :: L) st w cn sn = wp d 55 Q 6 (a0 :: some (.int v) :: L) (.int v :: st) w cn sn := w_iload_n d_55_5 rfl
theorem d_55_6 : decode (mB 55) 6 = .ok (.aload_n 0, 1) := by decide +kernel
theorem s_55_6 {d : Nat} {Q : wQ} {L : List (Option Value)} {st : List Value} {w : aw} {cn sn : Nat} {v : Nat} : wp d 55 Q 6 (some (.ref v) :: L) st w cn sn = wp d 55 Q 7 (some (.ref v) :: L) (.ref v :: st) w cn sn := w_aload_n d_55_6 rfl
theorem d_55_7 : decode (mB 55) 7 = .ok (.getfield 52, 3) := by decide +kernel
theorem s_55_7 {d : Nat} {Q : wQ} {L : List (Option Value)} {st : List Value} {w : aw} {cn sn : Nat} {a : Nat} : wp d 55 Q 7 L (.ref a :: st) w cn sn = (kd w a = 5 ∧ wp d 55 Q 10 L (fd w 258 a :: st) w cn sn) := w_getfield d_55_7 (by decide +kernel : fT (mO 55) 52 = some (4, 2))
theorem d_55_10 : decode (mB 55) 10 = .ok (.isub, 1) := by decide +kernel
theorem s_55_10 {d : Nat} {Q : wQ} {L : List (Option Value)} {st : List Value} {w : aw} {cn sn : Nat} {a b : Int32} : wp d 55 Q 10 L (.int b :: .int a :: st) w cn sn = wp d 55 Q 11 L (.int (a - b) :: st) w cn sn := wp_row d_55_10 _ _ _ _ _
theorem d_55_11 : decode (mB 55) 11 = .ok (.iconst 4, 1) := by decide +kernel
theorem s_55_11 {d : Nat} {Q : wQ} {L : List (Option Value)} {st : List Value} {w : aw} {cn sn : Nat}  : wp d 55 Q 11 L st w cn sn = wp d 55 Q 12 L (.int 4 :: st) w cn sn := w_iconst d_55_11 (by decide)
theorem d_55_12 : decode (mB 55) 12 = .ok (.if_icmp .le 7, 3) := by decide +kernel
theorem s_55_12 {d : Nat} {Q : wQ} {L : List (Option Value)} {st : List Value} {w : aw} {cn sn : Nat} {a b : Int32} : wp d 55 Q 12 L (.int b :: .int a :: st) w cn sn = ((a ≤ b → wp d 55 Q 19 L st w cn sn) ∧ (¬ a ≤ b → wp d 55 Q 15 L st w cn sn)) := w_icle d_55_12 (by decide)
theorem d_55_15 : decode (mB 55) 15 = .ok (.iconst 1, 1) := by decide +kernel
theorem s_55_15 {d : Nat} {Q : wQ} {L : List (Option Value)} {st : List Value} {w : aw} {cn sn : Nat}  : wp d 55 Q 15 L st w cn sn = wp d 55 Q 16 L (.int 1 :: st) w cn sn := w_iconst d_55_15 (by decide)
theorem d_55_16 : decode (mB 55) 16 = .ok (.goto 4, 3) := by decide +kernel
theorem s_55_16 {d : Nat} {Q : wQ} {L : List (Option Value)} {st : List Value} {w : aw} {cn sn : Nat}  : wp d 55 Q 16 L st w cn sn = wp d 55 Q 20 L st w cn sn := w_goto d_55_16 (by decide)
theorem d_55_19 : decode (mB 55) 19 = .ok (.iconst 0, 1) := by decide +kernel
theorem s_55_19 {d : Nat} {Q : wQ} {L : List (Option Value)} {st : List Value} {w : aw} {cn sn : Nat}  : wp d 55 Q 19 L st w cn sn = wp d 55 Q 20 L (.int 0 :: st) w cn sn := w_iconst d_55_19 (by decide)
theorem d_55_20 : decode (mB 55) 20 = .ok (.ior, 1) := by decide +kernel
theorem s_55_20 {d : Nat} {Q : wQ} {L : List (Option Value)} {st : List Value} {w : aw} {cn sn : Nat} {a b : Int32} : wp d 55 Q 20 L (.int b :: .int a :: st) w cn sn = wp d 55 Q 21 L (.int (a ||| b) :: st) w cn sn := wp_row d_55_20 _ _ _ _ _
theorem d_55_21 : decode (mB 55) 21 = .ok (.putfield 79, 3) := by decide +kernel
theorem s_55_21 {d : Nat} {Q : wQ} {L : List (Option Value)} {st : List Value} {w : aw} {cn sn : Nat} {x : Int32} {a : Nat} : wp d 55 Q 21 L (.int x :: .ref a :: st) w cn sn = (kd w a = 5 ∧ okv .boolean (.int x) ∧ wp d 55 Q 24 L st (uF w 267 a (.int x)) cn sn) := w_putfieldC d_55_21 (by decide +kernel : fT (mO 55) 79 = some (4, 11)) (by decide +kernel)
theorem d_55_24 : decode (mB 55) 24 = .ok (.iconst 0, 1) := by decide +kernel
theorem s_55_24 {d : Nat} {Q : wQ} {L : List (Option Value)} {st : List Value} {w : aw} {cn sn : Nat}  : wp d 55 Q 24 L st w cn sn = wp d 55 Q 25 L (.int 0 :: st) w cn sn := w_iconst d_55_24 (by decide)
theorem d_55_25 : decode (mB 55) 25 = .ok (.istore_n 2, 1) := by decide +kernel
theorem s_55_25 {d : Nat} {Q : wQ} {L : List (Option Value)} {st : List Value} {w : aw} {cn sn : Nat} {a0 a1 a2 : Option Value} {v : Int32} : wp d 55 Q 25 (a0 :: a1 :: a2 :: L) (.int v :: st) w cn sn = wp d 55 Q 26 (a0 :: clr a1 :: some (.int v) :: L) st w cn sn := w_istore_n d_55_25 (Nat.le_add_left 3 _) rfl
theorem d_55_26 : decode (mB 55) 26 = .ok (.aload_n 0, 1) := by decide +kernel
theorem s_55_26 {d : Nat} {Q : wQ} {L : List (Option Value)} {st : List Value} {w : aw} {cn sn : Nat} {v : Nat} : wp d 55 Q 26 (some (.ref v) :: L) st w cn sn = wp d 55 Q 27 (some (.ref v) :: L) (.ref v :: st) w cn sn := w_aload_n d_55_26 rfl
theorem d_55_27 : decode (mB 55) 27 = .ok (.getfield 52, 3) := by decide +kernel
theorem s_55_27 {d : Nat} {Q : wQ} {L : List (Option Value)} {st : List Value} {w : aw} {cn sn : Nat} {a : Nat} : wp d 55 Q 27 L (.ref a :: st) w cn sn = (kd w a = 5 ∧ wp d 55 Q 30 L (fd w 258 a :: st) w cn sn) := w_getfield d_55_27 (by decide +kernel : fT (mO 55) 52 = some (4, 2))
theorem d_55_30 : decode (mB 55) 30 = .ok (.istore_n 3, 1) := by decide +kernel
theorem s_55_30 {d : Nat} {Q : wQ} {L : List (Option Value)} {st : List Value} {w : aw} {cn sn : Nat} {a0 a1 a2 a3 : Option Value} {v : Int32} : wp d 55 Q 30 (a0 :: a1 :: a2 :: a3 :: L) (.int v :: st) w cn sn = wp d 55 Q 31 (a0 :: a1 :: clr a2 :: some (.int v) :: L) st w cn sn := w_istore_n d_55_30 (Nat.le_add_left 4 _) rfl
theorem d_55_31 : decode (mB 55) 31 = .ok (.iload_n 3, 1) := by decide +kernel
theorem s_55_31 {d : Nat} {Q : wQ} {L : List (Option Value)} {st : List Value} {w : aw} {cn sn : Nat} {a0 a1 a2 : Option Value} {v : Int32} : wp d 55 Q 31 (a0 :: a1 :: a2 :: some (.int v) :: L) st w cn sn = wp d 55 Q 32 (a0 :: a1 :: a2 :: some (.int v) :: L) (.int v :: st) w cn sn := w_iload_n d_55_31 rfl
theorem d_55_32 : decode (mB 55) 32 = .ok (.iload_n 1, 1) := by decide +kernel
theorem s_55_32 {d : Nat} {Q : wQ} {L : List (Option Value)} {st : List Value} {w : aw} {cn sn : Nat} {a0 : Option Value} {v : Int32} : wp d 55 Q 32 (a0 :: some (.int v) :: L) st w cn sn = wp d 55 Q 33 (a0 :: some (.int v) :: L) (.int v :: st) w cn sn := w_iload_n d_55_32 rfl
theorem d_55_33 : decode (mB 55) 33 = .ok (.if_icmp .ge 55, 3) := by decide +kernel
theorem s_55_33 {d : Nat} {Q : wQ} {L : List (Option Value)} {st : List Value} {w : aw} {cn sn : Nat} {a b : Int32} : wp d 55 Q 33 L (.int b :: .int a :: st) w cn sn = ((b ≤ a → wp d 55 Q 88 L st w cn sn) ∧ (¬ b ≤ a → wp d 55 Q 36 L st w cn sn)) := w_icge d_55_33 (by decide)
theorem d_55_36 : decode (mB 55) 36 = .ok (.aload_n 0, 1) := by decide +kernel
theorem s_55_36 {d : Nat} {Q : wQ} {L : List (Option Value)} {st : List Value} {w : aw} {cn sn : Nat} {v : Nat} : wp d 55 Q 36 (some (.ref v) :: L) st w cn sn = wp d 55 Q 37 (some (.ref v) :: L) (.ref v :: st) w cn sn := w_aload_n d_55_36 rfl
theorem d_55_37 : decode (mB 55) 37 = .ok (.getfield 79, 3) := by decide +kernel
theorem s_55_37 {d : Nat} {Q : wQ} {L : List (Option Value)} {st : List Value} {w : aw} {cn sn : Nat} {a : Nat} : wp d 55 Q 37 L (.ref a :: st) w cn sn = (kd w a = 5 ∧ wp d 55 Q 40 L (fd w 267 a :: st) w cn sn) := w_getfield d_55_37 (by decide +kernel : fT (mO 55) 79 = some (4, 11))
theorem d_55_40 : decode (mB 55) 40 = .ok (.ifCond .ne 48, 3) := by decide +kernel
theorem s_55_40 {d : Nat} {Q : wQ} {L : List (Option Value)} {st : List Value} {w : aw} {cn sn : Nat} {x : Int32} : wp d 55 Q 40 L (.int x :: st) w cn sn = ((¬ x = 0 → wp d 55 Q 88 L st w cn sn) ∧ (x = 0 → wp d 55 Q 43 L st w cn sn)) := w_ifne d_55_40 (by decide)
theorem d_55_43 : decode (mB 55) 43 = .ok (.aload_n 0, 1) := by decide +kernel
theorem s_55_43 {d : Nat} {Q : wQ} {L : List (Option Value)} {st : List Value} {w : aw} {cn sn : Nat} {v : Nat} : wp d 55 Q 43 (some (.ref v) :: L) st w cn sn = wp d 55 Q 44 (some (.ref v) :: L) (.ref v :: st) w cn sn := w_aload_n d_55_43 rfl
theorem d_55_44 : decode (mB 55) 44 = .ok (.iload_n 3, 1) := by decide +kernel
theorem s_55_44 {d : Nat} {Q : wQ} {L : List (Option Value)} {st : List Value} {w : aw} {cn sn : Nat} {a0 a1 a2 : Option Value} {v : Int32} : wp d 55 Q 44 (a0 :: a1 :: a2 :: some (.int v) :: L) st w cn sn = wp d 55 Q 45 (a0 :: a1 :: a2 :: some (.int v) :: L) (.int v :: st) w cn sn := w_iload_n d_55_44 rfl
theorem d_55_45 : decode (mB 55) 45 = .ok (.invokevirtual 32, 3) := by decide +kernel
theorem s_55_45 {d : Nat} {Q : wQ} {L : List (Option Value)} {st : List Value} {w : aw} {cn sn : Nat} {v0 : Value} {b : Nat} : wp d 55 Q 45 L (v0 :: .ref b :: st) w cn sn = (kd w b = 5 ∧ catS st ≤ 8 ∧ wpD d 40 [.ref b, v0] w (fun v w' => wp d 55 Q 48 L (v.toList ++ st) w' cn sn)) := w_virtual (As := [v0]) d_55_45 (by decide +kernel : cT (mO 55) 32 = some (0, 40)) rfl (by decide +kernel) rfl (by decide +kernel) rfl
theorem d_55_48 : decode (mB 55) 48 = .ok (.bipush 48, 2) := by decide +kernel
theorem s_55_48 {d : Nat} {Q : wQ} {L : List (Option Value)} {st : List Value} {w : aw} {cn sn : Nat}  : wp d 55 Q 48 L st w cn sn = wp d 55 Q 50 L (.int 48 :: st) w cn sn := w_bipush d_55_48 (by decide)
theorem d_55_50 : decode (mB 55) 50 = .ok (.isub, 1) := by decide +kernel
theorem s_55_50 {d : Nat} {Q : wQ} {L : List (Option Value)} {st : List Value} {w : aw} {cn sn : Nat} {a b : Int32} : wp d 55 Q 50 L (.int b :: .int a :: st) w cn sn = wp d 55 Q 51 L (.int (a - b) :: st) w cn sn := wp_row d_55_50 _ _ _ _ _
theorem d_55_51 : decode (mB 55) 51 = .ok (.istore 4, 2) := by decide +kernel
theorem s_55_51 {d : Nat} {Q : wQ} {L : List (Option Value)} {st : List Value} {w : aw} {cn sn : Nat} {a0 a1 a2 a3 a4 : Option Value} {v : Int32} : wp d 55 Q 51 (a0 :: a1 :: a2 :: a3 :: a4 :: L) (.int v :: st) w cn sn = wp d 55 Q 53 (a0 :: a1 :: a2 :: clr a3 :: some (.int v) :: L) st w cn sn := w_istore d_55_51 (Nat.le_add_left 5 _) rfl
theorem d_55_53 : decode (mB 55) 53 = .ok (.aload_n 0, 1) := by decide +kernel
theorem s_55_53 {d : Nat} {Q : wQ} {L : List (Option Value)} {st : List Value} {w : aw} {cn sn : Nat} {v : Nat} : wp d 55 Q 53 (some (.ref v) :: L) st w cn sn = wp d 55 Q 54 (some (.ref v) :: L) (.ref v :: st) w cn sn := w_aload_n d_55_53 rfl
theorem d_55_54 : decode (mB 55) 54 = .ok (.iload 4, 2) := by decide +kernel
theorem s_55_54 {d : Nat} {Q : wQ} {L : List (Option Value)} {st : List Value} {w : aw} {cn sn : Nat} {a0 a1 a2 a3 : Option Value} {v : Int32} : wp d 55 Q 54 (a0 :: a1 :: a2 :: a3 :: some (.int v) :: L) st w cn sn = wp d 55 Q 56 (a0 :: a1 :: a2 :: a3 :: some (.int v) :: L) (.int v :: st) w cn sn := w_iload d_55_54 rfl
theorem d_55_56 : decode (mB 55) 56 = .ok (.ifCond .lt 10, 3) := by decide +kernel
theorem s_55_56 {d : Nat} {Q : wQ} {L : List (Option Value)} {st : List Value} {w : aw} {cn sn : Nat} {x : Int32} : wp d 55 Q 56 L (.int x :: st) w cn sn = ((x < 0 → wp d 55 Q 66 L st w cn sn) ∧ (¬ x < 0 → wp d 55 Q 59 L st w cn sn)) := w_iflt d_55_56 (by decide)
theorem d_55_59 : decode (mB 55) 59 = .ok (.iload 4, 2) := by decide +kernel
theorem s_55_59 {d : Nat} {Q : wQ} {L : List (Option Value)} {st : List Value} {w : aw} {cn sn : Nat} {a0 a1 a2 a3 : Option Value} {v : Int32} : wp d 55 Q 59 (a0 :: a1 :: a2 :: a3 :: some (.int v) :: L) st w cn sn = wp d 55 Q 61 (a0 :: a1 :: a2 :: a3 :: some (.int v) :: L) (.int v :: st) w cn sn := w_iload d_55_59 rfl
theorem d_55_61 : decode (mB 55) 61 = .ok (.bipush 7, 2) := by decide +kernel
theorem s_55_61 {d : Nat} {Q : wQ} {L : List (Option Value)} {st : List Value} {w : aw} {cn sn : Nat}  : wp d 55 Q 61 L st w cn sn = wp d 55 Q 63 L (.int 7 :: st) w cn sn := w_bipush d_55_61 (by decide)
theorem d_55_63 : decode (mB 55) 63 = .ok (.if_icmp .le 7, 3) := by decide +kernel
theorem s_55_63 {d : Nat} {Q : wQ} {L : List (Option Value)} {st : List Value} {w : aw} {cn sn : Nat} {a b : Int32} : wp d 55 Q 63 L (.int b :: .int a :: st) w cn sn = ((a ≤ b → wp d 55 Q 70 L st w cn sn) ∧ (¬ a ≤ b → wp d 55 Q 66 L st w cn sn)) := w_icle d_55_63 (by decide)
theorem d_55_66 : decode (mB 55) 66 = .ok (.iconst 1, 1) := by decide +kernel
theorem s_55_66 {d : Nat} {Q : wQ} {L : List (Option Value)} {st : List Value} {w : aw} {cn sn : Nat}  : wp d 55 Q 66 L st w cn sn = wp d 55 Q 67 L (.int 1 :: st) w cn sn := w_iconst d_55_66 (by decide)
theorem d_55_67 : decode (mB 55) 67 = .ok (.goto 4, 3) := by decide +kernel
theorem s_55_67 {d : Nat} {Q : wQ} {L : List (Option Value)} {st : List Value} {w : aw} {cn sn : Nat}  : wp d 55 Q 67 L st w cn sn = wp d 55 Q 71 L st w cn sn := w_goto d_55_67 (by decide)
theorem d_55_70 : decode (mB 55) 70 = .ok (.iconst 0, 1) := by decide +kernel
theorem s_55_70 {d : Nat} {Q : wQ} {L : List (Option Value)} {st : List Value} {w : aw} {cn sn : Nat}  : wp d 55 Q 70 L st w cn sn = wp d 55 Q 71 L (.int 0 :: st) w cn sn := w_iconst d_55_70 (by decide)
theorem d_55_71 : decode (mB 55) 71 = .ok (.putfield 79, 3) := by decide +kernel
theorem s_55_71 {d : Nat} {Q : wQ} {L : List (Option Value)} {st : List Value} {w : aw} {cn sn : Nat} {x : Int32} {a : Nat} : wp d 55 Q 71 L (.int x :: .ref a :: st) w cn sn = (kd w a = 5 ∧ okv .boolean (.int x) ∧ wp d 55 Q 74 L st (uF w 267 a (.int x)) cn sn) := w_putfieldC d_55_71 (by decide +kernel : fT (mO 55) 79 = some (4, 11)) (by decide +kernel)
theorem d_55_74 : decode (mB 55) 74 = .ok (.iload_n 2, 1) := by decide +kernel
theorem s_55_74 {d : Nat} {Q : wQ} {L : List (Option Value)} {st : List Value} {w : aw} {cn sn : Nat} {a0 a1 : Option Value} {v : Int32} : wp d 55 Q 74 (a0 :: a1 :: some (.int v) :: L) st w cn sn = wp d 55 Q 75 (a0 :: a1 :: some (.int v) :: L) (.int v :: st) w cn sn := w_iload_n d_55_74 rfl
theorem d_55_75 : decode (mB 55) 75 = .ok (.bipush 8, 2) := by decide +kernel
theorem s_55_75 {d : Nat} {Q : wQ} {L : List (Option Value)} {st : List Value} {w : aw} {cn sn : Nat}  : wp d 55 Q 75 L st w cn sn = wp d 55 Q 77 L (.int 8 :: st) w cn sn := w_bipush d_55_75 (by decide)
theorem d_55_77 : decode (mB 55) 77 = .ok (.imul, 1) := by decide +kernel
theorem s_55_77 {d : Nat} {Q : wQ} {L : List (Option Value)} {st : List Value} {w : aw} {cn sn : Nat} {a b : Int32} : wp d 55 Q 77 L (.int b :: .int a :: st) w cn sn = wp d 55 Q 78 L (.int (a * b) :: st) w cn sn := wp_row d_55_77 _ _ _ _ _
theorem d_55_78 : decode (mB 55) 78 = .ok (.iload 4, 2) := by decide +kernel
theorem s_55_78 {d : Nat} {Q : wQ} {L : List (Option Value)} {st : List Value} {w : aw} {cn sn : Nat} {a0 a1 a2 a3 : Option Value} {v : Int32} : wp d 55 Q 78 (a0 :: a1 :: a2 :: a3 :: some (.int v) :: L) st w cn sn = wp d 55 Q 80 (a0 :: a1 :: a2 :: a3 :: some (.int v) :: L) (.int v :: st) w cn sn := w_iload d_55_78 rfl
theorem d_55_80 : decode (mB 55) 80 = .ok (.iadd, 1) := by decide +kernel
theorem s_55_80 {d : Nat} {Q : wQ} {L : List (Option Value)} {st : List Value} {w : aw} {cn sn : Nat} {a b : Int32} : wp d 55 Q 80 L (.int b :: .int a :: st) w cn sn = wp d 55 Q 81 L (.int (a + b) :: st) w cn sn := wp_row d_55_80 _ _ _ _ _
theorem d_55_81 : decode (mB 55) 81 = .ok (.istore_n 2, 1) := by decide +kernel
theorem s_55_81 {d : Nat} {Q : wQ} {L : List (Option Value)} {st : List Value} {w : aw} {cn sn : Nat} {a0 a1 a2 : Option Value} {v : Int32} : wp d 55 Q 81 (a0 :: a1 :: a2 :: L) (.int v :: st) w cn sn = wp d 55 Q 82 (a0 :: clr a1 :: some (.int v) :: L) st w cn sn := w_istore_n d_55_81 (Nat.le_add_left 3 _) rfl
theorem d_55_82 : decode (mB 55) 82 = .ok (.iinc 3 1, 3) := by decide +kernel
theorem s_55_82 {d : Nat} {Q : wQ} {L : List (Option Value)} {st : List Value} {w : aw} {cn sn : Nat} {a0 a1 a2 : Option Value} {v : Int32} : wp d 55 Q 82 (a0 :: a1 :: a2 :: some (.int v) :: L) st w cn sn = wp d 55 Q 85 (a0 :: a1 :: clr a2 :: some (.int (v + 1)) :: L) st w cn sn := w_iinc d_55_82 rfl (by decide) rfl
theorem d_55_85 : decode (mB 55) 85 = .ok (.goto (-54), 3) := by decide +kernel
theorem s_55_85 {d : Nat} {Q : wQ} {L : List (Option Value)} {st : List Value} {w : aw} {cn sn : Nat}  : wp d 55 Q 85 L st w cn sn = wp d 55 Q 31 L st w cn sn := w_goto d_55_85 (by decide)
theorem d_55_88 : decode (mB 55) 88 = .ok (.aload_n 0, 1) := by decide +kernel
theorem s_55_88 {d : Nat} {Q : wQ} {L : List (Option Value)} {st : List Value} {w : aw} {cn sn : Nat} {v : Nat} : wp d 55 Q 88 (some (.ref v) :: L) st w cn sn = wp d 55 Q 89 (some (.ref v) :: L) (.ref v :: st) w cn sn := w_aload_n d_55_88 rfl
theorem d_55_89 : decode (mB 55) 89 = .ok (.iload_n 1, 1) := by decide +kernel
theorem s_55_89 {d : Nat} {Q : wQ} {L : List (Option Value)} {st : List Value} {w : aw} {cn sn : Nat} {a0 : Option Value} {v : Int32} : wp d 55 Q 89 (a0 :: some (.int v) :: L) st w cn sn = wp d 55 Q 90 (a0 :: some (.int v) :: L) (.int v :: st) w cn sn := w_iload_n d_55_89 rfl
theorem d_55_90 : decode (mB 55) 90 = .ok (.putfield 52, 3) := by decide +kernel
theorem s_55_90 {d : Nat} {Q : wQ} {L : List (Option Value)} {st : List Value} {w : aw} {cn sn : Nat} {x : Int32} {a : Nat} : wp d 55 Q 90 L (.int x :: .ref a :: st) w cn sn = (kd w a = 5 ∧ wp d 55 Q 93 L st (uF w 258 a (.int x)) cn sn) := w_putfield d_55_90 (by decide +kernel : fT (mO 55) 52 = some (4, 2)) (by decide +kernel) ok_int
theorem d_55_93 : decode (mB 55) 93 = .ok (.iload_n 2, 1) := by decide +kernel
theorem s_55_93 {d : Nat} {Q : wQ} {L : List (Option Value)} {st : List Value} {w : aw} {cn sn : Nat} {a0 a1 : Option Value} {v : Int32} : wp d 55 Q 93 (a0 :: a1 :: some (.int v) :: L) st w cn sn = wp d 55 Q 94 (a0 :: a1 :: some (.int v) :: L) (.int v :: st) w cn sn := w_iload_n d_55_93 rfl
theorem d_55_94 : decode (mB 55) 94 = .ok (.ireturn, 1) := by decide +kernel
theorem s_55_94 {d : Nat} {Q : wQ} {L : List (Option Value)} {w : aw} {cn sn : Nat} {v : Int32} : wp d 55 Q 94 L [.int v] w cn sn = Q (some (.int v)) w := w_ireturn d_55_94 rfl
