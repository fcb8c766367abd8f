theorem d_36_0 : decode (mB 36) 0 = .ok (.aload_n 0, 1) := by decide +kernel
theorem s_36_0 {d : Nat} {Q : wQ} {L : List (Option Value)} {st : List Value} {w : aw} {cn sn : Nat} {v : Nat} : wp d 36 Q 0 (some (.ref v) :: L) st w cn sn = wp d 36 Q 1 (some (.ref v) :: L) (.ref v :: st) w cn sn := w_aload_n d_36_0 rfl
theorem d_36_1 : decode (mB 36) 1 = .ok (.invokespecial 3, 3) := by decide +kernel
theorem s_36_1 {d : Nat} {Q : wQ} {L : List (Option Value)} {st : List Value} {w : aw} {cn sn : Nat} {b : Nat} : wp d 36 Q 1 L (.ref b :: st) w cn sn = (catS st ≤ 8 ∧ wp d 36 Q 4 L st w cn sn) := w_objinit d_36_1 (by decide +kernel : cT (mO 36) 3 = some (3, 0))
theorem d_36_4 : decode (mB 36) 4 = .ok (.aload_n 0, 1) := by decide +kernel
theorem s_36_4 {d : Nat} {Q : wQ} {L : List (Option Value)} {st : List Value} {w : aw} {cn sn : Nat} {v : Nat} : wp d 36 Q 4 (some (.ref v) :: L) st w cn sn = wp d 36 Q 5 (some (.ref v) :: L) (.ref v :: st) w cn sn := w_aload_n d_36_4 rfl
theorem d_36_5 : decode (mB 36) 5 = .ok (.aload_n 1, 1) := by decide +kernel
theorem s_36_5 {d : Nat} {Q : wQ} {L : List (Option Value)} {st : List Value} {w : aw} {cn sn : Nat} {a0 : Option Value} {v : Nat} : wp d 36 Q 5 (a0 :: some (.ref v) :: L) st w cn sn = wp d 36 Q 6 (a0 :: some (.ref v) :: L) (.ref v :: st) w cn sn := w_aload_n d_36_5 rfl
theorem s_36_5n {d : Nat} {Q : wQ} {L : List (Option Value)} {st : List Value} {w : aw} {cn sn : Nat} {a0 : Option Value} : wp d 36 Q 5 (a0 :: some .null :: L) st w cn sn = wp d 36 Q 6 (a0 :: some .null :: L) (.null :: st) w cn sn := w_aload_nN d_36_5 rfl
theorem d_36_6 : decode (mB 36) 6 = .ok (.putfield 9, 3) := by decide +kernel
theorem s_36_6 {d : Nat} {Q : wQ} {L : List (Option Value)} {st : List Value} {w : aw} {cn sn : Nat} {x : Nat} {a : Nat} : wp d 36 Q 6 L (.ref x :: .ref a :: st) w cn sn = (kd w a = 5 ∧ wp d 36 Q 9 L st (uF w 256 a (.ref x)) cn sn) := w_putfield d_36_6 (by decide +kernel : fT (mO 36) 9 = some (4, 0)) (by decide +kernel) ok_ref
theorem s_36_6n {d : Nat} {Q : wQ} {L : List (Option Value)} {st : List Value} {w : aw} {cn sn : Nat} {a : Nat} : wp d 36 Q 6 L (.null :: .ref a :: st) w cn sn = (kd w a = 5 ∧ wp d 36 Q 9 L st (uF w 256 a (.null)) cn sn) := w_putfield d_36_6 (by decide +kernel : fT (mO 36) 9 = some (4, 0)) (by decide +kernel) ok_null
theorem d_36_9 : decode (mB 36) 9 = .ok (.aload_n 0, 1) := by decide +kernel
theorem s_36_9 {d : Nat} {Q : wQ} {L : List (Option Value)} {st : List Value} {w : aw} {cn sn : Nat} {v : Nat} : wp d 36 Q 9 (some (.ref v) :: L) st w cn sn = wp d 36 Q 10 (some (.ref v) :: L) (.ref v :: st) w cn sn := w_aload_n d_36_9 rfl
theorem d_36_10 : decode (mB 36) 10 = .ok (.aload_n 2, 1) := by decide +kernel
theorem s_36_10 {d : Nat} {Q : wQ} {L : List (Option Value)} {st : List Value} {w : aw} {cn sn : Nat} {a0 a1 : Option Value} {v : Nat} : wp d 36 Q 10 (a0 :: a1 :: some (.ref v) :: L) st w cn sn = wp d 36 Q 11 (a0 :: a1 :: some (.ref v) :: L) (.ref v :: st) w cn sn := w_aload_n d_36_10 rfl
theorem s_36_10n {d : Nat} {Q : wQ} {L : List (Option Value)} {st : List Value} {w : aw} {cn sn : Nat} {a0 a1 : Option Value} : wp d 36 Q 10 (a0 :: a1 :: some .null :: L) st w cn sn = wp d 36 Q 11 (a0 :: a1 :: some .null :: L) (.null :: st) w cn sn := w_aload_nN d_36_10 rfl
theorem d_36_11 : decode (mB 36) 11 = .ok (.putfield 15, 3) := by decide +kernel
theorem s_36_11 {d : Nat} {Q : wQ} {L : List (Option Value)} {st : List Value} {w : aw} {cn sn : Nat} {x : Nat} {a : Nat} : wp d 36 Q 11 L (.ref x :: .ref a :: st) w cn sn = (kd w a = 5 ∧ wp d 36 Q 14 L st (uF w 257 a (.ref x)) cn sn) := w_putfield d_36_11 (by decide +kernel : fT (mO 36) 15 = some (4, 1)) (by decide +kernel) ok_ref
theorem s_36_11n {d : Nat} {Q : wQ} {L : List (Option Value)} {st : List Value} {w : aw} {cn sn : Nat} {a : Nat} : wp d 36 Q 11 L (.null :: .ref a :: st) w cn sn = (kd w a = 5 ∧ wp d 36 Q 14 L st (uF w 257 a (.null)) cn sn) := w_putfield d_36_11 (by decide +kernel : fT (mO 36) 15 = some (4, 1)) (by decide +kernel) ok_null
theorem d_36_14 : decode (mB 36) 14 = .ok (.return_, 1) := by decide +kernel
theorem s_36_14 {d : Nat} {Q : wQ} {L : List (Option Value)} {w : aw} {cn sn : Nat}  : wp d 36 Q 14 L [] w cn sn = Q none w := w_return d_36_14 rfl
theorem d_37_0 : decode (mB 37) 0 = .ok (.iload_n 1, 1) := by decide +kernel
theorem s_37_0 {d : Nat} {Q : wQ} {L : List (Option Value)} {st : List Value} {w : aw} {cn sn : Nat} {a0 : Option Value} {v : Int32} : wp d 37 Q 0 (a0 :: some (.int v) :: L) st w cn sn = wp d 37 Q 1 (a0 :: some (.int v) :: L) (.int v :: st) w cn sn := w_iload_n d_37_0 rfl
theorem d_37_1 : decode (mB 37) 1 = .ok (.ifCond .lt 22, 3) := by decide +kernel
theorem s_37_1 {d : Nat} {Q : wQ} {L : List (Option Value)} {st : List Value} {w : aw} {cn sn : Nat} {x : Int32} : wp d 37 Q 1 L (.int x :: st) w cn sn = ((x < 0 → wp d 37 Q 23 L st w cn sn) ∧ (¬ x < 0 → wp d 37 Q 4 L st w cn sn)) := w_iflt d_37_1 (by decide)
theorem d_37_4 : decode (mB 37) 4 = .ok (.iload_n 1, 1) := by decide +kernel
theorem s_37_4 {d : Nat} {Q : wQ} {L : List (Option Value)} {st : List Value} {w : aw} {cn sn : Nat} {a0 : Option Value} {v : Int32} : wp d 37 Q 4 (a0 :: some (.int v) :: L) st w cn sn = wp d 37 Q 5 (a0 :: some (.int v) :: L) (.int v :: st) w cn sn := w_iload_n d_37_4 rfl
theorem d_37_5 : decode (mB 37) 5 = .ok (.aload_n 0, 1) := by decide +kernel
theorem s_37_5 {d : Nat} {Q : wQ} {L : List (Option Value)} {st : List Value} {w : aw} {cn sn : Nat} {v : Nat} : wp d 37 Q 5 (some (.ref v) :: L) st w cn sn = wp d 37 Q 6 (some (.ref v) :: L) (.ref v :: st) w cn sn := w_aload_n d_37_5 rfl
theorem d_37_6 : decode (mB 37) 6 = .ok (.getfield 19, 3) := by decide +kernel
theorem s_37_6 {d : Nat} {Q : wQ} {L : List (Option Value)} {st : List Value} {w : aw} {cn sn : Nat} {a : Nat} : wp d 37 Q 6 L (.ref a :: st) w cn sn = (kd w a = 5 ∧ wp d 37 Q 9 L (fd w 259 a :: st) w cn sn) := w_getfield d_37_6 (by decide +kernel : fT (mO 37) 19 = some (4, 3))
theorem d_37_9 : decode (mB 37) 9 = .ok (.if_icmp .ge 14, 3) := by decide +kernel
theorem s_37_9 {d : Nat} {Q : wQ} {L : List (Option Value)} {st : List Value} {w : aw} {cn sn : Nat} {a b : Int32} : wp d 37 Q 9 L (.int b :: .int a :: st) w cn sn = ((b ≤ a → wp d 37 Q 23 L st w cn sn) ∧ (¬ b ≤ a → wp d 37 Q 12 L st w cn sn)) := w_icge d_37_9 (by decide)
theorem d_37_12 : decode (mB 37) 12 = .ok (.iload_n 1, 1) := by decide +kernel
theorem s_37_12 {d : Nat} {Q : wQ} {L : List (Option Value)} {st : List Value} {w : aw} {cn sn : Nat} {a0 : Option Value} {v : Int32} : wp d 37 Q 12 (a0 :: some (.int v) :: L) st w cn sn = wp d 37 Q 13 (a0 :: some (.int v) :: L) (.int v :: st) w cn sn := w_iload_n d_37_12 rfl
theorem d_37_13 : decode (mB 37) 13 = .ok (.aload_n 0, 1) := by decide +kernel
theorem s_37_13 {d : Nat} {Q : wQ} {L : List (Option Value)} {st : List Value} {w : aw} {cn sn : Nat} {v : Nat} : wp d 37 Q 13 (some (.ref v) :: L) st w cn sn = wp d 37 Q 14 (some (.ref v) :: L) (.ref v :: st) w cn sn := w_aload_n d_37_13 rfl
theorem d_37_14 : decode (mB 37) 14 = .ok (.getfield 9, 3) := by decide +kernel
theorem s_37_14 {d : Nat} {Q : wQ} {L : List (Option Value)} {st : List Value} {w : aw} {cn sn : Nat} {a : Nat} : wp d 37 Q 14 L (.ref a :: st) w cn sn = (kd w a = 5 ∧ wp d 37 Q 17 L (fd w 256 a :: st) w cn sn) := w_getfield d_37_14 (by decide +kernel : fT (mO 37) 9 = some (4, 0))
theorem d_37_17 : decode (mB 37) 17 = .ok (.getfield 23, 3) := by decide +kernel
theorem s_37_17 {d : Nat} {Q : wQ} {L : List (Option Value)} {st : List Value} {w : aw} {cn sn : Nat} {a : Nat} : wp d 37 Q 17 L (.ref a :: st) w cn sn = (kd w a = 6 ∧ wp d 37 Q 20 L (fd w 321 a :: st) w cn sn) := w_getfield d_37_17 (by decide +kernel : fT (mO 37) 23 = some (5, 1))
theorem d_37_20 : decode (mB 37) 20 = .ok (.if_icmp .lt 7, 3) := by decide +kernel
theorem s_37_20 {d : Nat} {Q : wQ} {L : List (Option Value)} {st : List Value} {w : aw} {cn sn : Nat} {a b : Int32} : wp d 37 Q 20 L (.int b :: .int a :: st) w cn sn = ((a < b → wp d 37 Q 27 L st w cn sn) ∧ (¬ a < b → wp d 37 Q 23 L st w cn sn)) := w_iclt d_37_20 (by decide)
theorem d_37_23 : decode (mB 37) 23 = .ok (.iconst (-1), 1) := by decide +kernel
theorem s_37_23 {d : Nat} {Q : wQ} {L : List (Option Value)} {st : List Value} {w : aw} {cn sn : Nat}  : wp d 37 Q 23 L st w cn sn = wp d 37 Q 24 L (.int (-1) :: st) w cn sn := w_iconst d_37_23 (by decide)
theorem d_37_24 : decode (mB 37) 24 = .ok (.goto 16, 3) := by decide +kernel
theorem s_37_24 {d : Nat} {Q : wQ} {L : List (Option Value)} {st : List Value} {w : aw} {cn sn : Nat}  : wp d 37 Q 24 L st w cn sn = wp d 37 Q 40 L st w cn sn := w_goto d_37_24 (by decide)
theorem d_37_27 : decode (mB 37) 27 = .ok (.aload_n 0, 1) := by decide +kernel
theorem s_37_27 {d : Nat} {Q : wQ} {L : List (Option Value)} {st : List Value} {w : aw} {cn sn : Nat} {v : Nat} : wp d 37 Q 27 (some (.ref v) :: L) st w cn sn = wp d 37 Q 28 (some (.ref v) :: L) (.ref v :: st) w cn sn := w_aload_n d_37_27 rfl
theorem d_37_28 : decode (mB 37) 28 = .ok (.getfield 9, 3) := by decide +kernel
theorem s_37_28 {d : Nat} {Q : wQ} {L : List (Option Value)} {st : List Value} {w : aw} {cn sn : Nat} {a : Nat} : wp d 37 Q 28 L (.ref a :: st) w cn sn = (kd w a = 5 ∧ wp d 37 Q 31 L (fd w 256 a :: st) w cn sn) := w_getfield d_37_28 (by decide +kernel : fT (mO 37) 9 = some (4, 0))
theorem d_37_31 : decode (mB 37) 31 = .ok (.getfield 28, 3) := by decide +kernel
theorem s_37_31 {d : Nat} {Q : wQ} {L : List (Option Value)} {st : List Value} {w : aw} {cn sn : Nat} {a : Nat} : wp d 37 Q 31 L (.ref a :: st) w cn sn = (kd w a = 6 ∧ wp d 37 Q 34 L (fd w 320 a :: st) w cn sn) := w_getfield d_37_31 (by decide +kernel : fT (mO 37) 28 = some (5, 0))
theorem d_37_34 : decode (mB 37) 34 = .ok (.iload_n 1, 1) := by decide +kernel
theorem s_37_34 {d : Nat} {Q : wQ} {L : List (Option Value)} {st : List Value} {w : aw} {cn sn : Nat} {a0 : Option Value} {v : Int32} : wp d 37 Q 34 (a0 :: some (.int v) :: L) st w cn sn = wp d 37 Q 35 (a0 :: some (.int v) :: L) (.int v :: st) w cn sn := w_iload_n d_37_34 rfl
theorem d_37_35 : decode (mB 37) 35 = .ok (.baload, 1) := by decide +kernel
theorem s_37_35 {d : Nat} {Q : wQ} {L : List (Option Value)} {st : List Value} {w : aw} {cn sn : Nat} {a : Nat} {i : Int32} : wp d 37 Q 35 L (.int i :: .ref a :: st) w cn sn = ((kd w a = 21 ∨ kd w a = 23) ∧ inR i (ln w a) ∧ wp d 37 Q 36 L (.int (ai w a i.toNatClampNeg) :: st) w cn sn) := wp_row d_37_35 _ _ _ _ _
theorem d_37_36 : decode (mB 37) 36 = .ok (.sipush 255, 3) := by decide +kernel
theorem s_37_36 {d : Nat} {Q : wQ} {L : List (Option Value)} {st : List Value} {w : aw} {cn sn : Nat}  : wp d 37 Q 36 L st w cn sn = wp d 37 Q 39 L (.int 255 :: st) w cn sn := w_sipush d_37_36 (by decide)
theorem d_37_39 : decode (mB 37) 39 = .ok (.iand, 1) := by decide +kernel
theorem s_37_39 {d : Nat} {Q : wQ} {L : List (Option Value)} {st : List Value} {w : aw} {cn sn : Nat} {a b : Int32} : wp d 37 Q 39 L (.int b :: .int a :: st) w cn sn = wp d 37 Q 40 L (.int (a &&& b) :: st) w cn sn := wp_row d_37_39 _ _ _ _ _
theorem d_37_40 : decode (mB 37) 40 = .ok (.ireturn, 1) := by decide +kernel
theorem s_37_40 {d : Nat} {Q : wQ} {L : List (Option Value)} {w : aw} {cn sn : Nat} {v : Int32} : wp d 37 Q 40 L [.int v] w cn sn = Q (some (.int v)) w := w_ireturn d_37_40 rfl
theorem d_38_0 : decode (mB 38) 0 = .ok (.iload_n 0, 1) := by decide +kernel
theorem s_38_0 {d : Nat} {Q : wQ} {L : List (Option Value)} {st : List Value} {w : aw} {cn sn : Nat} {v : Int32} : wp d 38 Q 0 (some (.int v) :: L) st w cn sn = wp d 38 Q 1 (some (.int v) :: L) (.int v :: st) w cn sn := w_iload_n d_38_0 rfl
theorem d_38_1 : decode (mB 38) 1 = .ok (.bipush 65, 2) := by decide +kernel
theorem s_38_1 {d : Nat} {Q : wQ} {L : List (Option Value)} {st : List Value} {w : aw} {cn sn : Nat}  : wp d 38 Q 1 L st w cn sn = wp d 38 Q 3 L (.int 65 :: st) w cn sn := w_bipush d_38_1 (by decide)
theorem d_38_3 : decode (mB 38) 3 = .ok (.if_icmp .lt 13, 3) := by decide +kernel
theorem s_38_3 {d : Nat} {Q : wQ} {L : List (Option Value)} {st : List Value} {w : aw} {cn sn : Nat} {a b : Int32} : wp d 38 Q 3 L (.int b :: .int a :: st) w cn sn = ((a < b → wp d 38 Q 16 L st w cn sn) ∧ (¬ a < b → wp d 38 Q 6 L st w cn sn)) := w_iclt d_38_3 (by decide)
theorem d_38_6 : decode (mB 38) 6 = .ok (.iload_n 0, 1) := by decide +kernel
theorem s_38_6 {d : Nat} {Q : wQ} {L : List (Option Value)} {st : List Value} {w : aw} {cn sn : Nat} {v : Int32} : wp d 38 Q 6 (some (.int v) :: L) st w cn sn = wp d 38 Q 7 (some (.int v) :: L) (.int v :: st) w cn sn := w_iload_n d_38_6 rfl
theorem d_38_7 : decode (mB 38) 7 = .ok (.bipush 90, 2) := by decide +kernel
theorem s_38_7 {d : Nat} {Q : wQ} {L : List (Option Value)} {st : List Value} {w : aw} {cn sn : Nat}  : wp d 38 Q 7 L st w cn sn = wp d 38 Q 9 L (.int 90 :: st) w cn sn := w_bipush d_38_7 (by decide)
theorem d_38_9 : decode (mB 38) 9 = .ok (.if_icmp .gt 7, 3) := by decide +kernel
theorem s_38_9 {d : Nat} {Q : wQ} {L : List (Option Value)} {st : List Value} {w : aw} {cn sn : Nat} {a b : Int32} : wp d 38 Q 9 L (.int b :: .int a :: st) w cn sn = ((b < a → wp d 38 Q 16 L st w cn sn) ∧ (¬ b < a → wp d 38 Q 12 L st w cn sn)) := w_icgt d_38_9 (by decide)
theorem d_38_12 : decode (mB 38) 12 = .ok (.iconst 1, 1) := by decide +kernel
theorem s_38_12 {d : Nat} {Q : wQ} {L : List (Option Value)} {st : List Value} {w : aw} {cn sn : Nat}  : wp d 38 Q 12 L st w cn sn = wp d 38 Q 13 L (.int 1 :: st) w cn sn := w_iconst d_38_12 (by decide)
theorem d_38_13 : decode (mB 38) 13 = .ok (.goto 4, 3) := by decide +kernel
theorem s_38_13 {d : Nat} {Q : wQ} {L : List (Option Value)} {st : List Value} {w : aw} {cn sn : Nat}  : wp d 38 Q 13 L st w cn sn = wp d 38 Q 17 L st w cn sn := w_goto d_38_13 (by decide)
theorem d_38_16 : decode (mB 38) 16 = .ok (.iconst 0, 1) := by decide +kernel
theorem s_38_16 {d : Nat} {Q : wQ} {L : List (Option Value)} {st : List Value} {w : aw} {cn sn : Nat}  : wp d 38 Q 16 L st w cn sn = wp d 38 Q 17 L (.int 0 :: st) w cn sn := w_iconst d_38_16 (by decide)
theorem d_38_17 : decode (mB 38) 17 = .ok (.ireturn, 1) := by decide +kernel
theorem s_38_17 {d : Nat} {Q : wQ} {L : List (Option Value)} {w : aw} {cn sn : Nat} {v : Int32} : wp d 38 Q 17 L [.int v] w cn sn = (narrow .boolean (.int v) = .int v ∧ Q (some (.int v)) w) := w_zreturn d_38_17 rfl
theorem d_39_0 : decode (mB 39) 0 = .ok (.iload_n 0, 1) := by decide +kernel
theorem s_39_0 {d : Nat} {Q : wQ} {L : List (Option Value)} {st : List Value} {w : aw} {cn sn : Nat} {v : Int32} : wp d 39 Q 0 (some (.int v) :: L) st w cn sn = wp d 39 Q 1 (some (.int v) :: L) (.int v :: st) w cn sn := w_iload_n d_39_0 rfl
theorem d_39_1 : decode (mB 39) 1 = .ok (.bipush 48, 2) := by decide +kernel
theorem s_39_1 {d : Nat} {Q : wQ} {L : List (Option Value)} {st : List Value} {w : aw} {cn sn : Nat}  : wp d 39 Q 1 L st w cn sn = wp d 39 Q 3 L (.int 48 :: st) w cn sn := w_bipush d_39_1 (by decide)
theorem d_39_3 : decode (mB 39) 3 = .ok (.if_icmp .lt 13, 3) := by decide +kernel
theorem s_39_3 {d : Nat} {Q : wQ} {L : List (Option Value)} {st : List Value} {w : aw} {cn sn : Nat} {a b : Int32} : wp d 39 Q 3 L (.int b :: .int a :: st) w cn sn = ((a < b → wp d 39 Q 16 L st w cn sn) ∧ (¬ a < b → wp d 39 Q 6 L st w cn sn)) := w_iclt d_39_3 (by decide)
theorem d_39_6 : decode (mB 39) 6 = .ok (.iload_n 0, 1) := by decide +kernel
theorem s_39_6 {d : Nat} {Q : wQ} {L : List (Option Value)} {st : List Value} {w : aw} {cn sn : Nat} {v : Int32} : wp d 39 Q 6 (some (.int v) :: L) st w cn sn = wp d 39 Q 7 (some (.int v) :: L) (.int v :: st) w cn sn := w_iload_n d_39_6 rfl
theorem d_39_7 : decode (mB 39) 7 = .ok (.bipush 57, 2) := by decide +kernel
theorem s_39_7 {d : Nat} {Q : wQ} {L : List (Option Value)} {st : List Value} {w : aw} {cn sn : Nat}  : wp d 39 Q 7 L st w cn sn = wp d 39 Q 9 L (.int 57 :: st) w cn sn := w_bipush d_39_7 (by decide)
theorem d_39_9 : decode (mB 39) 9 = .ok (.if_icmp .gt 7, 3) := by decide +kernel
theorem s_39_9 {d : Nat} {Q : wQ} {L : List (Option Value)} {st : List Value} {w : aw} {cn sn : Nat} {a b : Int32} : wp d 39 Q 9 L (.int b :: .int a :: st) w cn sn = ((b < a → wp d 39 Q 16 L st w cn sn) ∧ (¬ b < a → wp d 39 Q 12 L st w cn sn)) := w_icgt d_39_9 (by decide)
theorem d_39_12 : decode (mB 39) 12 = .ok (.iconst 1, 1) := by decide +kernel
theorem s_39_12 {d : Nat} {Q : wQ} {L : List (Option Value)} {st : List Value} {w : aw} {cn sn : Nat}  : wp d 39 Q 12 L st w cn sn = wp d 39 Q 13 L (.int 1 :: st) w cn sn := w_iconst d_39_12 (by decide)
theorem d_39_13 : decode (mB 39) 13 = .ok (.goto 4, 3) := by decide +kernel
theorem s_39_13 {d : Nat} {Q : wQ} {L : List (Option Value)} {st : List Value} {w : aw} {cn sn : Nat}  : wp d 39 Q 13 L st w cn sn = wp d 39 Q 17 L st w cn sn := w_goto d_39_13 (by decide)
theorem d_39_16 : decode (mB 39) 16 = .ok (.iconst 0, 1) := by decide +kernel
theorem s_39_16 {d : Nat} {Q : wQ} {L : List (Option Value)} {st : List Value} {w : aw} {cn sn : Nat}  : wp d 39 Q 16 L st w cn sn = wp d 39 Q 17 L (.int 0 :: st) w cn sn := w_iconst d_39_16 (by decide)
theorem d_39_17 : decode (mB 39) 17 = .ok (.ireturn, 1) := by decide +kernel
theorem s_39_17 {d : Nat} {Q : wQ} {L : List (Option Value)} {w : aw} {cn sn : Nat} {v : Int32} : wp d 39 Q 17 L [.int v] w cn sn = (narrow .boolean (.int v) = .int v ∧ Q (some (.int v)) w) := w_zreturn d_39_17 rfl
theorem d_40_0 : decode (mB 40) 0 = .ok (.iload_n 1, 1) := by decide +kernel
theorem s_40_0 {d : Nat} {Q : wQ} {L : List (Option Value)} {st : List Value} {w : aw} {cn sn : Nat} {a0 : Option Value} {v : Int32} : wp d 40 Q 0 (a0 :: some (.int v) :: L) st w cn sn = wp d 40 Q 1 (a0 :: some (.int v) :: L) (.int v :: st) w cn sn := w_iload_n d_40_0 rfl
theorem d_40_1 : decode (mB 40) 1 = .ok (.istore_n 2, 1) := by decide +kernel
theorem s_40_1 {d : Nat} {Q : wQ} {L : List (Option Value)} {st : List Value} {w : aw} {cn sn : Nat} {a0 a1 a2 : Option Value} {v : Int32} : wp d 40 Q 1 (a0 :: a1 :: a2 :: L) (.int v :: st) w cn sn = wp d 40 Q 2 (a0 :: clr a1 :: some (.int v) :: L) st w cn sn := w_istore_n d_40_1 (Nat.le_add_left 3 _) rfl
theorem d_40_2 : decode (mB 40) 2 = .ok (.iload_n 2, 1) := by decide +kernel
theorem s_40_2 {d : Nat} {Q : wQ} {L : List (Option Value)} {st : List Value} {w : aw} {cn sn : Nat} {a0 a1 : Option Value} {v : Int32} : wp d 40 Q 2 (a0 :: a1 :: some (.int v) :: L) st w cn sn = wp d 40 Q 3 (a0 :: a1 :: some (.int v) :: L) (.int v :: st) w cn sn := w_iload_n d_40_2 rfl
theorem d_40_3 : decode (mB 40) 3 = .ok (.aload_n 0, 1) := by decide +kernel
theorem s_40_3 {d : Nat} {Q : wQ} {L : List (Option Value)} {st : List Value} {w : aw} {cn sn : Nat} {v : Nat} : wp d 40 Q 3 (some (.ref v) :: L) st w cn sn = wp d 40 Q 4 (some (.ref v) :: L) (.ref v :: st) w cn sn := w_aload_n d_40_3 rfl
theorem d_40_4 : decode (mB 40) 4 = .ok (.getfield 19, 3) := by decide +kernel
theorem s_40_4 {d : Nat} {Q : wQ} {L : List (Option Value)} {st : List Value} {w : aw} {cn sn : Nat} {a : Nat} : wp d 40 Q 4 L (.ref a :: st) w cn sn = (kd w a = 5 ∧ wp d 40 Q 7 L (fd w 259 a :: st) w cn sn) := w_getfield d_40_4 (by decide +kernel : fT (mO 40) 19 = some (4, 3))
theorem d_40_7 : decode (mB 40) 7 = .ok (.if_icmp .ge 29, 3) := by decide +kernel
theorem s_40_7 {d : Nat} {Q : wQ} {L : List (Option Value)} {st : List Value} {w : aw} {cn sn : Nat} {a b : Int32} : wp d 40 Q 7 L (.int b :: .int a :: st) w cn sn = ((b ≤ a → wp d 40 Q 36 L st w cn sn) ∧ (¬ b ≤ a → wp d 40 Q 10 L st w cn sn)) := w_icge d_40_7 (by decide)
theorem d_40_10 : decode (mB 40) 10 = .ok (.aload_n 0, 1) := by decide +kernel
theorem s_40_10 {d : Nat} {Q : wQ} {L : List (Option Value)} {st : List Value} {w : aw} {cn sn : Nat} {v : Nat} : wp d 40 Q 10 (some (.ref v) :: L) st w cn sn = wp d 40 Q 11 (some (.ref v) :: L) (.ref v :: st) w cn sn := w_aload_n d_40_10 rfl
theorem d_40_11 : decode (mB 40) 11 = .ok (.iload_n 2, 1) := by decide +kernel
theorem s_40_11 {d : Nat} {Q : wQ} {L : List (Option Value)} {st : List Value} {w : aw} {cn sn : Nat} {a0 a1 : Option Value} {v : Int32} : wp d 40 Q 11 (a0 :: a1 :: some (.int v) :: L) st w cn sn = wp d 40 Q 12 (a0 :: a1 :: some (.int v) :: L) (.int v :: st) w cn sn := w_iload_n d_40_11 rfl
theorem d_40_12 : decode (mB 40) 12 = .ok (.invokevirtual 32, 3) := by decide +kernel
theorem s_40_12 {d : Nat} {Q : wQ} {L : List (Option Value)} {st : List Value} {w : aw} {cn sn : Nat} {v0 : Value} {b : Nat} : wp d 40 Q 12 L (v0 :: .ref b :: st) w cn sn = (kd w b = 5 ∧ catS st ≤ 8 ∧ wpD d 37 [.ref b, v0] w (fun v w' => wp d 40 Q 15 L (v.toList ++ st) w' cn sn)) := w_virtual (As := [v0]) d_40_12 (by decide +kernel : cT (mO 40) 32 = some (0, 37)) rfl (by decide +kernel) rfl (by decide +kernel) rfl
theorem d_40_15 : decode (mB 40) 15 = .ok (.bipush 32, 2) := by decide +kernel
theorem s_40_15 {d : Nat} {Q : wQ} {L : List (Option Value)} {st : List Value} {w : aw} {cn sn : Nat}  : wp d 40 Q 15 L st w cn sn = wp d 40 Q 17 L (.int 32 :: st) w cn sn := w_bipush d_40_15 (by decide)
theorem d_40_17 : decode (mB 40) 17 = .ok (.if_icmp .eq 13, 3) := by decide +kernel
theorem s_40_17 {d : Nat} {Q : wQ} {L : List (Option Value)} {st : List Value} {w : aw} {cn sn : Nat} {a b : Int32} : wp d 40 Q 17 L (.int b :: .int a :: st) w cn sn = ((a = b → wp d 40 Q 30 L st w cn sn) ∧ (¬ a = b → wp d 40 Q 20 L st w cn sn)) := w_iceq d_40_17 (by decide)
theorem d_40_20 : decode (mB 40) 20 = .ok (.aload_n 0, 1) := by decide +kernel
theorem s_40_20 {d : Nat} {Q : wQ} {L : List (Option Value)} {st : List Value} {w : aw} {cn sn : Nat} {v : Nat} : wp d 40 Q 20 (some (.ref v) :: L) st w cn sn = wp d 40 Q 21 (some (.ref v) :: L) (.ref v :: st) w cn sn := w_aload_n d_40_20 rfl
theorem d_40_21 : decode (mB 40) 21 = .ok (.iload_n 2, 1) := by decide +kernel
theorem s_40_21 {d : Nat} {Q : wQ} {L : List (Option Value)} {st : List Value} {w : aw} {cn sn : Nat} {a0 a1 : Option Value} {v : Int32} : wp d 40 Q 21 (a0 :: a1 :: some (.int v) :: L) st w cn sn = wp d 40 Q 22 (a0 :: a1 :: some (.int v) :: L) (.int v :: st) w cn sn := w_iload_n d_40_21 rfl
theorem d_40_22 : decode (mB 40) 22 = .ok (.invokevirtual 32, 3) := by decide +kernel
theorem s_40_22 {d : Nat} {Q : wQ} {L : List (Option Value)} {st : List Value} {w : aw} {cn sn : Nat} {v0 : Value} {b : Nat} : wp d 40 Q 22 L (v0 :: .ref b :: st) w cn sn = (kd w b = 5 ∧ catS st ≤ 8 ∧ wpD d 37 [.ref b, v0] w (fun v w' => wp d 40 Q 25 L (v.toList ++ st) w' cn sn)) := w_virtual (As := [v0]) d_40_22 (by decide +kernel : cT (mO 40) 32 = some (0, 37)) rfl (by decide +kernel) rfl (by decide +kernel) rfl
theorem d_40_25 : decode (mB 40) 25 = .ok (.bipush 9, 2) := by decide +kernel
theorem s_40_25 {d : Nat} {Q : wQ} {L : List (Option Value)} {st : List Value} {w : aw} {cn sn : Nat}  : wp d 40 Q 25 L st w cn sn = wp d 40 Q 27 L (.int 9 :: st) w cn sn := w_bipush d_40_25 (by decide)
theorem d_40_27 : decode (mB 40) 27 = .ok (.if_icmp .ne 9, 3) := by decide +kernel
theorem s_40_27 {d : Nat} {Q : wQ} {L : List (Option Value)} {st : List Value} {w : aw} {cn sn : Nat} {a b : Int32} : wp d 40 Q 27 L (.int b :: .int a :: st) w cn sn = ((¬ a = b → wp d 40 Q 36 L st w cn sn) ∧ (a = b → wp d 40 Q 30 L st w cn sn)) := w_icne d_40_27 (by decide)
theorem d_40_30 : decode (mB 40) 30 = .ok (.iinc 2 1, 3) := by decide +kernel
theorem s_40_30 {d : Nat} {Q : wQ} {L : List (Option Value)} {st : List Value} {w : aw} {cn sn : Nat} {a0 a1 : Option Value} {v : Int32} : wp d 40 Q 30 (a0 :: a1 :: some (.int v) :: L) st w cn sn = wp d 40 Q 33 (a0 :: clr a1 :: some (.int (v + 1)) :: L) st w cn sn := w_iinc d_40_30 rfl (by decide) rfl
theorem d_40_33 : decode (mB 40) 33 = .ok (.goto (-31), 3) := by decide +kernel
theorem s_40_33 {d : Nat} {Q : wQ} {L : List (Option Value)} {st : List Value} {w : aw} {cn sn : Nat}  : wp d 40 Q 33 L st w cn sn = wp d 40 Q 2 L st w cn sn := w_goto d_40_33 (by decide)
theorem d_40_36 : decode (mB 40) 36 = .ok (.iload_n 2, 1) := by decide +kernel
theorem s_40_36 {d : Nat} {Q : wQ} {L : List (Option Value)} {st : List Value} {w : aw} {cn sn : Nat} {a0 a1 : Option Value} {v : Int32} : wp d 40 Q 36 (a0 :: a1 :: some (.int v) :: L) st w cn sn = wp d 40 Q 37 (a0 :: a1 :: some (.int v) :: L) (.int v :: st) w cn sn := w_iload_n d_40_36 rfl
theorem d_40_37 : decode (mB 40) 37 = .ok (.ireturn, 1) := by decide +kernel
theorem s_40_37 {d : Nat} {Q : wQ} {L : List (Option Value)} {w : aw} {cn sn : Nat} {v : Int32} : wp d 40 Q 37 L [.int v] w cn sn = Q (some (.int v)) w := w_ireturn d_40_37 rfl
theorem d_41_0 : decode (mB 41) 0 = .ok (.iload_n 1, 1) := by decide +kernel
theorem s_41_0 {d : Nat} {Q : wQ} {L : List (Option Value)} {st : List Value} {w : aw} {cn sn : Nat} {a0 : Option Value} {v : Int32} : wp d 41 Q 0 (a0 :: some (.int v) :: L) st w cn sn = wp d 41 Q 1 (a0 :: some (.int v) :: L) (.int v :: st) w cn sn := w_iload_n d_41_0 rfl
theorem d_41_1 : decode (mB 41) 1 = .ok (.istore_n 2, 1) := by decide +kernel
theorem s_41_1 {d : Nat} {Q : wQ} {L : List (Option Value)} {st : List Value} {w : aw} {cn sn : Nat} {a0 a1 a2 : Option Value} {v : Int32} : wp d 41 Q 1 (a0 :: a1 :: a2 :: L) (.int v :: st) w cn sn = wp d 41 Q 2 (a0 :: clr a1 :: some (.int v) :: L) st w cn sn := w_istore_n d_41_1 (Nat.le_add_left 3 _) rfl
theorem d_41_2 : decode (mB 41) 2 = .ok (.iload_n 2, 1) := by decide +kernel
theorem s_41_2 {d : Nat} {Q : wQ} {L : List (Option Value)} {st : List Value} {w : aw} {cn sn : Nat} {a0 a1 : Option Value} {v : Int32} : wp d 41 Q 2 (a0 :: a1 :: some (.int v) :: L) st w cn sn = wp d 41 Q 3 (a0 :: a1 :: some (.int v) :: L) (.int v :: st) w cn sn := w_iload_n d_41_2 rfl
theorem d_41_3 : decode (mB 41) 3 = .ok (.aload_n 0, 1) := by decide +kernel
theorem s_41_3 {d : Nat} {Q : wQ} {L : List (Option Value)} {st : List Value} {w : aw} {cn sn : Nat} {v : Nat} : wp d 41 Q 3 (some (.ref v) :: L) st w cn sn = wp d 41 Q 4 (some (.ref v) :: L) (.ref v :: st) w cn sn := w_aload_n d_41_3 rfl
theorem d_41_4 : decode (mB 41) 4 = .ok (.getfield 19, 3) := by decide +kernel
theorem s_41_4 {d : Nat} {Q : wQ} {L : List (Option Value)} {st : List Value} {w : aw} {cn sn : Nat} {a : Nat} : wp d 41 Q 4 L (.ref a :: st) w cn sn = (kd w a = 5 ∧ wp d 41 Q 7 L (fd w 259 a :: st) w cn sn) := w_getfield d_41_4 (by decide +kernel : fT (mO 41) 19 = some (4, 3))
theorem d_41_7 : decode (mB 41) 7 = .ok (.if_icmp .ge 31, 3) := by decide +kernel
theorem s_41_7 {d : Nat} {Q : wQ} {L : List (Option Value)} {st : List Value} {w : aw} {cn sn : Nat} {a b : Int32} : wp d 41 Q 7 L (.int b :: .int a :: st) w cn sn = ((b ≤ a → wp d 41 Q 38 L st w cn sn) ∧ (¬ b ≤ a → wp d 41 Q 10 L st w cn sn)) := w_icge d_41_7 (by decide)
theorem d_41_10 : decode (mB 41) 10 = .ok (.aload_n 0, 1) := by decide +kernel
theorem s_41_10 {d : Nat} {Q : wQ} {L : List (Option Value)} {st : List Value} {w : aw} {cn sn : Nat} {v : Nat} : wp d 41 Q 10 (some (.ref v) :: L) st w cn sn = wp d 41 Q 11 (some (.ref v) :: L) (.ref v :: st) w cn sn := w_aload_n d_41_10 rfl
theorem d_41_11 : decode (mB 41) 11 = .ok (.iload_n 2, 1) := by decide +kernel
theorem s_41_11 {d : Nat} {Q : wQ} {L : List (Option Value)} {st : List Value} {w : aw} {cn sn : Nat} {a0 a1 : Option Value} {v : Int32} : wp d 41 Q 11 (a0 :: a1 :: some (.int v) :: L) st w cn sn = wp d 41 Q 12 (a0 :: a1 :: some (.int v) :: L) (.int v :: st) w cn sn := w_iload_n d_41_11 rfl
theorem d_41_12 : decode (mB 41) 12 = .ok (.invokevirtual 32, 3) := by decide +kernel
theorem s_41_12 {d : Nat} {Q : wQ} {L : List (Option Value)} {st : List Value} {w : aw} {cn sn : Nat} {v0 : Value} {b : Nat} : wp d 41 Q 12 L (v0 :: .ref b :: st) w cn sn = (kd w b = 5 ∧ catS st ≤ 8 ∧ wpD d 37 [.ref b, v0] w (fun v w' => wp d 41 Q 15 L (v.toList ++ st) w' cn sn)) := w_virtual (As := [v0]) d_41_12 (by decide +kernel : cT (mO 41) 32 = some (0, 37)) rfl (by decide +kernel) rfl (by decide +kernel) rfl
theorem d_41_15 : decode (mB 41) 15 = .ok (.invokestatic 36, 3) := by decide +kernel
theorem s_41_15 {d : Nat} {Q : wQ} {L : List (Option Value)} {st : List Value} {w : aw} {cn sn : Nat} {v0 : Value} : wp d 41 Q 15 L (v0 :: st) w cn sn = (catS st ≤ 8 ∧ wpD d 38 [v0] w (fun v w' => wp d 41 Q 18 L (v.toList ++ st) w' cn sn)) := w_static (As := [v0]) d_41_15 (by decide +kernel : cT (mO 41) 36 = some (2, 38)) rfl (by decide +kernel) rfl
theorem d_41_18 : decode (mB 41) 18 = .ok (.ifCond .ne 14, 3) := by decide +kernel
theorem s_41_18 {d : Nat} {Q : wQ} {L : List (Option Value)} {st : List Value} {w : aw} {cn sn : Nat} {x : Int32} : wp d 41 Q 18 L (.int x :: st) w cn sn = ((¬ x = 0 → wp d 41 Q 32 L st w cn sn) ∧ (x = 0 → wp d 41 Q 21 L st w cn sn)) := w_ifne d_41_18 (by decide)
theorem d_41_21 : decode (mB 41) 21 = .ok (.aload_n 0, 1) := by decide +kernel
theorem s_41_21 {d : Nat} {Q : wQ} {L : List (Option Value)} {st : List Value} {w : aw} {cn sn : Nat} {v : Nat} : wp d 41 Q 21 (some (.ref v) :: L) st w cn sn = wp d 41 Q 22 (some (.ref v) :: L) (.ref v :: st) w cn sn := w_aload_n d_41_21 rfl
theorem d_41_22 : decode (mB 41) 22 = .ok (.iload_n 2, 1) := by decide +kernel
theorem s_41_22 {d : Nat} {Q : wQ} {L : List (Option Value)} {st : List Value} {w : aw} {cn sn : Nat} {a0 a1 : Option Value} {v : Int32} : wp d 41 Q 22 (a0 :: a1 :: some (.int v) :: L) st w cn sn = wp d 41 Q 23 (a0 :: a1 :: some (.int v) :: L) (.int v :: st) w cn sn := w_iload_n d_41_22 rfl
theorem d_41_23 : decode (mB 41) 23 = .ok (.invokevirtual 32, 3) := by decide +kernel
theorem s_41_23 {d : Nat} {Q : wQ} {L : List (Option Value)} {st : List Value} {w : aw} {cn sn : Nat} {v0 : Value} {b : Nat} : wp d 41 Q 23 L (v0 :: .ref b :: st) w cn sn = (kd w b = 5 ∧ catS st ≤ 8 ∧ wpD d 37 [.ref b, v0] w (fun v w' => wp d 41 Q 26 L (v.toList ++ st) w' cn sn)) := w_virtual (As := [v0]) d_41_23 (by decide +kernel : cT (mO 41) 32 = some (0, 37)) rfl (by decide +kernel) rfl (by decide +kernel) rfl
theorem d_41_26 : decode (mB 41) 26 = .ok (.invokestatic 40, 3) := by decide +kernel
theorem s_41_26 {d : Nat} {Q : wQ} {L : List (Option Value)} {st : List Value} {w : aw} {cn sn : Nat} {v0 : Value} : wp d 41 Q 26 L (v0 :: st) w cn sn = (catS st ≤ 8 ∧ wpD d 39 [v0] w (fun v w' => wp d 41 Q 29 L (v.toList ++ st) w' cn sn)) := w_static (As := [v0]) d_41_26 (by decide +kernel : cT (mO 41) 40 = some (2, 39)) rfl (by decide +kernel) rfl
theorem d_41_29 : decode (mB 41) 29 = .ok (.ifCond .eq 9, 3) := by decide +kernel
theorem s_41_29 {d : Nat} {Q : wQ} {L : List (Option Value)} {st : List Value} {w : aw} {cn sn : Nat} {x : Int32} : wp d 41 Q 29 L (.int x :: st) w cn sn = ((x = 0 → wp d 41 Q 38 L st w cn sn) ∧ (¬ x = 0 → wp d 41 Q 32 L st w cn sn)) := w_ifeq d_41_29 (by decide)
theorem d_41_32 : decode (mB 41) 32 = .ok (.iinc 2 1, 3) := by decide +kernel
theorem s_41_32 {d : Nat} {Q : wQ} {L : List (Option Value)} {st : List Value} {w : aw} {cn sn : Nat} {a0 a1 : Option Value} {v : Int32} : wp d 41 Q 32 (a0 :: a1 :: some (.int v) :: L) st w cn sn = wp d 41 Q 35 (a0 :: clr a1 :: some (.int (v + 1)) :: L) st w cn sn := w_iinc d_41_32 rfl (by decide) rfl
theorem d_41_35 : decode (mB 41) 35 = .ok (.goto (-33), 3) := by decide +kernel
theorem s_41_35 {d : Nat} {Q : wQ} {L : List (Option Value)} {st : List Value} {w : aw} {cn sn : Nat}  : wp d 41 Q 35 L st w cn sn = wp d 41 Q 2 L st w cn sn := w_goto d_41_35 (by decide)
theorem d_41_38 : decode (mB 41) 38 = .ok (.iload_n 2, 1) := by decide +kernel
theorem s_41_38 {d : Nat} {Q : wQ} {L : List (Option Value)} {st : List Value} {w : aw} {cn sn : Nat} {a0 a1 : Option Value} {v : Int32} : wp d 41 Q 38 (a0 :: a1 :: some (.int v) :: L) st w cn sn = wp d 41 Q 39 (a0 :: a1 :: some (.int v) :: L) (.int v :: st) w cn sn := w_iload_n d_41_38 rfl
theorem d_41_39 : decode (mB 41) 39 = .ok (.ireturn, 1) := by decide +kernel
theorem s_41_39 {d : Nat} {Q : wQ} {L : List (Option Value)} {w : aw} {cn sn : Nat} {v : Int32} : wp d 41 Q 39 L [.int v] w cn sn = Q (some (.int v)) w := w_ireturn d_41_39 rfl
theorem d_42_0 : decode (mB 42) 0 = .ok (.aload_n 0, 1) := by decide +kernel
theorem s_42_0 {d : Nat} {Q : wQ} {L : List (Option Value)} {st : List Value} {w : aw} {cn sn : Nat} {v : Nat} : wp d 42 Q 0 (some (.ref v) :: L) st w cn sn = wp d 42 Q 1 (some (.ref v) :: L) (.ref v :: st) w cn sn := w_aload_n d_42_0 rfl
theorem d_42_1 : decode (mB 42) 1 = .ok (.iload_n 1, 1) := by decide +kernel
theorem s_42_1 {d : Nat} {Q : wQ} {L : List (Option Value)} {st : List Value} {w : aw} {cn sn : Nat} {a0 : Option Value} {v : Int32} : wp d 42 Q 1 (a0 :: some (.int v) :: L) st w cn sn = wp d 42 Q 2 (a0 :: some (.int v) :: L) (.int v :: st) w cn sn := w_iload_n d_42_1 rfl
theorem d_42_2 : decode (mB 42) 2 = .ok (.invokevirtual 32, 3) := by decide +kernel
theorem s_42_2 {d : Nat} {Q : wQ} {L : List (Option Value)} {st : List Value} {w : aw} {cn sn : Nat} {v0 : Value} {b : Nat} : wp d 42 Q 2 L (v0 :: .ref b :: st) w cn sn = (kd w b = 5 ∧ catS st ≤ 8 ∧ wpD d 37 [.ref b, v0] w (fun v w' => wp d 42 Q 5 L (v.toList ++ st) w' cn sn)) := w_virtual (As := [v0]) d_42_2 (by decide +kernel : cT (mO 42) 32 = some (0, 37)) rfl (by decide +kernel) rfl (by decide +kernel) rfl
theorem d_42_5 : decode (mB 42) 5 = .ok (.invokestatic 36, 3) := by decide +kernel
theorem s_42_5 {d : Nat} {Q : wQ} {L : List (Option Value)} {st : List Value} {w : aw} {cn sn : Nat} {v0 : Value} : wp d 42 Q 5 L (v0 :: st) w cn sn = (catS st ≤ 8 ∧ wpD d 38 [v0] w (fun v w' => wp d 42 Q 8 L (v.toList ++ st) w' cn sn)) := w_static (As := [v0]) d_42_5 (by decide +kernel : cT (mO 42) 36 = some (2, 38)) rfl (by decide +kernel) rfl
theorem d_42_8 : decode (mB 42) 8 = .ok (.ifCond .eq 11, 3) := by decide +kernel
theorem s_42_8 {d : Nat} {Q : wQ} {L : List (Option Value)} {st : List Value} {w : aw} {cn sn : Nat} {x : Int32} : wp d 42 Q 8 L (.int x :: st) w cn sn = ((x = 0 → wp d 42 Q 19 L st w cn sn) ∧ (¬ x = 0 → wp d 42 Q 11 L st w cn sn)) := w_ifeq d_42_8 (by decide)
theorem d_42_11 : decode (mB 42) 11 = .ok (.iload_n 2, 1) := by decide +kernel
theorem s_42_11 {d : Nat} {Q : wQ} {L : List (Option Value)} {st : List Value} {w : aw} {cn sn : Nat} {a0 a1 : Option Value} {v : Int32} : wp d 42 Q 11 (a0 :: a1 :: some (.int v) :: L) st w cn sn = wp d 42 Q 12 (a0 :: a1 :: some (.int v) :: L) (.int v :: st) w cn sn := w_iload_n d_42_11 rfl
theorem d_42_12 : decode (mB 42) 12 = .ok (.iload_n 1, 1) := by decide +kernel
theorem s_42_12 {d : Nat} {Q : wQ} {L : List (Option Value)} {st : List Value} {w : aw} {cn sn : Nat} {a0 : Option Value} {v : Int32} : wp d 42 Q 12 (a0 :: some (.int v) :: L) st w cn sn = wp d 42 Q 13 (a0 :: some (.int v) :: L) (.int v :: st) w cn sn := w_iload_n d_42_12 rfl
theorem d_42_13 : decode (mB 42) 13 = .ok (.isub, 1) := by decide +kernel
theorem s_42_13 {d : Nat} {Q : wQ} {L : List (Option Value)} {st : List Value} {w : aw} {cn sn : Nat} {a b : Int32} : wp d 42 Q 13 L (.int b :: .int a :: st) w cn sn = wp d 42 Q 14 L (.int (a - b) :: st) w cn sn := wp_row d_42_13 _ _ _ _ _
theorem d_42_14 : decode (mB 42) 14 = .ok (.bipush 6, 2) := by decide +kernel
theorem s_42_14 {d : Nat} {Q : wQ} {L : List (Option Value)} {st : List Value} {w : aw} {cn sn : Nat}  : wp d 42 Q 14 L st w cn sn = wp d 42 Q 16 L (.int 6 :: st) w cn sn := w_bipush d_42_14 (by decide)
theorem d_42_16 : decode (mB 42) 16 = .ok (.if_icmp .le 5, 3) := by decide +kernel
theorem s_42_16 {d : Nat} {Q : wQ} {L : List (Option Value)} {st : List Value} {w : aw} {cn sn : Nat} {a b : Int32} : wp d 42 Q 16 L (.int b :: .int a :: st) w cn sn = ((a ≤ b → wp d 42 Q 21 L st w cn sn) ∧ (¬ a ≤ b → wp d 42 Q 19 L st w cn sn)) := w_icle d_42_16 (by decide)
theorem d_42_19 : decode (mB 42) 19 = .ok (.lconst 0, 1) := by decide +kernel
theorem s_42_19 {d : Nat} {Q : wQ} {L : List (Option Value)} {st : List Value} {w : aw} {cn sn : Nat}  : wp d 42 Q 19 L st w cn sn = wp d 42 Q 20 L (.long 0 :: st) w cn sn := w_lconst d_42_19 (by decide)
theorem d_42_20 : decode (mB 42) 20 = .ok (.lreturn, 1) := by decide +kernel
theorem s_42_20 {d : Nat} {Q : wQ} {L : List (Option Value)} {w : aw} {cn sn : Nat} {v : Int64} : wp d 42 Q 20 L [.long v] w cn sn = Q (some (.long v)) w := w_lreturn d_42_20 rfl
theorem d_42_21 : decode (mB 42) 21 = .ok (.lconst 0, 1) := by decide +kernel
theorem s_42_21 {d : Nat} {Q : wQ} {L : List (Option Value)} {st : List Value} {w : aw} {cn sn : Nat}  : wp d 42 Q 21 L st w cn sn = wp d 42 Q 22 L (.long 0 :: st) w cn sn := w_lconst d_42_21 (by decide)
theorem d_42_22 : decode (mB 42) 22 = .ok (.lstore_n 3, 1) := by decide +kernel
theorem s_42_22 {d : Nat} {Q : wQ} {L : List (Option Value)} {st : List Value} {w : aw} {cn sn : Nat} {a0 a1 a2 a3 a4 : Option Value} {v : Int64} : wp d 42 Q 22 (a0 :: a1 :: a2 :: a3 :: a4 :: L) (.long v :: st) w cn sn = wp d 42 Q 23 (a0 :: a1 :: clr a2 :: some (.long v) :: none :: L) st w cn sn := w_lstore_n d_42_22 (Nat.le_add_left 5 _) rfl
theorem d_42_23 : decode (mB 42) 23 = .ok (.iload_n 1, 1) := by decide +kernel
theorem s_42_23 {d : Nat} {Q : wQ} {L : List (Option Value)} {st : List Value} {w : aw} {cn sn : Nat} {a0 : Option Value} {v : Int32} : wp d 42 Q 23 (a0 :: some (.int v) :: L) st w cn sn = wp d 42 Q 24 (a0 :: some (.int v) :: L) (.int v :: st) w cn sn := w_iload_n d_42_23 rfl
theorem d_42_24 : decode (mB 42) 24 = .ok (.istore 5, 2) := by decide +kernel
theorem s_42_24 {d : Nat} {Q : wQ} {L : List (Option Value)} {st : List Value} {w : aw} {cn sn : Nat} {a0 a1 a2 a3 a4 a5 : Option Value} {v : Int32} : wp d 42 Q 24 (a0 :: a1 :: a2 :: a3 :: a4 :: a5 :: L) (.int v :: st) w cn sn = wp d 42 Q 26 (a0 :: a1 :: a2 :: a3 :: clr a4 :: some (.int v) :: L) st w cn sn := w_istore d_42_24 (Nat.le_add_left 6 _) rfl
theorem d_42_26 : decode (mB 42) 26 = .ok (.iload 5, 2) := by decide +kernel
theorem s_42_26 {d : Nat} {Q : wQ} {L : List (Option Value)} {st : List Value} {w : aw} {cn sn : Nat} {a0 a1 a2 a3 a4 : Option Value} {v : Int32} : wp d 42 Q 26 (a0 :: a1 :: a2 :: a3 :: a4 :: some (.int v) :: L) st w cn sn = wp d 42 Q 28 (a0 :: a1 :: a2 :: a3 :: a4 :: some (.int v) :: L) (.int v :: st) w cn sn := w_iload d_42_26 rfl
theorem d_42_28 : decode (mB 42) 28 = .ok (.iload_n 2, 1) := by decide +kernel
theorem s_42_28 {d : Nat} {Q : wQ} {L : List (Option Value)} {st : List Value} {w : aw} {cn sn : Nat} {a0 a1 : Option Value} {v : Int32} : wp d 42 Q 28 (a0 :: a1 :: some (.int v) :: L) st w cn sn = wp d 42 Q 29 (a0 :: a1 :: some (.int v) :: L) (.int v :: st) w cn sn := w_iload_n d_42_28 rfl
theorem d_42_29 : decode (mB 42) 29 = .ok (.if_icmp .ge 20, 3) := by decide +kernel
theorem s_42_29 {d : Nat} {Q : wQ} {L : List (Option Value)} {st : List Value} {w : aw} {cn sn : Nat} {a b : Int32} : wp d 42 Q 29 L (.int b :: .int a :: st) w cn sn = ((b ≤ a → wp d 42 Q 49 L st w cn sn) ∧ (¬ b ≤ a → wp d 42 Q 32 L st w cn sn)) := w_icge d_42_29 (by decide)
theorem d_42_32 : decode (mB 42) 32 = .ok (.lload_n 3, 1) := by decide +kernel
theorem s_42_32 {d : Nat} {Q : wQ} {L : List (Option Value)} {st : List Value} {w : aw} {cn sn : Nat} {a0 a1 a2 : Option Value} {v : Int64} : wp d 42 Q 32 (a0 :: a1 :: a2 :: some (.long v) :: L) st w cn sn = wp d 42 Q 33 (a0 :: a1 :: a2 :: some (.long v) :: L) (.long v :: st) w cn sn := w_lload_n d_42_32 rfl
theorem d_42_33 : decode (mB 42) 33 = .ok (.aload_n 0, 1) := by decide +kernel
theorem s_42_33 {d : Nat} {Q : wQ} {L : List (Option Value)} {st : List Value} {w : aw} {cn sn : Nat} {v : Nat} : wp d 42 Q 33 (some (.ref v) :: L) st w cn sn = wp d 42 Q 34 (some (.ref v) :: L) (.ref v :: st) w cn sn := w_aload_n d_42_33 rfl
theorem d_42_34 : decode (mB 42) 34 = .ok (.iload 5, 2) := by decide +kernel
theorem s_42_34 {d : Nat} {Q : wQ} {L : List (Option Value)} {st : List Value} {w : aw} {cn sn : Nat} {a0 a1 a2 a3 a4 : Option Value} {v : Int32} : wp d 42 Q 34 (a0 :: a1 :: a2 :: a3 :: a4 :: some (.int v) :: L) st w cn sn = wp d 42 Q 36 (a0 :: a1 :: a2 :: a3 :: a4 :: some (.int v) :: L) (.int v :: st) w cn sn := w_iload d_42_34 rfl
theorem d_42_36 : decode (mB 42) 36 = .ok (.invokevirtual 32, 3) := by decide +kernel
theorem s_42_36 {d : Nat} {Q : wQ} {L : List (Option Value)} {st : List Value} {w : aw} {cn sn : Nat} {v0 : Value} {b : Nat} : wp d 42 Q 36 L (v0 :: .ref b :: st) w cn sn = (kd w b = 5 ∧ catS st ≤ 8 ∧ wpD d 37 [.ref b, v0] w (fun v w' => wp d 42 Q 39 L (v.toList ++ st) w' cn sn)) := w_virtual (As := [v0]) d_42_36 (by decide +kernel : cT (mO 42) 32 = some (0, 37)) rfl (by decide +kernel) rfl (by decide +kernel) rfl
theorem d_42_39 : decode (mB 42) 39 = .ok (.invokestatic 45, 3) := by decide +kernel
theorem s_42_39 {d : Nat} {Q : wQ} {L : List (Option Value)} {st : List Value} {w : aw} {cn sn : Nat} {v0 v1 : Value} : wp d 42 Q 39 L (v1 :: v0 :: st) w cn sn = (catS st ≤ 8 ∧ wpD d 30 [v0, v1] w (fun v w' => wp d 42 Q 42 L (v.toList ++ st) w' cn sn)) := w_static (As := [v0, v1]) d_42_39 (by decide +kernel : cT (mO 42) 45 = some (2, 30)) rfl (by decide +kernel) rfl
theorem d_42_42 : decode (mB 42) 42 = .ok (.lstore_n 3, 1) := by decide +kernel
theorem s_42_42 {d : Nat} {Q : wQ} {L : List (Option Value)} {st : List Value} {w : aw} {cn sn : Nat} {a0 a1 a2 a3 a4 : Option Value} {v : Int64} : wp d 42 Q 42 (a0 :: a1 :: a2 :: a3 :: a4 :: L) (.long v :: st) w cn sn = wp d 42 Q 43 (a0 :: a1 :: clr a2 :: some (.long v) :: none :: L) st w cn sn := w_lstore_n d_42_42 (Nat.le_add_left 5 _) rfl
theorem d_42_43 : decode (mB 42) 43 = .ok (.iinc 5 1, 3) := by decide +kernel
theorem s_42_43 {d : Nat} {Q : wQ} {L : List (Option Value)} {st : List Value} {w : aw} {cn sn : Nat} {a0 a1 a2 a3 a4 : Option Value} {v : Int32} : wp d 42 Q 43 (a0 :: a1 :: a2 :: a3 :: a4 :: some (.int v) :: L) st w cn sn = wp d 42 Q 46 (a0 :: a1 :: a2 :: a3 :: clr a4 :: some (.int (v + 1)) :: L) st w cn sn := w_iinc d_42_43 rfl (by decide) rfl
theorem d_42_46 : decode (mB 42) 46 = .ok (.goto (-20), 3) := by decide +kernel
theorem s_42_46 {d : Nat} {Q : wQ} {L : List (Option Value)} {st : List Value} {w : aw} {cn sn : Nat}  : wp d 42 Q 46 L st w cn sn = wp d 42 Q 26 L st w cn sn := w_goto d_42_46 (by decide)
theorem d_42_49 : decode (mB 42) 49 = .ok (.lload_n 3, 1) := by decide +kernel
theorem s_42_49 {d : Nat} {Q : wQ} {L : List (Option Value)} {st : List Value} {w : aw} {cn sn : Nat} {a0 a1 a2 : Option Value} {v : Int64} : wp d 42 Q 49 (a0 :: a1 :: a2 :: some (.long v) :: L) st w cn sn = wp d 42 Q 50 (a0 :: a1 :: a2 :: some (.long v) :: L) (.long v :: st) w cn sn := w_lload_n d_42_49 rfl
theorem d_42_50 : decode (mB 42) 50 = .ok (.lreturn, 1) := by decide +kernel
theorem s_42_50 {d : Nat} {Q : wQ} {L : List (Option Value)} {w : aw} {cn sn : Nat} {v : Int64} : wp d 42 Q 50 L [.long v] w cn sn = Q (some (.long v)) w := w_lreturn d_42_50 rfl
theorem d_43_0 : decode (mB 43) 0 = .ok (.aload_n 0, 1) := by decide +kernel
theorem s_43_0 {d : Nat} {Q : wQ} {L : List (Option Value)} {st : List Value} {w : aw} {cn sn : Nat} {v : Nat} : wp d 43 Q 0 (some (.ref v) :: L) st w cn sn = wp d 43 Q 1 (some (.ref v) :: L) (.ref v :: st) w cn sn := w_aload_n d_43_0 rfl
theorem d_43_1 : decode (mB 43) 1 = .ok (.iload_n 2, 1) := by decide +kernel
theorem s_43_1 {d : Nat} {Q : wQ} {L : List (Option Value)} {st : List Value} {w : aw} {cn sn : Nat} {a0 a1 : Option Value} {v : Int32} : wp d 43 Q 1 (a0 :: a1 :: some (.int v) :: L) st w cn sn = wp d 43 Q 2 (a0 :: a1 :: some (.int v) :: L) (.int v :: st) w cn sn := w_iload_n d_43_1 rfl
theorem d_43_2 : decode (mB 43) 2 = .ok (.putfield 19, 3) := by decide +kernel
theorem s_43_2 {d : Nat} {Q : wQ} {L : List (Option Value)} {st : List Value} {w : aw} {cn sn : Nat} {x : Int32} {a : Nat} : wp d 43 Q 2 L (.int x :: .ref a :: st) w cn sn = (kd w a = 5 ∧ wp d 43 Q 5 L st (uF w 259 a (.int x)) cn sn) := w_putfield d_43_2 (by decide +kernel : fT (mO 43) 19 = some (4, 3)) (by decide +kernel) ok_int
theorem d_43_5 : decode (mB 43) 5 = .ok (.aload_n 0, 1) := by decide +kernel
theorem s_43_5 {d : Nat} {Q : wQ} {L : List (Option Value)} {st : List Value} {w : aw} {cn sn : Nat} {v : Nat} : wp d 43 Q 5 (some (.ref v) :: L) st w cn sn = wp d 43 Q 6 (some (.ref v) :: L) (.ref v :: st) w cn sn := w_aload_n d_43_5 rfl
theorem d_43_6 : decode (mB 43) 6 = .ok (.aload_n 0, 1) := by decide +kernel
theorem s_43_6 {d : Nat} {Q : wQ} {L : List (Option Value)} {st : List Value} {w : aw} {cn sn : Nat} {v : Nat} : wp d 43 Q 6 (some (.ref v) :: L) st w cn sn = wp d 43 Q 7 (some (.ref v) :: L) (.ref v :: st) w cn sn := w_aload_n d_43_6 rfl
theorem d_43_7 : decode (mB 43) 7 = .ok (.iload_n 1, 1) := by decide +kernel
theorem s_43_7 {d : Nat} {Q : wQ} {L : List (Option Value)} {st : List Value} {w : aw} {cn sn : Nat} {a0 : Option Value} {v : Int32} : wp d 43 Q 7 (a0 :: some (.int v) :: L) st w cn sn = wp d 43 Q 8 (a0 :: some (.int v) :: L) (.int v :: st) w cn sn := w_iload_n d_43_7 rfl
theorem d_43_8 : decode (mB 43) 8 = .ok (.invokevirtual 49, 3) := by decide +kernel
theorem s_43_8 {d : Nat} {Q : wQ} {L : List (Option Value)} {st : List Value} {w : aw} {cn sn : Nat} {v0 : Value} {b : Nat} : wp d 43 Q 8 L (v0 :: .ref b :: st) w cn sn = (kd w b = 5 ∧ catS st ≤ 8 ∧ wpD d 40 [.ref b, v0] w (fun v w' => wp d 43 Q 11 L (v.toList ++ st) w' cn sn)) := w_virtual (As := [v0]) d_43_8 (by decide +kernel : cT (mO 43) 49 = some (0, 40)) rfl (by decide +kernel) rfl (by decide +kernel) rfl
theorem d_43_11 : decode (mB 43) 11 = .ok (.putfield 52, 3) := by decide +kernel
theorem s_43_11 {d : Nat} {Q : wQ} {L : List (Option Value)} {st : List Value} {w : aw} {cn sn : Nat} {x : Int32} {a : Nat} : wp d 43 Q 11 L (.int x :: .ref a :: st) w cn sn = (kd w a = 5 ∧ wp d 43 Q 14 L st (uF w 258 a (.int x)) cn sn) := w_putfield d_43_11 (by decide +kernel : fT (mO 43) 52 = some (4, 2)) (by decide +kernel) ok_int
theorem d_43_14 : decode (mB 43) 14 = .ok (.return_, 1) := by decide +kernel
theorem s_43_14 {d : Nat} {Q : wQ} {L : List (Option Value)} {w : aw} {cn sn : Nat}  : wp d 43 Q 14 L [] w cn sn = Q none w := w_return d_43_14 rfl
theorem d_44_0 : decode (mB 44) 0 = .ok (.aload_n 0, 1) := by decide +kernel
theorem s_44_0 {d : Nat} {Q : wQ} {L : List (Option Value)} {st : List Value} {w : aw} {cn sn : Nat} {v : Nat} : wp d 44 Q 0 (some (.ref v) :: L) st w cn sn = wp d 44 Q 1 (some (.ref v) :: L) (.ref v :: st) w cn sn := w_aload_n d_44_0 rfl
theorem d_44_1 : decode (mB 44) 1 = .ok (.aload_n 0, 1) := by decide +kernel
theorem s_44_1 {d : Nat} {Q : wQ} {L : List (Option Value)} {st : List Value} {w : aw} {cn sn : Nat} {v : Nat} : wp d 44 Q 1 (some (.ref v) :: L) st w cn sn = wp d 44 Q 2 (some (.ref v) :: L) (.ref v :: st) w cn sn := w_aload_n d_44_1 rfl
theorem d_44_2 : decode (mB 44) 2 = .ok (.getfield 52, 3) := by decide +kernel
theorem s_44_2 {d : Nat} {Q : wQ} {L : List (Option Value)} {st : List Value} {w : aw} {cn sn : Nat} {a : Nat} : wp d 44 Q 2 L (.ref a :: st) w cn sn = (kd w a = 5 ∧ wp d 44 Q 5 L (fd w 258 a :: st) w cn sn) := w_getfield d_44_2 (by decide +kernel : fT (mO 44) 52 = some (4, 2))
theorem d_44_5 : decode (mB 44) 5 = .ok (.invokevirtual 55, 3) := by decide +kernel
theorem s_44_5 {d : Nat} {Q : wQ} {L : List (Option Value)} {st : List Value} {w : aw} {cn sn : Nat} {v0 : Value} {b : Nat} : wp d 44 Q 5 L (v0 :: .ref b :: st) w cn sn = (kd w b = 5 ∧ catS st ≤ 8 ∧ wpD d 41 [.ref b, v0] w (fun v w' => wp d 44 Q 8 L (v.toList ++ st) w' cn sn)) := w_virtual (As := [v0]) d_44_5 (by decide +kernel : cT (mO 44) 55 = some (0, 41)) rfl (by decide +kernel) rfl (by decide +kernel) rfl
theorem d_44_8 : decode (mB 44) 8 = .ok (.istore_n 1, 1) := by decide +kernel
theorem s_44_8 {d : Nat} {Q : wQ} {L : List (Option Value)} {st : List Value} {w : aw} {cn sn : Nat} {a0 a1 : Option Value} {v : Int32} : wp d 44 Q 8 (a0 :: a1 :: L) (.int v :: st) w cn sn = wp d 44 Q 9 (clr a0 :: some (.int v) :: L) st w cn sn := w_istore_n d_44_8 (Nat.le_add_left 2 _) rfl
theorem d_44_9 : decode (mB 44) 9 = .ok (.aload_n 0, 1) := by decide +kernel
theorem s_44_9 {d : Nat} {Q : wQ} {L : List (Option Value)} {st : List Value} {w : aw} {cn sn : Nat} {v : Nat} : wp d 44 Q 9 (some (.ref v) :: L) st w cn sn = wp d 44 Q 10 (some (.ref v) :: L) (.ref v :: st) w cn sn := w_aload_n d_44_9 rfl
theorem d_44_10 : decode (mB 44) 10 = .ok (.aload_n 0, 1) := by decide +kernel
theorem s_44_10 {d : Nat} {Q : wQ} {L : List (Option Value)} {st : List Value} {w : aw} {cn sn : Nat} {v : Nat} : wp d 44 Q 10 (some (.ref v) :: L) st w cn sn = wp d 44 Q 11 (some (.ref v) :: L) (.ref v :: st) w cn sn := w_aload_n d_44_10 rfl
theorem d_44_11 : decode (mB 44) 11 = .ok (.aload_n 0, 1) := by decide +kernel
theorem s_44_11 {d : Nat} {Q : wQ} {L : List (Option Value)} {st : List Value} {w : aw} {cn sn : Nat} {v : Nat} : wp d 44 Q 11 (some (.ref v) :: L) st w cn sn = wp d 44 Q 12 (some (.ref v) :: L) (.ref v :: st) w cn sn := w_aload_n d_44_11 rfl
theorem d_44_12 : decode (mB 44) 12 = .ok (.getfield 52, 3) := by decide +kernel
theorem s_44_12 {d : Nat} {Q : wQ} {L : List (Option Value)} {st : List Value} {w : aw} {cn sn : Nat} {a : Nat} : wp d 44 Q 12 L (.ref a :: st) w cn sn = (kd w a = 5 ∧ wp d 44 Q 15 L (fd w 258 a :: st) w cn sn) := w_getfield d_44_12 (by decide +kernel : fT (mO 44) 52 = some (4, 2))
theorem d_44_15 : decode (mB 44) 15 = .ok (.iload_n 1, 1) := by decide +kernel
theorem s_44_15 {d : Nat} {Q : wQ} {L : List (Option Value)} {st : List Value} {w : aw} {cn sn : Nat} {a0 : Option Value} {v : Int32} : wp d 44 Q 15 (a0 :: some (.int v) :: L) st w cn sn = wp d 44 Q 16 (a0 :: some (.int v) :: L) (.int v :: st) w cn sn := w_iload_n d_44_15 rfl
theorem d_44_16 : decode (mB 44) 16 = .ok (.invokevirtual 58, 3) := by decide +kernel
theorem s_44_16 {d : Nat} {Q : wQ} {L : List (Option Value)} {st : List Value} {w : aw} {cn sn : Nat} {v0 v1 : Value} {b : Nat} : wp d 44 Q 16 L (v1 :: v0 :: .ref b :: st) w cn sn = (kd w b = 5 ∧ catS st ≤ 8 ∧ wpD d 42 [.ref b, v0, v1] w (fun v w' => wp d 44 Q 19 L (v.toList ++ st) w' cn sn)) := w_virtual (As := [v0, v1]) d_44_16 (by decide +kernel : cT (mO 44) 58 = some (0, 42)) rfl (by decide +kernel) rfl (by decide +kernel) rfl
theorem d_44_19 : decode (mB 44) 19 = .ok (.putfield 62, 3) := by decide +kernel
theorem s_44_19 {d : Nat} {Q : wQ} {L : List (Option Value)} {st : List Value} {w : aw} {cn sn : Nat} {x : Int64} {a : Nat} : wp d 44 Q 19 L (.long x :: .ref a :: st) w cn sn = (kd w a = 5 ∧ wp d 44 Q 22 L st (uF w 262 a (.long x)) cn sn) := w_putfield d_44_19 (by decide +kernel : fT (mO 44) 62 = some (4, 6)) (by decide +kernel) ok_long
theorem d_44_22 : decode (mB 44) 22 = .ok (.aload_n 0, 1) := by decide +kernel
theorem s_44_22 {d : Nat} {Q : wQ} {L : List (Option Value)} {st : List Value} {w : aw} {cn sn : Nat} {v : Nat} : wp d 44 Q 22 (some (.ref v) :: L) st w cn sn = wp d 44 Q 23 (some (.ref v) :: L) (.ref v :: st) w cn sn := w_aload_n d_44_22 rfl
theorem d_44_23 : decode (mB 44) 23 = .ok (.getfield 62, 3) := by decide +kernel
theorem s_44_23 {d : Nat} {Q : wQ} {L : List (Option Value)} {st : List Value} {w : aw} {cn sn : Nat} {a : Nat} : wp d 44 Q 23 L (.ref a :: st) w cn sn = (kd w a = 5 ∧ wp d 44 Q 26 L (fd w 262 a :: st) w cn sn) := w_getfield d_44_23 (by decide +kernel : fT (mO 44) 62 = some (4, 6))
theorem d_44_26 : decode (mB 44) 26 = .ok (.lconst 0, 1) := by decide +kernel
theorem s_44_26 {d : Nat} {Q : wQ} {L : List (Option Value)} {st : List Value} {w : aw} {cn sn : Nat}  : wp d 44 Q 26 L st w cn sn = wp d 44 Q 27 L (.long 0 :: st) w cn sn := w_lconst d_44_26 (by decide)
theorem d_44_27 : decode (mB 44) 27 = .ok (.lcmp, 1) := by decide +kernel
theorem s_44_27 {d : Nat} {Q : wQ} {L : List (Option Value)} {st : List Value} {w : aw} {cn sn : Nat} {a b : Int64} : wp d 44 Q 27 L (.long b :: .long a :: st) w cn sn = wp d 44 Q 28 L (.int (lg_cmp a b) :: st) w cn sn := wp_row d_44_27 _ _ _ _ _
theorem d_44_28 : decode (mB 44) 28 = .ok (.ifCond .eq 13, 3) := by decide +kernel
theorem s_44_28 {d : Nat} {Q : wQ} {L : List (Option Value)} {st : List Value} {w : aw} {cn sn : Nat} {x : Int32} : wp d 44 Q 28 L (.int x :: st) w cn sn = ((x = 0 → wp d 44 Q 41 L st w cn sn) ∧ (¬ x = 0 → wp d 44 Q 31 L st w cn sn)) := w_ifeq d_44_28 (by decide)
theorem d_44_31 : decode (mB 44) 31 = .ok (.aload_n 0, 1) := by decide +kernel
theorem s_44_31 {d : Nat} {Q : wQ} {L : List (Option Value)} {st : List Value} {w : aw} {cn sn : Nat} {v : Nat} : wp d 44 Q 31 (some (.ref v) :: L) st w cn sn = wp d 44 Q 32 (some (.ref v) :: L) (.ref v :: st) w cn sn := w_aload_n d_44_31 rfl
theorem d_44_32 : decode (mB 44) 32 = .ok (.iload_n 1, 1) := by decide +kernel
theorem s_44_32 {d : Nat} {Q : wQ} {L : List (Option Value)} {st : List Value} {w : aw} {cn sn : Nat} {a0 : Option Value} {v : Int32} : wp d 44 Q 32 (a0 :: some (.int v) :: L) st w cn sn = wp d 44 Q 33 (a0 :: some (.int v) :: L) (.int v :: st) w cn sn := w_iload_n d_44_32 rfl
theorem d_44_33 : decode (mB 44) 33 = .ok (.invokevirtual 32, 3) := by decide +kernel
theorem s_44_33 {d : Nat} {Q : wQ} {L : List (Option Value)} {st : List Value} {w : aw} {cn sn : Nat} {v0 : Value} {b : Nat} : wp d 44 Q 33 L (v0 :: .ref b :: st) w cn sn = (kd w b = 5 ∧ catS st ≤ 8 ∧ wpD d 37 [.ref b, v0] w (fun v w' => wp d 44 Q 36 L (v.toList ++ st) w' cn sn)) := w_virtual (As := [v0]) d_44_33 (by decide +kernel : cT (mO 44) 32 = some (0, 37)) rfl (by decide +kernel) rfl (by decide +kernel) rfl
theorem d_44_36 : decode (mB 44) 36 = .ok (.bipush 44, 2) := by decide +kernel
theorem s_44_36 {d : Nat} {Q : wQ} {L : List (Option Value)} {st : List Value} {w : aw} {cn sn : Nat}  : wp d 44 Q 36 L st w cn sn = wp d 44 Q 38 L (.int 44 :: st) w cn sn := w_bipush d_44_36 (by decide)
theorem d_44_38 : decode (mB 44) 38 = .ok (.if_icmp .eq 5, 3) := by decide +kernel
theorem s_44_38 {d : Nat} {Q : wQ} {L : List (Option Value)} {st : List Value} {w : aw} {cn sn : Nat} {a b : Int32} : wp d 44 Q 38 L (.int b :: .int a :: st) w cn sn = ((a = b → wp d 44 Q 43 L st w cn sn) ∧ (¬ a = b → wp d 44 Q 41 L st w cn sn)) := w_iceq d_44_38 (by decide)
theorem d_44_41 : decode (mB 44) 41 = .ok (.iconst 0, 1) := by decide +kernel
theorem s_44_41 {d : Nat} {Q : wQ} {L : List (Option Value)} {st : List Value} {w : aw} {cn sn : Nat}  : wp d 44 Q 41 L st w cn sn = wp d 44 Q 42 L (.int 0 :: st) w cn sn := w_iconst d_44_41 (by decide)
theorem d_44_42 : decode (mB 44) 42 = .ok (.ireturn, 1) := by decide +kernel
theorem s_44_42 {d : Nat} {Q : wQ} {L : List (Option Value)} {w : aw} {cn sn : Nat} {v : Int32} : wp d 44 Q 42 L [.int v] w cn sn = (narrow .boolean (.int v) = .int v ∧ Q (some (.int v)) w) := w_zreturn d_44_42 rfl
theorem d_44_43 : decode (mB 44) 43 = .ok (.aload_n 0, 1) := by decide +kernel
theorem s_44_43 {d : Nat} {Q : wQ} {L : List (Option Value)} {st : List Value} {w : aw} {cn sn : Nat} {v : Nat} : wp d 44 Q 43 (some (.ref v) :: L) st w cn sn = wp d 44 Q 44 (some (.ref v) :: L) (.ref v :: st) w cn sn := w_aload_n d_44_43 rfl
theorem d_44_44 : decode (mB 44) 44 = .ok (.aload_n 0, 1) := by decide +kernel
theorem s_44_44 {d : Nat} {Q : wQ} {L : List (Option Value)} {st : List Value} {w : aw} {cn sn : Nat} {v : Nat} : wp d 44 Q 44 (some (.ref v) :: L) st w cn sn = wp d 44 Q 45 (some (.ref v) :: L) (.ref v :: st) w cn sn := w_aload_n d_44_44 rfl
theorem d_44_45 : decode (mB 44) 45 = .ok (.iload_n 1, 1) := by decide +kernel
theorem s_44_45 {d : Nat} {Q : wQ} {L : List (Option Value)} {st : List Value} {w : aw} {cn sn : Nat} {a0 : Option Value} {v : Int32} : wp d 44 Q 45 (a0 :: some (.int v) :: L) st w cn sn = wp d 44 Q 46 (a0 :: some (.int v) :: L) (.int v :: st) w cn sn := w_iload_n d_44_45 rfl
theorem d_44_46 : decode (mB 44) 46 = .ok (.iconst 1, 1) := by decide +kernel
theorem s_44_46 {d : Nat} {Q : wQ} {L : List (Option Value)} {st : List Value} {w : aw} {cn sn : Nat}  : wp d 44 Q 46 L st w cn sn = wp d 44 Q 47 L (.int 1 :: st) w cn sn := w_iconst d_44_46 (by decide)
theorem d_44_47 : decode (mB 44) 47 = .ok (.iadd, 1) := by decide +kernel
theorem s_44_47 {d : Nat} {Q : wQ} {L : List (Option Value)} {st : List Value} {w : aw} {cn sn : Nat} {a b : Int32} : wp d 44 Q 47 L (.int b :: .int a :: st) w cn sn = wp d 44 Q 48 L (.int (a + b) :: st) w cn sn := wp_row d_44_47 _ _ _ _ _
theorem d_44_48 : decode (mB 44) 48 = .ok (.invokevirtual 49, 3) := by decide +kernel
theorem s_44_48 {d : Nat} {Q : wQ} {L : List (Option Value)} {st : List Value} {w : aw} {cn sn : Nat} {v0 : Value} {b : Nat} : wp d 44 Q 48 L (v0 :: .ref b :: st) w cn sn = (kd w b = 5 ∧ catS st ≤ 8 ∧ wpD d 40 [.ref b, v0] w (fun v w' => wp d 44 Q 51 L (v.toList ++ st) w' cn sn)) := w_virtual (As := [v0]) d_44_48 (by decide +kernel : cT (mO 44) 49 = some (0, 40)) rfl (by decide +kernel) rfl (by decide +kernel) rfl
theorem d_44_51 : decode (mB 44) 51 = .ok (.putfield 52, 3) := by decide +kernel
theorem s_44_51 {d : Nat} {Q : wQ} {L : List (Option Value)} {st : List Value} {w : aw} {cn sn : Nat} {x : Int32} {a : Nat} : wp d 44 Q 51 L (.int x :: .ref a :: st) w cn sn = (kd w a = 5 ∧ wp d 44 Q 54 L st (uF w 258 a (.int x)) cn sn) := w_putfield d_44_51 (by decide +kernel : fT (mO 44) 52 = some (4, 2)) (by decide +kernel) ok_int
theorem d_44_54 : decode (mB 44) 54 = .ok (.iconst 1, 1) := by decide +kernel
theorem s_44_54 {d : Nat} {Q : wQ} {L : List (Option Value)} {st : List Value} {w : aw} {cn sn : Nat}  : wp d 44 Q 54 L st w cn sn = wp d 44 Q 55 L (.int 1 :: st) w cn sn := w_iconst d_44_54 (by decide)
theorem d_44_55 : decode (mB 44) 55 = .ok (.ireturn, 1) := by decide +kernel
theorem s_44_55 {d : Nat} {Q : wQ} {L : List (Option Value)} {w : aw} {cn sn : Nat} {v : Int32} : wp d 44 Q 55 L [.int v] w cn sn = (narrow .boolean (.int v) = .int v ∧ Q (some (.int v)) w) := w_zreturn d_44_55 rfl
theorem d_45_0 : decode (mB 45) 0 = .ok (.aload_n 0, 1) := by decide +kernel
theorem s_45_0 {d : Nat} {Q : wQ} {L : List (Option Value)} {st : List Value} {w : aw} {cn sn : Nat} {v : Nat} : wp d 45 Q 0 (some (.ref v) :: L) st w cn sn = wp d 45 Q 1 (some (.ref v) :: L) (.ref v :: st) w cn sn := w_aload_n d_45_0 rfl
theorem d_45_1 : decode (mB 45) 1 = .ok (.iload_n 1, 1) := by decide +kernel
theorem s_45_1 {d : Nat} {Q : wQ} {L : List (Option Value)} {st : List Value} {w : aw} {cn sn : Nat} {a0 : Option Value} {v : Int32} : wp d 45 Q 1 (a0 :: some (.int v) :: L) st w cn sn = wp d 45 Q 2 (a0 :: some (.int v) :: L) (.int v :: st) w cn sn := w_iload_n d_45_1 rfl
theorem d_45_2 : decode (mB 45) 2 = .ok (.putfield 66, 3) := by decide +kernel
theorem s_45_2 {d : Nat} {Q : wQ} {L : List (Option Value)} {st : List Value} {w : aw} {cn sn : Nat} {x : Int32} {a : Nat} : wp d 45 Q 2 L (.int x :: .ref a :: st) w cn sn = (kd w a = 5 ∧ wp d 45 Q 5 L st (uF w 260 a (.int x)) cn sn) := w_putfield d_45_2 (by decide +kernel : fT (mO 45) 66 = some (4, 4)) (by decide +kernel) ok_int
theorem d_45_5 : decode (mB 45) 5 = .ok (.aload_n 0, 1) := by decide +kernel
theorem s_45_5 {d : Nat} {Q : wQ} {L : List (Option Value)} {st : List Value} {w : aw} {cn sn : Nat} {v : Nat} : wp d 45 Q 5 (some (.ref v) :: L) st w cn sn = wp d 45 Q 6 (some (.ref v) :: L) (.ref v :: st) w cn sn := w_aload_n d_45_5 rfl
theorem d_45_6 : decode (mB 45) 6 = .ok (.iconst 0, 1) := by decide +kernel
theorem s_45_6 {d : Nat} {Q : wQ} {L : List (Option Value)} {st : List Value} {w : aw} {cn sn : Nat}  : wp d 45 Q 6 L st w cn sn = wp d 45 Q 7 L (.int 0 :: st) w cn sn := w_iconst d_45_6 (by decide)
theorem d_45_7 : decode (mB 45) 7 = .ok (.putfield 69, 3) := by decide +kernel
theorem s_45_7 {d : Nat} {Q : wQ} {L : List (Option Value)} {st : List Value} {w : aw} {cn sn : Nat} {x : Int32} {a : Nat} : wp d 45 Q 7 L (.int x :: .ref a :: st) w cn sn = (kd w a = 5 ∧ wp d 45 Q 10 L st (uF w 266 a (.int x)) cn sn) := w_putfield d_45_7 (by decide +kernel : fT (mO 45) 69 = some (4, 10)) (by decide +kernel) ok_int
theorem d_45_10 : decode (mB 45) 10 = .ok (.aload_n 0, 1) := by decide +kernel
theorem s_45_10 {d : Nat} {Q : wQ} {L : List (Option Value)} {st : List Value} {w : aw} {cn sn : Nat} {v : Nat} : wp d 45 Q 10 (some (.ref v) :: L) st w cn sn = wp d 45 Q 11 (some (.ref v) :: L) (.ref v :: st) w cn sn := w_aload_n d_45_10 rfl
theorem d_45_11 : decode (mB 45) 11 = .ok (.iconst 0, 1) := by decide +kernel
theorem s_45_11 {d : Nat} {Q : wQ} {L : List (Option Value)} {st : List Value} {w : aw} {cn sn : Nat}  : wp d 45 Q 11 L st w cn sn = wp d 45 Q 12 L (.int 0 :: st) w cn sn := w_iconst d_45_11 (by decide)
theorem d_45_12 : decode (mB 45) 12 = .ok (.putfield 72, 3) := by decide +kernel
theorem s_45_12 {d : Nat} {Q : wQ} {L : List (Option Value)} {st : List Value} {w : aw} {cn sn : Nat} {x : Int32} {a : Nat} : wp d 45 Q 12 L (.int x :: .ref a :: st) w cn sn = (kd w a = 5 ∧ okv .boolean (.int x) ∧ wp d 45 Q 15 L st (uF w 264 a (.int x)) cn sn) := w_putfieldC d_45_12 (by decide +kernel : fT (mO 45) 72 = some (4, 8)) (by decide +kernel)
theorem d_45_15 : decode (mB 45) 15 = .ok (.aload_n 0, 1) := by decide +kernel
theorem s_45_15 {d : Nat} {Q : wQ} {L : List (Option Value)} {st : List Value} {w : aw} {cn sn : Nat} {v : Nat} : wp d 45 Q 15 (some (.ref v) :: L) st w cn sn = wp d 45 Q 16 (some (.ref v) :: L) (.ref v :: st) w cn sn := w_aload_n d_45_15 rfl
theorem d_45_16 : decode (mB 45) 16 = .ok (.iconst 0, 1) := by decide +kernel
theorem s_45_16 {d : Nat} {Q : wQ} {L : List (Option Value)} {st : List Value} {w : aw} {cn sn : Nat}  : wp d 45 Q 16 L st w cn sn = wp d 45 Q 17 L (.int 0 :: st) w cn sn := w_iconst d_45_16 (by decide)
theorem d_45_17 : decode (mB 45) 17 = .ok (.putfield 76, 3) := by decide +kernel
theorem s_45_17 {d : Nat} {Q : wQ} {L : List (Option Value)} {st : List Value} {w : aw} {cn sn : Nat} {x : Int32} {a : Nat} : wp d 45 Q 17 L (.int x :: .ref a :: st) w cn sn = (kd w a = 5 ∧ okv .boolean (.int x) ∧ wp d 45 Q 20 L st (uF w 265 a (.int x)) cn sn) := w_putfieldC d_45_17 (by decide +kernel : fT (mO 45) 76 = some (4, 9)) (by decide +kernel)
theorem d_45_20 : decode (mB 45) 20 = .ok (.aload_n 0, 1) := by decide +kernel
theorem s_45_20 {d : Nat} {Q : wQ} {L : List (Option Value)} {st : List Value} {w : aw} {cn sn : Nat} {v : Nat} : wp d 45 Q 20 (some (.ref v) :: L) st w cn sn = wp d 45 Q 21 (some (.ref v) :: L) (.ref v :: st) w cn sn := w_aload_n d_45_20 rfl
theorem d_45_21 : decode (mB 45) 21 = .ok (.iconst 0, 1) := by decide +kernel
theorem s_45_21 {d : Nat} {Q : wQ} {L : List (Option Value)} {st : List Value} {w : aw} {cn sn : Nat}  : wp d 45 Q 21 L st w cn sn = wp d 45 Q 22 L (.int 0 :: st) w cn sn := w_iconst d_45_21 (by decide)
theorem d_45_22 : decode (mB 45) 22 = .ok (.putfield 79, 3) := by decide +kernel
theorem s_45_22 {d : Nat} {Q : wQ} {L : List (Option Value)} {st : List Value} {w : aw} {cn sn : Nat} {x : Int32} {a : Nat} : wp d 45 Q 22 L (.int x :: .ref a :: st) w cn sn = (kd w a = 5 ∧ okv .boolean (.int x) ∧ wp d 45 Q 25 L st (uF w 267 a (.int x)) cn sn) := w_putfieldC d_45_22 (by decide +kernel : fT (mO 45) 79 = some (4, 11)) (by decide +kernel)
theorem d_45_25 : decode (mB 45) 25 = .ok (.aload_n 0, 1) := by decide +kernel
theorem s_45_25 {d : Nat} {Q : wQ} {L : List (Option Value)} {st : List Value} {w : aw} {cn sn : Nat} {v : Nat} : wp d 45 Q 25 (some (.ref v) :: L) st w cn sn = wp d 45 Q 26 (some (.ref v) :: L) (.ref v :: st) w cn sn := w_aload_n d_45_25 rfl
theorem d_45_26 : decode (mB 45) 26 = .ok (.iconst 0, 1) := by decide +kernel
theorem s_45_26 {d : Nat} {Q : wQ} {L : List (Option Value)} {st : List Value} {w : aw} {cn sn : Nat}  : wp d 45 Q 26 L st w cn sn = wp d 45 Q 27 L (.int 0 :: st) w cn sn := w_iconst d_45_26 (by decide)
theorem d_45_27 : decode (mB 45) 27 = .ok (.putfield 82, 3) := by decide +kernel
theorem s_45_27 {d : Nat} {Q : wQ} {L : List (Option Value)} {st : List Value} {w : aw} {cn sn : Nat} {x : Int32} {a : Nat} : wp d 45 Q 27 L (.int x :: .ref a :: st) w cn sn = (kd w a = 5 ∧ okv .boolean (.int x) ∧ wp d 45 Q 30 L st (uF w 268 a (.int x)) cn sn) := w_putfieldC d_45_27 (by decide +kernel : fT (mO 45) 82 = some (4, 12)) (by decide +kernel)
theorem d_45_30 : decode (mB 45) 30 = .ok (.aload_n 0, 1) := by decide +kernel
theorem s_45_30 {d : Nat} {Q : wQ} {L : List (Option Value)} {st : List Value} {w : aw} {cn sn : Nat} {v : Nat} : wp d 45 Q 30 (some (.ref v) :: L) st w cn sn = wp d 45 Q 31 (some (.ref v) :: L) (.ref v :: st) w cn sn := w_aload_n d_45_30 rfl
theorem d_45_31 : decode (mB 45) 31 = .ok (.aload_n 0, 1) := by decide +kernel
theorem s_45_31 {d : Nat} {Q : wQ} {L : List (Option Value)} {st : List Value} {w : aw} {cn sn : Nat} {v : Nat} : wp d 45 Q 31 (some (.ref v) :: L) st w cn sn = wp d 45 Q 32 (some (.ref v) :: L) (.ref v :: st) w cn sn := w_aload_n d_45_31 rfl
theorem d_45_32 : decode (mB 45) 32 = .ok (.getfield 52, 3) := by decide +kernel
theorem s_45_32 {d : Nat} {Q : wQ} {L : List (Option Value)} {st : List Value} {w : aw} {cn sn : Nat} {a : Nat} : wp d 45 Q 32 L (.ref a :: st) w cn sn = (kd w a = 5 ∧ wp d 45 Q 35 L (fd w 258 a :: st) w cn sn) := w_getfield d_45_32 (by decide +kernel : fT (mO 45) 52 = some (4, 2))
theorem d_45_35 : decode (mB 45) 35 = .ok (.invokevirtual 55, 3) := by decide +kernel
theorem s_45_35 {d : Nat} {Q : wQ} {L : List (Option Value)} {st : List Value} {w : aw} {cn sn : Nat} {v0 : Value} {b : Nat} : wp d 45 Q 35 L (v0 :: .ref b :: st) w cn sn = (kd w b = 5 ∧ catS st ≤ 8 ∧ wpD d 41 [.ref b, v0] w (fun v w' => wp d 45 Q 38 L (v.toList ++ st) w' cn sn)) := w_virtual (As := [v0]) d_45_35 (by decide +kernel : cT (mO 45) 55 = some (0, 41)) rfl (by decide +kernel) rfl (by decide +kernel) rfl
theorem d_45_38 : decode (mB 45) 38 = .ok (.istore_n 2, 1) := by decide +kernel
theorem s_45_38 {d : Nat} {Q : wQ} {L : List (Option Value)} {st : List Value} {w : aw} {cn sn : Nat} {a0 a1 a2 : Option Value} {v : Int32} : wp d 45 Q 38 (a0 :: a1 :: a2 :: L) (.int v :: st) w cn sn = wp d 45 Q 39 (a0 :: clr a1 :: some (.int v) :: L) st w cn sn := w_istore_n d_45_38 (Nat.le_add_left 3 _) rfl
theorem d_45_39 : decode (mB 45) 39 = .ok (.aload_n 0, 1) := by decide +kernel
theorem s_45_39 {d : Nat} {Q : wQ} {L : List (Option Value)} {st : List Value} {w : aw} {cn sn : Nat} {v : Nat} : wp d 45 Q 39 (some (.ref v) :: L) st w cn sn = wp d 45 Q 40 (some (.ref v) :: L) (.ref v :: st) w cn sn := w_aload_n d_45_39 rfl
theorem d_45_40 : decode (mB 45) 40 = .ok (.aload_n 0, 1) := by decide +kernel
theorem s_45_40 {d : Nat} {Q : wQ} {L : List (Option Value)} {st : List Value} {w : aw} {cn sn : Nat} {v : Nat} : wp d 45 Q 40 (some (.ref v) :: L) st w cn sn = wp d 45 Q 41 (some (.ref v) :: L) (.ref v :: st) w cn sn := w_aload_n d_45_40 rfl
theorem d_45_41 : decode (mB 45) 41 = .ok (.aload_n 0, 1) := by decide +kernel
theorem s_45_41 {d : Nat} {Q : wQ} {L : List (Option Value)} {st : List Value} {w : aw} {cn sn : Nat} {v : Nat} : wp d 45 Q 41 (some (.ref v) :: L) st w cn sn = wp d 45 Q 42 (some (.ref v) :: L) (.ref v :: st) w cn sn := w_aload_n d_45_41 rfl
theorem d_45_42 : decode (mB 45) 42 = .ok (.getfield 52, 3) := by decide +kernel
theorem s_45_42 {d : Nat} {Q : wQ} {L : List (Option Value)} {st : List Value} {w : aw} {cn sn : Nat} {a : Nat} : wp d 45 Q 42 L (.ref a :: st) w cn sn = (kd w a = 5 ∧ wp d 45 Q 45 L (fd w 258 a :: st) w cn sn) := w_getfield d_45_42 (by decide +kernel : fT (mO 45) 52 = some (4, 2))
theorem d_45_45 : decode (mB 45) 45 = .ok (.iload_n 2, 1) := by decide +kernel
theorem s_45_45 {d : Nat} {Q : wQ} {L : List (Option Value)} {st : List Value} {w : aw} {cn sn : Nat} {a0 a1 : Option Value} {v : Int32} : wp d 45 Q 45 (a0 :: a1 :: some (.int v) :: L) st w cn sn = wp d 45 Q 46 (a0 :: a1 :: some (.int v) :: L) (.int v :: st) w cn sn := w_iload_n d_45_45 rfl
theorem d_45_46 : decode (mB 45) 46 = .ok (.invokevirtual 58, 3) := by decide +kernel
theorem s_45_46 {d : Nat} {Q : wQ} {L : List (Option Value)} {st : List Value} {w : aw} {cn sn : Nat} {v0 v1 : Value} {b : Nat} : wp d 45 Q 46 L (v1 :: v0 :: .ref b :: st) w cn sn = (kd w b = 5 ∧ catS st ≤ 8 ∧ wpD d 42 [.ref b, v0, v1] w (fun v w' => wp d 45 Q 49 L (v.toList ++ st) w' cn sn)) := w_virtual (As := [v0, v1]) d_45_46 (by decide +kernel : cT (mO 45) 58 = some (0, 42)) rfl (by decide +kernel) rfl (by decide +kernel) rfl
theorem d_45_49 : decode (mB 45) 49 = .ok (.putfield 62, 3) := by decide +kernel
theorem s_45_49 {d : Nat} {Q : wQ} {L : List (Option Value)} {st : List Value} {w : aw} {cn sn : Nat} {x : Int64} {a : Nat} : wp d 45 Q 49 L (.long x :: .ref a :: st) w cn sn = (kd w a = 5 ∧ wp d 45 Q 52 L st (uF w 262 a (.long x)) cn sn) := w_putfield d_45_49 (by decide +kernel : fT (mO 45) 62 = some (4, 6)) (by decide +kernel) ok_long
theorem d_45_52 : decode (mB 45) 52 = .ok (.aload_n 0, 1) := by decide +kernel
theorem s_45_52 {d : Nat} {Q : wQ} {L : List (Option Value)} {st : List Value} {w : aw} {cn sn : Nat} {v : Nat} : wp d 45 Q 52 (some (.ref v) :: L) st w cn sn = wp d 45 Q 53 (some (.ref v) :: L) (.ref v :: st) w cn sn := w_aload_n d_45_52 rfl
theorem d_45_53 : decode (mB 45) 53 = .ok (.aload_n 0, 1) := by decide +kernel
theorem s_45_53 {d : Nat} {Q : wQ} {L : List (Option Value)} {st : List Value} {w : aw} {cn sn : Nat} {v : Nat} : wp d 45 Q 53 (some (.ref v) :: L) st w cn sn = wp d 45 Q 54 (some (.ref v) :: L) (.ref v :: st) w cn sn := w_aload_n d_45_53 rfl
theorem d_45_54 : decode (mB 45) 54 = .ok (.getfield 15, 3) := by decide +kernel
theorem s_45_54 {d : Nat} {Q : wQ} {L : List (Option Value)} {st : List Value} {w : aw} {cn sn : Nat} {a : Nat} : wp d 45 Q 54 L (.ref a :: st) w cn sn = (kd w a = 5 ∧ wp d 45 Q 57 L (fd w 257 a :: st) w cn sn) := w_getfield d_45_54 (by decide +kernel : fT (mO 45) 15 = some (4, 1))
theorem d_45_57 : decode (mB 45) 57 = .ok (.aload_n 0, 1) := by decide +kernel
theorem s_45_57 {d : Nat} {Q : wQ} {L : List (Option Value)} {st : List Value} {w : aw} {cn sn : Nat} {v : Nat} : wp d 45 Q 57 (some (.ref v) :: L) st w cn sn = wp d 45 Q 58 (some (.ref v) :: L) (.ref v :: st) w cn sn := w_aload_n d_45_57 rfl
theorem d_45_58 : decode (mB 45) 58 = .ok (.getfield 62, 3) := by decide +kernel
theorem s_45_58 {d : Nat} {Q : wQ} {L : List (Option Value)} {st : List Value} {w : aw} {cn sn : Nat} {a : Nat} : wp d 45 Q 58 L (.ref a :: st) w cn sn = (kd w a = 5 ∧ wp d 45 Q 61 L (fd w 262 a :: st) w cn sn) := w_getfield d_45_58 (by decide +kernel : fT (mO 45) 62 = some (4, 6))
theorem d_45_61 : decode (mB 45) 61 = .ok (.invokevirtual 85, 3) := by decide +kernel
theorem s_45_61 {d : Nat} {Q : wQ} {L : List (Option Value)} {st : List Value} {w : aw} {cn sn : Nat} {v0 : Value} {b : Nat} : wp d 45 Q 61 L (v0 :: .ref b :: st) w cn sn = (kd w b = 4 ∧ catS st ≤ 8 ∧ wpD d 33 [.ref b, v0] w (fun v w' => wp d 45 Q 64 L (v.toList ++ st) w' cn sn)) := w_virtual (As := [v0]) d_45_61 (by decide +kernel : cT (mO 45) 85 = some (0, 33)) rfl (by decide +kernel) rfl (by decide +kernel) rfl
theorem d_45_64 : decode (mB 45) 64 = .ok (.putfield 89, 3) := by decide +kernel
theorem s_45_64 {d : Nat} {Q : wQ} {L : List (Option Value)} {st : List Value} {w : aw} {cn sn : Nat} {x : Int32} {a : Nat} : wp d 45 Q 64 L (.int x :: .ref a :: st) w cn sn = (kd w a = 5 ∧ wp d 45 Q 67 L st (uF w 263 a (.int x)) cn sn) := w_putfield d_45_64 (by decide +kernel : fT (mO 45) 89 = some (4, 7)) (by decide +kernel) ok_int
theorem d_45_67 : decode (mB 45) 67 = .ok (.aload_n 0, 1) := by decide +kernel
theorem s_45_67 {d : Nat} {Q : wQ} {L : List (Option Value)} {st : List Value} {w : aw} {cn sn : Nat} {v : Nat} : wp d 45 Q 67 (some (.ref v) :: L) st w cn sn = wp d 45 Q 68 (some (.ref v) :: L) (.ref v :: st) w cn sn := w_aload_n d_45_67 rfl
theorem d_45_68 : decode (mB 45) 68 = .ok (.getfield 52, 3) := by decide +kernel
theorem s_45_68 {d : Nat} {Q : wQ} {L : List (Option Value)} {st : List Value} {w : aw} {cn sn : Nat} {a : Nat} : wp d 45 Q 68 L (.ref a :: st) w cn sn = (kd w a = 5 ∧ wp d 45 Q 71 L (fd w 258 a :: st) w cn sn) := w_getfield d_45_68 (by decide +kernel : fT (mO 45) 52 = some (4, 2))
theorem d_45_71 : decode (mB 45) 71 = .ok (.aload_n 0, 1) := by decide +kernel
theorem s_45_71 {d : Nat} {Q : wQ} {L : List (Option Value)} {st : List Value} {w : aw} {cn sn : Nat} {v : Nat} : wp d 45 Q 71 (some (.ref v) :: L) st w cn sn = wp d 45 Q 72 (some (.ref v) :: L) (.ref v :: st) w cn sn := w_aload_n d_45_71 rfl
theorem d_45_72 : decode (mB 45) 72 = .ok (.getfield 19, 3) := by decide +kernel
theorem s_45_72 {d : Nat} {Q : wQ} {L : List (Option Value)} {st : List Value} {w : aw} {cn sn : Nat} {a : Nat} : wp d 45 Q 72 L (.ref a :: st) w cn sn = (kd w a = 5 ∧ wp d 45 Q 75 L (fd w 259 a :: st) w cn sn) := w_getfield d_45_72 (by decide +kernel : fT (mO 45) 19 = some (4, 3))
theorem d_45_75 : decode (mB 45) 75 = .ok (.if_icmp .lt 11, 3) := by decide +kernel
theorem s_45_75 {d : Nat} {Q : wQ} {L : List (Option Value)} {st : List Value} {w : aw} {cn sn : Nat} {a b : Int32} : wp d 45 Q 75 L (.int b :: .int a :: st) w cn sn = ((a < b → wp d 45 Q 86 L st w cn sn) ∧ (¬ a < b → wp d 45 Q 78 L st w cn sn)) := w_iclt d_45_75 (by decide)
theorem d_45_78 : decode (mB 45) 78 = .ok (.aload_n 0, 1) := by decide +kernel
theorem s_45_78 {d : Nat} {Q : wQ} {L : List (Option Value)} {st : List Value} {w : aw} {cn sn : Nat} {v : Nat} : wp d 45 Q 78 (some (.ref v) :: L) st w cn sn = wp d 45 Q 79 (some (.ref v) :: L) (.ref v :: st) w cn sn := w_aload_n d_45_78 rfl
theorem d_45_79 : decode (mB 45) 79 = .ok (.iconst 0, 1) := by decide +kernel
theorem s_45_79 {d : Nat} {Q : wQ} {L : List (Option Value)} {st : List Value} {w : aw} {cn sn : Nat}  : wp d 45 Q 79 L st w cn sn = wp d 45 Q 80 L (.int 0 :: st) w cn sn := w_iconst d_45_79 (by decide)
theorem d_45_80 : decode (mB 45) 80 = .ok (.putfield 92, 3) := by decide +kernel
theorem s_45_80 {d : Nat} {Q : wQ} {L : List (Option Value)} {st : List Value} {w : aw} {cn sn : Nat} {x : Int32} {a : Nat} : wp d 45 Q 80 L (.int x :: .ref a :: st) w cn sn = (kd w a = 5 ∧ wp d 45 Q 83 L st (uF w 261 a (.int x)) cn sn) := w_putfield d_45_80 (by decide +kernel : fT (mO 45) 92 = some (4, 5)) (by decide +kernel) ok_int
theorem d_45_83 : decode (mB 45) 83 = .ok (.goto 193, 3) := by decide +kernel
theorem s_45_83 {d : Nat} {Q : wQ} {L : List (Option Value)} {st : List Value} {w : aw} {cn sn : Nat}  : wp d 45 Q 83 L st w cn sn = wp d 45 Q 276 L st w cn sn := w_goto d_45_83 (by decide)
theorem d_45_86 : decode (mB 45) 86 = .ok (.aload_n 0, 1) := by decide +kernel
theorem s_45_86 {d : Nat} {Q : wQ} {L : List (Option Value)} {st : List Value} {w : aw} {cn sn : Nat} {v : Nat} : wp d 45 Q 86 (some (.ref v) :: L) st w cn sn = wp d 45 Q 87 (some (.ref v) :: L) (.ref v :: st) w cn sn := w_aload_n d_45_86 rfl
theorem d_45_87 : decode (mB 45) 87 = .ok (.aload_n 0, 1) := by decide +kernel
theorem s_45_87 {d : Nat} {Q : wQ} {L : List (Option Value)} {st : List Value} {w : aw} {cn sn : Nat} {v : Nat} : wp d 45 Q 87 (some (.ref v) :: L) st w cn sn = wp d 45 Q 88 (some (.ref v) :: L) (.ref v :: st) w cn sn := w_aload_n d_45_87 rfl
theorem d_45_88 : decode (mB 45) 88 = .ok (.getfield 52, 3) := by decide +kernel
theorem s_45_88 {d : Nat} {Q : wQ} {L : List (Option Value)} {st : List Value} {w : aw} {cn sn : Nat} {a : Nat} : wp d 45 Q 88 L (.ref a :: st) w cn sn = (kd w a = 5 ∧ wp d 45 Q 91 L (fd w 258 a :: st) w cn sn) := w_getfield d_45_88 (by decide +kernel : fT (mO 45) 52 = some (4, 2))
theorem d_45_91 : decode (mB 45) 91 = .ok (.invokevirtual 32, 3) := by decide +kernel
theorem s_45_91 {d : Nat} {Q : wQ} {L : List (Option Value)} {st : List Value} {w : aw} {cn sn : Nat} {v0 : Value} {b : Nat} : wp d 45 Q 91 L (v0 :: .ref b :: st) w cn sn = (kd w b = 5 ∧ catS st ≤ 8 ∧ wpD d 37 [.ref b, v0] w (fun v w' => wp d 45 Q 94 L (v.toList ++ st) w' cn sn)) := w_virtual (As := [v0]) d_45_91 (by decide +kernel : cT (mO 45) 32 = some (0, 37)) rfl (by decide +kernel) rfl (by decide +kernel) rfl
theorem d_45_94 : decode (mB 45) 94 = .ok (.bipush 42, 2) := by decide +kernel
theorem s_45_94 {d : Nat} {Q : wQ} {L : List (Option Value)} {st : List Value} {w : aw} {cn sn : Nat}  : wp d 45 Q 94 L st w cn sn = wp d 45 Q 96 L (.int 42 :: st) w cn sn := w_bipush d_45_94 (by decide)
theorem d_45_96 : decode (mB 45) 96 = .ok (.if_icmp .ne 33, 3) := by decide +kernel
theorem s_45_96 {d : Nat} {Q : wQ} {L : List (Option Value)} {st : List Value} {w : aw} {cn sn : Nat} {a b : Int32} : wp d 45 Q 96 L (.int b :: .int a :: st) w cn sn = ((¬ a = b → wp d 45 Q 129 L st w cn sn) ∧ (a = b → wp d 45 Q 99 L st w cn sn)) := w_icne d_45_96 (by decide)
theorem d_45_99 : decode (mB 45) 99 = .ok (.aload_n 0, 1) := by decide +kernel
theorem s_45_99 {d : Nat} {Q : wQ} {L : List (Option Value)} {st : List Value} {w : aw} {cn sn : Nat} {v : Nat} : wp d 45 Q 99 (some (.ref v) :: L) st w cn sn = wp d 45 Q 100 (some (.ref v) :: L) (.ref v :: st) w cn sn := w_aload_n d_45_99 rfl
theorem d_45_100 : decode (mB 45) 100 = .ok (.iconst 1, 1) := by decide +kernel
theorem s_45_100 {d : Nat} {Q : wQ} {L : List (Option Value)} {st : List Value} {w : aw} {cn sn : Nat}  : wp d 45 Q 100 L st w cn sn = wp d 45 Q 101 L (.int 1 :: st) w cn sn := w_iconst d_45_100 (by decide)
theorem d_45_101 : decode (mB 45) 101 = .ok (.putfield 92, 3) := by decide +kernel
theorem s_45_101 {d : Nat} {Q : wQ} {L : List (Option Value)} {st : List Value} {w : aw} {cn sn : Nat} {x : Int32} {a : Nat} : wp d 45 Q 101 L (.int x :: .ref a :: st) w cn sn = (kd w a = 5 ∧ wp d 45 Q 104 L st (uF w 261 a (.int x)) cn sn) := w_putfield d_45_101 (by decide +kernel : fT (mO 45) 92 = some (4, 5)) (by decide +kernel) ok_int
theorem d_45_104 : decode (mB 45) 104 = .ok (.aload_n 0, 1) := by decide +kernel
theorem s_45_104 {d : Nat} {Q : wQ} {L : List (Option Value)} {st : List Value} {w : aw} {cn sn : Nat} {v : Nat} : wp d 45 Q 104 (some (.ref v) :: L) st w cn sn = wp d 45 Q 105 (some (.ref v) :: L) (.ref v :: st) w cn sn := w_aload_n d_45_104 rfl
theorem d_45_105 : decode (mB 45) 105 = .ok (.aload_n 0, 1) := by decide +kernel
theorem s_45_105 {d : Nat} {Q : wQ} {L : List (Option Value)} {st : List Value} {w : aw} {cn sn : Nat} {v : Nat} : wp d 45 Q 105 (some (.ref v) :: L) st w cn sn = wp d 45 Q 106 (some (.ref v) :: L) (.ref v :: st) w cn sn := w_aload_n d_45_105 rfl
theorem d_45_106 : decode (mB 45) 106 = .ok (.aload_n 0, 1) := by decide +kernel
theorem s_45_106 {d : Nat} {Q : wQ} {L : List (Option Value)} {st : List Value} {w : aw} {cn sn : Nat} {v : Nat} : wp d 45 Q 106 (some (.ref v) :: L) st w cn sn = wp d 45 Q 107 (some (.ref v) :: L) (.ref v :: st) w cn sn := w_aload_n d_45_106 rfl
theorem d_45_107 : decode (mB 45) 107 = .ok (.getfield 52, 3) := by decide +kernel
theorem s_45_107 {d : Nat} {Q : wQ} {L : List (Option Value)} {st : List Value} {w : aw} {cn sn : Nat} {a : Nat} : wp d 45 Q 107 L (.ref a :: st) w cn sn = (kd w a = 5 ∧ wp d 45 Q 110 L (fd w 258 a :: st) w cn sn) := w_getfield d_45_107 (by decide +kernel : fT (mO 45) 52 = some (4, 2))
theorem d_45_110 : decode (mB 45) 110 = .ok (.iconst 1, 1) := by decide +kernel
theorem s_45_110 {d : Nat} {Q : wQ} {L : List (Option Value)} {st : List Value} {w : aw} {cn sn : Nat}  : wp d 45 Q 110 L st w cn sn = wp d 45 Q 111 L (.int 1 :: st) w cn sn := w_iconst d_45_110 (by decide)
theorem d_45_111 : decode (mB 45) 111 = .ok (.iadd, 1) := by decide +kernel
theorem s_45_111 {d : Nat} {Q : wQ} {L : List (Option Value)} {st : List Value} {w : aw} {cn sn : Nat} {a b : Int32} : wp d 45 Q 111 L (.int b :: .int a :: st) w cn sn = wp d 45 Q 112 L (.int (a + b) :: st) w cn sn := wp_row d_45_111 _ _ _ _ _
theorem d_45_112 : decode (mB 45) 112 = .ok (.invokevirtual 49, 3) := by decide +kernel
theorem s_45_112 {d : Nat} {Q : wQ} {L : List (Option Value)} {st : List Value} {w : aw} {cn sn : Nat} {v0 : Value} {b : Nat} : wp d 45 Q 112 L (v0 :: .ref b :: st) w cn sn = (kd w b = 5 ∧ catS st ≤ 8 ∧ wpD d 40 [.ref b, v0] w (fun v w' => wp d 45 Q 115 L (v.toList ++ st) w' cn sn)) := w_virtual (As := [v0]) d_45_112 (by decide +kernel : cT (mO 45) 49 = some (0, 40)) rfl (by decide +kernel) rfl (by decide +kernel) rfl
theorem d_45_115 : decode (mB 45) 115 = .ok (.putfield 52, 3) := by decide +kernel
theorem s_45_115 {d : Nat} {Q : wQ} {L : List (Option Value)} {st : List Value} {w : aw} {cn sn : Nat} {x : Int32} {a : Nat} : wp d 45 Q 115 L (.int x :: .ref a :: st) w cn sn = (kd w a = 5 ∧ wp d 45 Q 118 L st (uF w 258 a (.int x)) cn sn) := w_putfield d_45_115 (by decide +kernel : fT (mO 45) 52 = some (4, 2)) (by decide +kernel) ok_int
theorem d_45_118 : decode (mB 45) 118 = .ok (.aload_n 0, 1) := by decide +kernel
theorem s_45_118 {d : Nat} {Q : wQ} {L : List (Option Value)} {st : List Value} {w : aw} {cn sn : Nat} {v : Nat} : wp d 45 Q 118 (some (.ref v) :: L) st w cn sn = wp d 45 Q 119 (some (.ref v) :: L) (.ref v :: st) w cn sn := w_aload_n d_45_118 rfl
theorem d_45_119 : decode (mB 45) 119 = .ok (.aload_n 0, 1) := by decide +kernel
theorem s_45_119 {d : Nat} {Q : wQ} {L : List (Option Value)} {st : List Value} {w : aw} {cn sn : Nat} {v : Nat} : wp d 45 Q 119 (some (.ref v) :: L) st w cn sn = wp d 45 Q 120 (some (.ref v) :: L) (.ref v :: st) w cn sn := w_aload_n d_45_119 rfl
theorem d_45_120 : decode (mB 45) 120 = .ok (.invokevirtual 95, 3) := by decide +kernel
theorem s_45_120 {d : Nat} {Q : wQ} {L : List (Option Value)} {st : List Value} {w : aw} {cn sn : Nat} {b : Nat} : wp d 45 Q 120 L (.ref b :: st) w cn sn = (kd w b = 5 ∧ catS st ≤ 8 ∧ wpD d 50 [.ref b] w (fun v w' => wp d 45 Q 123 L (v.toList ++ st) w' cn sn)) := w_virtual (As := []) d_45_120 (by decide +kernel : cT (mO 45) 95 = some (0, 50)) rfl (by decide +kernel) rfl (by decide +kernel) rfl
theorem d_45_123 : decode (mB 45) 123 = .ok (.putfield 69, 3) := by decide +kernel
theorem s_45_123 {d : Nat} {Q : wQ} {L : List (Option Value)} {st : List Value} {w : aw} {cn sn : Nat} {x : Int32} {a : Nat} : wp d 45 Q 123 L (.int x :: .ref a :: st) w cn sn = (kd w a = 5 ∧ wp d 45 Q 126 L st (uF w 266 a (.int x)) cn sn) := w_putfield d_45_123 (by decide +kernel : fT (mO 45) 69 = some (4, 10)) (by decide +kernel) ok_int
theorem d_45_126 : decode (mB 45) 126 = .ok (.goto 150, 3) := by decide +kernel
theorem s_45_126 {d : Nat} {Q : wQ} {L : List (Option Value)} {st : List Value} {w : aw} {cn sn : Nat}  : wp d 45 Q 126 L st w cn sn = wp d 45 Q 276 L st w cn sn := w_goto d_45_126 (by decide)
theorem d_45_129 : decode (mB 45) 129 = .ok (.aload_n 0, 1) := by decide +kernel
theorem s_45_129 {d : Nat} {Q : wQ} {L : List (Option Value)} {st : List Value} {w : aw} {cn sn : Nat} {v : Nat} : wp d 45 Q 129 (some (.ref v) :: L) st w cn sn = wp d 45 Q 130 (some (.ref v) :: L) (.ref v :: st) w cn sn := w_aload_n d_45_129 rfl
theorem d_45_130 : decode (mB 45) 130 = .ok (.getfield 62, 3) := by decide +kernel
theorem s_45_130 {d : Nat} {Q : wQ} {L : List (Option Value)} {st : List Value} {w : aw} {cn sn : Nat} {a : Nat} : wp d 45 Q 130 L (.ref a :: st) w cn sn = (kd w a = 5 ∧ wp d 45 Q 133 L (fd w 262 a :: st) w cn sn) := w_getfield d_45_130 (by decide +kernel : fT (mO 45) 62 = some (4, 6))
theorem d_45_133 : decode (mB 45) 133 = .ok (.lconst 0, 1) := by decide +kernel
theorem s_45_133 {d : Nat} {Q : wQ} {L : List (Option Value)} {st : List Value} {w : aw} {cn sn : Nat}  : wp d 45 Q 133 L st w cn sn = wp d 45 Q 134 L (.long 0 :: st) w cn sn := w_lconst d_45_133 (by decide)
theorem d_45_134 : decode (mB 45) 134 = .ok (.lcmp, 1) := by decide +kernel
theorem s_45_134 {d : Nat} {Q : wQ} {L : List (Option Value)} {st : List Value} {w : aw} {cn sn : Nat} {a b : Int64} : wp d 45 Q 134 L (.long b :: .long a :: st) w cn sn = wp d 45 Q 135 L (.int (lg_cmp a b) :: st) w cn sn := wp_row d_45_134 _ _ _ _ _
theorem d_45_135 : decode (mB 45) 135 = .ok (.ifCond .eq 40, 3) := by decide +kernel
theorem s_45_135 {d : Nat} {Q : wQ} {L : List (Option Value)} {st : List Value} {w : aw} {cn sn : Nat} {x : Int32} : wp d 45 Q 135 L (.int x :: st) w cn sn = ((x = 0 → wp d 45 Q 175 L st w cn sn) ∧ (¬ x = 0 → wp d 45 Q 138 L st w cn sn)) := w_ifeq d_45_135 (by decide)
theorem d_45_138 : decode (mB 45) 138 = .ok (.aload_n 0, 1) := by decide +kernel
theorem s_45_138 {d : Nat} {Q : wQ} {L : List (Option Value)} {st : List Value} {w : aw} {cn sn : Nat} {v : Nat} : wp d 45 Q 138 (some (.ref v) :: L) st w cn sn = wp d 45 Q 139 (some (.ref v) :: L) (.ref v :: st) w cn sn := w_aload_n d_45_138 rfl
theorem d_45_139 : decode (mB 45) 139 = .ok (.iload_n 2, 1) := by decide +kernel
theorem s_45_139 {d : Nat} {Q : wQ} {L : List (Option Value)} {st : List Value} {w : aw} {cn sn : Nat} {a0 a1 : Option Value} {v : Int32} : wp d 45 Q 139 (a0 :: a1 :: some (.int v) :: L) st w cn sn = wp d 45 Q 140 (a0 :: a1 :: some (.int v) :: L) (.int v :: st) w cn sn := w_iload_n d_45_139 rfl
theorem d_45_140 : decode (mB 45) 140 = .ok (.invokevirtual 32, 3) := by decide +kernel
theorem s_45_140 {d : Nat} {Q : wQ} {L : List (Option Value)} {st : List Value} {w : aw} {cn sn : Nat} {v0 : Value} {b : Nat} : wp d 45 Q 140 L (v0 :: .ref b :: st) w cn sn = (kd w b = 5 ∧ catS st ≤ 8 ∧ wpD d 37 [.ref b, v0] w (fun v w' => wp d 45 Q 143 L (v.toList ++ st) w' cn sn)) := w_virtual (As := [v0]) d_45_140 (by decide +kernel : cT (mO 45) 32 = some (0, 37)) rfl (by decide +kernel) rfl (by decide +kernel) rfl
theorem d_45_143 : decode (mB 45) 143 = .ok (.bipush 61, 2) := by decide +kernel
theorem s_45_143 {d : Nat} {Q : wQ} {L : List (Option Value)} {st : List Value} {w : aw} {cn sn : Nat}  : wp d 45 Q 143 L st w cn sn = wp d 45 Q 145 L (.int 61 :: st) w cn sn := w_bipush d_45_143 (by decide)
theorem d_45_145 : decode (mB 45) 145 = .ok (.if_icmp .ne 30, 3) := by decide +kernel
theorem s_45_145 {d : Nat} {Q : wQ} {L : List (Option Value)} {st : List Value} {w : aw} {cn sn : Nat} {a b : Int32} : wp d 45 Q 145 L (.int b :: .int a :: st) w cn sn = ((¬ a = b → wp d 45 Q 175 L st w cn sn) ∧ (a = b → wp d 45 Q 148 L st w cn sn)) := w_icne d_45_145 (by decide)
theorem d_45_148 : decode (mB 45) 148 = .ok (.aload_n 0, 1) := by decide +kernel
theorem s_45_148 {d : Nat} {Q : wQ} {L : List (Option Value)} {st : List Value} {w : aw} {cn sn : Nat} {v : Nat} : wp d 45 Q 148 (some (.ref v) :: L) st w cn sn = wp d 45 Q 149 (some (.ref v) :: L) (.ref v :: st) w cn sn := w_aload_n d_45_148 rfl
theorem d_45_149 : decode (mB 45) 149 = .ok (.iconst 2, 1) := by decide +kernel
theorem s_45_149 {d : Nat} {Q : wQ} {L : List (Option Value)} {st : List Value} {w : aw} {cn sn : Nat}  : wp d 45 Q 149 L st w cn sn = wp d 45 Q 150 L (.int 2 :: st) w cn sn := w_iconst d_45_149 (by decide)
theorem d_45_150 : decode (mB 45) 150 = .ok (.putfield 92, 3) := by decide +kernel
theorem s_45_150 {d : Nat} {Q : wQ} {L : List (Option Value)} {st : List Value} {w : aw} {cn sn : Nat} {x : Int32} {a : Nat} : wp d 45 Q 150 L (.int x :: .ref a :: st) w cn sn = (kd w a = 5 ∧ wp d 45 Q 153 L st (uF w 261 a (.int x)) cn sn) := w_putfield d_45_150 (by decide +kernel : fT (mO 45) 92 = some (4, 5)) (by decide +kernel) ok_int
theorem d_45_153 : decode (mB 45) 153 = .ok (.aload_n 0, 1) := by decide +kernel
theorem s_45_153 {d : Nat} {Q : wQ} {L : List (Option Value)} {st : List Value} {w : aw} {cn sn : Nat} {v : Nat} : wp d 45 Q 153 (some (.ref v) :: L) st w cn sn = wp d 45 Q 154 (some (.ref v) :: L) (.ref v :: st) w cn sn := w_aload_n d_45_153 rfl
theorem d_45_154 : decode (mB 45) 154 = .ok (.aload_n 0, 1) := by decide +kernel
theorem s_45_154 {d : Nat} {Q : wQ} {L : List (Option Value)} {st : List Value} {w : aw} {cn sn : Nat} {v : Nat} : wp d 45 Q 154 (some (.ref v) :: L) st w cn sn = wp d 45 Q 155 (some (.ref v) :: L) (.ref v :: st) w cn sn := w_aload_n d_45_154 rfl
theorem d_45_155 : decode (mB 45) 155 = .ok (.iload_n 2, 1) := by decide +kernel
theorem s_45_155 {d : Nat} {Q : wQ} {L : List (Option Value)} {st : List Value} {w : aw} {cn sn : Nat} {a0 a1 : Option Value} {v : Int32} : wp d 45 Q 155 (a0 :: a1 :: some (.int v) :: L) st w cn sn = wp d 45 Q 156 (a0 :: a1 :: some (.int v) :: L) (.int v :: st) w cn sn := w_iload_n d_45_155 rfl
theorem d_45_156 : decode (mB 45) 156 = .ok (.iconst 1, 1) := by decide +kernel
theorem s_45_156 {d : Nat} {Q : wQ} {L : List (Option Value)} {st : List Value} {w : aw} {cn sn : Nat}  : wp d 45 Q 156 L st w cn sn = wp d 45 Q 157 L (.int 1 :: st) w cn sn := w_iconst d_45_156 (by decide)
theorem d_45_157 : decode (mB 45) 157 = .ok (.iadd, 1) := by decide +kernel
theorem s_45_157 {d : Nat} {Q : wQ} {L : List (Option Value)} {st : List Value} {w : aw} {cn sn : Nat} {a b : Int32} : wp d 45 Q 157 L (.int b :: .int a :: st) w cn sn = wp d 45 Q 158 L (.int (a + b) :: st) w cn sn := wp_row d_45_157 _ _ _ _ _
theorem d_45_158 : decode (mB 45) 158 = .ok (.invokevirtual 49, 3) := by decide +kernel
theorem s_45_158 {d : Nat} {Q : wQ} {L : List (Option Value)} {st : List Value} {w : aw} {cn sn : Nat} {v0 : Value} {b : Nat} : wp d 45 Q 158 L (v0 :: .ref b :: st) w cn sn = (kd w b = 5 ∧ catS st ≤ 8 ∧ wpD d 40 [.ref b, v0] w (fun v w' => wp d 45 Q 161 L (v.toList ++ st) w' cn sn)) := w_virtual (As := [v0]) d_45_158 (by decide +kernel : cT (mO 45) 49 = some (0, 40)) rfl (by decide +kernel) rfl (by decide +kernel) rfl
theorem d_45_161 : decode (mB 45) 161 = .ok (.putfield 52, 3) := by decide +kernel
theorem s_45_161 {d : Nat} {Q : wQ} {L : List (Option Value)} {st : List Value} {w : aw} {cn sn : Nat} {x : Int32} {a : Nat} : wp d 45 Q 161 L (.int x :: .ref a :: st) w cn sn = (kd w a = 5 ∧ wp d 45 Q 164 L st (uF w 258 a (.int x)) cn sn) := w_putfield d_45_161 (by decide +kernel : fT (mO 45) 52 = some (4, 2)) (by decide +kernel) ok_int
theorem d_45_164 : decode (mB 45) 164 = .ok (.aload_n 0, 1) := by decide +kernel
theorem s_45_164 {d : Nat} {Q : wQ} {L : List (Option Value)} {st : List Value} {w : aw} {cn sn : Nat} {v : Nat} : wp d 45 Q 164 (some (.ref v) :: L) st w cn sn = wp d 45 Q 165 (some (.ref v) :: L) (.ref v :: st) w cn sn := w_aload_n d_45_164 rfl
theorem d_45_165 : decode (mB 45) 165 = .ok (.aload_n 0, 1) := by decide +kernel
theorem s_45_165 {d : Nat} {Q : wQ} {L : List (Option Value)} {st : List Value} {w : aw} {cn sn : Nat} {v : Nat} : wp d 45 Q 165 (some (.ref v) :: L) st w cn sn = wp d 45 Q 166 (some (.ref v) :: L) (.ref v :: st) w cn sn := w_aload_n d_45_165 rfl
theorem d_45_166 : decode (mB 45) 166 = .ok (.invokevirtual 95, 3) := by decide +kernel
theorem s_45_166 {d : Nat} {Q : wQ} {L : List (Option Value)} {st : List Value} {w : aw} {cn sn : Nat} {b : Nat} : wp d 45 Q 166 L (.ref b :: st) w cn sn = (kd w b = 5 ∧ catS st ≤ 8 ∧ wpD d 50 [.ref b] w (fun v w' => wp d 45 Q 169 L (v.toList ++ st) w' cn sn)) := w_virtual (As := []) d_45_166 (by decide +kernel : cT (mO 45) 95 = some (0, 50)) rfl (by decide +kernel) rfl (by decide +kernel) rfl
theorem d_45_169 : decode (mB 45) 169 = .ok (.putfield 69, 3) := by decide +kernel
theorem s_45_169 {d : Nat} {Q : wQ} {L : List (Option Value)} {st : List Value} {w : aw} {cn sn : Nat} {x : Int32} {a : Nat} : wp d 45 Q 169 L (.int x :: .ref a :: st) w cn sn = (kd w a = 5 ∧ wp d 45 Q 172 L st (uF w 266 a (.int x)) cn sn) := w_putfield d_45_169 (by decide +kernel : fT (mO 45) 69 = some (4, 10)) (by decide +kernel) ok_int
theorem d_45_172 : decode (mB 45) 172 = .ok (.goto 104, 3) := by decide +kernel
theorem s_45_172 {d : Nat} {Q : wQ} {L : List (Option Value)} {st : List Value} {w : aw} {cn sn : Nat}  : wp d 45 Q 172 L st w cn sn = wp d 45 Q 276 L st w cn sn := w_goto d_45_172 (by decide)
theorem d_45_175 : decode (mB 45) 175 = .ok (.aload_n 0, 1) := by decide +kernel
theorem s_45_175 {d : Nat} {Q : wQ} {L : List (Option Value)} {st : List Value} {w : aw} {cn sn : Nat} {v : Nat} : wp d 45 Q 175 (some (.ref v) :: L) st w cn sn = wp d 45 Q 176 (some (.ref v) :: L) (.ref v :: st) w cn sn := w_aload_n d_45_175 rfl
theorem d_45_176 : decode (mB 45) 176 = .ok (.getfield 89, 3) := by decide +kernel
theorem s_45_176 {d : Nat} {Q : wQ} {L : List (Option Value)} {st : List Value} {w : aw} {cn sn : Nat} {a : Nat} : wp d 45 Q 176 L (.ref a :: st) w cn sn = (kd w a = 5 ∧ wp d 45 Q 179 L (fd w 263 a :: st) w cn sn) := w_getfield d_45_176 (by decide +kernel : fT (mO 45) 89 = some (4, 7))
theorem d_45_179 : decode (mB 45) 179 = .ok (.ifCond .lt 45, 3) := by decide +kernel
theorem s_45_179 {d : Nat} {Q : wQ} {L : List (Option Value)} {st : List Value} {w : aw} {cn sn : Nat} {x : Int32} : wp d 45 Q 179 L (.int x :: st) w cn sn = ((x < 0 → wp d 45 Q 224 L st w cn sn) ∧ (¬ x < 0 → wp d 45 Q 182 L st w cn sn)) := w_iflt d_45_179 (by decide)
theorem d_45_182 : decode (mB 45) 182 = .ok (.aload_n 0, 1) := by decide +kernel
theorem s_45_182 {d : Nat} {Q : wQ} {L : List (Option Value)} {st : List Value} {w : aw} {cn sn : Nat} {v : Nat} : wp d 45 Q 182 (some (.ref v) :: L) st w cn sn = wp d 45 Q 183 (some (.ref v) :: L) (.ref v :: st) w cn sn := w_aload_n d_45_182 rfl
theorem d_45_183 : decode (mB 45) 183 = .ok (.getfield 89, 3) := by decide +kernel
theorem s_45_183 {d : Nat} {Q : wQ} {L : List (Option Value)} {st : List Value} {w : aw} {cn sn : Nat} {a : Nat} : wp d 45 Q 183 L (.ref a :: st) w cn sn = (kd w a = 5 ∧ wp d 45 Q 186 L (fd w 263 a :: st) w cn sn) := w_getfield d_45_183 (by decide +kernel : fT (mO 45) 89 = some (4, 7))
theorem d_45_186 : decode (mB 45) 186 = .ok (.bipush 6, 2) := by decide +kernel
theorem s_45_186 {d : Nat} {Q : wQ} {L : List (Option Value)} {st : List Value} {w : aw} {cn sn : Nat}  : wp d 45 Q 186 L st w cn sn = wp d 45 Q 188 L (.int 6 :: st) w cn sn := w_bipush d_45_186 (by decide)
theorem d_45_188 : decode (mB 45) 188 = .ok (.if_icmp .ge 36, 3) := by decide +kernel
theorem s_45_188 {d : Nat} {Q : wQ} {L : List (Option Value)} {st : List Value} {w : aw} {cn sn : Nat} {a b : Int32} : wp d 45 Q 188 L (.int b :: .int a :: st) w cn sn = ((b ≤ a → wp d 45 Q 224 L st w cn sn) ∧ (¬ b ≤ a → wp d 45 Q 191 L st w cn sn)) := w_icge d_45_188 (by decide)
theorem d_45_191 : decode (mB 45) 191 = .ok (.aload_n 0, 1) := by decide +kernel
theorem s_45_191 {d : Nat} {Q : wQ} {L : List (Option Value)} {st : List Value} {w : aw} {cn sn : Nat} {v : Nat} : wp d 45 Q 191 (some (.ref v) :: L) st w cn sn = wp d 45 Q 192 (some (.ref v) :: L) (.ref v :: st) w cn sn := w_aload_n d_45_191 rfl
theorem d_45_192 : decode (mB 45) 192 = .ok (.iconst 3, 1) := by decide +kernel
theorem s_45_192 {d : Nat} {Q : wQ} {L : List (Option Value)} {st : List Value} {w : aw} {cn sn : Nat}  : wp d 45 Q 192 L st w cn sn = wp d 45 Q 193 L (.int 3 :: st) w cn sn := w_iconst d_45_192 (by decide)
theorem d_45_193 : decode (mB 45) 193 = .ok (.putfield 92, 3) := by decide +kernel
theorem s_45_193 {d : Nat} {Q : wQ} {L : List (Option Value)} {st : List Value} {w : aw} {cn sn : Nat} {x : Int32} {a : Nat} : wp d 45 Q 193 L (.int x :: .ref a :: st) w cn sn = (kd w a = 5 ∧ wp d 45 Q 196 L st (uF w 261 a (.int x)) cn sn) := w_putfield d_45_193 (by decide +kernel : fT (mO 45) 92 = some (4, 5)) (by decide +kernel) ok_int
theorem d_45_196 : decode (mB 45) 196 = .ok (.aload_n 0, 1) := by decide +kernel
theorem s_45_196 {d : Nat} {Q : wQ} {L : List (Option Value)} {st : List Value} {w : aw} {cn sn : Nat} {v : Nat} : wp d 45 Q 196 (some (.ref v) :: L) st w cn sn = wp d 45 Q 197 (some (.ref v) :: L) (.ref v :: st) w cn sn := w_aload_n d_45_196 rfl
theorem d_45_197 : decode (mB 45) 197 = .ok (.aload_n 0, 1) := by decide +kernel
theorem s_45_197 {d : Nat} {Q : wQ} {L : List (Option Value)} {st : List Value} {w : aw} {cn sn : Nat} {v : Nat} : wp d 45 Q 197 (some (.ref v) :: L) st w cn sn = wp d 45 Q 198 (some (.ref v) :: L) (.ref v :: st) w cn sn := w_aload_n d_45_197 rfl
theorem d_45_198 : decode (mB 45) 198 = .ok (.iload_n 2, 1) := by decide +kernel
theorem s_45_198 {d : Nat} {Q : wQ} {L : List (Option Value)} {st : List Value} {w : aw} {cn sn : Nat} {a0 a1 : Option Value} {v : Int32} : wp d 45 Q 198 (a0 :: a1 :: some (.int v) :: L) st w cn sn = wp d 45 Q 199 (a0 :: a1 :: some (.int v) :: L) (.int v :: st) w cn sn := w_iload_n d_45_198 rfl
theorem d_45_199 : decode (mB 45) 199 = .ok (.invokevirtual 49, 3) := by decide +kernel
theorem s_45_199 {d : Nat} {Q : wQ} {L : List (Option Value)} {st : List Value} {w : aw} {cn sn : Nat} {v0 : Value} {b : Nat} : wp d 45 Q 199 L (v0 :: .ref b :: st) w cn sn = (kd w b = 5 ∧ catS st ≤ 8 ∧ wpD d 40 [.ref b, v0] w (fun v w' => wp d 45 Q 202 L (v.toList ++ st) w' cn sn)) := w_virtual (As := [v0]) d_45_199 (by decide +kernel : cT (mO 45) 49 = some (0, 40)) rfl (by decide +kernel) rfl (by decide +kernel) rfl
theorem d_45_202 : decode (mB 45) 202 = .ok (.putfield 52, 3) := by decide +kernel
theorem s_45_202 {d : Nat} {Q : wQ} {L : List (Option Value)} {st : List Value} {w : aw} {cn sn : Nat} {x : Int32} {a : Nat} : wp d 45 Q 202 L (.int x :: .ref a :: st) w cn sn = (kd w a = 5 ∧ wp d 45 Q 205 L st (uF w 258 a (.int x)) cn sn) := w_putfield d_45_202 (by decide +kernel : fT (mO 45) 52 = some (4, 2)) (by decide +kernel) ok_int
theorem d_45_205 : decode (mB 45) 205 = .ok (.aload_n 0, 1) := by decide +kernel
theorem s_45_205 {d : Nat} {Q : wQ} {L : List (Option Value)} {st : List Value} {w : aw} {cn sn : Nat} {v : Nat} : wp d 45 Q 205 (some (.ref v) :: L) st w cn sn = wp d 45 Q 206 (some (.ref v) :: L) (.ref v :: st) w cn sn := w_aload_n d_45_205 rfl
theorem d_45_206 : decode (mB 45) 206 = .ok (.invokevirtual 99, 3) := by decide +kernel
theorem s_45_206 {d : Nat} {Q : wQ} {L : List (Option Value)} {st : List Value} {w : aw} {cn sn : Nat} {b : Nat} : wp d 45 Q 206 L (.ref b :: st) w cn sn = (kd w b = 5 ∧ catS st ≤ 8 ∧ wpD d 47 [.ref b] w (fun v w' => wp d 45 Q 209 L (v.toList ++ st) w' cn sn)) := w_virtual (As := []) d_45_206 (by decide +kernel : cT (mO 45) 99 = some (0, 47)) rfl (by decide +kernel) rfl (by decide +kernel) rfl
theorem d_45_209 : decode (mB 45) 209 = .ok (.aload_n 0, 1) := by decide +kernel
theorem s_45_209 {d : Nat} {Q : wQ} {L : List (Option Value)} {st : List Value} {w : aw} {cn sn : Nat} {v : Nat} : wp d 45 Q 209 (some (.ref v) :: L) st w cn sn = wp d 45 Q 210 (some (.ref v) :: L) (.ref v :: st) w cn sn := w_aload_n d_45_209 rfl
theorem d_45_210 : decode (mB 45) 210 = .ok (.aload_n 0, 1) := by decide +kernel
theorem s_45_210 {d : Nat} {Q : wQ} {L : List (Option Value)} {st : List Value} {w : aw} {cn sn : Nat} {v : Nat} : wp d 45 Q 210 (some (.ref v) :: L) st w cn sn = wp d 45 Q 211 (some (.ref v) :: L) (.ref v :: st) w cn sn := w_aload_n d_45_210 rfl
theorem d_45_211 : decode (mB 45) 211 = .ok (.invokevirtual 95, 3) := by decide +kernel
theorem s_45_211 {d : Nat} {Q : wQ} {L : List (Option Value)} {st : List Value} {w : aw} {cn sn : Nat} {b : Nat} : wp d 45 Q 211 L (.ref b :: st) w cn sn = (kd w b = 5 ∧ catS st ≤ 8 ∧ wpD d 50 [.ref b] w (fun v w' => wp d 45 Q 214 L (v.toList ++ st) w' cn sn)) := w_virtual (As := []) d_45_211 (by decide +kernel : cT (mO 45) 95 = some (0, 50)) rfl (by decide +kernel) rfl (by decide +kernel) rfl
theorem d_45_214 : decode (mB 45) 214 = .ok (.putfield 69, 3) := by decide +kernel
theorem s_45_214 {d : Nat} {Q : wQ} {L : List (Option Value)} {st : List Value} {w : aw} {cn sn : Nat} {x : Int32} {a : Nat} : wp d 45 Q 214 L (.int x :: .ref a :: st) w cn sn = (kd w a = 5 ∧ wp d 45 Q 217 L st (uF w 266 a (.int x)) cn sn) := w_putfield d_45_214 (by decide +kernel : fT (mO 45) 69 = some (4, 10)) (by decide +kernel) ok_int
theorem d_45_217 : decode (mB 45) 217 = .ok (.aload_n 0, 1) := by decide +kernel
theorem s_45_217 {d : Nat} {Q : wQ} {L : List (Option Value)} {st : List Value} {w : aw} {cn sn : Nat} {v : Nat} : wp d 45 Q 217 (some (.ref v) :: L) st w cn sn = wp d 45 Q 218 (some (.ref v) :: L) (.ref v :: st) w cn sn := w_aload_n d_45_217 rfl
theorem d_45_218 : decode (mB 45) 218 = .ok (.invokevirtual 102, 3) := by decide +kernel
theorem s_45_218 {d : Nat} {Q : wQ} {L : List (Option Value)} {st : List Value} {w : aw} {cn sn : Nat} {b : Nat} : wp d 45 Q 218 L (.ref b :: st) w cn sn = (kd w b = 5 ∧ catS st ≤ 8 ∧ wpD d 49 [.ref b] w (fun v w' => wp d 45 Q 221 L (v.toList ++ st) w' cn sn)) := w_virtual (As := []) d_45_218 (by decide +kernel : cT (mO 45) 102 = some (0, 49)) rfl (by decide +kernel) rfl (by decide +kernel) rfl
theorem d_45_221 : decode (mB 45) 221 = .ok (.goto 55, 3) := by decide +kernel
theorem s_45_221 {d : Nat} {Q : wQ} {L : List (Option Value)} {st : List Value} {w : aw} {cn sn : Nat}  : wp d 45 Q 221 L st w cn sn = wp d 45 Q 276 L st w cn sn := w_goto d_45_221 (by decide)
theorem d_45_224 : decode (mB 45) 224 = .ok (.aload_n 0, 1) := by decide +kernel
theorem s_45_224 {d : Nat} {Q : wQ} {L : List (Option Value)} {st : List Value} {w : aw} {cn sn : Nat} {v : Nat} : wp d 45 Q 224 (some (.ref v) :: L) st w cn sn = wp d 45 Q 225 (some (.ref v) :: L) (.ref v :: st) w cn sn := w_aload_n d_45_224 rfl
theorem d_45_225 : decode (mB 45) 225 = .ok (.iconst 4, 1) := by decide +kernel
theorem s_45_225 {d : Nat} {Q : wQ} {L : List (Option Value)} {st : List Value} {w : aw} {cn sn : Nat}  : wp d 45 Q 225 L st w cn sn = wp d 45 Q 226 L (.int 4 :: st) w cn sn := w_iconst d_45_225 (by decide)
theorem d_45_226 : decode (mB 45) 226 = .ok (.putfield 92, 3) := by decide +kernel
theorem s_45_226 {d : Nat} {Q : wQ} {L : List (Option Value)} {st : List Value} {w : aw} {cn sn : Nat} {x : Int32} {a : Nat} : wp d 45 Q 226 L (.int x :: .ref a :: st) w cn sn = (kd w a = 5 ∧ wp d 45 Q 229 L st (uF w 261 a (.int x)) cn sn) := w_putfield d_45_226 (by decide +kernel : fT (mO 45) 92 = some (4, 5)) (by decide +kernel) ok_int
theorem d_45_229 : decode (mB 45) 229 = .ok (.aload_n 0, 1) := by decide +kernel
theorem s_45_229 {d : Nat} {Q : wQ} {L : List (Option Value)} {st : List Value} {w : aw} {cn sn : Nat} {v : Nat} : wp d 45 Q 229 (some (.ref v) :: L) st w cn sn = wp d 45 Q 230 (some (.ref v) :: L) (.ref v :: st) w cn sn := w_aload_n d_45_229 rfl
theorem d_45_230 : decode (mB 45) 230 = .ok (.aload_n 0, 1) := by decide +kernel
theorem s_45_230 {d : Nat} {Q : wQ} {L : List (Option Value)} {st : List Value} {w : aw} {cn sn : Nat} {v : Nat} : wp d 45 Q 230 (some (.ref v) :: L) st w cn sn = wp d 45 Q 231 (some (.ref v) :: L) (.ref v :: st) w cn sn := w_aload_n d_45_230 rfl
theorem d_45_231 : decode (mB 45) 231 = .ok (.invokevirtual 95, 3) := by decide +kernel
theorem s_45_231 {d : Nat} {Q : wQ} {L : List (Option Value)} {st : List Value} {w : aw} {cn sn : Nat} {b : Nat} : wp d 45 Q 231 L (.ref b :: st) w cn sn = (kd w b = 5 ∧ catS st ≤ 8 ∧ wpD d 50 [.ref b] w (fun v w' => wp d 45 Q 234 L (v.toList ++ st) w' cn sn)) := w_virtual (As := []) d_45_231 (by decide +kernel : cT (mO 45) 95 = some (0, 50)) rfl (by decide +kernel) rfl (by decide +kernel) rfl
theorem d_45_234 : decode (mB 45) 234 = .ok (.putfield 69, 3) := by decide +kernel
theorem s_45_234 {d : Nat} {Q : wQ} {L : List (Option Value)} {st : List Value} {w : aw} {cn sn : Nat} {x : Int32} {a : Nat} : wp d 45 Q 234 L (.int x :: .ref a :: st) w cn sn = (kd w a = 5 ∧ wp d 45 Q 237 L st (uF w 266 a (.int x)) cn sn) := w_putfield d_45_234 (by decide +kernel : fT (mO 45) 69 = some (4, 10)) (by decide +kernel) ok_int
theorem d_45_237 : decode (mB 45) 237 = .ok (.aload_n 0, 1) := by decide +kernel
theorem s_45_237 {d : Nat} {Q : wQ} {L : List (Option Value)} {st : List Value} {w : aw} {cn sn : Nat} {v : Nat} : wp d 45 Q 237 (some (.ref v) :: L) st w cn sn = wp d 45 Q 238 (some (.ref v) :: L) (.ref v :: st) w cn sn := w_aload_n d_45_237 rfl
theorem d_45_238 : decode (mB 45) 238 = .ok (.getfield 52, 3) := by decide +kernel
theorem s_45_238 {d : Nat} {Q : wQ} {L : List (Option Value)} {st : List Value} {w : aw} {cn sn : Nat} {a : Nat} : wp d 45 Q 238 L (.ref a :: st) w cn sn = (kd w a = 5 ∧ wp d 45 Q 241 L (fd w 258 a :: st) w cn sn) := w_getfield d_45_238 (by decide +kernel : fT (mO 45) 52 = some (4, 2))
theorem d_45_241 : decode (mB 45) 241 = .ok (.istore_n 3, 1) := by decide +kernel
theorem s_45_241 {d : Nat} {Q : wQ} {L : List (Option Value)} {st : List Value} {w : aw} {cn sn : Nat} {a0 a1 a2 a3 : Option Value} {v : Int32} : wp d 45 Q 241 (a0 :: a1 :: a2 :: a3 :: L) (.int v :: st) w cn sn = wp d 45 Q 242 (a0 :: a1 :: clr a2 :: some (.int v) :: L) st w cn sn := w_istore_n d_45_241 (Nat.le_add_left 4 _) rfl
theorem d_45_242 : decode (mB 45) 242 = .ok (.iload_n 3, 1) := by decide +kernel
theorem s_45_242 {d : Nat} {Q : wQ} {L : List (Option Value)} {st : List Value} {w : aw} {cn sn : Nat} {a0 a1 a2 : Option Value} {v : Int32} : wp d 45 Q 242 (a0 :: a1 :: a2 :: some (.int v) :: L) st w cn sn = wp d 45 Q 243 (a0 :: a1 :: a2 :: some (.int v) :: L) (.int v :: st) w cn sn := w_iload_n d_45_242 rfl
theorem d_45_243 : decode (mB 45) 243 = .ok (.aload_n 0, 1) := by decide +kernel
theorem s_45_243 {d : Nat} {Q : wQ} {L : List (Option Value)} {st : List Value} {w : aw} {cn sn : Nat} {v : Nat} : wp d 45 Q 243 (some (.ref v) :: L) st w cn sn = wp d 45 Q 244 (some (.ref v) :: L) (.ref v :: st) w cn sn := w_aload_n d_45_243 rfl
theorem d_45_244 : decode (mB 45) 244 = .ok (.getfield 19, 3) := by decide +kernel
theorem s_45_244 {d : Nat} {Q : wQ} {L : List (Option Value)} {st : List Value} {w : aw} {cn sn : Nat} {a : Nat} : wp d 45 Q 244 L (.ref a :: st) w cn sn = (kd w a = 5 ∧ wp d 45 Q 247 L (fd w 259 a :: st) w cn sn) := w_getfield d_45_244 (by decide +kernel : fT (mO 45) 19 = some (4, 3))
theorem d_45_247 : decode (mB 45) 247 = .ok (.if_icmp .ge 29, 3) := by decide +kernel
theorem s_45_247 {d : Nat} {Q : wQ} {L : List (Option Value)} {st : List Value} {w : aw} {cn sn : Nat} {a b : Int32} : wp d 45 Q 247 L (.int b :: .int a :: st) w cn sn = ((b ≤ a → wp d 45 Q 276 L st w cn sn) ∧ (¬ b ≤ a → wp d 45 Q 250 L st w cn sn)) := w_icge d_45_247 (by decide)
theorem d_45_250 : decode (mB 45) 250 = .ok (.aload_n 0, 1) := by decide +kernel
theorem s_45_250 {d : Nat} {Q : wQ} {L : List (Option Value)} {st : List Value} {w : aw} {cn sn : Nat} {v : Nat} : wp d 45 Q 250 (some (.ref v) :: L) st w cn sn = wp d 45 Q 251 (some (.ref v) :: L) (.ref v :: st) w cn sn := w_aload_n d_45_250 rfl
theorem d_45_251 : decode (mB 45) 251 = .ok (.invokevirtual 105, 3) := by decide +kernel
theorem s_45_251 {d : Nat} {Q : wQ} {L : List (Option Value)} {st : List Value} {w : aw} {cn sn : Nat} {b : Nat} : wp d 45 Q 251 L (.ref b :: st) w cn sn = (kd w b = 5 ∧ catS st ≤ 8 ∧ wpD d 46 [.ref b] w (fun v w' => wp d 45 Q 254 L (v.toList ++ st) w' cn sn)) := w_virtual (As := []) d_45_251 (by decide +kernel : cT (mO 45) 105 = some (0, 46)) rfl (by decide +kernel) rfl (by decide +kernel) rfl
theorem d_45_254 : decode (mB 45) 254 = .ok (.ifCond .eq 22, 3) := by decide +kernel
theorem s_45_254 {d : Nat} {Q : wQ} {L : List (Option Value)} {st : List Value} {w : aw} {cn sn : Nat} {x : Int32} : wp d 45 Q 254 L (.int x :: st) w cn sn = ((x = 0 → wp d 45 Q 276 L st w cn sn) ∧ (¬ x = 0 → wp d 45 Q 257 L st w cn sn)) := w_ifeq d_45_254 (by decide)
theorem d_45_257 : decode (mB 45) 257 = .ok (.aload_n 0, 1) := by decide +kernel
theorem s_45_257 {d : Nat} {Q : wQ} {L : List (Option Value)} {st : List Value} {w : aw} {cn sn : Nat} {v : Nat} : wp d 45 Q 257 (some (.ref v) :: L) st w cn sn = wp d 45 Q 258 (some (.ref v) :: L) (.ref v :: st) w cn sn := w_aload_n d_45_257 rfl
theorem d_45_258 : decode (mB 45) 258 = .ok (.dup, 1) := by decide +kernel
theorem s_45_258 {d : Nat} {Q : wQ} {L : List (Option Value)} {st : List Value} {w : aw} {cn sn : Nat} {v : Value} : wp d 45 Q 258 L (v :: st) w cn sn = (v.category = 1 ∧ wp d 45 Q 259 L (v :: v :: st) w cn sn) := wp_row d_45_258 _ _ _ _ _
theorem d_45_259 : decode (mB 45) 259 = .ok (.getfield 69, 3) := by decide +kernel
theorem s_45_259 {d : Nat} {Q : wQ} {L : List (Option Value)} {st : List Value} {w : aw} {cn sn : Nat} {a : Nat} : wp d 45 Q 259 L (.ref a :: st) w cn sn = (kd w a = 5 ∧ wp d 45 Q 262 L (fd w 266 a :: st) w cn sn) := w_getfield d_45_259 (by decide +kernel : fT (mO 45) 69 = some (4, 10))
theorem d_45_262 : decode (mB 45) 262 = .ok (.aload_n 0, 1) := by decide +kernel
theorem s_45_262 {d : Nat} {Q : wQ} {L : List (Option Value)} {st : List Value} {w : aw} {cn sn : Nat} {v : Nat} : wp d 45 Q 262 (some (.ref v) :: L) st w cn sn = wp d 45 Q 263 (some (.ref v) :: L) (.ref v :: st) w cn sn := w_aload_n d_45_262 rfl
theorem d_45_263 : decode (mB 45) 263 = .ok (.invokevirtual 95, 3) := by decide +kernel
theorem s_45_263 {d : Nat} {Q : wQ} {L : List (Option Value)} {st : List Value} {w : aw} {cn sn : Nat} {b : Nat} : wp d 45 Q 263 L (.ref b :: st) w cn sn = (kd w b = 5 ∧ catS st ≤ 8 ∧ wpD d 50 [.ref b] w (fun v w' => wp d 45 Q 266 L (v.toList ++ st) w' cn sn)) := w_virtual (As := []) d_45_263 (by decide +kernel : cT (mO 45) 95 = some (0, 50)) rfl (by decide +kernel) rfl (by decide +kernel) rfl
theorem d_45_266 : decode (mB 45) 266 = .ok (.ior, 1) := by decide +kernel
theorem s_45_266 {d : Nat} {Q : wQ} {L : List (Option Value)} {st : List Value} {w : aw} {cn sn : Nat} {a b : Int32} : wp d 45 Q 266 L (.int b :: .int a :: st) w cn sn = wp d 45 Q 267 L (.int (a ||| b) :: st) w cn sn := wp_row d_45_266 _ _ _ _ _
theorem d_45_267 : decode (mB 45) 267 = .ok (.putfield 69, 3) := by decide +kernel
theorem s_45_267 {d : Nat} {Q : wQ} {L : List (Option Value)} {st : List Value} {w : aw} {cn sn : Nat} {x : Int32} {a : Nat} : wp d 45 Q 267 L (.int x :: .ref a :: st) w cn sn = (kd w a = 5 ∧ wp d 45 Q 270 L st (uF w 266 a (.int x)) cn sn) := w_putfield d_45_267 (by decide +kernel : fT (mO 45) 69 = some (4, 10)) (by decide +kernel) ok_int
theorem d_45_270 : decode (mB 45) 270 = .ok (.iinc 3 1, 3) := by decide +kernel
theorem s_45_270 {d : Nat} {Q : wQ} {L : List (Option Value)} {st : List Value} {w : aw} {cn sn : Nat} {a0 a1 a2 : Option Value} {v : Int32} : wp d 45 Q 270 (a0 :: a1 :: a2 :: some (.int v) :: L) st w cn sn = wp d 45 Q 273 (a0 :: a1 :: clr a2 :: some (.int (v + 1)) :: L) st w cn sn := w_iinc d_45_270 rfl (by decide) rfl
theorem d_45_273 : decode (mB 45) 273 = .ok (.goto (-31), 3) := by decide +kernel
theorem s_45_273 {d : Nat} {Q : wQ} {L : List (Option Value)} {st : List Value} {w : aw} {cn sn : Nat}  : wp d 45 Q 273 L st w cn sn = wp d 45 Q 242 L st w cn sn := w_goto d_45_273 (by decide)
theorem d_45_276 : decode (mB 45) 276 = .ok (.aload_n 0, 1) := by decide +kernel
theorem s_45_276 {d : Nat} {Q : wQ} {L : List (Option Value)} {st : List Value} {w : aw} {cn sn : Nat} {v : Nat} : wp d 45 Q 276 (some (.ref v) :: L) st w cn sn = wp d 45 Q 277 (some (.ref v) :: L) (.ref v :: st) w cn sn := w_aload_n d_45_276 rfl
theorem d_45_277 : decode (mB 45) 277 = .ok (.dup, 1) := by decide +kernel
theorem s_45_277 {d : Nat} {Q : wQ} {L : List (Option Value)} {st : List Value} {w : aw} {cn sn : Nat} {v : Value} : wp d 45 Q 277 L (v :: st) w cn sn = (v.category = 1 ∧ wp d 45 Q 278 L (v :: v :: st) w cn sn) := wp_row d_45_277 _ _ _ _ _
theorem d_45_278 : decode (mB 45) 278 = .ok (.getfield 79, 3) := by decide +kernel
theorem s_45_278 {d : Nat} {Q : wQ} {L : List (Option Value)} {st : List Value} {w : aw} {cn sn : Nat} {a : Nat} : wp d 45 Q 278 L (.ref a :: st) w cn sn = (kd w a = 5 ∧ wp d 45 Q 281 L (fd w 267 a :: st) w cn sn) := w_getfield d_45_278 (by decide +kernel : fT (mO 45) 79 = some (4, 11))
theorem d_45_281 : decode (mB 45) 281 = .ok (.aload_n 0, 1) := by decide +kernel
theorem s_45_281 {d : Nat} {Q : wQ} {L : List (Option Value)} {st : List Value} {w : aw} {cn sn : Nat} {v : Nat} : wp d 45 Q 281 (some (.ref v) :: L) st w cn sn = wp d 45 Q 282 (some (.ref v) :: L) (.ref v :: st) w cn sn := w_aload_n d_45_281 rfl
theorem d_45_282 : decode (mB 45) 282 = .ok (.aload_n 0, 1) := by decide +kernel
theorem s_45_282 {d : Nat} {Q : wQ} {L : List (Option Value)} {st : List Value} {w : aw} {cn sn : Nat} {v : Nat} : wp d 45 Q 282 (some (.ref v) :: L) st w cn sn = wp d 45 Q 283 (some (.ref v) :: L) (.ref v :: st) w cn sn := w_aload_n d_45_282 rfl
theorem d_45_283 : decode (mB 45) 283 = .ok (.getfield 52, 3) := by decide +kernel
theorem s_45_283 {d : Nat} {Q : wQ} {L : List (Option Value)} {st : List Value} {w : aw} {cn sn : Nat} {a : Nat} : wp d 45 Q 283 L (.ref a :: st) w cn sn = (kd w a = 5 ∧ wp d 45 Q 286 L (fd w 258 a :: st) w cn sn) := w_getfield d_45_283 (by decide +kernel : fT (mO 45) 52 = some (4, 2))
theorem d_45_286 : decode (mB 45) 286 = .ok (.invokevirtual 49, 3) := by decide +kernel
theorem s_45_286 {d : Nat} {Q : wQ} {L : List (Option Value)} {st : List Value} {w : aw} {cn sn : Nat} {v0 : Value} {b : Nat} : wp d 45 Q 286 L (v0 :: .ref b :: st) w cn sn = (kd w b = 5 ∧ catS st ≤ 8 ∧ wpD d 40 [.ref b, v0] w (fun v w' => wp d 45 Q 289 L (v.toList ++ st) w' cn sn)) := w_virtual (As := [v0]) d_45_286 (by decide +kernel : cT (mO 45) 49 = some (0, 40)) rfl (by decide +kernel) rfl (by decide +kernel) rfl
theorem d_45_289 : decode (mB 45) 289 = .ok (.aload_n 0, 1) := by decide +kernel
theorem s_45_289 {d : Nat} {Q : wQ} {L : List (Option Value)} {st : List Value} {w : aw} {cn sn : Nat} {v : Nat} : wp d 45 Q 289 (some (.ref v) :: L) st w cn sn = wp d 45 Q 290 (some (.ref v) :: L) (.ref v :: st) w cn sn := w_aload_n d_45_289 rfl
theorem d_45_290 : decode (mB 45) 290 = .ok (.getfield 19, 3) := by decide +kernel
theorem s_45_290 {d : Nat} {Q : wQ} {L : List (Option Value)} {st : List Value} {w : aw} {cn sn : Nat} {a : Nat} : wp d 45 Q 290 L (.ref a :: st) w cn sn = (kd w a = 5 ∧ wp d 45 Q 293 L (fd w 259 a :: st) w cn sn) := w_getfield d_45_290 (by decide +kernel : fT (mO 45) 19 = some (4, 3))
theorem d_45_293 : decode (mB 45) 293 = .ok (.if_icmp .ge 7, 3) := by decide +kernel
theorem s_45_293 {d : Nat} {Q : wQ} {L : List (Option Value)} {st : List Value} {w : aw} {cn sn : Nat} {a b : Int32} : wp d 45 Q 293 L (.int b :: .int a :: st) w cn sn = ((b ≤ a → wp d 45 Q 300 L st w cn sn) ∧ (¬ b ≤ a → wp d 45 Q 296 L st w cn sn)) := w_icge d_45_293 (by decide)
theorem d_45_296 : decode (mB 45) 296 = .ok (.iconst 1, 1) := by decide +kernel
theorem s_45_296 {d : Nat} {Q : wQ} {L : List (Option Value)} {st : List Value} {w : aw} {cn sn : Nat}  : wp d 45 Q 296 L st w cn sn = wp d 45 Q 297 L (.int 1 :: st) w cn sn := w_iconst d_45_296 (by decide)
theorem d_45_297 : decode (mB 45) 297 = .ok (.goto 4, 3) := by decide +kernel
theorem s_45_297 {d : Nat} {Q : wQ} {L : List (Option Value)} {st : List Value} {w : aw} {cn sn : Nat}  : wp d 45 Q 297 L st w cn sn = wp d 45 Q 301 L st w cn sn := w_goto d_45_297 (by decide)
theorem d_45_300 : decode (mB 45) 300 = .ok (.iconst 0, 1) := by decide +kernel
theorem s_45_300 {d : Nat} {Q : wQ} {L : List (Option Value)} {st : List Value} {w : aw} {cn sn : Nat}  : wp d 45 Q 300 L st w cn sn = wp d 45 Q 301 L (.int 0 :: st) w cn sn := w_iconst d_45_300 (by decide)
theorem d_45_301 : decode (mB 45) 301 = .ok (.ior, 1) := by decide +kernel
theorem s_45_301 {d : Nat} {Q : wQ} {L : List (Option Value)} {st : List Value} {w : aw} {cn sn : Nat} {a b : Int32} : wp d 45 Q 301 L (.int b :: .int a :: st) w cn sn = wp d 45 Q 302 L (.int (a ||| b) :: st) w cn sn := wp_row d_45_301 _ _ _ _ _
theorem d_45_302 : decode (mB 45) 302 = .ok (.putfield 79, 3) := by decide +kernel
theorem s_45_302 {d : Nat} {Q : wQ} {L : List (Option Value)} {st : List Value} {w : aw} {cn sn : Nat} {x : Int32} {a : Nat} : wp d 45 Q 302 L (.int x :: .ref a :: st) w cn sn = (kd w a = 5 ∧ okv .boolean (.int x) ∧ wp d 45 Q 305 L st (uF w 267 a (.int x)) cn sn) := w_putfieldC d_45_302 (by decide +kernel : fT (mO 45) 79 = some (4, 11)) (by decide +kernel)
theorem d_45_305 : decode (mB 45) 305 = .ok (.return_, 1) := by decide +kernel
theorem s_45_305 {d : Nat} {Q : wQ} {L : List (Option Value)} {w : aw} {cn sn : Nat}  : wp d 45 Q 305 L [] w cn sn = Q none w := w_return d_45_305 rfl
theorem d_46_0 : decode (mB 46) 0 = .ok (.aload_n 0, 1) := by decide +kernel
theorem s_46_0 {d : Nat} {Q : wQ} {L : List (Option Value)} {st : List Value} {w : aw} {cn sn : Nat} {v : Nat} : wp d 46 Q 0 (some (.ref v) :: L) st w cn sn = wp d 46 Q 1 (some (.ref v) :: L) (.ref v :: st) w cn sn := w_aload_n d_46_0 rfl
theorem d_46_1 : decode (mB 46) 1 = .ok (.aload_n 0, 1) := by decide +kernel
theorem s_46_1 {d : Nat} {Q : wQ} {L : List (Option Value)} {st : List Value} {w : aw} {cn sn : Nat} {v : Nat} : wp d 46 Q 1 (some (.ref v) :: L) st w cn sn = wp d 46 Q 2 (some (.ref v) :: L) (.ref v :: st) w cn sn := w_aload_n d_46_1 rfl
theorem d_46_2 : decode (mB 46) 2 = .ok (.getfield 52, 3) := by decide +kernel
theorem s_46_2 {d : Nat} {Q : wQ} {L : List (Option Value)} {st : List Value} {w : aw} {cn sn : Nat} {a : Nat} : wp d 46 Q 2 L (.ref a :: st) w cn sn = (kd w a = 5 ∧ wp d 46 Q 5 L (fd w 258 a :: st) w cn sn) := w_getfield d_46_2 (by decide +kernel : fT (mO 46) 52 = some (4, 2))
theorem d_46_5 : decode (mB 46) 5 = .ok (.invokevirtual 49, 3) := by decide +kernel
theorem s_46_5 {d : Nat} {Q : wQ} {L : List (Option Value)} {st : List Value} {w : aw} {cn sn : Nat} {v0 : Value} {b : Nat} : wp d 46 Q 5 L (v0 :: .ref b :: st) w cn sn = (kd w b = 5 ∧ catS st ≤ 8 ∧ wpD d 40 [.ref b, v0] w (fun v w' => wp d 46 Q 8 L (v.toList ++ st) w' cn sn)) := w_virtual (As := [v0]) d_46_5 (by decide +kernel : cT (mO 46) 49 = some (0, 40)) rfl (by decide +kernel) rfl (by decide +kernel) rfl
theorem d_46_8 : decode (mB 46) 8 = .ok (.istore_n 1, 1) := by decide +kernel
theorem s_46_8 {d : Nat} {Q : wQ} {L : List (Option Value)} {st : List Value} {w : aw} {cn sn : Nat} {a0 a1 : Option Value} {v : Int32} : wp d 46 Q 8 (a0 :: a1 :: L) (.int v :: st) w cn sn = wp d 46 Q 9 (clr a0 :: some (.int v) :: L) st w cn sn := w_istore_n d_46_8 (Nat.le_add_left 2 _) rfl
theorem d_46_9 : decode (mB 46) 9 = .ok (.aload_n 0, 1) := by decide +kernel
theorem s_46_9 {d : Nat} {Q : wQ} {L : List (Option Value)} {st : List Value} {w : aw} {cn sn : Nat} {v : Nat} : wp d 46 Q 9 (some (.ref v) :: L) st w cn sn = wp d 46 Q 10 (some (.ref v) :: L) (.ref v :: st) w cn sn := w_aload_n d_46_9 rfl
theorem d_46_10 : decode (mB 46) 10 = .ok (.getfield 79, 3) := by decide +kernel
theorem s_46_10 {d : Nat} {Q : wQ} {L : List (Option Value)} {st : List Value} {w : aw} {cn sn : Nat} {a : Nat} : wp d 46 Q 10 L (.ref a :: st) w cn sn = (kd w a = 5 ∧ wp d 46 Q 13 L (fd w 267 a :: st) w cn sn) := w_getfield d_46_10 (by decide +kernel : fT (mO 46) 79 = some (4, 11))
theorem d_46_13 : decode (mB 46) 13 = .ok (.ifCond .ne 19, 3) := by decide +kernel
theorem s_46_13 {d : Nat} {Q : wQ} {L : List (Option Value)} {st : List Value} {w : aw} {cn sn : Nat} {x : Int32} : wp d 46 Q 13 L (.int x :: st) w cn sn = ((¬ x = 0 → wp d 46 Q 32 L st w cn sn) ∧ (x = 0 → wp d 46 Q 16 L st w cn sn)) := w_ifne d_46_13 (by decide)
theorem d_46_16 : decode (mB 46) 16 = .ok (.iload_n 1, 1) := by decide +kernel
theorem s_46_16 {d : Nat} {Q : wQ} {L : List (Option Value)} {st : List Value} {w : aw} {cn sn : Nat} {a0 : Option Value} {v : Int32} : wp d 46 Q 16 (a0 :: some (.int v) :: L) st w cn sn = wp d 46 Q 17 (a0 :: some (.int v) :: L) (.int v :: st) w cn sn := w_iload_n d_46_16 rfl
theorem d_46_17 : decode (mB 46) 17 = .ok (.aload_n 0, 1) := by decide +kernel
theorem s_46_17 {d : Nat} {Q : wQ} {L : List (Option Value)} {st : List Value} {w : aw} {cn sn : Nat} {v : Nat} : wp d 46 Q 17 (some (.ref v) :: L) st w cn sn = wp d 46 Q 18 (some (.ref v) :: L) (.ref v :: st) w cn sn := w_aload_n d_46_17 rfl
theorem d_46_18 : decode (mB 46) 18 = .ok (.getfield 52, 3) := by decide +kernel
theorem s_46_18 {d : Nat} {Q : wQ} {L : List (Option Value)} {st : List Value} {w : aw} {cn sn : Nat} {a : Nat} : wp d 46 Q 18 L (.ref a :: st) w cn sn = (kd w a = 5 ∧ wp d 46 Q 21 L (fd w 258 a :: st) w cn sn) := w_getfield d_46_18 (by decide +kernel : fT (mO 46) 52 = some (4, 2))
theorem d_46_21 : decode (mB 46) 21 = .ok (.if_icmp .eq 11, 3) := by decide +kernel
theorem s_46_21 {d : Nat} {Q : wQ} {L : List (Option Value)} {st : List Value} {w : aw} {cn sn : Nat} {a b : Int32} : wp d 46 Q 21 L (.int b :: .int a :: st) w cn sn = ((a = b → wp d 46 Q 32 L st w cn sn) ∧ (¬ a = b → wp d 46 Q 24 L st w cn sn)) := w_iceq d_46_21 (by decide)
theorem d_46_24 : decode (mB 46) 24 = .ok (.iload_n 1, 1) := by decide +kernel
theorem s_46_24 {d : Nat} {Q : wQ} {L : List (Option Value)} {st : List Value} {w : aw} {cn sn : Nat} {a0 : Option Value} {v : Int32} : wp d 46 Q 24 (a0 :: some (.int v) :: L) st w cn sn = wp d 46 Q 25 (a0 :: some (.int v) :: L) (.int v :: st) w cn sn := w_iload_n d_46_24 rfl
theorem d_46_25 : decode (mB 46) 25 = .ok (.aload_n 0, 1) := by decide +kernel
theorem s_46_25 {d : Nat} {Q : wQ} {L : List (Option Value)} {st : List Value} {w : aw} {cn sn : Nat} {v : Nat} : wp d 46 Q 25 (some (.ref v) :: L) st w cn sn = wp d 46 Q 26 (some (.ref v) :: L) (.ref v :: st) w cn sn := w_aload_n d_46_25 rfl
theorem d_46_26 : decode (mB 46) 26 = .ok (.getfield 19, 3) := by decide +kernel
theorem s_46_26 {d : Nat} {Q : wQ} {L : List (Option Value)} {st : List Value} {w : aw} {cn sn : Nat} {a : Nat} : wp d 46 Q 26 L (.ref a :: st) w cn sn = (kd w a = 5 ∧ wp d 46 Q 29 L (fd w 259 a :: st) w cn sn) := w_getfield d_46_26 (by decide +kernel : fT (mO 46) 19 = some (4, 3))
theorem d_46_29 : decode (mB 46) 29 = .ok (.if_icmp .lt 5, 3) := by decide +kernel
theorem s_46_29 {d : Nat} {Q : wQ} {L : List (Option Value)} {st : List Value} {w : aw} {cn sn : Nat} {a b : Int32} : wp d 46 Q 29 L (.int b :: .int a :: st) w cn sn = ((a < b → wp d 46 Q 34 L st w cn sn) ∧ (¬ a < b → wp d 46 Q 32 L st w cn sn)) := w_iclt d_46_29 (by decide)
theorem d_46_32 : decode (mB 46) 32 = .ok (.iconst 0, 1) := by decide +kernel
theorem s_46_32 {d : Nat} {Q : wQ} {L : List (Option Value)} {st : List Value} {w : aw} {cn sn : Nat}  : wp d 46 Q 32 L st w cn sn = wp d 46 Q 33 L (.int 0 :: st) w cn sn := w_iconst d_46_32 (by decide)
theorem d_46_33 : decode (mB 46) 33 = .ok (.ireturn, 1) := by decide +kernel
theorem s_46_33 {d : Nat} {Q : wQ} {L : List (Option Value)} {w : aw} {cn sn : Nat} {v : Int32} : wp d 46 Q 33 L [.int v] w cn sn = (narrow .boolean (.int v) = .int v ∧ Q (some (.int v)) w) := w_zreturn d_46_33 rfl
theorem d_46_34 : decode (mB 46) 34 = .ok (.aload_n 0, 1) := by decide +kernel
theorem s_46_34 {d : Nat} {Q : wQ} {L : List (Option Value)} {st : List Value} {w : aw} {cn sn : Nat} {v : Nat} : wp d 46 Q 34 (some (.ref v) :: L) st w cn sn = wp d 46 Q 35 (some (.ref v) :: L) (.ref v :: st) w cn sn := w_aload_n d_46_34 rfl
theorem d_46_35 : decode (mB 46) 35 = .ok (.iload_n 1, 1) := by decide +kernel
theorem s_46_35 {d : Nat} {Q : wQ} {L : List (Option Value)} {st : List Value} {w : aw} {cn sn : Nat} {a0 : Option Value} {v : Int32} : wp d 46 Q 35 (a0 :: some (.int v) :: L) st w cn sn = wp d 46 Q 36 (a0 :: some (.int v) :: L) (.int v :: st) w cn sn := w_iload_n d_46_35 rfl
theorem d_46_36 : decode (mB 46) 36 = .ok (.putfield 52, 3) := by decide +kernel
theorem s_46_36 {d : Nat} {Q : wQ} {L : List (Option Value)} {st : List Value} {w : aw} {cn sn : Nat} {x : Int32} {a : Nat} : wp d 46 Q 36 L (.int x :: .ref a :: st) w cn sn = (kd w a = 5 ∧ wp d 46 Q 39 L st (uF w 258 a (.int x)) cn sn) := w_putfield d_46_36 (by decide +kernel : fT (mO 46) 52 = some (4, 2)) (by decide +kernel) ok_int
theorem d_46_39 : decode (mB 46) 39 = .ok (.iconst 1, 1) := by decide +kernel
theorem s_46_39 {d : Nat} {Q : wQ} {L : List (Option Value)} {st : List Value} {w : aw} {cn sn : Nat}  : wp d 46 Q 39 L st w cn sn = wp d 46 Q 40 L (.int 1 :: st) w cn sn := w_iconst d_46_39 (by decide)
theorem d_46_40 : decode (mB 46) 40 = .ok (.ireturn, 1) := by decide +kernel
theorem s_46_40 {d : Nat} {Q : wQ} {L : List (Option Value)} {w : aw} {cn sn : Nat} {v : Int32} : wp d 46 Q 40 L [.int v] w cn sn = (narrow .boolean (.int v) = .int v ∧ Q (some (.int v)) w) := w_zreturn d_46_40 rfl
theorem d_47_0 : decode (mB 47) 0 = .ok (.aload_n 0, 1) := by decide +kernel
theorem s_47_0 {d : Nat} {Q : wQ} {L : List (Option Value)} {st : List Value} {w : aw} {cn sn : Nat} {v : Nat} : wp d 47 Q 0 (some (.ref v) :: L) st w cn sn = wp d 47 Q 1 (some (.ref v) :: L) (.ref v :: st) w cn sn := w_aload_n d_47_0 rfl
theorem d_47_1 : decode (mB 47) 1 = .ok (.aload_n 0, 1) := by decide +kernel
theorem s_47_1 {d : Nat} {Q : wQ} {L : List (Option Value)} {st : List Value} {w : aw} {cn sn : Nat} {v : Nat} : wp d 47 Q 1 (some (.ref v) :: L) st w cn sn = wp d 47 Q 2 (some (.ref v) :: L) (.ref v :: st) w cn sn := w_aload_n d_47_1 rfl
theorem d_47_2 : decode (mB 47) 2 = .ok (.getfield 52, 3) := by decide +kernel
theorem s_47_2 {d : Nat} {Q : wQ} {L : List (Option Value)} {st : List Value} {w : aw} {cn sn : Nat} {a : Nat} : wp d 47 Q 2 L (.ref a :: st) w cn sn = (kd w a = 5 ∧ wp d 47 Q 5 L (fd w 258 a :: st) w cn sn) := w_getfield d_47_2 (by decide +kernel : fT (mO 47) 52 = some (4, 2))
theorem d_47_5 : decode (mB 47) 5 = .ok (.iconst 1, 1) := by decide +kernel
theorem s_47_5 {d : Nat} {Q : wQ} {L : List (Option Value)} {st : List Value} {w : aw} {cn sn : Nat}  : wp d 47 Q 5 L st w cn sn = wp d 47 Q 6 L (.int 1 :: st) w cn sn := w_iconst d_47_5 (by decide)
theorem d_47_6 : decode (mB 47) 6 = .ok (.iadd, 1) := by decide +kernel
theorem s_47_6 {d : Nat} {Q : wQ} {L : List (Option Value)} {st : List Value} {w : aw} {cn sn : Nat} {a b : Int32} : wp d 47 Q 6 L (.int b :: .int a :: st) w cn sn = wp d 47 Q 7 L (.int (a + b) :: st) w cn sn := wp_row d_47_6 _ _ _ _ _
theorem d_47_7 : decode (mB 47) 7 = .ok (.invokevirtual 49, 3) := by decide +kernel
theorem s_47_7 {d : Nat} {Q : wQ} {L : List (Option Value)} {st : List Value} {w : aw} {cn sn : Nat} {v0 : Value} {b : Nat} : wp d 47 Q 7 L (v0 :: .ref b :: st) w cn sn = (kd w b = 5 ∧ catS st ≤ 8 ∧ wpD d 40 [.ref b, v0] w (fun v w' => wp d 47 Q 10 L (v.toList ++ st) w' cn sn)) := w_virtual (As := [v0]) d_47_7 (by decide +kernel : cT (mO 47) 49 = some (0, 40)) rfl (by decide +kernel) rfl (by decide +kernel) rfl
theorem d_47_10 : decode (mB 47) 10 = .ok (.istore_n 1, 1) := by decide +kernel
theorem s_47_10 {d : Nat} {Q : wQ} {L : List (Option Value)} {st : List Value} {w : aw} {cn sn : Nat} {a0 a1 : Option Value} {v : Int32} : wp d 47 Q 10 (a0 :: a1 :: L) (.int v :: st) w cn sn = wp d 47 Q 11 (clr a0 :: some (.int v) :: L) st w cn sn := w_istore_n d_47_10 (Nat.le_add_left 2 _) rfl
theorem d_47_11 : decode (mB 47) 11 = .ok (.aload_n 0, 1) := by decide +kernel
theorem s_47_11 {d : Nat} {Q : wQ} {L : List (Option Value)} {st : List Value} {w : aw} {cn sn : Nat} {v : Nat} : wp d 47 Q 11 (some (.ref v) :: L) st w cn sn = wp d 47 Q 12 (some (.ref v) :: L) (.ref v :: st) w cn sn := w_aload_n d_47_11 rfl
theorem d_47_12 : decode (mB 47) 12 = .ok (.aload_n 0, 1) := by decide +kernel
theorem s_47_12 {d : Nat} {Q : wQ} {L : List (Option Value)} {st : List Value} {w : aw} {cn sn : Nat} {v : Nat} : wp d 47 Q 12 (some (.ref v) :: L) st w cn sn = wp d 47 Q 13 (some (.ref v) :: L) (.ref v :: st) w cn sn := w_aload_n d_47_12 rfl
theorem d_47_13 : decode (mB 47) 13 = .ok (.getfield 52, 3) := by decide +kernel
theorem s_47_13 {d : Nat} {Q : wQ} {L : List (Option Value)} {st : List Value} {w : aw} {cn sn : Nat} {a : Nat} : wp d 47 Q 13 L (.ref a :: st) w cn sn = (kd w a = 5 ∧ wp d 47 Q 16 L (fd w 258 a :: st) w cn sn) := w_getfield d_47_13 (by decide +kernel : fT (mO 47) 52 = some (4, 2))
theorem d_47_16 : decode (mB 47) 16 = .ok (.invokevirtual 32, 3) := by decide +kernel
theorem s_47_16 {d : Nat} {Q : wQ} {L : List (Option Value)} {st : List Value} {w : aw} {cn sn : Nat} {v0 : Value} {b : Nat} : wp d 47 Q 16 L (v0 :: .ref b :: st) w cn sn = (kd w b = 5 ∧ catS st ≤ 8 ∧ wpD d 37 [.ref b, v0] w (fun v w' => wp d 47 Q 19 L (v.toList ++ st) w' cn sn)) := w_virtual (As := [v0]) d_47_16 (by decide +kernel : cT (mO 47) 32 = some (0, 37)) rfl (by decide +kernel) rfl (by decide +kernel) rfl
theorem d_47_19 : decode (mB 47) 19 = .ok (.bipush 73, 2) := by decide +kernel
theorem s_47_19 {d : Nat} {Q : wQ} {L : List (Option Value)} {st : List Value} {w : aw} {cn sn : Nat}  : wp d 47 Q 19 L st w cn sn = wp d 47 Q 21 L (.int 73 :: st) w cn sn := w_bipush d_47_19 (by decide)
theorem d_47_21 : decode (mB 47) 21 = .ok (.if_icmp .ne 41, 3) := by decide +kernel
theorem s_47_21 {d : Nat} {Q : wQ} {L : List (Option Value)} {st : List Value} {w : aw} {cn sn : Nat} {a b : Int32} : wp d 47 Q 21 L (.int b :: .int a :: st) w cn sn = ((¬ a = b → wp d 47 Q 62 L st w cn sn) ∧ (a = b → wp d 47 Q 24 L st w cn sn)) := w_icne d_47_21 (by decide)
theorem d_47_24 : decode (mB 47) 24 = .ok (.aload_n 0, 1) := by decide +kernel
theorem s_47_24 {d : Nat} {Q : wQ} {L : List (Option Value)} {st : List Value} {w : aw} {cn sn : Nat} {v : Nat} : wp d 47 Q 24 (some (.ref v) :: L) st w cn sn = wp d 47 Q 25 (some (.ref v) :: L) (.ref v :: st) w cn sn := w_aload_n d_47_24 rfl
theorem d_47_25 : decode (mB 47) 25 = .ok (.aload_n 0, 1) := by decide +kernel
theorem s_47_25 {d : Nat} {Q : wQ} {L : List (Option Value)} {st : List Value} {w : aw} {cn sn : Nat} {v : Nat} : wp d 47 Q 25 (some (.ref v) :: L) st w cn sn = wp d 47 Q 26 (some (.ref v) :: L) (.ref v :: st) w cn sn := w_aload_n d_47_25 rfl
theorem d_47_26 : decode (mB 47) 26 = .ok (.getfield 52, 3) := by decide +kernel
theorem s_47_26 {d : Nat} {Q : wQ} {L : List (Option Value)} {st : List Value} {w : aw} {cn sn : Nat} {a : Nat} : wp d 47 Q 26 L (.ref a :: st) w cn sn = (kd w a = 5 ∧ wp d 47 Q 29 L (fd w 258 a :: st) w cn sn) := w_getfield d_47_26 (by decide +kernel : fT (mO 47) 52 = some (4, 2))
theorem d_47_29 : decode (mB 47) 29 = .ok (.invokevirtual 55, 3) := by decide +kernel
theorem s_47_29 {d : Nat} {Q : wQ} {L : List (Option Value)} {st : List Value} {w : aw} {cn sn : Nat} {v0 : Value} {b : Nat} : wp d 47 Q 29 L (v0 :: .ref b :: st) w cn sn = (kd w b = 5 ∧ catS st ≤ 8 ∧ wpD d 41 [.ref b, v0] w (fun v w' => wp d 47 Q 32 L (v.toList ++ st) w' cn sn)) := w_virtual (As := [v0]) d_47_29 (by decide +kernel : cT (mO 47) 55 = some (0, 41)) rfl (by decide +kernel) rfl (by decide +kernel) rfl
theorem d_47_32 : decode (mB 47) 32 = .ok (.aload_n 0, 1) := by decide +kernel
theorem s_47_32 {d : Nat} {Q : wQ} {L : List (Option Value)} {st : List Value} {w : aw} {cn sn : Nat} {v : Nat} : wp d 47 Q 32 (some (.ref v) :: L) st w cn sn = wp d 47 Q 33 (some (.ref v) :: L) (.ref v :: st) w cn sn := w_aload_n d_47_32 rfl
theorem d_47_33 : decode (mB 47) 33 = .ok (.getfield 52, 3) := by decide +kernel
theorem s_47_33 {d : Nat} {Q : wQ} {L : List (Option Value)} {st : List Value} {w : aw} {cn sn : Nat} {a : Nat} : wp d 47 Q 33 L (.ref a :: st) w cn sn = (kd w a = 5 ∧ wp d 47 Q 36 L (fd w 258 a :: st) w cn sn) := w_getfield d_47_33 (by decide +kernel : fT (mO 47) 52 = some (4, 2))
theorem d_47_36 : decode (mB 47) 36 = .ok (.iconst 1, 1) := by decide +kernel
theorem s_47_36 {d : Nat} {Q : wQ} {L : List (Option Value)} {st : List Value} {w : aw} {cn sn : Nat}  : wp d 47 Q 36 L st w cn sn = wp d 47 Q 37 L (.int 1 :: st) w cn sn := w_iconst d_47_36 (by decide)
theorem d_47_37 : decode (mB 47) 37 = .ok (.iadd, 1) := by decide +kernel
theorem s_47_37 {d : Nat} {Q : wQ} {L : List (Option Value)} {st : List Value} {w : aw} {cn sn : Nat} {a b : Int32} : wp d 47 Q 37 L (.int b :: .int a :: st) w cn sn = wp d 47 Q 38 L (.int (a + b) :: st) w cn sn := wp_row d_47_37 _ _ _ _ _
theorem d_47_38 : decode (mB 47) 38 = .ok (.if_icmp .ne 24, 3) := by decide +kernel
theorem s_47_38 {d : Nat} {Q : wQ} {L : List (Option Value)} {st : List Value} {w : aw} {cn sn : Nat} {a b : Int32} : wp d 47 Q 38 L (.int b :: .int a :: st) w cn sn = ((¬ a = b → wp d 47 Q 62 L st w cn sn) ∧ (a = b → wp d 47 Q 41 L st w cn sn)) := w_icne d_47_38 (by decide)
theorem d_47_41 : decode (mB 47) 41 = .ok (.aload_n 0, 1) := by decide +kernel
theorem s_47_41 {d : Nat} {Q : wQ} {L : List (Option Value)} {st : List Value} {w : aw} {cn sn : Nat} {v : Nat} : wp d 47 Q 41 (some (.ref v) :: L) st w cn sn = wp d 47 Q 42 (some (.ref v) :: L) (.ref v :: st) w cn sn := w_aload_n d_47_41 rfl
theorem d_47_42 : decode (mB 47) 42 = .ok (.iload_n 1, 1) := by decide +kernel
theorem s_47_42 {d : Nat} {Q : wQ} {L : List (Option Value)} {st : List Value} {w : aw} {cn sn : Nat} {a0 : Option Value} {v : Int32} : wp d 47 Q 42 (a0 :: some (.int v) :: L) st w cn sn = wp d 47 Q 43 (a0 :: some (.int v) :: L) (.int v :: st) w cn sn := w_iload_n d_47_42 rfl
theorem d_47_43 : decode (mB 47) 43 = .ok (.invokevirtual 32, 3) := by decide +kernel
theorem s_47_43 {d : Nat} {Q : wQ} {L : List (Option Value)} {st : List Value} {w : aw} {cn sn : Nat} {v0 : Value} {b : Nat} : wp d 47 Q 43 L (v0 :: .ref b :: st) w cn sn = (kd w b = 5 ∧ catS st ≤ 8 ∧ wpD d 37 [.ref b, v0] w (fun v w' => wp d 47 Q 46 L (v.toList ++ st) w' cn sn)) := w_virtual (As := [v0]) d_47_43 (by decide +kernel : cT (mO 47) 32 = some (0, 37)) rfl (by decide +kernel) rfl (by decide +kernel) rfl
theorem d_47_46 : decode (mB 47) 46 = .ok (.invokestatic 109, 3) := by decide +kernel
theorem s_47_46 {d : Nat} {Q : wQ} {L : List (Option Value)} {st : List Value} {w : aw} {cn sn : Nat} {v0 : Value} : wp d 47 Q 46 L (v0 :: st) w cn sn = (catS st ≤ 8 ∧ wpD d 48 [v0] w (fun v w' => wp d 47 Q 49 L (v.toList ++ st) w' cn sn)) := w_static (As := [v0]) d_47_46 (by decide +kernel : cT (mO 47) 109 = some (2, 48)) rfl (by decide +kernel) rfl
theorem d_47_49 : decode (mB 47) 49 = .ok (.ifCond .eq 13, 3) := by decide +kernel
theorem s_47_49 {d : Nat} {Q : wQ} {L : List (Option Value)} {st : List Value} {w : aw} {cn sn : Nat} {x : Int32} : wp d 47 Q 49 L (.int x :: st) w cn sn = ((x = 0 → wp d 47 Q 62 L st w cn sn) ∧ (¬ x = 0 → wp d 47 Q 52 L st w cn sn)) := w_ifeq d_47_49 (by decide)
theorem d_47_52 : decode (mB 47) 52 = .ok (.aload_n 0, 1) := by decide +kernel
theorem s_47_52 {d : Nat} {Q : wQ} {L : List (Option Value)} {st : List Value} {w : aw} {cn sn : Nat} {v : Nat} : wp d 47 Q 52 (some (.ref v) :: L) st w cn sn = wp d 47 Q 53 (some (.ref v) :: L) (.ref v :: st) w cn sn := w_aload_n d_47_52 rfl
theorem d_47_53 : decode (mB 47) 53 = .ok (.iconst 1, 1) := by decide +kernel
theorem s_47_53 {d : Nat} {Q : wQ} {L : List (Option Value)} {st : List Value} {w : aw} {cn sn : Nat}  : wp d 47 Q 53 L st w cn sn = wp d 47 Q 54 L (.int 1 :: st) w cn sn := w_iconst d_47_53 (by decide)
theorem d_47_54 : decode (mB 47) 54 = .ok (.putfield 72, 3) := by decide +kernel
theorem s_47_54 {d : Nat} {Q : wQ} {L : List (Option Value)} {st : List Value} {w : aw} {cn sn : Nat} {x : Int32} {a : Nat} : wp d 47 Q 54 L (.int x :: .ref a :: st) w cn sn = (kd w a = 5 ∧ okv .boolean (.int x) ∧ wp d 47 Q 57 L st (uF w 264 a (.int x)) cn sn) := w_putfieldC d_47_54 (by decide +kernel : fT (mO 47) 72 = some (4, 8)) (by decide +kernel)
theorem d_47_57 : decode (mB 47) 57 = .ok (.aload_n 0, 1) := by decide +kernel
theorem s_47_57 {d : Nat} {Q : wQ} {L : List (Option Value)} {st : List Value} {w : aw} {cn sn : Nat} {v : Nat} : wp d 47 Q 57 (some (.ref v) :: L) st w cn sn = wp d 47 Q 58 (some (.ref v) :: L) (.ref v :: st) w cn sn := w_aload_n d_47_57 rfl
theorem d_47_58 : decode (mB 47) 58 = .ok (.iload_n 1, 1) := by decide +kernel
theorem s_47_58 {d : Nat} {Q : wQ} {L : List (Option Value)} {st : List Value} {w : aw} {cn sn : Nat} {a0 : Option Value} {v : Int32} : wp d 47 Q 58 (a0 :: some (.int v) :: L) st w cn sn = wp d 47 Q 59 (a0 :: some (.int v) :: L) (.int v :: st) w cn sn := w_iload_n d_47_58 rfl
theorem d_47_59 : decode (mB 47) 59 = .ok (.putfield 52, 3) := by decide +kernel
theorem s_47_59 {d : Nat} {Q : wQ} {L : List (Option Value)} {st : List Value} {w : aw} {cn sn : Nat} {x : Int32} {a : Nat} : wp d 47 Q 59 L (.int x :: .ref a :: st) w cn sn = (kd w a = 5 ∧ wp d 47 Q 62 L st (uF w 258 a (.int x)) cn sn) := w_putfield d_47_59 (by decide +kernel : fT (mO 47) 52 = some (4, 2)) (by decide +kernel) ok_int
theorem d_47_62 : decode (mB 47) 62 = .ok (.aload_n 0, 1) := by decide +kernel
theorem s_47_62 {d : Nat} {Q : wQ} {L : List (Option Value)} {st : List Value} {w : aw} {cn sn : Nat} {v : Nat} : wp d 47 Q 62 (some (.ref v) :: L) st w cn sn = wp d 47 Q 63 (some (.ref v) :: L) (.ref v :: st) w cn sn := w_aload_n d_47_62 rfl
theorem d_47_63 : decode (mB 47) 63 = .ok (.aload_n 0, 1) := by decide +kernel
theorem s_47_63 {d : Nat} {Q : wQ} {L : List (Option Value)} {st : List Value} {w : aw} {cn sn : Nat} {v : Nat} : wp d 47 Q 63 (some (.ref v) :: L) st w cn sn = wp d 47 Q 64 (some (.ref v) :: L) (.ref v :: st) w cn sn := w_aload_n d_47_63 rfl
theorem d_47_64 : decode (mB 47) 64 = .ok (.getfield 52, 3) := by decide +kernel
theorem s_47_64 {d : Nat} {Q : wQ} {L : List (Option Value)} {st : List Value} {w : aw} {cn sn : Nat} {a : Nat} : wp d 47 Q 64 L (.ref a :: st) w cn sn = (kd w a = 5 ∧ wp d 47 Q 67 L (fd w 258 a :: st) w cn sn) := w_getfield d_47_64 (by decide +kernel : fT (mO 47) 52 = some (4, 2))
theorem d_47_67 : decode (mB 47) 67 = .ok (.invokevirtual 32, 3) := by decide +kernel
theorem s_47_67 {d : Nat} {Q : wQ} {L : List (Option Value)} {st : List Value} {w : aw} {cn sn : Nat} {v0 : Value} {b : Nat} : wp d 47 Q 67 L (v0 :: .ref b :: st) w cn sn = (kd w b = 5 ∧ catS st ≤ 8 ∧ wpD d 37 [.ref b, v0] w (fun v w' => wp d 47 Q 70 L (v.toList ++ st) w' cn sn)) := w_virtual (As := [v0]) d_47_67 (by decide +kernel : cT (mO 47) 32 = some (0, 37)) rfl (by decide +kernel) rfl (by decide +kernel) rfl
theorem d_47_70 : decode (mB 47) 70 = .ok (.bipush 40, 2) := by decide +kernel
theorem s_47_70 {d : Nat} {Q : wQ} {L : List (Option Value)} {st : List Value} {w : aw} {cn sn : Nat}  : wp d 47 Q 70 L st w cn sn = wp d 47 Q 72 L (.int 40 :: st) w cn sn := w_bipush d_47_70 (by decide)
theorem d_47_72 : decode (mB 47) 72 = .ok (.if_icmp .ne 22, 3) := by decide +kernel
theorem s_47_72 {d : Nat} {Q : wQ} {L : List (Option Value)} {st : List Value} {w : aw} {cn sn : Nat} {a b : Int32} : wp d 47 Q 72 L (.int b :: .int a :: st) w cn sn = ((¬ a = b → wp d 47 Q 94 L st w cn sn) ∧ (a = b → wp d 47 Q 75 L st w cn sn)) := w_icne d_47_72 (by decide)
theorem d_47_75 : decode (mB 47) 75 = .ok (.aload_n 0, 1) := by decide +kernel
theorem s_47_75 {d : Nat} {Q : wQ} {L : List (Option Value)} {st : List Value} {w : aw} {cn sn : Nat} {v : Nat} : wp d 47 Q 75 (some (.ref v) :: L) st w cn sn = wp d 47 Q 76 (some (.ref v) :: L) (.ref v :: st) w cn sn := w_aload_n d_47_75 rfl
theorem d_47_76 : decode (mB 47) 76 = .ok (.iconst 1, 1) := by decide +kernel
theorem s_47_76 {d : Nat} {Q : wQ} {L : List (Option Value)} {st : List Value} {w : aw} {cn sn : Nat}  : wp d 47 Q 76 L st w cn sn = wp d 47 Q 77 L (.int 1 :: st) w cn sn := w_iconst d_47_76 (by decide)
theorem d_47_77 : decode (mB 47) 77 = .ok (.putfield 76, 3) := by decide +kernel
theorem s_47_77 {d : Nat} {Q : wQ} {L : List (Option Value)} {st : List Value} {w : aw} {cn sn : Nat} {x : Int32} {a : Nat} : wp d 47 Q 77 L (.int x :: .ref a :: st) w cn sn = (kd w a = 5 ∧ okv .boolean (.int x) ∧ wp d 47 Q 80 L st (uF w 265 a (.int x)) cn sn) := w_putfieldC d_47_77 (by decide +kernel : fT (mO 47) 76 = some (4, 9)) (by decide +kernel)
theorem d_47_80 : decode (mB 47) 80 = .ok (.aload_n 0, 1) := by decide +kernel
theorem s_47_80 {d : Nat} {Q : wQ} {L : List (Option Value)} {st : List Value} {w : aw} {cn sn : Nat} {v : Nat} : wp d 47 Q 80 (some (.ref v) :: L) st w cn sn = wp d 47 Q 81 (some (.ref v) :: L) (.ref v :: st) w cn sn := w_aload_n d_47_80 rfl
theorem d_47_81 : decode (mB 47) 81 = .ok (.aload_n 0, 1) := by decide +kernel
theorem s_47_81 {d : Nat} {Q : wQ} {L : List (Option Value)} {st : List Value} {w : aw} {cn sn : Nat} {v : Nat} : wp d 47 Q 81 (some (.ref v) :: L) st w cn sn = wp d 47 Q 82 (some (.ref v) :: L) (.ref v :: st) w cn sn := w_aload_n d_47_81 rfl
theorem d_47_82 : decode (mB 47) 82 = .ok (.aload_n 0, 1) := by decide +kernel
theorem s_47_82 {d : Nat} {Q : wQ} {L : List (Option Value)} {st : List Value} {w : aw} {cn sn : Nat} {v : Nat} : wp d 47 Q 82 (some (.ref v) :: L) st w cn sn = wp d 47 Q 83 (some (.ref v) :: L) (.ref v :: st) w cn sn := w_aload_n d_47_82 rfl
theorem d_47_83 : decode (mB 47) 83 = .ok (.getfield 52, 3) := by decide +kernel
theorem s_47_83 {d : Nat} {Q : wQ} {L : List (Option Value)} {st : List Value} {w : aw} {cn sn : Nat} {a : Nat} : wp d 47 Q 83 L (.ref a :: st) w cn sn = (kd w a = 5 ∧ wp d 47 Q 86 L (fd w 258 a :: st) w cn sn) := w_getfield d_47_83 (by decide +kernel : fT (mO 47) 52 = some (4, 2))
theorem d_47_86 : decode (mB 47) 86 = .ok (.iconst 1, 1) := by decide +kernel
theorem s_47_86 {d : Nat} {Q : wQ} {L : List (Option Value)} {st : List Value} {w : aw} {cn sn : Nat}  : wp d 47 Q 86 L st w cn sn = wp d 47 Q 87 L (.int 1 :: st) w cn sn := w_iconst d_47_86 (by decide)
theorem d_47_87 : decode (mB 47) 87 = .ok (.iadd, 1) := by decide +kernel
theorem s_47_87 {d : Nat} {Q : wQ} {L : List (Option Value)} {st : List Value} {w : aw} {cn sn : Nat} {a b : Int32} : wp d 47 Q 87 L (.int b :: .int a :: st) w cn sn = wp d 47 Q 88 L (.int (a + b) :: st) w cn sn := wp_row d_47_87 _ _ _ _ _
theorem d_47_88 : decode (mB 47) 88 = .ok (.invokevirtual 49, 3) := by decide +kernel
theorem s_47_88 {d : Nat} {Q : wQ} {L : List (Option Value)} {st : List Value} {w : aw} {cn sn : Nat} {v0 : Value} {b : Nat} : wp d 47 Q 88 L (v0 :: .ref b :: st) w cn sn = (kd w b = 5 ∧ catS st ≤ 8 ∧ wpD d 40 [.ref b, v0] w (fun v w' => wp d 47 Q 91 L (v.toList ++ st) w' cn sn)) := w_virtual (As := [v0]) d_47_88 (by decide +kernel : cT (mO 47) 49 = some (0, 40)) rfl (by decide +kernel) rfl (by decide +kernel) rfl
theorem d_47_91 : decode (mB 47) 91 = .ok (.putfield 52, 3) := by decide +kernel
theorem s_47_91 {d : Nat} {Q : wQ} {L : List (Option Value)} {st : List Value} {w : aw} {cn sn : Nat} {x : Int32} {a : Nat} : wp d 47 Q 91 L (.int x :: .ref a :: st) w cn sn = (kd w a = 5 ∧ wp d 47 Q 94 L st (uF w 258 a (.int x)) cn sn) := w_putfield d_47_91 (by decide +kernel : fT (mO 47) 52 = some (4, 2)) (by decide +kernel) ok_int
theorem d_47_94 : decode (mB 47) 94 = .ok (.return_, 1) := by decide +kernel
theorem s_47_94 {d : Nat} {Q : wQ} {L : List (Option Value)} {w : aw} {cn sn : Nat}  : wp d 47 Q 94 L [] w cn sn = Q none w := w_return d_47_94 rfl
theorem d_48_0 : decode (mB 48) 0 = .ok (.iload_n 0, 1) := by decide +kernel
theorem s_48_0 {d : Nat} {Q : wQ} {L : List (Option Value)} {st : List Value} {w : aw} {cn sn : Nat} {v : Int32} : wp d 48 Q 0 (some (.int v) :: L) st w cn sn = wp d 48 Q 1 (some (.int v) :: L) (.int v :: st) w cn sn := w_iload_n d_48_0 rfl
theorem d_48_1 : decode (mB 48) 1 = .ok (.invokestatic 36, 3) := by decide +kernel
theorem s_48_1 {d : Nat} {Q : wQ} {L : List (Option Value)} {st : List Value} {w : aw} {cn sn : Nat} {v0 : Value} : wp d 48 Q 1 L (v0 :: st) w cn sn = (catS st ≤ 8 ∧ wpD d 38 [v0] w (fun v w' => wp d 48 Q 4 L (v.toList ++ st) w' cn sn)) := w_static (As := [v0]) d_48_1 (by decide +kernel : cT (mO 48) 36 = some (2, 38)) rfl (by decide +kernel) rfl
theorem d_48_4 : decode (mB 48) 4 = .ok (.ifCond .ne 28, 3) := by decide +kernel
theorem s_48_4 {d : Nat} {Q : wQ} {L : List (Option Value)} {st : List Value} {w : aw} {cn sn : Nat} {x : Int32} : wp d 48 Q 4 L (.int x :: st) w cn sn = ((¬ x = 0 → wp d 48 Q 32 L st w cn sn) ∧ (x = 0 → wp d 48 Q 7 L st w cn sn)) := w_ifne d_48_4 (by decide)
theorem d_48_7 : decode (mB 48) 7 = .ok (.iload_n 0, 1) := by decide +kernel
theorem s_48_7 {d : Nat} {Q : wQ} {L : List (Option Value)} {st : List Value} {w : aw} {cn sn : Nat} {v : Int32} : wp d 48 Q 7 (some (.int v) :: L) st w cn sn = wp d 48 Q 8 (some (.int v) :: L) (.int v :: st) w cn sn := w_iload_n d_48_7 rfl
theorem d_48_8 : decode (mB 48) 8 = .ok (.invokestatic 40, 3) := by decide +kernel
theorem s_48_8 {d : Nat} {Q : wQ} {L : List (Option Value)} {st : List Value} {w : aw} {cn sn : Nat} {v0 : Value} : wp d 48 Q 8 L (v0 :: st) w cn sn = (catS st ≤ 8 ∧ wpD d 39 [v0] w (fun v w' => wp d 48 Q 11 L (v.toList ++ st) w' cn sn)) := w_static (As := [v0]) d_48_8 (by decide +kernel : cT (mO 48) 40 = some (2, 39)) rfl (by decide +kernel) rfl
theorem d_48_11 : decode (mB 48) 11 = .ok (.ifCond .ne 21, 3) := by decide +kernel
theorem s_48_11 {d : Nat} {Q : wQ} {L : List (Option Value)} {st : List Value} {w : aw} {cn sn : Nat} {x : Int32} : wp d 48 Q 11 L (.int x :: st) w cn sn = ((¬ x = 0 → wp d 48 Q 32 L st w cn sn) ∧ (x = 0 → wp d 48 Q 14 L st w cn sn)) := w_ifne d_48_11 (by decide)
theorem d_48_14 : decode (mB 48) 14 = .ok (.iload_n 0, 1) := by decide +kernel
theorem s_48_14 {d : Nat} {Q : wQ} {L : List (Option Value)} {st : List Value} {w : aw} {cn sn : Nat} {v : Int32} : wp d 48 Q 14 (some (.int v) :: L) st w cn sn = wp d 48 Q 15 (some (.int v) :: L) (.int v :: st) w cn sn := w_iload_n d_48_14 rfl
theorem d_48_15 : decode (mB 48) 15 = .ok (.bipush 46, 2) := by decide +kernel
theorem s_48_15 {d : Nat} {Q : wQ} {L : List (Option Value)} {st : List Value} {w : aw} {cn sn : Nat}  : wp d 48 Q 15 L st w cn sn = wp d 48 Q 17 L (.int 46 :: st) w cn sn := w_bipush d_48_15 (by decide)
theorem d_48_17 : decode (mB 48) 17 = .ok (.if_icmp .eq 15, 3) := by decide +kernel
theorem s_48_17 {d : Nat} {Q : wQ} {L : List (Option Value)} {st : List Value} {w : aw} {cn sn : Nat} {a b : Int32} : wp d 48 Q 17 L (.int b :: .int a :: st) w cn sn = ((a = b → wp d 48 Q 32 L st w cn sn) ∧ (¬ a = b → wp d 48 Q 20 L st w cn sn)) := w_iceq d_48_17 (by decide)
theorem d_48_20 : decode (mB 48) 20 = .ok (.iload_n 0, 1) := by decide +kernel
theorem s_48_20 {d : Nat} {Q : wQ} {L : List (Option Value)} {st : List Value} {w : aw} {cn sn : Nat} {v : Int32} : wp d 48 Q 20 (some (.int v) :: L) st w cn sn = wp d 48 Q 21 (some (.int v) :: L) (.int v :: st) w cn sn := w_iload_n d_48_20 rfl
theorem d_48_21 : decode (mB 48) 21 = .ok (.bipush 45, 2) := by decide +kernel
theorem s_48_21 {d : Nat} {Q : wQ} {L : List (Option Value)} {st : List Value} {w : aw} {cn sn : Nat}  : wp d 48 Q 21 L st w cn sn = wp d 48 Q 23 L (.int 45 :: st) w cn sn := w_bipush d_48_21 (by decide)
theorem d_48_23 : decode (mB 48) 23 = .ok (.if_icmp .eq 9, 3) := by decide +kernel
theorem s_48_23 {d : Nat} {Q : wQ} {L : List (Option Value)} {st : List Value} {w : aw} {cn sn : Nat} {a b : Int32} : wp d 48 Q 23 L (.int b :: .int a :: st) w cn sn = ((a = b → wp d 48 Q 32 L st w cn sn) ∧ (¬ a = b → wp d 48 Q 26 L st w cn sn)) := w_iceq d_48_23 (by decide)
theorem d_48_26 : decode (mB 48) 26 = .ok (.iload_n 0, 1) := by decide +kernel
theorem s_48_26 {d : Nat} {Q : wQ} {L : List (Option Value)} {st : List Value} {w : aw} {cn sn : Nat} {v : Int32} : wp d 48 Q 26 (some (.int v) :: L) st w cn sn = wp d 48 Q 27 (some (.int v) :: L) (.int v :: st) w cn sn := w_iload_n d_48_26 rfl
theorem d_48_27 : decode (mB 48) 27 = .ok (.bipush 40, 2) := by decide +kernel
theorem s_48_27 {d : Nat} {Q : wQ} {L : List (Option Value)} {st : List Value} {w : aw} {cn sn : Nat}  : wp d 48 Q 27 L st w cn sn = wp d 48 Q 29 L (.int 40 :: st) w cn sn := w_bipush d_48_27 (by decide)
theorem d_48_29 : decode (mB 48) 29 = .ok (.if_icmp .ne 7, 3) := by decide +kernel
theorem s_48_29 {d : Nat} {Q : wQ} {L : List (Option Value)} {st : List Value} {w : aw} {cn sn : Nat} {a b : Int32} : wp d 48 Q 29 L (.int b :: .int a :: st) w cn sn = ((¬ a = b → wp d 48 Q 36 L st w cn sn) ∧ (a = b → wp d 48 Q 32 L st w cn sn)) := w_icne d_48_29 (by decide)
theorem d_48_32 : decode (mB 48) 32 = .ok (.iconst 1, 1) := by decide +kernel
theorem s_48_32 {d : Nat} {Q : wQ} {L : List (Option Value)} {st : List Value} {w : aw} {cn sn : Nat}  : wp d 48 Q 32 L st w cn sn = wp d 48 Q 33 L (.int 1 :: st) w cn sn := w_iconst d_48_32 (by decide)
theorem d_48_33 : decode (mB 48) 33 = .ok (.goto 4, 3) := by decide +kernel
theorem s_48_33 {d : Nat} {Q : wQ} {L : List (Option Value)} {st : List Value} {w : aw} {cn sn : Nat}  : wp d 48 Q 33 L st w cn sn = wp d 48 Q 37 L st w cn sn := w_goto d_48_33 (by decide)
theorem d_48_36 : decode (mB 48) 36 = .ok (.iconst 0, 1) := by decide +kernel
theorem s_48_36 {d : Nat} {Q : wQ} {L : List (Option Value)} {st : List Value} {w : aw} {cn sn : Nat}  : wp d 48 Q 36 L st w cn sn = wp d 48 Q 37 L (.int 0 :: st) w cn sn := w_iconst d_48_36 (by decide)
theorem d_48_37 : decode (mB 48) 37 = .ok (.ireturn, 1) := by decide +kernel
theorem s_48_37 {d : Nat} {Q : wQ} {L : List (Option Value)} {w : aw} {cn sn : Nat} {v : Int32} : wp d 48 Q 37 L [.int v] w cn sn = (narrow .boolean (.int v) = .int v ∧ Q (some (.int v)) w) := w_zreturn d_48_37 rfl
theorem d_49_0 : decode (mB 49) 0 = .ok (.aload_n 0, 1) := by decide +kernel
theorem s_49_0 {d : Nat} {Q : wQ} {L : List (Option Value)} {st : List Value} {w : aw} {cn sn : Nat} {v : Nat} : wp d 49 Q 0 (some (.ref v) :: L) st w cn sn = wp d 49 Q 1 (some (.ref v) :: L) (.ref v :: st) w cn sn := w_aload_n d_49_0 rfl
theorem d_49_1 : decode (mB 49) 1 = .ok (.aload_n 0, 1) := by decide +kernel
theorem s_49_1 {d : Nat} {Q : wQ} {L : List (Option Value)} {st : List Value} {w : aw} {cn sn : Nat} {v : Nat} : wp d 49 Q 1 (some (.ref v) :: L) st w cn sn = wp d 49 Q 2 (some (.ref v) :: L) (.ref v :: st) w cn sn := w_aload_n d_49_1 rfl
theorem d_49_2 : decode (mB 49) 2 = .ok (.getfield 52, 3) := by decide +kernel
theorem s_49_2 {d : Nat} {Q : wQ} {L : List (Option Value)} {st : List Value} {w : aw} {cn sn : Nat} {a : Nat} : wp d 49 Q 2 L (.ref a :: st) w cn sn = (kd w a = 5 ∧ wp d 49 Q 5 L (fd w 258 a :: st) w cn sn) := w_getfield d_49_2 (by decide +kernel : fT (mO 49) 52 = some (4, 2))
theorem d_49_5 : decode (mB 49) 5 = .ok (.invokevirtual 49, 3) := by decide +kernel
theorem s_49_5 {d : Nat} {Q : wQ} {L : List (Option Value)} {st : List Value} {w : aw} {cn sn : Nat} {v0 : Value} {b : Nat} : wp d 49 Q 5 L (v0 :: .ref b :: st) w cn sn = (kd w b = 5 ∧ catS st ≤ 8 ∧ wpD d 40 [.ref b, v0] w (fun v w' => wp d 49 Q 8 L (v.toList ++ st) w' cn sn)) := w_virtual (As := [v0]) d_49_5 (by decide +kernel : cT (mO 49) 49 = some (0, 40)) rfl (by decide +kernel) rfl (by decide +kernel) rfl
theorem d_49_8 : decode (mB 49) 8 = .ok (.istore_n 1, 1) := by decide +kernel
theorem s_49_8 {d : Nat} {Q : wQ} {L : List (Option Value)} {st : List Value} {w : aw} {cn sn : Nat} {a0 a1 : Option Value} {v : Int32} : wp d 49 Q 8 (a0 :: a1 :: L) (.int v :: st) w cn sn = wp d 49 Q 9 (clr a0 :: some (.int v) :: L) st w cn sn := w_istore_n d_49_8 (Nat.le_add_left 2 _) rfl
theorem d_49_9 : decode (mB 49) 9 = .ok (.aload_n 0, 1) := by decide +kernel
theorem s_49_9 {d : Nat} {Q : wQ} {L : List (Option Value)} {st : List Value} {w : aw} {cn sn : Nat} {v : Nat} : wp d 49 Q 9 (some (.ref v) :: L) st w cn sn = wp d 49 Q 10 (some (.ref v) :: L) (.ref v :: st) w cn sn := w_aload_n d_49_9 rfl
theorem d_49_10 : decode (mB 49) 10 = .ok (.getfield 76, 3) := by decide +kernel
theorem s_49_10 {d : Nat} {Q : wQ} {L : List (Option Value)} {st : List Value} {w : aw} {cn sn : Nat} {a : Nat} : wp d 49 Q 10 L (.ref a :: st) w cn sn = (kd w a = 5 ∧ wp d 49 Q 13 L (fd w 265 a :: st) w cn sn) := w_getfield d_49_10 (by decide +kernel : fT (mO 49) 76 = some (4, 9))
theorem d_49_13 : decode (mB 49) 13 = .ok (.ifCond .eq 20, 3) := by decide +kernel
theorem s_49_13 {d : Nat} {Q : wQ} {L : List (Option Value)} {st : List Value} {w : aw} {cn sn : Nat} {x : Int32} : wp d 49 Q 13 L (.int x :: st) w cn sn = ((x = 0 → wp d 49 Q 33 L st w cn sn) ∧ (¬ x = 0 → wp d 49 Q 16 L st w cn sn)) := w_ifeq d_49_13 (by decide)
theorem d_49_16 : decode (mB 49) 16 = .ok (.aload_n 0, 1) := by decide +kernel
theorem s_49_16 {d : Nat} {Q : wQ} {L : List (Option Value)} {st : List Value} {w : aw} {cn sn : Nat} {v : Nat} : wp d 49 Q 16 (some (.ref v) :: L) st w cn sn = wp d 49 Q 17 (some (.ref v) :: L) (.ref v :: st) w cn sn := w_aload_n d_49_16 rfl
theorem d_49_17 : decode (mB 49) 17 = .ok (.iload_n 1, 1) := by decide +kernel
theorem s_49_17 {d : Nat} {Q : wQ} {L : List (Option Value)} {st : List Value} {w : aw} {cn sn : Nat} {a0 : Option Value} {v : Int32} : wp d 49 Q 17 (a0 :: some (.int v) :: L) st w cn sn = wp d 49 Q 18 (a0 :: some (.int v) :: L) (.int v :: st) w cn sn := w_iload_n d_49_17 rfl
theorem d_49_18 : decode (mB 49) 18 = .ok (.invokevirtual 32, 3) := by decide +kernel
theorem s_49_18 {d : Nat} {Q : wQ} {L : List (Option Value)} {st : List Value} {w : aw} {cn sn : Nat} {v0 : Value} {b : Nat} : wp d 49 Q 18 L (v0 :: .ref b :: st) w cn sn = (kd w b = 5 ∧ catS st ≤ 8 ∧ wpD d 37 [.ref b, v0] w (fun v w' => wp d 49 Q 21 L (v.toList ++ st) w' cn sn)) := w_virtual (As := [v0]) d_49_18 (by decide +kernel : cT (mO 49) 32 = some (0, 37)) rfl (by decide +kernel) rfl (by decide +kernel) rfl
theorem d_49_21 : decode (mB 49) 21 = .ok (.bipush 41, 2) := by decide +kernel
theorem s_49_21 {d : Nat} {Q : wQ} {L : List (Option Value)} {st : List Value} {w : aw} {cn sn : Nat}  : wp d 49 Q 21 L st w cn sn = wp d 49 Q 23 L (.int 41 :: st) w cn sn := w_bipush d_49_21 (by decide)
theorem d_49_23 : decode (mB 49) 23 = .ok (.if_icmp .ne 10, 3) := by decide +kernel
theorem s_49_23 {d : Nat} {Q : wQ} {L : List (Option Value)} {st : List Value} {w : aw} {cn sn : Nat} {a b : Int32} : wp d 49 Q 23 L (.int b :: .int a :: st) w cn sn = ((¬ a = b → wp d 49 Q 33 L st w cn sn) ∧ (a = b → wp d 49 Q 26 L st w cn sn)) := w_icne d_49_23 (by decide)
theorem d_49_26 : decode (mB 49) 26 = .ok (.aload_n 0, 1) := by decide +kernel
theorem s_49_26 {d : Nat} {Q : wQ} {L : List (Option Value)} {st : List Value} {w : aw} {cn sn : Nat} {v : Nat} : wp d 49 Q 26 (some (.ref v) :: L) st w cn sn = wp d 49 Q 27 (some (.ref v) :: L) (.ref v :: st) w cn sn := w_aload_n d_49_26 rfl
theorem d_49_27 : decode (mB 49) 27 = .ok (.iload_n 1, 1) := by decide +kernel
theorem s_49_27 {d : Nat} {Q : wQ} {L : List (Option Value)} {st : List Value} {w : aw} {cn sn : Nat} {a0 : Option Value} {v : Int32} : wp d 49 Q 27 (a0 :: some (.int v) :: L) st w cn sn = wp d 49 Q 28 (a0 :: some (.int v) :: L) (.int v :: st) w cn sn := w_iload_n d_49_27 rfl
theorem d_49_28 : decode (mB 49) 28 = .ok (.iconst 1, 1) := by decide +kernel
theorem s_49_28 {d : Nat} {Q : wQ} {L : List (Option Value)} {st : List Value} {w : aw} {cn sn : Nat}  : wp d 49 Q 28 L st w cn sn = wp d 49 Q 29 L (.int 1 :: st) w cn sn := w_iconst d_49_28 (by decide)
theorem d_49_29 : decode (mB 49) 29 = .ok (.iadd, 1) := by decide +kernel
theorem s_49_29 {d : Nat} {Q : wQ} {L : List (Option Value)} {st : List Value} {w : aw} {cn sn : Nat} {a b : Int32} : wp d 49 Q 29 L (.int b :: .int a :: st) w cn sn = wp d 49 Q 30 L (.int (a + b) :: st) w cn sn := wp_row d_49_29 _ _ _ _ _
theorem d_49_30 : decode (mB 49) 30 = .ok (.putfield 52, 3) := by decide +kernel
theorem s_49_30 {d : Nat} {Q : wQ} {L : List (Option Value)} {st : List Value} {w : aw} {cn sn : Nat} {x : Int32} {a : Nat} : wp d 49 Q 30 L (.int x :: .ref a :: st) w cn sn = (kd w a = 5 ∧ wp d 49 Q 33 L st (uF w 258 a (.int x)) cn sn) := w_putfield d_49_30 (by decide +kernel : fT (mO 49) 52 = some (4, 2)) (by decide +kernel) ok_int
theorem d_49_33 : decode (mB 49) 33 = .ok (.return_, 1) := by decide +kernel
theorem s_49_33 {d : Nat} {Q : wQ} {L : List (Option Value)} {w : aw} {cn sn : Nat}  : wp d 49 Q 33 L [] w cn sn = Q none w := w_return d_49_33 rfl
theorem d_50_0 : decode (mB 50) 0 = .ok (.aload_n 0, 1) := by decide +kernel
theorem s_50_0 {d : Nat} {Q : wQ} {L : List (Option Value)} {st : List Value} {w : aw} {cn sn : Nat} {v : Nat} : wp d 50 Q 0 (some (.ref v) :: L) st w cn sn = wp d 50 Q 1 (some (.ref v) :: L) (.ref v :: st) w cn sn := w_aload_n d_50_0 rfl
theorem d_50_1 : decode (mB 50) 1 = .ok (.aload_n 0, 1) := by decide +kernel
theorem s_50_1 {d : Nat} {Q : wQ} {L : List (Option Value)} {st : List Value} {w : aw} {cn sn : Nat} {v : Nat} : wp d 50 Q 1 (some (.ref v) :: L) st w cn sn = wp d 50 Q 2 (some (.ref v) :: L) (.ref v :: st) w cn sn := w_aload_n d_50_1 rfl
theorem d_50_2 : decode (mB 50) 2 = .ok (.getfield 52, 3) := by decide +kernel
theorem s_50_2 {d : Nat} {Q : wQ} {L : List (Option Value)} {st : List Value} {w : aw} {cn sn : Nat} {a : Nat} : wp d 50 Q 2 L (.ref a :: st) w cn sn = (kd w a = 5 ∧ wp d 50 Q 5 L (fd w 258 a :: st) w cn sn) := w_getfield d_50_2 (by decide +kernel : fT (mO 50) 52 = some (4, 2))
theorem d_50_5 : decode (mB 50) 5 = .ok (.invokevirtual 32, 3) := by decide +kernel
theorem s_50_5 {d : Nat} {Q : wQ} {L : List (Option Value)} {st : List Value} {w : aw} {cn sn : Nat} {v0 : Value} {b : Nat} : wp d 50 Q 5 L (v0 :: .ref b :: st) w cn sn = (kd w b = 5 ∧ catS st ≤ 8 ∧ wpD d 37 [.ref b, v0] w (fun v w' => wp d 50 Q 8 L (v.toList ++ st) w' cn sn)) := w_virtual (As := [v0]) d_50_5 (by decide +kernel : cT (mO 50) 32 = some (0, 37)) rfl (by decide +kernel) rfl (by decide +kernel) rfl
theorem d_50_8 : decode (mB 50) 8 = .ok (.bipush 45, 2) := by decide +kernel
theorem s_50_8 {d : Nat} {Q : wQ} {L : List (Option Value)} {st : List Value} {w : aw} {cn sn : Nat}  : wp d 50 Q 8 L st w cn sn = wp d 50 Q 10 L (.int 45 :: st) w cn sn := w_bipush d_50_8 (by decide)
theorem d_50_10 : decode (mB 50) 10 = .ok (.if_icmp .ne 7, 3) := by decide +kernel
theorem s_50_10 {d : Nat} {Q : wQ} {L : List (Option Value)} {st : List Value} {w : aw} {cn sn : Nat} {a b : Int32} : wp d 50 Q 10 L (.int b :: .int a :: st) w cn sn = ((¬ a = b → wp d 50 Q 17 L st w cn sn) ∧ (a = b → wp d 50 Q 13 L st w cn sn)) := w_icne d_50_10 (by decide)
theorem d_50_13 : decode (mB 50) 13 = .ok (.iconst 1, 1) := by decide +kernel
theorem s_50_13 {d : Nat} {Q : wQ} {L : List (Option Value)} {st : List Value} {w : aw} {cn sn : Nat}  : wp d 50 Q 13 L st w cn sn = wp d 50 Q 14 L (.int 1 :: st) w cn sn := w_iconst d_50_13 (by decide)
theorem d_50_14 : decode (mB 50) 14 = .ok (.goto 4, 3) := by decide +kernel
theorem s_50_14 {d : Nat} {Q : wQ} {L : List (Option Value)} {st : List Value} {w : aw} {cn sn : Nat}  : wp d 50 Q 14 L st w cn sn = wp d 50 Q 18 L st w cn sn := w_goto d_50_14 (by decide)
theorem d_50_17 : decode (mB 50) 17 = .ok (.iconst 0, 1) := by decide +kernel
theorem s_50_17 {d : Nat} {Q : wQ} {L : List (Option Value)} {st : List Value} {w : aw} {cn sn : Nat}  : wp d 50 Q 17 L st w cn sn = wp d 50 Q 18 L (.int 0 :: st) w cn sn := w_iconst d_50_17 (by decide)
theorem d_50_18 : decode (mB 50) 18 = .ok (.istore_n 1, 1) := by decide +kernel
theorem s_50_18 {d : Nat} {Q : wQ} {L : List (Option Value)} {st : List Value} {w : aw} {cn sn : Nat} {a0 a1 : Option Value} {v : Int32} : wp d 50 Q 18 (a0 :: a1 :: L) (.int v :: st) w cn sn = wp d 50 Q 19 (clr a0 :: some (.int v) :: L) st w cn sn := w_istore_n d_50_18 (Nat.le_add_left 2 _) rfl
theorem d_50_19 : decode (mB 50) 19 = .ok (.iload_n 1, 1) := by decide +kernel
theorem s_50_19 {d : Nat} {Q : wQ} {L : List (Option Value)} {st : List Value} {w : aw} {cn sn : Nat} {a0 : Option Value} {v : Int32} : wp d 50 Q 19 (a0 :: some (.int v) :: L) st w cn sn = wp d 50 Q 20 (a0 :: some (.int v) :: L) (.int v :: st) w cn sn := w_iload_n d_50_19 rfl
theorem d_50_20 : decode (mB 50) 20 = .ok (.ifCond .eq 13, 3) := by decide +kernel
theorem s_50_20 {d : Nat} {Q : wQ} {L : List (Option Value)} {st : List Value} {w : aw} {cn sn : Nat} {x : Int32} : wp d 50 Q 20 L (.int x :: st) w cn sn = ((x = 0 → wp d 50 Q 33 L st w cn sn) ∧ (¬ x = 0 → wp d 50 Q 23 L st w cn sn)) := w_ifeq d_50_20 (by decide)
theorem d_50_23 : decode (mB 50) 23 = .ok (.aload_n 0, 1) := by decide +kernel
theorem s_50_23 {d : Nat} {Q : wQ} {L : List (Option Value)} {st : List Value} {w : aw} {cn sn : Nat} {v : Nat} : wp d 50 Q 23 (some (.ref v) :: L) st w cn sn = wp d 50 Q 24 (some (.ref v) :: L) (.ref v :: st) w cn sn := w_aload_n d_50_23 rfl
theorem d_50_24 : decode (mB 50) 24 = .ok (.dup, 1) := by decide +kernel
theorem s_50_24 {d : Nat} {Q : wQ} {L : List (Option Value)} {st : List Value} {w : aw} {cn sn : Nat} {v : Value} : wp d 50 Q 24 L (v :: st) w cn sn = (v.category = 1 ∧ wp d 50 Q 25 L (v :: v :: st) w cn sn) := wp_row d_50_24 _ _ _ _ _
theorem d_50_25 : decode (mB 50) 25 = .ok (.getfield 52, 3) := by decide +kernel
theorem s_50_25 {d : Nat} {Q : wQ} {L : List (Option Value)} {st : List Value} {w : aw} {cn sn : Nat} {a : Nat} : wp d 50 Q 25 L (.ref a :: st) w cn sn = (kd w a = 5 ∧ wp d 50 Q 28 L (fd w 258 a :: st) w cn sn) := w_getfield d_50_25 (by decide +kernel : fT (mO 50) 52 = some (4, 2))
theorem d_50_28 : decode (mB 50) 28 = .ok (.iconst 1, 1) := by decide +kernel
theorem s_50_28 {d : Nat} {Q : wQ} {L : List (Option Value)} {st : List Value} {w : aw} {cn sn : Nat}  : wp d 50 Q 28 L st w cn sn = wp d 50 Q 29 L (.int 1 :: st) w cn sn := w_iconst d_50_28 (by decide)
theorem d_50_29 : decode (mB 50) 29 = .ok (.iadd, 1) := by decide +kernel
theorem s_50_29 {d : Nat} {Q : wQ} {L : List (Option Value)} {st : List Value} {w : aw} {cn sn : Nat} {a b : Int32} : wp d 50 Q 29 L (.int b :: .int a :: st) w cn sn = wp d 50 Q 30 L (.int (a + b) :: st) w cn sn := wp_row d_50_29 _ _ _ _ _
theorem d_50_30 : decode (mB 50) 30 = .ok (.putfield 52, 3) := by decide +kernel
theorem s_50_30 {d : Nat} {Q : wQ} {L : List (Option Value)} {st : List Value} {w : aw} {cn sn : Nat} {x : Int32} {a : Nat} : wp d 50 Q 30 L (.int x :: .ref a :: st) w cn sn = (kd w a = 5 ∧ wp d 50 Q 33 L st (uF w 258 a (.int x)) cn sn) := w_putfield d_50_30 (by decide +kernel : fT (mO 50) 52 = some (4, 2)) (by decide +kernel) ok_int
theorem d_50_33 : decode (mB 50) 33 = .ok (.iconst 0, 1) := by decide +kernel
theorem s_50_33 {d : Nat} {Q : wQ} {L : List (Option Value)} {st : List Value} {w : aw} {cn sn : Nat}  : wp d 50 Q 33 L st w cn sn = wp d 50 Q 34 L (.int 0 :: st) w cn sn := w_iconst d_50_33 (by decide)
theorem d_50_34 : decode (mB 50) 34 = .ok (.istore_n 2, 1) := by decide +kernel
theorem s_50_34 {d : Nat} {Q : wQ} {L : List (Option Value)} {st : List Value} {w : aw} {cn sn : Nat} {a0 a1 a2 : Option Value} {v : Int32} : wp d 50 Q 34 (a0 :: a1 :: a2 :: L) (.int v :: st) w cn sn = wp d 50 Q 35 (a0 :: clr a1 :: some (.int v) :: L) st w cn sn := w_istore_n d_50_34 (Nat.le_add_left 3 _) rfl
theorem d_50_35 : decode (mB 50) 35 = .ok (.aload_n 0, 1) := by decide +kernel
theorem s_50_35 {d : Nat} {Q : wQ} {L : List (Option Value)} {st : List Value} {w : aw} {cn sn : Nat} {v : Nat} : wp d 50 Q 35 (some (.ref v) :: L) st w cn sn = wp d 50 Q 36 (some (.ref v) :: L) (.ref v :: st) w cn sn := w_aload_n d_50_35 rfl
theorem d_50_36 : decode (mB 50) 36 = .ok (.getfield 52, 3) := by decide +kernel
theorem s_50_36 {d : Nat} {Q : wQ} {L : List (Option Value)} {st : List Value} {w : aw} {cn sn : Nat} {a : Nat} : wp d 50 Q 36 L (.ref a :: st) w cn sn = (kd w a = 5 ∧ wp d 50 Q 39 L (fd w 258 a :: st) w cn sn) := w_getfield d_50_36 (by decide +kernel : fT (mO 50) 52 = some (4, 2))
theorem d_50_39 : decode (mB 50) 39 = .ok (.istore_n 3, 1) := by decide +kernel
theorem s_50_39 {d : Nat} {Q : wQ} {L : List (Option Value)} {st : List Value} {w : aw} {cn sn : Nat} {a0 a1 a2 a3 : Option Value} {v : Int32} : wp d 50 Q 39 (a0 :: a1 :: a2 :: a3 :: L) (.int v :: st) w cn sn = wp d 50 Q 40 (a0 :: a1 :: clr a2 :: some (.int v) :: L) st w cn sn := w_istore_n d_50_39 (Nat.le_add_left 4 _) rfl
theorem d_50_40 : decode (mB 50) 40 = .ok (.iload_n 3, 1) := by decide +kernel
theorem s_50_40 {d : Nat} {Q : wQ} {L : List (Option Value)} {st : List Value} {w : aw} {cn sn : Nat} {a0 a1 a2 : Option Value} {v : Int32} : wp d 50 Q 40 (a0 :: a1 :: a2 :: some (.int v) :: L) st w cn sn = wp d 50 Q 41 (a0 :: a1 :: a2 :: some (.int v) :: L) (.int v :: st) w cn sn := w_iload_n d_50_40 rfl
theorem d_50_41 : decode (mB 50) 41 = .ok (.aload_n 0, 1) := by decide +kernel
theorem s_50_41 {d : Nat} {Q : wQ} {L : List (Option Value)} {st : List Value} {w : aw} {cn sn : Nat} {v : Nat} : wp d 50 Q 41 (some (.ref v) :: L) st w cn sn = wp d 50 Q 42 (some (.ref v) :: L) (.ref v :: st) w cn sn := w_aload_n d_50_41 rfl
theorem d_50_42 : decode (mB 50) 42 = .ok (.getfield 19, 3) := by decide +kernel
theorem s_50_42 {d : Nat} {Q : wQ} {L : List (Option Value)} {st : List Value} {w : aw} {cn sn : Nat} {a : Nat} : wp d 50 Q 42 L (.ref a :: st) w cn sn = (kd w a = 5 ∧ wp d 50 Q 45 L (fd w 259 a :: st) w cn sn) := w_getfield d_50_42 (by decide +kernel : fT (mO 50) 19 = some (4, 3))
theorem d_50_45 : decode (mB 50) 45 = .ok (.if_icmp .gt 92, 3) := by decide +kernel
theorem s_50_45 {d : Nat} {Q : wQ} {L : List (Option Value)} {st : List Value} {w : aw} {cn sn : Nat} {a b : Int32} : wp d 50 Q 45 L (.int b :: .int a :: st) w cn sn = ((b < a → wp d 50 Q 137 L st w cn sn) ∧ (¬ b < a → wp d 50 Q 48 L st w cn sn)) := w_icgt d_50_45 (by decide)
theorem d_50_48 : decode (mB 50) 48 = .ok (.aload_n 0, 1) := by decide +kernel
theorem s_50_48 {d : Nat} {Q : wQ} {L : List (Option Value)} {st : List Value} {w : aw} {cn sn : Nat} {v : Nat} : wp d 50 Q 48 (some (.ref v) :: L) st w cn sn = wp d 50 Q 49 (some (.ref v) :: L) (.ref v :: st) w cn sn := w_aload_n d_50_48 rfl
theorem d_50_49 : decode (mB 50) 49 = .ok (.invokevirtual 112, 3) := by decide +kernel
theorem s_50_49 {d : Nat} {Q : wQ} {L : List (Option Value)} {st : List Value} {w : aw} {cn sn : Nat} {b : Nat} : wp d 50 Q 49 L (.ref b :: st) w cn sn = (kd w b = 5 ∧ catS st ≤ 8 ∧ wpD d 51 [.ref b] w (fun v w' => wp d 50 Q 52 L (v.toList ++ st) w' cn sn)) := w_virtual (As := []) d_50_49 (by decide +kernel : cT (mO 50) 112 = some (0, 51)) rfl (by decide +kernel) rfl (by decide +kernel) rfl
theorem d_50_52 : decode (mB 50) 52 = .ok (.istore 4, 2) := by decide +kernel
theorem s_50_52 {d : Nat} {Q : wQ} {L : List (Option Value)} {st : List Value} {w : aw} {cn sn : Nat} {a0 a1 a2 a3 a4 : Option Value} {v : Int32} : wp d 50 Q 52 (a0 :: a1 :: a2 :: a3 :: a4 :: L) (.int v :: st) w cn sn = wp d 50 Q 54 (a0 :: a1 :: a2 :: clr a3 :: some (.int v) :: L) st w cn sn := w_istore d_50_52 (Nat.le_add_left 5 _) rfl
theorem d_50_54 : decode (mB 50) 54 = .ok (.iload_n 1, 1) := by decide +kernel
theorem s_50_54 {d : Nat} {Q : wQ} {L : List (Option Value)} {st : List Value} {w : aw} {cn sn : Nat} {a0 : Option Value} {v : Int32} : wp d 50 Q 54 (a0 :: some (.int v) :: L) st w cn sn = wp d 50 Q 55 (a0 :: some (.int v) :: L) (.int v :: st) w cn sn := w_iload_n d_50_54 rfl
theorem d_50_55 : decode (mB 50) 55 = .ok (.ifCond .eq 10, 3) := by decide +kernel
theorem s_50_55 {d : Nat} {Q : wQ} {L : List (Option Value)} {st : List Value} {w : aw} {cn sn : Nat} {x : Int32} : wp d 50 Q 55 L (.int x :: st) w cn sn = ((x = 0 → wp d 50 Q 65 L st w cn sn) ∧ (¬ x = 0 → wp d 50 Q 58 L st w cn sn)) := w_ifeq d_50_55 (by decide)
theorem d_50_58 : decode (mB 50) 58 = .ok (.iload_n 2, 1) := by decide +kernel
theorem s_50_58 {d : Nat} {Q : wQ} {L : List (Option Value)} {st : List Value} {w : aw} {cn sn : Nat} {a0 a1 : Option Value} {v : Int32} : wp d 50 Q 58 (a0 :: a1 :: some (.int v) :: L) st w cn sn = wp d 50 Q 59 (a0 :: a1 :: some (.int v) :: L) (.int v :: st) w cn sn := w_iload_n d_50_58 rfl
theorem d_50_59 : decode (mB 50) 59 = .ok (.iload 4, 2) := by decide +kernel
theorem s_50_59 {d : Nat} {Q : wQ} {L : List (Option Value)} {st : List Value} {w : aw} {cn sn : Nat} {a0 a1 a2 a3 : Option Value} {v : Int32} : wp d 50 Q 59 (a0 :: a1 :: a2 :: a3 :: some (.int v) :: L) st w cn sn = wp d 50 Q 61 (a0 :: a1 :: a2 :: a3 :: some (.int v) :: L) (.int v :: st) w cn sn := w_iload d_50_59 rfl
theorem d_50_61 : decode (mB 50) 61 = .ok (.isub, 1) := by decide +kernel
theorem s_50_61 {d : Nat} {Q : wQ} {L : List (Option Value)} {st : List Value} {w : aw} {cn sn : Nat} {a b : Int32} : wp d 50 Q 61 L (.int b :: .int a :: st) w cn sn = wp d 50 Q 62 L (.int (a - b) :: st) w cn sn := wp_row d_50_61 _ _ _ _ _
theorem d_50_62 : decode (mB 50) 62 = .ok (.goto 7, 3) := by decide +kernel
theorem s_50_62 {d : Nat} {Q : wQ} {L : List (Option Value)} {st : List Value} {w : aw} {cn sn : Nat}  : wp d 50 Q 62 L st w cn sn = wp d 50 Q 69 L st w cn sn := w_goto d_50_62 (by decide)
theorem d_50_65 : decode (mB 50) 65 = .ok (.iload_n 2, 1) := by decide +kernel
theorem s_50_65 {d : Nat} {Q : wQ} {L : List (Option Value)} {st : List Value} {w : aw} {cn sn : Nat} {a0 a1 : Option Value} {v : Int32} : wp d 50 Q 65 (a0 :: a1 :: some (.int v) :: L) st w cn sn = wp d 50 Q 66 (a0 :: a1 :: some (.int v) :: L) (.int v :: st) w cn sn := w_iload_n d_50_65 rfl
theorem d_50_66 : decode (mB 50) 66 = .ok (.iload 4, 2) := by decide +kernel
theorem s_50_66 {d : Nat} {Q : wQ} {L : List (Option Value)} {st : List Value} {w : aw} {cn sn : Nat} {a0 a1 a2 a3 : Option Value} {v : Int32} : wp d 50 Q 66 (a0 :: a1 :: a2 :: a3 :: some (.int v) :: L) st w cn sn = wp d 50 Q 68 (a0 :: a1 :: a2 :: a3 :: some (.int v) :: L) (.int v :: st) w cn sn := w_iload d_50_66 rfl
theorem d_50_68 : decode (mB 50) 68 = .ok (.iadd, 1) := by decide +kernel
theorem s_50_68 {d : Nat} {Q : wQ} {L : List (Option Value)} {st : List Value} {w : aw} {cn sn : Nat} {a b : Int32} : wp d 50 Q 68 L (.int b :: .int a :: st) w cn sn = wp d 50 Q 69 L (.int (a + b) :: st) w cn sn := wp_row d_50_68 _ _ _ _ _
theorem d_50_69 : decode (mB 50) 69 = .ok (.sipush 4095, 3) := by decide +kernel
theorem s_50_69 {d : Nat} {Q : wQ} {L : List (Option Value)} {st : List Value} {w : aw} {cn sn : Nat}  : wp d 50 Q 69 L st w cn sn = wp d 50 Q 72 L (.int 4095 :: st) w cn sn := w_sipush d_50_69 (by decide)
theorem d_50_72 : decode (mB 50) 72 = .ok (.iand, 1) := by decide +kernel
theorem s_50_72 {d : Nat} {Q : wQ} {L : List (Option Value)} {st : List Value} {w : aw} {cn sn : Nat} {a b : Int32} : wp d 50 Q 72 L (.int b :: .int a :: st) w cn sn = wp d 50 Q 73 L (.int (a &&& b) :: st) w cn sn := wp_row d_50_72 _ _ _ _ _
theorem d_50_73 : decode (mB 50) 73 = .ok (.istore_n 2, 1) := by decide +kernel
theorem s_50_73 {d : Nat} {Q : wQ} {L : List (Option Value)} {st : List Value} {w : aw} {cn sn : Nat} {a0 a1 a2 : Option Value} {v : Int32} : wp d 50 Q 73 (a0 :: a1 :: a2 :: L) (.int v :: st) w cn sn = wp d 50 Q 74 (a0 :: clr a1 :: some (.int v) :: L) st w cn sn := w_istore_n d_50_73 (Nat.le_add_left 3 _) rfl
theorem d_50_74 : decode (mB 50) 74 = .ok (.aload_n 0, 1) := by decide +kernel
theorem s_50_74 {d : Nat} {Q : wQ} {L : List (Option Value)} {st : List Value} {w : aw} {cn sn : Nat} {v : Nat} : wp d 50 Q 74 (some (.ref v) :: L) st w cn sn = wp d 50 Q 75 (some (.ref v) :: L) (.ref v :: st) w cn sn := w_aload_n d_50_74 rfl
theorem d_50_75 : decode (mB 50) 75 = .ok (.aload_n 0, 1) := by decide +kernel
theorem s_50_75 {d : Nat} {Q : wQ} {L : List (Option Value)} {st : List Value} {w : aw} {cn sn : Nat} {v : Nat} : wp d 50 Q 75 (some (.ref v) :: L) st w cn sn = wp d 50 Q 76 (some (.ref v) :: L) (.ref v :: st) w cn sn := w_aload_n d_50_75 rfl
theorem d_50_76 : decode (mB 50) 76 = .ok (.getfield 52, 3) := by decide +kernel
theorem s_50_76 {d : Nat} {Q : wQ} {L : List (Option Value)} {st : List Value} {w : aw} {cn sn : Nat} {a : Nat} : wp d 50 Q 76 L (.ref a :: st) w cn sn = (kd w a = 5 ∧ wp d 50 Q 79 L (fd w 258 a :: st) w cn sn) := w_getfield d_50_76 (by decide +kernel : fT (mO 50) 52 = some (4, 2))
theorem d_50_79 : decode (mB 50) 79 = .ok (.invokevirtual 32, 3) := by decide +kernel
theorem s_50_79 {d : Nat} {Q : wQ} {L : List (Option Value)} {st : List Value} {w : aw} {cn sn : Nat} {v0 : Value} {b : Nat} : wp d 50 Q 79 L (v0 :: .ref b :: st) w cn sn = (kd w b = 5 ∧ catS st ≤ 8 ∧ wpD d 37 [.ref b, v0] w (fun v w' => wp d 50 Q 82 L (v.toList ++ st) w' cn sn)) := w_virtual (As := [v0]) d_50_79 (by decide +kernel : cT (mO 50) 32 = some (0, 37)) rfl (by decide +kernel) rfl (by decide +kernel) rfl
theorem d_50_82 : decode (mB 50) 82 = .ok (.istore 5, 2) := by decide +kernel
theorem s_50_82 {d : Nat} {Q : wQ} {L : List (Option Value)} {st : List Value} {w : aw} {cn sn : Nat} {a0 a1 a2 a3 a4 a5 : Option Value} {v : Int32} : wp d 50 Q 82 (a0 :: a1 :: a2 :: a3 :: a4 :: a5 :: L) (.int v :: st) w cn sn = wp d 50 Q 84 (a0 :: a1 :: a2 :: a3 :: clr a4 :: some (.int v) :: L) st w cn sn := w_istore d_50_82 (Nat.le_add_left 6 _) rfl
theorem d_50_84 : decode (mB 50) 84 = .ok (.aload_n 0, 1) := by decide +kernel
theorem s_50_84 {d : Nat} {Q : wQ} {L : List (Option Value)} {st : List Value} {w : aw} {cn sn : Nat} {v : Nat} : wp d 50 Q 84 (some (.ref v) :: L) st w cn sn = wp d 50 Q 85 (some (.ref v) :: L) (.ref v :: st) w cn sn := w_aload_n d_50_84 rfl
theorem d_50_85 : decode (mB 50) 85 = .ok (.getfield 79, 3) := by decide +kernel
theorem s_50_85 {d : Nat} {Q : wQ} {L : List (Option Value)} {st : List Value} {w : aw} {cn sn : Nat} {a : Nat} : wp d 50 Q 85 L (.ref a :: st) w cn sn = (kd w a = 5 ∧ wp d 50 Q 88 L (fd w 267 a :: st) w cn sn) := w_getfield d_50_85 (by decide +kernel : fT (mO 50) 79 = some (4, 11))
theorem d_50_88 : decode (mB 50) 88 = .ok (.ifCond .ne 49, 3) := by decide +kernel
theorem s_50_88 {d : Nat} {Q : wQ} {L : List (Option Value)} {st : List Value} {w : aw} {cn sn : Nat} {x : Int32} : wp d 50 Q 88 L (.int x :: st) w cn sn = ((¬ x = 0 → wp d 50 Q 137 L st w cn sn) ∧ (x = 0 → wp d 50 Q 91 L st w cn sn)) := w_ifne d_50_88 (by decide)
theorem d_50_91 : decode (mB 50) 91 = .ok (.iload 5, 2) := by decide +kernel
theorem s_50_91 {d : Nat} {Q : wQ} {L : List (Option Value)} {st : List Value} {w : aw} {cn sn : Nat} {a0 a1 a2 a3 a4 : Option Value} {v : Int32} : wp d 50 Q 91 (a0 :: a1 :: a2 :: a3 :: a4 :: some (.int v) :: L) st w cn sn = wp d 50 Q 93 (a0 :: a1 :: a2 :: a3 :: a4 :: some (.int v) :: L) (.int v :: st) w cn sn := w_iload d_50_91 rfl
theorem d_50_93 : decode (mB 50) 93 = .ok (.bipush 43, 2) := by decide +kernel
theorem s_50_93 {d : Nat} {Q : wQ} {L : List (Option Value)} {st : List Value} {w : aw} {cn sn : Nat}  : wp d 50 Q 93 L st w cn sn = wp d 50 Q 95 L (.int 43 :: st) w cn sn := w_bipush d_50_93 (by decide)
theorem d_50_95 : decode (mB 50) 95 = .ok (.if_icmp .eq 13, 3) := by decide +kernel
theorem s_50_95 {d : Nat} {Q : wQ} {L : List (Option Value)} {st : List Value} {w : aw} {cn sn : Nat} {a b : Int32} : wp d 50 Q 95 L (.int b :: .int a :: st) w cn sn = ((a = b → wp d 50 Q 108 L st w cn sn) ∧ (¬ a = b → wp d 50 Q 98 L st w cn sn)) := w_iceq d_50_95 (by decide)
theorem d_50_98 : decode (mB 50) 98 = .ok (.iload 5, 2) := by decide +kernel
theorem s_50_98 {d : Nat} {Q : wQ} {L : List (Option Value)} {st : List Value} {w : aw} {cn sn : Nat} {a0 a1 a2 a3 a4 : Option Value} {v : Int32} : wp d 50 Q 98 (a0 :: a1 :: a2 :: a3 :: a4 :: some (.int v) :: L) st w cn sn = wp d 50 Q 100 (a0 :: a1 :: a2 :: a3 :: a4 :: some (.int v) :: L) (.int v :: st) w cn sn := w_iload d_50_98 rfl
theorem d_50_100 : decode (mB 50) 100 = .ok (.bipush 45, 2) := by decide +kernel
theorem s_50_100 {d : Nat} {Q : wQ} {L : List (Option Value)} {st : List Value} {w : aw} {cn sn : Nat}  : wp d 50 Q 100 L st w cn sn = wp d 50 Q 102 L (.int 45 :: st) w cn sn := w_bipush d_50_100 (by decide)
theorem d_50_102 : decode (mB 50) 102 = .ok (.if_icmp .eq 6, 3) := by decide +kernel
theorem s_50_102 {d : Nat} {Q : wQ} {L : List (Option Value)} {st : List Value} {w : aw} {cn sn : Nat} {a b : Int32} : wp d 50 Q 102 L (.int b :: .int a :: st) w cn sn = ((a = b → wp d 50 Q 108 L st w cn sn) ∧ (¬ a = b → wp d 50 Q 105 L st w cn sn)) := w_iceq d_50_102 (by decide)
theorem d_50_105 : decode (mB 50) 105 = .ok (.goto 32, 3) := by decide +kernel
theorem s_50_105 {d : Nat} {Q : wQ} {L : List (Option Value)} {st : List Value} {w : aw} {cn sn : Nat}  : wp d 50 Q 105 L st w cn sn = wp d 50 Q 137 L st w cn sn := w_goto d_50_105 (by decide)
theorem d_50_108 : decode (mB 50) 108 = .ok (.iload 5, 2) := by decide +kernel
theorem s_50_108 {d : Nat} {Q : wQ} {L : List (Option Value)} {st : List Value} {w : aw} {cn sn : Nat} {a0 a1 a2 a3 a4 : Option Value} {v : Int32} : wp d 50 Q 108 (a0 :: a1 :: a2 :: a3 :: a4 :: some (.int v) :: L) st w cn sn = wp d 50 Q 110 (a0 :: a1 :: a2 :: a3 :: a4 :: some (.int v) :: L) (.int v :: st) w cn sn := w_iload d_50_108 rfl
theorem d_50_110 : decode (mB 50) 110 = .ok (.bipush 45, 2) := by decide +kernel
theorem s_50_110 {d : Nat} {Q : wQ} {L : List (Option Value)} {st : List Value} {w : aw} {cn sn : Nat}  : wp d 50 Q 110 L st w cn sn = wp d 50 Q 112 L (.int 45 :: st) w cn sn := w_bipush d_50_110 (by decide)
theorem d_50_112 : decode (mB 50) 112 = .ok (.if_icmp .ne 7, 3) := by decide +kernel
theorem s_50_112 {d : Nat} {Q : wQ} {L : List (Option Value)} {st : List Value} {w : aw} {cn sn : Nat} {a b : Int32} : wp d 50 Q 112 L (.int b :: .int a :: st) w cn sn = ((¬ a = b → wp d 50 Q 119 L st w cn sn) ∧ (a = b → wp d 50 Q 115 L st w cn sn)) := w_icne d_50_112 (by decide)
theorem d_50_115 : decode (mB 50) 115 = .ok (.iconst 1, 1) := by decide +kernel
theorem s_50_115 {d : Nat} {Q : wQ} {L : List (Option Value)} {st : List Value} {w : aw} {cn sn : Nat}  : wp d 50 Q 115 L st w cn sn = wp d 50 Q 116 L (.int 1 :: st) w cn sn := w_iconst d_50_115 (by decide)
theorem d_50_116 : decode (mB 50) 116 = .ok (.goto 4, 3) := by decide +kernel
theorem s_50_116 {d : Nat} {Q : wQ} {L : List (Option Value)} {st : List Value} {w : aw} {cn sn : Nat}  : wp d 50 Q 116 L st w cn sn = wp d 50 Q 120 L st w cn sn := w_goto d_50_116 (by decide)
theorem d_50_119 : decode (mB 50) 119 = .ok (.iconst 0, 1) := by decide +kernel
theorem s_50_119 {d : Nat} {Q : wQ} {L : List (Option Value)} {st : List Value} {w : aw} {cn sn : Nat}  : wp d 50 Q 119 L st w cn sn = wp d 50 Q 120 L (.int 0 :: st) w cn sn := w_iconst d_50_119 (by decide)
theorem d_50_120 : decode (mB 50) 120 = .ok (.istore_n 1, 1) := by decide +kernel
theorem s_50_120 {d : Nat} {Q : wQ} {L : List (Option Value)} {st : List Value} {w : aw} {cn sn : Nat} {a0 a1 : Option Value} {v : Int32} : wp d 50 Q 120 (a0 :: a1 :: L) (.int v :: st) w cn sn = wp d 50 Q 121 (clr a0 :: some (.int v) :: L) st w cn sn := w_istore_n d_50_120 (Nat.le_add_left 2 _) rfl
theorem d_50_121 : decode (mB 50) 121 = .ok (.aload_n 0, 1) := by decide +kernel
theorem s_50_121 {d : Nat} {Q : wQ} {L : List (Option Value)} {st : List Value} {w : aw} {cn sn : Nat} {v : Nat} : wp d 50 Q 121 (some (.ref v) :: L) st w cn sn = wp d 50 Q 122 (some (.ref v) :: L) (.ref v :: st) w cn sn := w_aload_n d_50_121 rfl
theorem d_50_122 : decode (mB 50) 122 = .ok (.dup, 1) := by decide +kernel
theorem s_50_122 {d : Nat} {Q : wQ} {L : List (Option Value)} {st : List Value} {w : aw} {cn sn : Nat} {v : Value} : wp d 50 Q 122 L (v :: st) w cn sn = (v.category = 1 ∧ wp d 50 Q 123 L (v :: v :: st) w cn sn) := wp_row d_50_122 _ _ _ _ _
theorem d_50_123 : decode (mB 50) 123 = .ok (.getfield 52, 3) := by decide +kernel
theorem s_50_123 {d : Nat} {Q : wQ} {L : List (Option Value)} {st : List Value} {w : aw} {cn sn : Nat} {a : Nat} : wp d 50 Q 123 L (.ref a :: st) w cn sn = (kd w a = 5 ∧ wp d 50 Q 126 L (fd w 258 a :: st) w cn sn) := w_getfield d_50_123 (by decide +kernel : fT (mO 50) 52 = some (4, 2))
theorem d_50_126 : decode (mB 50) 126 = .ok (.iconst 1, 1) := by decide +kernel
theorem s_50_126 {d : Nat} {Q : wQ} {L : List (Option Value)} {st : List Value} {w : aw} {cn sn : Nat}  : wp d 50 Q 126 L st w cn sn = wp d 50 Q 127 L (.int 1 :: st) w cn sn := w_iconst d_50_126 (by decide)
theorem d_50_127 : decode (mB 50) 127 = .ok (.iadd, 1) := by decide +kernel
theorem s_50_127 {d : Nat} {Q : wQ} {L : List (Option Value)} {st : List Value} {w : aw} {cn sn : Nat} {a b : Int32} : wp d 50 Q 127 L (.int b :: .int a :: st) w cn sn = wp d 50 Q 128 L (.int (a + b) :: st) w cn sn := wp_row d_50_127 _ _ _ _ _
theorem d_50_128 : decode (mB 50) 128 = .ok (.putfield 52, 3) := by decide +kernel
theorem s_50_128 {d : Nat} {Q : wQ} {L : List (Option Value)} {st : List Value} {w : aw} {cn sn : Nat} {x : Int32} {a : Nat} : wp d 50 Q 128 L (.int x :: .ref a :: st) w cn sn = (kd w a = 5 ∧ wp d 50 Q 131 L st (uF w 258 a (.int x)) cn sn) := w_putfield d_50_128 (by decide +kernel : fT (mO 50) 52 = some (4, 2)) (by decide +kernel) ok_int
theorem d_50_131 : decode (mB 50) 131 = .ok (.iinc 3 1, 3) := by decide +kernel
theorem s_50_131 {d : Nat} {Q : wQ} {L : List (Option Value)} {st : List Value} {w : aw} {cn sn : Nat} {a0 a1 a2 : Option Value} {v : Int32} : wp d 50 Q 131 (a0 :: a1 :: a2 :: some (.int v) :: L) st w cn sn = wp d 50 Q 134 (a0 :: a1 :: clr a2 :: some (.int (v + 1)) :: L) st w cn sn := w_iinc d_50_131 rfl (by decide) rfl
theorem d_50_134 : decode (mB 50) 134 = .ok (.goto (-94), 3) := by decide +kernel
theorem s_50_134 {d : Nat} {Q : wQ} {L : List (Option Value)} {st : List Value} {w : aw} {cn sn : Nat}  : wp d 50 Q 134 L st w cn sn = wp d 50 Q 40 L st w cn sn := w_goto d_50_134 (by decide)
theorem d_50_137 : decode (mB 50) 137 = .ok (.iload_n 2, 1) := by decide +kernel
theorem s_50_137 {d : Nat} {Q : wQ} {L : List (Option Value)} {st : List Value} {w : aw} {cn sn : Nat} {a0 a1 : Option Value} {v : Int32} : wp d 50 Q 137 (a0 :: a1 :: some (.int v) :: L) st w cn sn = wp d 50 Q 138 (a0 :: a1 :: some (.int v) :: L) (.int v :: st) w cn sn := w_iload_n d_50_137 rfl
theorem d_50_138 : decode (mB 50) 138 = .ok (.ireturn, 1) := by decide +kernel
theorem s_50_138 {d : Nat} {Q : wQ} {L : List (Option Value)} {w : aw} {cn sn : Nat} {v : Int32} : wp d 50 Q 138 L [.int v] w cn sn = Q (some (.int v)) w := w_ireturn d_50_138 rfl
theorem d_51_0 : decode (mB 51) 0 = .ok (.aload_n 0, 1) := by decide +kernel
theorem s_51_0 {d : Nat} {Q : wQ} {L : List (Option Value)} {st : List Value} {w : aw} {cn sn : Nat} {v : Nat} : wp d 51 Q 0 (some (.ref v) :: L) st w cn sn = wp d 51 Q 1 (some (.ref v) :: L) (.ref v :: st) w cn sn := w_aload_n d_51_0 rfl
theorem d_51_1 : decode (mB 51) 1 = .ok (.aload_n 0, 1) := by decide +kernel
theorem s_51_1 {d : Nat} {Q : wQ} {L : List (Option Value)} {st : List Value} {w : aw} {cn sn : Nat} {v : Nat} : wp d 51 Q 1 (some (.ref v) :: L) st w cn sn = wp d 51 Q 2 (some (.ref v) :: L) (.ref v :: st) w cn sn := w_aload_n d_51_1 rfl
theorem d_51_2 : decode (mB 51) 2 = .ok (.getfield 52, 3) := by decide +kernel
theorem s_51_2 {d : Nat} {Q : wQ} {L : List (Option Value)} {st : List Value} {w : aw} {cn sn : Nat} {a : Nat} : wp d 51 Q 2 L (.ref a :: st) w cn sn = (kd w a = 5 ∧ wp d 51 Q 5 L (fd w 258 a :: st) w cn sn) := w_getfield d_51_2 (by decide +kernel : fT (mO 51) 52 = some (4, 2))
theorem d_51_5 : decode (mB 51) 5 = .ok (.invokevirtual 32, 3) := by decide +kernel
theorem s_51_5 {d : Nat} {Q : wQ} {L : List (Option Value)} {st : List Value} {w : aw} {cn sn : Nat} {v0 : Value} {b : Nat} : wp d 51 Q 5 L (v0 :: .ref b :: st) w cn sn = (kd w b = 5 ∧ catS st ≤ 8 ∧ wpD d 37 [.ref b, v0] w (fun v w' => wp d 51 Q 8 L (v.toList ++ st) w' cn sn)) := w_virtual (As := [v0]) d_51_5 (by decide +kernel : cT (mO 51) 32 = some (0, 37)) rfl (by decide +kernel) rfl (by decide +kernel) rfl
theorem d_51_8 : decode (mB 51) 8 = .ok (.istore_n 1, 1) := by decide +kernel
theorem s_51_8 {d : Nat} {Q : wQ} {L : List (Option Value)} {st : List Value} {w : aw} {cn sn : Nat} {a0 a1 : Option Value} {v : Int32} : wp d 51 Q 8 (a0 :: a1 :: L) (.int v :: st) w cn sn = wp d 51 Q 9 (clr a0 :: some (.int v) :: L) st w cn sn := w_istore_n d_51_8 (Nat.le_add_left 2 _) rfl
theorem d_51_9 : decode (mB 51) 9 = .ok (.iload_n 1, 1) := by decide +kernel
theorem s_51_9 {d : Nat} {Q : wQ} {L : List (Option Value)} {st : List Value} {w : aw} {cn sn : Nat} {a0 : Option Value} {v : Int32} : wp d 51 Q 9 (a0 :: some (.int v) :: L) st w cn sn = wp d 51 Q 10 (a0 :: some (.int v) :: L) (.int v :: st) w cn sn := w_iload_n d_51_9 rfl
theorem d_51_10 : decode (mB 51) 10 = .ok (.bipush 46, 2) := by decide +kernel
theorem s_51_10 {d : Nat} {Q : wQ} {L : List (Option Value)} {st : List Value} {w : aw} {cn sn : Nat}  : wp d 51 Q 10 L st w cn sn = wp d 51 Q 12 L (.int 46 :: st) w cn sn := w_bipush d_51_10 (by decide)
theorem d_51_12 : decode (mB 51) 12 = .ok (.if_icmp .ne 18, 3) := by decide +kernel
theorem s_51_12 {d : Nat} {Q : wQ} {L : List (Option Value)} {st : List Value} {w : aw} {cn sn : Nat} {a b : Int32} : wp d 51 Q 12 L (.int b :: .int a :: st) w cn sn = ((¬ a = b → wp d 51 Q 30 L st w cn sn) ∧ (a = b → wp d 51 Q 15 L st w cn sn)) := w_icne d_51_12 (by decide)
theorem d_51_15 : decode (mB 51) 15 = .ok (.aload_n 0, 1) := by decide +kernel
theorem s_51_15 {d : Nat} {Q : wQ} {L : List (Option Value)} {st : List Value} {w : aw} {cn sn : Nat} {v : Nat} : wp d 51 Q 15 (some (.ref v) :: L) st w cn sn = wp d 51 Q 16 (some (.ref v) :: L) (.ref v :: st) w cn sn := w_aload_n d_51_15 rfl
theorem d_51_16 : decode (mB 51) 16 = .ok (.dup, 1) := by decide +kernel
theorem s_51_16 {d : Nat} {Q : wQ} {L : List (Option Value)} {st : List Value} {w : aw} {cn sn : Nat} {v : Value} : wp d 51 Q 16 L (v :: st) w cn sn = (v.category = 1 ∧ wp d 51 Q 17 L (v :: v :: st) w cn sn) := wp_row d_51_16 _ _ _ _ _
theorem d_51_17 : decode (mB 51) 17 = .ok (.getfield 52, 3) := by decide +kernel
theorem s_51_17 {d : Nat} {Q : wQ} {L : List (Option Value)} {st : List Value} {w : aw} {cn sn : Nat} {a : Nat} : wp d 51 Q 17 L (.ref a :: st) w cn sn = (kd w a = 5 ∧ wp d 51 Q 20 L (fd w 258 a :: st) w cn sn) := w_getfield d_51_17 (by decide +kernel : fT (mO 51) 52 = some (4, 2))
theorem d_51_20 : decode (mB 51) 20 = .ok (.iconst 1, 1) := by decide +kernel
theorem s_51_20 {d : Nat} {Q : wQ} {L : List (Option Value)} {st : List Value} {w : aw} {cn sn : Nat}  : wp d 51 Q 20 L st w cn sn = wp d 51 Q 21 L (.int 1 :: st) w cn sn := w_iconst d_51_20 (by decide)
theorem d_51_21 : decode (mB 51) 21 = .ok (.iadd, 1) := by decide +kernel
theorem s_51_21 {d : Nat} {Q : wQ} {L : List (Option Value)} {st : List Value} {w : aw} {cn sn : Nat} {a b : Int32} : wp d 51 Q 21 L (.int b :: .int a :: st) w cn sn = wp d 51 Q 22 L (.int (a + b) :: st) w cn sn := wp_row d_51_21 _ _ _ _ _
theorem d_51_22 : decode (mB 51) 22 = .ok (.putfield 52, 3) := by decide +kernel
theorem s_51_22 {d : Nat} {Q : wQ} {L : List (Option Value)} {st : List Value} {w : aw} {cn sn : Nat} {x : Int32} {a : Nat} : wp d 51 Q 22 L (.int x :: .ref a :: st) w cn sn = (kd w a = 5 ∧ wp d 51 Q 25 L st (uF w 258 a (.int x)) cn sn) := w_putfield d_51_22 (by decide +kernel : fT (mO 51) 52 = some (4, 2)) (by decide +kernel) ok_int
theorem d_51_25 : decode (mB 51) 25 = .ok (.aload_n 0, 1) := by decide +kernel
theorem s_51_25 {d : Nat} {Q : wQ} {L : List (Option Value)} {st : List Value} {w : aw} {cn sn : Nat} {v : Nat} : wp d 51 Q 25 (some (.ref v) :: L) st w cn sn = wp d 51 Q 26 (some (.ref v) :: L) (.ref v :: st) w cn sn := w_aload_n d_51_25 rfl
theorem d_51_26 : decode (mB 51) 26 = .ok (.getfield 66, 3) := by decide +kernel
theorem s_51_26 {d : Nat} {Q : wQ} {L : List (Option Value)} {st : List Value} {w : aw} {cn sn : Nat} {a : Nat} : wp d 51 Q 26 L (.ref a :: st) w cn sn = (kd w a = 5 ∧ wp d 51 Q 29 L (fd w 260 a :: st) w cn sn) := w_getfield d_51_26 (by decide +kernel : fT (mO 51) 66 = some (4, 4))
theorem d_51_29 : decode (mB 51) 29 = .ok (.ireturn, 1) := by decide +kernel
theorem s_51_29 {d : Nat} {Q : wQ} {L : List (Option Value)} {w : aw} {cn sn : Nat} {v : Int32} : wp d 51 Q 29 L [.int v] w cn sn = Q (some (.int v)) w := w_ireturn d_51_29 rfl
theorem d_51_30 : decode (mB 51) 30 = .ok (.aload_n 0, 1) := by decide +kernel
theorem s_51_30 {d : Nat} {Q : wQ} {L : List (Option Value)} {st : List Value} {w : aw} {cn sn : Nat} {v : Nat} : wp d 51 Q 30 (some (.ref v) :: L) st w cn sn = wp d 51 Q 31 (some (.ref v) :: L) (.ref v :: st) w cn sn := w_aload_n d_51_30 rfl
theorem d_51_31 : decode (mB 51) 31 = .ok (.aload_n 0, 1) := by decide +kernel
theorem s_51_31 {d : Nat} {Q : wQ} {L : List (Option Value)} {st : List Value} {w : aw} {cn sn : Nat} {v : Nat} : wp d 51 Q 31 (some (.ref v) :: L) st w cn sn = wp d 51 Q 32 (some (.ref v) :: L) (.ref v :: st) w cn sn := w_aload_n d_51_31 rfl
theorem d_51_32 : decode (mB 51) 32 = .ok (.getfield 52, 3) := by decide +kernel
theorem s_51_32 {d : Nat} {Q : wQ} {L : List (Option Value)} {st : List Value} {w : aw} {cn sn : Nat} {a : Nat} : wp d 51 Q 32 L (.ref a :: st) w cn sn = (kd w a = 5 ∧ wp d 51 Q 35 L (fd w 258 a :: st) w cn sn) := w_getfield d_51_32 (by decide +kernel : fT (mO 51) 52 = some (4, 2))
theorem d_51_35 : decode (mB 51) 35 = .ok (.invokevirtual 55, 3) := by decide +kernel
theorem s_51_35 {d : Nat} {Q : wQ} {L : List (Option Value)} {st : List Value} {w : aw} {cn sn : Nat} {v0 : Value} {b : Nat} : wp d 51 Q 35 L (v0 :: .ref b :: st) w cn sn = (kd w b = 5 ∧ catS st ≤ 8 ∧ wpD d 41 [.ref b, v0] w (fun v w' => wp d 51 Q 38 L (v.toList ++ st) w' cn sn)) := w_virtual (As := [v0]) d_51_35 (by decide +kernel : cT (mO 51) 55 = some (0, 41)) rfl (by decide +kernel) rfl (by decide +kernel) rfl
theorem d_51_38 : decode (mB 51) 38 = .ok (.istore_n 2, 1) := by decide +kernel
theorem s_51_38 {d : Nat} {Q : wQ} {L : List (Option Value)} {st : List Value} {w : aw} {cn sn : Nat} {a0 a1 a2 : Option Value} {v : Int32} : wp d 51 Q 38 (a0 :: a1 :: a2 :: L) (.int v :: st) w cn sn = wp d 51 Q 39 (a0 :: clr a1 :: some (.int v) :: L) st w cn sn := w_istore_n d_51_38 (Nat.le_add_left 3 _) rfl
theorem d_51_39 : decode (mB 51) 39 = .ok (.iload_n 1, 1) := by decide +kernel
theorem s_51_39 {d : Nat} {Q : wQ} {L : List (Option Value)} {st : List Value} {w : aw} {cn sn : Nat} {a0 : Option Value} {v : Int32} : wp d 51 Q 39 (a0 :: some (.int v) :: L) st w cn sn = wp d 51 Q 40 (a0 :: some (.int v) :: L) (.int v :: st) w cn sn := w_iload_n d_51_39 rfl
theorem d_51_40 : decode (mB 51) 40 = .ok (.invokestatic 40, 3) := by decide +kernel
theorem s_51_40 {d : Nat} {Q : wQ} {L : List (Option Value)} {st : List Value} {w : aw} {cn sn : Nat} {v0 : Value} : wp d 51 Q 40 L (v0 :: st) w cn sn = (catS st ≤ 8 ∧ wpD d 39 [v0] w (fun v w' => wp d 51 Q 43 L (v.toList ++ st) w' cn sn)) := w_static (As := [v0]) d_51_40 (by decide +kernel : cT (mO 51) 40 = some (2, 39)) rfl (by decide +kernel) rfl
theorem d_51_43 : decode (mB 51) 43 = .ok (.ifCond .eq 9, 3) := by decide +kernel
theorem s_51_43 {d : Nat} {Q : wQ} {L : List (Option Value)} {st : List Value} {w : aw} {cn sn : Nat} {x : Int32} : wp d 51 Q 43 L (.int x :: st) w cn sn = ((x = 0 → wp d 51 Q 52 L st w cn sn) ∧ (¬ x = 0 → wp d 51 Q 46 L st w cn sn)) := w_ifeq d_51_43 (by decide)
theorem d_51_46 : decode (mB 51) 46 = .ok (.aload_n 0, 1) := by decide +kernel
theorem s_51_46 {d : Nat} {Q : wQ} {L : List (Option Value)} {st : List Value} {w : aw} {cn sn : Nat} {v : Nat} : wp d 51 Q 46 (some (.ref v) :: L) st w cn sn = wp d 51 Q 47 (some (.ref v) :: L) (.ref v :: st) w cn sn := w_aload_n d_51_46 rfl
theorem d_51_47 : decode (mB 51) 47 = .ok (.iload_n 2, 1) := by decide +kernel
theorem s_51_47 {d : Nat} {Q : wQ} {L : List (Option Value)} {st : List Value} {w : aw} {cn sn : Nat} {a0 a1 : Option Value} {v : Int32} : wp d 51 Q 47 (a0 :: a1 :: some (.int v) :: L) st w cn sn = wp d 51 Q 48 (a0 :: a1 :: some (.int v) :: L) (.int v :: st) w cn sn := w_iload_n d_51_47 rfl
theorem d_51_48 : decode (mB 51) 48 = .ok (.invokevirtual 115, 3) := by decide +kernel
theorem s_51_48 {d : Nat} {Q : wQ} {L : List (Option Value)} {st : List Value} {w : aw} {cn sn : Nat} {v0 : Value} {b : Nat} : wp d 51 Q 48 L (v0 :: .ref b :: st) w cn sn = (kd w b = 5 ∧ catS st ≤ 8 ∧ wpD d 52 [.ref b, v0] w (fun v w' => wp d 51 Q 51 L (v.toList ++ st) w' cn sn)) := w_virtual (As := [v0]) d_51_48 (by decide +kernel : cT (mO 51) 115 = some (0, 52)) rfl (by decide +kernel) rfl (by decide +kernel) rfl
theorem d_51_51 : decode (mB 51) 51 = .ok (.ireturn, 1) := by decide +kernel
theorem s_51_51 {d : Nat} {Q : wQ} {L : List (Option Value)} {w : aw} {cn sn : Nat} {v : Int32} : wp d 51 Q 51 L [.int v] w cn sn = Q (some (.int v)) w := w_ireturn d_51_51 rfl
theorem d_51_52 : decode (mB 51) 52 = .ok (.aload_n 0, 1) := by decide +kernel
theorem s_51_52 {d : Nat} {Q : wQ} {L : List (Option Value)} {st : List Value} {w : aw} {cn sn : Nat} {v : Nat} : wp d 51 Q 52 (some (.ref v) :: L) st w cn sn = wp d 51 Q 53 (some (.ref v) :: L) (.ref v :: st) w cn sn := w_aload_n d_51_52 rfl
theorem d_51_53 : decode (mB 51) 53 = .ok (.aload_n 0, 1) := by decide +kernel
theorem s_51_53 {d : Nat} {Q : wQ} {L : List (Option Value)} {st : List Value} {w : aw} {cn sn : Nat} {v : Nat} : wp d 51 Q 53 (some (.ref v) :: L) st w cn sn = wp d 51 Q 54 (some (.ref v) :: L) (.ref v :: st) w cn sn := w_aload_n d_51_53 rfl
theorem d_51_54 : decode (mB 51) 54 = .ok (.getfield 52, 3) := by decide +kernel
theorem s_51_54 {d : Nat} {Q : wQ} {L : List (Option Value)} {st : List Value} {w : aw} {cn sn : Nat} {a : Nat} : wp d 51 Q 54 L (.ref a :: st) w cn sn = (kd w a = 5 ∧ wp d 51 Q 57 L (fd w 258 a :: st) w cn sn) := w_getfield d_51_54 (by decide +kernel : fT (mO 51) 52 = some (4, 2))
theorem d_51_57 : decode (mB 51) 57 = .ok (.iload_n 2, 1) := by decide +kernel
theorem s_51_57 {d : Nat} {Q : wQ} {L : List (Option Value)} {st : List Value} {w : aw} {cn sn : Nat} {a0 a1 : Option Value} {v : Int32} : wp d 51 Q 57 (a0 :: a1 :: some (.int v) :: L) st w cn sn = wp d 51 Q 58 (a0 :: a1 :: some (.int v) :: L) (.int v :: st) w cn sn := w_iload_n d_51_57 rfl
theorem d_51_58 : decode (mB 51) 58 = .ok (.invokevirtual 58, 3) := by decide +kernel
theorem s_51_58 {d : Nat} {Q : wQ} {L : List (Option Value)} {st : List Value} {w : aw} {cn sn : Nat} {v0 v1 : Value} {b : Nat} : wp d 51 Q 58 L (v1 :: v0 :: .ref b :: st) w cn sn = (kd w b = 5 ∧ catS st ≤ 8 ∧ wpD d 42 [.ref b, v0, v1] w (fun v w' => wp d 51 Q 61 L (v.toList ++ st) w' cn sn)) := w_virtual (As := [v0, v1]) d_51_58 (by decide +kernel : cT (mO 51) 58 = some (0, 42)) rfl (by decide +kernel) rfl (by decide +kernel) rfl
theorem d_51_61 : decode (mB 51) 61 = .ok (.lstore_n 3, 1) := by decide +kernel
theorem s_51_61 {d : Nat} {Q : wQ} {L : List (Option Value)} {st : List Value} {w : aw} {cn sn : Nat} {a0 a1 a2 a3 a4 : Option Value} {v : Int64} : wp d 51 Q 61 (a0 :: a1 :: a2 :: a3 :: a4 :: L) (.long v :: st) w cn sn = wp d 51 Q 62 (a0 :: a1 :: clr a2 :: some (.long v) :: none :: L) st w cn sn := w_lstore_n d_51_61 (Nat.le_add_left 5 _) rfl
theorem d_51_62 : decode (mB 51) 62 = .ok (.lload_n 3, 1) := by decide +kernel
theorem s_51_62 {d : Nat} {Q : wQ} {L : List (Option Value)} {st : List Value} {w : aw} {cn sn : Nat} {a0 a1 a2 : Option Value} {v : Int64} : wp d 51 Q 62 (a0 :: a1 :: a2 :: some (.long v) :: L) st w cn sn = wp d 51 Q 63 (a0 :: a1 :: a2 :: some (.long v) :: L) (.long v :: st) w cn sn := w_lload_n d_51_62 rfl
theorem d_51_63 : decode (mB 51) 63 = .ok (.lconst 0, 1) := by decide +kernel
theorem s_51_63 {d : Nat} {Q : wQ} {L : List (Option Value)} {st : List Value} {w : aw} {cn sn : Nat}  : wp d 51 Q 63 L st w cn sn = wp d 51 Q 64 L (.long 0 :: st) w cn sn := w_lconst d_51_63 (by decide)
theorem d_51_64 : decode (mB 51) 64 = .ok (.lcmp, 1) := by decide +kernel
theorem s_51_64 {d : Nat} {Q : wQ} {L : List (Option Value)} {st : List Value} {w : aw} {cn sn : Nat} {a b : Int64} : wp d 51 Q 64 L (.long b :: .long a :: st) w cn sn = wp d 51 Q 65 L (.int (lg_cmp a b) :: st) w cn sn := wp_row d_51_64 _ _ _ _ _
theorem d_51_65 : decode (mB 51) 65 = .ok (.ifCond .ne 10, 3) := by decide +kernel
theorem s_51_65 {d : Nat} {Q : wQ} {L : List (Option Value)} {st : List Value} {w : aw} {cn sn : Nat} {x : Int32} : wp d 51 Q 65 L (.int x :: st) w cn sn = ((¬ x = 0 → wp d 51 Q 75 L st w cn sn) ∧ (x = 0 → wp d 51 Q 68 L st w cn sn)) := w_ifne d_51_65 (by decide)
theorem d_51_68 : decode (mB 51) 68 = .ok (.aload_n 0, 1) := by decide +kernel
theorem s_51_68 {d : Nat} {Q : wQ} {L : List (Option Value)} {st : List Value} {w : aw} {cn sn : Nat} {v : Nat} : wp d 51 Q 68 (some (.ref v) :: L) st w cn sn = wp d 51 Q 69 (some (.ref v) :: L) (.ref v :: st) w cn sn := w_aload_n d_51_68 rfl
theorem d_51_69 : decode (mB 51) 69 = .ok (.iconst 1, 1) := by decide +kernel
theorem s_51_69 {d : Nat} {Q : wQ} {L : List (Option Value)} {st : List Value} {w : aw} {cn sn : Nat}  : wp d 51 Q 69 L st w cn sn = wp d 51 Q 70 L (.int 1 :: st) w cn sn := w_iconst d_51_69 (by decide)
theorem d_51_70 : decode (mB 51) 70 = .ok (.putfield 79, 3) := by decide +kernel
theorem s_51_70 {d : Nat} {Q : wQ} {L : List (Option Value)} {st : List Value} {w : aw} {cn sn : Nat} {x : Int32} {a : Nat} : wp d 51 Q 70 L (.int x :: .ref a :: st) w cn sn = (kd w a = 5 ∧ okv .boolean (.int x) ∧ wp d 51 Q 73 L st (uF w 267 a (.int x)) cn sn) := w_putfieldC d_51_70 (by decide +kernel : fT (mO 51) 79 = some (4, 11)) (by decide +kernel)
theorem d_51_73 : decode (mB 51) 73 = .ok (.iconst 0, 1) := by decide +kernel
theorem s_51_73 {d : Nat} {Q : wQ} {L : List (Option Value)} {st : List Value} {w : aw} {cn sn : Nat}  : wp d 51 Q 73 L st w cn sn = wp d 51 Q 74 L (.int 0 :: st) w cn sn := w_iconst d_51_73 (by decide)
theorem d_51_74 : decode (mB 51) 74 = .ok (.ireturn, 1) := by decide +kernel
theorem s_51_74 {d : Nat} {Q : wQ} {L : List (Option Value)} {w : aw} {cn sn : Nat} {v : Int32} : wp d 51 Q 74 L [.int v] w cn sn = Q (some (.int v)) w := w_ireturn d_51_74 rfl
theorem d_51_75 : decode (mB 51) 75 = .ok (.aload_n 0, 1) := by decide +kernel
theorem s_51_75 {d : Nat} {Q : wQ} {L : List (Option Value)} {st : List Value} {w : aw} {cn sn : Nat} {v : Nat} : wp d 51 Q 75 (some (.ref v) :: L) st w cn sn = wp d 51 Q 76 (some (.ref v) :: L) (.ref v :: st) w cn sn := w_aload_n d_51_75 rfl
theorem d_51_76 : decode (mB 51) 76 = .ok (.iload_n 2, 1) := by decide +kernel
theorem s_51_76 {d : Nat} {Q : wQ} {L : List (Option Value)} {st : List Value} {w : aw} {cn sn : Nat} {a0 a1 : Option Value} {v : Int32} : wp d 51 Q 76 (a0 :: a1 :: some (.int v) :: L) st w cn sn = wp d 51 Q 77 (a0 :: a1 :: some (.int v) :: L) (.int v :: st) w cn sn := w_iload_n d_51_76 rfl
theorem d_51_77 : decode (mB 51) 77 = .ok (.putfield 52, 3) := by decide +kernel
theorem s_51_77 {d : Nat} {Q : wQ} {L : List (Option Value)} {st : List Value} {w : aw} {cn sn : Nat} {x : Int32} {a : Nat} : wp d 51 Q 77 L (.int x :: .ref a :: st) w cn sn = (kd w a = 5 ∧ wp d 51 Q 80 L st (uF w 258 a (.int x)) cn sn) := w_putfield d_51_77 (by decide +kernel : fT (mO 51) 52 = some (4, 2)) (by decide +kernel) ok_int
theorem d_51_80 : decode (mB 51) 80 = .ok (.aload_n 0, 1) := by decide +kernel
theorem s_51_80 {d : Nat} {Q : wQ} {L : List (Option Value)} {st : List Value} {w : aw} {cn sn : Nat} {v : Nat} : wp d 51 Q 80 (some (.ref v) :: L) st w cn sn = wp d 51 Q 81 (some (.ref v) :: L) (.ref v :: st) w cn sn := w_aload_n d_51_80 rfl
theorem d_51_81 : decode (mB 51) 81 = .ok (.getfield 15, 3) := by decide +kernel
theorem s_51_81 {d : Nat} {Q : wQ} {L : List (Option Value)} {st : List Value} {w : aw} {cn sn : Nat} {a : Nat} : wp d 51 Q 81 L (.ref a :: st) w cn sn = (kd w a = 5 ∧ wp d 51 Q 84 L (fd w 257 a :: st) w cn sn) := w_getfield d_51_81 (by decide +kernel : fT (mO 51) 15 = some (4, 1))
theorem d_51_84 : decode (mB 51) 84 = .ok (.lload_n 3, 1) := by decide +kernel
theorem s_51_84 {d : Nat} {Q : wQ} {L : List (Option Value)} {st : List Value} {w : aw} {cn sn : Nat} {a0 a1 a2 : Option Value} {v : Int64} : wp d 51 Q 84 (a0 :: a1 :: a2 :: some (.long v) :: L) st w cn sn = wp d 51 Q 85 (a0 :: a1 :: a2 :: some (.long v) :: L) (.long v :: st) w cn sn := w_lload_n d_51_84 rfl
theorem d_51_85 : decode (mB 51) 85 = .ok (.invokevirtual 118, 3) := by decide +kernel
theorem s_51_85 {d : Nat} {Q : wQ} {L : List (Option Value)} {st : List Value} {w : aw} {cn sn : Nat} {v0 : Value} {b : Nat} : wp d 51 Q 85 L (v0 :: .ref b :: st) w cn sn = (kd w b = 4 ∧ catS st ≤ 8 ∧ wpD d 34 [.ref b, v0] w (fun v w' => wp d 51 Q 88 L (v.toList ++ st) w' cn sn)) := w_virtual (As := [v0]) d_51_85 (by decide +kernel : cT (mO 51) 118 = some (0, 34)) rfl (by decide +kernel) rfl (by decide +kernel) rfl
theorem d_51_88 : decode (mB 51) 88 = .ok (.istore 5, 2) := by decide +kernel
theorem s_51_88 {d : Nat} {Q : wQ} {L : List (Option Value)} {st : List Value} {w : aw} {cn sn : Nat} {a0 a1 a2 a3 a4 a5 : Option Value} {v : Int32} : wp d 51 Q 88 (a0 :: a1 :: a2 :: a3 :: a4 :: a5 :: L) (.int v :: st) w cn sn = wp d 51 Q 90 (a0 :: a1 :: a2 :: a3 :: clr a4 :: some (.int v) :: L) st w cn sn := w_istore d_51_88 (Nat.le_add_left 6 _) rfl
theorem d_51_90 : decode (mB 51) 90 = .ok (.aload_n 0, 1) := by decide +kernel
theorem s_51_90 {d : Nat} {Q : wQ} {L : List (Option Value)} {st : List Value} {w : aw} {cn sn : Nat} {v : Nat} : wp d 51 Q 90 (some (.ref v) :: L) st w cn sn = wp d 51 Q 91 (some (.ref v) :: L) (.ref v :: st) w cn sn := w_aload_n d_51_90 rfl
theorem d_51_91 : decode (mB 51) 91 = .ok (.dup, 1) := by decide +kernel
theorem s_51_91 {d : Nat} {Q : wQ} {L : List (Option Value)} {st : List Value} {w : aw} {cn sn : Nat} {v : Value} : wp d 51 Q 91 L (v :: st) w cn sn = (v.category = 1 ∧ wp d 51 Q 92 L (v :: v :: st) w cn sn) := wp_row d_51_91 _ _ _ _ _
theorem d_51_92 : decode (mB 51) 92 = .ok (.getfield 82, 3) := by decide +kernel
theorem s_51_92 {d : Nat} {Q : wQ} {L : List (Option Value)} {st : List Value} {w : aw} {cn sn : Nat} {a : Nat} : wp d 51 Q 92 L (.ref a :: st) w cn sn = (kd w a = 5 ∧ wp d 51 Q 95 L (fd w 268 a :: st) w cn sn) := w_getfield d_51_92 (by decide +kernel : fT (mO 51) 82 = some (4, 12))
theorem d_51_95 : decode (mB 51) 95 = .ok (.iload 5, 2) := by decide +kernel
theorem s_51_95 {d : Nat} {Q : wQ} {L : List (Option Value)} {st : List Value} {w : aw} {cn sn : Nat} {a0 a1 a2 a3 a4 : Option Value} {v : Int32} : wp d 51 Q 95 (a0 :: a1 :: a2 :: a3 :: a4 :: some (.int v) :: L) st w cn sn = wp d 51 Q 97 (a0 :: a1 :: a2 :: a3 :: a4 :: some (.int v) :: L) (.int v :: st) w cn sn := w_iload d_51_95 rfl
theorem d_51_97 : decode (mB 51) 97 = .ok (.iconst (-1), 1) := by decide +kernel
theorem s_51_97 {d : Nat} {Q : wQ} {L : List (Option Value)} {st : List Value} {w : aw} {cn sn : Nat}  : wp d 51 Q 97 L st w cn sn = wp d 51 Q 98 L (.int (-1) :: st) w cn sn := w_iconst d_51_97 (by decide)
theorem d_51_98 : decode (mB 51) 98 = .ok (.if_icmp .ne 7, 3) := by decide +kernel
theorem s_51_98 {d : Nat} {Q : wQ} {L : List (Option Value)} {st : List Value} {w : aw} {cn sn : Nat} {a b : Int32} : wp d 51 Q 98 L (.int b :: .int a :: st) w cn sn = ((¬ a = b → wp d 51 Q 105 L st w cn sn) ∧ (a = b → wp d 51 Q 101 L st w cn sn)) := w_icne d_51_98 (by decide)
theorem d_51_101 : decode (mB 51) 101 = .ok (.iconst 1, 1) := by decide +kernel
theorem s_51_101 {d : Nat} {Q : wQ} {L : List (Option Value)} {st : List Value} {w : aw} {cn sn : Nat}  : wp d 51 Q 101 L st w cn sn = wp d 51 Q 102 L (.int 1 :: st) w cn sn := w_iconst d_51_101 (by decide)
theorem d_51_102 : decode (mB 51) 102 = .ok (.goto 4, 3) := by decide +kernel
theorem s_51_102 {d : Nat} {Q : wQ} {L : List (Option Value)} {st : List Value} {w : aw} {cn sn : Nat}  : wp d 51 Q 102 L st w cn sn = wp d 51 Q 106 L st w cn sn := w_goto d_51_102 (by decide)
theorem d_51_105 : decode (mB 51) 105 = .ok (.iconst 0, 1) := by decide +kernel
theorem s_51_105 {d : Nat} {Q : wQ} {L : List (Option Value)} {st : List Value} {w : aw} {cn sn : Nat}  : wp d 51 Q 105 L st w cn sn = wp d 51 Q 106 L (.int 0 :: st) w cn sn := w_iconst d_51_105 (by decide)
theorem d_51_106 : decode (mB 51) 106 = .ok (.ior, 1) := by decide +kernel
theorem s_51_106 {d : Nat} {Q : wQ} {L : List (Option Value)} {st : List Value} {w : aw} {cn sn : Nat} {a b : Int32} : wp d 51 Q 106 L (.int b :: .int a :: st) w cn sn = wp d 51 Q 107 L (.int (a ||| b) :: st) w cn sn := wp_row d_51_106 _ _ _ _ _
theorem d_51_107 : decode (mB 51) 107 = .ok (.putfield 82, 3) := by decide +kernel
theorem s_51_107 {d : Nat} {Q : wQ} {L : List (Option Value)} {st : List Value} {w : aw} {cn sn : Nat} {x : Int32} {a : Nat} : wp d 51 Q 107 L (.int x :: .ref a :: st) w cn sn = (kd w a = 5 ∧ okv .boolean (.int x) ∧ wp d 51 Q 110 L st (uF w 268 a (.int x)) cn sn) := w_putfieldC d_51_107 (by decide +kernel : fT (mO 51) 82 = some (4, 12)) (by decide +kernel)
theorem d_51_110 : decode (mB 51) 110 = .ok (.iload 5, 2) := by decide +kernel
theorem s_51_110 {d : Nat} {Q : wQ} {L : List (Option Value)} {st : List Value} {w : aw} {cn sn : Nat} {a0 a1 a2 a3 a4 : Option Value} {v : Int32} : wp d 51 Q 110 (a0 :: a1 :: a2 :: a3 :: a4 :: some (.int v) :: L) st w cn sn = wp d 51 Q 112 (a0 :: a1 :: a2 :: a3 :: a4 :: some (.int v) :: L) (.int v :: st) w cn sn := w_iload d_51_110 rfl
theorem d_51_112 : decode (mB 51) 112 = .ok (.iconst (-1), 1) := by decide +kernel
theorem s_51_112 {d : Nat} {Q : wQ} {L : List (Option Value)} {st : List Value} {w : aw} {cn sn : Nat}  : wp d 51 Q 112 L st w cn sn = wp d 51 Q 113 L (.int (-1) :: st) w cn sn := w_iconst d_51_112 (by decide)
theorem d_51_113 : decode (mB 51) 113 = .ok (.if_icmp .ne 7, 3) := by decide +kernel
theorem s_51_113 {d : Nat} {Q : wQ} {L : List (Option Value)} {st : List Value} {w : aw} {cn sn : Nat} {a b : Int32} : wp d 51 Q 113 L (.int b :: .int a :: st) w cn sn = ((¬ a = b → wp d 51 Q 120 L st w cn sn) ∧ (a = b → wp d 51 Q 116 L st w cn sn)) := w_icne d_51_113 (by decide)
theorem d_51_116 : decode (mB 51) 116 = .ok (.iconst 0, 1) := by decide +kernel
theorem s_51_116 {d : Nat} {Q : wQ} {L : List (Option Value)} {st : List Value} {w : aw} {cn sn : Nat}  : wp d 51 Q 116 L st w cn sn = wp d 51 Q 117 L (.int 0 :: st) w cn sn := w_iconst d_51_116 (by decide)
theorem d_51_117 : decode (mB 51) 117 = .ok (.goto 5, 3) := by decide +kernel
theorem s_51_117 {d : Nat} {Q : wQ} {L : List (Option Value)} {st : List Value} {w : aw} {cn sn : Nat}  : wp d 51 Q 117 L st w cn sn = wp d 51 Q 122 L st w cn sn := w_goto d_51_117 (by decide)
theorem d_51_120 : decode (mB 51) 120 = .ok (.iload 5, 2) := by decide +kernel
theorem s_51_120 {d : Nat} {Q : wQ} {L : List (Option Value)} {st : List Value} {w : aw} {cn sn : Nat} {a0 a1 a2 a3 a4 : Option Value} {v : Int32} : wp d 51 Q 120 (a0 :: a1 :: a2 :: a3 :: a4 :: some (.int v) :: L) st w cn sn = wp d 51 Q 122 (a0 :: a1 :: a2 :: a3 :: a4 :: some (.int v) :: L) (.int v :: st) w cn sn := w_iload d_51_120 rfl
theorem d_51_122 : decode (mB 51) 122 = .ok (.ireturn, 1) := by decide +kernel
theorem s_51_122 {d : Nat} {Q : wQ} {L : List (Option Value)} {w : aw} {cn sn : Nat} {v : Int32} : wp d 51 Q 122 L [.int v] w cn sn = Q (some (.int v)) w := w_ireturn d_51_122 rfl
theorem d_52_0 : decode (mB 52) 0 = .ok (.aload_n 0, 1) := by decide +kernel
theorem s_52_0 {d : Nat} {Q : wQ} {L : List (Option Value)} {st : List Value} {w : aw} {cn sn : Nat} {v : Nat} : wp d 52 Q 0 (some (.ref v) :: L) st w cn sn = wp d 52 Q 1 (some (.ref v) :: L) (.ref v :: st) w cn sn := w_aload_n d_52_0 rfl
theorem d_52_1 : decode (mB 52) 1 = .ok (.dup, 1) := by decide +kernel
theorem s_52_1 {d : Nat} {Q : wQ} {L : List (Option Value)} {st : List Value} {w : aw} {cn sn : Nat} {v : Value} : wp d 52 Q 1 L (v :: st) w cn sn = (v.category = 1 ∧ wp d 52 Q 2 L (v :: v :: st) w cn sn) := wp_row d_52_1 _ _ _ _ _
theorem d_52_2 : decode (mB 52) 2 = .ok (.getfield 79, 3) := by decide +kernel
theorem s_52_2 {d : Nat} {Q : wQ} {L : List (Option Value)} {st : List Value} {w : aw} {cn sn : Nat} {a : Nat} : wp d 52 Q 2 L (.ref a :: st) w cn sn = (kd w a = 5 ∧ wp d 52 Q 5 L (fd w 267 a :: st) w cn sn) := w_getfield d_52_2 (by decide +kernel : fT (mO 52) 79 = some (4, 11))
theorem d_52_5 : decode (mB 52) 5 = .ok (.iload_n 1, 1) := by decide +kernel
theorem s_52_5 {d : Nat} {Q : wQ} {L : List (Option Value)} {st : List Value} {w : aw} {cn sn : Nat} {a0 : Option Value} {v : Int32} : wp d 52 Q 5 (a0 :: some (.int v) :: L) st w cn sn = wp d 52 Q 6 (a0 :: some (.int v) :: L) (.int v :: st) w cn sn := w_iload_n d_52_5 rfl
theorem d_52_6 : decode (mB 52) 6 = .ok (.aload_n 0, 1) := by decide +kernel
theorem s_52_6 {d : Nat} {Q : wQ} {L : List (Option Value)} {st : List Value} {w : aw} {cn sn : Nat} {v : Nat} : wp d 52 Q 6 (some (.ref v) :: L) st w cn sn = wp d 52 Q 7 (some (.ref v) :: L) (.ref v :: st) w cn sn := w_aload_n d_52_6 rfl
theorem d_52_7 : decode (mB 52) 7 = .ok (.getfield 52, 3) := by decide +kernel
theorem s_52_7 {d : Nat} {Q : wQ} {L : List (Option Value)} {st : List Value} {w : aw} {cn sn : Nat} {a : Nat} : wp d 52 Q 7 L (.ref a :: st) w cn sn = (kd w a = 5 ∧ wp d 52 Q 10 L (fd w 258 a :: st) w cn sn) := w_getfield d_52_7 (by decide +kernel : fT (mO 52) 52 = some (4, 2))
theorem d_52_10 : decode (mB 52) 10 = .ok (.isub, 1) := by decide +kernel
theorem s_52_10 {d : Nat} {Q : wQ} {L : List (Option Value)} {st : List Value} {w : aw} {cn sn : Nat} {a b : Int32} : wp d 52 Q 10 L (.int b :: .int a :: st) w cn sn = wp d 52 Q 11 L (.int (a - b) :: st) w cn sn := wp_row d_52_10 _ _ _ _ _
theorem d_52_11 : decode (mB 52) 11 = .ok (.iconst 4, 1) := by decide +kernel
theorem s_52_11 {d : Nat} {Q : wQ} {L : List (Option Value)} {st : List Value} {w : aw} {cn sn : Nat}  : wp d 52 Q 11 L st w cn sn = wp d 52 Q 12 L (.int 4 :: st) w cn sn := w_iconst d_52_11 (by decide)
theorem d_52_12 : decode (mB 52) 12 = .ok (.if_icmp .le 7, 3) := by decide +kernel
theorem s_52_12 {d : Nat} {Q : wQ} {L : List (Option Value)} {st : List Value} {w : aw} {cn sn : Nat} {a b : Int32} : wp d 52 Q 12 L (.int b :: .int a :: st) w cn sn = ((a ≤ b → wp d 52 Q 19 L st w cn sn) ∧ (¬ a ≤ b → wp d 52 Q 15 L st w cn sn)) := w_icle d_52_12 (by decide)
theorem d_52_15 : decode (mB 52) 15 = .ok (.iconst 1, 1) := by decide +kernel
theorem s_52_15 {d : Nat} {Q : wQ} {L : List (Option Value)} {st : List Value} {w : aw} {cn sn : Nat}  : wp d 52 Q 15 L st w cn sn = wp d 52 Q 16 L (.int 1 :: st) w cn sn := w_iconst d_52_15 (by decide)
theorem d_52_16 : decode (mB 52) 16 = .ok (.goto 4, 3) := by decide +kernel
theorem s_52_16 {d : Nat} {Q : wQ} {L : List (Option Value)} {st : List Value} {w : aw} {cn sn : Nat}  : wp d 52 Q 16 L st w cn sn = wp d 52 Q 20 L st w cn sn := w_goto d_52_16 (by decide)
theorem d_52_19 : decode (mB 52) 19 = .ok (.iconst 0, 1) := by decide +kernel
theorem s_52_19 {d : Nat} {Q : wQ} {L : List (Option Value)} {st : List Value} {w : aw} {cn sn : Nat}  : wp d 52 Q 19 L st w cn sn = wp d 52 Q 20 L (.int 0 :: st) w cn sn := w_iconst d_52_19 (by decide)
theorem d_52_20 : decode (mB 52) 20 = .ok (.ior, 1) := by decide +kernel
theorem s_52_20 {d : Nat} {Q : wQ} {L : List (Option Value)} {st : List Value} {w : aw} {cn sn : Nat} {a b : Int32} : wp d 52 Q 20 L (.int b :: .int a :: st) w cn sn = wp d 52 Q 21 L (.int (a ||| b) :: st) w cn sn := wp_row d_52_20 _ _ _ _ _
theorem d_52_21 : decode (mB 52) 21 = .ok (.putfield 79, 3) := by decide +kernel
theorem s_52_21 {d : Nat} {Q : wQ} {L : List (Option Value)} {st : List Value} {w : aw} {cn sn : Nat} {x : Int32} {a : Nat} : wp d 52 Q 21 L (.int x :: .ref a :: st) w cn sn = (kd w a = 5 ∧ okv .boolean (.int x) ∧ wp d 52 Q 24 L st (uF w 267 a (.int x)) cn sn) := w_putfieldC d_52_21 (by decide +kernel : fT (mO 52) 79 = some (4, 11)) (by decide +kernel)
theorem d_52_24 : decode (mB 52) 24 = .ok (.iconst 0, 1) := by decide +kernel
theorem s_52_24 {d : Nat} {Q : wQ} {L : List (Option Value)} {st : List Value} {w : aw} {cn sn : Nat}  : wp d 52 Q 24 L st w cn sn = wp d 52 Q 25 L (.int 0 :: st) w cn sn := w_iconst d_52_24 (by decide)
theorem d_52_25 : decode (mB 52) 25 = .ok (.istore_n 2, 1) := by decide +kernel
theorem s_52_25 {d : Nat} {Q : wQ} {L : List (Option Value)} {st : List Value} {w : aw} {cn sn : Nat} {a0 a1 a2 : Option Value} {v : Int32} : wp d 52 Q 25 (a0 :: a1 :: a2 :: L) (.int v :: st) w cn sn = wp d 52 Q 26 (a0 :: clr a1 :: some (.int v) :: L) st w cn sn := w_istore_n d_52_25 (Nat.le_add_left 3 _) rfl
theorem d_52_26 : decode (mB 52) 26 = .ok (.aload_n 0, 1) := by decide +kernel
theorem s_52_26 {d : Nat} {Q : wQ} {L : List (Option Value)} {st : List Value} {w : aw} {cn sn : Nat} {v : Nat} : wp d 52 Q 26 (some (.ref v) :: L) st w cn sn = wp d 52 Q 27 (some (.ref v) :: L) (.ref v :: st) w cn sn := w_aload_n d_52_26 rfl
theorem d_52_27 : decode (mB 52) 27 = .ok (.getfield 52, 3) := by decide +kernel
theorem s_52_27 {d : Nat} {Q : wQ} {L : List (Option Value)} {st : List Value} {w : aw} {cn sn : Nat} {a : Nat} : wp d 52 Q 27 L (.ref a :: st) w cn sn = (kd w a = 5 ∧ wp d 52 Q 30 L (fd w 258 a :: st) w cn sn) := w_getfield d_52_27 (by decide +kernel : fT (mO 52) 52 = some (4, 2))
theorem d_52_30 : decode (mB 52) 30 = .ok (.istore_n 3, 1) := by decide +kernel
theorem s_52_30 {d : Nat} {Q : wQ} {L : List (Option Value)} {st : List Value} {w : aw} {cn sn : Nat} {a0 a1 a2 a3 : Option Value} {v : Int32} : wp d 52 Q 30 (a0 :: a1 :: a2 :: a3 :: L) (.int v :: st) w cn sn = wp d 52 Q 31 (a0 :: a1 :: clr a2 :: some (.int v) :: L) st w cn sn := w_istore_n d_52_30 (Nat.le_add_left 4 _) rfl
theorem d_52_31 : decode (mB 52) 31 = .ok (.iload_n 3, 1) := by decide +kernel
theorem s_52_31 {d : Nat} {Q : wQ} {L : List (Option Value)} {st : List Value} {w : aw} {cn sn : Nat} {a0 a1 a2 : Option Value} {v : Int32} : wp d 52 Q 31 (a0 :: a1 :: a2 :: some (.int v) :: L) st w cn sn = wp d 52 Q 32 (a0 :: a1 :: a2 :: some (.int v) :: L) (.int v :: st) w cn sn := w_iload_n d_52_31 rfl
theorem d_52_32 : decode (mB 52) 32 = .ok (.iload_n 1, 1) := by decide +kernel
theorem s_52_32 {d : Nat} {Q : wQ} {L : List (Option Value)} {st : List Value} {w : aw} {cn sn : Nat} {a0 : Option Value} {v : Int32} : wp d 52 Q 32 (a0 :: some (.int v) :: L) st w cn sn = wp d 52 Q 33 (a0 :: some (.int v) :: L) (.int v :: st) w cn sn := w_iload_n d_52_32 rfl
theorem d_52_33 : decode (mB 52) 33 = .ok (.if_icmp .ge 55, 3) := by decide +kernel
theorem s_52_33 {d : Nat} {Q : wQ} {L : List (Option Value)} {st : List Value} {w : aw} {cn sn : Nat} {a b : Int32} : wp d 52 Q 33 L (.int b :: .int a :: st) w cn sn = ((b ≤ a → wp d 52 Q 88 L st w cn sn) ∧ (¬ b ≤ a → wp d 52 Q 36 L st w cn sn)) := w_icge d_52_33 (by decide)
theorem d_52_36 : decode (mB 52) 36 = .ok (.aload_n 0, 1) := by decide +kernel
theorem s_52_36 {d : Nat} {Q : wQ} {L : List (Option Value)} {st : List Value} {w : aw} {cn sn : Nat} {v : Nat} : wp d 52 Q 36 (some (.ref v) :: L) st w cn sn = wp d 52 Q 37 (some (.ref v) :: L) (.ref v :: st) w cn sn := w_aload_n d_52_36 rfl
theorem d_52_37 : decode (mB 52) 37 = .ok (.getfield 79, 3) := by decide +kernel
theorem s_52_37 {d : Nat} {Q : wQ} {L : List (Option Value)} {st : List Value} {w : aw} {cn sn : Nat} {a : Nat} : wp d 52 Q 37 L (.ref a :: st) w cn sn = (kd w a = 5 ∧ wp d 52 Q 40 L (fd w 267 a :: st) w cn sn) := w_getfield d_52_37 (by decide +kernel : fT (mO 52) 79 = some (4, 11))
theorem d_52_40 : decode (mB 52) 40 = .ok (.ifCond .ne 48, 3) := by decide +kernel
theorem s_52_40 {d : Nat} {Q : wQ} {L : List (Option Value)} {st : List Value} {w : aw} {cn sn : Nat} {x : Int32} : wp d 52 Q 40 L (.int x :: st) w cn sn = ((¬ x = 0 → wp d 52 Q 88 L st w cn sn) ∧ (x = 0 → wp d 52 Q 43 L st w cn sn)) := w_ifne d_52_40 (by decide)
theorem d_52_43 : decode (mB 52) 43 = .ok (.aload_n 0, 1) := by decide +kernel
theorem s_52_43 {d : Nat} {Q : wQ} {L : List (Option Value)} {st : List Value} {w : aw} {cn sn : Nat} {v : Nat} : wp d 52 Q 43 (some (.ref v) :: L) st w cn sn = wp d 52 Q 44 (some (.ref v) :: L) (.ref v :: st) w cn sn := w_aload_n d_52_43 rfl
theorem d_52_44 : decode (mB 52) 44 = .ok (.iload_n 3, 1) := by decide +kernel
theorem s_52_44 {d : Nat} {Q : wQ} {L : List (Option Value)} {st : List Value} {w : aw} {cn sn : Nat} {a0 a1 a2 : Option Value} {v : Int32} : wp d 52 Q 44 (a0 :: a1 :: a2 :: some (.int v) :: L) st w cn sn = wp d 52 Q 45 (a0 :: a1 :: a2 :: some (.int v) :: L) (.int v :: st) w cn sn := w_iload_n d_52_44 rfl
theorem d_52_45 : decode (mB 52) 45 = .ok (.invokevirtual 32, 3) := by decide +kernel
theorem s_52_45 {d : Nat} {Q : wQ} {L : List (Option Value)} {st : List Value} {w : aw} {cn sn : Nat} {v0 : Value} {b : Nat} : wp d 52 Q 45 L (v0 :: .ref b :: st) w cn sn = (kd w b = 5 ∧ catS st ≤ 8 ∧ wpD d 37 [.ref b, v0] w (fun v w' => wp d 52 Q 48 L (v.toList ++ st) w' cn sn)) := w_virtual (As := [v0]) d_52_45 (by decide +kernel : cT (mO 52) 32 = some (0, 37)) rfl (by decide +kernel) rfl (by decide +kernel) rfl
theorem d_52_48 : decode (mB 52) 48 = .ok (.bipush 48, 2) := by decide +kernel
theorem s_52_48 {d : Nat} {Q : wQ} {L : List (Option Value)} {st : List Value} {w : aw} {cn sn : Nat}  : wp d 52 Q 48 L st w cn sn = wp d 52 Q 50 L (.int 48 :: st) w cn sn := w_bipush d_52_48 (by decide)
theorem d_52_50 : decode (mB 52) 50 = .ok (.isub, 1) := by decide +kernel
theorem s_52_50 {d : Nat} {Q : wQ} {L : List (Option Value)} {st : List Value} {w : aw} {cn sn : Nat} {a b : Int32} : wp d 52 Q 50 L (.int b :: .int a :: st) w cn sn = wp d 52 Q 51 L (.int (a - b) :: st) w cn sn := wp_row d_52_50 _ _ _ _ _
theorem d_52_51 : decode (mB 52) 51 = .ok (.istore 4, 2) := by decide +kernel
theorem s_52_51 {d : Nat} {Q : wQ} {L : List (Option Value)} {st : List Value} {w : aw} {cn sn : Nat} {a0 a1 a2 a3 a4 : Option Value} {v : Int32} : wp d 52 Q 51 (a0 :: a1 :: a2 :: a3 :: a4 :: L) (.int v :: st) w cn sn = wp d 52 Q 53 (a0 :: a1 :: a2 :: clr a3 :: some (.int v) :: L) st w cn sn := w_istore d_52_51 (Nat.le_add_left 5 _) rfl
theorem d_52_53 : decode (mB 52) 53 = .ok (.aload_n 0, 1) := by decide +kernel
theorem s_52_53 {d : Nat} {Q : wQ} {L : List (Option Value)} {st : List Value} {w : aw} {cn sn : Nat} {v : Nat} : wp d 52 Q 53 (some (.ref v) :: L) st w cn sn = wp d 52 Q 54 (some (.ref v) :: L) (.ref v :: st) w cn sn := w_aload_n d_52_53 rfl
theorem d_52_54 : decode (mB 52) 54 = .ok (.iload 4, 2) := by decide +kernel
theorem s_52_54 {d : Nat} {Q : wQ} {L : List (Option Value)} {st : List Value} {w : aw} {cn sn : Nat} {a0 a1 a2 a3 : Option Value} {v : Int32} : wp d 52 Q 54 (a0 :: a1 :: a2 :: a3 :: some (.int v) :: L) st w cn sn = wp d 52 Q 56 (a0 :: a1 :: a2 :: a3 :: some (.int v) :: L) (.int v :: st) w cn sn := w_iload d_52_54 rfl
theorem d_52_56 : decode (mB 52) 56 = .ok (.ifCond .lt 10, 3) := by decide +kernel
theorem s_52_56 {d : Nat} {Q : wQ} {L : List (Option Value)} {st : List Value} {w : aw} {cn sn : Nat} {x : Int32} : wp d 52 Q 56 L (.int x :: st) w cn sn = ((x < 0 → wp d 52 Q 66 L st w cn sn) ∧ (¬ x < 0 → wp d 52 Q 59 L st w cn sn)) := w_iflt d_52_56 (by decide)
theorem d_52_59 : decode (mB 52) 59 = .ok (.iload 4, 2) := by decide +kernel
theorem s_52_59 {d : Nat} {Q : wQ} {L : List (Option Value)} {st : List Value} {w : aw} {cn sn : Nat} {a0 a1 a2 a3 : Option Value} {v : Int32} : wp d 52 Q 59 (a0 :: a1 :: a2 :: a3 :: some (.int v) :: L) st w cn sn = wp d 52 Q 61 (a0 :: a1 :: a2 :: a3 :: some (.int v) :: L) (.int v :: st) w cn sn := w_iload d_52_59 rfl
theorem d_52_61 : decode (mB 52) 61 = .ok (.bipush 7, 2) := by decide +kernel
theorem s_52_61 {d : Nat} {Q : wQ} {L : List (Option Value)} {st : List Value} {w : aw} {cn sn : Nat}  : wp d 52 Q 61 L st w cn sn = wp d 52 Q 63 L (.int 7 :: st) w cn sn := w_bipush d_52_61 (by decide)
theorem d_52_63 : decode (mB 52) 63 = .ok (.if_icmp .le 7, 3) := by decide +kernel
theorem s_52_63 {d : Nat} {Q : wQ} {L : List (Option Value)} {st : List Value} {w : aw} {cn sn : Nat} {a b : Int32} : wp d 52 Q 63 L (.int b :: .int a :: st) w cn sn = ((a ≤ b → wp d 52 Q 70 L st w cn sn) ∧ (¬ a ≤ b → wp d 52 Q 66 L st w cn sn)) := w_icle d_52_63 (by decide)
theorem d_52_66 : decode (mB 52) 66 = .ok (.iconst 1, 1) := by decide +kernel
theorem s_52_66 {d : Nat} {Q : wQ} {L : List (Option Value)} {st : List Value} {w : aw} {cn sn : Nat}  : wp d 52 Q 66 L st w cn sn = wp d 52 Q 67 L (.int 1 :: st) w cn sn := w_iconst d_52_66 (by decide)
theorem d_52_67 : decode (mB 52) 67 = .ok (.goto 4, 3) := by decide +kernel
theorem s_52_67 {d : Nat} {Q : wQ} {L : List (Option Value)} {st : List Value} {w : aw} {cn sn : Nat}  : wp d 52 Q 67 L st w cn sn = wp d 52 Q 71 L st w cn sn := w_goto d_52_67 (by decide)
theorem d_52_70 : decode (mB 52) 70 = .ok (.iconst 0, 1) := by decide +kernel
theorem s_52_70 {d : Nat} {Q : wQ} {L : List (Option Value)} {st : List Value} {w : aw} {cn sn : Nat}  : wp d 52 Q 70 L st w cn sn = wp d 52 Q 71 L (.int 0 :: st) w cn sn := w_iconst d_52_70 (by decide)
theorem d_52_71 : decode (mB 52) 71 = .ok (.putfield 79, 3) := by decide +kernel
theorem s_52_71 {d : Nat} {Q : wQ} {L : List (Option Value)} {st : List Value} {w : aw} {cn sn : Nat} {x : Int32} {a : Nat} : wp d 52 Q 71 L (.int x :: .ref a :: st) w cn sn = (kd w a = 5 ∧ okv .boolean (.int x) ∧ wp d 52 Q 74 L st (uF w 267 a (.int x)) cn sn) := w_putfieldC d_52_71 (by decide +kernel : fT (mO 52) 79 = some (4, 11)) (by decide +kernel)
theorem d_52_74 : decode (mB 52) 74 = .ok (.iload_n 2, 1) := by decide +kernel
theorem s_52_74 {d : Nat} {Q : wQ} {L : List (Option Value)} {st : List Value} {w : aw} {cn sn : Nat} {a0 a1 : Option Value} {v : Int32} : wp d 52 Q 74 (a0 :: a1 :: some (.int v) :: L) st w cn sn = wp d 52 Q 75 (a0 :: a1 :: some (.int v) :: L) (.int v :: st) w cn sn := w_iload_n d_52_74 rfl
theorem d_52_75 : decode (mB 52) 75 = .ok (.bipush 8, 2) := by decide +kernel
theorem s_52_75 {d : Nat} {Q : wQ} {L : List (Option Value)} {st : List Value} {w : aw} {cn sn : Nat}  : wp d 52 Q 75 L st w cn sn = wp d 52 Q 77 L (.int 8 :: st) w cn sn := w_bipush d_52_75 (by decide)
theorem d_52_77 : decode (mB 52) 77 = .ok (.imul, 1) := by decide +kernel
theorem s_52_77 {d : Nat} {Q : wQ} {L : List (Option Value)} {st : List Value} {w : aw} {cn sn : Nat} {a b : Int32} : wp d 52 Q 77 L (.int b :: .int a :: st) w cn sn = wp d 52 Q 78 L (.int (a * b) :: st) w cn sn := wp_row d_52_77 _ _ _ _ _
theorem d_52_78 : decode (mB 52) 78 = .ok (.iload 4, 2) := by decide +kernel
theorem s_52_78 {d : Nat} {Q : wQ} {L : List (Option Value)} {st : List Value} {w : aw} {cn sn : Nat} {a0 a1 a2 a3 : Option Value} {v : Int32} : wp d 52 Q 78 (a0 :: a1 :: a2 :: a3 :: some (.int v) :: L) st w cn sn = wp d 52 Q 80 (a0 :: a1 :: a2 :: a3 :: some (.int v) :: L) (.int v :: st) w cn sn := w_iload d_52_78 rfl
theorem d_52_80 : decode (mB 52) 80 = .ok (.iadd, 1) := by decide +kernel
theorem s_52_80 {d : Nat} {Q : wQ} {L : List (Option Value)} {st : List Value} {w : aw} {cn sn : Nat} {a b : Int32} : wp d 52 Q 80 L (.int b :: .int a :: st) w cn sn = wp d 52 Q 81 L (.int (a + b) :: st) w cn sn := wp_row d_52_80 _ _ _ _ _
theorem d_52_81 : decode (mB 52) 81 = .ok (.istore_n 2, 1) := by decide +kernel
theorem s_52_81 {d : Nat} {Q : wQ} {L : List (Option Value)} {st : List Value} {w : aw} {cn sn : Nat} {a0 a1 a2 : Option Value} {v : Int32} : wp d 52 Q 81 (a0 :: a1 :: a2 :: L) (.int v :: st) w cn sn = wp d 52 Q 82 (a0 :: clr a1 :: some (.int v) :: L) st w cn sn := w_istore_n d_52_81 (Nat.le_add_left 3 _) rfl
theorem d_52_82 : decode (mB 52) 82 = .ok (.iinc 3 1, 3) := by decide +kernel
theorem s_52_82 {d : Nat} {Q : wQ} {L : List (Option Value)} {st : List Value} {w : aw} {cn sn : Nat} {a0 a1 a2 : Option Value} {v : Int32} : wp d 52 Q 82 (a0 :: a1 :: a2 :: some (.int v) :: L) st w cn sn = wp d 52 Q 85 (a0 :: a1 :: clr a2 :: some (.int (v + 1)) :: L) st w cn sn := w_iinc d_52_82 rfl (by decide) rfl
theorem d_52_85 : decode (mB 52) 85 = .ok (.goto (-54), 3) := by decide +kernel
theorem s_52_85 {d : Nat} {Q : wQ} {L : List (Option Value)} {st : List Value} {w : aw} {cn sn : Nat}  : wp d 52 Q 85 L st w cn sn = wp d 52 Q 31 L st w cn sn := w_goto d_52_85 (by decide)
theorem d_52_88 : decode (mB 52) 88 = .ok (.aload_n 0, 1) := by decide +kernel
theorem s_52_88 {d : Nat} {Q : wQ} {L : List (Option Value)} {st : List Value} {w : aw} {cn sn : Nat} {v : Nat} : wp d 52 Q 88 (some (.ref v) :: L) st w cn sn = wp d 52 Q 89 (some (.ref v) :: L) (.ref v :: st) w cn sn := w_aload_n d_52_88 rfl
theorem d_52_89 : decode (mB 52) 89 = .ok (.iload_n 1, 1) := by decide +kernel
theorem s_52_89 {d : Nat} {Q : wQ} {L : List (Option Value)} {st : List Value} {w : aw} {cn sn : Nat} {a0 : Option Value} {v : Int32} : wp d 52 Q 89 (a0 :: some (.int v) :: L) st w cn sn = wp d 52 Q 90 (a0 :: some (.int v) :: L) (.int v :: st) w cn sn := w_iload_n d_52_89 rfl
theorem d_52_90 : decode (mB 52) 90 = .ok (.putfield 52, 3) := by decide +kernel
theorem s_52_90 {d : Nat} {Q : wQ} {L : List (Option Value)} {st : List Value} {w : aw} {cn sn : Nat} {x : Int32} {a : Nat} : wp d 52 Q 90 L (.int x :: .ref a :: st) w cn sn = (kd w a = 5 ∧ wp d 52 Q 93 L st (uF w 258 a (.int x)) cn sn) := w_putfield d_52_90 (by decide +kernel : fT (mO 52) 52 = some (4, 2)) (by decide +kernel) ok_int
theorem d_52_93 : decode (mB 52) 93 = .ok (.iload_n 2, 1) := by decide +kernel
theorem s_52_93 {d : Nat} {Q : wQ} {L : List (Option Value)} {st : List Value} {w : aw} {cn sn : Nat} {a0 a1 : Option Value} {v : Int32} : wp d 52 Q 93 (a0 :: a1 :: some (.int v) :: L) st w cn sn = wp d 52 Q 94 (a0 :: a1 :: some (.int v) :: L) (.int v :: st) w cn sn := w_iload_n d_52_93 rfl
theorem d_52_94 : decode (mB 52) 94 = .ok (.ireturn, 1) := by decide +kernel
theorem s_52_94 {d : Nat} {Q : wQ} {L : List (Option Value)} {w : aw} {cn sn : Nat} {v : Int32} : wp d 52 Q 94 L [.int v] w cn sn = Q (some (.int v)) w := w_ireturn d_52_94 rfl
