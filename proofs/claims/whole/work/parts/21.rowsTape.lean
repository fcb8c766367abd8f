theorem d_56_0 : decode (mB 56) 0 = .ok (.aload_n 0, 1) := by decide +kernel
theorem s_56_0 {d : Nat} {Q : wQ} {L : List (Option Value)} {st : List Value} {w : aw} {cn sn : Nat} {v : Nat} : wp d 56 Q 0 (some (.ref v) :: L) st w cn sn = wp d 56 Q 1 (some (.ref v) :: L) (.ref v :: st) w cn sn := w_aload_n d_56_0 rfl
theorem d_56_1 : decode (mB 56) 1 = .ok (.invokespecial 1, 3) := by decide +kernel
theorem s_56_1 {d : Nat} {Q : wQ} {L : List (Option Value)} {st : List Value} {w : aw} {cn sn : Nat} {b : Nat} : wp d 56 Q 1 L (.ref b :: st) w cn sn = (catS st ≤ 8 ∧ wp d 56 Q 4 L st w cn sn) := w_objinit d_56_1 (by decide +kernel : cT (mO 56) 1 = some (3, 0))
theorem d_56_4 : decode (mB 56) 4 = .ok (.aload_n 0, 1) := by decide +kernel
theorem s_56_4 {d : Nat} {Q : wQ} {L : List (Option Value)} {st : List Value} {w : aw} {cn sn : Nat} {v : Nat} : wp d 56 Q 4 (some (.ref v) :: L) st w cn sn = wp d 56 Q 5 (some (.ref v) :: L) (.ref v :: st) w cn sn := w_aload_n d_56_4 rfl
theorem d_56_5 : decode (mB 56) 5 = .ok (.sipush 8000, 3) := by decide +kernel
theorem s_56_5 {d : Nat} {Q : wQ} {L : List (Option Value)} {st : List Value} {w : aw} {cn sn : Nat}  : wp d 56 Q 5 L st w cn sn = wp d 56 Q 8 L (.int 8000 :: st) w cn sn := w_sipush d_56_5 (by decide)
theorem d_56_8 : decode (mB 56) 8 = .ok (.newarray .byte, 2) := by decide +kernel
theorem s_56_8 {d : Nat} {Q : wQ} {L : List (Option Value)} {st : List Value} {w : aw} {cn sn : Nat} {v : Int32} : wp d 56 Q 8 L (.int v :: st) w cn sn = (¬ v < 0 ∧ v.toNatClampNeg * 1 ≤ 536870912 ∧ cn + 1 ≤ 1 ∧ sn + v.toNatClampNeg ≤ 8000 ∧ wp d 56 Q 10 L (.ref (zs w) :: st) (nw w 21 v.toNatClampNeg) (cn + 1) (sn + v.toNatClampNeg)) := w_newarray d_56_8 rfl (by decide +kernel) (by decide +kernel)
theorem d_56_10 : decode (mB 56) 10 = .ok (.putfield 9, 3) := by decide +kernel
theorem s_56_10 {d : Nat} {Q : wQ} {L : List (Option Value)} {st : List Value} {w : aw} {cn sn : Nat} {x : Nat} {a : Nat} : wp d 56 Q 10 L (.ref x :: .ref a :: st) w cn sn = (kd w a = 6 ∧ wp d 56 Q 13 L st (uF w 320 a (.ref x)) cn sn) := w_putfield d_56_10 (by decide +kernel : fT (mO 56) 9 = some (5, 0)) (by decide +kernel) ok_arr
theorem d_56_13 : decode (mB 56) 13 = .ok (.return_, 1) := by decide +kernel
theorem s_56_13 {d : Nat} {Q : wQ} {L : List (Option Value)} {w : aw} {cn sn : Nat}  : wp d 56 Q 13 L [] w cn sn = Q none w := w_return d_56_13 rfl
theorem d_57_0 : decode (mB 57) 0 = .ok (.aload_n 0, 1) := by decide +kernel
theorem s_57_0 {d : Nat} {Q : wQ} {L : List (Option Value)} {st : List Value} {w : aw} {cn sn : Nat} {v : Nat} : wp d 57 Q 0 (some (.ref v) :: L) st w cn sn = wp d 57 Q 1 (some (.ref v) :: L) (.ref v :: st) w cn sn := w_aload_n d_57_0 rfl
theorem d_57_1 : decode (mB 57) 1 = .ok (.getfield 13, 3) := by decide +kernel
theorem s_57_1 {d : Nat} {Q : wQ} {L : List (Option Value)} {st : List Value} {w : aw} {cn sn : Nat} {a : Nat} : wp d 57 Q 1 L (.ref a :: st) w cn sn = (kd w a = 6 ∧ wp d 57 Q 4 L (fd w 321 a :: st) w cn sn) := w_getfield d_57_1 (by decide +kernel : fT (mO 57) 13 = some (5, 1))
theorem d_57_4 : decode (mB 57) 4 = .ok (.iload_n 1, 1) := by decide +kernel
theorem s_57_4 {d : Nat} {Q : wQ} {L : List (Option Value)} {st : List Value} {w : aw} {cn sn : Nat} {a0 : Option Value} {v : Int32} : wp d 57 Q 4 (a0 :: some (.int v) :: L) st w cn sn = wp d 57 Q 5 (a0 :: some (.int v) :: L) (.int v :: st) w cn sn := w_iload_n d_57_4 rfl
theorem d_57_5 : decode (mB 57) 5 = .ok (.iadd, 1) := by decide +kernel
theorem s_57_5 {d : Nat} {Q : wQ} {L : List (Option Value)} {st : List Value} {w : aw} {cn sn : Nat} {a b : Int32} : wp d 57 Q 5 L (.int b :: .int a :: st) w cn sn = wp d 57 Q 6 L (.int (a + b) :: st) w cn sn := wp_row d_57_5 _ _ _ _ _
theorem d_57_6 : decode (mB 57) 6 = .ok (.sipush 8000, 3) := by decide +kernel
theorem s_57_6 {d : Nat} {Q : wQ} {L : List (Option Value)} {st : List Value} {w : aw} {cn sn : Nat}  : wp d 57 Q 6 L st w cn sn = wp d 57 Q 9 L (.int 8000 :: st) w cn sn := w_sipush d_57_6 (by decide)
theorem d_57_9 : decode (mB 57) 9 = .ok (.if_icmp .gt 7, 3) := by decide +kernel
theorem s_57_9 {d : Nat} {Q : wQ} {L : List (Option Value)} {st : List Value} {w : aw} {cn sn : Nat} {a b : Int32} : wp d 57 Q 9 L (.int b :: .int a :: st) w cn sn = ((b < a → wp d 57 Q 16 L st w cn sn) ∧ (¬ b < a → wp d 57 Q 12 L st w cn sn)) := w_icgt d_57_9 (by decide)
theorem d_57_12 : decode (mB 57) 12 = .ok (.iconst 1, 1) := by decide +kernel
theorem s_57_12 {d : Nat} {Q : wQ} {L : List (Option Value)} {st : List Value} {w : aw} {cn sn : Nat}  : wp d 57 Q 12 L st w cn sn = wp d 57 Q 13 L (.int 1 :: st) w cn sn := w_iconst d_57_12 (by decide)
theorem d_57_13 : decode (mB 57) 13 = .ok (.goto 4, 3) := by decide +kernel
theorem s_57_13 {d : Nat} {Q : wQ} {L : List (Option Value)} {st : List Value} {w : aw} {cn sn : Nat}  : wp d 57 Q 13 L st w cn sn = wp d 57 Q 17 L st w cn sn := w_goto d_57_13 (by decide)
theorem d_57_16 : decode (mB 57) 16 = .ok (.iconst 0, 1) := by decide +kernel
theorem s_57_16 {d : Nat} {Q : wQ} {L : List (Option Value)} {st : List Value} {w : aw} {cn sn : Nat}  : wp d 57 Q 16 L st w cn sn = wp d 57 Q 17 L (.int 0 :: st) w cn sn := w_iconst d_57_16 (by decide)
theorem d_57_17 : decode (mB 57) 17 = .ok (.ireturn, 1) := by decide +kernel
theorem s_57_17 {d : Nat} {Q : wQ} {L : List (Option Value)} {w : aw} {cn sn : Nat} {v : Int32} : wp d 57 Q 17 L [.int v] w cn sn = (narrow .boolean (.int v) = .int v ∧ Q (some (.int v)) w) := w_zreturn d_57_17 rfl
theorem d_58_0 : decode (mB 58) 0 = .ok (.aload_n 0, 1) := by decide +kernel
theorem s_58_0 {d : Nat} {Q : wQ} {L : List (Option Value)} {st : List Value} {w : aw} {cn sn : Nat} {v : Nat} : wp d 58 Q 0 (some (.ref v) :: L) st w cn sn = wp d 58 Q 1 (some (.ref v) :: L) (.ref v :: st) w cn sn := w_aload_n d_58_0 rfl
theorem d_58_1 : decode (mB 58) 1 = .ok (.iconst 4, 1) := by decide +kernel
theorem s_58_1 {d : Nat} {Q : wQ} {L : List (Option Value)} {st : List Value} {w : aw} {cn sn : Nat}  : wp d 58 Q 1 L st w cn sn = wp d 58 Q 2 L (.int 4 :: st) w cn sn := w_iconst d_58_1 (by decide)
theorem d_58_2 : decode (mB 58) 2 = .ok (.invokevirtual 17, 3) := by decide +kernel
theorem s_58_2 {d : Nat} {Q : wQ} {L : List (Option Value)} {st : List Value} {w : aw} {cn sn : Nat} {v0 : Value} {b : Nat} : wp d 58 Q 2 L (v0 :: .ref b :: st) w cn sn = (kd w b = 6 ∧ catS st ≤ 8 ∧ wpD d 57 [.ref b, v0] w (fun v w' => wp d 58 Q 5 L (v.toList ++ st) w' cn sn)) := w_virtual (As := [v0]) d_58_2 (by decide +kernel : cT (mO 58) 17 = some (0, 57)) rfl (by decide +kernel) rfl (by decide +kernel) rfl
theorem d_58_5 : decode (mB 58) 5 = .ok (.ifCond .ne 4, 3) := by decide +kernel
theorem s_58_5 {d : Nat} {Q : wQ} {L : List (Option Value)} {st : List Value} {w : aw} {cn sn : Nat} {x : Int32} : wp d 58 Q 5 L (.int x :: st) w cn sn = ((¬ x = 0 → wp d 58 Q 9 L st w cn sn) ∧ (x = 0 → wp d 58 Q 8 L st w cn sn)) := w_ifne d_58_5 (by decide)
theorem d_58_8 : decode (mB 58) 8 = .ok (.return_, 1) := by decide +kernel
theorem s_58_8 {d : Nat} {Q : wQ} {L : List (Option Value)} {w : aw} {cn sn : Nat}  : wp d 58 Q 8 L [] w cn sn = Q none w := w_return d_58_8 rfl
theorem d_58_9 : decode (mB 58) 9 = .ok (.bipush 24, 2) := by decide +kernel
theorem s_58_9 {d : Nat} {Q : wQ} {L : List (Option Value)} {st : List Value} {w : aw} {cn sn : Nat}  : wp d 58 Q 9 L st w cn sn = wp d 58 Q 11 L (.int 24 :: st) w cn sn := w_bipush d_58_9 (by decide)
theorem d_58_11 : decode (mB 58) 11 = .ok (.istore_n 2, 1) := by decide +kernel
theorem s_58_11 {d : Nat} {Q : wQ} {L : List (Option Value)} {st : List Value} {w : aw} {cn sn : Nat} {a0 a1 a2 : Option Value} {v : Int32} : wp d 58 Q 11 (a0 :: a1 :: a2 :: L) (.int v :: st) w cn sn = wp d 58 Q 12 (a0 :: clr a1 :: some (.int v) :: L) st w cn sn := w_istore_n d_58_11 (Nat.le_add_left 3 _) rfl
theorem d_58_12 : decode (mB 58) 12 = .ok (.iload_n 2, 1) := by decide +kernel
theorem s_58_12 {d : Nat} {Q : wQ} {L : List (Option Value)} {st : List Value} {w : aw} {cn sn : Nat} {a0 a1 : Option Value} {v : Int32} : wp d 58 Q 12 (a0 :: a1 :: some (.int v) :: L) st w cn sn = wp d 58 Q 13 (a0 :: a1 :: some (.int v) :: L) (.int v :: st) w cn sn := w_iload_n d_58_12 rfl
theorem d_58_13 : decode (mB 58) 13 = .ok (.ifCond .lt 32, 3) := by decide +kernel
theorem s_58_13 {d : Nat} {Q : wQ} {L : List (Option Value)} {st : List Value} {w : aw} {cn sn : Nat} {x : Int32} : wp d 58 Q 13 L (.int x :: st) w cn sn = ((x < 0 → wp d 58 Q 45 L st w cn sn) ∧ (¬ x < 0 → wp d 58 Q 16 L st w cn sn)) := w_iflt d_58_13 (by decide)
theorem d_58_16 : decode (mB 58) 16 = .ok (.aload_n 0, 1) := by decide +kernel
theorem s_58_16 {d : Nat} {Q : wQ} {L : List (Option Value)} {st : List Value} {w : aw} {cn sn : Nat} {v : Nat} : wp d 58 Q 16 (some (.ref v) :: L) st w cn sn = wp d 58 Q 17 (some (.ref v) :: L) (.ref v :: st) w cn sn := w_aload_n d_58_16 rfl
theorem d_58_17 : decode (mB 58) 17 = .ok (.getfield 9, 3) := by decide +kernel
theorem s_58_17 {d : Nat} {Q : wQ} {L : List (Option Value)} {st : List Value} {w : aw} {cn sn : Nat} {a : Nat} : wp d 58 Q 17 L (.ref a :: st) w cn sn = (kd w a = 6 ∧ wp d 58 Q 20 L (fd w 320 a :: st) w cn sn) := w_getfield d_58_17 (by decide +kernel : fT (mO 58) 9 = some (5, 0))
theorem d_58_20 : decode (mB 58) 20 = .ok (.aload_n 0, 1) := by decide +kernel
theorem s_58_20 {d : Nat} {Q : wQ} {L : List (Option Value)} {st : List Value} {w : aw} {cn sn : Nat} {v : Nat} : wp d 58 Q 20 (some (.ref v) :: L) st w cn sn = wp d 58 Q 21 (some (.ref v) :: L) (.ref v :: st) w cn sn := w_aload_n d_58_20 rfl
theorem d_58_21 : decode (mB 58) 21 = .ok (.getfield 13, 3) := by decide +kernel
theorem s_58_21 {d : Nat} {Q : wQ} {L : List (Option Value)} {st : List Value} {w : aw} {cn sn : Nat} {a : Nat} : wp d 58 Q 21 L (.ref a :: st) w cn sn = (kd w a = 6 ∧ wp d 58 Q 24 L (fd w 321 a :: st) w cn sn) := w_getfield d_58_21 (by decide +kernel : fT (mO 58) 13 = some (5, 1))
theorem d_58_24 : decode (mB 58) 24 = .ok (.iload_n 1, 1) := by decide +kernel
theorem s_58_24 {d : Nat} {Q : wQ} {L : List (Option Value)} {st : List Value} {w : aw} {cn sn : Nat} {a0 : Option Value} {v : Int32} : wp d 58 Q 24 (a0 :: some (.int v) :: L) st w cn sn = wp d 58 Q 25 (a0 :: some (.int v) :: L) (.int v :: st) w cn sn := w_iload_n d_58_24 rfl
theorem d_58_25 : decode (mB 58) 25 = .ok (.iload_n 2, 1) := by decide +kernel
theorem s_58_25 {d : Nat} {Q : wQ} {L : List (Option Value)} {st : List Value} {w : aw} {cn sn : Nat} {a0 a1 : Option Value} {v : Int32} : wp d 58 Q 25 (a0 :: a1 :: some (.int v) :: L) st w cn sn = wp d 58 Q 26 (a0 :: a1 :: some (.int v) :: L) (.int v :: st) w cn sn := w_iload_n d_58_25 rfl
theorem d_58_26 : decode (mB 58) 26 = .ok (.ishr, 1) := by decide +kernel
theorem s_58_26 {d : Nat} {Q : wQ} {L : List (Option Value)} {st : List Value} {w : aw} {cn sn : Nat} {a b : Int32} : wp d 58 Q 26 L (.int b :: .int a :: st) w cn sn = wp d 58 Q 27 L (.int (a >>> (b &&& 31)) :: st) w cn sn := wp_row d_58_26 _ _ _ _ _
theorem d_58_27 : decode (mB 58) 27 = .ok (.i2b, 1) := by decide +kernel
theorem s_58_27 {d : Nat} {Q : wQ} {L : List (Option Value)} {st : List Value} {w : aw} {cn sn : Nat} {a : Int32} : wp d 58 Q 27 L (.int a :: st) w cn sn = wp d 58 Q 28 L (.int a.toInt8.toInt32 :: st) w cn sn := wp_row d_58_27 _ _ _ _ _
theorem d_58_28 : decode (mB 58) 28 = .ok (.bastore, 1) := by decide +kernel
theorem s_58_28 {d : Nat} {Q : wQ} {L : List (Option Value)} {st : List Value} {w : aw} {cn sn : Nat} {a : Nat} {i x : Int32} : wp d 58 Q 28 L (.int x :: .int i :: .ref a :: st) w cn sn = (inR i (ln w a) ∧ ((kd w a = 21 ∧ wp d 58 Q 29 L st (uA w a i.toNatClampNeg (vp_nar .byte x)) cn sn) ∨ (kd w a = 23 ∧ wp d 58 Q 29 L st (uA w a i.toNatClampNeg (vp_nar .boolean x)) cn sn))) := wp_row d_58_28 _ _ _ _ _
theorem d_58_29 : decode (mB 58) 29 = .ok (.aload_n 0, 1) := by decide +kernel
theorem s_58_29 {d : Nat} {Q : wQ} {L : List (Option Value)} {st : List Value} {w : aw} {cn sn : Nat} {v : Nat} : wp d 58 Q 29 (some (.ref v) :: L) st w cn sn = wp d 58 Q 30 (some (.ref v) :: L) (.ref v :: st) w cn sn := w_aload_n d_58_29 rfl
theorem d_58_30 : decode (mB 58) 30 = .ok (.dup, 1) := by decide +kernel
theorem s_58_30 {d : Nat} {Q : wQ} {L : List (Option Value)} {st : List Value} {w : aw} {cn sn : Nat} {v : Value} : wp d 58 Q 30 L (v :: st) w cn sn = (v.category = 1 ∧ wp d 58 Q 31 L (v :: v :: st) w cn sn) := wp_row d_58_30 _ _ _ _ _
theorem d_58_31 : decode (mB 58) 31 = .ok (.getfield 13, 3) := by decide +kernel
theorem s_58_31 {d : Nat} {Q : wQ} {L : List (Option Value)} {st : List Value} {w : aw} {cn sn : Nat} {a : Nat} : wp d 58 Q 31 L (.ref a :: st) w cn sn = (kd w a = 6 ∧ wp d 58 Q 34 L (fd w 321 a :: st) w cn sn) := w_getfield d_58_31 (by decide +kernel : fT (mO 58) 13 = some (5, 1))
theorem d_58_34 : decode (mB 58) 34 = .ok (.iconst 1, 1) := by decide +kernel
theorem s_58_34 {d : Nat} {Q : wQ} {L : List (Option Value)} {st : List Value} {w : aw} {cn sn : Nat}  : wp d 58 Q 34 L st w cn sn = wp d 58 Q 35 L (.int 1 :: st) w cn sn := w_iconst d_58_34 (by decide)
theorem d_58_35 : decode (mB 58) 35 = .ok (.iadd, 1) := by decide +kernel
theorem s_58_35 {d : Nat} {Q : wQ} {L : List (Option Value)} {st : List Value} {w : aw} {cn sn : Nat} {a b : Int32} : wp d 58 Q 35 L (.int b :: .int a :: st) w cn sn = wp d 58 Q 36 L (.int (a + b) :: st) w cn sn := wp_row d_58_35 _ _ _ _ _
theorem d_58_36 : decode (mB 58) 36 = .ok (.putfield 13, 3) := by decide +kernel
theorem s_58_36 {d : Nat} {Q : wQ} {L : List (Option Value)} {st : List Value} {w : aw} {cn sn : Nat} {x : Int32} {a : Nat} : wp d 58 Q 36 L (.int x :: .ref a :: st) w cn sn = (kd w a = 6 ∧ wp d 58 Q 39 L st (uF w 321 a (.int x)) cn sn) := w_putfield d_58_36 (by decide +kernel : fT (mO 58) 13 = some (5, 1)) (by decide +kernel) ok_int
theorem d_58_39 : decode (mB 58) 39 = .ok (.iinc 2 (-8), 3) := by decide +kernel
theorem s_58_39 {d : Nat} {Q : wQ} {L : List (Option Value)} {st : List Value} {w : aw} {cn sn : Nat} {a0 a1 : Option Value} {v : Int32} : wp d 58 Q 39 (a0 :: a1 :: some (.int v) :: L) st w cn sn = wp d 58 Q 42 (a0 :: clr a1 :: some (.int (v + (-8))) :: L) st w cn sn := w_iinc d_58_39 rfl (by decide) rfl
theorem d_58_42 : decode (mB 58) 42 = .ok (.goto (-30), 3) := by decide +kernel
theorem s_58_42 {d : Nat} {Q : wQ} {L : List (Option Value)} {st : List Value} {w : aw} {cn sn : Nat}  : wp d 58 Q 42 L st w cn sn = wp d 58 Q 12 L st w cn sn := w_goto d_58_42 (by decide)
theorem d_58_45 : decode (mB 58) 45 = .ok (.return_, 1) := by decide +kernel
theorem s_58_45 {d : Nat} {Q : wQ} {L : List (Option Value)} {w : aw} {cn sn : Nat}  : wp d 58 Q 45 L [] w cn sn = Q none w := w_return d_58_45 rfl
theorem d_59_0 : decode (mB 59) 0 = .ok (.iload_n 1, 1) := by decide +kernel
theorem s_59_0 {d : Nat} {Q : wQ} {L : List (Option Value)} {st : List Value} {w : aw} {cn sn : Nat} {a0 : Option Value} {v : Int32} : wp d 59 Q 0 (a0 :: some (.int v) :: L) st w cn sn = wp d 59 Q 1 (a0 :: some (.int v) :: L) (.int v :: st) w cn sn := w_iload_n d_59_0 rfl
theorem d_59_1 : decode (mB 59) 1 = .ok (.ifCond .lt 11, 3) := by decide +kernel
theorem s_59_1 {d : Nat} {Q : wQ} {L : List (Option Value)} {st : List Value} {w : aw} {cn sn : Nat} {x : Int32} : wp d 59 Q 1 L (.int x :: st) w cn sn = ((x < 0 → wp d 59 Q 12 L st w cn sn) ∧ (¬ x < 0 → wp d 59 Q 4 L st w cn sn)) := w_iflt d_59_1 (by decide)
theorem d_59_4 : decode (mB 59) 4 = .ok (.iload_n 1, 1) := by decide +kernel
theorem s_59_4 {d : Nat} {Q : wQ} {L : List (Option Value)} {st : List Value} {w : aw} {cn sn : Nat} {a0 : Option Value} {v : Int32} : wp d 59 Q 4 (a0 :: some (.int v) :: L) st w cn sn = wp d 59 Q 5 (a0 :: some (.int v) :: L) (.int v :: st) w cn sn := w_iload_n d_59_4 rfl
theorem d_59_5 : decode (mB 59) 5 = .ok (.aload_n 0, 1) := by decide +kernel
theorem s_59_5 {d : Nat} {Q : wQ} {L : List (Option Value)} {st : List Value} {w : aw} {cn sn : Nat} {v : Nat} : wp d 59 Q 5 (some (.ref v) :: L) st w cn sn = wp d 59 Q 6 (some (.ref v) :: L) (.ref v :: st) w cn sn := w_aload_n d_59_5 rfl
theorem d_59_6 : decode (mB 59) 6 = .ok (.getfield 13, 3) := by decide +kernel
theorem s_59_6 {d : Nat} {Q : wQ} {L : List (Option Value)} {st : List Value} {w : aw} {cn sn : Nat} {a : Nat} : wp d 59 Q 6 L (.ref a :: st) w cn sn = (kd w a = 6 ∧ wp d 59 Q 9 L (fd w 321 a :: st) w cn sn) := w_getfield d_59_6 (by decide +kernel : fT (mO 59) 13 = some (5, 1))
theorem d_59_9 : decode (mB 59) 9 = .ok (.if_icmp .le 5, 3) := by decide +kernel
theorem s_59_9 {d : Nat} {Q : wQ} {L : List (Option Value)} {st : List Value} {w : aw} {cn sn : Nat} {a b : Int32} : wp d 59 Q 9 L (.int b :: .int a :: st) w cn sn = ((a ≤ b → wp d 59 Q 14 L st w cn sn) ∧ (¬ a ≤ b → wp d 59 Q 12 L st w cn sn)) := w_icle d_59_9 (by decide)
theorem d_59_12 : decode (mB 59) 12 = .ok (.iconst 0, 1) := by decide +kernel
theorem s_59_12 {d : Nat} {Q : wQ} {L : List (Option Value)} {st : List Value} {w : aw} {cn sn : Nat}  : wp d 59 Q 12 L st w cn sn = wp d 59 Q 13 L (.int 0 :: st) w cn sn := w_iconst d_59_12 (by decide)
theorem d_59_13 : decode (mB 59) 13 = .ok (.ireturn, 1) := by decide +kernel
theorem s_59_13 {d : Nat} {Q : wQ} {L : List (Option Value)} {w : aw} {cn sn : Nat} {v : Int32} : wp d 59 Q 13 L [.int v] w cn sn = (narrow .boolean (.int v) = .int v ∧ Q (some (.int v)) w) := w_zreturn d_59_13 rfl
theorem d_59_14 : decode (mB 59) 14 = .ok (.aload_n 0, 1) := by decide +kernel
theorem s_59_14 {d : Nat} {Q : wQ} {L : List (Option Value)} {st : List Value} {w : aw} {cn sn : Nat} {v : Nat} : wp d 59 Q 14 (some (.ref v) :: L) st w cn sn = wp d 59 Q 15 (some (.ref v) :: L) (.ref v :: st) w cn sn := w_aload_n d_59_14 rfl
theorem d_59_15 : decode (mB 59) 15 = .ok (.iload_n 1, 1) := by decide +kernel
theorem s_59_15 {d : Nat} {Q : wQ} {L : List (Option Value)} {st : List Value} {w : aw} {cn sn : Nat} {a0 : Option Value} {v : Int32} : wp d 59 Q 15 (a0 :: some (.int v) :: L) st w cn sn = wp d 59 Q 16 (a0 :: some (.int v) :: L) (.int v :: st) w cn sn := w_iload_n d_59_15 rfl
theorem d_59_16 : decode (mB 59) 16 = .ok (.putfield 13, 3) := by decide +kernel
theorem s_59_16 {d : Nat} {Q : wQ} {L : List (Option Value)} {st : List Value} {w : aw} {cn sn : Nat} {x : Int32} {a : Nat} : wp d 59 Q 16 L (.int x :: .ref a :: st) w cn sn = (kd w a = 6 ∧ wp d 59 Q 19 L st (uF w 321 a (.int x)) cn sn) := w_putfield d_59_16 (by decide +kernel : fT (mO 59) 13 = some (5, 1)) (by decide +kernel) ok_int
theorem d_59_19 : decode (mB 59) 19 = .ok (.iconst 1, 1) := by decide +kernel
theorem s_59_19 {d : Nat} {Q : wQ} {L : List (Option Value)} {st : List Value} {w : aw} {cn sn : Nat}  : wp d 59 Q 19 L st w cn sn = wp d 59 Q 20 L (.int 1 :: st) w cn sn := w_iconst d_59_19 (by decide)
theorem d_59_20 : decode (mB 59) 20 = .ok (.ireturn, 1) := by decide +kernel
theorem s_59_20 {d : Nat} {Q : wQ} {L : List (Option Value)} {w : aw} {cn sn : Nat} {v : Int32} : wp d 59 Q 20 L [.int v] w cn sn = (narrow .boolean (.int v) = .int v ∧ Q (some (.int v)) w) := w_zreturn d_59_20 rfl
theorem d_60_0 : decode (mB 60) 0 = .ok (.iload_n 1, 1) := by decide +kernel
theorem s_60_0 {d : Nat} {Q : wQ} {L : List (Option Value)} {st : List Value} {w : aw} {cn sn : Nat} {a0 : Option Value} {v : Int32} : wp d 60 Q 0 (a0 :: some (.int v) :: L) st w cn sn = wp d 60 Q 1 (a0 :: some (.int v) :: L) (.int v :: st) w cn sn := w_iload_n d_60_0 rfl
theorem d_60_1 : decode (mB 60) 1 = .ok (.ifCond .lt 11, 3) := by decide +kernel
theorem s_60_1 {d : Nat} {Q : wQ} {L : List (Option Value)} {st : List Value} {w : aw} {cn sn : Nat} {x : Int32} : wp d 60 Q 1 L (.int x :: st) w cn sn = ((x < 0 → wp d 60 Q 12 L st w cn sn) ∧ (¬ x < 0 → wp d 60 Q 4 L st w cn sn)) := w_iflt d_60_1 (by decide)
theorem d_60_4 : decode (mB 60) 4 = .ok (.iload_n 1, 1) := by decide +kernel
theorem s_60_4 {d : Nat} {Q : wQ} {L : List (Option Value)} {st : List Value} {w : aw} {cn sn : Nat} {a0 : Option Value} {v : Int32} : wp d 60 Q 4 (a0 :: some (.int v) :: L) st w cn sn = wp d 60 Q 5 (a0 :: some (.int v) :: L) (.int v :: st) w cn sn := w_iload_n d_60_4 rfl
theorem d_60_5 : decode (mB 60) 5 = .ok (.aload_n 0, 1) := by decide +kernel
theorem s_60_5 {d : Nat} {Q : wQ} {L : List (Option Value)} {st : List Value} {w : aw} {cn sn : Nat} {v : Nat} : wp d 60 Q 5 (some (.ref v) :: L) st w cn sn = wp d 60 Q 6 (some (.ref v) :: L) (.ref v :: st) w cn sn := w_aload_n d_60_5 rfl
theorem d_60_6 : decode (mB 60) 6 = .ok (.getfield 13, 3) := by decide +kernel
theorem s_60_6 {d : Nat} {Q : wQ} {L : List (Option Value)} {st : List Value} {w : aw} {cn sn : Nat} {a : Nat} : wp d 60 Q 6 L (.ref a :: st) w cn sn = (kd w a = 6 ∧ wp d 60 Q 9 L (fd w 321 a :: st) w cn sn) := w_getfield d_60_6 (by decide +kernel : fT (mO 60) 13 = some (5, 1))
theorem d_60_9 : decode (mB 60) 9 = .ok (.if_icmp .lt 7, 3) := by decide +kernel
theorem s_60_9 {d : Nat} {Q : wQ} {L : List (Option Value)} {st : List Value} {w : aw} {cn sn : Nat} {a b : Int32} : wp d 60 Q 9 L (.int b :: .int a :: st) w cn sn = ((a < b → wp d 60 Q 16 L st w cn sn) ∧ (¬ a < b → wp d 60 Q 12 L st w cn sn)) := w_iclt d_60_9 (by decide)
theorem d_60_12 : decode (mB 60) 12 = .ok (.iconst (-1), 1) := by decide +kernel
theorem s_60_12 {d : Nat} {Q : wQ} {L : List (Option Value)} {st : List Value} {w : aw} {cn sn : Nat}  : wp d 60 Q 12 L st w cn sn = wp d 60 Q 13 L (.int (-1) :: st) w cn sn := w_iconst d_60_12 (by decide)
theorem d_60_13 : decode (mB 60) 13 = .ok (.goto 13, 3) := by decide +kernel
theorem s_60_13 {d : Nat} {Q : wQ} {L : List (Option Value)} {st : List Value} {w : aw} {cn sn : Nat}  : wp d 60 Q 13 L st w cn sn = wp d 60 Q 26 L st w cn sn := w_goto d_60_13 (by decide)
theorem d_60_16 : decode (mB 60) 16 = .ok (.aload_n 0, 1) := by decide +kernel
theorem s_60_16 {d : Nat} {Q : wQ} {L : List (Option Value)} {st : List Value} {w : aw} {cn sn : Nat} {v : Nat} : wp d 60 Q 16 (some (.ref v) :: L) st w cn sn = wp d 60 Q 17 (some (.ref v) :: L) (.ref v :: st) w cn sn := w_aload_n d_60_16 rfl
theorem d_60_17 : decode (mB 60) 17 = .ok (.getfield 9, 3) := by decide +kernel
theorem s_60_17 {d : Nat} {Q : wQ} {L : List (Option Value)} {st : List Value} {w : aw} {cn sn : Nat} {a : Nat} : wp d 60 Q 17 L (.ref a :: st) w cn sn = (kd w a = 6 ∧ wp d 60 Q 20 L (fd w 320 a :: st) w cn sn) := w_getfield d_60_17 (by decide +kernel : fT (mO 60) 9 = some (5, 0))
theorem d_60_20 : decode (mB 60) 20 = .ok (.iload_n 1, 1) := by decide +kernel
theorem s_60_20 {d : Nat} {Q : wQ} {L : List (Option Value)} {st : List Value} {w : aw} {cn sn : Nat} {a0 : Option Value} {v : Int32} : wp d 60 Q 20 (a0 :: some (.int v) :: L) st w cn sn = wp d 60 Q 21 (a0 :: some (.int v) :: L) (.int v :: st) w cn sn := w_iload_n d_60_20 rfl
theorem d_60_21 : decode (mB 60) 21 = .ok (.baload, 1) := by decide +kernel
theorem s_60_21 {d : Nat} {Q : wQ} {L : List (Option Value)} {st : List Value} {w : aw} {cn sn : Nat} {a : Nat} {i : Int32} : wp d 60 Q 21 L (.int i :: .ref a :: st) w cn sn = ((kd w a = 21 ∨ kd w a = 23 ∨ kd w a = 31) ∧ inR i (ln w a) ∧ wp d 60 Q 22 L (.int (ai w a i.toNatClampNeg) :: st) w cn sn) := wp_row d_60_21 _ _ _ _ _
theorem d_60_22 : decode (mB 60) 22 = .ok (.sipush 255, 3) := by decide +kernel
theorem s_60_22 {d : Nat} {Q : wQ} {L : List (Option Value)} {st : List Value} {w : aw} {cn sn : Nat}  : wp d 60 Q 22 L st w cn sn = wp d 60 Q 25 L (.int 255 :: st) w cn sn := w_sipush d_60_22 (by decide)
theorem d_60_25 : decode (mB 60) 25 = .ok (.iand, 1) := by decide +kernel
theorem s_60_25 {d : Nat} {Q : wQ} {L : List (Option Value)} {st : List Value} {w : aw} {cn sn : Nat} {a b : Int32} : wp d 60 Q 25 L (.int b :: .int a :: st) w cn sn = wp d 60 Q 26 L (.int (a &&& b) :: st) w cn sn := wp_row d_60_25 _ _ _ _ _
theorem d_60_26 : decode (mB 60) 26 = .ok (.ireturn, 1) := by decide +kernel
theorem s_60_26 {d : Nat} {Q : wQ} {L : List (Option Value)} {w : aw} {cn sn : Nat} {v : Int32} : wp d 60 Q 26 L [.int v] w cn sn = Q (some (.int v)) w := w_ireturn d_60_26 rfl
