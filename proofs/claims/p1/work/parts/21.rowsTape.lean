theorem d_53_0 : decode (mB 53) 0 = .ok (.aload_n 0, 1) := by decide +kernel
theorem s_53_0 {d : Nat} {Q : wQ} {L : List (Option Value)} {st : List Value} {w : aw} {cn sn : Nat} {v : Nat} : wp d 53 Q 0 (some (.ref v) :: L) st w cn sn = wp d 53 Q 1 (some (.ref v) :: L) (.ref v :: st) w cn sn := w_aload_n d_53_0 rfl
theorem d_53_1 : decode (mB 53) 1 = .ok (.invokespecial 1, 3) := by decide +kernel
theorem s_53_1 {d : Nat} {Q : wQ} {L : List (Option Value)} {st : List Value} {w : aw} {cn sn : Nat} {b : Nat} : wp d 53 Q 1 L (.ref b :: st) w cn sn = (catS st ≤ 8 ∧ wp d 53 Q 4 L st w cn sn) := w_objinit d_53_1 (by decide +kernel : cT (mO 53) 1 = some (3, 0))
theorem d_53_4 : decode (mB 53) 4 = .ok (.aload_n 0, 1) := by decide +kernel
theorem s_53_4 {d : Nat} {Q : wQ} {L : List (Option Value)} {st : List Value} {w : aw} {cn sn : Nat} {v : Nat} : wp d 53 Q 4 (some (.ref v) :: L) st w cn sn = wp d 53 Q 5 (some (.ref v) :: L) (.ref v :: st) w cn sn := w_aload_n d_53_4 rfl
theorem d_53_5 : decode (mB 53) 5 = .ok (.sipush 8000, 3) := by decide +kernel
theorem s_53_5 {d : Nat} {Q : wQ} {L : List (Option Value)} {st : List Value} {w : aw} {cn sn : Nat}  : wp d 53 Q 5 L st w cn sn = wp d 53 Q 8 L (.int 8000 :: st) w cn sn := w_sipush d_53_5 (by decide)
theorem d_53_8 : decode (mB 53) 8 = .ok (.newarray .byte, 2) := by decide +kernel
theorem s_53_8 {d : Nat} {Q : wQ} {L : List (Option Value)} {st : List Value} {w : aw} {cn sn : Nat} {v : Int32} : wp d 53 Q 8 L (.int v :: st) w cn sn = (¬ v < 0 ∧ v.toNatClampNeg * 1 ≤ 536870912 ∧ cn + 1 ≤ 1 ∧ sn + v.toNatClampNeg ≤ 8000 ∧ wp d 53 Q 10 L (.ref (zs w) :: st) (nw w 21 v.toNatClampNeg) (cn + 1) (sn + v.toNatClampNeg)) := w_newarray d_53_8 rfl (by decide +kernel) (by decide +kernel)
theorem d_53_10 : decode (mB 53) 10 = .ok (.putfield 9, 3) := by decide +kernel
theorem s_53_10 {d : Nat} {Q : wQ} {L : List (Option Value)} {st : List Value} {w : aw} {cn sn : Nat} {x : Nat} {a : Nat} : wp d 53 Q 10 L (.ref x :: .ref a :: st) w cn sn = (kd w a = 6 ∧ wp d 53 Q 13 L st (uF w 320 a (.ref x)) cn sn) := w_putfield d_53_10 (by decide +kernel : fT (mO 53) 9 = some (5, 0)) (by decide +kernel) ok_arr
theorem d_53_13 : decode (mB 53) 13 = .ok (.return_, 1) := by decide +kernel
theorem s_53_13 {d : Nat} {Q : wQ} {L : List (Option Value)} {w : aw} {cn sn : Nat}  : wp d 53 Q 13 L [] w cn sn = Q none w := w_return d_53_13 rfl
theorem d_54_0 : decode (mB 54) 0 = .ok (.aload_n 0, 1) := by decide +kernel
theorem s_54_0 {d : Nat} {Q : wQ} {L : List (Option Value)} {st : List Value} {w : aw} {cn sn : Nat} {v : Nat} : wp d 54 Q 0 (some (.ref v) :: L) st w cn sn = wp d 54 Q 1 (some (.ref v) :: L) (.ref v :: st) w cn sn := w_aload_n d_54_0 rfl
theorem d_54_1 : decode (mB 54) 1 = .ok (.getfield 13, 3) := by decide +kernel
theorem s_54_1 {d : Nat} {Q : wQ} {L : List (Option Value)} {st : List Value} {w : aw} {cn sn : Nat} {a : Nat} : wp d 54 Q 1 L (.ref a :: st) w cn sn = (kd w a = 6 ∧ wp d 54 Q 4 L (fd w 321 a :: st) w cn sn) := w_getfield d_54_1 (by decide +kernel : fT (mO 54) 13 = some (5, 1))
theorem d_54_4 : decode (mB 54) 4 = .ok (.iload_n 1, 1) := by decide +kernel
theorem s_54_4 {d : Nat} {Q : wQ} {L : List (Option Value)} {st : List Value} {w : aw} {cn sn : Nat} {a0 : Option Value} {v : Int32} : wp d 54 Q 4 (a0 :: some (.int v) :: L) st w cn sn = wp d 54 Q 5 (a0 :: some (.int v) :: L) (.int v :: st) w cn sn := w_iload_n d_54_4 rfl
theorem d_54_5 : decode (mB 54) 5 = .ok (.iadd, 1) := by decide +kernel
theorem s_54_5 {d : Nat} {Q : wQ} {L : List (Option Value)} {st : List Value} {w : aw} {cn sn : Nat} {a b : Int32} : wp d 54 Q 5 L (.int b :: .int a :: st) w cn sn = wp d 54 Q 6 L (.int (a + b) :: st) w cn sn := wp_row d_54_5 _ _ _ _ _
theorem d_54_6 : decode (mB 54) 6 = .ok (.sipush 8000, 3) := by decide +kernel
theorem s_54_6 {d : Nat} {Q : wQ} {L : List (Option Value)} {st : List Value} {w : aw} {cn sn : Nat}  : wp d 54 Q 6 L st w cn sn = wp d 54 Q 9 L (.int 8000 :: st) w cn sn := w_sipush d_54_6 (by decide)
theorem d_54_9 : decode (mB 54) 9 = .ok (.if_icmp .gt 7, 3) := by decide +kernel
theorem s_54_9 {d : Nat} {Q : wQ} {L : List (Option Value)} {st : List Value} {w : aw} {cn sn : Nat} {a b : Int32} : wp d 54 Q 9 L (.int b :: .int a :: st) w cn sn = ((b < a → wp d 54 Q 16 L st w cn sn) ∧ (¬ b < a → wp d 54 Q 12 L st w cn sn)) := w_icgt d_54_9 (by decide)
theorem d_54_12 : decode (mB 54) 12 = .ok (.iconst 1, 1) := by decide +kernel
theorem s_54_12 {d : Nat} {Q : wQ} {L : List (Option Value)} {st : List Value} {w : aw} {cn sn : Nat}  : wp d 54 Q 12 L st w cn sn = wp d 54 Q 13 L (.int 1 :: st) w cn sn := w_iconst d_54_12 (by decide)
theorem d_54_13 : decode (mB 54) 13 = .ok (.goto 4, 3) := by decide +kernel
theorem s_54_13 {d : Nat} {Q : wQ} {L : List (Option Value)} {st : List Value} {w : aw} {cn sn : Nat}  : wp d 54 Q 13 L st w cn sn = wp d 54 Q 17 L st w cn sn := w_goto d_54_13 (by decide)
theorem d_54_16 : decode (mB 54) 16 = .ok (.iconst 0, 1) := by decide +kernel
theorem s_54_16 {d : Nat} {Q : wQ} {L : List (Option Value)} {st : List Value} {w : aw} {cn sn : Nat}  : wp d 54 Q 16 L st w cn sn = wp d 54 Q 17 L (.int 0 :: st) w cn sn := w_iconst d_54_16 (by decide)
theorem d_54_17 : decode (mB 54) 17 = .ok (.ireturn, 1) := by decide +kernel
theorem s_54_17 {d : Nat} {Q : wQ} {L : List (Option Value)} {w : aw} {cn sn : Nat} {v : Int32} : wp d 54 Q 17 L [.int v] w cn sn = (narrow .boolean (.int v) = .int v ∧ Q (some (.int v)) w) := w_zreturn d_54_17 rfl
theorem d_55_0 : decode (mB 55) 0 = .ok (.aload_n 0, 1) := by decide +kernel
theorem s_55_0 {d : Nat} {Q : wQ} {L : List (Option Value)} {st : List Value} {w : aw} {cn sn : Nat} {v : Nat} : wp d 55 Q 0 (some (.ref v) :: L) st w cn sn = wp d 55 Q 1 (some (.ref v) :: L) (.ref v :: st) w cn sn := w_aload_n d_55_0 rfl
theorem d_55_1 : decode (mB 55) 1 = .ok (.iconst 4, 1) := by decide +kernel
theorem s_55_1 {d : Nat} {Q : wQ} {L : List (Option Value)} {st : List Value} {w : aw} {cn sn : Nat}  : wp d 55 Q 1 L st w cn sn = wp d 55 Q 2 L (.int 4 :: st) w cn sn := w_iconst d_55_1 (by decide)
theorem d_55_2 : decode (mB 55) 2 = .ok (.invokevirtual 17, 3) := by decide +kernel
theorem s_55_2 {d : Nat} {Q : wQ} {L : List (Option Value)} {st : List Value} {w : aw} {cn sn : Nat} {v0 : Value} {b : Nat} : wp d 55 Q 2 L (v0 :: .ref b :: st) w cn sn = (kd w b = 6 ∧ catS st ≤ 8 ∧ wpD d 54 [.ref b, v0] w (fun v w' => wp d 55 Q 5 L (v.toList ++ st) w' cn sn)) := w_virtual (As := [v0]) d_55_2 (by decide +kernel : cT (mO 55) 17 = some (0, 54)) rfl (by decide +kernel) rfl (by decide +kernel) rfl
theorem d_55_5 : decode (mB 55) 5 = .ok (.ifCond .ne 4, 3) := by decide +kernel
theorem s_55_5 {d : Nat} {Q : wQ} {L : List (Option Value)} {st : List Value} {w : aw} {cn sn : Nat} {x : Int32} : wp d 55 Q 5 L (.int x :: st) w cn sn = ((¬ x = 0 → wp d 55 Q 9 L st w cn sn) ∧ (x = 0 → wp d 55 Q 8 L st w cn sn)) := w_ifne d_55_5 (by decide)
theorem d_55_8 : decode (mB 55) 8 = .ok (.return_, 1) := by decide +kernel
theorem s_55_8 {d : Nat} {Q : wQ} {L : List (Option Value)} {w : aw} {cn sn : Nat}  : wp d 55 Q 8 L [] w cn sn = Q none w := w_return d_55_8 rfl
theorem d_55_9 : decode (mB 55) 9 = .ok (.bipush 24, 2) := by decide +kernel
theorem s_55_9 {d : Nat} {Q : wQ} {L : List (Option Value)} {st : List Value} {w : aw} {cn sn : Nat}  : wp d 55 Q 9 L st w cn sn = wp d 55 Q 11 L (.int 24 :: st) w cn sn := w_bipush d_55_9 (by decide)
theorem d_55_11 : decode (mB 55) 11 = .ok (.istore_n 2, 1) := by decide +kernel
theorem s_55_11 {d : Nat} {Q : wQ} {L : List (Option Value)} {st : List Value} {w : aw} {cn sn : Nat} {a0 a1 a2 : Option Value} {v : Int32} : wp d 55 Q 11 (a0 :: a1 :: a2 :: L) (.int v :: st) w cn sn = wp d 55 Q 12 (a0 :: clr a1 :: some (.int v) :: L) st w cn sn := w_istore_n d_55_11 (Nat.le_add_left 3 _) rfl
theorem d_55_12 : decode (mB 55) 12 = .ok (.iload_n 2, 1) := by decide +kernel
theorem s_55_12 {d : Nat} {Q : wQ} {L : List (Option Value)} {st : List Value} {w : aw} {cn sn : Nat} {a0 a1 : Option Value} {v : Int32} : wp d 55 Q 12 (a0 :: a1 :: some (.int v) :: L) st w cn sn = wp d 55 Q 13 (a0 :: a1 :: some (.int v) :: L) (.int v :: st) w cn sn := w_iload_n d_55_12 rfl
theorem d_55_13 : decode (mB 55) 13 = .ok (.ifCond .lt 32, 3) := by decide +kernel
theorem s_55_13 {d : Nat} {Q : wQ} {L : List (Option Value)} {st : List Value} {w : aw} {cn sn : Nat} {x : Int32} : wp d 55 Q 13 L (.int x :: st) w cn sn = ((x < 0 → wp d 55 Q 45 L st w cn sn) ∧ (¬ x < 0 → wp d 55 Q 16 L st w cn sn)) := w_iflt d_55_13 (by decide)
theorem d_55_16 : decode (mB 55) 16 = .ok (.aload_n 0, 1) := by decide +kernel
theorem s_55_16 {d : Nat} {Q : wQ} {L : List (Option Value)} {st : List Value} {w : aw} {cn sn : Nat} {v : Nat} : wp d 55 Q 16 (some (.ref v) :: L) st w cn sn = wp d 55 Q 17 (some (.ref v) :: L) (.ref v :: st) w cn sn := w_aload_n d_55_16 rfl
theorem d_55_17 : decode (mB 55) 17 = .ok (.getfield 9, 3) := by decide +kernel
theorem s_55_17 {d : Nat} {Q : wQ} {L : List (Option Value)} {st : List Value} {w : aw} {cn sn : Nat} {a : Nat} : wp d 55 Q 17 L (.ref a :: st) w cn sn = (kd w a = 6 ∧ wp d 55 Q 20 L (fd w 320 a :: st) w cn sn) := w_getfield d_55_17 (by decide +kernel : fT (mO 55) 9 = some (5, 0))
theorem d_55_20 : decode (mB 55) 20 = .ok (.aload_n 0, 1) := by decide +kernel
theorem s_55_20 {d : Nat} {Q : wQ} {L : List (Option Value)} {st : List Value} {w : aw} {cn sn : Nat} {v : Nat} : wp d 55 Q 20 (some (.ref v) :: L) st w cn sn = wp d 55 Q 21 (some (.ref v) :: L) (.ref v :: st) w cn sn := w_aload_n d_55_20 rfl
theorem d_55_21 : decode (mB 55) 21 = .ok (.getfield 13, 3) := by decide +kernel
theorem s_55_21 {d : Nat} {Q : wQ} {L : List (Option Value)} {st : List Value} {w : aw} {cn sn : Nat} {a : Nat} : wp d 55 Q 21 L (.ref a :: st) w cn sn = (kd w a = 6 ∧ wp d 55 Q 24 L (fd w 321 a :: st) w cn sn) := w_getfield d_55_21 (by decide +kernel : fT (mO 55) 13 = some (5, 1))
theorem d_55_24 : decode (mB 55) 24 = .ok (.iload_n 1, 1) := by decide +kernel
theorem s_55_24 {d : Nat} {Q : wQ} {L : List (Option Value)} {st : List Value} {w : aw} {cn sn : Nat} {a0 : Option Value} {v : Int32} : wp d 55 Q 24 (a0 :: some (.int v) :: L) st w cn sn = wp d 55 Q 25 (a0 :: some (.int v) :: L) (.int v :: st) w cn sn := w_iload_n d_55_24 rfl
theorem d_55_25 : decode (mB 55) 25 = .ok (.iload_n 2, 1) := by decide +kernel
theorem s_55_25 {d : Nat} {Q : wQ} {L : List (Option Value)} {st : List Value} {w : aw} {cn sn : Nat} {a0 a1 : Option Value} {v : Int32} : wp d 55 Q 25 (a0 :: a1 :: some (.int v) :: L) st w cn sn = wp d 55 Q 26 (a0 :: a1 :: some (.int v) :: L) (.int v :: st) w cn sn := w_iload_n d_55_25 rfl
theorem d_55_26 : decode (mB 55) 26 = .ok (.ishr, 1) := by decide +kernel
theorem s_55_26 {d : Nat} {Q : wQ} {L : List (Option Value)} {st : List Value} {w : aw} {cn sn : Nat} {a b : Int32} : wp d 55 Q 26 L (.int b :: .int a :: st) w cn sn = wp d 55 Q 27 L (.int (a >>> (b &&& 31)) :: st) w cn sn := wp_row d_55_26 _ _ _ _ _
theorem d_55_27 : decode (mB 55) 27 = .ok (.i2b, 1) := by decide +kernel
theorem s_55_27 {d : Nat} {Q : wQ} {L : List (Option Value)} {st : List Value} {w : aw} {cn sn : Nat} {a : Int32} : wp d 55 Q 27 L (.int a :: st) w cn sn = wp d 55 Q 28 L (.int a.toInt8.toInt32 :: st) w cn sn := wp_row d_55_27 _ _ _ _ _
theorem d_55_28 : decode (mB 55) 28 = .ok (.bastore, 1) := by decide +kernel
theorem s_55_28 {d : Nat} {Q : wQ} {L : List (Option Value)} {st : List Value} {w : aw} {cn sn : Nat} {a : Nat} {i x : Int32} : wp d 55 Q 28 L (.int x :: .int i :: .ref a :: st) w cn sn = (inR i (ln w a) ∧ ((kd w a = 21 ∧ wp d 55 Q 29 L st (uA w a i.toNatClampNeg (vp_nar .byte x)) cn sn) ∨ (kd w a = 23 ∧ wp d 55 Q 29 L st (uA w a i.toNatClampNeg (vp_nar .boolean x)) cn sn))) := wp_row d_55_28 _ _ _ _ _
theorem d_55_29 : decode (mB 55) 29 = .ok (.aload_n 0, 1) := by decide +kernel
theorem s_55_29 {d : Nat} {Q : wQ} {L : List (Option Value)} {st : List Value} {w : aw} {cn sn : Nat} {v : Nat} : wp d 55 Q 29 (some (.ref v) :: L) st w cn sn = wp d 55 Q 30 (some (.ref v) :: L) (.ref v :: st) w cn sn := w_aload_n d_55_29 rfl
theorem d_55_30 : decode (mB 55) 30 = .ok (.dup, 1) := by decide +kernel
theorem s_55_30 {d : Nat} {Q : wQ} {L : List (Option Value)} {st : List Value} {w : aw} {cn sn : Nat} {v : Value} : wp d 55 Q 30 L (v :: st) w cn sn = (v.category = 1 ∧ wp d 55 Q 31 L (v :: v :: st) w cn sn) := wp_row d_55_30 _ _ _ _ _
theorem d_55_31 : decode (mB 55) 31 = .ok (.getfield 13, 3) := by decide +kernel
theorem s_55_31 {d : Nat} {Q : wQ} {L : List (Option Value)} {st : List Value} {w : aw} {cn sn : Nat} {a : Nat} : wp d 55 Q 31 L (.ref a :: st) w cn sn = (kd w a = 6 ∧ wp d 55 Q 34 L (fd w 321 a :: st) w cn sn) := w_getfield d_55_31 (by decide +kernel : fT (mO 55) 13 = some (5, 1))
theorem d_55_34 : decode (mB 55) 34 = .ok (.iconst 1, 1) := by decide +kernel
theorem s_55_34 {d : Nat} {Q : wQ} {L : List (Option Value)} {st : List Value} {w : aw} {cn sn : Nat}  : wp d 55 Q 34 L st w cn sn = wp d 55 Q 35 L (.int 1 :: st) w cn sn := w_iconst d_55_34 (by decide)
theorem d_55_35 : decode (mB 55) 35 = .ok (.iadd, 1) := by decide +kernel
theorem s_55_35 {d : Nat} {Q : wQ} {L : List (Option Value)} {st : List Value} {w : aw} {cn sn : Nat} {a b : Int32} : wp d 55 Q 35 L (.int b :: .int a :: st) w cn sn = wp d 55 Q 36 L (.int (a + b) :: st) w cn sn := wp_row d_55_35 _ _ _ _ _
theorem d_55_36 : decode (mB 55) 36 = .ok (.putfield 13, 3) := by decide +kernel
theorem s_55_36 {d : Nat} {Q : wQ} {L : List (Option Value)} {st : List Value} {w : aw} {cn sn : Nat} {x : Int32} {a : Nat} : wp d 55 Q 36 L (.int x :: .ref a :: st) w cn sn = (kd w a = 6 ∧ wp d 55 Q 39 L st (uF w 321 a (.int x)) cn sn) := w_putfield d_55_36 (by decide +kernel : fT (mO 55) 13 = some (5, 1)) (by decide +kernel) ok_int
theorem d_55_39 : decode (mB 55) 39 = .ok (.iinc 2 (-8), 3) := by decide +kernel
theorem s_55_39 {d : Nat} {Q : wQ} {L : List (Option Value)} {st : List Value} {w : aw} {cn sn : Nat} {a0 a1 : Option Value} {v : Int32} : wp d 55 Q 39 (a0 :: a1 :: some (.int v) :: L) st w cn sn = wp d 55 Q 42 (a0 :: clr a1 :: some (.int (v + (-8))) :: L) st w cn sn := w_iinc d_55_39 rfl (by decide) rfl
theorem d_55_42 : decode (mB 55) 42 = .ok (.goto (-30), 3) := by decide +kernel
theorem s_55_42 {d : Nat} {Q : wQ} {L : List (Option Value)} {st : List Value} {w : aw} {cn sn : Nat}  : wp d 55 Q 42 L st w cn sn = wp d 55 Q 12 L st w cn sn := w_goto d_55_42 (by decide)
theorem d_55_45 : decode (mB 55) 45 = .ok (.return_, 1) := by decide +kernel
theorem s_55_45 {d : Nat} {Q : wQ} {L : List (Option Value)} {w : aw} {cn sn : Nat}  : wp d 55 Q 45 L [] w cn sn = Q none w := w_return d_55_45 rfl
theorem d_56_0 : decode (mB 56) 0 = .ok (.iload_n 1, 1) := by decide +kernel
theorem s_56_0 {d : Nat} {Q : wQ} {L : List (Option Value)} {st : List Value} {w : aw} {cn sn : Nat} {a0 : Option Value} {v : Int32} : wp d 56 Q 0 (a0 :: some (.int v) :: L) st w cn sn = wp d 56 Q 1 (a0 :: some (.int v) :: L) (.int v :: st) w cn sn := w_iload_n d_56_0 rfl
theorem d_56_1 : decode (mB 56) 1 = .ok (.ifCond .lt 11, 3) := by decide +kernel
theorem s_56_1 {d : Nat} {Q : wQ} {L : List (Option Value)} {st : List Value} {w : aw} {cn sn : Nat} {x : Int32} : wp d 56 Q 1 L (.int x :: st) w cn sn = ((x < 0 → wp d 56 Q 12 L st w cn sn) ∧ (¬ x < 0 → wp d 56 Q 4 L st w cn sn)) := w_iflt d_56_1 (by decide)
theorem d_56_4 : decode (mB 56) 4 = .ok (.iload_n 1, 1) := by decide +kernel
theorem s_56_4 {d : Nat} {Q : wQ} {L : List (Option Value)} {st : List Value} {w : aw} {cn sn : Nat} {a0 : Option Value} {v : Int32} : wp d 56 Q 4 (a0 :: some (.int v) :: L) st w cn sn = wp d 56 Q 5 (a0 :: some (.int v) :: L) (.int v :: st) w cn sn := w_iload_n d_56_4 rfl
theorem d_56_5 : decode (mB 56) 5 = .ok (.aload_n 0, 1) := by decide +kernel
theorem s_56_5 {d : Nat} {Q : wQ} {L : List (Option Value)} {st : List Value} {w : aw} {cn sn : Nat} {v : Nat} : wp d 56 Q 5 (some (.ref v) :: L) st w cn sn = wp d 56 Q 6 (some (.ref v) :: L) (.ref v :: st) w cn sn := w_aload_n d_56_5 rfl
theorem d_56_6 : decode (mB 56) 6 = .ok (.getfield 13, 3) := by decide +kernel
theorem s_56_6 {d : Nat} {Q : wQ} {L : List (Option Value)} {st : List Value} {w : aw} {cn sn : Nat} {a : Nat} : wp d 56 Q 6 L (.ref a :: st) w cn sn = (kd w a = 6 ∧ wp d 56 Q 9 L (fd w 321 a :: st) w cn sn) := w_getfield d_56_6 (by decide +kernel : fT (mO 56) 13 = some (5, 1))
theorem d_56_9 : decode (mB 56) 9 = .ok (.if_icmp .le 5, 3) := by decide +kernel
theorem s_56_9 {d : Nat} {Q : wQ} {L : List (Option Value)} {st : List Value} {w : aw} {cn sn : Nat} {a b : Int32} : wp d 56 Q 9 L (.int b :: .int a :: st) w cn sn = ((a ≤ b → wp d 56 Q 14 L st w cn sn) ∧ (¬ a ≤ b → wp d 56 Q 12 L st w cn sn)) := w_icle d_56_9 (by decide)
theorem d_56_12 : decode (mB 56) 12 = .ok (.iconst 0, 1) := by decide +kernel
theorem s_56_12 {d : Nat} {Q : wQ} {L : List (Option Value)} {st : List Value} {w : aw} {cn sn : Nat}  : wp d 56 Q 12 L st w cn sn = wp d 56 Q 13 L (.int 0 :: st) w cn sn := w_iconst d_56_12 (by decide)
theorem d_56_13 : decode (mB 56) 13 = .ok (.ireturn, 1) := by decide +kernel
theorem s_56_13 {d : Nat} {Q : wQ} {L : List (Option Value)} {w : aw} {cn sn : Nat} {v : Int32} : wp d 56 Q 13 L [.int v] w cn sn = (narrow .boolean (.int v) = .int v ∧ Q (some (.int v)) w) := w_zreturn d_56_13 rfl
theorem d_56_14 : decode (mB 56) 14 = .ok (.aload_n 0, 1) := by decide +kernel
theorem s_56_14 {d : Nat} {Q : wQ} {L : List (Option Value)} {st : List Value} {w : aw} {cn sn : Nat} {v : Nat} : wp d 56 Q 14 (some (.ref v) :: L) st w cn sn = wp d 56 Q 15 (some (.ref v) :: L) (.ref v :: st) w cn sn := w_aload_n d_56_14 rfl
theorem d_56_15 : decode (mB 56) 15 = .ok (.iload_n 1, 1) := by decide +kernel
theorem s_56_15 {d : Nat} {Q : wQ} {L : List (Option Value)} {st : List Value} {w : aw} {cn sn : Nat} {a0 : Option Value} {v : Int32} : wp d 56 Q 15 (a0 :: some (.int v) :: L) st w cn sn = wp d 56 Q 16 (a0 :: some (.int v) :: L) (.int v :: st) w cn sn := w_iload_n d_56_15 rfl
theorem d_56_16 : decode (mB 56) 16 = .ok (.putfield 13, 3) := by decide +kernel
theorem s_56_16 {d : Nat} {Q : wQ} {L : List (Option Value)} {st : List Value} {w : aw} {cn sn : Nat} {x : Int32} {a : Nat} : wp d 56 Q 16 L (.int x :: .ref a :: st) w cn sn = (kd w a = 6 ∧ wp d 56 Q 19 L st (uF w 321 a (.int x)) cn sn) := w_putfield d_56_16 (by decide +kernel : fT (mO 56) 13 = some (5, 1)) (by decide +kernel) ok_int
theorem d_56_19 : decode (mB 56) 19 = .ok (.iconst 1, 1) := by decide +kernel
theorem s_56_19 {d : Nat} {Q : wQ} {L : List (Option Value)} {st : List Value} {w : aw} {cn sn : Nat}  : wp d 56 Q 19 L st w cn sn = wp d 56 Q 20 L (.int 1 :: st) w cn sn := w_iconst d_56_19 (by decide)
theorem d_56_20 : decode (mB 56) 20 = .ok (.ireturn, 1) := by decide +kernel
theorem s_56_20 {d : Nat} {Q : wQ} {L : List (Option Value)} {w : aw} {cn sn : Nat} {v : Int32} : wp d 56 Q 20 L [.int v] w cn sn = (narrow .boolean (.int v) = .int v ∧ Q (some (.int v)) w) := w_zreturn d_56_20 rfl
theorem d_57_0 : decode (mB 57) 0 = .ok (.iload_n 1, 1) := by decide +kernel
theorem s_57_0 {d : Nat} {Q : wQ} {L : List (Option Value)} {st : List Value} {w : aw} {cn sn : Nat} {a0 : Option Value} {v : Int32} : wp d 57 Q 0 (a0 :: some (.int v) :: L) st w cn sn = wp d 57 Q 1 (a0 :: some (.int v) :: L) (.int v :: st) w cn sn := w_iload_n d_57_0 rfl
theorem d_57_1 : decode (mB 57) 1 = .ok (.ifCond .lt 11, 3) := by decide +kernel
theorem s_57_1 {d : Nat} {Q : wQ} {L : List (Option Value)} {st : List Value} {w : aw} {cn sn : Nat} {x : Int32} : wp d 57 Q 1 L (.int x :: st) w cn sn = ((x < 0 → wp d 57 Q 12 L st w cn sn) ∧ (¬ x < 0 → wp d 57 Q 4 L st w cn sn)) := w_iflt d_57_1 (by decide)
theorem d_57_4 : decode (mB 57) 4 = .ok (.iload_n 1, 1) := by decide +kernel
theorem s_57_4 {d : Nat} {Q : wQ} {L : List (Option Value)} {st : List Value} {w : aw} {cn sn : Nat} {a0 : Option Value} {v : Int32} : wp d 57 Q 4 (a0 :: some (.int v) :: L) st w cn sn = wp d 57 Q 5 (a0 :: some (.int v) :: L) (.int v :: st) w cn sn := w_iload_n d_57_4 rfl
theorem d_57_5 : decode (mB 57) 5 = .ok (.aload_n 0, 1) := by decide +kernel
theorem s_57_5 {d : Nat} {Q : wQ} {L : List (Option Value)} {st : List Value} {w : aw} {cn sn : Nat} {v : Nat} : wp d 57 Q 5 (some (.ref v) :: L) st w cn sn = wp d 57 Q 6 (some (.ref v) :: L) (.ref v :: st) w cn sn := w_aload_n d_57_5 rfl
theorem d_57_6 : decode (mB 57) 6 = .ok (.getfield 13, 3) := by decide +kernel
theorem s_57_6 {d : Nat} {Q : wQ} {L : List (Option Value)} {st : List Value} {w : aw} {cn sn : Nat} {a : Nat} : wp d 57 Q 6 L (.ref a :: st) w cn sn = (kd w a = 6 ∧ wp d 57 Q 9 L (fd w 321 a :: st) w cn sn) := w_getfield d_57_6 (by decide +kernel : fT (mO 57) 13 = some (5, 1))
theorem d_57_9 : decode (mB 57) 9 = .ok (.if_icmp .lt 7, 3) := by decide +kernel
theorem s_57_9 {d : Nat} {Q : wQ} {L : List (Option Value)} {st : List Value} {w : aw} {cn sn : Nat} {a b : Int32} : wp d 57 Q 9 L (.int b :: .int a :: st) w cn sn = ((a < b → wp d 57 Q 16 L st w cn sn) ∧ (¬ a < b → wp d 57 Q 12 L st w cn sn)) := w_iclt d_57_9 (by decide)
theorem d_57_12 : decode (mB 57) 12 = .ok (.iconst (-1), 1) := by decide +kernel
theorem s_57_12 {d : Nat} {Q : wQ} {L : List (Option Value)} {st : List Value} {w : aw} {cn sn : Nat}  : wp d 57 Q 12 L st w cn sn = wp d 57 Q 13 L (.int (-1) :: st) w cn sn := w_iconst d_57_12 (by decide)
theorem d_57_13 : decode (mB 57) 13 = .ok (.goto 13, 3) := by decide +kernel
theorem s_57_13 {d : Nat} {Q : wQ} {L : List (Option Value)} {st : List Value} {w : aw} {cn sn : Nat}  : wp d 57 Q 13 L st w cn sn = wp d 57 Q 26 L st w cn sn := w_goto d_57_13 (by decide)
theorem d_57_16 : decode (mB 57) 16 = .ok (.aload_n 0, 1) := by decide +kernel
theorem s_57_16 {d : Nat} {Q : wQ} {L : List (Option Value)} {st : List Value} {w : aw} {cn sn : Nat} {v : Nat} : wp d 57 Q 16 (some (.ref v) :: L) st w cn sn = wp d 57 Q 17 (some (.ref v) :: L) (.ref v :: st) w cn sn := w_aload_n d_57_16 rfl
theorem d_57_17 : decode (mB 57) 17 = .ok (.getfield 9, 3) := by decide +kernel
theorem s_57_17 {d : Nat} {Q : wQ} {L : List (Option Value)} {st : List Value} {w : aw} {cn sn : Nat} {a : Nat} : wp d 57 Q 17 L (.ref a :: st) w cn sn = (kd w a = 6 ∧ wp d 57 Q 20 L (fd w 320 a :: st) w cn sn) := w_getfield d_57_17 (by decide +kernel : fT (mO 57) 9 = some (5, 0))
theorem d_57_20 : decode (mB 57) 20 = .ok (.iload_n 1, 1) := by decide +kernel
theorem s_57_20 {d : Nat} {Q : wQ} {L : List (Option Value)} {st : List Value} {w : aw} {cn sn : Nat} {a0 : Option Value} {v : Int32} : wp d 57 Q 20 (a0 :: some (.int v) :: L) st w cn sn = wp d 57 Q 21 (a0 :: some (.int v) :: L) (.int v :: st) w cn sn := w_iload_n d_57_20 rfl
theorem d_57_21 : decode (mB 57) 21 = .ok (.baload, 1) := by decide +kernel
theorem s_57_21 {d : Nat} {Q : wQ} {L : List (Option Value)} {st : List Value} {w : aw} {cn sn : Nat} {a : Nat} {i : Int32} : wp d 57 Q 21 L (.int i :: .ref a :: st) w cn sn = ((kd w a = 21 ∨ kd w a = 23) ∧ inR i (ln w a) ∧ wp d 57 Q 22 L (.int (ai w a i.toNatClampNeg) :: st) w cn sn) := wp_row d_57_21 _ _ _ _ _
theorem d_57_22 : decode (mB 57) 22 = .ok (.sipush 255, 3) := by decide +kernel
theorem s_57_22 {d : Nat} {Q : wQ} {L : List (Option Value)} {st : List Value} {w : aw} {cn sn : Nat}  : wp d 57 Q 22 L st w cn sn = wp d 57 Q 25 L (.int 255 :: st) w cn sn := w_sipush d_57_22 (by decide)
theorem d_57_25 : decode (mB 57) 25 = .ok (.iand, 1) := by decide +kernel
theorem s_57_25 {d : Nat} {Q : wQ} {L : List (Option Value)} {st : List Value} {w : aw} {cn sn : Nat} {a b : Int32} : wp d 57 Q 25 L (.int b :: .int a :: st) w cn sn = wp d 57 Q 26 L (.int (a &&& b) :: st) w cn sn := wp_row d_57_25 _ _ _ _ _
theorem d_57_26 : decode (mB 57) 26 = .ok (.ireturn, 1) := by decide +kernel
theorem s_57_26 {d : Nat} {Q : wQ} {L : List (Option Value)} {w : aw} {cn sn : Nat} {v : Int32} : wp d 57 Q 26 L [.int v] w cn sn = Q (some (.int v)) w := w_ireturn d_57_26 rfl
