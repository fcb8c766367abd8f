theorem d_105_0 : decode (mB 105) 0 = .ok (.iload_n 0, 1) := by decide +kernel
theorem s_105_0 {d : Nat} {Q : wQ} {L : List (Option Value)} {st : List Value} {w : aw} {cn sn : Nat} {v : Int32} : wp d 105 Q 0 (some (.int v) :: L) st w cn sn = wp d 105 Q 1 (some (.int v) :: L) (.int v :: st) w cn sn := w_iload_n d_105_0 rfl
theorem d_105_1 : decode (mB 105) 1 = .ok (.iload_n 1, 1) := by decide +kernel
theorem s_105_1 {d : Nat} {Q : wQ} {L : List (Option Value)} {st : List Value} {w : aw} {cn sn : Nat} {a0 : Option Value} {v : Int32} : wp d 105 Q 1 (a0 :: some (.int v) :: L) st w cn sn = wp d 105 Q 2 (a0 :: some (.int v) :: L) (.int v :: st) w cn sn := w_iload_n d_105_1 rfl
theorem d_105_2 : decode (mB 105) 2 = .ok (.if_icmp .lt 12, 3) := by decide +kernel
theorem s_105_2 {d : Nat} {Q : wQ} {L : List (Option Value)} {st : List Value} {w : aw} {cn sn : Nat} {a b : Int32} : wp d 105 Q 2 L (.int b :: .int a :: st) w cn sn = ((a < b → wp d 105 Q 14 L st w cn sn) ∧ (¬ a < b → wp d 105 Q 5 L st w cn sn)) := w_iclt d_105_2 (by decide)
theorem d_105_5 : decode (mB 105) 5 = .ok (.iload_n 0, 1) := by decide +kernel
theorem s_105_5 {d : Nat} {Q : wQ} {L : List (Option Value)} {st : List Value} {w : aw} {cn sn : Nat} {v : Int32} : wp d 105 Q 5 (some (.int v) :: L) st w cn sn = wp d 105 Q 6 (some (.int v) :: L) (.int v :: st) w cn sn := w_iload_n d_105_5 rfl
theorem d_105_6 : decode (mB 105) 6 = .ok (.iload_n 2, 1) := by decide +kernel
theorem s_105_6 {d : Nat} {Q : wQ} {L : List (Option Value)} {st : List Value} {w : aw} {cn sn : Nat} {a0 a1 : Option Value} {v : Int32} : wp d 105 Q 6 (a0 :: a1 :: some (.int v) :: L) st w cn sn = wp d 105 Q 7 (a0 :: a1 :: some (.int v) :: L) (.int v :: st) w cn sn := w_iload_n d_105_6 rfl
theorem d_105_7 : decode (mB 105) 7 = .ok (.if_icmp .gt 7, 3) := by decide +kernel
theorem s_105_7 {d : Nat} {Q : wQ} {L : List (Option Value)} {st : List Value} {w : aw} {cn sn : Nat} {a b : Int32} : wp d 105 Q 7 L (.int b :: .int a :: st) w cn sn = ((b < a → wp d 105 Q 14 L st w cn sn) ∧ (¬ b < a → wp d 105 Q 10 L st w cn sn)) := w_icgt d_105_7 (by decide)
theorem d_105_10 : decode (mB 105) 10 = .ok (.iconst 1, 1) := by decide +kernel
theorem s_105_10 {d : Nat} {Q : wQ} {L : List (Option Value)} {st : List Value} {w : aw} {cn sn : Nat}  : wp d 105 Q 10 L st w cn sn = wp d 105 Q 11 L (.int 1 :: st) w cn sn := w_iconst d_105_10 (by decide)
theorem d_105_11 : decode (mB 105) 11 = .ok (.goto 4, 3) := by decide +kernel
theorem s_105_11 {d : Nat} {Q : wQ} {L : List (Option Value)} {st : List Value} {w : aw} {cn sn : Nat}  : wp d 105 Q 11 L st w cn sn = wp d 105 Q 15 L st w cn sn := w_goto d_105_11 (by decide)
theorem d_105_14 : decode (mB 105) 14 = .ok (.iconst 0, 1) := by decide +kernel
theorem s_105_14 {d : Nat} {Q : wQ} {L : List (Option Value)} {st : List Value} {w : aw} {cn sn : Nat}  : wp d 105 Q 14 L st w cn sn = wp d 105 Q 15 L (.int 0 :: st) w cn sn := w_iconst d_105_14 (by decide)
theorem d_105_15 : decode (mB 105) 15 = .ok (.ireturn, 1) := by decide +kernel
theorem s_105_15 {d : Nat} {Q : wQ} {L : List (Option Value)} {w : aw} {cn sn : Nat} {v : Int32} : wp d 105 Q 15 L [.int v] w cn sn = (narrow .boolean (.int v) = .int v ∧ Q (some (.int v)) w) := w_zreturn d_105_15 rfl
theorem d_106_0 : decode (mB 106) 0 = .ok (.iload_n 1, 1) := by decide +kernel
theorem s_106_0 {d : Nat} {Q : wQ} {L : List (Option Value)} {st : List Value} {w : aw} {cn sn : Nat} {a0 : Option Value} {v : Int32} : wp d 106 Q 0 (a0 :: some (.int v) :: L) st w cn sn = wp d 106 Q 1 (a0 :: some (.int v) :: L) (.int v :: st) w cn sn := w_iload_n d_106_0 rfl
theorem d_106_1 : decode (mB 106) 1 = .ok (.iconst 0, 1) := by decide +kernel
theorem s_106_1 {d : Nat} {Q : wQ} {L : List (Option Value)} {st : List Value} {w : aw} {cn sn : Nat}  : wp d 106 Q 1 L st w cn sn = wp d 106 Q 2 L (.int 0 :: st) w cn sn := w_iconst d_106_1 (by decide)
theorem d_106_2 : decode (mB 106) 2 = .ok (.aload_n 0, 1) := by decide +kernel
theorem s_106_2 {d : Nat} {Q : wQ} {L : List (Option Value)} {st : List Value} {w : aw} {cn sn : Nat} {v : Nat} : wp d 106 Q 2 (some (.ref v) :: L) st w cn sn = wp d 106 Q 3 (some (.ref v) :: L) (.ref v :: st) w cn sn := w_aload_n d_106_2 rfl
theorem d_106_3 : decode (mB 106) 3 = .ok (.getfield 108, 3) := by decide +kernel
theorem s_106_3 {d : Nat} {Q : wQ} {L : List (Option Value)} {st : List Value} {w : aw} {cn sn : Nat} {a : Nat} : wp d 106 Q 3 L (.ref a :: st) w cn sn = (kd w a = 9 ∧ wp d 106 Q 6 L (fd w 512 a :: st) w cn sn) := w_getfield d_106_3 (by decide +kernel : fT (mO 106) 108 = some (8, 0))
theorem d_106_6 : decode (mB 106) 6 = .ok (.iconst 1, 1) := by decide +kernel
theorem s_106_6 {d : Nat} {Q : wQ} {L : List (Option Value)} {st : List Value} {w : aw} {cn sn : Nat}  : wp d 106 Q 6 L st w cn sn = wp d 106 Q 7 L (.int 1 :: st) w cn sn := w_iconst d_106_6 (by decide)
theorem d_106_7 : decode (mB 106) 7 = .ok (.isub, 1) := by decide +kernel
theorem s_106_7 {d : Nat} {Q : wQ} {L : List (Option Value)} {st : List Value} {w : aw} {cn sn : Nat} {a b : Int32} : wp d 106 Q 7 L (.int b :: .int a :: st) w cn sn = wp d 106 Q 8 L (.int (a - b) :: st) w cn sn := wp_row d_106_7 _ _ _ _ _
theorem d_106_8 : decode (mB 106) 8 = .ok (.invokestatic 111, 3) := by decide +kernel
theorem s_106_8 {d : Nat} {Q : wQ} {L : List (Option Value)} {st : List Value} {w : aw} {cn sn : Nat} {v0 v1 v2 : Value} : wp d 106 Q 8 L (v2 :: v1 :: v0 :: st) w cn sn = (catS st ≤ 8 ∧ wpD d 105 [v0, v1, v2] w (fun v w' => wp d 106 Q 11 L (v.toList ++ st) w' cn sn)) := w_static (As := [v0, v1, v2]) d_106_8 (by decide +kernel : cT (mO 106) 111 = some (2, 105)) (by decide +kernel) rfl (by decide +kernel) rfl
theorem d_106_11 : decode (mB 106) 11 = .ok (.ireturn, 1) := by decide +kernel
theorem s_106_11 {d : Nat} {Q : wQ} {L : List (Option Value)} {w : aw} {cn sn : Nat} {v : Int32} : wp d 106 Q 11 L [.int v] w cn sn = (narrow .boolean (.int v) = .int v ∧ Q (some (.int v)) w) := w_zreturn d_106_11 rfl
theorem d_107_0 : decode (mB 107) 0 = .ok (.aload_n 0, 1) := by decide +kernel
theorem s_107_0 {d : Nat} {Q : wQ} {L : List (Option Value)} {st : List Value} {w : aw} {cn sn : Nat} {v : Nat} : wp d 107 Q 0 (some (.ref v) :: L) st w cn sn = wp d 107 Q 1 (some (.ref v) :: L) (.ref v :: st) w cn sn := w_aload_n d_107_0 rfl
theorem d_107_1 : decode (mB 107) 1 = .ok (.getfield 24, 3) := by decide +kernel
theorem s_107_1 {d : Nat} {Q : wQ} {L : List (Option Value)} {st : List Value} {w : aw} {cn sn : Nat} {a : Nat} : wp d 107 Q 1 L (.ref a :: st) w cn sn = (kd w a = 9 ∧ wp d 107 Q 4 L (fd w 526 a :: st) w cn sn) := w_getfield d_107_1 (by decide +kernel : fT (mO 107) 24 = some (8, 14))
theorem d_107_4 : decode (mB 107) 4 = .ok (.sipush 4096, 3) := by decide +kernel
theorem s_107_4 {d : Nat} {Q : wQ} {L : List (Option Value)} {st : List Value} {w : aw} {cn sn : Nat}  : wp d 107 Q 4 L st w cn sn = wp d 107 Q 7 L (.int 4096 :: st) w cn sn := w_sipush d_107_4 (by decide)
theorem d_107_7 : decode (mB 107) 7 = .ok (.iload_n 1, 1) := by decide +kernel
theorem s_107_7 {d : Nat} {Q : wQ} {L : List (Option Value)} {st : List Value} {w : aw} {cn sn : Nat} {a0 : Option Value} {v : Int32} : wp d 107 Q 7 (a0 :: some (.int v) :: L) st w cn sn = wp d 107 Q 8 (a0 :: some (.int v) :: L) (.int v :: st) w cn sn := w_iload_n d_107_7 rfl
theorem d_107_8 : decode (mB 107) 8 = .ok (.imul, 1) := by decide +kernel
theorem s_107_8 {d : Nat} {Q : wQ} {L : List (Option Value)} {st : List Value} {w : aw} {cn sn : Nat} {a b : Int32} : wp d 107 Q 8 L (.int b :: .int a :: st) w cn sn = wp d 107 Q 9 L (.int (a * b) :: st) w cn sn := wp_row d_107_8 _ _ _ _ _
theorem d_107_9 : decode (mB 107) 9 = .ok (.iload_n 2, 1) := by decide +kernel
theorem s_107_9 {d : Nat} {Q : wQ} {L : List (Option Value)} {st : List Value} {w : aw} {cn sn : Nat} {a0 a1 : Option Value} {v : Int32} : wp d 107 Q 9 (a0 :: a1 :: some (.int v) :: L) st w cn sn = wp d 107 Q 10 (a0 :: a1 :: some (.int v) :: L) (.int v :: st) w cn sn := w_iload_n d_107_9 rfl
theorem d_107_10 : decode (mB 107) 10 = .ok (.iadd, 1) := by decide +kernel
theorem s_107_10 {d : Nat} {Q : wQ} {L : List (Option Value)} {st : List Value} {w : aw} {cn sn : Nat} {a b : Int32} : wp d 107 Q 10 L (.int b :: .int a :: st) w cn sn = wp d 107 Q 11 L (.int (a + b) :: st) w cn sn := wp_row d_107_10 _ _ _ _ _
theorem d_107_11 : decode (mB 107) 11 = .ok (.iaload, 1) := by decide +kernel
theorem s_107_11 {d : Nat} {Q : wQ} {L : List (Option Value)} {st : List Value} {w : aw} {cn sn : Nat} {a : Nat} {i : Int32} : wp d 107 Q 11 L (.int i :: .ref a :: st) w cn sn = ((kd w a = 20 ∨ kd w a = 30) ∧ inR i (ln w a) ∧ wp d 107 Q 12 L (.int (ai w a i.toNatClampNeg) :: st) w cn sn) := wp_row d_107_11 _ _ _ _ _
theorem d_107_12 : decode (mB 107) 12 = .ok (.ireturn, 1) := by decide +kernel
theorem s_107_12 {d : Nat} {Q : wQ} {L : List (Option Value)} {w : aw} {cn sn : Nat} {v : Int32} : wp d 107 Q 12 L [.int v] w cn sn = Q (some (.int v)) w := w_ireturn d_107_12 rfl
theorem d_108_0 : decode (mB 108) 0 = .ok (.aload_n 0, 1) := by decide +kernel
theorem s_108_0 {d : Nat} {Q : wQ} {L : List (Option Value)} {st : List Value} {w : aw} {cn sn : Nat} {v : Nat} : wp d 108 Q 0 (some (.ref v) :: L) st w cn sn = wp d 108 Q 1 (some (.ref v) :: L) (.ref v :: st) w cn sn := w_aload_n d_108_0 rfl
theorem d_108_1 : decode (mB 108) 1 = .ok (.getfield 24, 3) := by decide +kernel
theorem s_108_1 {d : Nat} {Q : wQ} {L : List (Option Value)} {st : List Value} {w : aw} {cn sn : Nat} {a : Nat} : wp d 108 Q 1 L (.ref a :: st) w cn sn = (kd w a = 9 ∧ wp d 108 Q 4 L (fd w 526 a :: st) w cn sn) := w_getfield d_108_1 (by decide +kernel : fT (mO 108) 24 = some (8, 14))
theorem d_108_4 : decode (mB 108) 4 = .ok (.sipush 4096, 3) := by decide +kernel
theorem s_108_4 {d : Nat} {Q : wQ} {L : List (Option Value)} {st : List Value} {w : aw} {cn sn : Nat}  : wp d 108 Q 4 L st w cn sn = wp d 108 Q 7 L (.int 4096 :: st) w cn sn := w_sipush d_108_4 (by decide)
theorem d_108_7 : decode (mB 108) 7 = .ok (.iload_n 1, 1) := by decide +kernel
theorem s_108_7 {d : Nat} {Q : wQ} {L : List (Option Value)} {st : List Value} {w : aw} {cn sn : Nat} {a0 : Option Value} {v : Int32} : wp d 108 Q 7 (a0 :: some (.int v) :: L) st w cn sn = wp d 108 Q 8 (a0 :: some (.int v) :: L) (.int v :: st) w cn sn := w_iload_n d_108_7 rfl
theorem d_108_8 : decode (mB 108) 8 = .ok (.imul, 1) := by decide +kernel
theorem s_108_8 {d : Nat} {Q : wQ} {L : List (Option Value)} {st : List Value} {w : aw} {cn sn : Nat} {a b : Int32} : wp d 108 Q 8 L (.int b :: .int a :: st) w cn sn = wp d 108 Q 9 L (.int (a * b) :: st) w cn sn := wp_row d_108_8 _ _ _ _ _
theorem d_108_9 : decode (mB 108) 9 = .ok (.iload_n 2, 1) := by decide +kernel
theorem s_108_9 {d : Nat} {Q : wQ} {L : List (Option Value)} {st : List Value} {w : aw} {cn sn : Nat} {a0 a1 : Option Value} {v : Int32} : wp d 108 Q 9 (a0 :: a1 :: some (.int v) :: L) st w cn sn = wp d 108 Q 10 (a0 :: a1 :: some (.int v) :: L) (.int v :: st) w cn sn := w_iload_n d_108_9 rfl
theorem d_108_10 : decode (mB 108) 10 = .ok (.iadd, 1) := by decide +kernel
theorem s_108_10 {d : Nat} {Q : wQ} {L : List (Option Value)} {st : List Value} {w : aw} {cn sn : Nat} {a b : Int32} : wp d 108 Q 10 L (.int b :: .int a :: st) w cn sn = wp d 108 Q 11 L (.int (a + b) :: st) w cn sn := wp_row d_108_10 _ _ _ _ _
theorem d_108_11 : decode (mB 108) 11 = .ok (.iload_n 3, 1) := by decide +kernel
theorem s_108_11 {d : Nat} {Q : wQ} {L : List (Option Value)} {st : List Value} {w : aw} {cn sn : Nat} {a0 a1 a2 : Option Value} {v : Int32} : wp d 108 Q 11 (a0 :: a1 :: a2 :: some (.int v) :: L) st w cn sn = wp d 108 Q 12 (a0 :: a1 :: a2 :: some (.int v) :: L) (.int v :: st) w cn sn := w_iload_n d_108_11 rfl
theorem d_108_12 : decode (mB 108) 12 = .ok (.sipush 4095, 3) := by decide +kernel
theorem s_108_12 {d : Nat} {Q : wQ} {L : List (Option Value)} {st : List Value} {w : aw} {cn sn : Nat}  : wp d 108 Q 12 L st w cn sn = wp d 108 Q 15 L (.int 4095 :: st) w cn sn := w_sipush d_108_12 (by decide)
theorem d_108_15 : decode (mB 108) 15 = .ok (.iand, 1) := by decide +kernel
theorem s_108_15 {d : Nat} {Q : wQ} {L : List (Option Value)} {st : List Value} {w : aw} {cn sn : Nat} {a b : Int32} : wp d 108 Q 15 L (.int b :: .int a :: st) w cn sn = wp d 108 Q 16 L (.int (a &&& b) :: st) w cn sn := wp_row d_108_15 _ _ _ _ _
theorem d_108_16 : decode (mB 108) 16 = .ok (.iastore, 1) := by decide +kernel
theorem s_108_16 {d : Nat} {Q : wQ} {L : List (Option Value)} {st : List Value} {w : aw} {cn sn : Nat} {a : Nat} {i x : Int32} : wp d 108 Q 16 L (.int x :: .int i :: .ref a :: st) w cn sn = (kd w a = 20 ∧ inR i (ln w a) ∧ wp d 108 Q 17 L st (uA w a i.toNatClampNeg x) cn sn) := wp_row d_108_16 _ _ _ _ _
theorem d_108_17 : decode (mB 108) 17 = .ok (.return_, 1) := by decide +kernel
theorem s_108_17 {d : Nat} {Q : wQ} {L : List (Option Value)} {w : aw} {cn sn : Nat}  : wp d 108 Q 17 L [] w cn sn = Q none w := w_return d_108_17 rfl
theorem d_109_0 : decode (mB 109) 0 = .ok (.iload_n 2, 1) := by decide +kernel
theorem s_109_0 {d : Nat} {Q : wQ} {L : List (Option Value)} {st : List Value} {w : aw} {cn sn : Nat} {a0 a1 : Option Value} {v : Int32} : wp d 109 Q 0 (a0 :: a1 :: some (.int v) :: L) st w cn sn = wp d 109 Q 1 (a0 :: a1 :: some (.int v) :: L) (.int v :: st) w cn sn := w_iload_n d_109_0 rfl
theorem d_109_1 : decode (mB 109) 1 = .ok (.sipush 4095, 3) := by decide +kernel
theorem s_109_1 {d : Nat} {Q : wQ} {L : List (Option Value)} {st : List Value} {w : aw} {cn sn : Nat}  : wp d 109 Q 1 L st w cn sn = wp d 109 Q 4 L (.int 4095 :: st) w cn sn := w_sipush d_109_1 (by decide)
theorem d_109_4 : decode (mB 109) 4 = .ok (.if_icmp .le 17, 3) := by decide +kernel
theorem s_109_4 {d : Nat} {Q : wQ} {L : List (Option Value)} {st : List Value} {w : aw} {cn sn : Nat} {a b : Int32} : wp d 109 Q 4 L (.int b :: .int a :: st) w cn sn = ((a ≤ b → wp d 109 Q 21 L st w cn sn) ∧ (¬ a ≤ b → wp d 109 Q 7 L st w cn sn)) := w_icle d_109_4 (by decide)
theorem d_109_7 : decode (mB 109) 7 = .ok (.aload_n 0, 1) := by decide +kernel
theorem s_109_7 {d : Nat} {Q : wQ} {L : List (Option Value)} {st : List Value} {w : aw} {cn sn : Nat} {v : Nat} : wp d 109 Q 7 (some (.ref v) :: L) st w cn sn = wp d 109 Q 8 (some (.ref v) :: L) (.ref v :: st) w cn sn := w_aload_n d_109_7 rfl
theorem d_109_8 : decode (mB 109) 8 = .ok (.getfield 36, 3) := by decide +kernel
theorem s_109_8 {d : Nat} {Q : wQ} {L : List (Option Value)} {st : List Value} {w : aw} {cn sn : Nat} {a : Nat} : wp d 109 Q 8 L (.ref a :: st) w cn sn = (kd w a = 9 ∧ wp d 109 Q 11 L (fd w 530 a :: st) w cn sn) := w_getfield d_109_8 (by decide +kernel : fT (mO 109) 36 = some (8, 18))
theorem d_109_11 : decode (mB 109) 11 = .ok (.iload_n 1, 1) := by decide +kernel
theorem s_109_11 {d : Nat} {Q : wQ} {L : List (Option Value)} {st : List Value} {w : aw} {cn sn : Nat} {a0 : Option Value} {v : Int32} : wp d 109 Q 11 (a0 :: some (.int v) :: L) st w cn sn = wp d 109 Q 12 (a0 :: some (.int v) :: L) (.int v :: st) w cn sn := w_iload_n d_109_11 rfl
theorem d_109_12 : decode (mB 109) 12 = .ok (.iconst 1, 1) := by decide +kernel
theorem s_109_12 {d : Nat} {Q : wQ} {L : List (Option Value)} {st : List Value} {w : aw} {cn sn : Nat}  : wp d 109 Q 12 L st w cn sn = wp d 109 Q 13 L (.int 1 :: st) w cn sn := w_iconst d_109_12 (by decide)
theorem d_109_13 : decode (mB 109) 13 = .ok (.aload_n 0, 1) := by decide +kernel
theorem s_109_13 {d : Nat} {Q : wQ} {L : List (Option Value)} {st : List Value} {w : aw} {cn sn : Nat} {v : Nat} : wp d 109 Q 13 (some (.ref v) :: L) st w cn sn = wp d 109 Q 14 (some (.ref v) :: L) (.ref v :: st) w cn sn := w_aload_n d_109_13 rfl
theorem d_109_14 : decode (mB 109) 14 = .ok (.getfield 36, 3) := by decide +kernel
theorem s_109_14 {d : Nat} {Q : wQ} {L : List (Option Value)} {st : List Value} {w : aw} {cn sn : Nat} {a : Nat} : wp d 109 Q 14 L (.ref a :: st) w cn sn = (kd w a = 9 ∧ wp d 109 Q 17 L (fd w 530 a :: st) w cn sn) := w_getfield d_109_14 (by decide +kernel : fT (mO 109) 36 = some (8, 18))
theorem d_109_17 : decode (mB 109) 17 = .ok (.iload_n 1, 1) := by decide +kernel
theorem s_109_17 {d : Nat} {Q : wQ} {L : List (Option Value)} {st : List Value} {w : aw} {cn sn : Nat} {a0 : Option Value} {v : Int32} : wp d 109 Q 17 (a0 :: some (.int v) :: L) st w cn sn = wp d 109 Q 18 (a0 :: some (.int v) :: L) (.int v :: st) w cn sn := w_iload_n d_109_17 rfl
theorem d_109_18 : decode (mB 109) 18 = .ok (.iaload, 1) := by decide +kernel
theorem s_109_18 {d : Nat} {Q : wQ} {L : List (Option Value)} {st : List Value} {w : aw} {cn sn : Nat} {a : Nat} {i : Int32} : wp d 109 Q 18 L (.int i :: .ref a :: st) w cn sn = ((kd w a = 20 ∨ kd w a = 30) ∧ inR i (ln w a) ∧ wp d 109 Q 19 L (.int (ai w a i.toNatClampNeg) :: st) w cn sn) := wp_row d_109_18 _ _ _ _ _
theorem d_109_19 : decode (mB 109) 19 = .ok (.isub, 1) := by decide +kernel
theorem s_109_19 {d : Nat} {Q : wQ} {L : List (Option Value)} {st : List Value} {w : aw} {cn sn : Nat} {a b : Int32} : wp d 109 Q 19 L (.int b :: .int a :: st) w cn sn = wp d 109 Q 20 L (.int (a - b) :: st) w cn sn := wp_row d_109_19 _ _ _ _ _
theorem d_109_20 : decode (mB 109) 20 = .ok (.iastore, 1) := by decide +kernel
theorem s_109_20 {d : Nat} {Q : wQ} {L : List (Option Value)} {st : List Value} {w : aw} {cn sn : Nat} {a : Nat} {i x : Int32} : wp d 109 Q 20 L (.int x :: .int i :: .ref a :: st) w cn sn = (kd w a = 20 ∧ inR i (ln w a) ∧ wp d 109 Q 21 L st (uA w a i.toNatClampNeg x) cn sn) := wp_row d_109_20 _ _ _ _ _
theorem d_109_21 : decode (mB 109) 21 = .ok (.aload_n 0, 1) := by decide +kernel
theorem s_109_21 {d : Nat} {Q : wQ} {L : List (Option Value)} {st : List Value} {w : aw} {cn sn : Nat} {v : Nat} : wp d 109 Q 21 (some (.ref v) :: L) st w cn sn = wp d 109 Q 22 (some (.ref v) :: L) (.ref v :: st) w cn sn := w_aload_n d_109_21 rfl
theorem d_109_22 : decode (mB 109) 22 = .ok (.getfield 30, 3) := by decide +kernel
theorem s_109_22 {d : Nat} {Q : wQ} {L : List (Option Value)} {st : List Value} {w : aw} {cn sn : Nat} {a : Nat} : wp d 109 Q 22 L (.ref a :: st) w cn sn = (kd w a = 9 ∧ wp d 109 Q 25 L (fd w 528 a :: st) w cn sn) := w_getfield d_109_22 (by decide +kernel : fT (mO 109) 30 = some (8, 16))
theorem d_109_25 : decode (mB 109) 25 = .ok (.iload_n 1, 1) := by decide +kernel
theorem s_109_25 {d : Nat} {Q : wQ} {L : List (Option Value)} {st : List Value} {w : aw} {cn sn : Nat} {a0 : Option Value} {v : Int32} : wp d 109 Q 25 (a0 :: some (.int v) :: L) st w cn sn = wp d 109 Q 26 (a0 :: some (.int v) :: L) (.int v :: st) w cn sn := w_iload_n d_109_25 rfl
theorem d_109_26 : decode (mB 109) 26 = .ok (.iload_n 2, 1) := by decide +kernel
theorem s_109_26 {d : Nat} {Q : wQ} {L : List (Option Value)} {st : List Value} {w : aw} {cn sn : Nat} {a0 a1 : Option Value} {v : Int32} : wp d 109 Q 26 (a0 :: a1 :: some (.int v) :: L) st w cn sn = wp d 109 Q 27 (a0 :: a1 :: some (.int v) :: L) (.int v :: st) w cn sn := w_iload_n d_109_26 rfl
theorem d_109_27 : decode (mB 109) 27 = .ok (.sipush 4095, 3) := by decide +kernel
theorem s_109_27 {d : Nat} {Q : wQ} {L : List (Option Value)} {st : List Value} {w : aw} {cn sn : Nat}  : wp d 109 Q 27 L st w cn sn = wp d 109 Q 30 L (.int 4095 :: st) w cn sn := w_sipush d_109_27 (by decide)
theorem d_109_30 : decode (mB 109) 30 = .ok (.iand, 1) := by decide +kernel
theorem s_109_30 {d : Nat} {Q : wQ} {L : List (Option Value)} {st : List Value} {w : aw} {cn sn : Nat} {a b : Int32} : wp d 109 Q 30 L (.int b :: .int a :: st) w cn sn = wp d 109 Q 31 L (.int (a &&& b) :: st) w cn sn := wp_row d_109_30 _ _ _ _ _
theorem d_109_31 : decode (mB 109) 31 = .ok (.iastore, 1) := by decide +kernel
theorem s_109_31 {d : Nat} {Q : wQ} {L : List (Option Value)} {st : List Value} {w : aw} {cn sn : Nat} {a : Nat} {i x : Int32} : wp d 109 Q 31 L (.int x :: .int i :: .ref a :: st) w cn sn = (kd w a = 20 ∧ inR i (ln w a) ∧ wp d 109 Q 32 L st (uA w a i.toNatClampNeg x) cn sn) := wp_row d_109_31 _ _ _ _ _
theorem d_109_32 : decode (mB 109) 32 = .ok (.return_, 1) := by decide +kernel
theorem s_109_32 {d : Nat} {Q : wQ} {L : List (Option Value)} {w : aw} {cn sn : Nat}  : wp d 109 Q 32 L [] w cn sn = Q none w := w_return d_109_32 rfl
theorem d_110_0 : decode (mB 110) 0 = .ok (.aload_n 0, 1) := by decide +kernel
theorem s_110_0 {d : Nat} {Q : wQ} {L : List (Option Value)} {st : List Value} {w : aw} {cn sn : Nat} {v : Nat} : wp d 110 Q 0 (some (.ref v) :: L) st w cn sn = wp d 110 Q 1 (some (.ref v) :: L) (.ref v :: st) w cn sn := w_aload_n d_110_0 rfl
theorem d_110_1 : decode (mB 110) 1 = .ok (.getfield 33, 3) := by decide +kernel
theorem s_110_1 {d : Nat} {Q : wQ} {L : List (Option Value)} {st : List Value} {w : aw} {cn sn : Nat} {a : Nat} : wp d 110 Q 1 L (.ref a :: st) w cn sn = (kd w a = 9 ∧ wp d 110 Q 4 L (fd w 529 a :: st) w cn sn) := w_getfield d_110_1 (by decide +kernel : fT (mO 110) 33 = some (8, 17))
theorem d_110_4 : decode (mB 110) 4 = .ok (.iload_n 1, 1) := by decide +kernel
theorem s_110_4 {d : Nat} {Q : wQ} {L : List (Option Value)} {st : List Value} {w : aw} {cn sn : Nat} {a0 : Option Value} {v : Int32} : wp d 110 Q 4 (a0 :: some (.int v) :: L) st w cn sn = wp d 110 Q 5 (a0 :: some (.int v) :: L) (.int v :: st) w cn sn := w_iload_n d_110_4 rfl
theorem d_110_5 : decode (mB 110) 5 = .ok (.iload_n 2, 1) := by decide +kernel
theorem s_110_5 {d : Nat} {Q : wQ} {L : List (Option Value)} {st : List Value} {w : aw} {cn sn : Nat} {a0 a1 : Option Value} {v : Int32} : wp d 110 Q 5 (a0 :: a1 :: some (.int v) :: L) st w cn sn = wp d 110 Q 6 (a0 :: a1 :: some (.int v) :: L) (.int v :: st) w cn sn := w_iload_n d_110_5 rfl
theorem d_110_6 : decode (mB 110) 6 = .ok (.ifCond .eq 18, 3) := by decide +kernel
theorem s_110_6 {d : Nat} {Q : wQ} {L : List (Option Value)} {st : List Value} {w : aw} {cn sn : Nat} {x : Int32} : wp d 110 Q 6 L (.int x :: st) w cn sn = ((x = 0 → wp d 110 Q 24 L st w cn sn) ∧ (¬ x = 0 → wp d 110 Q 9 L st w cn sn)) := w_ifeq d_110_6 (by decide)
theorem d_110_9 : decode (mB 110) 9 = .ok (.aload_n 0, 1) := by decide +kernel
theorem s_110_9 {d : Nat} {Q : wQ} {L : List (Option Value)} {st : List Value} {w : aw} {cn sn : Nat} {v : Nat} : wp d 110 Q 9 (some (.ref v) :: L) st w cn sn = wp d 110 Q 10 (some (.ref v) :: L) (.ref v :: st) w cn sn := w_aload_n d_110_9 rfl
theorem d_110_10 : decode (mB 110) 10 = .ok (.getfield 33, 3) := by decide +kernel
theorem s_110_10 {d : Nat} {Q : wQ} {L : List (Option Value)} {st : List Value} {w : aw} {cn sn : Nat} {a : Nat} : wp d 110 Q 10 L (.ref a :: st) w cn sn = (kd w a = 9 ∧ wp d 110 Q 13 L (fd w 529 a :: st) w cn sn) := w_getfield d_110_10 (by decide +kernel : fT (mO 110) 33 = some (8, 17))
theorem d_110_13 : decode (mB 110) 13 = .ok (.iload_n 1, 1) := by decide +kernel
theorem s_110_13 {d : Nat} {Q : wQ} {L : List (Option Value)} {st : List Value} {w : aw} {cn sn : Nat} {a0 : Option Value} {v : Int32} : wp d 110 Q 13 (a0 :: some (.int v) :: L) st w cn sn = wp d 110 Q 14 (a0 :: some (.int v) :: L) (.int v :: st) w cn sn := w_iload_n d_110_13 rfl
theorem d_110_14 : decode (mB 110) 14 = .ok (.iaload, 1) := by decide +kernel
theorem s_110_14 {d : Nat} {Q : wQ} {L : List (Option Value)} {st : List Value} {w : aw} {cn sn : Nat} {a : Nat} {i : Int32} : wp d 110 Q 14 L (.int i :: .ref a :: st) w cn sn = ((kd w a = 20 ∨ kd w a = 30) ∧ inR i (ln w a) ∧ wp d 110 Q 15 L (.int (ai w a i.toNatClampNeg) :: st) w cn sn) := wp_row d_110_14 _ _ _ _ _
theorem d_110_15 : decode (mB 110) 15 = .ok (.iconst 1, 1) := by decide +kernel
theorem s_110_15 {d : Nat} {Q : wQ} {L : List (Option Value)} {st : List Value} {w : aw} {cn sn : Nat}  : wp d 110 Q 15 L st w cn sn = wp d 110 Q 16 L (.int 1 :: st) w cn sn := w_iconst d_110_15 (by decide)
theorem d_110_16 : decode (mB 110) 16 = .ok (.iadd, 1) := by decide +kernel
theorem s_110_16 {d : Nat} {Q : wQ} {L : List (Option Value)} {st : List Value} {w : aw} {cn sn : Nat} {a b : Int32} : wp d 110 Q 16 L (.int b :: .int a :: st) w cn sn = wp d 110 Q 17 L (.int (a + b) :: st) w cn sn := wp_row d_110_16 _ _ _ _ _
theorem d_110_17 : decode (mB 110) 17 = .ok (.sipush 4095, 3) := by decide +kernel
theorem s_110_17 {d : Nat} {Q : wQ} {L : List (Option Value)} {st : List Value} {w : aw} {cn sn : Nat}  : wp d 110 Q 17 L st w cn sn = wp d 110 Q 20 L (.int 4095 :: st) w cn sn := w_sipush d_110_17 (by decide)
theorem d_110_20 : decode (mB 110) 20 = .ok (.iand, 1) := by decide +kernel
theorem s_110_20 {d : Nat} {Q : wQ} {L : List (Option Value)} {st : List Value} {w : aw} {cn sn : Nat} {a b : Int32} : wp d 110 Q 20 L (.int b :: .int a :: st) w cn sn = wp d 110 Q 21 L (.int (a &&& b) :: st) w cn sn := wp_row d_110_20 _ _ _ _ _
theorem d_110_21 : decode (mB 110) 21 = .ok (.goto 9, 3) := by decide +kernel
theorem s_110_21 {d : Nat} {Q : wQ} {L : List (Option Value)} {st : List Value} {w : aw} {cn sn : Nat}  : wp d 110 Q 21 L st w cn sn = wp d 110 Q 30 L st w cn sn := w_goto d_110_21 (by decide)
theorem d_110_24 : decode (mB 110) 24 = .ok (.aload_n 0, 1) := by decide +kernel
theorem s_110_24 {d : Nat} {Q : wQ} {L : List (Option Value)} {st : List Value} {w : aw} {cn sn : Nat} {v : Nat} : wp d 110 Q 24 (some (.ref v) :: L) st w cn sn = wp d 110 Q 25 (some (.ref v) :: L) (.ref v :: st) w cn sn := w_aload_n d_110_24 rfl
theorem d_110_25 : decode (mB 110) 25 = .ok (.getfield 33, 3) := by decide +kernel
theorem s_110_25 {d : Nat} {Q : wQ} {L : List (Option Value)} {st : List Value} {w : aw} {cn sn : Nat} {a : Nat} : wp d 110 Q 25 L (.ref a :: st) w cn sn = (kd w a = 9 ∧ wp d 110 Q 28 L (fd w 529 a :: st) w cn sn) := w_getfield d_110_25 (by decide +kernel : fT (mO 110) 33 = some (8, 17))
theorem d_110_28 : decode (mB 110) 28 = .ok (.iload_n 1, 1) := by decide +kernel
theorem s_110_28 {d : Nat} {Q : wQ} {L : List (Option Value)} {st : List Value} {w : aw} {cn sn : Nat} {a0 : Option Value} {v : Int32} : wp d 110 Q 28 (a0 :: some (.int v) :: L) st w cn sn = wp d 110 Q 29 (a0 :: some (.int v) :: L) (.int v :: st) w cn sn := w_iload_n d_110_28 rfl
theorem d_110_29 : decode (mB 110) 29 = .ok (.iaload, 1) := by decide +kernel
theorem s_110_29 {d : Nat} {Q : wQ} {L : List (Option Value)} {st : List Value} {w : aw} {cn sn : Nat} {a : Nat} {i : Int32} : wp d 110 Q 29 L (.int i :: .ref a :: st) w cn sn = ((kd w a = 20 ∨ kd w a = 30) ∧ inR i (ln w a) ∧ wp d 110 Q 30 L (.int (ai w a i.toNatClampNeg) :: st) w cn sn) := wp_row d_110_29 _ _ _ _ _
theorem d_110_30 : decode (mB 110) 30 = .ok (.iastore, 1) := by decide +kernel
theorem s_110_30 {d : Nat} {Q : wQ} {L : List (Option Value)} {st : List Value} {w : aw} {cn sn : Nat} {a : Nat} {i x : Int32} : wp d 110 Q 30 L (.int x :: .int i :: .ref a :: st) w cn sn = (kd w a = 20 ∧ inR i (ln w a) ∧ wp d 110 Q 31 L st (uA w a i.toNatClampNeg x) cn sn) := wp_row d_110_30 _ _ _ _ _
theorem d_110_31 : decode (mB 110) 31 = .ok (.return_, 1) := by decide +kernel
theorem s_110_31 {d : Nat} {Q : wQ} {L : List (Option Value)} {w : aw} {cn sn : Nat}  : wp d 110 Q 31 L [] w cn sn = Q none w := w_return d_110_31 rfl
theorem d_111_0 : decode (mB 111) 0 = .ok (.aload_n 0, 1) := by decide +kernel
theorem s_111_0 {d : Nat} {Q : wQ} {L : List (Option Value)} {st : List Value} {w : aw} {cn sn : Nat} {v : Nat} : wp d 111 Q 0 (some (.ref v) :: L) st w cn sn = wp d 111 Q 1 (some (.ref v) :: L) (.ref v :: st) w cn sn := w_aload_n d_111_0 rfl
theorem d_111_1 : decode (mB 111) 1 = .ok (.getfield 33, 3) := by decide +kernel
theorem s_111_1 {d : Nat} {Q : wQ} {L : List (Option Value)} {st : List Value} {w : aw} {cn sn : Nat} {a : Nat} : wp d 111 Q 1 L (.ref a :: st) w cn sn = (kd w a = 9 ∧ wp d 111 Q 4 L (fd w 529 a :: st) w cn sn) := w_getfield d_111_1 (by decide +kernel : fT (mO 111) 33 = some (8, 17))
theorem d_111_4 : decode (mB 111) 4 = .ok (.iload_n 1, 1) := by decide +kernel
theorem s_111_4 {d : Nat} {Q : wQ} {L : List (Option Value)} {st : List Value} {w : aw} {cn sn : Nat} {a0 : Option Value} {v : Int32} : wp d 111 Q 4 (a0 :: some (.int v) :: L) st w cn sn = wp d 111 Q 5 (a0 :: some (.int v) :: L) (.int v :: st) w cn sn := w_iload_n d_111_4 rfl
theorem d_111_5 : decode (mB 111) 5 = .ok (.iaload, 1) := by decide +kernel
theorem s_111_5 {d : Nat} {Q : wQ} {L : List (Option Value)} {st : List Value} {w : aw} {cn sn : Nat} {a : Nat} {i : Int32} : wp d 111 Q 5 L (.int i :: .ref a :: st) w cn sn = ((kd w a = 20 ∨ kd w a = 30) ∧ inR i (ln w a) ∧ wp d 111 Q 6 L (.int (ai w a i.toNatClampNeg) :: st) w cn sn) := wp_row d_111_5 _ _ _ _ _
theorem d_111_6 : decode (mB 111) 6 = .ok (.istore_n 2, 1) := by decide +kernel
theorem s_111_6 {d : Nat} {Q : wQ} {L : List (Option Value)} {st : List Value} {w : aw} {cn sn : Nat} {a0 a1 a2 : Option Value} {v : Int32} : wp d 111 Q 6 (a0 :: a1 :: a2 :: L) (.int v :: st) w cn sn = wp d 111 Q 7 (a0 :: clr a1 :: some (.int v) :: L) st w cn sn := w_istore_n d_111_6 (Nat.le_add_left 3 _) rfl
theorem d_111_7 : decode (mB 111) 7 = .ok (.aload_n 0, 1) := by decide +kernel
theorem s_111_7 {d : Nat} {Q : wQ} {L : List (Option Value)} {st : List Value} {w : aw} {cn sn : Nat} {v : Nat} : wp d 111 Q 7 (some (.ref v) :: L) st w cn sn = wp d 111 Q 8 (some (.ref v) :: L) (.ref v :: st) w cn sn := w_aload_n d_111_7 rfl
theorem d_111_8 : decode (mB 111) 8 = .ok (.iload_n 1, 1) := by decide +kernel
theorem s_111_8 {d : Nat} {Q : wQ} {L : List (Option Value)} {st : List Value} {w : aw} {cn sn : Nat} {a0 : Option Value} {v : Int32} : wp d 111 Q 8 (a0 :: some (.int v) :: L) st w cn sn = wp d 111 Q 9 (a0 :: some (.int v) :: L) (.int v :: st) w cn sn := w_iload_n d_111_8 rfl
theorem d_111_9 : decode (mB 111) 9 = .ok (.iload_n 2, 1) := by decide +kernel
theorem s_111_9 {d : Nat} {Q : wQ} {L : List (Option Value)} {st : List Value} {w : aw} {cn sn : Nat} {a0 a1 : Option Value} {v : Int32} : wp d 111 Q 9 (a0 :: a1 :: some (.int v) :: L) st w cn sn = wp d 111 Q 10 (a0 :: a1 :: some (.int v) :: L) (.int v :: st) w cn sn := w_iload_n d_111_9 rfl
theorem d_111_10 : decode (mB 111) 10 = .ok (.invokevirtual 115, 3) := by decide +kernel
theorem s_111_10 {d : Nat} {Q : wQ} {L : List (Option Value)} {st : List Value} {w : aw} {cn sn : Nat} {v0 v1 : Value} {b : Nat} : wp d 111 Q 10 L (v1 :: v0 :: .ref b :: st) w cn sn = (kd w b = 9 ∧ catS st ≤ 8 ∧ wpD d 107 [.ref b, v0, v1] w (fun v w' => wp d 111 Q 13 L (v.toList ++ st) w' cn sn)) := w_virtual (As := [v0, v1]) d_111_10 (by decide +kernel : cT (mO 111) 115 = some (0, 107)) rfl (by decide +kernel) rfl (by decide +kernel) rfl
theorem d_111_13 : decode (mB 111) 13 = .ok (.istore_n 3, 1) := by decide +kernel
theorem s_111_13 {d : Nat} {Q : wQ} {L : List (Option Value)} {st : List Value} {w : aw} {cn sn : Nat} {a0 a1 a2 a3 : Option Value} {v : Int32} : wp d 111 Q 13 (a0 :: a1 :: a2 :: a3 :: L) (.int v :: st) w cn sn = wp d 111 Q 14 (a0 :: a1 :: clr a2 :: some (.int v) :: L) st w cn sn := w_istore_n d_111_13 (Nat.le_add_left 4 _) rfl
theorem d_111_14 : decode (mB 111) 14 = .ok (.aload_n 0, 1) := by decide +kernel
theorem s_111_14 {d : Nat} {Q : wQ} {L : List (Option Value)} {st : List Value} {w : aw} {cn sn : Nat} {v : Nat} : wp d 111 Q 14 (some (.ref v) :: L) st w cn sn = wp d 111 Q 15 (some (.ref v) :: L) (.ref v :: st) w cn sn := w_aload_n d_111_14 rfl
theorem d_111_15 : decode (mB 111) 15 = .ok (.getfield 33, 3) := by decide +kernel
theorem s_111_15 {d : Nat} {Q : wQ} {L : List (Option Value)} {st : List Value} {w : aw} {cn sn : Nat} {a : Nat} : wp d 111 Q 15 L (.ref a :: st) w cn sn = (kd w a = 9 ∧ wp d 111 Q 18 L (fd w 529 a :: st) w cn sn) := w_getfield d_111_15 (by decide +kernel : fT (mO 111) 33 = some (8, 17))
theorem d_111_18 : decode (mB 111) 18 = .ok (.iload_n 1, 1) := by decide +kernel
theorem s_111_18 {d : Nat} {Q : wQ} {L : List (Option Value)} {st : List Value} {w : aw} {cn sn : Nat} {a0 : Option Value} {v : Int32} : wp d 111 Q 18 (a0 :: some (.int v) :: L) st w cn sn = wp d 111 Q 19 (a0 :: some (.int v) :: L) (.int v :: st) w cn sn := w_iload_n d_111_18 rfl
theorem d_111_19 : decode (mB 111) 19 = .ok (.iload_n 2, 1) := by decide +kernel
theorem s_111_19 {d : Nat} {Q : wQ} {L : List (Option Value)} {st : List Value} {w : aw} {cn sn : Nat} {a0 a1 : Option Value} {v : Int32} : wp d 111 Q 19 (a0 :: a1 :: some (.int v) :: L) st w cn sn = wp d 111 Q 20 (a0 :: a1 :: some (.int v) :: L) (.int v :: st) w cn sn := w_iload_n d_111_19 rfl
theorem d_111_20 : decode (mB 111) 20 = .ok (.iconst 1, 1) := by decide +kernel
theorem s_111_20 {d : Nat} {Q : wQ} {L : List (Option Value)} {st : List Value} {w : aw} {cn sn : Nat}  : wp d 111 Q 20 L st w cn sn = wp d 111 Q 21 L (.int 1 :: st) w cn sn := w_iconst d_111_20 (by decide)
theorem d_111_21 : decode (mB 111) 21 = .ok (.iadd, 1) := by decide +kernel
theorem s_111_21 {d : Nat} {Q : wQ} {L : List (Option Value)} {st : List Value} {w : aw} {cn sn : Nat} {a b : Int32} : wp d 111 Q 21 L (.int b :: .int a :: st) w cn sn = wp d 111 Q 22 L (.int (a + b) :: st) w cn sn := wp_row d_111_21 _ _ _ _ _
theorem d_111_22 : decode (mB 111) 22 = .ok (.sipush 4095, 3) := by decide +kernel
theorem s_111_22 {d : Nat} {Q : wQ} {L : List (Option Value)} {st : List Value} {w : aw} {cn sn : Nat}  : wp d 111 Q 22 L st w cn sn = wp d 111 Q 25 L (.int 4095 :: st) w cn sn := w_sipush d_111_22 (by decide)
theorem d_111_25 : decode (mB 111) 25 = .ok (.iand, 1) := by decide +kernel
theorem s_111_25 {d : Nat} {Q : wQ} {L : List (Option Value)} {st : List Value} {w : aw} {cn sn : Nat} {a b : Int32} : wp d 111 Q 25 L (.int b :: .int a :: st) w cn sn = wp d 111 Q 26 L (.int (a &&& b) :: st) w cn sn := wp_row d_111_25 _ _ _ _ _
theorem d_111_26 : decode (mB 111) 26 = .ok (.iastore, 1) := by decide +kernel
theorem s_111_26 {d : Nat} {Q : wQ} {L : List (Option Value)} {st : List Value} {w : aw} {cn sn : Nat} {a : Nat} {i x : Int32} : wp d 111 Q 26 L (.int x :: .int i :: .ref a :: st) w cn sn = (kd w a = 20 ∧ inR i (ln w a) ∧ wp d 111 Q 27 L st (uA w a i.toNatClampNeg x) cn sn) := wp_row d_111_26 _ _ _ _ _
theorem d_111_27 : decode (mB 111) 27 = .ok (.aload_n 0, 1) := by decide +kernel
theorem s_111_27 {d : Nat} {Q : wQ} {L : List (Option Value)} {st : List Value} {w : aw} {cn sn : Nat} {v : Nat} : wp d 111 Q 27 (some (.ref v) :: L) st w cn sn = wp d 111 Q 28 (some (.ref v) :: L) (.ref v :: st) w cn sn := w_aload_n d_111_27 rfl
theorem d_111_28 : decode (mB 111) 28 = .ok (.getfield 51, 3) := by decide +kernel
theorem s_111_28 {d : Nat} {Q : wQ} {L : List (Option Value)} {st : List Value} {w : aw} {cn sn : Nat} {a : Nat} : wp d 111 Q 28 L (.ref a :: st) w cn sn = (kd w a = 9 ∧ wp d 111 Q 31 L (fd w 535 a :: st) w cn sn) := w_getfield d_111_28 (by decide +kernel : fT (mO 111) 51 = some (8, 23))
theorem d_111_31 : decode (mB 111) 31 = .ok (.iload_n 1, 1) := by decide +kernel
theorem s_111_31 {d : Nat} {Q : wQ} {L : List (Option Value)} {st : List Value} {w : aw} {cn sn : Nat} {a0 : Option Value} {v : Int32} : wp d 111 Q 31 (a0 :: some (.int v) :: L) st w cn sn = wp d 111 Q 32 (a0 :: some (.int v) :: L) (.int v :: st) w cn sn := w_iload_n d_111_31 rfl
theorem d_111_32 : decode (mB 111) 32 = .ok (.dup2, 1) := by decide +kernel
theorem s_111_32 {d : Nat} {Q : wQ} {L : List (Option Value)} {st : List Value} {w : aw} {cn sn : Nat} {a b : Value} : wp d 111 Q 32 L (a :: b :: st) w cn sn = (a.category = 1 ∧ b.category = 1 ∧ wp d 111 Q 33 L (a :: b :: a :: b :: st) w cn sn) := wp_row d_111_32 _ _ _ _ _
theorem d_111_33 : decode (mB 111) 33 = .ok (.iaload, 1) := by decide +kernel
theorem s_111_33 {d : Nat} {Q : wQ} {L : List (Option Value)} {st : List Value} {w : aw} {cn sn : Nat} {a : Nat} {i : Int32} : wp d 111 Q 33 L (.int i :: .ref a :: st) w cn sn = ((kd w a = 20 ∨ kd w a = 30) ∧ inR i (ln w a) ∧ wp d 111 Q 34 L (.int (ai w a i.toNatClampNeg) :: st) w cn sn) := wp_row d_111_33 _ _ _ _ _
theorem d_111_34 : decode (mB 111) 34 = .ok (.iconst 1, 1) := by decide +kernel
theorem s_111_34 {d : Nat} {Q : wQ} {L : List (Option Value)} {st : List Value} {w : aw} {cn sn : Nat}  : wp d 111 Q 34 L st w cn sn = wp d 111 Q 35 L (.int 1 :: st) w cn sn := w_iconst d_111_34 (by decide)
theorem d_111_35 : decode (mB 111) 35 = .ok (.iadd, 1) := by decide +kernel
theorem s_111_35 {d : Nat} {Q : wQ} {L : List (Option Value)} {st : List Value} {w : aw} {cn sn : Nat} {a b : Int32} : wp d 111 Q 35 L (.int b :: .int a :: st) w cn sn = wp d 111 Q 36 L (.int (a + b) :: st) w cn sn := wp_row d_111_35 _ _ _ _ _
theorem d_111_36 : decode (mB 111) 36 = .ok (.iastore, 1) := by decide +kernel
theorem s_111_36 {d : Nat} {Q : wQ} {L : List (Option Value)} {st : List Value} {w : aw} {cn sn : Nat} {a : Nat} {i x : Int32} : wp d 111 Q 36 L (.int x :: .int i :: .ref a :: st) w cn sn = (kd w a = 20 ∧ inR i (ln w a) ∧ wp d 111 Q 37 L st (uA w a i.toNatClampNeg x) cn sn) := wp_row d_111_36 _ _ _ _ _
theorem d_111_37 : decode (mB 111) 37 = .ok (.iload_n 3, 1) := by decide +kernel
theorem s_111_37 {d : Nat} {Q : wQ} {L : List (Option Value)} {st : List Value} {w : aw} {cn sn : Nat} {a0 a1 a2 : Option Value} {v : Int32} : wp d 111 Q 37 (a0 :: a1 :: a2 :: some (.int v) :: L) st w cn sn = wp d 111 Q 38 (a0 :: a1 :: a2 :: some (.int v) :: L) (.int v :: st) w cn sn := w_iload_n d_111_37 rfl
theorem d_111_38 : decode (mB 111) 38 = .ok (.sipush 3072, 3) := by decide +kernel
theorem s_111_38 {d : Nat} {Q : wQ} {L : List (Option Value)} {st : List Value} {w : aw} {cn sn : Nat}  : wp d 111 Q 38 L st w cn sn = wp d 111 Q 41 L (.int 3072 :: st) w cn sn := w_sipush d_111_38 (by decide)
theorem d_111_41 : decode (mB 111) 41 = .ok (.if_icmp .ge 13, 3) := by decide +kernel
theorem s_111_41 {d : Nat} {Q : wQ} {L : List (Option Value)} {st : List Value} {w : aw} {cn sn : Nat} {a b : Int32} : wp d 111 Q 41 L (.int b :: .int a :: st) w cn sn = ((b ≤ a → wp d 111 Q 54 L st w cn sn) ∧ (¬ b ≤ a → wp d 111 Q 44 L st w cn sn)) := w_icge d_111_41 (by decide)
theorem d_111_44 : decode (mB 111) 44 = .ok (.aload_n 0, 1) := by decide +kernel
theorem s_111_44 {d : Nat} {Q : wQ} {L : List (Option Value)} {st : List Value} {w : aw} {cn sn : Nat} {v : Nat} : wp d 111 Q 44 (some (.ref v) :: L) st w cn sn = wp d 111 Q 45 (some (.ref v) :: L) (.ref v :: st) w cn sn := w_aload_n d_111_44 rfl
theorem d_111_45 : decode (mB 111) 45 = .ok (.iload_n 1, 1) := by decide +kernel
theorem s_111_45 {d : Nat} {Q : wQ} {L : List (Option Value)} {st : List Value} {w : aw} {cn sn : Nat} {a0 : Option Value} {v : Int32} : wp d 111 Q 45 (a0 :: some (.int v) :: L) st w cn sn = wp d 111 Q 46 (a0 :: some (.int v) :: L) (.int v :: st) w cn sn := w_iload_n d_111_45 rfl
theorem d_111_46 : decode (mB 111) 46 = .ok (.iload_n 3, 1) := by decide +kernel
theorem s_111_46 {d : Nat} {Q : wQ} {L : List (Option Value)} {st : List Value} {w : aw} {cn sn : Nat} {a0 a1 a2 : Option Value} {v : Int32} : wp d 111 Q 46 (a0 :: a1 :: a2 :: some (.int v) :: L) st w cn sn = wp d 111 Q 47 (a0 :: a1 :: a2 :: some (.int v) :: L) (.int v :: st) w cn sn := w_iload_n d_111_46 rfl
theorem d_111_47 : decode (mB 111) 47 = .ok (.iload_n 2, 1) := by decide +kernel
theorem s_111_47 {d : Nat} {Q : wQ} {L : List (Option Value)} {st : List Value} {w : aw} {cn sn : Nat} {a0 a1 : Option Value} {v : Int32} : wp d 111 Q 47 (a0 :: a1 :: some (.int v) :: L) st w cn sn = wp d 111 Q 48 (a0 :: a1 :: some (.int v) :: L) (.int v :: st) w cn sn := w_iload_n d_111_47 rfl
theorem d_111_48 : decode (mB 111) 48 = .ok (.invokevirtual 119, 3) := by decide +kernel
theorem s_111_48 {d : Nat} {Q : wQ} {L : List (Option Value)} {st : List Value} {w : aw} {cn sn : Nat} {v0 v1 v2 : Value} {b : Nat} : wp d 111 Q 48 L (v2 :: v1 :: v0 :: .ref b :: st) w cn sn = (kd w b = 9 ∧ catS st ≤ 8 ∧ wpD d 112 [.ref b, v0, v1, v2] w (fun v w' => wp d 111 Q 51 L (v.toList ++ st) w' cn sn)) := w_virtual (As := [v0, v1, v2]) d_111_48 (by decide +kernel : cT (mO 111) 119 = some (0, 112)) rfl (by decide +kernel) rfl (by decide +kernel) rfl
theorem d_111_51 : decode (mB 111) 51 = .ok (.goto 49, 3) := by decide +kernel
theorem s_111_51 {d : Nat} {Q : wQ} {L : List (Option Value)} {st : List Value} {w : aw} {cn sn : Nat}  : wp d 111 Q 51 L st w cn sn = wp d 111 Q 100 L st w cn sn := w_goto d_111_51 (by decide)
theorem d_111_54 : decode (mB 111) 54 = .ok (.iload_n 3, 1) := by decide +kernel
theorem s_111_54 {d : Nat} {Q : wQ} {L : List (Option Value)} {st : List Value} {w : aw} {cn sn : Nat} {a0 a1 a2 : Option Value} {v : Int32} : wp d 111 Q 54 (a0 :: a1 :: a2 :: some (.int v) :: L) st w cn sn = wp d 111 Q 55 (a0 :: a1 :: a2 :: some (.int v) :: L) (.int v :: st) w cn sn := w_iload_n d_111_54 rfl
theorem d_111_55 : decode (mB 111) 55 = .ok (.sipush 3584, 3) := by decide +kernel
theorem s_111_55 {d : Nat} {Q : wQ} {L : List (Option Value)} {st : List Value} {w : aw} {cn sn : Nat}  : wp d 111 Q 55 L st w cn sn = wp d 111 Q 58 L (.int 3584 :: st) w cn sn := w_sipush d_111_55 (by decide)
theorem d_111_58 : decode (mB 111) 58 = .ok (.if_icmp .ge 13, 3) := by decide +kernel
theorem s_111_58 {d : Nat} {Q : wQ} {L : List (Option Value)} {st : List Value} {w : aw} {cn sn : Nat} {a b : Int32} : wp d 111 Q 58 L (.int b :: .int a :: st) w cn sn = ((b ≤ a → wp d 111 Q 71 L st w cn sn) ∧ (¬ b ≤ a → wp d 111 Q 61 L st w cn sn)) := w_icge d_111_58 (by decide)
theorem d_111_61 : decode (mB 111) 61 = .ok (.aload_n 0, 1) := by decide +kernel
theorem s_111_61 {d : Nat} {Q : wQ} {L : List (Option Value)} {st : List Value} {w : aw} {cn sn : Nat} {v : Nat} : wp d 111 Q 61 (some (.ref v) :: L) st w cn sn = wp d 111 Q 62 (some (.ref v) :: L) (.ref v :: st) w cn sn := w_aload_n d_111_61 rfl
theorem d_111_62 : decode (mB 111) 62 = .ok (.iload_n 1, 1) := by decide +kernel
theorem s_111_62 {d : Nat} {Q : wQ} {L : List (Option Value)} {st : List Value} {w : aw} {cn sn : Nat} {a0 : Option Value} {v : Int32} : wp d 111 Q 62 (a0 :: some (.int v) :: L) st w cn sn = wp d 111 Q 63 (a0 :: some (.int v) :: L) (.int v :: st) w cn sn := w_iload_n d_111_62 rfl
theorem d_111_63 : decode (mB 111) 63 = .ok (.iload_n 3, 1) := by decide +kernel
theorem s_111_63 {d : Nat} {Q : wQ} {L : List (Option Value)} {st : List Value} {w : aw} {cn sn : Nat} {a0 a1 a2 : Option Value} {v : Int32} : wp d 111 Q 63 (a0 :: a1 :: a2 :: some (.int v) :: L) st w cn sn = wp d 111 Q 64 (a0 :: a1 :: a2 :: some (.int v) :: L) (.int v :: st) w cn sn := w_iload_n d_111_63 rfl
theorem d_111_64 : decode (mB 111) 64 = .ok (.iload_n 2, 1) := by decide +kernel
theorem s_111_64 {d : Nat} {Q : wQ} {L : List (Option Value)} {st : List Value} {w : aw} {cn sn : Nat} {a0 a1 : Option Value} {v : Int32} : wp d 111 Q 64 (a0 :: a1 :: some (.int v) :: L) st w cn sn = wp d 111 Q 65 (a0 :: a1 :: some (.int v) :: L) (.int v :: st) w cn sn := w_iload_n d_111_64 rfl
theorem d_111_65 : decode (mB 111) 65 = .ok (.invokevirtual 123, 3) := by decide +kernel
theorem s_111_65 {d : Nat} {Q : wQ} {L : List (Option Value)} {st : List Value} {w : aw} {cn sn : Nat} {v0 v1 v2 : Value} {b : Nat} : wp d 111 Q 65 L (v2 :: v1 :: v0 :: .ref b :: st) w cn sn = (kd w b = 9 ∧ catS st ≤ 8 ∧ wpD d 115 [.ref b, v0, v1, v2] w (fun v w' => wp d 111 Q 68 L (v.toList ++ st) w' cn sn)) := w_virtual (As := [v0, v1, v2]) d_111_65 (by decide +kernel : cT (mO 111) 123 = some (0, 115)) rfl (by decide +kernel) rfl (by decide +kernel) rfl
theorem d_111_68 : decode (mB 111) 68 = .ok (.goto 32, 3) := by decide +kernel
theorem s_111_68 {d : Nat} {Q : wQ} {L : List (Option Value)} {st : List Value} {w : aw} {cn sn : Nat}  : wp d 111 Q 68 L st w cn sn = wp d 111 Q 100 L st w cn sn := w_goto d_111_68 (by decide)
theorem d_111_71 : decode (mB 111) 71 = .ok (.iload_n 3, 1) := by decide +kernel
theorem s_111_71 {d : Nat} {Q : wQ} {L : List (Option Value)} {st : List Value} {w : aw} {cn sn : Nat} {a0 a1 a2 : Option Value} {v : Int32} : wp d 111 Q 71 (a0 :: a1 :: a2 :: some (.int v) :: L) st w cn sn = wp d 111 Q 72 (a0 :: a1 :: a2 :: some (.int v) :: L) (.int v :: st) w cn sn := w_iload_n d_111_71 rfl
theorem d_111_72 : decode (mB 111) 72 = .ok (.sipush 256, 3) := by decide +kernel
theorem s_111_72 {d : Nat} {Q : wQ} {L : List (Option Value)} {st : List Value} {w : aw} {cn sn : Nat}  : wp d 111 Q 72 L st w cn sn = wp d 111 Q 75 L (.int 256 :: st) w cn sn := w_sipush d_111_72 (by decide)
theorem d_111_75 : decode (mB 111) 75 = .ok (.iand, 1) := by decide +kernel
theorem s_111_75 {d : Nat} {Q : wQ} {L : List (Option Value)} {st : List Value} {w : aw} {cn sn : Nat} {a b : Int32} : wp d 111 Q 75 L (.int b :: .int a :: st) w cn sn = wp d 111 Q 76 L (.int (a &&& b) :: st) w cn sn := wp_row d_111_75 _ _ _ _ _
theorem d_111_76 : decode (mB 111) 76 = .ok (.ifCond .ne 12, 3) := by decide +kernel
theorem s_111_76 {d : Nat} {Q : wQ} {L : List (Option Value)} {st : List Value} {w : aw} {cn sn : Nat} {x : Int32} : wp d 111 Q 76 L (.int x :: st) w cn sn = ((¬ x = 0 → wp d 111 Q 88 L st w cn sn) ∧ (x = 0 → wp d 111 Q 79 L st w cn sn)) := w_ifne d_111_76 (by decide)
theorem d_111_79 : decode (mB 111) 79 = .ok (.aload_n 0, 1) := by decide +kernel
theorem s_111_79 {d : Nat} {Q : wQ} {L : List (Option Value)} {st : List Value} {w : aw} {cn sn : Nat} {v : Nat} : wp d 111 Q 79 (some (.ref v) :: L) st w cn sn = wp d 111 Q 80 (some (.ref v) :: L) (.ref v :: st) w cn sn := w_aload_n d_111_79 rfl
theorem d_111_80 : decode (mB 111) 80 = .ok (.iload_n 1, 1) := by decide +kernel
theorem s_111_80 {d : Nat} {Q : wQ} {L : List (Option Value)} {st : List Value} {w : aw} {cn sn : Nat} {a0 : Option Value} {v : Int32} : wp d 111 Q 80 (a0 :: some (.int v) :: L) st w cn sn = wp d 111 Q 81 (a0 :: some (.int v) :: L) (.int v :: st) w cn sn := w_iload_n d_111_80 rfl
theorem d_111_81 : decode (mB 111) 81 = .ok (.iload_n 3, 1) := by decide +kernel
theorem s_111_81 {d : Nat} {Q : wQ} {L : List (Option Value)} {st : List Value} {w : aw} {cn sn : Nat} {a0 a1 a2 : Option Value} {v : Int32} : wp d 111 Q 81 (a0 :: a1 :: a2 :: some (.int v) :: L) st w cn sn = wp d 111 Q 82 (a0 :: a1 :: a2 :: some (.int v) :: L) (.int v :: st) w cn sn := w_iload_n d_111_81 rfl
theorem d_111_82 : decode (mB 111) 82 = .ok (.invokevirtual 126, 3) := by decide +kernel
theorem s_111_82 {d : Nat} {Q : wQ} {L : List (Option Value)} {st : List Value} {w : aw} {cn sn : Nat} {v0 v1 : Value} {b : Nat} : wp d 111 Q 82 L (v1 :: v0 :: .ref b :: st) w cn sn = (kd w b = 9 ∧ catS st ≤ 8 ∧ wpD d 113 [.ref b, v0, v1] w (fun v w' => wp d 111 Q 85 L (v.toList ++ st) w' cn sn)) := w_virtual (As := [v0, v1]) d_111_82 (by decide +kernel : cT (mO 111) 126 = some (0, 113)) rfl (by decide +kernel) rfl (by decide +kernel) rfl
theorem d_111_85 : decode (mB 111) 85 = .ok (.goto 15, 3) := by decide +kernel
theorem s_111_85 {d : Nat} {Q : wQ} {L : List (Option Value)} {st : List Value} {w : aw} {cn sn : Nat}  : wp d 111 Q 85 L st w cn sn = wp d 111 Q 100 L st w cn sn := w_goto d_111_85 (by decide)
theorem d_111_88 : decode (mB 111) 88 = .ok (.iload_n 3, 1) := by decide +kernel
theorem s_111_88 {d : Nat} {Q : wQ} {L : List (Option Value)} {st : List Value} {w : aw} {cn sn : Nat} {a0 a1 a2 : Option Value} {v : Int32} : wp d 111 Q 88 (a0 :: a1 :: a2 :: some (.int v) :: L) st w cn sn = wp d 111 Q 89 (a0 :: a1 :: a2 :: some (.int v) :: L) (.int v :: st) w cn sn := w_iload_n d_111_88 rfl
theorem d_111_89 : decode (mB 111) 89 = .ok (.iconst 1, 1) := by decide +kernel
theorem s_111_89 {d : Nat} {Q : wQ} {L : List (Option Value)} {st : List Value} {w : aw} {cn sn : Nat}  : wp d 111 Q 89 L st w cn sn = wp d 111 Q 90 L (.int 1 :: st) w cn sn := w_iconst d_111_89 (by decide)
theorem d_111_90 : decode (mB 111) 90 = .ok (.iand, 1) := by decide +kernel
theorem s_111_90 {d : Nat} {Q : wQ} {L : List (Option Value)} {st : List Value} {w : aw} {cn sn : Nat} {a b : Int32} : wp d 111 Q 90 L (.int b :: .int a :: st) w cn sn = wp d 111 Q 91 L (.int (a &&& b) :: st) w cn sn := wp_row d_111_90 _ _ _ _ _
theorem d_111_91 : decode (mB 111) 91 = .ok (.ifCond .ne 9, 3) := by decide +kernel
theorem s_111_91 {d : Nat} {Q : wQ} {L : List (Option Value)} {st : List Value} {w : aw} {cn sn : Nat} {x : Int32} : wp d 111 Q 91 L (.int x :: st) w cn sn = ((¬ x = 0 → wp d 111 Q 100 L st w cn sn) ∧ (x = 0 → wp d 111 Q 94 L st w cn sn)) := w_ifne d_111_91 (by decide)
theorem d_111_94 : decode (mB 111) 94 = .ok (.aload_n 0, 1) := by decide +kernel
theorem s_111_94 {d : Nat} {Q : wQ} {L : List (Option Value)} {st : List Value} {w : aw} {cn sn : Nat} {v : Nat} : wp d 111 Q 94 (some (.ref v) :: L) st w cn sn = wp d 111 Q 95 (some (.ref v) :: L) (.ref v :: st) w cn sn := w_aload_n d_111_94 rfl
theorem d_111_95 : decode (mB 111) 95 = .ok (.iload_n 1, 1) := by decide +kernel
theorem s_111_95 {d : Nat} {Q : wQ} {L : List (Option Value)} {st : List Value} {w : aw} {cn sn : Nat} {a0 : Option Value} {v : Int32} : wp d 111 Q 95 (a0 :: some (.int v) :: L) st w cn sn = wp d 111 Q 96 (a0 :: some (.int v) :: L) (.int v :: st) w cn sn := w_iload_n d_111_95 rfl
theorem d_111_96 : decode (mB 111) 96 = .ok (.iload_n 3, 1) := by decide +kernel
theorem s_111_96 {d : Nat} {Q : wQ} {L : List (Option Value)} {st : List Value} {w : aw} {cn sn : Nat} {a0 a1 a2 : Option Value} {v : Int32} : wp d 111 Q 96 (a0 :: a1 :: a2 :: some (.int v) :: L) st w cn sn = wp d 111 Q 97 (a0 :: a1 :: a2 :: some (.int v) :: L) (.int v :: st) w cn sn := w_iload_n d_111_96 rfl
theorem d_111_97 : decode (mB 111) 97 = .ok (.invokevirtual 130, 3) := by decide +kernel
theorem s_111_97 {d : Nat} {Q : wQ} {L : List (Option Value)} {st : List Value} {w : aw} {cn sn : Nat} {v0 v1 : Value} {b : Nat} : wp d 111 Q 97 L (v1 :: v0 :: .ref b :: st) w cn sn = (kd w b = 9 ∧ catS st ≤ 8 ∧ wpD d 114 [.ref b, v0, v1] w (fun v w' => wp d 111 Q 100 L (v.toList ++ st) w' cn sn)) := w_virtual (As := [v0, v1]) d_111_97 (by decide +kernel : cT (mO 111) 130 = some (0, 114)) rfl (by decide +kernel) rfl (by decide +kernel) rfl
theorem d_111_100 : decode (mB 111) 100 = .ok (.return_, 1) := by decide +kernel
theorem s_111_100 {d : Nat} {Q : wQ} {L : List (Option Value)} {w : aw} {cn sn : Nat}  : wp d 111 Q 100 L [] w cn sn = Q none w := w_return d_111_100 rfl
theorem d_112_0 : decode (mB 112) 0 = .ok (.iload_n 2, 1) := by decide +kernel
theorem s_112_0 {d : Nat} {Q : wQ} {L : List (Option Value)} {st : List Value} {w : aw} {cn sn : Nat} {a0 a1 : Option Value} {v : Int32} : wp d 112 Q 0 (a0 :: a1 :: some (.int v) :: L) st w cn sn = wp d 112 Q 1 (a0 :: a1 :: some (.int v) :: L) (.int v :: st) w cn sn := w_iload_n d_112_0 rfl
theorem d_112_1 : decode (mB 112) 1 = .ok (.bipush 127, 2) := by decide +kernel
theorem s_112_1 {d : Nat} {Q : wQ} {L : List (Option Value)} {st : List Value} {w : aw} {cn sn : Nat}  : wp d 112 Q 1 L st w cn sn = wp d 112 Q 3 L (.int 127 :: st) w cn sn := w_bipush d_112_1 (by decide)
theorem d_112_3 : decode (mB 112) 3 = .ok (.iand, 1) := by decide +kernel
theorem s_112_3 {d : Nat} {Q : wQ} {L : List (Option Value)} {st : List Value} {w : aw} {cn sn : Nat} {a b : Int32} : wp d 112 Q 3 L (.int b :: .int a :: st) w cn sn = wp d 112 Q 4 L (.int (a &&& b) :: st) w cn sn := wp_row d_112_3 _ _ _ _ _
theorem d_112_4 : decode (mB 112) 4 = .ok (.iload_n 2, 1) := by decide +kernel
theorem s_112_4 {d : Nat} {Q : wQ} {L : List (Option Value)} {st : List Value} {w : aw} {cn sn : Nat} {a0 a1 : Option Value} {v : Int32} : wp d 112 Q 4 (a0 :: a1 :: some (.int v) :: L) st w cn sn = wp d 112 Q 5 (a0 :: a1 :: some (.int v) :: L) (.int v :: st) w cn sn := w_iload_n d_112_4 rfl
theorem d_112_5 : decode (mB 112) 5 = .ok (.sipush 128, 3) := by decide +kernel
theorem s_112_5 {d : Nat} {Q : wQ} {L : List (Option Value)} {st : List Value} {w : aw} {cn sn : Nat}  : wp d 112 Q 5 L st w cn sn = wp d 112 Q 8 L (.int 128 :: st) w cn sn := w_sipush d_112_5 (by decide)
theorem d_112_8 : decode (mB 112) 8 = .ok (.iand, 1) := by decide +kernel
theorem s_112_8 {d : Nat} {Q : wQ} {L : List (Option Value)} {st : List Value} {w : aw} {cn sn : Nat} {a b : Int32} : wp d 112 Q 8 L (.int b :: .int a :: st) w cn sn = wp d 112 Q 9 L (.int (a &&& b) :: st) w cn sn := wp_row d_112_8 _ _ _ _ _
theorem d_112_9 : decode (mB 112) 9 = .ok (.ifCond .le 11, 3) := by decide +kernel
theorem s_112_9 {d : Nat} {Q : wQ} {L : List (Option Value)} {st : List Value} {w : aw} {cn sn : Nat} {x : Int32} : wp d 112 Q 9 L (.int x :: st) w cn sn = ((x ≤ 0 → wp d 112 Q 20 L st w cn sn) ∧ (¬ x ≤ 0 → wp d 112 Q 12 L st w cn sn)) := w_ifle d_112_9 (by decide)
theorem d_112_12 : decode (mB 112) 12 = .ok (.iload_n 3, 1) := by decide +kernel
theorem s_112_12 {d : Nat} {Q : wQ} {L : List (Option Value)} {st : List Value} {w : aw} {cn sn : Nat} {a0 a1 a2 : Option Value} {v : Int32} : wp d 112 Q 12 (a0 :: a1 :: a2 :: some (.int v) :: L) st w cn sn = wp d 112 Q 13 (a0 :: a1 :: a2 :: some (.int v) :: L) (.int v :: st) w cn sn := w_iload_n d_112_12 rfl
theorem d_112_13 : decode (mB 112) 13 = .ok (.sipush 3968, 3) := by decide +kernel
theorem s_112_13 {d : Nat} {Q : wQ} {L : List (Option Value)} {st : List Value} {w : aw} {cn sn : Nat}  : wp d 112 Q 13 L st w cn sn = wp d 112 Q 16 L (.int 3968 :: st) w cn sn := w_sipush d_112_13 (by decide)
theorem d_112_16 : decode (mB 112) 16 = .ok (.iand, 1) := by decide +kernel
theorem s_112_16 {d : Nat} {Q : wQ} {L : List (Option Value)} {st : List Value} {w : aw} {cn sn : Nat} {a b : Int32} : wp d 112 Q 16 L (.int b :: .int a :: st) w cn sn = wp d 112 Q 17 L (.int (a &&& b) :: st) w cn sn := wp_row d_112_16 _ _ _ _ _
theorem d_112_17 : decode (mB 112) 17 = .ok (.goto 4, 3) := by decide +kernel
theorem s_112_17 {d : Nat} {Q : wQ} {L : List (Option Value)} {st : List Value} {w : aw} {cn sn : Nat}  : wp d 112 Q 17 L st w cn sn = wp d 112 Q 21 L st w cn sn := w_goto d_112_17 (by decide)
theorem d_112_20 : decode (mB 112) 20 = .ok (.iconst 0, 1) := by decide +kernel
theorem s_112_20 {d : Nat} {Q : wQ} {L : List (Option Value)} {st : List Value} {w : aw} {cn sn : Nat}  : wp d 112 Q 20 L st w cn sn = wp d 112 Q 21 L (.int 0 :: st) w cn sn := w_iconst d_112_20 (by decide)
theorem d_112_21 : decode (mB 112) 21 = .ok (.ior, 1) := by decide +kernel
theorem s_112_21 {d : Nat} {Q : wQ} {L : List (Option Value)} {st : List Value} {w : aw} {cn sn : Nat} {a b : Int32} : wp d 112 Q 21 L (.int b :: .int a :: st) w cn sn = wp d 112 Q 22 L (.int (a ||| b) :: st) w cn sn := wp_row d_112_21 _ _ _ _ _
theorem d_112_22 : decode (mB 112) 22 = .ok (.istore 4, 2) := by decide +kernel
theorem s_112_22 {d : Nat} {Q : wQ} {L : List (Option Value)} {st : List Value} {w : aw} {cn sn : Nat} {a0 a1 a2 a3 a4 : Option Value} {v : Int32} : wp d 112 Q 22 (a0 :: a1 :: a2 :: a3 :: a4 :: L) (.int v :: st) w cn sn = wp d 112 Q 24 (a0 :: a1 :: a2 :: clr a3 :: some (.int v) :: L) st w cn sn := w_istore d_112_22 (Nat.le_add_left 5 _) rfl
theorem d_112_24 : decode (mB 112) 24 = .ok (.iload_n 2, 1) := by decide +kernel
theorem s_112_24 {d : Nat} {Q : wQ} {L : List (Option Value)} {st : List Value} {w : aw} {cn sn : Nat} {a0 a1 : Option Value} {v : Int32} : wp d 112 Q 24 (a0 :: a1 :: some (.int v) :: L) st w cn sn = wp d 112 Q 25 (a0 :: a1 :: some (.int v) :: L) (.int v :: st) w cn sn := w_iload_n d_112_24 rfl
theorem d_112_25 : decode (mB 112) 25 = .ok (.sipush 256, 3) := by decide +kernel
theorem s_112_25 {d : Nat} {Q : wQ} {L : List (Option Value)} {st : List Value} {w : aw} {cn sn : Nat}  : wp d 112 Q 25 L st w cn sn = wp d 112 Q 28 L (.int 256 :: st) w cn sn := w_sipush d_112_25 (by decide)
theorem d_112_28 : decode (mB 112) 28 = .ok (.iand, 1) := by decide +kernel
theorem s_112_28 {d : Nat} {Q : wQ} {L : List (Option Value)} {st : List Value} {w : aw} {cn sn : Nat} {a b : Int32} : wp d 112 Q 28 L (.int b :: .int a :: st) w cn sn = wp d 112 Q 29 L (.int (a &&& b) :: st) w cn sn := wp_row d_112_28 _ _ _ _ _
theorem d_112_29 : decode (mB 112) 29 = .ok (.ifCond .le 40, 3) := by decide +kernel
theorem s_112_29 {d : Nat} {Q : wQ} {L : List (Option Value)} {st : List Value} {w : aw} {cn sn : Nat} {x : Int32} : wp d 112 Q 29 L (.int x :: st) w cn sn = ((x ≤ 0 → wp d 112 Q 69 L st w cn sn) ∧ (¬ x ≤ 0 → wp d 112 Q 32 L st w cn sn)) := w_ifle d_112_29 (by decide)
theorem d_112_32 : decode (mB 112) 32 = .ok (.iload 4, 2) := by decide +kernel
theorem s_112_32 {d : Nat} {Q : wQ} {L : List (Option Value)} {st : List Value} {w : aw} {cn sn : Nat} {a0 a1 a2 a3 : Option Value} {v : Int32} : wp d 112 Q 32 (a0 :: a1 :: a2 :: a3 :: some (.int v) :: L) st w cn sn = wp d 112 Q 34 (a0 :: a1 :: a2 :: a3 :: some (.int v) :: L) (.int v :: st) w cn sn := w_iload d_112_32 rfl
theorem d_112_34 : decode (mB 112) 34 = .ok (.bipush 8, 2) := by decide +kernel
theorem s_112_34 {d : Nat} {Q : wQ} {L : List (Option Value)} {st : List Value} {w : aw} {cn sn : Nat}  : wp d 112 Q 34 L st w cn sn = wp d 112 Q 36 L (.int 8 :: st) w cn sn := w_bipush d_112_34 (by decide)
theorem d_112_36 : decode (mB 112) 36 = .ok (.bipush 15, 2) := by decide +kernel
theorem s_112_36 {d : Nat} {Q : wQ} {L : List (Option Value)} {st : List Value} {w : aw} {cn sn : Nat}  : wp d 112 Q 36 L st w cn sn = wp d 112 Q 38 L (.int 15 :: st) w cn sn := w_bipush d_112_36 (by decide)
theorem d_112_38 : decode (mB 112) 38 = .ok (.invokestatic 111, 3) := by decide +kernel
theorem s_112_38 {d : Nat} {Q : wQ} {L : List (Option Value)} {st : List Value} {w : aw} {cn sn : Nat} {v0 v1 v2 : Value} : wp d 112 Q 38 L (v2 :: v1 :: v0 :: st) w cn sn = (catS st ≤ 8 ∧ wpD d 105 [v0, v1, v2] w (fun v w' => wp d 112 Q 41 L (v.toList ++ st) w' cn sn)) := w_static (As := [v0, v1, v2]) d_112_38 (by decide +kernel : cT (mO 112) 111 = some (2, 105)) (by decide +kernel) rfl (by decide +kernel) rfl
theorem d_112_41 : decode (mB 112) 41 = .ok (.ifCond .eq 19, 3) := by decide +kernel
theorem s_112_41 {d : Nat} {Q : wQ} {L : List (Option Value)} {st : List Value} {w : aw} {cn sn : Nat} {x : Int32} : wp d 112 Q 41 L (.int x :: st) w cn sn = ((x = 0 → wp d 112 Q 60 L st w cn sn) ∧ (¬ x = 0 → wp d 112 Q 44 L st w cn sn)) := w_ifeq d_112_41 (by decide)
theorem d_112_44 : decode (mB 112) 44 = .ok (.aload_n 0, 1) := by decide +kernel
theorem s_112_44 {d : Nat} {Q : wQ} {L : List (Option Value)} {st : List Value} {w : aw} {cn sn : Nat} {v : Nat} : wp d 112 Q 44 (some (.ref v) :: L) st w cn sn = wp d 112 Q 45 (some (.ref v) :: L) (.ref v :: st) w cn sn := w_aload_n d_112_44 rfl
theorem d_112_45 : decode (mB 112) 45 = .ok (.iload_n 1, 1) := by decide +kernel
theorem s_112_45 {d : Nat} {Q : wQ} {L : List (Option Value)} {st : List Value} {w : aw} {cn sn : Nat} {a0 : Option Value} {v : Int32} : wp d 112 Q 45 (a0 :: some (.int v) :: L) st w cn sn = wp d 112 Q 46 (a0 :: some (.int v) :: L) (.int v :: st) w cn sn := w_iload_n d_112_45 rfl
theorem d_112_46 : decode (mB 112) 46 = .ok (.iload 4, 2) := by decide +kernel
theorem s_112_46 {d : Nat} {Q : wQ} {L : List (Option Value)} {st : List Value} {w : aw} {cn sn : Nat} {a0 a1 a2 a3 : Option Value} {v : Int32} : wp d 112 Q 46 (a0 :: a1 :: a2 :: a3 :: some (.int v) :: L) st w cn sn = wp d 112 Q 48 (a0 :: a1 :: a2 :: a3 :: some (.int v) :: L) (.int v :: st) w cn sn := w_iload d_112_46 rfl
theorem d_112_48 : decode (mB 112) 48 = .ok (.aload_n 0, 1) := by decide +kernel
theorem s_112_48 {d : Nat} {Q : wQ} {L : List (Option Value)} {st : List Value} {w : aw} {cn sn : Nat} {v : Nat} : wp d 112 Q 48 (some (.ref v) :: L) st w cn sn = wp d 112 Q 49 (some (.ref v) :: L) (.ref v :: st) w cn sn := w_aload_n d_112_48 rfl
theorem d_112_49 : decode (mB 112) 49 = .ok (.iload_n 1, 1) := by decide +kernel
theorem s_112_49 {d : Nat} {Q : wQ} {L : List (Option Value)} {st : List Value} {w : aw} {cn sn : Nat} {a0 : Option Value} {v : Int32} : wp d 112 Q 49 (a0 :: some (.int v) :: L) st w cn sn = wp d 112 Q 50 (a0 :: some (.int v) :: L) (.int v :: st) w cn sn := w_iload_n d_112_49 rfl
theorem d_112_50 : decode (mB 112) 50 = .ok (.iload 4, 2) := by decide +kernel
theorem s_112_50 {d : Nat} {Q : wQ} {L : List (Option Value)} {st : List Value} {w : aw} {cn sn : Nat} {a0 a1 a2 a3 : Option Value} {v : Int32} : wp d 112 Q 50 (a0 :: a1 :: a2 :: a3 :: some (.int v) :: L) st w cn sn = wp d 112 Q 52 (a0 :: a1 :: a2 :: a3 :: some (.int v) :: L) (.int v :: st) w cn sn := w_iload d_112_50 rfl
theorem d_112_52 : decode (mB 112) 52 = .ok (.invokevirtual 115, 3) := by decide +kernel
theorem s_112_52 {d : Nat} {Q : wQ} {L : List (Option Value)} {st : List Value} {w : aw} {cn sn : Nat} {v0 v1 : Value} {b : Nat} : wp d 112 Q 52 L (v1 :: v0 :: .ref b :: st) w cn sn = (kd w b = 9 ∧ catS st ≤ 8 ∧ wpD d 107 [.ref b, v0, v1] w (fun v w' => wp d 112 Q 55 L (v.toList ++ st) w' cn sn)) := w_virtual (As := [v0, v1]) d_112_52 (by decide +kernel : cT (mO 112) 115 = some (0, 107)) rfl (by decide +kernel) rfl (by decide +kernel) rfl
theorem d_112_55 : decode (mB 112) 55 = .ok (.iconst 1, 1) := by decide +kernel
theorem s_112_55 {d : Nat} {Q : wQ} {L : List (Option Value)} {st : List Value} {w : aw} {cn sn : Nat}  : wp d 112 Q 55 L st w cn sn = wp d 112 Q 56 L (.int 1 :: st) w cn sn := w_iconst d_112_55 (by decide)
theorem d_112_56 : decode (mB 112) 56 = .ok (.iadd, 1) := by decide +kernel
theorem s_112_56 {d : Nat} {Q : wQ} {L : List (Option Value)} {st : List Value} {w : aw} {cn sn : Nat} {a b : Int32} : wp d 112 Q 56 L (.int b :: .int a :: st) w cn sn = wp d 112 Q 57 L (.int (a + b) :: st) w cn sn := wp_row d_112_56 _ _ _ _ _
theorem d_112_57 : decode (mB 112) 57 = .ok (.invokevirtual 133, 3) := by decide +kernel
theorem s_112_57 {d : Nat} {Q : wQ} {L : List (Option Value)} {st : List Value} {w : aw} {cn sn : Nat} {v0 v1 v2 : Value} {b : Nat} : wp d 112 Q 57 L (v2 :: v1 :: v0 :: .ref b :: st) w cn sn = (kd w b = 9 ∧ catS st ≤ 8 ∧ wpD d 108 [.ref b, v0, v1, v2] w (fun v w' => wp d 112 Q 60 L (v.toList ++ st) w' cn sn)) := w_virtual (As := [v0, v1, v2]) d_112_57 (by decide +kernel : cT (mO 112) 133 = some (0, 108)) rfl (by decide +kernel) rfl (by decide +kernel) rfl
theorem d_112_60 : decode (mB 112) 60 = .ok (.aload_n 0, 1) := by decide +kernel
theorem s_112_60 {d : Nat} {Q : wQ} {L : List (Option Value)} {st : List Value} {w : aw} {cn sn : Nat} {v : Nat} : wp d 112 Q 60 (some (.ref v) :: L) st w cn sn = wp d 112 Q 61 (some (.ref v) :: L) (.ref v :: st) w cn sn := w_aload_n d_112_60 rfl
theorem d_112_61 : decode (mB 112) 61 = .ok (.iload_n 1, 1) := by decide +kernel
theorem s_112_61 {d : Nat} {Q : wQ} {L : List (Option Value)} {st : List Value} {w : aw} {cn sn : Nat} {a0 : Option Value} {v : Int32} : wp d 112 Q 61 (a0 :: some (.int v) :: L) st w cn sn = wp d 112 Q 62 (a0 :: some (.int v) :: L) (.int v :: st) w cn sn := w_iload_n d_112_61 rfl
theorem d_112_62 : decode (mB 112) 62 = .ok (.iload 4, 2) := by decide +kernel
theorem s_112_62 {d : Nat} {Q : wQ} {L : List (Option Value)} {st : List Value} {w : aw} {cn sn : Nat} {a0 a1 a2 a3 : Option Value} {v : Int32} : wp d 112 Q 62 (a0 :: a1 :: a2 :: a3 :: some (.int v) :: L) st w cn sn = wp d 112 Q 64 (a0 :: a1 :: a2 :: a3 :: some (.int v) :: L) (.int v :: st) w cn sn := w_iload d_112_62 rfl
theorem d_112_64 : decode (mB 112) 64 = .ok (.invokevirtual 115, 3) := by decide +kernel
theorem s_112_64 {d : Nat} {Q : wQ} {L : List (Option Value)} {st : List Value} {w : aw} {cn sn : Nat} {v0 v1 : Value} {b : Nat} : wp d 112 Q 64 L (v1 :: v0 :: .ref b :: st) w cn sn = (kd w b = 9 ∧ catS st ≤ 8 ∧ wpD d 107 [.ref b, v0, v1] w (fun v w' => wp d 112 Q 67 L (v.toList ++ st) w' cn sn)) := w_virtual (As := [v0, v1]) d_112_64 (by decide +kernel : cT (mO 112) 115 = some (0, 107)) rfl (by decide +kernel) rfl (by decide +kernel) rfl
theorem d_112_67 : decode (mB 112) 67 = .ok (.istore 4, 2) := by decide +kernel
theorem s_112_67 {d : Nat} {Q : wQ} {L : List (Option Value)} {st : List Value} {w : aw} {cn sn : Nat} {a0 a1 a2 a3 a4 : Option Value} {v : Int32} : wp d 112 Q 67 (a0 :: a1 :: a2 :: a3 :: a4 :: L) (.int v :: st) w cn sn = wp d 112 Q 69 (a0 :: a1 :: a2 :: clr a3 :: some (.int v) :: L) st w cn sn := w_istore d_112_67 (Nat.le_add_left 5 _) rfl
theorem d_112_69 : decode (mB 112) 69 = .ok (.iload_n 2, 1) := by decide +kernel
theorem s_112_69 {d : Nat} {Q : wQ} {L : List (Option Value)} {st : List Value} {w : aw} {cn sn : Nat} {a0 a1 : Option Value} {v : Int32} : wp d 112 Q 69 (a0 :: a1 :: some (.int v) :: L) st w cn sn = wp d 112 Q 70 (a0 :: a1 :: some (.int v) :: L) (.int v :: st) w cn sn := w_iload_n d_112_69 rfl
theorem d_112_70 : decode (mB 112) 70 = .ok (.sipush 512, 3) := by decide +kernel
theorem s_112_70 {d : Nat} {Q : wQ} {L : List (Option Value)} {st : List Value} {w : aw} {cn sn : Nat}  : wp d 112 Q 70 L st w cn sn = wp d 112 Q 73 L (.int 512 :: st) w cn sn := w_sipush d_112_70 (by decide)
theorem d_112_73 : decode (mB 112) 73 = .ok (.idiv, 1) := by decide +kernel
theorem s_112_73 {d : Nat} {Q : wQ} {L : List (Option Value)} {st : List Value} {w : aw} {cn sn : Nat} {a b : Int32} : wp d 112 Q 73 L (.int b :: .int a :: st) w cn sn = (¬ b = 0 ∧ wp d 112 Q 74 L (.int (a / b) :: st) w cn sn) := wp_row d_112_73 _ _ _ _ _
theorem d_112_74 : decode (mB 112) 74 = .ok (.tableswitch 167 0 4 #[34, 53, 75, 114, 137], 34) := by decide +kernel
theorem s_112_74 {d : Nat} {Q : wQ} {L : List (Option Value)} {st : List Value} {w : aw} {cn sn : Nat} {x : Int32} : wp d 112 Q 74 L (.int x :: st) w cn sn = ((x.toInt < 0 ∨ 4 < x.toInt → wp d 112 Q 241 L st w cn sn) ∧ ∀ (i t : Nat), ([108, 127, 149, 188, 211] : List Nat)[i]? = some t → x.toInt = 0 + i → wp d 112 Q t L st w cn sn) := w_table d_112_74 (by decide) (by decide) (by decide)
theorem d_112_108 : decode (mB 112) 108 = .ok (.aload_n 0, 1) := by decide +kernel
theorem s_112_108 {d : Nat} {Q : wQ} {L : List (Option Value)} {st : List Value} {w : aw} {cn sn : Nat} {v : Nat} : wp d 112 Q 108 (some (.ref v) :: L) st w cn sn = wp d 112 Q 109 (some (.ref v) :: L) (.ref v :: st) w cn sn := w_aload_n d_112_108 rfl
theorem d_112_109 : decode (mB 112) 109 = .ok (.getfield 30, 3) := by decide +kernel
theorem s_112_109 {d : Nat} {Q : wQ} {L : List (Option Value)} {st : List Value} {w : aw} {cn sn : Nat} {a : Nat} : wp d 112 Q 109 L (.ref a :: st) w cn sn = (kd w a = 9 ∧ wp d 112 Q 112 L (fd w 528 a :: st) w cn sn) := w_getfield d_112_109 (by decide +kernel : fT (mO 112) 30 = some (8, 16))
theorem d_112_112 : decode (mB 112) 112 = .ok (.iload_n 1, 1) := by decide +kernel
theorem s_112_112 {d : Nat} {Q : wQ} {L : List (Option Value)} {st : List Value} {w : aw} {cn sn : Nat} {a0 : Option Value} {v : Int32} : wp d 112 Q 112 (a0 :: some (.int v) :: L) st w cn sn = wp d 112 Q 113 (a0 :: some (.int v) :: L) (.int v :: st) w cn sn := w_iload_n d_112_112 rfl
theorem d_112_113 : decode (mB 112) 113 = .ok (.dup2, 1) := by decide +kernel
theorem s_112_113 {d : Nat} {Q : wQ} {L : List (Option Value)} {st : List Value} {w : aw} {cn sn : Nat} {a b : Value} : wp d 112 Q 113 L (a :: b :: st) w cn sn = (a.category = 1 ∧ b.category = 1 ∧ wp d 112 Q 114 L (a :: b :: a :: b :: st) w cn sn) := wp_row d_112_113 _ _ _ _ _
theorem d_112_114 : decode (mB 112) 114 = .ok (.iaload, 1) := by decide +kernel
theorem s_112_114 {d : Nat} {Q : wQ} {L : List (Option Value)} {st : List Value} {w : aw} {cn sn : Nat} {a : Nat} {i : Int32} : wp d 112 Q 114 L (.int i :: .ref a :: st) w cn sn = ((kd w a = 20 ∨ kd w a = 30) ∧ inR i (ln w a) ∧ wp d 112 Q 115 L (.int (ai w a i.toNatClampNeg) :: st) w cn sn) := wp_row d_112_114 _ _ _ _ _
theorem d_112_115 : decode (mB 112) 115 = .ok (.aload_n 0, 1) := by decide +kernel
theorem s_112_115 {d : Nat} {Q : wQ} {L : List (Option Value)} {st : List Value} {w : aw} {cn sn : Nat} {v : Nat} : wp d 112 Q 115 (some (.ref v) :: L) st w cn sn = wp d 112 Q 116 (some (.ref v) :: L) (.ref v :: st) w cn sn := w_aload_n d_112_115 rfl
theorem d_112_116 : decode (mB 112) 116 = .ok (.iload_n 1, 1) := by decide +kernel
theorem s_112_116 {d : Nat} {Q : wQ} {L : List (Option Value)} {st : List Value} {w : aw} {cn sn : Nat} {a0 : Option Value} {v : Int32} : wp d 112 Q 116 (a0 :: some (.int v) :: L) st w cn sn = wp d 112 Q 117 (a0 :: some (.int v) :: L) (.int v :: st) w cn sn := w_iload_n d_112_116 rfl
theorem d_112_117 : decode (mB 112) 117 = .ok (.iload 4, 2) := by decide +kernel
theorem s_112_117 {d : Nat} {Q : wQ} {L : List (Option Value)} {st : List Value} {w : aw} {cn sn : Nat} {a0 a1 a2 a3 : Option Value} {v : Int32} : wp d 112 Q 117 (a0 :: a1 :: a2 :: a3 :: some (.int v) :: L) st w cn sn = wp d 112 Q 119 (a0 :: a1 :: a2 :: a3 :: some (.int v) :: L) (.int v :: st) w cn sn := w_iload d_112_117 rfl
theorem d_112_119 : decode (mB 112) 119 = .ok (.invokevirtual 115, 3) := by decide +kernel
theorem s_112_119 {d : Nat} {Q : wQ} {L : List (Option Value)} {st : List Value} {w : aw} {cn sn : Nat} {v0 v1 : Value} {b : Nat} : wp d 112 Q 119 L (v1 :: v0 :: .ref b :: st) w cn sn = (kd w b = 9 ∧ catS st ≤ 8 ∧ wpD d 107 [.ref b, v0, v1] w (fun v w' => wp d 112 Q 122 L (v.toList ++ st) w' cn sn)) := w_virtual (As := [v0, v1]) d_112_119 (by decide +kernel : cT (mO 112) 115 = some (0, 107)) rfl (by decide +kernel) rfl (by decide +kernel) rfl
theorem d_112_122 : decode (mB 112) 122 = .ok (.iand, 1) := by decide +kernel
theorem s_112_122 {d : Nat} {Q : wQ} {L : List (Option Value)} {st : List Value} {w : aw} {cn sn : Nat} {a b : Int32} : wp d 112 Q 122 L (.int b :: .int a :: st) w cn sn = wp d 112 Q 123 L (.int (a &&& b) :: st) w cn sn := wp_row d_112_122 _ _ _ _ _
theorem d_112_123 : decode (mB 112) 123 = .ok (.iastore, 1) := by decide +kernel
theorem s_112_123 {d : Nat} {Q : wQ} {L : List (Option Value)} {st : List Value} {w : aw} {cn sn : Nat} {a : Nat} {i x : Int32} : wp d 112 Q 123 L (.int x :: .int i :: .ref a :: st) w cn sn = (kd w a = 20 ∧ inR i (ln w a) ∧ wp d 112 Q 124 L st (uA w a i.toNatClampNeg x) cn sn) := wp_row d_112_123 _ _ _ _ _
theorem d_112_124 : decode (mB 112) 124 = .ok (.goto 125, 3) := by decide +kernel
theorem s_112_124 {d : Nat} {Q : wQ} {L : List (Option Value)} {st : List Value} {w : aw} {cn sn : Nat}  : wp d 112 Q 124 L st w cn sn = wp d 112 Q 249 L st w cn sn := w_goto d_112_124 (by decide)
theorem d_112_127 : decode (mB 112) 127 = .ok (.aload_n 0, 1) := by decide +kernel
theorem s_112_127 {d : Nat} {Q : wQ} {L : List (Option Value)} {st : List Value} {w : aw} {cn sn : Nat} {v : Nat} : wp d 112 Q 127 (some (.ref v) :: L) st w cn sn = wp d 112 Q 128 (some (.ref v) :: L) (.ref v :: st) w cn sn := w_aload_n d_112_127 rfl
theorem d_112_128 : decode (mB 112) 128 = .ok (.iload_n 1, 1) := by decide +kernel
theorem s_112_128 {d : Nat} {Q : wQ} {L : List (Option Value)} {st : List Value} {w : aw} {cn sn : Nat} {a0 : Option Value} {v : Int32} : wp d 112 Q 128 (a0 :: some (.int v) :: L) st w cn sn = wp d 112 Q 129 (a0 :: some (.int v) :: L) (.int v :: st) w cn sn := w_iload_n d_112_128 rfl
theorem d_112_129 : decode (mB 112) 129 = .ok (.aload_n 0, 1) := by decide +kernel
theorem s_112_129 {d : Nat} {Q : wQ} {L : List (Option Value)} {st : List Value} {w : aw} {cn sn : Nat} {v : Nat} : wp d 112 Q 129 (some (.ref v) :: L) st w cn sn = wp d 112 Q 130 (some (.ref v) :: L) (.ref v :: st) w cn sn := w_aload_n d_112_129 rfl
theorem d_112_130 : decode (mB 112) 130 = .ok (.getfield 30, 3) := by decide +kernel
theorem s_112_130 {d : Nat} {Q : wQ} {L : List (Option Value)} {st : List Value} {w : aw} {cn sn : Nat} {a : Nat} : wp d 112 Q 130 L (.ref a :: st) w cn sn = (kd w a = 9 ∧ wp d 112 Q 133 L (fd w 528 a :: st) w cn sn) := w_getfield d_112_130 (by decide +kernel : fT (mO 112) 30 = some (8, 16))
theorem d_112_133 : decode (mB 112) 133 = .ok (.iload_n 1, 1) := by decide +kernel
theorem s_112_133 {d : Nat} {Q : wQ} {L : List (Option Value)} {st : List Value} {w : aw} {cn sn : Nat} {a0 : Option Value} {v : Int32} : wp d 112 Q 133 (a0 :: some (.int v) :: L) st w cn sn = wp d 112 Q 134 (a0 :: some (.int v) :: L) (.int v :: st) w cn sn := w_iload_n d_112_133 rfl
theorem d_112_134 : decode (mB 112) 134 = .ok (.iaload, 1) := by decide +kernel
theorem s_112_134 {d : Nat} {Q : wQ} {L : List (Option Value)} {st : List Value} {w : aw} {cn sn : Nat} {a : Nat} {i : Int32} : wp d 112 Q 134 L (.int i :: .ref a :: st) w cn sn = ((kd w a = 20 ∨ kd w a = 30) ∧ inR i (ln w a) ∧ wp d 112 Q 135 L (.int (ai w a i.toNatClampNeg) :: st) w cn sn) := wp_row d_112_134 _ _ _ _ _
theorem d_112_135 : decode (mB 112) 135 = .ok (.aload_n 0, 1) := by decide +kernel
theorem s_112_135 {d : Nat} {Q : wQ} {L : List (Option Value)} {st : List Value} {w : aw} {cn sn : Nat} {v : Nat} : wp d 112 Q 135 (some (.ref v) :: L) st w cn sn = wp d 112 Q 136 (some (.ref v) :: L) (.ref v :: st) w cn sn := w_aload_n d_112_135 rfl
theorem d_112_136 : decode (mB 112) 136 = .ok (.iload_n 1, 1) := by decide +kernel
theorem s_112_136 {d : Nat} {Q : wQ} {L : List (Option Value)} {st : List Value} {w : aw} {cn sn : Nat} {a0 : Option Value} {v : Int32} : wp d 112 Q 136 (a0 :: some (.int v) :: L) st w cn sn = wp d 112 Q 137 (a0 :: some (.int v) :: L) (.int v :: st) w cn sn := w_iload_n d_112_136 rfl
theorem d_112_137 : decode (mB 112) 137 = .ok (.iload 4, 2) := by decide +kernel
theorem s_112_137 {d : Nat} {Q : wQ} {L : List (Option Value)} {st : List Value} {w : aw} {cn sn : Nat} {a0 a1 a2 a3 : Option Value} {v : Int32} : wp d 112 Q 137 (a0 :: a1 :: a2 :: a3 :: some (.int v) :: L) st w cn sn = wp d 112 Q 139 (a0 :: a1 :: a2 :: a3 :: some (.int v) :: L) (.int v :: st) w cn sn := w_iload d_112_137 rfl
theorem d_112_139 : decode (mB 112) 139 = .ok (.invokevirtual 115, 3) := by decide +kernel
theorem s_112_139 {d : Nat} {Q : wQ} {L : List (Option Value)} {st : List Value} {w : aw} {cn sn : Nat} {v0 v1 : Value} {b : Nat} : wp d 112 Q 139 L (v1 :: v0 :: .ref b :: st) w cn sn = (kd w b = 9 ∧ catS st ≤ 8 ∧ wpD d 107 [.ref b, v0, v1] w (fun v w' => wp d 112 Q 142 L (v.toList ++ st) w' cn sn)) := w_virtual (As := [v0, v1]) d_112_139 (by decide +kernel : cT (mO 112) 115 = some (0, 107)) rfl (by decide +kernel) rfl (by decide +kernel) rfl
theorem d_112_142 : decode (mB 112) 142 = .ok (.iadd, 1) := by decide +kernel
theorem s_112_142 {d : Nat} {Q : wQ} {L : List (Option Value)} {st : List Value} {w : aw} {cn sn : Nat} {a b : Int32} : wp d 112 Q 142 L (.int b :: .int a :: st) w cn sn = wp d 112 Q 143 L (.int (a + b) :: st) w cn sn := wp_row d_112_142 _ _ _ _ _
theorem d_112_143 : decode (mB 112) 143 = .ok (.invokevirtual 136, 3) := by decide +kernel
theorem s_112_143 {d : Nat} {Q : wQ} {L : List (Option Value)} {st : List Value} {w : aw} {cn sn : Nat} {v0 v1 : Value} {b : Nat} : wp d 112 Q 143 L (v1 :: v0 :: .ref b :: st) w cn sn = (kd w b = 9 ∧ catS st ≤ 8 ∧ wpD d 109 [.ref b, v0, v1] w (fun v w' => wp d 112 Q 146 L (v.toList ++ st) w' cn sn)) := w_virtual (As := [v0, v1]) d_112_143 (by decide +kernel : cT (mO 112) 136 = some (0, 109)) rfl (by decide +kernel) rfl (by decide +kernel) rfl
theorem d_112_146 : decode (mB 112) 146 = .ok (.goto 103, 3) := by decide +kernel
theorem s_112_146 {d : Nat} {Q : wQ} {L : List (Option Value)} {st : List Value} {w : aw} {cn sn : Nat}  : wp d 112 Q 146 L st w cn sn = wp d 112 Q 249 L st w cn sn := w_goto d_112_146 (by decide)
theorem d_112_149 : decode (mB 112) 149 = .ok (.aload_n 0, 1) := by decide +kernel
theorem s_112_149 {d : Nat} {Q : wQ} {L : List (Option Value)} {st : List Value} {w : aw} {cn sn : Nat} {v : Nat} : wp d 112 Q 149 (some (.ref v) :: L) st w cn sn = wp d 112 Q 150 (some (.ref v) :: L) (.ref v :: st) w cn sn := w_aload_n d_112_149 rfl
theorem d_112_150 : decode (mB 112) 150 = .ok (.iload_n 1, 1) := by decide +kernel
theorem s_112_150 {d : Nat} {Q : wQ} {L : List (Option Value)} {st : List Value} {w : aw} {cn sn : Nat} {a0 : Option Value} {v : Int32} : wp d 112 Q 150 (a0 :: some (.int v) :: L) st w cn sn = wp d 112 Q 151 (a0 :: some (.int v) :: L) (.int v :: st) w cn sn := w_iload_n d_112_150 rfl
theorem d_112_151 : decode (mB 112) 151 = .ok (.iload 4, 2) := by decide +kernel
theorem s_112_151 {d : Nat} {Q : wQ} {L : List (Option Value)} {st : List Value} {w : aw} {cn sn : Nat} {a0 a1 a2 a3 : Option Value} {v : Int32} : wp d 112 Q 151 (a0 :: a1 :: a2 :: a3 :: some (.int v) :: L) st w cn sn = wp d 112 Q 153 (a0 :: a1 :: a2 :: a3 :: some (.int v) :: L) (.int v :: st) w cn sn := w_iload d_112_151 rfl
theorem d_112_153 : decode (mB 112) 153 = .ok (.aload_n 0, 1) := by decide +kernel
theorem s_112_153 {d : Nat} {Q : wQ} {L : List (Option Value)} {st : List Value} {w : aw} {cn sn : Nat} {v : Nat} : wp d 112 Q 153 (some (.ref v) :: L) st w cn sn = wp d 112 Q 154 (some (.ref v) :: L) (.ref v :: st) w cn sn := w_aload_n d_112_153 rfl
theorem d_112_154 : decode (mB 112) 154 = .ok (.iload_n 1, 1) := by decide +kernel
theorem s_112_154 {d : Nat} {Q : wQ} {L : List (Option Value)} {st : List Value} {w : aw} {cn sn : Nat} {a0 : Option Value} {v : Int32} : wp d 112 Q 154 (a0 :: some (.int v) :: L) st w cn sn = wp d 112 Q 155 (a0 :: some (.int v) :: L) (.int v :: st) w cn sn := w_iload_n d_112_154 rfl
theorem d_112_155 : decode (mB 112) 155 = .ok (.iload 4, 2) := by decide +kernel
theorem s_112_155 {d : Nat} {Q : wQ} {L : List (Option Value)} {st : List Value} {w : aw} {cn sn : Nat} {a0 a1 a2 a3 : Option Value} {v : Int32} : wp d 112 Q 155 (a0 :: a1 :: a2 :: a3 :: some (.int v) :: L) st w cn sn = wp d 112 Q 157 (a0 :: a1 :: a2 :: a3 :: some (.int v) :: L) (.int v :: st) w cn sn := w_iload d_112_155 rfl
theorem d_112_157 : decode (mB 112) 157 = .ok (.invokevirtual 115, 3) := by decide +kernel
theorem s_112_157 {d : Nat} {Q : wQ} {L : List (Option Value)} {st : List Value} {w : aw} {cn sn : Nat} {v0 v1 : Value} {b : Nat} : wp d 112 Q 157 L (v1 :: v0 :: .ref b :: st) w cn sn = (kd w b = 9 ∧ catS st ≤ 8 ∧ wpD d 107 [.ref b, v0, v1] w (fun v w' => wp d 112 Q 160 L (v.toList ++ st) w' cn sn)) := w_virtual (As := [v0, v1]) d_112_157 (by decide +kernel : cT (mO 112) 115 = some (0, 107)) rfl (by decide +kernel) rfl (by decide +kernel) rfl
theorem d_112_160 : decode (mB 112) 160 = .ok (.iconst 1, 1) := by decide +kernel
theorem s_112_160 {d : Nat} {Q : wQ} {L : List (Option Value)} {st : List Value} {w : aw} {cn sn : Nat}  : wp d 112 Q 160 L st w cn sn = wp d 112 Q 161 L (.int 1 :: st) w cn sn := w_iconst d_112_160 (by decide)
theorem d_112_161 : decode (mB 112) 161 = .ok (.iadd, 1) := by decide +kernel
theorem s_112_161 {d : Nat} {Q : wQ} {L : List (Option Value)} {st : List Value} {w : aw} {cn sn : Nat} {a b : Int32} : wp d 112 Q 161 L (.int b :: .int a :: st) w cn sn = wp d 112 Q 162 L (.int (a + b) :: st) w cn sn := wp_row d_112_161 _ _ _ _ _
theorem d_112_162 : decode (mB 112) 162 = .ok (.invokevirtual 133, 3) := by decide +kernel
theorem s_112_162 {d : Nat} {Q : wQ} {L : List (Option Value)} {st : List Value} {w : aw} {cn sn : Nat} {v0 v1 v2 : Value} {b : Nat} : wp d 112 Q 162 L (v2 :: v1 :: v0 :: .ref b :: st) w cn sn = (kd w b = 9 ∧ catS st ≤ 8 ∧ wpD d 108 [.ref b, v0, v1, v2] w (fun v w' => wp d 112 Q 165 L (v.toList ++ st) w' cn sn)) := w_virtual (As := [v0, v1, v2]) d_112_162 (by decide +kernel : cT (mO 112) 133 = some (0, 108)) rfl (by decide +kernel) rfl (by decide +kernel) rfl
theorem d_112_165 : decode (mB 112) 165 = .ok (.aload_n 0, 1) := by decide +kernel
theorem s_112_165 {d : Nat} {Q : wQ} {L : List (Option Value)} {st : List Value} {w : aw} {cn sn : Nat} {v : Nat} : wp d 112 Q 165 (some (.ref v) :: L) st w cn sn = wp d 112 Q 166 (some (.ref v) :: L) (.ref v :: st) w cn sn := w_aload_n d_112_165 rfl
theorem d_112_166 : decode (mB 112) 166 = .ok (.iload_n 1, 1) := by decide +kernel
theorem s_112_166 {d : Nat} {Q : wQ} {L : List (Option Value)} {st : List Value} {w : aw} {cn sn : Nat} {a0 : Option Value} {v : Int32} : wp d 112 Q 166 (a0 :: some (.int v) :: L) st w cn sn = wp d 112 Q 167 (a0 :: some (.int v) :: L) (.int v :: st) w cn sn := w_iload_n d_112_166 rfl
theorem d_112_167 : decode (mB 112) 167 = .ok (.aload_n 0, 1) := by decide +kernel
theorem s_112_167 {d : Nat} {Q : wQ} {L : List (Option Value)} {st : List Value} {w : aw} {cn sn : Nat} {v : Nat} : wp d 112 Q 167 (some (.ref v) :: L) st w cn sn = wp d 112 Q 168 (some (.ref v) :: L) (.ref v :: st) w cn sn := w_aload_n d_112_167 rfl
theorem d_112_168 : decode (mB 112) 168 = .ok (.iload_n 1, 1) := by decide +kernel
theorem s_112_168 {d : Nat} {Q : wQ} {L : List (Option Value)} {st : List Value} {w : aw} {cn sn : Nat} {a0 : Option Value} {v : Int32} : wp d 112 Q 168 (a0 :: some (.int v) :: L) st w cn sn = wp d 112 Q 169 (a0 :: some (.int v) :: L) (.int v :: st) w cn sn := w_iload_n d_112_168 rfl
theorem d_112_169 : decode (mB 112) 169 = .ok (.iload 4, 2) := by decide +kernel
theorem s_112_169 {d : Nat} {Q : wQ} {L : List (Option Value)} {st : List Value} {w : aw} {cn sn : Nat} {a0 a1 a2 a3 : Option Value} {v : Int32} : wp d 112 Q 169 (a0 :: a1 :: a2 :: a3 :: some (.int v) :: L) st w cn sn = wp d 112 Q 171 (a0 :: a1 :: a2 :: a3 :: some (.int v) :: L) (.int v :: st) w cn sn := w_iload d_112_169 rfl
theorem d_112_171 : decode (mB 112) 171 = .ok (.invokevirtual 115, 3) := by decide +kernel
theorem s_112_171 {d : Nat} {Q : wQ} {L : List (Option Value)} {st : List Value} {w : aw} {cn sn : Nat} {v0 v1 : Value} {b : Nat} : wp d 112 Q 171 L (v1 :: v0 :: .ref b :: st) w cn sn = (kd w b = 9 ∧ catS st ≤ 8 ∧ wpD d 107 [.ref b, v0, v1] w (fun v w' => wp d 112 Q 174 L (v.toList ++ st) w' cn sn)) := w_virtual (As := [v0, v1]) d_112_171 (by decide +kernel : cT (mO 112) 115 = some (0, 107)) rfl (by decide +kernel) rfl (by decide +kernel) rfl
theorem d_112_174 : decode (mB 112) 174 = .ok (.ifCond .ne 7, 3) := by decide +kernel
theorem s_112_174 {d : Nat} {Q : wQ} {L : List (Option Value)} {st : List Value} {w : aw} {cn sn : Nat} {x : Int32} : wp d 112 Q 174 L (.int x :: st) w cn sn = ((¬ x = 0 → wp d 112 Q 181 L st w cn sn) ∧ (x = 0 → wp d 112 Q 177 L st w cn sn)) := w_ifne d_112_174 (by decide)
theorem d_112_177 : decode (mB 112) 177 = .ok (.iconst 1, 1) := by decide +kernel
theorem s_112_177 {d : Nat} {Q : wQ} {L : List (Option Value)} {st : List Value} {w : aw} {cn sn : Nat}  : wp d 112 Q 177 L st w cn sn = wp d 112 Q 178 L (.int 1 :: st) w cn sn := w_iconst d_112_177 (by decide)
theorem d_112_178 : decode (mB 112) 178 = .ok (.goto 4, 3) := by decide +kernel
theorem s_112_178 {d : Nat} {Q : wQ} {L : List (Option Value)} {st : List Value} {w : aw} {cn sn : Nat}  : wp d 112 Q 178 L st w cn sn = wp d 112 Q 182 L st w cn sn := w_goto d_112_178 (by decide)
theorem d_112_181 : decode (mB 112) 181 = .ok (.iconst 0, 1) := by decide +kernel
theorem s_112_181 {d : Nat} {Q : wQ} {L : List (Option Value)} {st : List Value} {w : aw} {cn sn : Nat}  : wp d 112 Q 181 L st w cn sn = wp d 112 Q 182 L (.int 0 :: st) w cn sn := w_iconst d_112_181 (by decide)
theorem d_112_182 : decode (mB 112) 182 = .ok (.invokevirtual 139, 3) := by decide +kernel
theorem s_112_182 {d : Nat} {Q : wQ} {L : List (Option Value)} {st : List Value} {w : aw} {cn sn : Nat} {v0 v1 : Value} {b : Nat} : wp d 112 Q 182 L (v1 :: v0 :: .ref b :: st) w cn sn = (kd w b = 9 ∧ catS st ≤ 8 ∧ wpD d 110 [.ref b, v0, v1] w (fun v w' => wp d 112 Q 185 L (v.toList ++ st) w' cn sn)) := w_virtual (As := [v0, v1]) d_112_182 (by decide +kernel : cT (mO 112) 139 = some (0, 110)) rfl (by decide +kernel) rfl (by decide +kernel) rfl
theorem d_112_185 : decode (mB 112) 185 = .ok (.goto 64, 3) := by decide +kernel
theorem s_112_185 {d : Nat} {Q : wQ} {L : List (Option Value)} {st : List Value} {w : aw} {cn sn : Nat}  : wp d 112 Q 185 L st w cn sn = wp d 112 Q 249 L st w cn sn := w_goto d_112_185 (by decide)
theorem d_112_188 : decode (mB 112) 188 = .ok (.aload_n 0, 1) := by decide +kernel
theorem s_112_188 {d : Nat} {Q : wQ} {L : List (Option Value)} {st : List Value} {w : aw} {cn sn : Nat} {v : Nat} : wp d 112 Q 188 (some (.ref v) :: L) st w cn sn = wp d 112 Q 189 (some (.ref v) :: L) (.ref v :: st) w cn sn := w_aload_n d_112_188 rfl
theorem d_112_189 : decode (mB 112) 189 = .ok (.iload_n 1, 1) := by decide +kernel
theorem s_112_189 {d : Nat} {Q : wQ} {L : List (Option Value)} {st : List Value} {w : aw} {cn sn : Nat} {a0 : Option Value} {v : Int32} : wp d 112 Q 189 (a0 :: some (.int v) :: L) st w cn sn = wp d 112 Q 190 (a0 :: some (.int v) :: L) (.int v :: st) w cn sn := w_iload_n d_112_189 rfl
theorem d_112_190 : decode (mB 112) 190 = .ok (.iload 4, 2) := by decide +kernel
theorem s_112_190 {d : Nat} {Q : wQ} {L : List (Option Value)} {st : List Value} {w : aw} {cn sn : Nat} {a0 a1 a2 a3 : Option Value} {v : Int32} : wp d 112 Q 190 (a0 :: a1 :: a2 :: a3 :: some (.int v) :: L) st w cn sn = wp d 112 Q 192 (a0 :: a1 :: a2 :: a3 :: some (.int v) :: L) (.int v :: st) w cn sn := w_iload d_112_190 rfl
theorem d_112_192 : decode (mB 112) 192 = .ok (.aload_n 0, 1) := by decide +kernel
theorem s_112_192 {d : Nat} {Q : wQ} {L : List (Option Value)} {st : List Value} {w : aw} {cn sn : Nat} {v : Nat} : wp d 112 Q 192 (some (.ref v) :: L) st w cn sn = wp d 112 Q 193 (some (.ref v) :: L) (.ref v :: st) w cn sn := w_aload_n d_112_192 rfl
theorem d_112_193 : decode (mB 112) 193 = .ok (.getfield 30, 3) := by decide +kernel
theorem s_112_193 {d : Nat} {Q : wQ} {L : List (Option Value)} {st : List Value} {w : aw} {cn sn : Nat} {a : Nat} : wp d 112 Q 193 L (.ref a :: st) w cn sn = (kd w a = 9 ∧ wp d 112 Q 196 L (fd w 528 a :: st) w cn sn) := w_getfield d_112_193 (by decide +kernel : fT (mO 112) 30 = some (8, 16))
theorem d_112_196 : decode (mB 112) 196 = .ok (.iload_n 1, 1) := by decide +kernel
theorem s_112_196 {d : Nat} {Q : wQ} {L : List (Option Value)} {st : List Value} {w : aw} {cn sn : Nat} {a0 : Option Value} {v : Int32} : wp d 112 Q 196 (a0 :: some (.int v) :: L) st w cn sn = wp d 112 Q 197 (a0 :: some (.int v) :: L) (.int v :: st) w cn sn := w_iload_n d_112_196 rfl
theorem d_112_197 : decode (mB 112) 197 = .ok (.iaload, 1) := by decide +kernel
theorem s_112_197 {d : Nat} {Q : wQ} {L : List (Option Value)} {st : List Value} {w : aw} {cn sn : Nat} {a : Nat} {i : Int32} : wp d 112 Q 197 L (.int i :: .ref a :: st) w cn sn = ((kd w a = 20 ∨ kd w a = 30) ∧ inR i (ln w a) ∧ wp d 112 Q 198 L (.int (ai w a i.toNatClampNeg) :: st) w cn sn) := wp_row d_112_197 _ _ _ _ _
theorem d_112_198 : decode (mB 112) 198 = .ok (.invokevirtual 133, 3) := by decide +kernel
theorem s_112_198 {d : Nat} {Q : wQ} {L : List (Option Value)} {st : List Value} {w : aw} {cn sn : Nat} {v0 v1 v2 : Value} {b : Nat} : wp d 112 Q 198 L (v2 :: v1 :: v0 :: .ref b :: st) w cn sn = (kd w b = 9 ∧ catS st ≤ 8 ∧ wpD d 108 [.ref b, v0, v1, v2] w (fun v w' => wp d 112 Q 201 L (v.toList ++ st) w' cn sn)) := w_virtual (As := [v0, v1, v2]) d_112_198 (by decide +kernel : cT (mO 112) 133 = some (0, 108)) rfl (by decide +kernel) rfl (by decide +kernel) rfl
theorem d_112_201 : decode (mB 112) 201 = .ok (.aload_n 0, 1) := by decide +kernel
theorem s_112_201 {d : Nat} {Q : wQ} {L : List (Option Value)} {st : List Value} {w : aw} {cn sn : Nat} {v : Nat} : wp d 112 Q 201 (some (.ref v) :: L) st w cn sn = wp d 112 Q 202 (some (.ref v) :: L) (.ref v :: st) w cn sn := w_aload_n d_112_201 rfl
theorem d_112_202 : decode (mB 112) 202 = .ok (.getfield 30, 3) := by decide +kernel
theorem s_112_202 {d : Nat} {Q : wQ} {L : List (Option Value)} {st : List Value} {w : aw} {cn sn : Nat} {a : Nat} : wp d 112 Q 202 L (.ref a :: st) w cn sn = (kd w a = 9 ∧ wp d 112 Q 205 L (fd w 528 a :: st) w cn sn) := w_getfield d_112_202 (by decide +kernel : fT (mO 112) 30 = some (8, 16))
theorem d_112_205 : decode (mB 112) 205 = .ok (.iload_n 1, 1) := by decide +kernel
theorem s_112_205 {d : Nat} {Q : wQ} {L : List (Option Value)} {st : List Value} {w : aw} {cn sn : Nat} {a0 : Option Value} {v : Int32} : wp d 112 Q 205 (a0 :: some (.int v) :: L) st w cn sn = wp d 112 Q 206 (a0 :: some (.int v) :: L) (.int v :: st) w cn sn := w_iload_n d_112_205 rfl
theorem d_112_206 : decode (mB 112) 206 = .ok (.iconst 0, 1) := by decide +kernel
theorem s_112_206 {d : Nat} {Q : wQ} {L : List (Option Value)} {st : List Value} {w : aw} {cn sn : Nat}  : wp d 112 Q 206 L st w cn sn = wp d 112 Q 207 L (.int 0 :: st) w cn sn := w_iconst d_112_206 (by decide)
theorem d_112_207 : decode (mB 112) 207 = .ok (.iastore, 1) := by decide +kernel
theorem s_112_207 {d : Nat} {Q : wQ} {L : List (Option Value)} {st : List Value} {w : aw} {cn sn : Nat} {a : Nat} {i x : Int32} : wp d 112 Q 207 L (.int x :: .int i :: .ref a :: st) w cn sn = (kd w a = 20 ∧ inR i (ln w a) ∧ wp d 112 Q 208 L st (uA w a i.toNatClampNeg x) cn sn) := wp_row d_112_207 _ _ _ _ _
theorem d_112_208 : decode (mB 112) 208 = .ok (.goto 41, 3) := by decide +kernel
theorem s_112_208 {d : Nat} {Q : wQ} {L : List (Option Value)} {st : List Value} {w : aw} {cn sn : Nat}  : wp d 112 Q 208 L st w cn sn = wp d 112 Q 249 L st w cn sn := w_goto d_112_208 (by decide)
theorem d_112_211 : decode (mB 112) 211 = .ok (.aload_n 0, 1) := by decide +kernel
theorem s_112_211 {d : Nat} {Q : wQ} {L : List (Option Value)} {st : List Value} {w : aw} {cn sn : Nat} {v : Nat} : wp d 112 Q 211 (some (.ref v) :: L) st w cn sn = wp d 112 Q 212 (some (.ref v) :: L) (.ref v :: st) w cn sn := w_aload_n d_112_211 rfl
theorem d_112_212 : decode (mB 112) 212 = .ok (.iload_n 1, 1) := by decide +kernel
theorem s_112_212 {d : Nat} {Q : wQ} {L : List (Option Value)} {st : List Value} {w : aw} {cn sn : Nat} {a0 : Option Value} {v : Int32} : wp d 112 Q 212 (a0 :: some (.int v) :: L) st w cn sn = wp d 112 Q 213 (a0 :: some (.int v) :: L) (.int v :: st) w cn sn := w_iload_n d_112_212 rfl
theorem d_112_213 : decode (mB 112) 213 = .ok (.iload 4, 2) := by decide +kernel
theorem s_112_213 {d : Nat} {Q : wQ} {L : List (Option Value)} {st : List Value} {w : aw} {cn sn : Nat} {a0 a1 a2 a3 : Option Value} {v : Int32} : wp d 112 Q 213 (a0 :: a1 :: a2 :: a3 :: some (.int v) :: L) st w cn sn = wp d 112 Q 215 (a0 :: a1 :: a2 :: a3 :: some (.int v) :: L) (.int v :: st) w cn sn := w_iload d_112_213 rfl
theorem d_112_215 : decode (mB 112) 215 = .ok (.aload_n 0, 1) := by decide +kernel
theorem s_112_215 {d : Nat} {Q : wQ} {L : List (Option Value)} {st : List Value} {w : aw} {cn sn : Nat} {v : Nat} : wp d 112 Q 215 (some (.ref v) :: L) st w cn sn = wp d 112 Q 216 (some (.ref v) :: L) (.ref v :: st) w cn sn := w_aload_n d_112_215 rfl
theorem d_112_216 : decode (mB 112) 216 = .ok (.getfield 33, 3) := by decide +kernel
theorem s_112_216 {d : Nat} {Q : wQ} {L : List (Option Value)} {st : List Value} {w : aw} {cn sn : Nat} {a : Nat} : wp d 112 Q 216 L (.ref a :: st) w cn sn = (kd w a = 9 ∧ wp d 112 Q 219 L (fd w 529 a :: st) w cn sn) := w_getfield d_112_216 (by decide +kernel : fT (mO 112) 33 = some (8, 17))
theorem d_112_219 : decode (mB 112) 219 = .ok (.iload_n 1, 1) := by decide +kernel
theorem s_112_219 {d : Nat} {Q : wQ} {L : List (Option Value)} {st : List Value} {w : aw} {cn sn : Nat} {a0 : Option Value} {v : Int32} : wp d 112 Q 219 (a0 :: some (.int v) :: L) st w cn sn = wp d 112 Q 220 (a0 :: some (.int v) :: L) (.int v :: st) w cn sn := w_iload_n d_112_219 rfl
theorem d_112_220 : decode (mB 112) 220 = .ok (.iaload, 1) := by decide +kernel
theorem s_112_220 {d : Nat} {Q : wQ} {L : List (Option Value)} {st : List Value} {w : aw} {cn sn : Nat} {a : Nat} {i : Int32} : wp d 112 Q 220 L (.int i :: .ref a :: st) w cn sn = ((kd w a = 20 ∨ kd w a = 30) ∧ inR i (ln w a) ∧ wp d 112 Q 221 L (.int (ai w a i.toNatClampNeg) :: st) w cn sn) := wp_row d_112_220 _ _ _ _ _
theorem d_112_221 : decode (mB 112) 221 = .ok (.invokevirtual 133, 3) := by decide +kernel
theorem s_112_221 {d : Nat} {Q : wQ} {L : List (Option Value)} {st : List Value} {w : aw} {cn sn : Nat} {v0 v1 v2 : Value} {b : Nat} : wp d 112 Q 221 L (v2 :: v1 :: v0 :: .ref b :: st) w cn sn = (kd w b = 9 ∧ catS st ≤ 8 ∧ wpD d 108 [.ref b, v0, v1, v2] w (fun v w' => wp d 112 Q 224 L (v.toList ++ st) w' cn sn)) := w_virtual (As := [v0, v1, v2]) d_112_221 (by decide +kernel : cT (mO 112) 133 = some (0, 108)) rfl (by decide +kernel) rfl (by decide +kernel) rfl
theorem d_112_224 : decode (mB 112) 224 = .ok (.aload_n 0, 1) := by decide +kernel
theorem s_112_224 {d : Nat} {Q : wQ} {L : List (Option Value)} {st : List Value} {w : aw} {cn sn : Nat} {v : Nat} : wp d 112 Q 224 (some (.ref v) :: L) st w cn sn = wp d 112 Q 225 (some (.ref v) :: L) (.ref v :: st) w cn sn := w_aload_n d_112_224 rfl
theorem d_112_225 : decode (mB 112) 225 = .ok (.getfield 33, 3) := by decide +kernel
theorem s_112_225 {d : Nat} {Q : wQ} {L : List (Option Value)} {st : List Value} {w : aw} {cn sn : Nat} {a : Nat} : wp d 112 Q 225 L (.ref a :: st) w cn sn = (kd w a = 9 ∧ wp d 112 Q 228 L (fd w 529 a :: st) w cn sn) := w_getfield d_112_225 (by decide +kernel : fT (mO 112) 33 = some (8, 17))
theorem d_112_228 : decode (mB 112) 228 = .ok (.iload_n 1, 1) := by decide +kernel
theorem s_112_228 {d : Nat} {Q : wQ} {L : List (Option Value)} {st : List Value} {w : aw} {cn sn : Nat} {a0 : Option Value} {v : Int32} : wp d 112 Q 228 (a0 :: some (.int v) :: L) st w cn sn = wp d 112 Q 229 (a0 :: some (.int v) :: L) (.int v :: st) w cn sn := w_iload_n d_112_228 rfl
theorem d_112_229 : decode (mB 112) 229 = .ok (.iload 4, 2) := by decide +kernel
theorem s_112_229 {d : Nat} {Q : wQ} {L : List (Option Value)} {st : List Value} {w : aw} {cn sn : Nat} {a0 a1 a2 a3 : Option Value} {v : Int32} : wp d 112 Q 229 (a0 :: a1 :: a2 :: a3 :: some (.int v) :: L) st w cn sn = wp d 112 Q 231 (a0 :: a1 :: a2 :: a3 :: some (.int v) :: L) (.int v :: st) w cn sn := w_iload d_112_229 rfl
theorem d_112_231 : decode (mB 112) 231 = .ok (.iconst 1, 1) := by decide +kernel
theorem s_112_231 {d : Nat} {Q : wQ} {L : List (Option Value)} {st : List Value} {w : aw} {cn sn : Nat}  : wp d 112 Q 231 L st w cn sn = wp d 112 Q 232 L (.int 1 :: st) w cn sn := w_iconst d_112_231 (by decide)
theorem d_112_232 : decode (mB 112) 232 = .ok (.iadd, 1) := by decide +kernel
theorem s_112_232 {d : Nat} {Q : wQ} {L : List (Option Value)} {st : List Value} {w : aw} {cn sn : Nat} {a b : Int32} : wp d 112 Q 232 L (.int b :: .int a :: st) w cn sn = wp d 112 Q 233 L (.int (a + b) :: st) w cn sn := wp_row d_112_232 _ _ _ _ _
theorem d_112_233 : decode (mB 112) 233 = .ok (.sipush 4095, 3) := by decide +kernel
theorem s_112_233 {d : Nat} {Q : wQ} {L : List (Option Value)} {st : List Value} {w : aw} {cn sn : Nat}  : wp d 112 Q 233 L st w cn sn = wp d 112 Q 236 L (.int 4095 :: st) w cn sn := w_sipush d_112_233 (by decide)
theorem d_112_236 : decode (mB 112) 236 = .ok (.iand, 1) := by decide +kernel
theorem s_112_236 {d : Nat} {Q : wQ} {L : List (Option Value)} {st : List Value} {w : aw} {cn sn : Nat} {a b : Int32} : wp d 112 Q 236 L (.int b :: .int a :: st) w cn sn = wp d 112 Q 237 L (.int (a &&& b) :: st) w cn sn := wp_row d_112_236 _ _ _ _ _
theorem d_112_237 : decode (mB 112) 237 = .ok (.iastore, 1) := by decide +kernel
theorem s_112_237 {d : Nat} {Q : wQ} {L : List (Option Value)} {st : List Value} {w : aw} {cn sn : Nat} {a : Nat} {i x : Int32} : wp d 112 Q 237 L (.int x :: .int i :: .ref a :: st) w cn sn = (kd w a = 20 ∧ inR i (ln w a) ∧ wp d 112 Q 238 L st (uA w a i.toNatClampNeg x) cn sn) := wp_row d_112_237 _ _ _ _ _
theorem d_112_238 : decode (mB 112) 238 = .ok (.goto 11, 3) := by decide +kernel
theorem s_112_238 {d : Nat} {Q : wQ} {L : List (Option Value)} {st : List Value} {w : aw} {cn sn : Nat}  : wp d 112 Q 238 L st w cn sn = wp d 112 Q 249 L st w cn sn := w_goto d_112_238 (by decide)
theorem d_112_241 : decode (mB 112) 241 = .ok (.aload_n 0, 1) := by decide +kernel
theorem s_112_241 {d : Nat} {Q : wQ} {L : List (Option Value)} {st : List Value} {w : aw} {cn sn : Nat} {v : Nat} : wp d 112 Q 241 (some (.ref v) :: L) st w cn sn = wp d 112 Q 242 (some (.ref v) :: L) (.ref v :: st) w cn sn := w_aload_n d_112_241 rfl
theorem d_112_242 : decode (mB 112) 242 = .ok (.getfield 33, 3) := by decide +kernel
theorem s_112_242 {d : Nat} {Q : wQ} {L : List (Option Value)} {st : List Value} {w : aw} {cn sn : Nat} {a : Nat} : wp d 112 Q 242 L (.ref a :: st) w cn sn = (kd w a = 9 ∧ wp d 112 Q 245 L (fd w 529 a :: st) w cn sn) := w_getfield d_112_242 (by decide +kernel : fT (mO 112) 33 = some (8, 17))
theorem d_112_245 : decode (mB 112) 245 = .ok (.iload_n 1, 1) := by decide +kernel
theorem s_112_245 {d : Nat} {Q : wQ} {L : List (Option Value)} {st : List Value} {w : aw} {cn sn : Nat} {a0 : Option Value} {v : Int32} : wp d 112 Q 245 (a0 :: some (.int v) :: L) st w cn sn = wp d 112 Q 246 (a0 :: some (.int v) :: L) (.int v :: st) w cn sn := w_iload_n d_112_245 rfl
theorem d_112_246 : decode (mB 112) 246 = .ok (.iload 4, 2) := by decide +kernel
theorem s_112_246 {d : Nat} {Q : wQ} {L : List (Option Value)} {st : List Value} {w : aw} {cn sn : Nat} {a0 a1 a2 a3 : Option Value} {v : Int32} : wp d 112 Q 246 (a0 :: a1 :: a2 :: a3 :: some (.int v) :: L) st w cn sn = wp d 112 Q 248 (a0 :: a1 :: a2 :: a3 :: some (.int v) :: L) (.int v :: st) w cn sn := w_iload d_112_246 rfl
theorem d_112_248 : decode (mB 112) 248 = .ok (.iastore, 1) := by decide +kernel
theorem s_112_248 {d : Nat} {Q : wQ} {L : List (Option Value)} {st : List Value} {w : aw} {cn sn : Nat} {a : Nat} {i x : Int32} : wp d 112 Q 248 L (.int x :: .int i :: .ref a :: st) w cn sn = (kd w a = 20 ∧ inR i (ln w a) ∧ wp d 112 Q 249 L st (uA w a i.toNatClampNeg x) cn sn) := wp_row d_112_248 _ _ _ _ _
theorem d_112_249 : decode (mB 112) 249 = .ok (.return_, 1) := by decide +kernel
theorem s_112_249 {d : Nat} {Q : wQ} {L : List (Option Value)} {w : aw} {cn sn : Nat}  : wp d 112 Q 249 L [] w cn sn = Q none w := w_return d_112_249 rfl
theorem d_113_0 : decode (mB 113) 0 = .ok (.iload_n 2, 1) := by decide +kernel
theorem s_113_0 {d : Nat} {Q : wQ} {L : List (Option Value)} {st : List Value} {w : aw} {cn sn : Nat} {a0 a1 : Option Value} {v : Int32} : wp d 113 Q 0 (a0 :: a1 :: some (.int v) :: L) st w cn sn = wp d 113 Q 1 (a0 :: a1 :: some (.int v) :: L) (.int v :: st) w cn sn := w_iload_n d_113_0 rfl
theorem d_113_1 : decode (mB 113) 1 = .ok (.sipush 128, 3) := by decide +kernel
theorem s_113_1 {d : Nat} {Q : wQ} {L : List (Option Value)} {st : List Value} {w : aw} {cn sn : Nat}  : wp d 113 Q 1 L st w cn sn = wp d 113 Q 4 L (.int 128 :: st) w cn sn := w_sipush d_113_1 (by decide)
theorem d_113_4 : decode (mB 113) 4 = .ok (.iand, 1) := by decide +kernel
theorem s_113_4 {d : Nat} {Q : wQ} {L : List (Option Value)} {st : List Value} {w : aw} {cn sn : Nat} {a b : Int32} : wp d 113 Q 4 L (.int b :: .int a :: st) w cn sn = wp d 113 Q 5 L (.int (a &&& b) :: st) w cn sn := wp_row d_113_4 _ _ _ _ _
theorem d_113_5 : decode (mB 113) 5 = .ok (.ifCond .le 10, 3) := by decide +kernel
theorem s_113_5 {d : Nat} {Q : wQ} {L : List (Option Value)} {st : List Value} {w : aw} {cn sn : Nat} {x : Int32} : wp d 113 Q 5 L (.int x :: st) w cn sn = ((x ≤ 0 → wp d 113 Q 15 L st w cn sn) ∧ (¬ x ≤ 0 → wp d 113 Q 8 L st w cn sn)) := w_ifle d_113_5 (by decide)
theorem d_113_8 : decode (mB 113) 8 = .ok (.aload_n 0, 1) := by decide +kernel
theorem s_113_8 {d : Nat} {Q : wQ} {L : List (Option Value)} {st : List Value} {w : aw} {cn sn : Nat} {v : Nat} : wp d 113 Q 8 (some (.ref v) :: L) st w cn sn = wp d 113 Q 9 (some (.ref v) :: L) (.ref v :: st) w cn sn := w_aload_n d_113_8 rfl
theorem d_113_9 : decode (mB 113) 9 = .ok (.getfield 30, 3) := by decide +kernel
theorem s_113_9 {d : Nat} {Q : wQ} {L : List (Option Value)} {st : List Value} {w : aw} {cn sn : Nat} {a : Nat} : wp d 113 Q 9 L (.ref a :: st) w cn sn = (kd w a = 9 ∧ wp d 113 Q 12 L (fd w 528 a :: st) w cn sn) := w_getfield d_113_9 (by decide +kernel : fT (mO 113) 30 = some (8, 16))
theorem d_113_12 : decode (mB 113) 12 = .ok (.iload_n 1, 1) := by decide +kernel
theorem s_113_12 {d : Nat} {Q : wQ} {L : List (Option Value)} {st : List Value} {w : aw} {cn sn : Nat} {a0 : Option Value} {v : Int32} : wp d 113 Q 12 (a0 :: some (.int v) :: L) st w cn sn = wp d 113 Q 13 (a0 :: some (.int v) :: L) (.int v :: st) w cn sn := w_iload_n d_113_12 rfl
theorem d_113_13 : decode (mB 113) 13 = .ok (.iconst 0, 1) := by decide +kernel
theorem s_113_13 {d : Nat} {Q : wQ} {L : List (Option Value)} {st : List Value} {w : aw} {cn sn : Nat}  : wp d 113 Q 13 L st w cn sn = wp d 113 Q 14 L (.int 0 :: st) w cn sn := w_iconst d_113_13 (by decide)
theorem d_113_14 : decode (mB 113) 14 = .ok (.iastore, 1) := by decide +kernel
theorem s_113_14 {d : Nat} {Q : wQ} {L : List (Option Value)} {st : List Value} {w : aw} {cn sn : Nat} {a : Nat} {i x : Int32} : wp d 113 Q 14 L (.int x :: .int i :: .ref a :: st) w cn sn = (kd w a = 20 ∧ inR i (ln w a) ∧ wp d 113 Q 15 L st (uA w a i.toNatClampNeg x) cn sn) := wp_row d_113_14 _ _ _ _ _
theorem d_113_15 : decode (mB 113) 15 = .ok (.iload_n 2, 1) := by decide +kernel
theorem s_113_15 {d : Nat} {Q : wQ} {L : List (Option Value)} {st : List Value} {w : aw} {cn sn : Nat} {a0 a1 : Option Value} {v : Int32} : wp d 113 Q 15 (a0 :: a1 :: some (.int v) :: L) st w cn sn = wp d 113 Q 16 (a0 :: a1 :: some (.int v) :: L) (.int v :: st) w cn sn := w_iload_n d_113_15 rfl
theorem d_113_16 : decode (mB 113) 16 = .ok (.bipush 64, 2) := by decide +kernel
theorem s_113_16 {d : Nat} {Q : wQ} {L : List (Option Value)} {st : List Value} {w : aw} {cn sn : Nat}  : wp d 113 Q 16 L st w cn sn = wp d 113 Q 18 L (.int 64 :: st) w cn sn := w_bipush d_113_16 (by decide)
theorem d_113_18 : decode (mB 113) 18 = .ok (.iand, 1) := by decide +kernel
theorem s_113_18 {d : Nat} {Q : wQ} {L : List (Option Value)} {st : List Value} {w : aw} {cn sn : Nat} {a b : Int32} : wp d 113 Q 18 L (.int b :: .int a :: st) w cn sn = wp d 113 Q 19 L (.int (a &&& b) :: st) w cn sn := wp_row d_113_18 _ _ _ _ _
theorem d_113_19 : decode (mB 113) 19 = .ok (.ifCond .le 10, 3) := by decide +kernel
theorem s_113_19 {d : Nat} {Q : wQ} {L : List (Option Value)} {st : List Value} {w : aw} {cn sn : Nat} {x : Int32} : wp d 113 Q 19 L (.int x :: st) w cn sn = ((x ≤ 0 → wp d 113 Q 29 L st w cn sn) ∧ (¬ x ≤ 0 → wp d 113 Q 22 L st w cn sn)) := w_ifle d_113_19 (by decide)
theorem d_113_22 : decode (mB 113) 22 = .ok (.aload_n 0, 1) := by decide +kernel
theorem s_113_22 {d : Nat} {Q : wQ} {L : List (Option Value)} {st : List Value} {w : aw} {cn sn : Nat} {v : Nat} : wp d 113 Q 22 (some (.ref v) :: L) st w cn sn = wp d 113 Q 23 (some (.ref v) :: L) (.ref v :: st) w cn sn := w_aload_n d_113_22 rfl
theorem d_113_23 : decode (mB 113) 23 = .ok (.getfield 36, 3) := by decide +kernel
theorem s_113_23 {d : Nat} {Q : wQ} {L : List (Option Value)} {st : List Value} {w : aw} {cn sn : Nat} {a : Nat} : wp d 113 Q 23 L (.ref a :: st) w cn sn = (kd w a = 9 ∧ wp d 113 Q 26 L (fd w 530 a :: st) w cn sn) := w_getfield d_113_23 (by decide +kernel : fT (mO 113) 36 = some (8, 18))
theorem d_113_26 : decode (mB 113) 26 = .ok (.iload_n 1, 1) := by decide +kernel
theorem s_113_26 {d : Nat} {Q : wQ} {L : List (Option Value)} {st : List Value} {w : aw} {cn sn : Nat} {a0 : Option Value} {v : Int32} : wp d 113 Q 26 (a0 :: some (.int v) :: L) st w cn sn = wp d 113 Q 27 (a0 :: some (.int v) :: L) (.int v :: st) w cn sn := w_iload_n d_113_26 rfl
theorem d_113_27 : decode (mB 113) 27 = .ok (.iconst 0, 1) := by decide +kernel
theorem s_113_27 {d : Nat} {Q : wQ} {L : List (Option Value)} {st : List Value} {w : aw} {cn sn : Nat}  : wp d 113 Q 27 L st w cn sn = wp d 113 Q 28 L (.int 0 :: st) w cn sn := w_iconst d_113_27 (by decide)
theorem d_113_28 : decode (mB 113) 28 = .ok (.iastore, 1) := by decide +kernel
theorem s_113_28 {d : Nat} {Q : wQ} {L : List (Option Value)} {st : List Value} {w : aw} {cn sn : Nat} {a : Nat} {i x : Int32} : wp d 113 Q 28 L (.int x :: .int i :: .ref a :: st) w cn sn = (kd w a = 20 ∧ inR i (ln w a) ∧ wp d 113 Q 29 L st (uA w a i.toNatClampNeg x) cn sn) := wp_row d_113_28 _ _ _ _ _
theorem d_113_29 : decode (mB 113) 29 = .ok (.iload_n 2, 1) := by decide +kernel
theorem s_113_29 {d : Nat} {Q : wQ} {L : List (Option Value)} {st : List Value} {w : aw} {cn sn : Nat} {a0 a1 : Option Value} {v : Int32} : wp d 113 Q 29 (a0 :: a1 :: some (.int v) :: L) st w cn sn = wp d 113 Q 30 (a0 :: a1 :: some (.int v) :: L) (.int v :: st) w cn sn := w_iload_n d_113_29 rfl
theorem d_113_30 : decode (mB 113) 30 = .ok (.bipush 32, 2) := by decide +kernel
theorem s_113_30 {d : Nat} {Q : wQ} {L : List (Option Value)} {st : List Value} {w : aw} {cn sn : Nat}  : wp d 113 Q 30 L st w cn sn = wp d 113 Q 32 L (.int 32 :: st) w cn sn := w_bipush d_113_30 (by decide)
theorem d_113_32 : decode (mB 113) 32 = .ok (.iand, 1) := by decide +kernel
theorem s_113_32 {d : Nat} {Q : wQ} {L : List (Option Value)} {st : List Value} {w : aw} {cn sn : Nat} {a b : Int32} : wp d 113 Q 32 L (.int b :: .int a :: st) w cn sn = wp d 113 Q 33 L (.int (a &&& b) :: st) w cn sn := wp_row d_113_32 _ _ _ _ _
theorem d_113_33 : decode (mB 113) 33 = .ok (.ifCond .le 19, 3) := by decide +kernel
theorem s_113_33 {d : Nat} {Q : wQ} {L : List (Option Value)} {st : List Value} {w : aw} {cn sn : Nat} {x : Int32} : wp d 113 Q 33 L (.int x :: st) w cn sn = ((x ≤ 0 → wp d 113 Q 52 L st w cn sn) ∧ (¬ x ≤ 0 → wp d 113 Q 36 L st w cn sn)) := w_ifle d_113_33 (by decide)
theorem d_113_36 : decode (mB 113) 36 = .ok (.aload_n 0, 1) := by decide +kernel
theorem s_113_36 {d : Nat} {Q : wQ} {L : List (Option Value)} {st : List Value} {w : aw} {cn sn : Nat} {v : Nat} : wp d 113 Q 36 (some (.ref v) :: L) st w cn sn = wp d 113 Q 37 (some (.ref v) :: L) (.ref v :: st) w cn sn := w_aload_n d_113_36 rfl
theorem d_113_37 : decode (mB 113) 37 = .ok (.getfield 30, 3) := by decide +kernel
theorem s_113_37 {d : Nat} {Q : wQ} {L : List (Option Value)} {st : List Value} {w : aw} {cn sn : Nat} {a : Nat} : wp d 113 Q 37 L (.ref a :: st) w cn sn = (kd w a = 9 ∧ wp d 113 Q 40 L (fd w 528 a :: st) w cn sn) := w_getfield d_113_37 (by decide +kernel : fT (mO 113) 30 = some (8, 16))
theorem d_113_40 : decode (mB 113) 40 = .ok (.iload_n 1, 1) := by decide +kernel
theorem s_113_40 {d : Nat} {Q : wQ} {L : List (Option Value)} {st : List Value} {w : aw} {cn sn : Nat} {a0 : Option Value} {v : Int32} : wp d 113 Q 40 (a0 :: some (.int v) :: L) st w cn sn = wp d 113 Q 41 (a0 :: some (.int v) :: L) (.int v :: st) w cn sn := w_iload_n d_113_40 rfl
theorem d_113_41 : decode (mB 113) 41 = .ok (.sipush 4095, 3) := by decide +kernel
theorem s_113_41 {d : Nat} {Q : wQ} {L : List (Option Value)} {st : List Value} {w : aw} {cn sn : Nat}  : wp d 113 Q 41 L st w cn sn = wp d 113 Q 44 L (.int 4095 :: st) w cn sn := w_sipush d_113_41 (by decide)
theorem d_113_44 : decode (mB 113) 44 = .ok (.aload_n 0, 1) := by decide +kernel
theorem s_113_44 {d : Nat} {Q : wQ} {L : List (Option Value)} {st : List Value} {w : aw} {cn sn : Nat} {v : Nat} : wp d 113 Q 44 (some (.ref v) :: L) st w cn sn = wp d 113 Q 45 (some (.ref v) :: L) (.ref v :: st) w cn sn := w_aload_n d_113_44 rfl
theorem d_113_45 : decode (mB 113) 45 = .ok (.getfield 30, 3) := by decide +kernel
theorem s_113_45 {d : Nat} {Q : wQ} {L : List (Option Value)} {st : List Value} {w : aw} {cn sn : Nat} {a : Nat} : wp d 113 Q 45 L (.ref a :: st) w cn sn = (kd w a = 9 ∧ wp d 113 Q 48 L (fd w 528 a :: st) w cn sn) := w_getfield d_113_45 (by decide +kernel : fT (mO 113) 30 = some (8, 16))
theorem d_113_48 : decode (mB 113) 48 = .ok (.iload_n 1, 1) := by decide +kernel
theorem s_113_48 {d : Nat} {Q : wQ} {L : List (Option Value)} {st : List Value} {w : aw} {cn sn : Nat} {a0 : Option Value} {v : Int32} : wp d 113 Q 48 (a0 :: some (.int v) :: L) st w cn sn = wp d 113 Q 49 (a0 :: some (.int v) :: L) (.int v :: st) w cn sn := w_iload_n d_113_48 rfl
theorem d_113_49 : decode (mB 113) 49 = .ok (.iaload, 1) := by decide +kernel
theorem s_113_49 {d : Nat} {Q : wQ} {L : List (Option Value)} {st : List Value} {w : aw} {cn sn : Nat} {a : Nat} {i : Int32} : wp d 113 Q 49 L (.int i :: .ref a :: st) w cn sn = ((kd w a = 20 ∨ kd w a = 30) ∧ inR i (ln w a) ∧ wp d 113 Q 50 L (.int (ai w a i.toNatClampNeg) :: st) w cn sn) := wp_row d_113_49 _ _ _ _ _
theorem d_113_50 : decode (mB 113) 50 = .ok (.isub, 1) := by decide +kernel
theorem s_113_50 {d : Nat} {Q : wQ} {L : List (Option Value)} {st : List Value} {w : aw} {cn sn : Nat} {a b : Int32} : wp d 113 Q 50 L (.int b :: .int a :: st) w cn sn = wp d 113 Q 51 L (.int (a - b) :: st) w cn sn := wp_row d_113_50 _ _ _ _ _
theorem d_113_51 : decode (mB 113) 51 = .ok (.iastore, 1) := by decide +kernel
theorem s_113_51 {d : Nat} {Q : wQ} {L : List (Option Value)} {st : List Value} {w : aw} {cn sn : Nat} {a : Nat} {i x : Int32} : wp d 113 Q 51 L (.int x :: .int i :: .ref a :: st) w cn sn = (kd w a = 20 ∧ inR i (ln w a) ∧ wp d 113 Q 52 L st (uA w a i.toNatClampNeg x) cn sn) := wp_row d_113_51 _ _ _ _ _
theorem d_113_52 : decode (mB 113) 52 = .ok (.iload_n 2, 1) := by decide +kernel
theorem s_113_52 {d : Nat} {Q : wQ} {L : List (Option Value)} {st : List Value} {w : aw} {cn sn : Nat} {a0 a1 : Option Value} {v : Int32} : wp d 113 Q 52 (a0 :: a1 :: some (.int v) :: L) st w cn sn = wp d 113 Q 53 (a0 :: a1 :: some (.int v) :: L) (.int v :: st) w cn sn := w_iload_n d_113_52 rfl
theorem d_113_53 : decode (mB 113) 53 = .ok (.bipush 16, 2) := by decide +kernel
theorem s_113_53 {d : Nat} {Q : wQ} {L : List (Option Value)} {st : List Value} {w : aw} {cn sn : Nat}  : wp d 113 Q 53 L st w cn sn = wp d 113 Q 55 L (.int 16 :: st) w cn sn := w_bipush d_113_53 (by decide)
theorem d_113_55 : decode (mB 113) 55 = .ok (.iand, 1) := by decide +kernel
theorem s_113_55 {d : Nat} {Q : wQ} {L : List (Option Value)} {st : List Value} {w : aw} {cn sn : Nat} {a b : Int32} : wp d 113 Q 55 L (.int b :: .int a :: st) w cn sn = wp d 113 Q 56 L (.int (a &&& b) :: st) w cn sn := wp_row d_113_55 _ _ _ _ _
theorem d_113_56 : decode (mB 113) 56 = .ok (.ifCond .le 17, 3) := by decide +kernel
theorem s_113_56 {d : Nat} {Q : wQ} {L : List (Option Value)} {st : List Value} {w : aw} {cn sn : Nat} {x : Int32} : wp d 113 Q 56 L (.int x :: st) w cn sn = ((x ≤ 0 → wp d 113 Q 73 L st w cn sn) ∧ (¬ x ≤ 0 → wp d 113 Q 59 L st w cn sn)) := w_ifle d_113_56 (by decide)
theorem d_113_59 : decode (mB 113) 59 = .ok (.aload_n 0, 1) := by decide +kernel
theorem s_113_59 {d : Nat} {Q : wQ} {L : List (Option Value)} {st : List Value} {w : aw} {cn sn : Nat} {v : Nat} : wp d 113 Q 59 (some (.ref v) :: L) st w cn sn = wp d 113 Q 60 (some (.ref v) :: L) (.ref v :: st) w cn sn := w_aload_n d_113_59 rfl
theorem d_113_60 : decode (mB 113) 60 = .ok (.getfield 36, 3) := by decide +kernel
theorem s_113_60 {d : Nat} {Q : wQ} {L : List (Option Value)} {st : List Value} {w : aw} {cn sn : Nat} {a : Nat} : wp d 113 Q 60 L (.ref a :: st) w cn sn = (kd w a = 9 ∧ wp d 113 Q 63 L (fd w 530 a :: st) w cn sn) := w_getfield d_113_60 (by decide +kernel : fT (mO 113) 36 = some (8, 18))
theorem d_113_63 : decode (mB 113) 63 = .ok (.iload_n 1, 1) := by decide +kernel
theorem s_113_63 {d : Nat} {Q : wQ} {L : List (Option Value)} {st : List Value} {w : aw} {cn sn : Nat} {a0 : Option Value} {v : Int32} : wp d 113 Q 63 (a0 :: some (.int v) :: L) st w cn sn = wp d 113 Q 64 (a0 :: some (.int v) :: L) (.int v :: st) w cn sn := w_iload_n d_113_63 rfl
theorem d_113_64 : decode (mB 113) 64 = .ok (.iconst 1, 1) := by decide +kernel
theorem s_113_64 {d : Nat} {Q : wQ} {L : List (Option Value)} {st : List Value} {w : aw} {cn sn : Nat}  : wp d 113 Q 64 L st w cn sn = wp d 113 Q 65 L (.int 1 :: st) w cn sn := w_iconst d_113_64 (by decide)
theorem d_113_65 : decode (mB 113) 65 = .ok (.aload_n 0, 1) := by decide +kernel
theorem s_113_65 {d : Nat} {Q : wQ} {L : List (Option Value)} {st : List Value} {w : aw} {cn sn : Nat} {v : Nat} : wp d 113 Q 65 (some (.ref v) :: L) st w cn sn = wp d 113 Q 66 (some (.ref v) :: L) (.ref v :: st) w cn sn := w_aload_n d_113_65 rfl
theorem d_113_66 : decode (mB 113) 66 = .ok (.getfield 36, 3) := by decide +kernel
theorem s_113_66 {d : Nat} {Q : wQ} {L : List (Option Value)} {st : List Value} {w : aw} {cn sn : Nat} {a : Nat} : wp d 113 Q 66 L (.ref a :: st) w cn sn = (kd w a = 9 ∧ wp d 113 Q 69 L (fd w 530 a :: st) w cn sn) := w_getfield d_113_66 (by decide +kernel : fT (mO 113) 36 = some (8, 18))
theorem d_113_69 : decode (mB 113) 69 = .ok (.iload_n 1, 1) := by decide +kernel
theorem s_113_69 {d : Nat} {Q : wQ} {L : List (Option Value)} {st : List Value} {w : aw} {cn sn : Nat} {a0 : Option Value} {v : Int32} : wp d 113 Q 69 (a0 :: some (.int v) :: L) st w cn sn = wp d 113 Q 70 (a0 :: some (.int v) :: L) (.int v :: st) w cn sn := w_iload_n d_113_69 rfl
theorem d_113_70 : decode (mB 113) 70 = .ok (.iaload, 1) := by decide +kernel
theorem s_113_70 {d : Nat} {Q : wQ} {L : List (Option Value)} {st : List Value} {w : aw} {cn sn : Nat} {a : Nat} {i : Int32} : wp d 113 Q 70 L (.int i :: .ref a :: st) w cn sn = ((kd w a = 20 ∨ kd w a = 30) ∧ inR i (ln w a) ∧ wp d 113 Q 71 L (.int (ai w a i.toNatClampNeg) :: st) w cn sn) := wp_row d_113_70 _ _ _ _ _
theorem d_113_71 : decode (mB 113) 71 = .ok (.isub, 1) := by decide +kernel
theorem s_113_71 {d : Nat} {Q : wQ} {L : List (Option Value)} {st : List Value} {w : aw} {cn sn : Nat} {a b : Int32} : wp d 113 Q 71 L (.int b :: .int a :: st) w cn sn = wp d 113 Q 72 L (.int (a - b) :: st) w cn sn := wp_row d_113_71 _ _ _ _ _
theorem d_113_72 : decode (mB 113) 72 = .ok (.iastore, 1) := by decide +kernel
theorem s_113_72 {d : Nat} {Q : wQ} {L : List (Option Value)} {st : List Value} {w : aw} {cn sn : Nat} {a : Nat} {i x : Int32} : wp d 113 Q 72 L (.int x :: .int i :: .ref a :: st) w cn sn = (kd w a = 20 ∧ inR i (ln w a) ∧ wp d 113 Q 73 L st (uA w a i.toNatClampNeg x) cn sn) := wp_row d_113_72 _ _ _ _ _
theorem d_113_73 : decode (mB 113) 73 = .ok (.iload_n 2, 1) := by decide +kernel
theorem s_113_73 {d : Nat} {Q : wQ} {L : List (Option Value)} {st : List Value} {w : aw} {cn sn : Nat} {a0 a1 : Option Value} {v : Int32} : wp d 113 Q 73 (a0 :: a1 :: some (.int v) :: L) st w cn sn = wp d 113 Q 74 (a0 :: a1 :: some (.int v) :: L) (.int v :: st) w cn sn := w_iload_n d_113_73 rfl
theorem d_113_74 : decode (mB 113) 74 = .ok (.iconst 1, 1) := by decide +kernel
theorem s_113_74 {d : Nat} {Q : wQ} {L : List (Option Value)} {st : List Value} {w : aw} {cn sn : Nat}  : wp d 113 Q 74 L st w cn sn = wp d 113 Q 75 L (.int 1 :: st) w cn sn := w_iconst d_113_74 (by decide)
theorem d_113_75 : decode (mB 113) 75 = .ok (.iand, 1) := by decide +kernel
theorem s_113_75 {d : Nat} {Q : wQ} {L : List (Option Value)} {st : List Value} {w : aw} {cn sn : Nat} {a b : Int32} : wp d 113 Q 75 L (.int b :: .int a :: st) w cn sn = wp d 113 Q 76 L (.int (a &&& b) :: st) w cn sn := wp_row d_113_75 _ _ _ _ _
theorem d_113_76 : decode (mB 113) 76 = .ok (.ifCond .le 16, 3) := by decide +kernel
theorem s_113_76 {d : Nat} {Q : wQ} {L : List (Option Value)} {st : List Value} {w : aw} {cn sn : Nat} {x : Int32} : wp d 113 Q 76 L (.int x :: st) w cn sn = ((x ≤ 0 → wp d 113 Q 92 L st w cn sn) ∧ (¬ x ≤ 0 → wp d 113 Q 79 L st w cn sn)) := w_ifle d_113_76 (by decide)
theorem d_113_79 : decode (mB 113) 79 = .ok (.aload_n 0, 1) := by decide +kernel
theorem s_113_79 {d : Nat} {Q : wQ} {L : List (Option Value)} {st : List Value} {w : aw} {cn sn : Nat} {v : Nat} : wp d 113 Q 79 (some (.ref v) :: L) st w cn sn = wp d 113 Q 80 (some (.ref v) :: L) (.ref v :: st) w cn sn := w_aload_n d_113_79 rfl
theorem d_113_80 : decode (mB 113) 80 = .ok (.iload_n 1, 1) := by decide +kernel
theorem s_113_80 {d : Nat} {Q : wQ} {L : List (Option Value)} {st : List Value} {w : aw} {cn sn : Nat} {a0 : Option Value} {v : Int32} : wp d 113 Q 80 (a0 :: some (.int v) :: L) st w cn sn = wp d 113 Q 81 (a0 :: some (.int v) :: L) (.int v :: st) w cn sn := w_iload_n d_113_80 rfl
theorem d_113_81 : decode (mB 113) 81 = .ok (.aload_n 0, 1) := by decide +kernel
theorem s_113_81 {d : Nat} {Q : wQ} {L : List (Option Value)} {st : List Value} {w : aw} {cn sn : Nat} {v : Nat} : wp d 113 Q 81 (some (.ref v) :: L) st w cn sn = wp d 113 Q 82 (some (.ref v) :: L) (.ref v :: st) w cn sn := w_aload_n d_113_81 rfl
theorem d_113_82 : decode (mB 113) 82 = .ok (.getfield 30, 3) := by decide +kernel
theorem s_113_82 {d : Nat} {Q : wQ} {L : List (Option Value)} {st : List Value} {w : aw} {cn sn : Nat} {a : Nat} : wp d 113 Q 82 L (.ref a :: st) w cn sn = (kd w a = 9 ∧ wp d 113 Q 85 L (fd w 528 a :: st) w cn sn) := w_getfield d_113_82 (by decide +kernel : fT (mO 113) 30 = some (8, 16))
theorem d_113_85 : decode (mB 113) 85 = .ok (.iload_n 1, 1) := by decide +kernel
theorem s_113_85 {d : Nat} {Q : wQ} {L : List (Option Value)} {st : List Value} {w : aw} {cn sn : Nat} {a0 : Option Value} {v : Int32} : wp d 113 Q 85 (a0 :: some (.int v) :: L) st w cn sn = wp d 113 Q 86 (a0 :: some (.int v) :: L) (.int v :: st) w cn sn := w_iload_n d_113_85 rfl
theorem d_113_86 : decode (mB 113) 86 = .ok (.iaload, 1) := by decide +kernel
theorem s_113_86 {d : Nat} {Q : wQ} {L : List (Option Value)} {st : List Value} {w : aw} {cn sn : Nat} {a : Nat} {i : Int32} : wp d 113 Q 86 L (.int i :: .ref a :: st) w cn sn = ((kd w a = 20 ∨ kd w a = 30) ∧ inR i (ln w a) ∧ wp d 113 Q 87 L (.int (ai w a i.toNatClampNeg) :: st) w cn sn) := wp_row d_113_86 _ _ _ _ _
theorem d_113_87 : decode (mB 113) 87 = .ok (.iconst 1, 1) := by decide +kernel
theorem s_113_87 {d : Nat} {Q : wQ} {L : List (Option Value)} {st : List Value} {w : aw} {cn sn : Nat}  : wp d 113 Q 87 L st w cn sn = wp d 113 Q 88 L (.int 1 :: st) w cn sn := w_iconst d_113_87 (by decide)
theorem d_113_88 : decode (mB 113) 88 = .ok (.iadd, 1) := by decide +kernel
theorem s_113_88 {d : Nat} {Q : wQ} {L : List (Option Value)} {st : List Value} {w : aw} {cn sn : Nat} {a b : Int32} : wp d 113 Q 88 L (.int b :: .int a :: st) w cn sn = wp d 113 Q 89 L (.int (a + b) :: st) w cn sn := wp_row d_113_88 _ _ _ _ _
theorem d_113_89 : decode (mB 113) 89 = .ok (.invokevirtual 136, 3) := by decide +kernel
theorem s_113_89 {d : Nat} {Q : wQ} {L : List (Option Value)} {st : List Value} {w : aw} {cn sn : Nat} {v0 v1 : Value} {b : Nat} : wp d 113 Q 89 L (v1 :: v0 :: .ref b :: st) w cn sn = (kd w b = 9 ∧ catS st ≤ 8 ∧ wpD d 109 [.ref b, v0, v1] w (fun v w' => wp d 113 Q 92 L (v.toList ++ st) w' cn sn)) := w_virtual (As := [v0, v1]) d_113_89 (by decide +kernel : cT (mO 113) 136 = some (0, 109)) rfl (by decide +kernel) rfl (by decide +kernel) rfl
theorem d_113_92 : decode (mB 113) 92 = .ok (.iload_n 2, 1) := by decide +kernel
theorem s_113_92 {d : Nat} {Q : wQ} {L : List (Option Value)} {st : List Value} {w : aw} {cn sn : Nat} {a0 a1 : Option Value} {v : Int32} : wp d 113 Q 92 (a0 :: a1 :: some (.int v) :: L) st w cn sn = wp d 113 Q 93 (a0 :: a1 :: some (.int v) :: L) (.int v :: st) w cn sn := w_iload_n d_113_92 rfl
theorem d_113_93 : decode (mB 113) 93 = .ok (.bipush 8, 2) := by decide +kernel
theorem s_113_93 {d : Nat} {Q : wQ} {L : List (Option Value)} {st : List Value} {w : aw} {cn sn : Nat}  : wp d 113 Q 93 L st w cn sn = wp d 113 Q 95 L (.int 8 :: st) w cn sn := w_bipush d_113_93 (by decide)
theorem d_113_95 : decode (mB 113) 95 = .ok (.iand, 1) := by decide +kernel
theorem s_113_95 {d : Nat} {Q : wQ} {L : List (Option Value)} {st : List Value} {w : aw} {cn sn : Nat} {a b : Int32} : wp d 113 Q 95 L (.int b :: .int a :: st) w cn sn = wp d 113 Q 96 L (.int (a &&& b) :: st) w cn sn := wp_row d_113_95 _ _ _ _ _
theorem d_113_96 : decode (mB 113) 96 = .ok (.ifCond .le 7, 3) := by decide +kernel
theorem s_113_96 {d : Nat} {Q : wQ} {L : List (Option Value)} {st : List Value} {w : aw} {cn sn : Nat} {x : Int32} : wp d 113 Q 96 L (.int x :: st) w cn sn = ((x ≤ 0 → wp d 113 Q 103 L st w cn sn) ∧ (¬ x ≤ 0 → wp d 113 Q 99 L st w cn sn)) := w_ifle d_113_96 (by decide)
theorem d_113_99 : decode (mB 113) 99 = .ok (.iconst 1, 1) := by decide +kernel
theorem s_113_99 {d : Nat} {Q : wQ} {L : List (Option Value)} {st : List Value} {w : aw} {cn sn : Nat}  : wp d 113 Q 99 L st w cn sn = wp d 113 Q 100 L (.int 1 :: st) w cn sn := w_iconst d_113_99 (by decide)
theorem d_113_100 : decode (mB 113) 100 = .ok (.goto 4, 3) := by decide +kernel
theorem s_113_100 {d : Nat} {Q : wQ} {L : List (Option Value)} {st : List Value} {w : aw} {cn sn : Nat}  : wp d 113 Q 100 L st w cn sn = wp d 113 Q 104 L st w cn sn := w_goto d_113_100 (by decide)
theorem d_113_103 : decode (mB 113) 103 = .ok (.iconst 0, 1) := by decide +kernel
theorem s_113_103 {d : Nat} {Q : wQ} {L : List (Option Value)} {st : List Value} {w : aw} {cn sn : Nat}  : wp d 113 Q 103 L st w cn sn = wp d 113 Q 104 L (.int 0 :: st) w cn sn := w_iconst d_113_103 (by decide)
theorem d_113_104 : decode (mB 113) 104 = .ok (.istore_n 3, 1) := by decide +kernel
theorem s_113_104 {d : Nat} {Q : wQ} {L : List (Option Value)} {st : List Value} {w : aw} {cn sn : Nat} {a0 a1 a2 a3 : Option Value} {v : Int32} : wp d 113 Q 104 (a0 :: a1 :: a2 :: a3 :: L) (.int v :: st) w cn sn = wp d 113 Q 105 (a0 :: a1 :: clr a2 :: some (.int v) :: L) st w cn sn := w_istore_n d_113_104 (Nat.le_add_left 4 _) rfl
theorem d_113_105 : decode (mB 113) 105 = .ok (.iload_n 2, 1) := by decide +kernel
theorem s_113_105 {d : Nat} {Q : wQ} {L : List (Option Value)} {st : List Value} {w : aw} {cn sn : Nat} {a0 a1 : Option Value} {v : Int32} : wp d 113 Q 105 (a0 :: a1 :: some (.int v) :: L) st w cn sn = wp d 113 Q 106 (a0 :: a1 :: some (.int v) :: L) (.int v :: st) w cn sn := w_iload_n d_113_105 rfl
theorem d_113_106 : decode (mB 113) 106 = .ok (.iconst 4, 1) := by decide +kernel
theorem s_113_106 {d : Nat} {Q : wQ} {L : List (Option Value)} {st : List Value} {w : aw} {cn sn : Nat}  : wp d 113 Q 106 L st w cn sn = wp d 113 Q 107 L (.int 4 :: st) w cn sn := w_iconst d_113_106 (by decide)
theorem d_113_107 : decode (mB 113) 107 = .ok (.iand, 1) := by decide +kernel
theorem s_113_107 {d : Nat} {Q : wQ} {L : List (Option Value)} {st : List Value} {w : aw} {cn sn : Nat} {a b : Int32} : wp d 113 Q 107 L (.int b :: .int a :: st) w cn sn = wp d 113 Q 108 L (.int (a &&& b) :: st) w cn sn := wp_row d_113_107 _ _ _ _ _
theorem d_113_108 : decode (mB 113) 108 = .ok (.ifCond .le 7, 3) := by decide +kernel
theorem s_113_108 {d : Nat} {Q : wQ} {L : List (Option Value)} {st : List Value} {w : aw} {cn sn : Nat} {x : Int32} : wp d 113 Q 108 L (.int x :: st) w cn sn = ((x ≤ 0 → wp d 113 Q 115 L st w cn sn) ∧ (¬ x ≤ 0 → wp d 113 Q 111 L st w cn sn)) := w_ifle d_113_108 (by decide)
theorem d_113_111 : decode (mB 113) 111 = .ok (.iconst 1, 1) := by decide +kernel
theorem s_113_111 {d : Nat} {Q : wQ} {L : List (Option Value)} {st : List Value} {w : aw} {cn sn : Nat}  : wp d 113 Q 111 L st w cn sn = wp d 113 Q 112 L (.int 1 :: st) w cn sn := w_iconst d_113_111 (by decide)
theorem d_113_112 : decode (mB 113) 112 = .ok (.goto 4, 3) := by decide +kernel
theorem s_113_112 {d : Nat} {Q : wQ} {L : List (Option Value)} {st : List Value} {w : aw} {cn sn : Nat}  : wp d 113 Q 112 L st w cn sn = wp d 113 Q 116 L st w cn sn := w_goto d_113_112 (by decide)
theorem d_113_115 : decode (mB 113) 115 = .ok (.iconst 0, 1) := by decide +kernel
theorem s_113_115 {d : Nat} {Q : wQ} {L : List (Option Value)} {st : List Value} {w : aw} {cn sn : Nat}  : wp d 113 Q 115 L st w cn sn = wp d 113 Q 116 L (.int 0 :: st) w cn sn := w_iconst d_113_115 (by decide)
theorem d_113_116 : decode (mB 113) 116 = .ok (.istore 4, 2) := by decide +kernel
theorem s_113_116 {d : Nat} {Q : wQ} {L : List (Option Value)} {st : List Value} {w : aw} {cn sn : Nat} {a0 a1 a2 a3 a4 : Option Value} {v : Int32} : wp d 113 Q 116 (a0 :: a1 :: a2 :: a3 :: a4 :: L) (.int v :: st) w cn sn = wp d 113 Q 118 (a0 :: a1 :: a2 :: clr a3 :: some (.int v) :: L) st w cn sn := w_istore d_113_116 (Nat.le_add_left 5 _) rfl
theorem d_113_118 : decode (mB 113) 118 = .ok (.iconst 0, 1) := by decide +kernel
theorem s_113_118 {d : Nat} {Q : wQ} {L : List (Option Value)} {st : List Value} {w : aw} {cn sn : Nat}  : wp d 113 Q 118 L st w cn sn = wp d 113 Q 119 L (.int 0 :: st) w cn sn := w_iconst d_113_118 (by decide)
theorem d_113_119 : decode (mB 113) 119 = .ok (.istore 5, 2) := by decide +kernel
theorem s_113_119 {d : Nat} {Q : wQ} {L : List (Option Value)} {st : List Value} {w : aw} {cn sn : Nat} {a0 a1 a2 a3 a4 a5 : Option Value} {v : Int32} : wp d 113 Q 119 (a0 :: a1 :: a2 :: a3 :: a4 :: a5 :: L) (.int v :: st) w cn sn = wp d 113 Q 121 (a0 :: a1 :: a2 :: a3 :: clr a4 :: some (.int v) :: L) st w cn sn := w_istore d_113_119 (Nat.le_add_left 6 _) rfl
theorem d_113_121 : decode (mB 113) 121 = .ok (.iload 5, 2) := by decide +kernel
theorem s_113_121 {d : Nat} {Q : wQ} {L : List (Option Value)} {st : List Value} {w : aw} {cn sn : Nat} {a0 a1 a2 a3 a4 : Option Value} {v : Int32} : wp d 113 Q 121 (a0 :: a1 :: a2 :: a3 :: a4 :: some (.int v) :: L) st w cn sn = wp d 113 Q 123 (a0 :: a1 :: a2 :: a3 :: a4 :: some (.int v) :: L) (.int v :: st) w cn sn := w_iload d_113_121 rfl
theorem d_113_123 : decode (mB 113) 123 = .ok (.iload_n 2, 1) := by decide +kernel
theorem s_113_123 {d : Nat} {Q : wQ} {L : List (Option Value)} {st : List Value} {w : aw} {cn sn : Nat} {a0 a1 : Option Value} {v : Int32} : wp d 113 Q 123 (a0 :: a1 :: some (.int v) :: L) st w cn sn = wp d 113 Q 124 (a0 :: a1 :: some (.int v) :: L) (.int v :: st) w cn sn := w_iload_n d_113_123 rfl
theorem d_113_124 : decode (mB 113) 124 = .ok (.iconst 2, 1) := by decide +kernel
theorem s_113_124 {d : Nat} {Q : wQ} {L : List (Option Value)} {st : List Value} {w : aw} {cn sn : Nat}  : wp d 113 Q 124 L st w cn sn = wp d 113 Q 125 L (.int 2 :: st) w cn sn := w_iconst d_113_124 (by decide)
theorem d_113_125 : decode (mB 113) 125 = .ok (.iand, 1) := by decide +kernel
theorem s_113_125 {d : Nat} {Q : wQ} {L : List (Option Value)} {st : List Value} {w : aw} {cn sn : Nat} {a b : Int32} : wp d 113 Q 125 L (.int b :: .int a :: st) w cn sn = wp d 113 Q 126 L (.int (a &&& b) :: st) w cn sn := wp_row d_113_125 _ _ _ _ _
theorem d_113_126 : decode (mB 113) 126 = .ok (.ifCond .le 7, 3) := by decide +kernel
theorem s_113_126 {d : Nat} {Q : wQ} {L : List (Option Value)} {st : List Value} {w : aw} {cn sn : Nat} {x : Int32} : wp d 113 Q 126 L (.int x :: st) w cn sn = ((x ≤ 0 → wp d 113 Q 133 L st w cn sn) ∧ (¬ x ≤ 0 → wp d 113 Q 129 L st w cn sn)) := w_ifle d_113_126 (by decide)
theorem d_113_129 : decode (mB 113) 129 = .ok (.iconst 2, 1) := by decide +kernel
theorem s_113_129 {d : Nat} {Q : wQ} {L : List (Option Value)} {st : List Value} {w : aw} {cn sn : Nat}  : wp d 113 Q 129 L st w cn sn = wp d 113 Q 130 L (.int 2 :: st) w cn sn := w_iconst d_113_129 (by decide)
theorem d_113_130 : decode (mB 113) 130 = .ok (.goto 4, 3) := by decide +kernel
theorem s_113_130 {d : Nat} {Q : wQ} {L : List (Option Value)} {st : List Value} {w : aw} {cn sn : Nat}  : wp d 113 Q 130 L st w cn sn = wp d 113 Q 134 L st w cn sn := w_goto d_113_130 (by decide)
theorem d_113_133 : decode (mB 113) 133 = .ok (.iconst 1, 1) := by decide +kernel
theorem s_113_133 {d : Nat} {Q : wQ} {L : List (Option Value)} {st : List Value} {w : aw} {cn sn : Nat}  : wp d 113 Q 133 L st w cn sn = wp d 113 Q 134 L (.int 1 :: st) w cn sn := w_iconst d_113_133 (by decide)
theorem d_113_134 : decode (mB 113) 134 = .ok (.if_icmp .ge 95, 3) := by decide +kernel
theorem s_113_134 {d : Nat} {Q : wQ} {L : List (Option Value)} {st : List Value} {w : aw} {cn sn : Nat} {a b : Int32} : wp d 113 Q 134 L (.int b :: .int a :: st) w cn sn = ((b ≤ a → wp d 113 Q 229 L st w cn sn) ∧ (¬ b ≤ a → wp d 113 Q 137 L st w cn sn)) := w_icge d_113_134 (by decide)
theorem d_113_137 : decode (mB 113) 137 = .ok (.iload_n 3, 1) := by decide +kernel
theorem s_113_137 {d : Nat} {Q : wQ} {L : List (Option Value)} {st : List Value} {w : aw} {cn sn : Nat} {a0 a1 a2 : Option Value} {v : Int32} : wp d 113 Q 137 (a0 :: a1 :: a2 :: some (.int v) :: L) st w cn sn = wp d 113 Q 138 (a0 :: a1 :: a2 :: some (.int v) :: L) (.int v :: st) w cn sn := w_iload_n d_113_137 rfl
theorem d_113_138 : decode (mB 113) 138 = .ok (.iload 4, 2) := by decide +kernel
theorem s_113_138 {d : Nat} {Q : wQ} {L : List (Option Value)} {st : List Value} {w : aw} {cn sn : Nat} {a0 a1 a2 a3 : Option Value} {v : Int32} : wp d 113 Q 138 (a0 :: a1 :: a2 :: a3 :: some (.int v) :: L) st w cn sn = wp d 113 Q 140 (a0 :: a1 :: a2 :: a3 :: some (.int v) :: L) (.int v :: st) w cn sn := w_iload d_113_138 rfl
theorem d_113_140 : decode (mB 113) 140 = .ok (.if_icmp .eq 89, 3) := by decide +kernel
theorem s_113_140 {d : Nat} {Q : wQ} {L : List (Option Value)} {st : List Value} {w : aw} {cn sn : Nat} {a b : Int32} : wp d 113 Q 140 L (.int b :: .int a :: st) w cn sn = ((a = b → wp d 113 Q 229 L st w cn sn) ∧ (¬ a = b → wp d 113 Q 143 L st w cn sn)) := w_iceq d_113_140 (by decide)
theorem d_113_143 : decode (mB 113) 143 = .ok (.aload_n 0, 1) := by decide +kernel
theorem s_113_143 {d : Nat} {Q : wQ} {L : List (Option Value)} {st : List Value} {w : aw} {cn sn : Nat} {v : Nat} : wp d 113 Q 143 (some (.ref v) :: L) st w cn sn = wp d 113 Q 144 (some (.ref v) :: L) (.ref v :: st) w cn sn := w_aload_n d_113_143 rfl
theorem d_113_144 : decode (mB 113) 144 = .ok (.getfield 36, 3) := by decide +kernel
theorem s_113_144 {d : Nat} {Q : wQ} {L : List (Option Value)} {st : List Value} {w : aw} {cn sn : Nat} {a : Nat} : wp d 113 Q 144 L (.ref a :: st) w cn sn = (kd w a = 9 ∧ wp d 113 Q 147 L (fd w 530 a :: st) w cn sn) := w_getfield d_113_144 (by decide +kernel : fT (mO 113) 36 = some (8, 18))
theorem d_113_147 : decode (mB 113) 147 = .ok (.iload_n 1, 1) := by decide +kernel
theorem s_113_147 {d : Nat} {Q : wQ} {L : List (Option Value)} {st : List Value} {w : aw} {cn sn : Nat} {a0 : Option Value} {v : Int32} : wp d 113 Q 147 (a0 :: some (.int v) :: L) st w cn sn = wp d 113 Q 148 (a0 :: some (.int v) :: L) (.int v :: st) w cn sn := w_iload_n d_113_147 rfl
theorem d_113_148 : decode (mB 113) 148 = .ok (.iaload, 1) := by decide +kernel
theorem s_113_148 {d : Nat} {Q : wQ} {L : List (Option Value)} {st : List Value} {w : aw} {cn sn : Nat} {a : Nat} {i : Int32} : wp d 113 Q 148 L (.int i :: .ref a :: st) w cn sn = ((kd w a = 20 ∨ kd w a = 30) ∧ inR i (ln w a) ∧ wp d 113 Q 149 L (.int (ai w a i.toNatClampNeg) :: st) w cn sn) := wp_row d_113_148 _ _ _ _ _
theorem d_113_149 : decode (mB 113) 149 = .ok (.sipush 4096, 3) := by decide +kernel
theorem s_113_149 {d : Nat} {Q : wQ} {L : List (Option Value)} {st : List Value} {w : aw} {cn sn : Nat}  : wp d 113 Q 149 L st w cn sn = wp d 113 Q 152 L (.int 4096 :: st) w cn sn := w_sipush d_113_149 (by decide)
theorem d_113_152 : decode (mB 113) 152 = .ok (.imul, 1) := by decide +kernel
theorem s_113_152 {d : Nat} {Q : wQ} {L : List (Option Value)} {st : List Value} {w : aw} {cn sn : Nat} {a b : Int32} : wp d 113 Q 152 L (.int b :: .int a :: st) w cn sn = wp d 113 Q 153 L (.int (a * b) :: st) w cn sn := wp_row d_113_152 _ _ _ _ _
theorem d_113_153 : decode (mB 113) 153 = .ok (.aload_n 0, 1) := by decide +kernel
theorem s_113_153 {d : Nat} {Q : wQ} {L : List (Option Value)} {st : List Value} {w : aw} {cn sn : Nat} {v : Nat} : wp d 113 Q 153 (some (.ref v) :: L) st w cn sn = wp d 113 Q 154 (some (.ref v) :: L) (.ref v :: st) w cn sn := w_aload_n d_113_153 rfl
theorem d_113_154 : decode (mB 113) 154 = .ok (.getfield 30, 3) := by decide +kernel
theorem s_113_154 {d : Nat} {Q : wQ} {L : List (Option Value)} {st : List Value} {w : aw} {cn sn : Nat} {a : Nat} : wp d 113 Q 154 L (.ref a :: st) w cn sn = (kd w a = 9 ∧ wp d 113 Q 157 L (fd w 528 a :: st) w cn sn) := w_getfield d_113_154 (by decide +kernel : fT (mO 113) 30 = some (8, 16))
theorem d_113_157 : decode (mB 113) 157 = .ok (.iload_n 1, 1) := by decide +kernel
theorem s_113_157 {d : Nat} {Q : wQ} {L : List (Option Value)} {st : List Value} {w : aw} {cn sn : Nat} {a0 : Option Value} {v : Int32} : wp d 113 Q 157 (a0 :: some (.int v) :: L) st w cn sn = wp d 113 Q 158 (a0 :: some (.int v) :: L) (.int v :: st) w cn sn := w_iload_n d_113_157 rfl
theorem d_113_158 : decode (mB 113) 158 = .ok (.iaload, 1) := by decide +kernel
theorem s_113_158 {d : Nat} {Q : wQ} {L : List (Option Value)} {st : List Value} {w : aw} {cn sn : Nat} {a : Nat} {i : Int32} : wp d 113 Q 158 L (.int i :: .ref a :: st) w cn sn = ((kd w a = 20 ∨ kd w a = 30) ∧ inR i (ln w a) ∧ wp d 113 Q 159 L (.int (ai w a i.toNatClampNeg) :: st) w cn sn) := wp_row d_113_158 _ _ _ _ _
theorem d_113_159 : decode (mB 113) 159 = .ok (.iadd, 1) := by decide +kernel
theorem s_113_159 {d : Nat} {Q : wQ} {L : List (Option Value)} {st : List Value} {w : aw} {cn sn : Nat} {a b : Int32} : wp d 113 Q 159 L (.int b :: .int a :: st) w cn sn = wp d 113 Q 160 L (.int (a + b) :: st) w cn sn := wp_row d_113_159 _ _ _ _ _
theorem d_113_160 : decode (mB 113) 160 = .ok (.istore 6, 2) := by decide +kernel
theorem s_113_160 {d : Nat} {Q : wQ} {L : List (Option Value)} {st : List Value} {w : aw} {cn sn : Nat} {a0 a1 a2 a3 a4 a5 a6 : Option Value} {v : Int32} : wp d 113 Q 160 (a0 :: a1 :: a2 :: a3 :: a4 :: a5 :: a6 :: L) (.int v :: st) w cn sn = wp d 113 Q 162 (a0 :: a1 :: a2 :: a3 :: a4 :: clr a5 :: some (.int v) :: L) st w cn sn := w_istore d_113_160 (Nat.le_add_left 7 _) rfl
theorem d_113_162 : decode (mB 113) 162 = .ok (.iload_n 3, 1) := by decide +kernel
theorem s_113_162 {d : Nat} {Q : wQ} {L : List (Option Value)} {st : List Value} {w : aw} {cn sn : Nat} {a0 a1 a2 : Option Value} {v : Int32} : wp d 113 Q 162 (a0 :: a1 :: a2 :: some (.int v) :: L) st w cn sn = wp d 113 Q 163 (a0 :: a1 :: a2 :: some (.int v) :: L) (.int v :: st) w cn sn := w_iload_n d_113_162 rfl
theorem d_113_163 : decode (mB 113) 163 = .ok (.ifCond .eq 19, 3) := by decide +kernel
theorem s_113_163 {d : Nat} {Q : wQ} {L : List (Option Value)} {st : List Value} {w : aw} {cn sn : Nat} {x : Int32} : wp d 113 Q 163 L (.int x :: st) w cn sn = ((x = 0 → wp d 113 Q 182 L st w cn sn) ∧ (¬ x = 0 → wp d 113 Q 166 L st w cn sn)) := w_ifeq d_113_163 (by decide)
theorem d_113_166 : decode (mB 113) 166 = .ok (.iload 6, 2) := by decide +kernel
theorem s_113_166 {d : Nat} {Q : wQ} {L : List (Option Value)} {st : List Value} {w : aw} {cn sn : Nat} {a0 a1 a2 a3 a4 a5 : Option Value} {v : Int32} : wp d 113 Q 166 (a0 :: a1 :: a2 :: a3 :: a4 :: a5 :: some (.int v) :: L) st w cn sn = wp d 113 Q 168 (a0 :: a1 :: a2 :: a3 :: a4 :: a5 :: some (.int v) :: L) (.int v :: st) w cn sn := w_iload d_113_166 rfl
theorem d_113_168 : decode (mB 113) 168 = .ok (.iconst 2, 1) := by decide +kernel
theorem s_113_168 {d : Nat} {Q : wQ} {L : List (Option Value)} {st : List Value} {w : aw} {cn sn : Nat}  : wp d 113 Q 168 L st w cn sn = wp d 113 Q 169 L (.int 2 :: st) w cn sn := w_iconst d_113_168 (by decide)
theorem d_113_169 : decode (mB 113) 169 = .ok (.idiv, 1) := by decide +kernel
theorem s_113_169 {d : Nat} {Q : wQ} {L : List (Option Value)} {st : List Value} {w : aw} {cn sn : Nat} {a b : Int32} : wp d 113 Q 169 L (.int b :: .int a :: st) w cn sn = (¬ b = 0 ∧ wp d 113 Q 170 L (.int (a / b) :: st) w cn sn) := wp_row d_113_169 _ _ _ _ _
theorem d_113_170 : decode (mB 113) 170 = .ok (.iload 6, 2) := by decide +kernel
theorem s_113_170 {d : Nat} {Q : wQ} {L : List (Option Value)} {st : List Value} {w : aw} {cn sn : Nat} {a0 a1 a2 a3 a4 a5 : Option Value} {v : Int32} : wp d 113 Q 170 (a0 :: a1 :: a2 :: a3 :: a4 :: a5 :: some (.int v) :: L) st w cn sn = wp d 113 Q 172 (a0 :: a1 :: a2 :: a3 :: a4 :: a5 :: some (.int v) :: L) (.int v :: st) w cn sn := w_iload d_113_170 rfl
theorem d_113_172 : decode (mB 113) 172 = .ok (.iconst 2, 1) := by decide +kernel
theorem s_113_172 {d : Nat} {Q : wQ} {L : List (Option Value)} {st : List Value} {w : aw} {cn sn : Nat}  : wp d 113 Q 172 L st w cn sn = wp d 113 Q 173 L (.int 2 :: st) w cn sn := w_iconst d_113_172 (by decide)
theorem d_113_173 : decode (mB 113) 173 = .ok (.irem, 1) := by decide +kernel
theorem s_113_173 {d : Nat} {Q : wQ} {L : List (Option Value)} {st : List Value} {w : aw} {cn sn : Nat} {a b : Int32} : wp d 113 Q 173 L (.int b :: .int a :: st) w cn sn = (¬ b = 0 ∧ wp d 113 Q 174 L (.int (a - a / b * b) :: st) w cn sn) := wp_row d_113_173 _ _ _ _ _
theorem d_113_174 : decode (mB 113) 174 = .ok (.sipush 4096, 3) := by decide +kernel
theorem s_113_174 {d : Nat} {Q : wQ} {L : List (Option Value)} {st : List Value} {w : aw} {cn sn : Nat}  : wp d 113 Q 174 L st w cn sn = wp d 113 Q 177 L (.int 4096 :: st) w cn sn := w_sipush d_113_174 (by decide)
theorem d_113_177 : decode (mB 113) 177 = .ok (.imul, 1) := by decide +kernel
theorem s_113_177 {d : Nat} {Q : wQ} {L : List (Option Value)} {st : List Value} {w : aw} {cn sn : Nat} {a b : Int32} : wp d 113 Q 177 L (.int b :: .int a :: st) w cn sn = wp d 113 Q 178 L (.int (a * b) :: st) w cn sn := wp_row d_113_177 _ _ _ _ _
theorem d_113_178 : decode (mB 113) 178 = .ok (.iadd, 1) := by decide +kernel
theorem s_113_178 {d : Nat} {Q : wQ} {L : List (Option Value)} {st : List Value} {w : aw} {cn sn : Nat} {a b : Int32} : wp d 113 Q 178 L (.int b :: .int a :: st) w cn sn = wp d 113 Q 179 L (.int (a + b) :: st) w cn sn := wp_row d_113_178 _ _ _ _ _
theorem d_113_179 : decode (mB 113) 179 = .ok (.goto 18, 3) := by decide +kernel
theorem s_113_179 {d : Nat} {Q : wQ} {L : List (Option Value)} {st : List Value} {w : aw} {cn sn : Nat}  : wp d 113 Q 179 L st w cn sn = wp d 113 Q 197 L st w cn sn := w_goto d_113_179 (by decide)
theorem d_113_182 : decode (mB 113) 182 = .ok (.iload 6, 2) := by decide +kernel
theorem s_113_182 {d : Nat} {Q : wQ} {L : List (Option Value)} {st : List Value} {w : aw} {cn sn : Nat} {a0 a1 a2 a3 a4 a5 : Option Value} {v : Int32} : wp d 113 Q 182 (a0 :: a1 :: a2 :: a3 :: a4 :: a5 :: some (.int v) :: L) st w cn sn = wp d 113 Q 184 (a0 :: a1 :: a2 :: a3 :: a4 :: a5 :: some (.int v) :: L) (.int v :: st) w cn sn := w_iload d_113_182 rfl
theorem d_113_184 : decode (mB 113) 184 = .ok (.iconst 2, 1) := by decide +kernel
theorem s_113_184 {d : Nat} {Q : wQ} {L : List (Option Value)} {st : List Value} {w : aw} {cn sn : Nat}  : wp d 113 Q 184 L st w cn sn = wp d 113 Q 185 L (.int 2 :: st) w cn sn := w_iconst d_113_184 (by decide)
theorem d_113_185 : decode (mB 113) 185 = .ok (.imul, 1) := by decide +kernel
theorem s_113_185 {d : Nat} {Q : wQ} {L : List (Option Value)} {st : List Value} {w : aw} {cn sn : Nat} {a b : Int32} : wp d 113 Q 185 L (.int b :: .int a :: st) w cn sn = wp d 113 Q 186 L (.int (a * b) :: st) w cn sn := wp_row d_113_185 _ _ _ _ _
theorem d_113_186 : decode (mB 113) 186 = .ok (.sipush 8192, 3) := by decide +kernel
theorem s_113_186 {d : Nat} {Q : wQ} {L : List (Option Value)} {st : List Value} {w : aw} {cn sn : Nat}  : wp d 113 Q 186 L st w cn sn = wp d 113 Q 189 L (.int 8192 :: st) w cn sn := w_sipush d_113_186 (by decide)
theorem d_113_189 : decode (mB 113) 189 = .ok (.irem, 1) := by decide +kernel
theorem s_113_189 {d : Nat} {Q : wQ} {L : List (Option Value)} {st : List Value} {w : aw} {cn sn : Nat} {a b : Int32} : wp d 113 Q 189 L (.int b :: .int a :: st) w cn sn = (¬ b = 0 ∧ wp d 113 Q 190 L (.int (a - a / b * b) :: st) w cn sn) := wp_row d_113_189 _ _ _ _ _
theorem d_113_190 : decode (mB 113) 190 = .ok (.iload 6, 2) := by decide +kernel
theorem s_113_190 {d : Nat} {Q : wQ} {L : List (Option Value)} {st : List Value} {w : aw} {cn sn : Nat} {a0 a1 a2 a3 a4 a5 : Option Value} {v : Int32} : wp d 113 Q 190 (a0 :: a1 :: a2 :: a3 :: a4 :: a5 :: some (.int v) :: L) st w cn sn = wp d 113 Q 192 (a0 :: a1 :: a2 :: a3 :: a4 :: a5 :: some (.int v) :: L) (.int v :: st) w cn sn := w_iload d_113_190 rfl
theorem d_113_192 : decode (mB 113) 192 = .ok (.sipush 4096, 3) := by decide +kernel
theorem s_113_192 {d : Nat} {Q : wQ} {L : List (Option Value)} {st : List Value} {w : aw} {cn sn : Nat}  : wp d 113 Q 192 L st w cn sn = wp d 113 Q 195 L (.int 4096 :: st) w cn sn := w_sipush d_113_192 (by decide)
theorem d_113_195 : decode (mB 113) 195 = .ok (.idiv, 1) := by decide +kernel
theorem s_113_195 {d : Nat} {Q : wQ} {L : List (Option Value)} {st : List Value} {w : aw} {cn sn : Nat} {a b : Int32} : wp d 113 Q 195 L (.int b :: .int a :: st) w cn sn = (¬ b = 0 ∧ wp d 113 Q 196 L (.int (a / b) :: st) w cn sn) := wp_row d_113_195 _ _ _ _ _
theorem d_113_196 : decode (mB 113) 196 = .ok (.iadd, 1) := by decide +kernel
theorem s_113_196 {d : Nat} {Q : wQ} {L : List (Option Value)} {st : List Value} {w : aw} {cn sn : Nat} {a b : Int32} : wp d 113 Q 196 L (.int b :: .int a :: st) w cn sn = wp d 113 Q 197 L (.int (a + b) :: st) w cn sn := wp_row d_113_196 _ _ _ _ _
theorem d_113_197 : decode (mB 113) 197 = .ok (.istore 6, 2) := by decide +kernel
theorem s_113_197 {d : Nat} {Q : wQ} {L : List (Option Value)} {st : List Value} {w : aw} {cn sn : Nat} {a0 a1 a2 a3 a4 a5 a6 : Option Value} {v : Int32} : wp d 113 Q 197 (a0 :: a1 :: a2 :: a3 :: a4 :: a5 :: a6 :: L) (.int v :: st) w cn sn = wp d 113 Q 199 (a0 :: a1 :: a2 :: a3 :: a4 :: clr a5 :: some (.int v) :: L) st w cn sn := w_istore d_113_197 (Nat.le_add_left 7 _) rfl
theorem d_113_199 : decode (mB 113) 199 = .ok (.aload_n 0, 1) := by decide +kernel
theorem s_113_199 {d : Nat} {Q : wQ} {L : List (Option Value)} {st : List Value} {w : aw} {cn sn : Nat} {v : Nat} : wp d 113 Q 199 (some (.ref v) :: L) st w cn sn = wp d 113 Q 200 (some (.ref v) :: L) (.ref v :: st) w cn sn := w_aload_n d_113_199 rfl
theorem d_113_200 : decode (mB 113) 200 = .ok (.getfield 36, 3) := by decide +kernel
theorem s_113_200 {d : Nat} {Q : wQ} {L : List (Option Value)} {st : List Value} {w : aw} {cn sn : Nat} {a : Nat} : wp d 113 Q 200 L (.ref a :: st) w cn sn = (kd w a = 9 ∧ wp d 113 Q 203 L (fd w 530 a :: st) w cn sn) := w_getfield d_113_200 (by decide +kernel : fT (mO 113) 36 = some (8, 18))
theorem d_113_203 : decode (mB 113) 203 = .ok (.iload_n 1, 1) := by decide +kernel
theorem s_113_203 {d : Nat} {Q : wQ} {L : List (Option Value)} {st : List Value} {w : aw} {cn sn : Nat} {a0 : Option Value} {v : Int32} : wp d 113 Q 203 (a0 :: some (.int v) :: L) st w cn sn = wp d 113 Q 204 (a0 :: some (.int v) :: L) (.int v :: st) w cn sn := w_iload_n d_113_203 rfl
theorem d_113_204 : decode (mB 113) 204 = .ok (.iload 6, 2) := by decide +kernel
theorem s_113_204 {d : Nat} {Q : wQ} {L : List (Option Value)} {st : List Value} {w : aw} {cn sn : Nat} {a0 a1 a2 a3 a4 a5 : Option Value} {v : Int32} : wp d 113 Q 204 (a0 :: a1 :: a2 :: a3 :: a4 :: a5 :: some (.int v) :: L) st w cn sn = wp d 113 Q 206 (a0 :: a1 :: a2 :: a3 :: a4 :: a5 :: some (.int v) :: L) (.int v :: st) w cn sn := w_iload d_113_204 rfl
theorem d_113_206 : decode (mB 113) 206 = .ok (.sipush 4096, 3) := by decide +kernel
theorem s_113_206 {d : Nat} {Q : wQ} {L : List (Option Value)} {st : List Value} {w : aw} {cn sn : Nat}  : wp d 113 Q 206 L st w cn sn = wp d 113 Q 209 L (.int 4096 :: st) w cn sn := w_sipush d_113_206 (by decide)
theorem d_113_209 : decode (mB 113) 209 = .ok (.idiv, 1) := by decide +kernel
theorem s_113_209 {d : Nat} {Q : wQ} {L : List (Option Value)} {st : List Value} {w : aw} {cn sn : Nat} {a b : Int32} : wp d 113 Q 209 L (.int b :: .int a :: st) w cn sn = (¬ b = 0 ∧ wp d 113 Q 210 L (.int (a / b) :: st) w cn sn) := wp_row d_113_209 _ _ _ _ _
theorem d_113_210 : decode (mB 113) 210 = .ok (.iastore, 1) := by decide +kernel
theorem s_113_210 {d : Nat} {Q : wQ} {L : List (Option Value)} {st : List Value} {w : aw} {cn sn : Nat} {a : Nat} {i x : Int32} : wp d 113 Q 210 L (.int x :: .int i :: .ref a :: st) w cn sn = (kd w a = 20 ∧ inR i (ln w a) ∧ wp d 113 Q 211 L st (uA w a i.toNatClampNeg x) cn sn) := wp_row d_113_210 _ _ _ _ _
theorem d_113_211 : decode (mB 113) 211 = .ok (.aload_n 0, 1) := by decide +kernel
theorem s_113_211 {d : Nat} {Q : wQ} {L : List (Option Value)} {st : List Value} {w : aw} {cn sn : Nat} {v : Nat} : wp d 113 Q 211 (some (.ref v) :: L) st w cn sn = wp d 113 Q 212 (some (.ref v) :: L) (.ref v :: st) w cn sn := w_aload_n d_113_211 rfl
theorem d_113_212 : decode (mB 113) 212 = .ok (.getfield 30, 3) := by decide +kernel
theorem s_113_212 {d : Nat} {Q : wQ} {L : List (Option Value)} {st : List Value} {w : aw} {cn sn : Nat} {a : Nat} : wp d 113 Q 212 L (.ref a :: st) w cn sn = (kd w a = 9 ∧ wp d 113 Q 215 L (fd w 528 a :: st) w cn sn) := w_getfield d_113_212 (by decide +kernel : fT (mO 113) 30 = some (8, 16))
theorem d_113_215 : decode (mB 113) 215 = .ok (.iload_n 1, 1) := by decide +kernel
theorem s_113_215 {d : Nat} {Q : wQ} {L : List (Option Value)} {st : List Value} {w : aw} {cn sn : Nat} {a0 : Option Value} {v : Int32} : wp d 113 Q 215 (a0 :: some (.int v) :: L) st w cn sn = wp d 113 Q 216 (a0 :: some (.int v) :: L) (.int v :: st) w cn sn := w_iload_n d_113_215 rfl
theorem d_113_216 : decode (mB 113) 216 = .ok (.iload 6, 2) := by decide +kernel
theorem s_113_216 {d : Nat} {Q : wQ} {L : List (Option Value)} {st : List Value} {w : aw} {cn sn : Nat} {a0 a1 a2 a3 a4 a5 : Option Value} {v : Int32} : wp d 113 Q 216 (a0 :: a1 :: a2 :: a3 :: a4 :: a5 :: some (.int v) :: L) st w cn sn = wp d 113 Q 218 (a0 :: a1 :: a2 :: a3 :: a4 :: a5 :: some (.int v) :: L) (.int v :: st) w cn sn := w_iload d_113_216 rfl
theorem d_113_218 : decode (mB 113) 218 = .ok (.sipush 4096, 3) := by decide +kernel
theorem s_113_218 {d : Nat} {Q : wQ} {L : List (Option Value)} {st : List Value} {w : aw} {cn sn : Nat}  : wp d 113 Q 218 L st w cn sn = wp d 113 Q 221 L (.int 4096 :: st) w cn sn := w_sipush d_113_218 (by decide)
theorem d_113_221 : decode (mB 113) 221 = .ok (.irem, 1) := by decide +kernel
theorem s_113_221 {d : Nat} {Q : wQ} {L : List (Option Value)} {st : List Value} {w : aw} {cn sn : Nat} {a b : Int32} : wp d 113 Q 221 L (.int b :: .int a :: st) w cn sn = (¬ b = 0 ∧ wp d 113 Q 222 L (.int (a - a / b * b) :: st) w cn sn) := wp_row d_113_221 _ _ _ _ _
theorem d_113_222 : decode (mB 113) 222 = .ok (.iastore, 1) := by decide +kernel
theorem s_113_222 {d : Nat} {Q : wQ} {L : List (Option Value)} {st : List Value} {w : aw} {cn sn : Nat} {a : Nat} {i x : Int32} : wp d 113 Q 222 L (.int x :: .int i :: .ref a :: st) w cn sn = (kd w a = 20 ∧ inR i (ln w a) ∧ wp d 113 Q 223 L st (uA w a i.toNatClampNeg x) cn sn) := wp_row d_113_222 _ _ _ _ _
theorem d_113_223 : decode (mB 113) 223 = .ok (.iinc 5 1, 3) := by decide +kernel
theorem s_113_223 {d : Nat} {Q : wQ} {L : List (Option Value)} {st : List Value} {w : aw} {cn sn : Nat} {a0 a1 a2 a3 a4 : Option Value} {v : Int32} : wp d 113 Q 223 (a0 :: a1 :: a2 :: a3 :: a4 :: some (.int v) :: L) st w cn sn = wp d 113 Q 226 (a0 :: a1 :: a2 :: a3 :: clr a4 :: some (.int (v + 1)) :: L) st w cn sn := w_iinc d_113_223 rfl (by decide) rfl
theorem d_113_226 : decode (mB 113) 226 = .ok (.goto (-105), 3) := by decide +kernel
theorem s_113_226 {d : Nat} {Q : wQ} {L : List (Option Value)} {st : List Value} {w : aw} {cn sn : Nat}  : wp d 113 Q 226 L st w cn sn = wp d 113 Q 121 L st w cn sn := w_goto d_113_226 (by decide)
theorem d_113_229 : decode (mB 113) 229 = .ok (.return_, 1) := by decide +kernel
theorem s_113_229 {d : Nat} {Q : wQ} {L : List (Option Value)} {w : aw} {cn sn : Nat}  : wp d 113 Q 229 L [] w cn sn = Q none w := w_return d_113_229 rfl
