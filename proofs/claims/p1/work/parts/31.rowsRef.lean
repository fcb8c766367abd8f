theorem d_103_0 : decode (mB 103) 0 = .ok (.iload_n 0, 1) := by decide +kernel
theorem s_103_0 {d : Nat} {Q : wQ} {L : List (Option Value)} {st : List Value} {w : aw} {cn sn : Nat} {v : Int32} : wp d 103 Q 0 (some (.int v) :: L) st w cn sn = wp d 103 Q 1 (some (.int v) :: L) (.int v :: st) w cn sn := w_iload_n d_103_0 rfl
theorem d_103_1 : decode (mB 103) 1 = .ok (.iload_n 1, 1) := by decide +kernel
theorem s_103_1 {d : Nat} {Q : wQ} {L : List (Option Value)} {st : List Value} {w : aw} {cn sn : Nat} {a0 : Option Value} {v : Int32} : wp d 103 Q 1 (a0 :: some (.int v) :: L) st w cn sn = wp d 103 Q 2 (a0 :: some (.int v) :: L) (.int v :: st) w cn sn := w_iload_n d_103_1 rfl
theorem d_103_2 : decode (mB 103) 2 = .ok (.if_icmp .lt 12, 3) := by decide +kernel
theorem s_103_2 {d : Nat} {Q : wQ} {L : List (Option Value)} {st : List Value} {w : aw} {cn sn : Nat} {a b : Int32} : wp d 103 Q 2 L (.int b :: .int a :: st) w cn sn = ((a < b → wp d 103 Q 14 L st w cn sn) ∧ (¬ a < b → wp d 103 Q 5 L st w cn sn)) := w_iclt d_103_2 (by decide)
theorem d_103_5 : decode (mB 103) 5 = .ok (.iload_n 0, 1) := by decide +kernel
theorem s_103_5 {d : Nat} {Q : wQ} {L : List (Option Value)} {st : List Value} {w : aw} {cn sn : Nat} {v : Int32} : wp d 103 Q 5 (some (.int v) :: L) st w cn sn = wp d 103 Q 6 (some (.int v) :: L) (.int v :: st) w cn sn := w_iload_n d_103_5 rfl
theorem d_103_6 : decode (mB 103) 6 = .ok (.iload_n 2, 1) := by decide +kernel
theorem s_103_6 {d : Nat} {Q : wQ} {L : List (Option Value)} {st : List Value} {w : aw} {cn sn : Nat} {a0 a1 : Option Value} {v : Int32} : wp d 103 Q 6 (a0 :: a1 :: some (.int v) :: L) st w cn sn = wp d 103 Q 7 (a0 :: a1 :: some (.int v) :: L) (.int v :: st) w cn sn := w_iload_n d_103_6 rfl
theorem d_103_7 : decode (mB 103) 7 = .ok (.if_icmp .gt 7, 3) := by decide +kernel
theorem s_103_7 {d : Nat} {Q : wQ} {L : List (Option Value)} {st : List Value} {w : aw} {cn sn : Nat} {a b : Int32} : wp d 103 Q 7 L (.int b :: .int a :: st) w cn sn = ((b < a → wp d 103 Q 14 L st w cn sn) ∧ (¬ b < a → wp d 103 Q 10 L st w cn sn)) := w_icgt d_103_7 (by decide)
theorem d_103_10 : decode (mB 103) 10 = .ok (.iconst 1, 1) := by decide +kernel
theorem s_103_10 {d : Nat} {Q : wQ} {L : List (Option Value)} {st : List Value} {w : aw} {cn sn : Nat}  : wp d 103 Q 10 L st w cn sn = wp d 103 Q 11 L (.int 1 :: st) w cn sn := w_iconst d_103_10 (by decide)
theorem d_103_11 : decode (mB 103) 11 = .ok (.goto 4, 3) := by decide +kernel
theorem s_103_11 {d : Nat} {Q : wQ} {L : List (Option Value)} {st : List Value} {w : aw} {cn sn : Nat}  : wp d 103 Q 11 L st w cn sn = wp d 103 Q 15 L st w cn sn := w_goto d_103_11 (by decide)
theorem d_103_14 : decode (mB 103) 14 = .ok (.iconst 0, 1) := by decide +kernel
theorem s_103_14 {d : Nat} {Q : wQ} {L : List (Option Value)} {st : List Value} {w : aw} {cn sn : Nat}  : wp d 103 Q 14 L st w cn sn = wp d 103 Q 15 L (.int 0 :: st) w cn sn := w_iconst d_103_14 (by decide)
theorem d_103_15 : decode (mB 103) 15 = .ok (.ireturn, 1) := by decide +kernel
theorem s_103_15 {d : Nat} {Q : wQ} {L : List (Option Value)} {w : aw} {cn sn : Nat} {v : Int32} : wp d 103 Q 15 L [.int v] w cn sn = (narrow .boolean (.int v) = .int v ∧ Q (some (.int v)) w) := w_zreturn d_103_15 rfl
theorem d_104_0 : decode (mB 104) 0 = .ok (.iload_n 1, 1) := by decide +kernel
theorem s_104_0 {d : Nat} {Q : wQ} {L : List (Option Value)} {st : List Value} {w : aw} {cn sn : Nat} {a0 : Option Value} {v : Int32} : wp d 104 Q 0 (a0 :: some (.int v) :: L) st w cn sn = wp d 104 Q 1 (a0 :: some (.int v) :: L) (.int v :: st) w cn sn := w_iload_n d_104_0 rfl
theorem d_104_1 : decode (mB 104) 1 = .ok (.iconst 0, 1) := by decide +kernel
theorem s_104_1 {d : Nat} {Q : wQ} {L : List (Option Value)} {st : List Value} {w : aw} {cn sn : Nat}  : wp d 104 Q 1 L st w cn sn = wp d 104 Q 2 L (.int 0 :: st) w cn sn := w_iconst d_104_1 (by decide)
theorem d_104_2 : decode (mB 104) 2 = .ok (.aload_n 0, 1) := by decide +kernel
theorem s_104_2 {d : Nat} {Q : wQ} {L : List (Option Value)} {st : List Value} {w : aw} {cn sn : Nat} {v : Nat} : wp d 104 Q 2 (some (.ref v) :: L) st w cn sn = wp d 104 Q 3 (some (.ref v) :: L) (.ref v :: st) w cn sn := w_aload_n d_104_2 rfl
theorem d_104_3 : decode (mB 104) 3 = .ok (.getfield 108, 3) := by decide +kernel
theorem s_104_3 {d : Nat} {Q : wQ} {L : List (Option Value)} {st : List Value} {w : aw} {cn sn : Nat} {a : Nat} : wp d 104 Q 3 L (.ref a :: st) w cn sn = (kd w a = 9 ∧ wp d 104 Q 6 L (fd w 512 a :: st) w cn sn) := w_getfield d_104_3 (by decide +kernel : fT (mO 104) 108 = some (8, 0))
theorem d_104_6 : decode (mB 104) 6 = .ok (.iconst 1, 1) := by decide +kernel
theorem s_104_6 {d : Nat} {Q : wQ} {L : List (Option Value)} {st : List Value} {w : aw} {cn sn : Nat}  : wp d 104 Q 6 L st w cn sn = wp d 104 Q 7 L (.int 1 :: st) w cn sn := w_iconst d_104_6 (by decide)
theorem d_104_7 : decode (mB 104) 7 = .ok (.isub, 1) := by decide +kernel
theorem s_104_7 {d : Nat} {Q : wQ} {L : List (Option Value)} {st : List Value} {w : aw} {cn sn : Nat} {a b : Int32} : wp d 104 Q 7 L (.int b :: .int a :: st) w cn sn = wp d 104 Q 8 L (.int (a - b) :: st) w cn sn := wp_row d_104_7 _ _ _ _ _
theorem d_104_8 : decode (mB 104) 8 = .ok (.invokestatic 111, 3) := by decide +kernel
theorem s_104_8 {d : Nat} {Q : wQ} {L : List (Option Value)} {st : List Value} {w : aw} {cn sn : Nat} {v0 v1 v2 : Value} : wp d 104 Q 8 L (v2 :: v1 :: v0 :: st) w cn sn = (catS st ≤ 8 ∧ wpD d 103 [v0, v1, v2] w (fun v w' => wp d 104 Q 11 L (v.toList ++ st) w' cn sn)) := w_static (As := [v0, v1, v2]) d_104_8 (by decide +kernel : cT (mO 104) 111 = some (2, 103)) rfl (by decide +kernel) rfl
theorem d_104_11 : decode (mB 104) 11 = .ok (.ireturn, 1) := by decide +kernel
theorem s_104_11 {d : Nat} {Q : wQ} {L : List (Option Value)} {w : aw} {cn sn : Nat} {v : Int32} : wp d 104 Q 11 L [.int v] w cn sn = (narrow .boolean (.int v) = .int v ∧ Q (some (.int v)) w) := w_zreturn d_104_11 rfl
theorem d_105_0 : decode (mB 105) 0 = .ok (.aload_n 0, 1) := by decide +kernel
theorem s_105_0 {d : Nat} {Q : wQ} {L : List (Option Value)} {st : List Value} {w : aw} {cn sn : Nat} {v : Nat} : wp d 105 Q 0 (some (.ref v) :: L) st w cn sn = wp d 105 Q 1 (some (.ref v) :: L) (.ref v :: st) w cn sn := w_aload_n d_105_0 rfl
theorem d_105_1 : decode (mB 105) 1 = .ok (.getfield 24, 3) := by decide +kernel
theorem s_105_1 {d : Nat} {Q : wQ} {L : List (Option Value)} {st : List Value} {w : aw} {cn sn : Nat} {a : Nat} : wp d 105 Q 1 L (.ref a :: st) w cn sn = (kd w a = 9 ∧ wp d 105 Q 4 L (fd w 526 a :: st) w cn sn) := w_getfield d_105_1 (by decide +kernel : fT (mO 105) 24 = some (8, 14))
theorem d_105_4 : decode (mB 105) 4 = .ok (.sipush 4096, 3) := by decide +kernel
theorem s_105_4 {d : Nat} {Q : wQ} {L : List (Option Value)} {st : List Value} {w : aw} {cn sn : Nat}  : wp d 105 Q 4 L st w cn sn = wp d 105 Q 7 L (.int 4096 :: st) w cn sn := w_sipush d_105_4 (by decide)
theorem d_105_7 : decode (mB 105) 7 = .ok (.iload_n 1, 1) := by decide +kernel
theorem s_105_7 {d : Nat} {Q : wQ} {L : List (Option Value)} {st : List Value} {w : aw} {cn sn : Nat} {a0 : Option Value} {v : Int32} : wp d 105 Q 7 (a0 :: some (.int v) :: L) st w cn sn = wp d 105 Q 8 (a0 :: some (.int v) :: L) (.int v :: st) w cn sn := w_iload_n d_105_7 rfl
theorem d_105_8 : decode (mB 105) 8 = .ok (.imul, 1) := by decide +kernel
theorem s_105_8 {d : Nat} {Q : wQ} {L : List (Option Value)} {st : List Value} {w : aw} {cn sn : Nat} {a b : Int32} : wp d 105 Q 8 L (.int b :: .int a :: st) w cn sn = wp d 105 Q 9 L (.int (a * b) :: st) w cn sn := wp_row d_105_8 _ _ _ _ _
theorem d_105_9 : decode (mB 105) 9 = .ok (.iload_n 2, 1) := by decide +kernel
theorem s_105_9 {d : Nat} {Q : wQ} {L : List (Option Value)} {st : List Value} {w : aw} {cn sn : Nat} {a0 a1 : Option Value} {v : Int32} : wp d 105 Q 9 (a0 :: a1 :: some (.int v) :: L) st w cn sn = wp d 105 Q 10 (a0 :: a1 :: some (.int v) :: L) (.int v :: st) w cn sn := w_iload_n d_105_9 rfl
theorem d_105_10 : decode (mB 105) 10 = .ok (.iadd, 1) := by decide +kernel
theorem s_105_10 {d : Nat} {Q : wQ} {L : List (Option Value)} {st : List Value} {w : aw} {cn sn : Nat} {a b : Int32} : wp d 105 Q 10 L (.int b :: .int a :: st) w cn sn = wp d 105 Q 11 L (.int (a + b) :: st) w cn sn := wp_row d_105_10 _ _ _ _ _
theorem d_105_11 : decode (mB 105) 11 = .ok (.iaload, 1) := by decide +kernel
theorem s_105_11 {d : Nat} {Q : wQ} {L : List (Option Value)} {st : List Value} {w : aw} {cn sn : Nat} {a : Nat} {i : Int32} : wp d 105 Q 11 L (.int i :: .ref a :: st) w cn sn = ((kd w a = 20 ∨ kd w a = 30) ∧ inR i (ln w a) ∧ wp d 105 Q 12 L (.int (ai w a i.toNatClampNeg) :: st) w cn sn) := wp_row d_105_11 _ _ _ _ _
theorem d_105_12 : decode (mB 105) 12 = .ok (.ireturn, 1) := by decide +kernel
theorem s_105_12 {d : Nat} {Q : wQ} {L : List (Option Value)} {w : aw} {cn sn : Nat} {v : Int32} : wp d 105 Q 12 L [.int v] w cn sn = Q (some (.int v)) w := w_ireturn d_105_12 rfl
theorem d_106_0 : decode (mB 106) 0 = .ok (.aload_n 0, 1) := by decide +kernel
theorem s_106_0 {d : Nat} {Q : wQ} {L : List (Option Value)} {st : List Value} {w : aw} {cn sn : Nat} {v : Nat} : wp d 106 Q 0 (some (.ref v) :: L) st w cn sn = wp d 106 Q 1 (some (.ref v) :: L) (.ref v :: st) w cn sn := w_aload_n d_106_0 rfl
theorem d_106_1 : decode (mB 106) 1 = .ok (.getfield 24, 3) := by decide +kernel
theorem s_106_1 {d : Nat} {Q : wQ} {L : List (Option Value)} {st : List Value} {w : aw} {cn sn : Nat} {a : Nat} : wp d 106 Q 1 L (.ref a :: st) w cn sn = (kd w a = 9 ∧ wp d 106 Q 4 L (fd w 526 a :: st) w cn sn) := w_getfield d_106_1 (by decide +kernel : fT (mO 106) 24 = some (8, 14))
theorem d_106_4 : decode (mB 106) 4 = .ok (.sipush 4096, 3) := by decide +kernel
theorem s_106_4 {d : Nat} {Q : wQ} {L : List (Option Value)} {st : List Value} {w : aw} {cn sn : Nat}  : wp d 106 Q 4 L st w cn sn = wp d 106 Q 7 L (.int 4096 :: st) w cn sn := w_sipush d_106_4 (by decide)
theorem d_106_7 : decode (mB 106) 7 = .ok (.iload_n 1, 1) := by decide +kernel
theorem s_106_7 {d : Nat} {Q : wQ} {L : List (Option Value)} {st : List Value} {w : aw} {cn sn : Nat} {a0 : Option Value} {v : Int32} : wp d 106 Q 7 (a0 :: some (.int v) :: L) st w cn sn = wp d 106 Q 8 (a0 :: some (.int v) :: L) (.int v :: st) w cn sn := w_iload_n d_106_7 rfl
theorem d_106_8 : decode (mB 106) 8 = .ok (.imul, 1) := by decide +kernel
theorem s_106_8 {d : Nat} {Q : wQ} {L : List (Option Value)} {st : List Value} {w : aw} {cn sn : Nat} {a b : Int32} : wp d 106 Q 8 L (.int b :: .int a :: st) w cn sn = wp d 106 Q 9 L (.int (a * b) :: st) w cn sn := wp_row d_106_8 _ _ _ _ _
theorem d_106_9 : decode (mB 106) 9 = .ok (.iload_n 2, 1) := by decide +kernel
theorem s_106_9 {d : Nat} {Q : wQ} {L : List (Option Value)} {st : List Value} {w : aw} {cn sn : Nat} {a0 a1 : Option Value} {v : Int32} : wp d 106 Q 9 (a0 :: a1 :: some (.int v) :: L) st w cn sn = wp d 106 Q 10 (a0 :: a1 :: some (.int v) :: L) (.int v :: st) w cn sn := w_iload_n d_106_9 rfl
theorem d_106_10 : decode (mB 106) 10 = .ok (.iadd, 1) := by decide +kernel
theorem s_106_10 {d : Nat} {Q : wQ} {L : List (Option Value)} {st : List Value} {w : aw} {cn sn : Nat} {a b : Int32} : wp d 106 Q 10 L (.int b :: .int a :: st) w cn sn = wp d 106 Q 11 L (.int (a + b) :: st) w cn sn := wp_row d_106_10 _ _ _ _ _
theorem d_106_11 : decode (mB 106) 11 = .ok (.iload_n 3, 1) := by decide +kernel
theorem s_106_11 {d : Nat} {Q : wQ} {L : List (Option Value)} {st : List Value} {w : aw} {cn sn : Nat} {a0 a1 a2 : Option Value} {v : Int32} : wp d 106 Q 11 (a0 :: a1 :: a2 :: some (.int v) :: L) st w cn sn = wp d 106 Q 12 (a0 :: a1 :: a2 :: some (.int v) :: L) (.int v :: st) w cn sn := w_iload_n d_106_11 rfl
theorem d_106_12 : decode (mB 106) 12 = .ok (.sipush 4095, 3) := by decide +kernel
theorem s_106_12 {d : Nat} {Q : wQ} {L : List (Option Value)} {st : List Value} {w : aw} {cn sn : Nat}  : wp d 106 Q 12 L st w cn sn = wp d 106 Q 15 L (.int 4095 :: st) w cn sn := w_sipush d_106_12 (by decide)
theorem d_106_15 : decode (mB 106) 15 = .ok (.iand, 1) := by decide +kernel
theorem s_106_15 {d : Nat} {Q : wQ} {L : List (Option Value)} {st : List Value} {w : aw} {cn sn : Nat} {a b : Int32} : wp d 106 Q 15 L (.int b :: .int a :: st) w cn sn = wp d 106 Q 16 L (.int (a &&& b) :: st) w cn sn := wp_row d_106_15 _ _ _ _ _
theorem d_106_16 : decode (mB 106) 16 = .ok (.iastore, 1) := by decide +kernel
theorem s_106_16 {d : Nat} {Q : wQ} {L : List (Option Value)} {st : List Value} {w : aw} {cn sn : Nat} {a : Nat} {i x : Int32} : wp d 106 Q 16 L (.int x :: .int i :: .ref a :: st) w cn sn = (kd w a = 20 ∧ inR i (ln w a) ∧ wp d 106 Q 17 L st (uA w a i.toNatClampNeg x) cn sn) := wp_row d_106_16 _ _ _ _ _
theorem d_106_17 : decode (mB 106) 17 = .ok (.return_, 1) := by decide +kernel
theorem s_106_17 {d : Nat} {Q : wQ} {L : List (Option Value)} {w : aw} {cn sn : Nat}  : wp d 106 Q 17 L [] w cn sn = Q none w := w_return d_106_17 rfl
theorem d_107_0 : decode (mB 107) 0 = .ok (.iload_n 2, 1) := by decide +kernel
theorem s_107_0 {d : Nat} {Q : wQ} {L : List (Option Value)} {st : List Value} {w : aw} {cn sn : Nat} {a0 a1 : Option Value} {v : Int32} : wp d 107 Q 0 (a0 :: a1 :: some (.int v) :: L) st w cn sn = wp d 107 Q 1 (a0 :: a1 :: some (.int v) :: L) (.int v :: st) w cn sn := w_iload_n d_107_0 rfl
theorem d_107_1 : decode (mB 107) 1 = .ok (.sipush 4095, 3) := by decide +kernel
theorem s_107_1 {d : Nat} {Q : wQ} {L : List (Option Value)} {st : List Value} {w : aw} {cn sn : Nat}  : wp d 107 Q 1 L st w cn sn = wp d 107 Q 4 L (.int 4095 :: st) w cn sn := w_sipush d_107_1 (by decide)
theorem d_107_4 : decode (mB 107) 4 = .ok (.if_icmp .le 17, 3) := by decide +kernel
theorem s_107_4 {d : Nat} {Q : wQ} {L : List (Option Value)} {st : List Value} {w : aw} {cn sn : Nat} {a b : Int32} : wp d 107 Q 4 L (.int b :: .int a :: st) w cn sn = ((a ≤ b → wp d 107 Q 21 L st w cn sn) ∧ (¬ a ≤ b → wp d 107 Q 7 L st w cn sn)) := w_icle d_107_4 (by decide)
theorem d_107_7 : decode (mB 107) 7 = .ok (.aload_n 0, 1) := by decide +kernel
theorem s_107_7 {d : Nat} {Q : wQ} {L : List (Option Value)} {st : List Value} {w : aw} {cn sn : Nat} {v : Nat} : wp d 107 Q 7 (some (.ref v) :: L) st w cn sn = wp d 107 Q 8 (some (.ref v) :: L) (.ref v :: st) w cn sn := w_aload_n d_107_7 rfl
theorem d_107_8 : decode (mB 107) 8 = .ok (.getfield 36, 3) := by decide +kernel
theorem s_107_8 {d : Nat} {Q : wQ} {L : List (Option Value)} {st : List Value} {w : aw} {cn sn : Nat} {a : Nat} : wp d 107 Q 8 L (.ref a :: st) w cn sn = (kd w a = 9 ∧ wp d 107 Q 11 L (fd w 530 a :: st) w cn sn) := w_getfield d_107_8 (by decide +kernel : fT (mO 107) 36 = some (8, 18))
theorem d_107_11 : decode (mB 107) 11 = .ok (.iload_n 1, 1) := by decide +kernel
theorem s_107_11 {d : Nat} {Q : wQ} {L : List (Option Value)} {st : List Value} {w : aw} {cn sn : Nat} {a0 : Option Value} {v : Int32} : wp d 107 Q 11 (a0 :: some (.int v) :: L) st w cn sn = wp d 107 Q 12 (a0 :: some (.int v) :: L) (.int v :: st) w cn sn := w_iload_n d_107_11 rfl
theorem d_107_12 : decode (mB 107) 12 = .ok (.iconst 1, 1) := by decide +kernel
theorem s_107_12 {d : Nat} {Q : wQ} {L : List (Option Value)} {st : List Value} {w : aw} {cn sn : Nat}  : wp d 107 Q 12 L st w cn sn = wp d 107 Q 13 L (.int 1 :: st) w cn sn := w_iconst d_107_12 (by decide)
theorem d_107_13 : decode (mB 107) 13 = .ok (.aload_n 0, 1) := by decide +kernel
theorem s_107_13 {d : Nat} {Q : wQ} {L : List (Option Value)} {st : List Value} {w : aw} {cn sn : Nat} {v : Nat} : wp d 107 Q 13 (some (.ref v) :: L) st w cn sn = wp d 107 Q 14 (some (.ref v) :: L) (.ref v :: st) w cn sn := w_aload_n d_107_13 rfl
theorem d_107_14 : decode (mB 107) 14 = .ok (.getfield 36, 3) := by decide +kernel
theorem s_107_14 {d : Nat} {Q : wQ} {L : List (Option Value)} {st : List Value} {w : aw} {cn sn : Nat} {a : Nat} : wp d 107 Q 14 L (.ref a :: st) w cn sn = (kd w a = 9 ∧ wp d 107 Q 17 L (fd w 530 a :: st) w cn sn) := w_getfield d_107_14 (by decide +kernel : fT (mO 107) 36 = some (8, 18))
theorem d_107_17 : decode (mB 107) 17 = .ok (.iload_n 1, 1) := by decide +kernel
theorem s_107_17 {d : Nat} {Q : wQ} {L : List (Option Value)} {st : List Value} {w : aw} {cn sn : Nat} {a0 : Option Value} {v : Int32} : wp d 107 Q 17 (a0 :: some (.int v) :: L) st w cn sn = wp d 107 Q 18 (a0 :: some (.int v) :: L) (.int v :: st) w cn sn := w_iload_n d_107_17 rfl
theorem d_107_18 : decode (mB 107) 18 = .ok (.iaload, 1) := by decide +kernel
theorem s_107_18 {d : Nat} {Q : wQ} {L : List (Option Value)} {st : List Value} {w : aw} {cn sn : Nat} {a : Nat} {i : Int32} : wp d 107 Q 18 L (.int i :: .ref a :: st) w cn sn = ((kd w a = 20 ∨ kd w a = 30) ∧ inR i (ln w a) ∧ wp d 107 Q 19 L (.int (ai w a i.toNatClampNeg) :: st) w cn sn) := wp_row d_107_18 _ _ _ _ _
theorem d_107_19 : decode (mB 107) 19 = .ok (.isub, 1) := by decide +kernel
theorem s_107_19 {d : Nat} {Q : wQ} {L : List (Option Value)} {st : List Value} {w : aw} {cn sn : Nat} {a b : Int32} : wp d 107 Q 19 L (.int b :: .int a :: st) w cn sn = wp d 107 Q 20 L (.int (a - b) :: st) w cn sn := wp_row d_107_19 _ _ _ _ _
theorem d_107_20 : decode (mB 107) 20 = .ok (.iastore, 1) := by decide +kernel
theorem s_107_20 {d : Nat} {Q : wQ} {L : List (Option Value)} {st : List Value} {w : aw} {cn sn : Nat} {a : Nat} {i x : Int32} : wp d 107 Q 20 L (.int x :: .int i :: .ref a :: st) w cn sn = (kd w a = 20 ∧ inR i (ln w a) ∧ wp d 107 Q 21 L st (uA w a i.toNatClampNeg x) cn sn) := wp_row d_107_20 _ _ _ _ _
theorem d_107_21 : decode (mB 107) 21 = .ok (.aload_n 0, 1) := by decide +kernel
theorem s_107_21 {d : Nat} {Q : wQ} {L : List (Option Value)} {st : List Value} {w : aw} {cn sn : Nat} {v : Nat} : wp d 107 Q 21 (some (.ref v) :: L) st w cn sn = wp d 107 Q 22 (some (.ref v) :: L) (.ref v :: st) w cn sn := w_aload_n d_107_21 rfl
theorem d_107_22 : decode (mB 107) 22 = .ok (.getfield 30, 3) := by decide +kernel
theorem s_107_22 {d : Nat} {Q : wQ} {L : List (Option Value)} {st : List Value} {w : aw} {cn sn : Nat} {a : Nat} : wp d 107 Q 22 L (.ref a :: st) w cn sn = (kd w a = 9 ∧ wp d 107 Q 25 L (fd w 528 a :: st) w cn sn) := w_getfield d_107_22 (by decide +kernel : fT (mO 107) 30 = some (8, 16))
theorem d_107_25 : decode (mB 107) 25 = .ok (.iload_n 1, 1) := by decide +kernel
theorem s_107_25 {d : Nat} {Q : wQ} {L : List (Option Value)} {st : List Value} {w : aw} {cn sn : Nat} {a0 : Option Value} {v : Int32} : wp d 107 Q 25 (a0 :: some (.int v) :: L) st w cn sn = wp d 107 Q 26 (a0 :: some (.int v) :: L) (.int v :: st) w cn sn := w_iload_n d_107_25 rfl
theorem d_107_26 : decode (mB 107) 26 = .ok (.iload_n 2, 1) := by decide +kernel
theorem s_107_26 {d : Nat} {Q : wQ} {L : List (Option Value)} {st : List Value} {w : aw} {cn sn : Nat} {a0 a1 : Option Value} {v : Int32} : wp d 107 Q 26 (a0 :: a1 :: some (.int v) :: L) st w cn sn = wp d 107 Q 27 (a0 :: a1 :: some (.int v) :: L) (.int v :: st) w cn sn := w_iload_n d_107_26 rfl
theorem d_107_27 : decode (mB 107) 27 = .ok (.sipush 4095, 3) := by decide +kernel
theorem s_107_27 {d : Nat} {Q : wQ} {L : List (Option Value)} {st : List Value} {w : aw} {cn sn : Nat}  : wp d 107 Q 27 L st w cn sn = wp d 107 Q 30 L (.int 4095 :: st) w cn sn := w_sipush d_107_27 (by decide)
theorem d_107_30 : decode (mB 107) 30 = .ok (.iand, 1) := by decide +kernel
theorem s_107_30 {d : Nat} {Q : wQ} {L : List (Option Value)} {st : List Value} {w : aw} {cn sn : Nat} {a b : Int32} : wp d 107 Q 30 L (.int b :: .int a :: st) w cn sn = wp d 107 Q 31 L (.int (a &&& b) :: st) w cn sn := wp_row d_107_30 _ _ _ _ _
theorem d_107_31 : decode (mB 107) 31 = .ok (.iastore, 1) := by decide +kernel
theorem s_107_31 {d : Nat} {Q : wQ} {L : List (Option Value)} {st : List Value} {w : aw} {cn sn : Nat} {a : Nat} {i x : Int32} : wp d 107 Q 31 L (.int x :: .int i :: .ref a :: st) w cn sn = (kd w a = 20 ∧ inR i (ln w a) ∧ wp d 107 Q 32 L st (uA w a i.toNatClampNeg x) cn sn) := wp_row d_107_31 _ _ _ _ _
theorem d_107_32 : decode (mB 107) 32 = .ok (.return_, 1) := by decide +kernel
theorem s_107_32 {d : Nat} {Q : wQ} {L : List (Option Value)} {w : aw} {cn sn : Nat}  : wp d 107 Q 32 L [] w cn sn = Q none w := w_return d_107_32 rfl
theorem d_108_0 : decode (mB 108) 0 = .ok (.aload_n 0, 1) := by decide +kernel
theorem s_108_0 {d : Nat} {Q : wQ} {L : List (Option Value)} {st : List Value} {w : aw} {cn sn : Nat} {v : Nat} : wp d 108 Q 0 (some (.ref v) :: L) st w cn sn = wp d 108 Q 1 (some (.ref v) :: L) (.ref v :: st) w cn sn := w_aload_n d_108_0 rfl
theorem d_108_1 : decode (mB 108) 1 = .ok (.getfield 33, 3) := by decide +kernel
theorem s_108_1 {d : Nat} {Q : wQ} {L : List (Option Value)} {st : List Value} {w : aw} {cn sn : Nat} {a : Nat} : wp d 108 Q 1 L (.ref a :: st) w cn sn = (kd w a = 9 ∧ wp d 108 Q 4 L (fd w 529 a :: st) w cn sn) := w_getfield d_108_1 (by decide +kernel : fT (mO 108) 33 = some (8, 17))
theorem d_108_4 : decode (mB 108) 4 = .ok (.iload_n 1, 1) := by decide +kernel
theorem s_108_4 {d : Nat} {Q : wQ} {L : List (Option Value)} {st : List Value} {w : aw} {cn sn : Nat} {a0 : Option Value} {v : Int32} : wp d 108 Q 4 (a0 :: some (.int v) :: L) st w cn sn = wp d 108 Q 5 (a0 :: some (.int v) :: L) (.int v :: st) w cn sn := w_iload_n d_108_4 rfl
theorem d_108_5 : decode (mB 108) 5 = .ok (.iload_n 2, 1) := by decide +kernel
theorem s_108_5 {d : Nat} {Q : wQ} {L : List (Option Value)} {st : List Value} {w : aw} {cn sn : Nat} {a0 a1 : Option Value} {v : Int32} : wp d 108 Q 5 (a0 :: a1 :: some (.int v) :: L) st w cn sn = wp d 108 Q 6 (a0 :: a1 :: some (.int v) :: L) (.int v :: st) w cn sn := w_iload_n d_108_5 rfl
theorem d_108_6 : decode (mB 108) 6 = .ok (.ifCond .eq 18, 3) := by decide +kernel
theorem s_108_6 {d : Nat} {Q : wQ} {L : List (Option Value)} {st : List Value} {w : aw} {cn sn : Nat} {x : Int32} : wp d 108 Q 6 L (.int x :: st) w cn sn = ((x = 0 → wp d 108 Q 24 L st w cn sn) ∧ (¬ x = 0 → wp d 108 Q 9 L st w cn sn)) := w_ifeq d_108_6 (by decide)
theorem d_108_9 : decode (mB 108) 9 = .ok (.aload_n 0, 1) := by decide +kernel
theorem s_108_9 {d : Nat} {Q : wQ} {L : List (Option Value)} {st : List Value} {w : aw} {cn sn : Nat} {v : Nat} : wp d 108 Q 9 (some (.ref v) :: L) st w cn sn = wp d 108 Q 10 (some (.ref v) :: L) (.ref v :: st) w cn sn := w_aload_n d_108_9 rfl
theorem d_108_10 : decode (mB 108) 10 = .ok (.getfield 33, 3) := by decide +kernel
theorem s_108_10 {d : Nat} {Q : wQ} {L : List (Option Value)} {st : List Value} {w : aw} {cn sn : Nat} {a : Nat} : wp d 108 Q 10 L (.ref a :: st) w cn sn = (kd w a = 9 ∧ wp d 108 Q 13 L (fd w 529 a :: st) w cn sn) := w_getfield d_108_10 (by decide +kernel : fT (mO 108) 33 = some (8, 17))
theorem d_108_13 : decode (mB 108) 13 = .ok (.iload_n 1, 1) := by decide +kernel
theorem s_108_13 {d : Nat} {Q : wQ} {L : List (Option Value)} {st : List Value} {w : aw} {cn sn : Nat} {a0 : Option Value} {v : Int32} : wp d 108 Q 13 (a0 :: some (.int v) :: L) st w cn sn = wp d 108 Q 14 (a0 :: some (.int v) :: L) (.int v :: st) w cn sn := w_iload_n d_108_13 rfl
theorem d_108_14 : decode (mB 108) 14 = .ok (.iaload, 1) := by decide +kernel
theorem s_108_14 {d : Nat} {Q : wQ} {L : List (Option Value)} {st : List Value} {w : aw} {cn sn : Nat} {a : Nat} {i : Int32} : wp d 108 Q 14 L (.int i :: .ref a :: st) w cn sn = ((kd w a = 20 ∨ kd w a = 30) ∧ inR i (ln w a) ∧ wp d 108 Q 15 L (.int (ai w a i.toNatClampNeg) :: st) w cn sn) := wp_row d_108_14 _ _ _ _ _
theorem d_108_15 : decode (mB 108) 15 = .ok (.iconst 1, 1) := by decide +kernel
theorem s_108_15 {d : Nat} {Q : wQ} {L : List (Option Value)} {st : List Value} {w : aw} {cn sn : Nat}  : wp d 108 Q 15 L st w cn sn = wp d 108 Q 16 L (.int 1 :: st) w cn sn := w_iconst d_108_15 (by decide)
theorem d_108_16 : decode (mB 108) 16 = .ok (.iadd, 1) := by decide +kernel
theorem s_108_16 {d : Nat} {Q : wQ} {L : List (Option Value)} {st : List Value} {w : aw} {cn sn : Nat} {a b : Int32} : wp d 108 Q 16 L (.int b :: .int a :: st) w cn sn = wp d 108 Q 17 L (.int (a + b) :: st) w cn sn := wp_row d_108_16 _ _ _ _ _
theorem d_108_17 : decode (mB 108) 17 = .ok (.sipush 4095, 3) := by decide +kernel
theorem s_108_17 {d : Nat} {Q : wQ} {L : List (Option Value)} {st : List Value} {w : aw} {cn sn : Nat}  : wp d 108 Q 17 L st w cn sn = wp d 108 Q 20 L (.int 4095 :: st) w cn sn := w_sipush d_108_17 (by decide)
theorem d_108_20 : decode (mB 108) 20 = .ok (.iand, 1) := by decide +kernel
theorem s_108_20 {d : Nat} {Q : wQ} {L : List (Option Value)} {st : List Value} {w : aw} {cn sn : Nat} {a b : Int32} : wp d 108 Q 20 L (.int b :: .int a :: st) w cn sn = wp d 108 Q 21 L (.int (a &&& b) :: st) w cn sn := wp_row d_108_20 _ _ _ _ _
theorem d_108_21 : decode (mB 108) 21 = .ok (.goto 9, 3) := by decide +kernel
theorem s_108_21 {d : Nat} {Q : wQ} {L : List (Option Value)} {st : List Value} {w : aw} {cn sn : Nat}  : wp d 108 Q 21 L st w cn sn = wp d 108 Q 30 L st w cn sn := w_goto d_108_21 (by decide)
theorem d_108_24 : decode (mB 108) 24 = .ok (.aload_n 0, 1) := by decide +kernel
theorem s_108_24 {d : Nat} {Q : wQ} {L : List (Option Value)} {st : List Value} {w : aw} {cn sn : Nat} {v : Nat} : wp d 108 Q 24 (some (.ref v) :: L) st w cn sn = wp d 108 Q 25 (some (.ref v) :: L) (.ref v :: st) w cn sn := w_aload_n d_108_24 rfl
theorem d_108_25 : decode (mB 108) 25 = .ok (.getfield 33, 3) := by decide +kernel
theorem s_108_25 {d : Nat} {Q : wQ} {L : List (Option Value)} {st : List Value} {w : aw} {cn sn : Nat} {a : Nat} : wp d 108 Q 25 L (.ref a :: st) w cn sn = (kd w a = 9 ∧ wp d 108 Q 28 L (fd w 529 a :: st) w cn sn) := w_getfield d_108_25 (by decide +kernel : fT (mO 108) 33 = some (8, 17))
theorem d_108_28 : decode (mB 108) 28 = .ok (.iload_n 1, 1) := by decide +kernel
theorem s_108_28 {d : Nat} {Q : wQ} {L : List (Option Value)} {st : List Value} {w : aw} {cn sn : Nat} {a0 : Option Value} {v : Int32} : wp d 108 Q 28 (a0 :: some (.int v) :: L) st w cn sn = wp d 108 Q 29 (a0 :: some (.int v) :: L) (.int v :: st) w cn sn := w_iload_n d_108_28 rfl
theorem d_108_29 : decode (mB 108) 29 = .ok (.iaload, 1) := by decide +kernel
theorem s_108_29 {d : Nat} {Q : wQ} {L : List (Option Value)} {st : List Value} {w : aw} {cn sn : Nat} {a : Nat} {i : Int32} : wp d 108 Q 29 L (.int i :: .ref a :: st) w cn sn = ((kd w a = 20 ∨ kd w a = 30) ∧ inR i (ln w a) ∧ wp d 108 Q 30 L (.int (ai w a i.toNatClampNeg) :: st) w cn sn) := wp_row d_108_29 _ _ _ _ _
theorem d_108_30 : decode (mB 108) 30 = .ok (.iastore, 1) := by decide +kernel
theorem s_108_30 {d : Nat} {Q : wQ} {L : List (Option Value)} {st : List Value} {w : aw} {cn sn : Nat} {a : Nat} {i x : Int32} : wp d 108 Q 30 L (.int x :: .int i :: .ref a :: st) w cn sn = (kd w a = 20 ∧ inR i (ln w a) ∧ wp d 108 Q 31 L st (uA w a i.toNatClampNeg x) cn sn) := wp_row d_108_30 _ _ _ _ _
theorem d_108_31 : decode (mB 108) 31 = .ok (.return_, 1) := by decide +kernel
theorem s_108_31 {d : Nat} {Q : wQ} {L : List (Option Value)} {w : aw} {cn sn : Nat}  : wp d 108 Q 31 L [] w cn sn = Q none w := w_return d_108_31 rfl
theorem d_109_0 : decode (mB 109) 0 = .ok (.aload_n 0, 1) := by decide +kernel
theorem s_109_0 {d : Nat} {Q : wQ} {L : List (Option Value)} {st : List Value} {w : aw} {cn sn : Nat} {v : Nat} : wp d 109 Q 0 (some (.ref v) :: L) st w cn sn = wp d 109 Q 1 (some (.ref v) :: L) (.ref v :: st) w cn sn := w_aload_n d_109_0 rfl
theorem d_109_1 : decode (mB 109) 1 = .ok (.getfield 33, 3) := by decide +kernel
theorem s_109_1 {d : Nat} {Q : wQ} {L : List (Option Value)} {st : List Value} {w : aw} {cn sn : Nat} {a : Nat} : wp d 109 Q 1 L (.ref a :: st) w cn sn = (kd w a = 9 ∧ wp d 109 Q 4 L (fd w 529 a :: st) w cn sn) := w_getfield d_109_1 (by decide +kernel : fT (mO 109) 33 = some (8, 17))
theorem d_109_4 : decode (mB 109) 4 = .ok (.iload_n 1, 1) := by decide +kernel
theorem s_109_4 {d : Nat} {Q : wQ} {L : List (Option Value)} {st : List Value} {w : aw} {cn sn : Nat} {a0 : Option Value} {v : Int32} : wp d 109 Q 4 (a0 :: some (.int v) :: L) st w cn sn = wp d 109 Q 5 (a0 :: some (.int v) :: L) (.int v :: st) w cn sn := w_iload_n d_109_4 rfl
theorem d_109_5 : decode (mB 109) 5 = .ok (.iaload, 1) := by decide +kernel
theorem s_109_5 {d : Nat} {Q : wQ} {L : List (Option Value)} {st : List Value} {w : aw} {cn sn : Nat} {a : Nat} {i : Int32} : wp d 109 Q 5 L (.int i :: .ref a :: st) w cn sn = ((kd w a = 20 ∨ kd w a = 30) ∧ inR i (ln w a) ∧ wp d 109 Q 6 L (.int (ai w a i.toNatClampNeg) :: st) w cn sn) := wp_row d_109_5 _ _ _ _ _
theorem d_109_6 : decode (mB 109) 6 = .ok (.istore_n 2, 1) := by decide +kernel
theorem s_109_6 {d : Nat} {Q : wQ} {L : List (Option Value)} {st : List Value} {w : aw} {cn sn : Nat} {a0 a1 a2 : Option Value} {v : Int32} : wp d 109 Q 6 (a0 :: a1 :: a2 :: L) (.int v :: st) w cn sn = wp d 109 Q 7 (a0 :: clr a1 :: some (.int v) :: L) st w cn sn := w_istore_n d_109_6 (Nat.le_add_left 3 _) rfl
theorem d_109_7 : decode (mB 109) 7 = .ok (.aload_n 0, 1) := by decide +kernel
theorem s_109_7 {d : Nat} {Q : wQ} {L : List (Option Value)} {st : List Value} {w : aw} {cn sn : Nat} {v : Nat} : wp d 109 Q 7 (some (.ref v) :: L) st w cn sn = wp d 109 Q 8 (some (.ref v) :: L) (.ref v :: st) w cn sn := w_aload_n d_109_7 rfl
theorem d_109_8 : decode (mB 109) 8 = .ok (.iload_n 1, 1) := by decide +kernel
theorem s_109_8 {d : Nat} {Q : wQ} {L : List (Option Value)} {st : List Value} {w : aw} {cn sn : Nat} {a0 : Option Value} {v : Int32} : wp d 109 Q 8 (a0 :: some (.int v) :: L) st w cn sn = wp d 109 Q 9 (a0 :: some (.int v) :: L) (.int v :: st) w cn sn := w_iload_n d_109_8 rfl
theorem d_109_9 : decode (mB 109) 9 = .ok (.iload_n 2, 1) := by decide +kernel
theorem s_109_9 {d : Nat} {Q : wQ} {L : List (Option Value)} {st : List Value} {w : aw} {cn sn : Nat} {a0 a1 : Option Value} {v : Int32} : wp d 109 Q 9 (a0 :: a1 :: some (.int v) :: L) st w cn sn = wp d 109 Q 10 (a0 :: a1 :: some (.int v) :: L) (.int v :: st) w cn sn := w_iload_n d_109_9 rfl
theorem d_109_10 : decode (mB 109) 10 = .ok (.invokevirtual 115, 3) := by decide +kernel
theorem s_109_10 {d : Nat} {Q : wQ} {L : List (Option Value)} {st : List Value} {w : aw} {cn sn : Nat} {v0 v1 : Value} {b : Nat} : wp d 109 Q 10 L (v1 :: v0 :: .ref b :: st) w cn sn = (kd w b = 9 ∧ catS st ≤ 8 ∧ wpD d 105 [.ref b, v0, v1] w (fun v w' => wp d 109 Q 13 L (v.toList ++ st) w' cn sn)) := w_virtual (As := [v0, v1]) d_109_10 (by decide +kernel : cT (mO 109) 115 = some (0, 105)) rfl (by decide +kernel) rfl (by decide +kernel) rfl
theorem d_109_13 : decode (mB 109) 13 = .ok (.istore_n 3, 1) := by decide +kernel
theorem s_109_13 {d : Nat} {Q : wQ} {L : List (Option Value)} {st : List Value} {w : aw} {cn sn : Nat} {a0 a1 a2 a3 : Option Value} {v : Int32} : wp d 109 Q 13 (a0 :: a1 :: a2 :: a3 :: L) (.int v :: st) w cn sn = wp d 109 Q 14 (a0 :: a1 :: clr a2 :: some (.int v) :: L) st w cn sn := w_istore_n d_109_13 (Nat.le_add_left 4 _) rfl
theorem d_109_14 : decode (mB 109) 14 = .ok (.aload_n 0, 1) := by decide +kernel
theorem s_109_14 {d : Nat} {Q : wQ} {L : List (Option Value)} {st : List Value} {w : aw} {cn sn : Nat} {v : Nat} : wp d 109 Q 14 (some (.ref v) :: L) st w cn sn = wp d 109 Q 15 (some (.ref v) :: L) (.ref v :: st) w cn sn := w_aload_n d_109_14 rfl
theorem d_109_15 : decode (mB 109) 15 = .ok (.getfield 33, 3) := by decide +kernel
theorem s_109_15 {d : Nat} {Q : wQ} {L : List (Option Value)} {st : List Value} {w : aw} {cn sn : Nat} {a : Nat} : wp d 109 Q 15 L (.ref a :: st) w cn sn = (kd w a = 9 ∧ wp d 109 Q 18 L (fd w 529 a :: st) w cn sn) := w_getfield d_109_15 (by decide +kernel : fT (mO 109) 33 = some (8, 17))
theorem d_109_18 : decode (mB 109) 18 = .ok (.iload_n 1, 1) := by decide +kernel
theorem s_109_18 {d : Nat} {Q : wQ} {L : List (Option Value)} {st : List Value} {w : aw} {cn sn : Nat} {a0 : Option Value} {v : Int32} : wp d 109 Q 18 (a0 :: some (.int v) :: L) st w cn sn = wp d 109 Q 19 (a0 :: some (.int v) :: L) (.int v :: st) w cn sn := w_iload_n d_109_18 rfl
theorem d_109_19 : decode (mB 109) 19 = .ok (.iload_n 2, 1) := by decide +kernel
theorem s_109_19 {d : Nat} {Q : wQ} {L : List (Option Value)} {st : List Value} {w : aw} {cn sn : Nat} {a0 a1 : Option Value} {v : Int32} : wp d 109 Q 19 (a0 :: a1 :: some (.int v) :: L) st w cn sn = wp d 109 Q 20 (a0 :: a1 :: some (.int v) :: L) (.int v :: st) w cn sn := w_iload_n d_109_19 rfl
theorem d_109_20 : decode (mB 109) 20 = .ok (.iconst 1, 1) := by decide +kernel
theorem s_109_20 {d : Nat} {Q : wQ} {L : List (Option Value)} {st : List Value} {w : aw} {cn sn : Nat}  : wp d 109 Q 20 L st w cn sn = wp d 109 Q 21 L (.int 1 :: st) w cn sn := w_iconst d_109_20 (by decide)
theorem d_109_21 : decode (mB 109) 21 = .ok (.iadd, 1) := by decide +kernel
theorem s_109_21 {d : Nat} {Q : wQ} {L : List (Option Value)} {st : List Value} {w : aw} {cn sn : Nat} {a b : Int32} : wp d 109 Q 21 L (.int b :: .int a :: st) w cn sn = wp d 109 Q 22 L (.int (a + b) :: st) w cn sn := wp_row d_109_21 _ _ _ _ _
theorem d_109_22 : decode (mB 109) 22 = .ok (.sipush 4095, 3) := by decide +kernel
theorem s_109_22 {d : Nat} {Q : wQ} {L : List (Option Value)} {st : List Value} {w : aw} {cn sn : Nat}  : wp d 109 Q 22 L st w cn sn = wp d 109 Q 25 L (.int 4095 :: st) w cn sn := w_sipush d_109_22 (by decide)
theorem d_109_25 : decode (mB 109) 25 = .ok (.iand, 1) := by decide +kernel
theorem s_109_25 {d : Nat} {Q : wQ} {L : List (Option Value)} {st : List Value} {w : aw} {cn sn : Nat} {a b : Int32} : wp d 109 Q 25 L (.int b :: .int a :: st) w cn sn = wp d 109 Q 26 L (.int (a &&& b) :: st) w cn sn := wp_row d_109_25 _ _ _ _ _
theorem d_109_26 : decode (mB 109) 26 = .ok (.iastore, 1) := by decide +kernel
theorem s_109_26 {d : Nat} {Q : wQ} {L : List (Option Value)} {st : List Value} {w : aw} {cn sn : Nat} {a : Nat} {i x : Int32} : wp d 109 Q 26 L (.int x :: .int i :: .ref a :: st) w cn sn = (kd w a = 20 ∧ inR i (ln w a) ∧ wp d 109 Q 27 L st (uA w a i.toNatClampNeg x) cn sn) := wp_row d_109_26 _ _ _ _ _
theorem d_109_27 : decode (mB 109) 27 = .ok (.aload_n 0, 1) := by decide +kernel
theorem s_109_27 {d : Nat} {Q : wQ} {L : List (Option Value)} {st : List Value} {w : aw} {cn sn : Nat} {v : Nat} : wp d 109 Q 27 (some (.ref v) :: L) st w cn sn = wp d 109 Q 28 (some (.ref v) :: L) (.ref v :: st) w cn sn := w_aload_n d_109_27 rfl
theorem d_109_28 : decode (mB 109) 28 = .ok (.getfield 51, 3) := by decide +kernel
theorem s_109_28 {d : Nat} {Q : wQ} {L : List (Option Value)} {st : List Value} {w : aw} {cn sn : Nat} {a : Nat} : wp d 109 Q 28 L (.ref a :: st) w cn sn = (kd w a = 9 ∧ wp d 109 Q 31 L (fd w 535 a :: st) w cn sn) := w_getfield d_109_28 (by decide +kernel : fT (mO 109) 51 = some (8, 23))
theorem d_109_31 : decode (mB 109) 31 = .ok (.iload_n 1, 1) := by decide +kernel
theorem s_109_31 {d : Nat} {Q : wQ} {L : List (Option Value)} {st : List Value} {w : aw} {cn sn : Nat} {a0 : Option Value} {v : Int32} : wp d 109 Q 31 (a0 :: some (.int v) :: L) st w cn sn = wp d 109 Q 32 (a0 :: some (.int v) :: L) (.int v :: st) w cn sn := w_iload_n d_109_31 rfl
theorem d_109_32 : decode (mB 109) 32 = .ok (.dup2, 1) := by decide +kernel
theorem s_109_32 {d : Nat} {Q : wQ} {L : List (Option Value)} {st : List Value} {w : aw} {cn sn : Nat} {a b : Value} : wp d 109 Q 32 L (a :: b :: st) w cn sn = (a.category = 1 ∧ b.category = 1 ∧ wp d 109 Q 33 L (a :: b :: a :: b :: st) w cn sn) := wp_row d_109_32 _ _ _ _ _
theorem d_109_33 : decode (mB 109) 33 = .ok (.iaload, 1) := by decide +kernel
theorem s_109_33 {d : Nat} {Q : wQ} {L : List (Option Value)} {st : List Value} {w : aw} {cn sn : Nat} {a : Nat} {i : Int32} : wp d 109 Q 33 L (.int i :: .ref a :: st) w cn sn = ((kd w a = 20 ∨ kd w a = 30) ∧ inR i (ln w a) ∧ wp d 109 Q 34 L (.int (ai w a i.toNatClampNeg) :: st) w cn sn) := wp_row d_109_33 _ _ _ _ _
theorem d_109_34 : decode (mB 109) 34 = .ok (.iconst 1, 1) := by decide +kernel
theorem s_109_34 {d : Nat} {Q : wQ} {L : List (Option Value)} {st : List Value} {w : aw} {cn sn : Nat}  : wp d 109 Q 34 L st w cn sn = wp d 109 Q 35 L (.int 1 :: st) w cn sn := w_iconst d_109_34 (by decide)
theorem d_109_35 : decode (mB 109) 35 = .ok (.iadd, 1) := by decide +kernel
theorem s_109_35 {d : Nat} {Q : wQ} {L : List (Option Value)} {st : List Value} {w : aw} {cn sn : Nat} {a b : Int32} : wp d 109 Q 35 L (.int b :: .int a :: st) w cn sn = wp d 109 Q 36 L (.int (a + b) :: st) w cn sn := wp_row d_109_35 _ _ _ _ _
theorem d_109_36 : decode (mB 109) 36 = .ok (.iastore, 1) := by decide +kernel
theorem s_109_36 {d : Nat} {Q : wQ} {L : List (Option Value)} {st : List Value} {w : aw} {cn sn : Nat} {a : Nat} {i x : Int32} : wp d 109 Q 36 L (.int x :: .int i :: .ref a :: st) w cn sn = (kd w a = 20 ∧ inR i (ln w a) ∧ wp d 109 Q 37 L st (uA w a i.toNatClampNeg x) cn sn) := wp_row d_109_36 _ _ _ _ _
theorem d_109_37 : decode (mB 109) 37 = .ok (.iload_n 3, 1) := by decide +kernel
theorem s_109_37 {d : Nat} {Q : wQ} {L : List (Option Value)} {st : List Value} {w : aw} {cn sn : Nat} {a0 a1 a2 : Option Value} {v : Int32} : wp d 109 Q 37 (a0 :: a1 :: a2 :: some (.int v) :: L) st w cn sn = wp d 109 Q 38 (a0 :: a1 :: a2 :: some (.int v) :: L) (.int v :: st) w cn sn := w_iload_n d_109_37 rfl
theorem d_109_38 : decode (mB 109) 38 = .ok (.sipush 3072, 3) := by decide +kernel
theorem s_109_38 {d : Nat} {Q : wQ} {L : List (Option Value)} {st : List Value} {w : aw} {cn sn : Nat}  : wp d 109 Q 38 L st w cn sn = wp d 109 Q 41 L (.int 3072 :: st) w cn sn := w_sipush d_109_38 (by decide)
theorem d_109_41 : decode (mB 109) 41 = .ok (.if_icmp .ge 13, 3) := by decide +kernel
theorem s_109_41 {d : Nat} {Q : wQ} {L : List (Option Value)} {st : List Value} {w : aw} {cn sn : Nat} {a b : Int32} : wp d 109 Q 41 L (.int b :: .int a :: st) w cn sn = ((b ≤ a → wp d 109 Q 54 L st w cn sn) ∧ (¬ b ≤ a → wp d 109 Q 44 L st w cn sn)) := w_icge d_109_41 (by decide)
theorem d_109_44 : decode (mB 109) 44 = .ok (.aload_n 0, 1) := by decide +kernel
theorem s_109_44 {d : Nat} {Q : wQ} {L : List (Option Value)} {st : List Value} {w : aw} {cn sn : Nat} {v : Nat} : wp d 109 Q 44 (some (.ref v) :: L) st w cn sn = wp d 109 Q 45 (some (.ref v) :: L) (.ref v :: st) w cn sn := w_aload_n d_109_44 rfl
theorem d_109_45 : decode (mB 109) 45 = .ok (.iload_n 1, 1) := by decide +kernel
theorem s_109_45 {d : Nat} {Q : wQ} {L : List (Option Value)} {st : List Value} {w : aw} {cn sn : Nat} {a0 : Option Value} {v : Int32} : wp d 109 Q 45 (a0 :: some (.int v) :: L) st w cn sn = wp d 109 Q 46 (a0 :: some (.int v) :: L) (.int v :: st) w cn sn := w_iload_n d_109_45 rfl
theorem d_109_46 : decode (mB 109) 46 = .ok (.iload_n 3, 1) := by decide +kernel
theorem s_109_46 {d : Nat} {Q : wQ} {L : List (Option Value)} {st : List Value} {w : aw} {cn sn : Nat} {a0 a1 a2 : Option Value} {v : Int32} : wp d 109 Q 46 (a0 :: a1 :: a2 :: some (.int v) :: L) st w cn sn = wp d 109 Q 47 (a0 :: a1 :: a2 :: some (.int v) :: L) (.int v :: st) w cn sn := w_iload_n d_109_46 rfl
theorem d_109_47 : decode (mB 109) 47 = .ok (.iload_n 2, 1) := by decide +kernel
theorem s_109_47 {d : Nat} {Q : wQ} {L : List (Option Value)} {st : List Value} {w : aw} {cn sn : Nat} {a0 a1 : Option Value} {v : Int32} : wp d 109 Q 47 (a0 :: a1 :: some (.int v) :: L) st w cn sn = wp d 109 Q 48 (a0 :: a1 :: some (.int v) :: L) (.int v :: st) w cn sn := w_iload_n d_109_47 rfl
theorem d_109_48 : decode (mB 109) 48 = .ok (.invokevirtual 119, 3) := by decide +kernel
theorem s_109_48 {d : Nat} {Q : wQ} {L : List (Option Value)} {st : List Value} {w : aw} {cn sn : Nat} {v0 v1 v2 : Value} {b : Nat} : wp d 109 Q 48 L (v2 :: v1 :: v0 :: .ref b :: st) w cn sn = (kd w b = 9 ∧ catS st ≤ 8 ∧ wpD d 110 [.ref b, v0, v1, v2] w (fun v w' => wp d 109 Q 51 L (v.toList ++ st) w' cn sn)) := w_virtual (As := [v0, v1, v2]) d_109_48 (by decide +kernel : cT (mO 109) 119 = some (0, 110)) rfl (by decide +kernel) rfl (by decide +kernel) rfl
theorem d_109_51 : decode (mB 109) 51 = .ok (.goto 49, 3) := by decide +kernel
theorem s_109_51 {d : Nat} {Q : wQ} {L : List (Option Value)} {st : List Value} {w : aw} {cn sn : Nat}  : wp d 109 Q 51 L st w cn sn = wp d 109 Q 100 L st w cn sn := w_goto d_109_51 (by decide)
theorem d_109_54 : decode (mB 109) 54 = .ok (.iload_n 3, 1) := by decide +kernel
theorem s_109_54 {d : Nat} {Q : wQ} {L : List (Option Value)} {st : List Value} {w : aw} {cn sn : Nat} {a0 a1 a2 : Option Value} {v : Int32} : wp d 109 Q 54 (a0 :: a1 :: a2 :: some (.int v) :: L) st w cn sn = wp d 109 Q 55 (a0 :: a1 :: a2 :: some (.int v) :: L) (.int v :: st) w cn sn := w_iload_n d_109_54 rfl
theorem d_109_55 : decode (mB 109) 55 = .ok (.sipush 3584, 3) := by decide +kernel
theorem s_109_55 {d : Nat} {Q : wQ} {L : List (Option Value)} {st : List Value} {w : aw} {cn sn : Nat}  : wp d 109 Q 55 L st w cn sn = wp d 109 Q 58 L (.int 3584 :: st) w cn sn := w_sipush d_109_55 (by decide)
theorem d_109_58 : decode (mB 109) 58 = .ok (.if_icmp .ge 13, 3) := by decide +kernel
theorem s_109_58 {d : Nat} {Q : wQ} {L : List (Option Value)} {st : List Value} {w : aw} {cn sn : Nat} {a b : Int32} : wp d 109 Q 58 L (.int b :: .int a :: st) w cn sn = ((b ≤ a → wp d 109 Q 71 L st w cn sn) ∧ (¬ b ≤ a → wp d 109 Q 61 L st w cn sn)) := w_icge d_109_58 (by decide)
theorem d_109_61 : decode (mB 109) 61 = .ok (.aload_n 0, 1) := by decide +kernel
theorem s_109_61 {d : Nat} {Q : wQ} {L : List (Option Value)} {st : List Value} {w : aw} {cn sn : Nat} {v : Nat} : wp d 109 Q 61 (some (.ref v) :: L) st w cn sn = wp d 109 Q 62 (some (.ref v) :: L) (.ref v :: st) w cn sn := w_aload_n d_109_61 rfl
theorem d_109_62 : decode (mB 109) 62 = .ok (.iload_n 1, 1) := by decide +kernel
theorem s_109_62 {d : Nat} {Q : wQ} {L : List (Option Value)} {st : List Value} {w : aw} {cn sn : Nat} {a0 : Option Value} {v : Int32} : wp d 109 Q 62 (a0 :: some (.int v) :: L) st w cn sn = wp d 109 Q 63 (a0 :: some (.int v) :: L) (.int v :: st) w cn sn := w_iload_n d_109_62 rfl
theorem d_109_63 : decode (mB 109) 63 = .ok (.iload_n 3, 1) := by decide +kernel
theorem s_109_63 {d : Nat} {Q : wQ} {L : List (Option Value)} {st : List Value} {w : aw} {cn sn : Nat} {a0 a1 a2 : Option Value} {v : Int32} : wp d 109 Q 63 (a0 :: a1 :: a2 :: some (.int v) :: L) st w cn sn = wp d 109 Q 64 (a0 :: a1 :: a2 :: some (.int v) :: L) (.int v :: st) w cn sn := w_iload_n d_109_63 rfl
theorem d_109_64 : decode (mB 109) 64 = .ok (.iload_n 2, 1) := by decide +kernel
theorem s_109_64 {d : Nat} {Q : wQ} {L : List (Option Value)} {st : List Value} {w : aw} {cn sn : Nat} {a0 a1 : Option Value} {v : Int32} : wp d 109 Q 64 (a0 :: a1 :: some (.int v) :: L) st w cn sn = wp d 109 Q 65 (a0 :: a1 :: some (.int v) :: L) (.int v :: st) w cn sn := w_iload_n d_109_64 rfl
theorem d_109_65 : decode (mB 109) 65 = .ok (.invokevirtual 123, 3) := by decide +kernel
theorem s_109_65 {d : Nat} {Q : wQ} {L : List (Option Value)} {st : List Value} {w : aw} {cn sn : Nat} {v0 v1 v2 : Value} {b : Nat} : wp d 109 Q 65 L (v2 :: v1 :: v0 :: .ref b :: st) w cn sn = (kd w b = 9 ∧ catS st ≤ 8 ∧ wpD d 113 [.ref b, v0, v1, v2] w (fun v w' => wp d 109 Q 68 L (v.toList ++ st) w' cn sn)) := w_virtual (As := [v0, v1, v2]) d_109_65 (by decide +kernel : cT (mO 109) 123 = some (0, 113)) rfl (by decide +kernel) rfl (by decide +kernel) rfl
theorem d_109_68 : decode (mB 109) 68 = .ok (.goto 32, 3) := by decide +kernel
theorem s_109_68 {d : Nat} {Q : wQ} {L : List (Option Value)} {st : List Value} {w : aw} {cn sn : Nat}  : wp d 109 Q 68 L st w cn sn = wp d 109 Q 100 L st w cn sn := w_goto d_109_68 (by decide)
theorem d_109_71 : decode (mB 109) 71 = .ok (.iload_n 3, 1) := by decide +kernel
theorem s_109_71 {d : Nat} {Q : wQ} {L : List (Option Value)} {st : List Value} {w : aw} {cn sn : Nat} {a0 a1 a2 : Option Value} {v : Int32} : wp d 109 Q 71 (a0 :: a1 :: a2 :: some (.int v) :: L) st w cn sn = wp d 109 Q 72 (a0 :: a1 :: a2 :: some (.int v) :: L) (.int v :: st) w cn sn := w_iload_n d_109_71 rfl
theorem d_109_72 : decode (mB 109) 72 = .ok (.sipush 256, 3) := by decide +kernel
theorem s_109_72 {d : Nat} {Q : wQ} {L : List (Option Value)} {st : List Value} {w : aw} {cn sn : Nat}  : wp d 109 Q 72 L st w cn sn = wp d 109 Q 75 L (.int 256 :: st) w cn sn := w_sipush d_109_72 (by decide)
theorem d_109_75 : decode (mB 109) 75 = .ok (.iand, 1) := by decide +kernel
theorem s_109_75 {d : Nat} {Q : wQ} {L : List (Option Value)} {st : List Value} {w : aw} {cn sn : Nat} {a b : Int32} : wp d 109 Q 75 L (.int b :: .int a :: st) w cn sn = wp d 109 Q 76 L (.int (a &&& b) :: st) w cn sn := wp_row d_109_75 _ _ _ _ _
theorem d_109_76 : decode (mB 109) 76 = .ok (.ifCond .ne 12, 3) := by decide +kernel
theorem s_109_76 {d : Nat} {Q : wQ} {L : List (Option Value)} {st : List Value} {w : aw} {cn sn : Nat} {x : Int32} : wp d 109 Q 76 L (.int x :: st) w cn sn = ((¬ x = 0 → wp d 109 Q 88 L st w cn sn) ∧ (x = 0 → wp d 109 Q 79 L st w cn sn)) := w_ifne d_109_76 (by decide)
theorem d_109_79 : decode (mB 109) 79 = .ok (.aload_n 0, 1) := by decide +kernel
theorem s_109_79 {d : Nat} {Q : wQ} {L : List (Option Value)} {st : List Value} {w : aw} {cn sn : Nat} {v : Nat} : wp d 109 Q 79 (some (.ref v) :: L) st w cn sn = wp d 109 Q 80 (some (.ref v) :: L) (.ref v :: st) w cn sn := w_aload_n d_109_79 rfl
theorem d_109_80 : decode (mB 109) 80 = .ok (.iload_n 1, 1) := by decide +kernel
theorem s_109_80 {d : Nat} {Q : wQ} {L : List (Option Value)} {st : List Value} {w : aw} {cn sn : Nat} {a0 : Option Value} {v : Int32} : wp d 109 Q 80 (a0 :: some (.int v) :: L) st w cn sn = wp d 109 Q 81 (a0 :: some (.int v) :: L) (.int v :: st) w cn sn := w_iload_n d_109_80 rfl
theorem d_109_81 : decode (mB 109) 81 = .ok (.iload_n 3, 1) := by decide +kernel
theorem s_109_81 {d : Nat} {Q : wQ} {L : List (Option Value)} {st : List Value} {w : aw} {cn sn : Nat} {a0 a1 a2 : Option Value} {v : Int32} : wp d 109 Q 81 (a0 :: a1 :: a2 :: some (.int v) :: L) st w cn sn = wp d 109 Q 82 (a0 :: a1 :: a2 :: some (.int v) :: L) (.int v :: st) w cn sn := w_iload_n d_109_81 rfl
theorem d_109_82 : decode (mB 109) 82 = .ok (.invokevirtual 126, 3) := by decide +kernel
theorem s_109_82 {d : Nat} {Q : wQ} {L : List (Option Value)} {st : List Value} {w : aw} {cn sn : Nat} {v0 v1 : Value} {b : Nat} : wp d 109 Q 82 L (v1 :: v0 :: .ref b :: st) w cn sn = (kd w b = 9 ∧ catS st ≤ 8 ∧ wpD d 111 [.ref b, v0, v1] w (fun v w' => wp d 109 Q 85 L (v.toList ++ st) w' cn sn)) := w_virtual (As := [v0, v1]) d_109_82 (by decide +kernel : cT (mO 109) 126 = some (0, 111)) rfl (by decide +kernel) rfl (by decide +kernel) rfl
theorem d_109_85 : decode (mB 109) 85 = .ok (.goto 15, 3) := by decide +kernel
theorem s_109_85 {d : Nat} {Q : wQ} {L : List (Option Value)} {st : List Value} {w : aw} {cn sn : Nat}  : wp d 109 Q 85 L st w cn sn = wp d 109 Q 100 L st w cn sn := w_goto d_109_85 (by decide)
theorem d_109_88 : decode (mB 109) 88 = .ok (.iload_n 3, 1) := by decide +kernel
theorem s_109_88 {d : Nat} {Q : wQ} {L : List (Option Value)} {st : List Value} {w : aw} {cn sn : Nat} {a0 a1 a2 : Option Value} {v : Int32} : wp d 109 Q 88 (a0 :: a1 :: a2 :: some (.int v) :: L) st w cn sn = wp d 109 Q 89 (a0 :: a1 :: a2 :: some (.int v) :: L) (.int v :: st) w cn sn := w_iload_n d_109_88 rfl
theorem d_109_89 : decode (mB 109) 89 = .ok (.iconst 1, 1) := by decide +kernel
theorem s_109_89 {d : Nat} {Q : wQ} {L : List (Option Value)} {st : List Value} {w : aw} {cn sn : Nat}  : wp d 109 Q 89 L st w cn sn = wp d 109 Q 90 L (.int 1 :: st) w cn sn := w_iconst d_109_89 (by decide)
theorem d_109_90 : decode (mB 109) 90 = .ok (.iand, 1) := by decide +kernel
theorem s_109_90 {d : Nat} {Q : wQ} {L : List (Option Value)} {st : List Value} {w : aw} {cn sn : Nat} {a b : Int32} : wp d 109 Q 90 L (.int b :: .int a :: st) w cn sn = wp d 109 Q 91 L (.int (a &&& b) :: st) w cn sn := wp_row d_109_90 _ _ _ _ _
theorem d_109_91 : decode (mB 109) 91 = .ok (.ifCond .ne 9, 3) := by decide +kernel
theorem s_109_91 {d : Nat} {Q : wQ} {L : List (Option Value)} {st : List Value} {w : aw} {cn sn : Nat} {x : Int32} : wp d 109 Q 91 L (.int x :: st) w cn sn = ((¬ x = 0 → wp d 109 Q 100 L st w cn sn) ∧ (x = 0 → wp d 109 Q 94 L st w cn sn)) := w_ifne d_109_91 (by decide)
theorem d_109_94 : decode (mB 109) 94 = .ok (.aload_n 0, 1) := by decide +kernel
theorem s_109_94 {d : Nat} {Q : wQ} {L : List (Option Value)} {st : List Value} {w : aw} {cn sn : Nat} {v : Nat} : wp d 109 Q 94 (some (.ref v) :: L) st w cn sn = wp d 109 Q 95 (some (.ref v) :: L) (.ref v :: st) w cn sn := w_aload_n d_109_94 rfl
theorem d_109_95 : decode (mB 109) 95 = .ok (.iload_n 1, 1) := by decide +kernel
theorem s_109_95 {d : Nat} {Q : wQ} {L : List (Option Value)} {st : List Value} {w : aw} {cn sn : Nat} {a0 : Option Value} {v : Int32} : wp d 109 Q 95 (a0 :: some (.int v) :: L) st w cn sn = wp d 109 Q 96 (a0 :: some (.int v) :: L) (.int v :: st) w cn sn := w_iload_n d_109_95 rfl
theorem d_109_96 : decode (mB 109) 96 = .ok (.iload_n 3, 1) := by decide +kernel
theorem s_109_96 {d : Nat} {Q : wQ} {L : List (Option Value)} {st : List Value} {w : aw} {cn sn : Nat} {a0 a1 a2 : Option Value} {v : Int32} : wp d 109 Q 96 (a0 :: a1 :: a2 :: some (.int v) :: L) st w cn sn = wp d 109 Q 97 (a0 :: a1 :: a2 :: some (.int v) :: L) (.int v :: st) w cn sn := w_iload_n d_109_96 rfl
theorem d_109_97 : decode (mB 109) 97 = .ok (.invokevirtual 130, 3) := by decide +kernel
theorem s_109_97 {d : Nat} {Q : wQ} {L : List (Option Value)} {st : List Value} {w : aw} {cn sn : Nat} {v0 v1 : Value} {b : Nat} : wp d 109 Q 97 L (v1 :: v0 :: .ref b :: st) w cn sn = (kd w b = 9 ∧ catS st ≤ 8 ∧ wpD d 112 [.ref b, v0, v1] w (fun v w' => wp d 109 Q 100 L (v.toList ++ st) w' cn sn)) := w_virtual (As := [v0, v1]) d_109_97 (by decide +kernel : cT (mO 109) 130 = some (0, 112)) rfl (by decide +kernel) rfl (by decide +kernel) rfl
theorem d_109_100 : decode (mB 109) 100 = .ok (.return_, 1) := by decide +kernel
theorem s_109_100 {d : Nat} {Q : wQ} {L : List (Option Value)} {w : aw} {cn sn : Nat}  : wp d 109 Q 100 L [] w cn sn = Q none w := w_return d_109_100 rfl
theorem d_110_0 : decode (mB 110) 0 = .ok (.iload_n 2, 1) := by decide +kernel
theorem s_110_0 {d : Nat} {Q : wQ} {L : List (Option Value)} {st : List Value} {w : aw} {cn sn : Nat} {a0 a1 : Option Value} {v : Int32} : wp d 110 Q 0 (a0 :: a1 :: some (.int v) :: L) st w cn sn = wp d 110 Q 1 (a0 :: a1 :: some (.int v) :: L) (.int v :: st) w cn sn := w_iload_n d_110_0 rfl
theorem d_110_1 : decode (mB 110) 1 = .ok (.bipush 127, 2) := by decide +kernel
theorem s_110_1 {d : Nat} {Q : wQ} {L : List (Option Value)} {st : List Value} {w : aw} {cn sn : Nat}  : wp d 110 Q 1 L st w cn sn = wp d 110 Q 3 L (.int 127 :: st) w cn sn := w_bipush d_110_1 (by decide)
theorem d_110_3 : decode (mB 110) 3 = .ok (.iand, 1) := by decide +kernel
theorem s_110_3 {d : Nat} {Q : wQ} {L : List (Option Value)} {st : List Value} {w : aw} {cn sn : Nat} {a b : Int32} : wp d 110 Q 3 L (.int b :: .int a :: st) w cn sn = wp d 110 Q 4 L (.int (a &&& b) :: st) w cn sn := wp_row d_110_3 _ _ _ _ _
theorem d_110_4 : decode (mB 110) 4 = .ok (.iload_n 2, 1) := by decide +kernel
theorem s_110_4 {d : Nat} {Q : wQ} {L : List (Option Value)} {st : List Value} {w : aw} {cn sn : Nat} {a0 a1 : Option Value} {v : Int32} : wp d 110 Q 4 (a0 :: a1 :: some (.int v) :: L) st w cn sn = wp d 110 Q 5 (a0 :: a1 :: some (.int v) :: L) (.int v :: st) w cn sn := w_iload_n d_110_4 rfl
theorem d_110_5 : decode (mB 110) 5 = .ok (.sipush 128, 3) := by decide +kernel
theorem s_110_5 {d : Nat} {Q : wQ} {L : List (Option Value)} {st : List Value} {w : aw} {cn sn : Nat}  : wp d 110 Q 5 L st w cn sn = wp d 110 Q 8 L (.int 128 :: st) w cn sn := w_sipush d_110_5 (by decide)
theorem d_110_8 : decode (mB 110) 8 = .ok (.iand, 1) := by decide +kernel
theorem s_110_8 {d : Nat} {Q : wQ} {L : List (Option Value)} {st : List Value} {w : aw} {cn sn : Nat} {a b : Int32} : wp d 110 Q 8 L (.int b :: .int a :: st) w cn sn = wp d 110 Q 9 L (.int (a &&& b) :: st) w cn sn := wp_row d_110_8 _ _ _ _ _
theorem d_110_9 : decode (mB 110) 9 = .ok (.ifCond .le 11, 3) := by decide +kernel
theorem s_110_9 {d : Nat} {Q : wQ} {L : List (Option Value)} {st : List Value} {w : aw} {cn sn : Nat} {x : Int32} : wp d 110 Q 9 L (.int x :: st) w cn sn = ((x ≤ 0 → wp d 110 Q 20 L st w cn sn) ∧ (¬ x ≤ 0 → wp d 110 Q 12 L st w cn sn)) := w_ifle d_110_9 (by decide)
theorem d_110_12 : decode (mB 110) 12 = .ok (.iload_n 3, 1) := by decide +kernel
theorem s_110_12 {d : Nat} {Q : wQ} {L : List (Option Value)} {st : List Value} {w : aw} {cn sn : Nat} {a0 a1 a2 : Option Value} {v : Int32} : wp d 110 Q 12 (a0 :: a1 :: a2 :: some (.int v) :: L) st w cn sn = wp d 110 Q 13 (a0 :: a1 :: a2 :: some (.int v) :: L) (.int v :: st) w cn sn := w_iload_n d_110_12 rfl
theorem d_110_13 : decode (mB 110) 13 = .ok (.sipush 3968, 3) := by decide +kernel
theorem s_110_13 {d : Nat} {Q : wQ} {L : List (Option Value)} {st : List Value} {w : aw} {cn sn : Nat}  : wp d 110 Q 13 L st w cn sn = wp d 110 Q 16 L (.int 3968 :: st) w cn sn := w_sipush d_110_13 (by decide)
theorem d_110_16 : decode (mB 110) 16 = .ok (.iand, 1) := by decide +kernel
theorem s_110_16 {d : Nat} {Q : wQ} {L : List (Option Value)} {st : List Value} {w : aw} {cn sn : Nat} {a b : Int32} : wp d 110 Q 16 L (.int b :: .int a :: st) w cn sn = wp d 110 Q 17 L (.int (a &&& b) :: st) w cn sn := wp_row d_110_16 _ _ _ _ _
theorem d_110_17 : decode (mB 110) 17 = .ok (.goto 4, 3) := by decide +kernel
theorem s_110_17 {d : Nat} {Q : wQ} {L : List (Option Value)} {st : List Value} {w : aw} {cn sn : Nat}  : wp d 110 Q 17 L st w cn sn = wp d 110 Q 21 L st w cn sn := w_goto d_110_17 (by decide)
theorem d_110_20 : decode (mB 110) 20 = .ok (.iconst 0, 1) := by decide +kernel
theorem s_110_20 {d : Nat} {Q : wQ} {L : List (Option Value)} {st : List Value} {w : aw} {cn sn : Nat}  : wp d 110 Q 20 L st w cn sn = wp d 110 Q 21 L (.int 0 :: st) w cn sn := w_iconst d_110_20 (by decide)
theorem d_110_21 : decode (mB 110) 21 = .ok (.ior, 1) := by decide +kernel
theorem s_110_21 {d : Nat} {Q : wQ} {L : List (Option Value)} {st : List Value} {w : aw} {cn sn : Nat} {a b : Int32} : wp d 110 Q 21 L (.int b :: .int a :: st) w cn sn = wp d 110 Q 22 L (.int (a ||| b) :: st) w cn sn := wp_row d_110_21 _ _ _ _ _
theorem d_110_22 : decode (mB 110) 22 = .ok (.istore 4, 2) := by decide +kernel
theorem s_110_22 {d : Nat} {Q : wQ} {L : List (Option Value)} {st : List Value} {w : aw} {cn sn : Nat} {a0 a1 a2 a3 a4 : Option Value} {v : Int32} : wp d 110 Q 22 (a0 :: a1 :: a2 :: a3 :: a4 :: L) (.int v :: st) w cn sn = wp d 110 Q 24 (a0 :: a1 :: a2 :: clr a3 :: some (.int v) :: L) st w cn sn := w_istore d_110_22 (Nat.le_add_left 5 _) rfl
theorem d_110_24 : decode (mB 110) 24 = .ok (.iload_n 2, 1) := by decide +kernel
theorem s_110_24 {d : Nat} {Q : wQ} {L : List (Option Value)} {st : List Value} {w : aw} {cn sn : Nat} {a0 a1 : Option Value} {v : Int32} : wp d 110 Q 24 (a0 :: a1 :: some (.int v) :: L) st w cn sn = wp d 110 Q 25 (a0 :: a1 :: some (.int v) :: L) (.int v :: st) w cn sn := w_iload_n d_110_24 rfl
theorem d_110_25 : decode (mB 110) 25 = .ok (.sipush 256, 3) := by decide +kernel
theorem s_110_25 {d : Nat} {Q : wQ} {L : List (Option Value)} {st : List Value} {w : aw} {cn sn : Nat}  : wp d 110 Q 25 L st w cn sn = wp d 110 Q 28 L (.int 256 :: st) w cn sn := w_sipush d_110_25 (by decide)
theorem d_110_28 : decode (mB 110) 28 = .ok (.iand, 1) := by decide +kernel
theorem s_110_28 {d : Nat} {Q : wQ} {L : List (Option Value)} {st : List Value} {w : aw} {cn sn : Nat} {a b : Int32} : wp d 110 Q 28 L (.int b :: .int a :: st) w cn sn = wp d 110 Q 29 L (.int (a &&& b) :: st) w cn sn := wp_row d_110_28 _ _ _ _ _
theorem d_110_29 : decode (mB 110) 29 = .ok (.ifCond .le 40, 3) := by decide +kernel
theorem s_110_29 {d : Nat} {Q : wQ} {L : List (Option Value)} {st : List Value} {w : aw} {cn sn : Nat} {x : Int32} : wp d 110 Q 29 L (.int x :: st) w cn sn = ((x ≤ 0 → wp d 110 Q 69 L st w cn sn) ∧ (¬ x ≤ 0 → wp d 110 Q 32 L st w cn sn)) := w_ifle d_110_29 (by decide)
theorem d_110_32 : decode (mB 110) 32 = .ok (.iload 4, 2) := by decide +kernel
theorem s_110_32 {d : Nat} {Q : wQ} {L : List (Option Value)} {st : List Value} {w : aw} {cn sn : Nat} {a0 a1 a2 a3 : Option Value} {v : Int32} : wp d 110 Q 32 (a0 :: a1 :: a2 :: a3 :: some (.int v) :: L) st w cn sn = wp d 110 Q 34 (a0 :: a1 :: a2 :: a3 :: some (.int v) :: L) (.int v :: st) w cn sn := w_iload d_110_32 rfl
theorem d_110_34 : decode (mB 110) 34 = .ok (.bipush 8, 2) := by decide +kernel
theorem s_110_34 {d : Nat} {Q : wQ} {L : List (Option Value)} {st : List Value} {w : aw} {cn sn : Nat}  : wp d 110 Q 34 L st w cn sn = wp d 110 Q 36 L (.int 8 :: st) w cn sn := w_bipush d_110_34 (by decide)
theorem d_110_36 : decode (mB 110) 36 = .ok (.bipush 15, 2) := by decide +kernel
theorem s_110_36 {d : Nat} {Q : wQ} {L : List (Option Value)} {st : List Value} {w : aw} {cn sn : Nat}  : wp d 110 Q 36 L st w cn sn = wp d 110 Q 38 L (.int 15 :: st) w cn sn := w_bipush d_110_36 (by decide)
theorem d_110_38 : decode (mB 110) 38 = .ok (.invokestatic 111, 3) := by decide +kernel
theorem s_110_38 {d : Nat} {Q : wQ} {L : List (Option Value)} {st : List Value} {w : aw} {cn sn : Nat} {v0 v1 v2 : Value} : wp d 110 Q 38 L (v2 :: v1 :: v0 :: st) w cn sn = (catS st ≤ 8 ∧ wpD d 103 [v0, v1, v2] w (fun v w' => wp d 110 Q 41 L (v.toList ++ st) w' cn sn)) := w_static (As := [v0, v1, v2]) d_110_38 (by decide +kernel : cT (mO 110) 111 = some (2, 103)) rfl (by decide +kernel) rfl
theorem d_110_41 : decode (mB 110) 41 = .ok (.ifCond .eq 19, 3) := by decide +kernel
theorem s_110_41 {d : Nat} {Q : wQ} {L : List (Option Value)} {st : List Value} {w : aw} {cn sn : Nat} {x : Int32} : wp d 110 Q 41 L (.int x :: st) w cn sn = ((x = 0 → wp d 110 Q 60 L st w cn sn) ∧ (¬ x = 0 → wp d 110 Q 44 L st w cn sn)) := w_ifeq d_110_41 (by decide)
theorem d_110_44 : decode (mB 110) 44 = .ok (.aload_n 0, 1) := by decide +kernel
theorem s_110_44 {d : Nat} {Q : wQ} {L : List (Option Value)} {st : List Value} {w : aw} {cn sn : Nat} {v : Nat} : wp d 110 Q 44 (some (.ref v) :: L) st w cn sn = wp d 110 Q 45 (some (.ref v) :: L) (.ref v :: st) w cn sn := w_aload_n d_110_44 rfl
theorem d_110_45 : decode (mB 110) 45 = .ok (.iload_n 1, 1) := by decide +kernel
theorem s_110_45 {d : Nat} {Q : wQ} {L : List (Option Value)} {st : List Value} {w : aw} {cn sn : Nat} {a0 : Option Value} {v : Int32} : wp d 110 Q 45 (a0 :: some (.int v) :: L) st w cn sn = wp d 110 Q 46 (a0 :: some (.int v) :: L) (.int v :: st) w cn sn := w_iload_n d_110_45 rfl
theorem d_110_46 : decode (mB 110) 46 = .ok (.iload 4, 2) := by decide +kernel
theorem s_110_46 {d : Nat} {Q : wQ} {L : List (Option Value)} {st : List Value} {w : aw} {cn sn : Nat} {a0 a1 a2 a3 : Option Value} {v : Int32} : wp d 110 Q 46 (a0 :: a1 :: a2 :: a3 :: some (.int v) :: L) st w cn sn = wp d 110 Q 48 (a0 :: a1 :: a2 :: a3 :: some (.int v) :: L) (.int v :: st) w cn sn := w_iload d_110_46 rfl
theorem d_110_48 : decode (mB 110) 48 = .ok (.aload_n 0, 1) := by decide +kernel
theorem s_110_48 {d : Nat} {Q : wQ} {L : List (Option Value)} {st : List Value} {w : aw} {cn sn : Nat} {v : Nat} : wp d 110 Q 48 (some (.ref v) :: L) st w cn sn = wp d 110 Q 49 (some (.ref v) :: L) (.ref v :: st) w cn sn := w_aload_n d_110_48 rfl
theorem d_110_49 : decode (mB 110) 49 = .ok (.iload_n 1, 1) := by decide +kernel
theorem s_110_49 {d : Nat} {Q : wQ} {L : List (Option Value)} {st : List Value} {w : aw} {cn sn : Nat} {a0 : Option Value} {v : Int32} : wp d 110 Q 49 (a0 :: some (.int v) :: L) st w cn sn = wp d 110 Q 50 (a0 :: some (.int v) :: L) (.int v :: st) w cn sn := w_iload_n d_110_49 rfl
theorem d_110_50 : decode (mB 110) 50 = .ok (.iload 4, 2) := by decide +kernel
theorem s_110_50 {d : Nat} {Q : wQ} {L : List (Option Value)} {st : List Value} {w : aw} {cn sn : Nat} {a0 a1 a2 a3 : Option Value} {v : Int32} : wp d 110 Q 50 (a0 :: a1 :: a2 :: a3 :: some (.int v) :: L) st w cn sn = wp d 110 Q 52 (a0 :: a1 :: a2 :: a3 :: some (.int v) :: L) (.int v :: st) w cn sn := w_iload d_110_50 rfl
theorem d_110_52 : decode (mB 110) 52 = .ok (.invokevirtual 115, 3) := by decide +kernel
theorem s_110_52 {d : Nat} {Q : wQ} {L : List (Option Value)} {st : List Value} {w : aw} {cn sn : Nat} {v0 v1 : Value} {b : Nat} : wp d 110 Q 52 L (v1 :: v0 :: .ref b :: st) w cn sn = (kd w b = 9 ∧ catS st ≤ 8 ∧ wpD d 105 [.ref b, v0, v1] w (fun v w' => wp d 110 Q 55 L (v.toList ++ st) w' cn sn)) := w_virtual (As := [v0, v1]) d_110_52 (by decide +kernel : cT (mO 110) 115 = some (0, 105)) rfl (by decide +kernel) rfl (by decide +kernel) rfl
theorem d_110_55 : decode (mB 110) 55 = .ok (.iconst 1, 1) := by decide +kernel
theorem s_110_55 {d : Nat} {Q : wQ} {L : List (Option Value)} {st : List Value} {w : aw} {cn sn : Nat}  : wp d 110 Q 55 L st w cn sn = wp d 110 Q 56 L (.int 1 :: st) w cn sn := w_iconst d_110_55 (by decide)
theorem d_110_56 : decode (mB 110) 56 = .ok (.iadd, 1) := by decide +kernel
theorem s_110_56 {d : Nat} {Q : wQ} {L : List (Option Value)} {st : List Value} {w : aw} {cn sn : Nat} {a b : Int32} : wp d 110 Q 56 L (.int b :: .int a :: st) w cn sn = wp d 110 Q 57 L (.int (a + b) :: st) w cn sn := wp_row d_110_56 _ _ _ _ _
theorem d_110_57 : decode (mB 110) 57 = .ok (.invokevirtual 133, 3) := by decide +kernel
theorem s_110_57 {d : Nat} {Q : wQ} {L : List (Option Value)} {st : List Value} {w : aw} {cn sn : Nat} {v0 v1 v2 : Value} {b : Nat} : wp d 110 Q 57 L (v2 :: v1 :: v0 :: .ref b :: st) w cn sn = (kd w b = 9 ∧ catS st ≤ 8 ∧ wpD d 106 [.ref b, v0, v1, v2] w (fun v w' => wp d 110 Q 60 L (v.toList ++ st) w' cn sn)) := w_virtual (As := [v0, v1, v2]) d_110_57 (by decide +kernel : cT (mO 110) 133 = some (0, 106)) rfl (by decide +kernel) rfl (by decide +kernel) rfl
theorem d_110_60 : decode (mB 110) 60 = .ok (.aload_n 0, 1) := by decide +kernel
theorem s_110_60 {d : Nat} {Q : wQ} {L : List (Option Value)} {st : List Value} {w : aw} {cn sn : Nat} {v : Nat} : wp d 110 Q 60 (some (.ref v) :: L) st w cn sn = wp d 110 Q 61 (some (.ref v) :: L) (.ref v :: st) w cn sn := w_aload_n d_110_60 rfl
theorem d_110_61 : decode (mB 110) 61 = .ok (.iload_n 1, 1) := by decide +kernel
theorem s_110_61 {d : Nat} {Q : wQ} {L : List (Option Value)} {st : List Value} {w : aw} {cn sn : Nat} {a0 : Option Value} {v : Int32} : wp d 110 Q 61 (a0 :: some (.int v) :: L) st w cn sn = wp d 110 Q 62 (a0 :: some (.int v) :: L) (.int v :: st) w cn sn := w_iload_n d_110_61 rfl
theorem d_110_62 : decode (mB 110) 62 = .ok (.iload 4, 2) := by decide +kernel
theorem s_110_62 {d : Nat} {Q : wQ} {L : List (Option Value)} {st : List Value} {w : aw} {cn sn : Nat} {a0 a1 a2 a3 : Option Value} {v : Int32} : wp d 110 Q 62 (a0 :: a1 :: a2 :: a3 :: some (.int v) :: L) st w cn sn = wp d 110 Q 64 (a0 :: a1 :: a2 :: a3 :: some (.int v) :: L) (.int v :: st) w cn sn := w_iload d_110_62 rfl
theorem d_110_64 : decode (mB 110) 64 = .ok (.invokevirtual 115, 3) := by decide +kernel
theorem s_110_64 {d : Nat} {Q : wQ} {L : List (Option Value)} {st : List Value} {w : aw} {cn sn : Nat} {v0 v1 : Value} {b : Nat} : wp d 110 Q 64 L (v1 :: v0 :: .ref b :: st) w cn sn = (kd w b = 9 ∧ catS st ≤ 8 ∧ wpD d 105 [.ref b, v0, v1] w (fun v w' => wp d 110 Q 67 L (v.toList ++ st) w' cn sn)) := w_virtual (As := [v0, v1]) d_110_64 (by decide +kernel : cT (mO 110) 115 = some (0, 105)) rfl (by decide +kernel) rfl (by decide +kernel) rfl
theorem d_110_67 : decode (mB 110) 67 = .ok (.istore 4, 2) := by decide +kernel
theorem s_110_67 {d : Nat} {Q : wQ} {L : List (Option Value)} {st : List Value} {w : aw} {cn sn : Nat} {a0 a1 a2 a3 a4 : Option Value} {v : Int32} : wp d 110 Q 67 (a0 :: a1 :: a2 :: a3 :: a4 :: L) (.int v :: st) w cn sn = wp d 110 Q 69 (a0 :: a1 :: a2 :: clr a3 :: some (.int v) :: L) st w cn sn := w_istore d_110_67 (Nat.le_add_left 5 _) rfl
theorem d_110_69 : decode (mB 110) 69 = .ok (.iload_n 2, 1) := by decide +kernel
theorem s_110_69 {d : Nat} {Q : wQ} {L : List (Option Value)} {st : List Value} {w : aw} {cn sn : Nat} {a0 a1 : Option Value} {v : Int32} : wp d 110 Q 69 (a0 :: a1 :: some (.int v) :: L) st w cn sn = wp d 110 Q 70 (a0 :: a1 :: some (.int v) :: L) (.int v :: st) w cn sn := w_iload_n d_110_69 rfl
theorem d_110_70 : decode (mB 110) 70 = .ok (.sipush 512, 3) := by decide +kernel
theorem s_110_70 {d : Nat} {Q : wQ} {L : List (Option Value)} {st : List Value} {w : aw} {cn sn : Nat}  : wp d 110 Q 70 L st w cn sn = wp d 110 Q 73 L (.int 512 :: st) w cn sn := w_sipush d_110_70 (by decide)
theorem d_110_73 : decode (mB 110) 73 = .ok (.idiv, 1) := by decide +kernel
theorem s_110_73 {d : Nat} {Q : wQ} {L : List (Option Value)} {st : List Value} {w : aw} {cn sn : Nat} {a b : Int32} : wp d 110 Q 73 L (.int b :: .int a :: st) w cn sn = (¬ b = 0 ∧ wp d 110 Q 74 L (.int (a / b) :: st) w cn sn) := wp_row d_110_73 _ _ _ _ _
theorem d_110_74 : decode (mB 110) 74 = .ok (.tableswitch 167 0 4 #[34, 53, 75, 114, 137], 34) := by decide +kernel
theorem s_110_74 {d : Nat} {Q : wQ} {L : List (Option Value)} {st : List Value} {w : aw} {cn sn : Nat} {x : Int32} : wp d 110 Q 74 L (.int x :: st) w cn sn = ((x.toInt < 0 ∨ 4 < x.toInt → wp d 110 Q 241 L st w cn sn) ∧ ∀ (i t : Nat), ([108, 127, 149, 188, 211] : List Nat)[i]? = some t → x.toInt = 0 + i → wp d 110 Q t L st w cn sn) := w_table d_110_74 (by decide) (by decide) (by decide)
theorem d_110_108 : decode (mB 110) 108 = .ok (.aload_n 0, 1) := by decide +kernel
theorem s_110_108 {d : Nat} {Q : wQ} {L : List (Option Value)} {st : List Value} {w : aw} {cn sn : Nat} {v : Nat} : wp d 110 Q 108 (some (.ref v) :: L) st w cn sn = wp d 110 Q 109 (some (.ref v) :: L) (.ref v :: st) w cn sn := w_aload_n d_110_108 rfl
theorem d_110_109 : decode (mB 110) 109 = .ok (.getfield 30, 3) := by decide +kernel
theorem s_110_109 {d : Nat} {Q : wQ} {L : List (Option Value)} {st : List Value} {w : aw} {cn sn : Nat} {a : Nat} : wp d 110 Q 109 L (.ref a :: st) w cn sn = (kd w a = 9 ∧ wp d 110 Q 112 L (fd w 528 a :: st) w cn sn) := w_getfield d_110_109 (by decide +kernel : fT (mO 110) 30 = some (8, 16))
theorem d_110_112 : decode (mB 110) 112 = .ok (.iload_n 1, 1) := by decide +kernel
theorem s_110_112 {d : Nat} {Q : wQ} {L : List (Option Value)} {st : List Value} {w : aw} {cn sn : Nat} {a0 : Option Value} {v : Int32} : wp d 110 Q 112 (a0 :: some (.int v) :: L) st w cn sn = wp d 110 Q 113 (a0 :: some (.int v) :: L) (.int v :: st) w cn sn := w_iload_n d_110_112 rfl
theorem d_110_113 : decode (mB 110) 113 = .ok (.dup2, 1) := by decide +kernel
theorem s_110_113 {d : Nat} {Q : wQ} {L : List (Option Value)} {st : List Value} {w : aw} {cn sn : Nat} {a b : Value} : wp d 110 Q 113 L (a :: b :: st) w cn sn = (a.category = 1 ∧ b.category = 1 ∧ wp d 110 Q 114 L (a :: b :: a :: b :: st) w cn sn) := wp_row d_110_113 _ _ _ _ _
theorem d_110_114 : decode (mB 110) 114 = .ok (.iaload, 1) := by decide +kernel
theorem s_110_114 {d : Nat} {Q : wQ} {L : List (Option Value)} {st : List Value} {w : aw} {cn sn : Nat} {a : Nat} {i : Int32} : wp d 110 Q 114 L (.int i :: .ref a :: st) w cn sn = ((kd w a = 20 ∨ kd w a = 30) ∧ inR i (ln w a) ∧ wp d 110 Q 115 L (.int (ai w a i.toNatClampNeg) :: st) w cn sn) := wp_row d_110_114 _ _ _ _ _
theorem d_110_115 : decode (mB 110) 115 = .ok (.aload_n 0, 1) := by decide +kernel
theorem s_110_115 {d : Nat} {Q : wQ} {L : List (Option Value)} {st : List Value} {w : aw} {cn sn : Nat} {v : Nat} : wp d 110 Q 115 (some (.ref v) :: L) st w cn sn = wp d 110 Q 116 (some (.ref v) :: L) (.ref v :: st) w cn sn := w_aload_n d_110_115 rfl
theorem d_110_116 : decode (mB 110) 116 = .ok (.iload_n 1, 1) := by decide +kernel
theorem s_110_116 {d : Nat} {Q : wQ} {L : List (Option Value)} {st : List Value} {w : aw} {cn sn : Nat} {a0 : Option Value} {v : Int32} : wp d 110 Q 116 (a0 :: some (.int v) :: L) st w cn sn = wp d 110 Q 117 (a0 :: some (.int v) :: L) (.int v :: st) w cn sn := w_iload_n d_110_116 rfl
theorem d_110_117 : decode (mB 110) 117 = .ok (.iload 4, 2) := by decide +kernel
theorem s_110_117 {d : Nat} {Q : wQ} {L : List (Option Value)} {st : List Value} {w : aw} {cn sn : Nat} {a0 a1 a2 a3 : Option Value} {v : Int32} : wp d 110 Q 117 (a0 :: a1 :: a2 :: a3 :: some (.int v) :: L) st w cn sn = wp d 110 Q 119 (a0 :: a1 :: a2 :: a3 :: some (.int v) :: L) (.int v :: st) w cn sn := w_iload d_110_117 rfl
theorem d_110_119 : decode (mB 110) 119 = .ok (.invokevirtual 115, 3) := by decide +kernel
theorem s_110_119 {d : Nat} {Q : wQ} {L : List (Option Value)} {st : List Value} {w : aw} {cn sn : Nat} {v0 v1 : Value} {b : Nat} : wp d 110 Q 119 L (v1 :: v0 :: .ref b :: st) w cn sn = (kd w b = 9 ∧ catS st ≤ 8 ∧ wpD d 105 [.ref b, v0, v1] w (fun v w' => wp d 110 Q 122 L (v.toList ++ st) w' cn sn)) := w_virtual (As := [v0, v1]) d_110_119 (by decide +kernel : cT (mO 110) 115 = some (0, 105)) rfl (by decide +kernel) rfl (by decide +kernel) rfl
theorem d_110_122 : decode (mB 110) 122 = .ok (.iand, 1) := by decide +kernel
theorem s_110_122 {d : Nat} {Q : wQ} {L : List (Option Value)} {st : List Value} {w : aw} {cn sn : Nat} {a b : Int32} : wp d 110 Q 122 L (.int b :: .int a :: st) w cn sn = wp d 110 Q 123 L (.int (a &&& b) :: st) w cn sn := wp_row d_110_122 _ _ _ _ _
theorem d_110_123 : decode (mB 110) 123 = .ok (.iastore, 1) := by decide +kernel
theorem s_110_123 {d : Nat} {Q : wQ} {L : List (Option Value)} {st : List Value} {w : aw} {cn sn : Nat} {a : Nat} {i x : Int32} : wp d 110 Q 123 L (.int x :: .int i :: .ref a :: st) w cn sn = (kd w a = 20 ∧ inR i (ln w a) ∧ wp d 110 Q 124 L st (uA w a i.toNatClampNeg x) cn sn) := wp_row d_110_123 _ _ _ _ _
theorem d_110_124 : decode (mB 110) 124 = .ok (.goto 125, 3) := by decide +kernel
theorem s_110_124 {d : Nat} {Q : wQ} {L : List (Option Value)} {st : List Value} {w : aw} {cn sn : Nat}  : wp d 110 Q 124 L st w cn sn = wp d 110 Q 249 L st w cn sn := w_goto d_110_124 (by decide)
theorem d_110_127 : decode (mB 110) 127 = .ok (.aload_n 0, 1) := by decide +kernel
theorem s_110_127 {d : Nat} {Q : wQ} {L : List (Option Value)} {st : List Value} {w : aw} {cn sn : Nat} {v : Nat} : wp d 110 Q 127 (some (.ref v) :: L) st w cn sn = wp d 110 Q 128 (some (.ref v) :: L) (.ref v :: st) w cn sn := w_aload_n d_110_127 rfl
theorem d_110_128 : decode (mB 110) 128 = .ok (.iload_n 1, 1) := by decide +kernel
theorem s_110_128 {d : Nat} {Q : wQ} {L : List (Option Value)} {st : List Value} {w : aw} {cn sn : Nat} {a0 : Option Value} {v : Int32} : wp d 110 Q 128 (a0 :: some (.int v) :: L) st w cn sn = wp d 110 Q 129 (a0 :: some (.int v) :: L) (.int v :: st) w cn sn := w_iload_n d_110_128 rfl
theorem d_110_129 : decode (mB 110) 129 = .ok (.aload_n 0, 1) := by decide +kernel
theorem s_110_129 {d : Nat} {Q : wQ} {L : List (Option Value)} {st : List Value} {w : aw} {cn sn : Nat} {v : Nat} : wp d 110 Q 129 (some (.ref v) :: L) st w cn sn = wp d 110 Q 130 (some (.ref v) :: L) (.ref v :: st) w cn sn := w_aload_n d_110_129 rfl
theorem d_110_130 : decode (mB 110) 130 = .ok (.getfield 30, 3) := by decide +kernel
theorem s_110_130 {d : Nat} {Q : wQ} {L : List (Option Value)} {st : List Value} {w : aw} {cn sn : Nat} {a : Nat} : wp d 110 Q 130 L (.ref a :: st) w cn sn = (kd w a = 9 ∧ wp d 110 Q 133 L (fd w 528 a :: st) w cn sn) := w_getfield d_110_130 (by decide +kernel : fT (mO 110) 30 = some (8, 16))
theorem d_110_133 : decode (mB 110) 133 = .ok (.iload_n 1, 1) := by decide +kernel
theorem s_110_133 {d : Nat} {Q : wQ} {L : List (Option Value)} {st : List Value} {w : aw} {cn sn : Nat} {a0 : Option Value} {v : Int32} : wp d 110 Q 133 (a0 :: some (.int v) :: L) st w cn sn = wp d 110 Q 134 (a0 :: some (.int v) :: L) (.int v :: st) w cn sn := w_iload_n d_110_133 rfl
theorem d_110_134 : decode (mB 110) 134 = .ok (.iaload, 1) := by decide +kernel
theorem s_110_134 {d : Nat} {Q : wQ} {L : List (Option Value)} {st : List Value} {w : aw} {cn sn : Nat} {a : Nat} {i : Int32} : wp d 110 Q 134 L (.int i :: .ref a :: st) w cn sn = ((kd w a = 20 ∨ kd w a = 30) ∧ inR i (ln w a) ∧ wp d 110 Q 135 L (.int (ai w a i.toNatClampNeg) :: st) w cn sn) := wp_row d_110_134 _ _ _ _ _
theorem d_110_135 : decode (mB 110) 135 = .ok (.aload_n 0, 1) := by decide +kernel
theorem s_110_135 {d : Nat} {Q : wQ} {L : List (Option Value)} {st : List Value} {w : aw} {cn sn : Nat} {v : Nat} : wp d 110 Q 135 (some (.ref v) :: L) st w cn sn = wp d 110 Q 136 (some (.ref v) :: L) (.ref v :: st) w cn sn := w_aload_n d_110_135 rfl
theorem d_110_136 : decode (mB 110) 136 = .ok (.iload_n 1, 1) := by decide +kernel
theorem s_110_136 {d : Nat} {Q : wQ} {L : List (Option Value)} {st : List Value} {w : aw} {cn sn : Nat} {a0 : Option Value} {v : Int32} : wp d 110 Q 136 (a0 :: some (.int v) :: L) st w cn sn = wp d 110 Q 137 (a0 :: some (.int v) :: L) (.int v :: st) w cn sn := w_iload_n d_110_136 rfl
theorem d_110_137 : decode (mB 110) 137 = .ok (.iload 4, 2) := by decide +kernel
theorem s_110_137 {d : Nat} {Q : wQ} {L : List (Option Value)} {st : List Value} {w : aw} {cn sn : Nat} {a0 a1 a2 a3 : Option Value} {v : Int32} : wp d 110 Q 137 (a0 :: a1 :: a2 :: a3 :: some (.int v) :: L) st w cn sn = wp d 110 Q 139 (a0 :: a1 :: a2 :: a3 :: some (.int v) :: L) (.int v :: st) w cn sn := w_iload d_110_137 rfl
theorem d_110_139 : decode (mB 110) 139 = .ok (.invokevirtual 115, 3) := by decide +kernel
theorem s_110_139 {d : Nat} {Q : wQ} {L : List (Option Value)} {st : List Value} {w : aw} {cn sn : Nat} {v0 v1 : Value} {b : Nat} : wp d 110 Q 139 L (v1 :: v0 :: .ref b :: st) w cn sn = (kd w b = 9 ∧ catS st ≤ 8 ∧ wpD d 105 [.ref b, v0, v1] w (fun v w' => wp d 110 Q 142 L (v.toList ++ st) w' cn sn)) := w_virtual (As := [v0, v1]) d_110_139 (by decide +kernel : cT (mO 110) 115 = some (0, 105)) rfl (by decide +kernel) rfl (by decide +kernel) rfl
theorem d_110_142 : decode (mB 110) 142 = .ok (.iadd, 1) := by decide +kernel
theorem s_110_142 {d : Nat} {Q : wQ} {L : List (Option Value)} {st : List Value} {w : aw} {cn sn : Nat} {a b : Int32} : wp d 110 Q 142 L (.int b :: .int a :: st) w cn sn = wp d 110 Q 143 L (.int (a + b) :: st) w cn sn := wp_row d_110_142 _ _ _ _ _
theorem d_110_143 : decode (mB 110) 143 = .ok (.invokevirtual 136, 3) := by decide +kernel
theorem s_110_143 {d : Nat} {Q : wQ} {L : List (Option Value)} {st : List Value} {w : aw} {cn sn : Nat} {v0 v1 : Value} {b : Nat} : wp d 110 Q 143 L (v1 :: v0 :: .ref b :: st) w cn sn = (kd w b = 9 ∧ catS st ≤ 8 ∧ wpD d 107 [.ref b, v0, v1] w (fun v w' => wp d 110 Q 146 L (v.toList ++ st) w' cn sn)) := w_virtual (As := [v0, v1]) d_110_143 (by decide +kernel : cT (mO 110) 136 = some (0, 107)) rfl (by decide +kernel) rfl (by decide +kernel) rfl
theorem d_110_146 : decode (mB 110) 146 = .ok (.goto 103, 3) := by decide +kernel
theorem s_110_146 {d : Nat} {Q : wQ} {L : List (Option Value)} {st : List Value} {w : aw} {cn sn : Nat}  : wp d 110 Q 146 L st w cn sn = wp d 110 Q 249 L st w cn sn := w_goto d_110_146 (by decide)
theorem d_110_149 : decode (mB 110) 149 = .ok (.aload_n 0, 1) := by decide +kernel
theorem s_110_149 {d : Nat} {Q : wQ} {L : List (Option Value)} {st : List Value} {w : aw} {cn sn : Nat} {v : Nat} : wp d 110 Q 149 (some (.ref v) :: L) st w cn sn = wp d 110 Q 150 (some (.ref v) :: L) (.ref v :: st) w cn sn := w_aload_n d_110_149 rfl
theorem d_110_150 : decode (mB 110) 150 = .ok (.iload_n 1, 1) := by decide +kernel
theorem s_110_150 {d : Nat} {Q : wQ} {L : List (Option Value)} {st : List Value} {w : aw} {cn sn : Nat} {a0 : Option Value} {v : Int32} : wp d 110 Q 150 (a0 :: some (.int v) :: L) st w cn sn = wp d 110 Q 151 (a0 :: some (.int v) :: L) (.int v :: st) w cn sn := w_iload_n d_110_150 rfl
theorem d_110_151 : decode (mB 110) 151 = .ok (.iload 4, 2) := by decide +kernel
theorem s_110_151 {d : Nat} {Q : wQ} {L : List (Option Value)} {st : List Value} {w : aw} {cn sn : Nat} {a0 a1 a2 a3 : Option Value} {v : Int32} : wp d 110 Q 151 (a0 :: a1 :: a2 :: a3 :: some (.int v) :: L) st w cn sn = wp d 110 Q 153 (a0 :: a1 :: a2 :: a3 :: some (.int v) :: L) (.int v :: st) w cn sn := w_iload d_110_151 rfl
theorem d_110_153 : decode (mB 110) 153 = .ok (.aload_n 0, 1) := by decide +kernel
theorem s_110_153 {d : Nat} {Q : wQ} {L : List (Option Value)} {st : List Value} {w : aw} {cn sn : Nat} {v : Nat} : wp d 110 Q 153 (some (.ref v) :: L) st w cn sn = wp d 110 Q 154 (some (.ref v) :: L) (.ref v :: st) w cn sn := w_aload_n d_110_153 rfl
theorem d_110_154 : decode (mB 110) 154 = .ok (.iload_n 1, 1) := by decide +kernel
theorem s_110_154 {d : Nat} {Q : wQ} {L : List (Option Value)} {st : List Value} {w : aw} {cn sn : Nat} {a0 : Option Value} {v : Int32} : wp d 110 Q 154 (a0 :: some (.int v) :: L) st w cn sn = wp d 110 Q 155 (a0 :: some (.int v) :: L) (.int v :: st) w cn sn := w_iload_n d_110_154 rfl
theorem d_110_155 : decode (mB 110) 155 = .ok (.iload 4, 2) := by decide +kernel
theorem s_110_155 {d : Nat} {Q : wQ} {L : List (Option Value)} {st : List Value} {w : aw} {cn sn : Nat} {a0 a1 a2 a3 : Option Value} {v : Int32} : wp d 110 Q 155 (a0 :: a1 :: a2 :: a3 :: some (.int v) :: L) st w cn sn = wp d 110 Q 157 (a0 :: a1 :: a2 :: a3 :: some (.int v) :: L) (.int v :: st) w cn sn := w_iload d_110_155 rfl
theorem d_110_157 : decode (mB 110) 157 = .ok (.invokevirtual 115, 3) := by decide +kernel
theorem s_110_157 {d : Nat} {Q : wQ} {L : List (Option Value)} {st : List Value} {w : aw} {cn sn : Nat} {v0 v1 : Value} {b : Nat} : wp d 110 Q 157 L (v1 :: v0 :: .ref b :: st) w cn sn = (kd w b = 9 ∧ catS st ≤ 8 ∧ wpD d 105 [.ref b, v0, v1] w (fun v w' => wp d 110 Q 160 L (v.toList ++ st) w' cn sn)) := w_virtual (As := [v0, v1]) d_110_157 (by decide +kernel : cT (mO 110) 115 = some (0, 105)) rfl (by decide +kernel) rfl (by decide +kernel) rfl
theorem d_110_160 : decode (mB 110) 160 = .ok (.iconst 1, 1) := by decide +kernel
theorem s_110_160 {d : Nat} {Q : wQ} {L : List (Option Value)} {st : List Value} {w : aw} {cn sn : Nat}  : wp d 110 Q 160 L st w cn sn = wp d 110 Q 161 L (.int 1 :: st) w cn sn := w_iconst d_110_160 (by decide)
theorem d_110_161 : decode (mB 110) 161 = .ok (.iadd, 1) := by decide +kernel
theorem s_110_161 {d : Nat} {Q : wQ} {L : List (Option Value)} {st : List Value} {w : aw} {cn sn : Nat} {a b : Int32} : wp d 110 Q 161 L (.int b :: .int a :: st) w cn sn = wp d 110 Q 162 L (.int (a + b) :: st) w cn sn := wp_row d_110_161 _ _ _ _ _
theorem d_110_162 : decode (mB 110) 162 = .ok (.invokevirtual 133, 3) := by decide +kernel
theorem s_110_162 {d : Nat} {Q : wQ} {L : List (Option Value)} {st : List Value} {w : aw} {cn sn : Nat} {v0 v1 v2 : Value} {b : Nat} : wp d 110 Q 162 L (v2 :: v1 :: v0 :: .ref b :: st) w cn sn = (kd w b = 9 ∧ catS st ≤ 8 ∧ wpD d 106 [.ref b, v0, v1, v2] w (fun v w' => wp d 110 Q 165 L (v.toList ++ st) w' cn sn)) := w_virtual (As := [v0, v1, v2]) d_110_162 (by decide +kernel : cT (mO 110) 133 = some (0, 106)) rfl (by decide +kernel) rfl (by decide +kernel) rfl
theorem d_110_165 : decode (mB 110) 165 = .ok (.aload_n 0, 1) := by decide +kernel
theorem s_110_165 {d : Nat} {Q : wQ} {L : List (Option Value)} {st : List Value} {w : aw} {cn sn : Nat} {v : Nat} : wp d 110 Q 165 (some (.ref v) :: L) st w cn sn = wp d 110 Q 166 (some (.ref v) :: L) (.ref v :: st) w cn sn := w_aload_n d_110_165 rfl
theorem d_110_166 : decode (mB 110) 166 = .ok (.iload_n 1, 1) := by decide +kernel
theorem s_110_166 {d : Nat} {Q : wQ} {L : List (Option Value)} {st : List Value} {w : aw} {cn sn : Nat} {a0 : Option Value} {v : Int32} : wp d 110 Q 166 (a0 :: some (.int v) :: L) st w cn sn = wp d 110 Q 167 (a0 :: some (.int v) :: L) (.int v :: st) w cn sn := w_iload_n d_110_166 rfl
theorem d_110_167 : decode (mB 110) 167 = .ok (.aload_n 0, 1) := by decide +kernel
theorem s_110_167 {d : Nat} {Q : wQ} {L : List (Option Value)} {st : List Value} {w : aw} {cn sn : Nat} {v : Nat} : wp d 110 Q 167 (some (.ref v) :: L) st w cn sn = wp d 110 Q 168 (some (.ref v) :: L) (.ref v :: st) w cn sn := w_aload_n d_110_167 rfl
theorem d_110_168 : decode (mB 110) 168 = .ok (.iload_n 1, 1) := by decide +kernel
theorem s_110_168 {d : Nat} {Q : wQ} {L : List (Option Value)} {st : List Value} {w : aw} {cn sn : Nat} {a0 : Option Value} {v : Int32} : wp d 110 Q 168 (a0 :: some (.int v) :: L) st w cn sn = wp d 110 Q 169 (a0 :: some (.int v) :: L) (.int v :: st) w cn sn := w_iload_n d_110_168 rfl
theorem d_110_169 : decode (mB 110) 169 = .ok (.iload 4, 2) := by decide +kernel
theorem s_110_169 {d : Nat} {Q : wQ} {L : List (Option Value)} {st : List Value} {w : aw} {cn sn : Nat} {a0 a1 a2 a3 : Option Value} {v : Int32} : wp d 110 Q 169 (a0 :: a1 :: a2 :: a3 :: some (.int v) :: L) st w cn sn = wp d 110 Q 171 (a0 :: a1 :: a2 :: a3 :: some (.int v) :: L) (.int v :: st) w cn sn := w_iload d_110_169 rfl
theorem d_110_171 : decode (mB 110) 171 = .ok (.invokevirtual 115, 3) := by decide +kernel
theorem s_110_171 {d : Nat} {Q : wQ} {L : List (Option Value)} {st : List Value} {w : aw} {cn sn : Nat} {v0 v1 : Value} {b : Nat} : wp d 110 Q 171 L (v1 :: v0 :: .ref b :: st) w cn sn = (kd w b = 9 ∧ catS st ≤ 8 ∧ wpD d 105 [.ref b, v0, v1] w (fun v w' => wp d 110 Q 174 L (v.toList ++ st) w' cn sn)) := w_virtual (As := [v0, v1]) d_110_171 (by decide +kernel : cT (mO 110) 115 = some (0, 105)) rfl (by decide +kernel) rfl (by decide +kernel) rfl
theorem d_110_174 : decode (mB 110) 174 = .ok (.ifCond .ne 7, 3) := by decide +kernel
theorem s_110_174 {d : Nat} {Q : wQ} {L : List (Option Value)} {st : List Value} {w : aw} {cn sn : Nat} {x : Int32} : wp d 110 Q 174 L (.int x :: st) w cn sn = ((¬ x = 0 → wp d 110 Q 181 L st w cn sn) ∧ (x = 0 → wp d 110 Q 177 L st w cn sn)) := w_ifne d_110_174 (by decide)
theorem d_110_177 : decode (mB 110) 177 = .ok (.iconst 1, 1) := by decide +kernel
theorem s_110_177 {d : Nat} {Q : wQ} {L : List (Option Value)} {st : List Value} {w : aw} {cn sn : Nat}  : wp d 110 Q 177 L st w cn sn = wp d 110 Q 178 L (.int 1 :: st) w cn sn := w_iconst d_110_177 (by decide)
theorem d_110_178 : decode (mB 110) 178 = .ok (.goto 4, 3) := by decide +kernel
theorem s_110_178 {d : Nat} {Q : wQ} {L : List (Option Value)} {st : List Value} {w : aw} {cn sn : Nat}  : wp d 110 Q 178 L st w cn sn = wp d 110 Q 182 L st w cn sn := w_goto d_110_178 (by decide)
theorem d_110_181 : decode (mB 110) 181 = .ok (.iconst 0, 1) := by decide +kernel
theorem s_110_181 {d : Nat} {Q : wQ} {L : List (Option Value)} {st : List Value} {w : aw} {cn sn : Nat}  : wp d 110 Q 181 L st w cn sn = wp d 110 Q 182 L (.int 0 :: st) w cn sn := w_iconst d_110_181 (by decide)
theorem d_110_182 : decode (mB 110) 182 = .ok (.invokevirtual 139, 3) := by decide +kernel
theorem s_110_182 {d : Nat} {Q : wQ} {L : List (Option Value)} {st : List Value} {w : aw} {cn sn : Nat} {v0 v1 : Value} {b : Nat} : wp d 110 Q 182 L (v1 :: v0 :: .ref b :: st) w cn sn = (kd w b = 9 ∧ catS st ≤ 8 ∧ wpD d 108 [.ref b, v0, v1] w (fun v w' => wp d 110 Q 185 L (v.toList ++ st) w' cn sn)) := w_virtual (As := [v0, v1]) d_110_182 (by decide +kernel : cT (mO 110) 139 = some (0, 108)) rfl (by decide +kernel) rfl (by decide +kernel) rfl
theorem d_110_185 : decode (mB 110) 185 = .ok (.goto 64, 3) := by decide +kernel
theorem s_110_185 {d : Nat} {Q : wQ} {L : List (Option Value)} {st : List Value} {w : aw} {cn sn : Nat}  : wp d 110 Q 185 L st w cn sn = wp d 110 Q 249 L st w cn sn := w_goto d_110_185 (by decide)
theorem d_110_188 : decode (mB 110) 188 = .ok (.aload_n 0, 1) := by decide +kernel
theorem s_110_188 {d : Nat} {Q : wQ} {L : List (Option Value)} {st : List Value} {w : aw} {cn sn : Nat} {v : Nat} : wp d 110 Q 188 (some (.ref v) :: L) st w cn sn = wp d 110 Q 189 (some (.ref v) :: L) (.ref v :: st) w cn sn := w_aload_n d_110_188 rfl
theorem d_110_189 : decode (mB 110) 189 = .ok (.iload_n 1, 1) := by decide +kernel
theorem s_110_189 {d : Nat} {Q : wQ} {L : List (Option Value)} {st : List Value} {w : aw} {cn sn : Nat} {a0 : Option Value} {v : Int32} : wp d 110 Q 189 (a0 :: some (.int v) :: L) st w cn sn = wp d 110 Q 190 (a0 :: some (.int v) :: L) (.int v :: st) w cn sn := w_iload_n d_110_189 rfl
theorem d_110_190 : decode (mB 110) 190 = .ok (.iload 4, 2) := by decide +kernel
theorem s_110_190 {d : Nat} {Q : wQ} {L : List (Option Value)} {st : List Value} {w : aw} {cn sn : Nat} {a0 a1 a2 a3 : Option Value} {v : Int32} : wp d 110 Q 190 (a0 :: a1 :: a2 :: a3 :: some (.int v) :: L) st w cn sn = wp d 110 Q 192 (a0 :: a1 :: a2 :: a3 :: some (.int v) :: L) (.int v :: st) w cn sn := w_iload d_110_190 rfl
theorem d_110_192 : decode (mB 110) 192 = .ok (.aload_n 0, 1) := by decide +kernel
theorem s_110_192 {d : Nat} {Q : wQ} {L : List (Option Value)} {st : List Value} {w : aw} {cn sn : Nat} {v : Nat} : wp d 110 Q 192 (some (.ref v) :: L) st w cn sn = wp d 110 Q 193 (some (.ref v) :: L) (.ref v :: st) w cn sn := w_aload_n d_110_192 rfl
theorem d_110_193 : decode (mB 110) 193 = .ok (.getfield 30, 3) := by decide +kernel
theorem s_110_193 {d : Nat} {Q : wQ} {L : List (Option Value)} {st : List Value} {w : aw} {cn sn : Nat} {a : Nat} : wp d 110 Q 193 L (.ref a :: st) w cn sn = (kd w a = 9 ∧ wp d 110 Q 196 L (fd w 528 a :: st) w cn sn) := w_getfield d_110_193 (by decide +kernel : fT (mO 110) 30 = some (8, 16))
theorem d_110_196 : decode (mB 110) 196 = .ok (.iload_n 1, 1) := by decide +kernel
theorem s_110_196 {d : Nat} {Q : wQ} {L : List (Option Value)} {st : List Value} {w : aw} {cn sn : Nat} {a0 : Option Value} {v : Int32} : wp d 110 Q 196 (a0 :: some (.int v) :: L) st w cn sn = wp d 110 Q 197 (a0 :: some (.int v) :: L) (.int v :: st) w cn sn := w_iload_n d_110_196 rfl
theorem d_110_197 : decode (mB 110) 197 = .ok (.iaload, 1) := by decide +kernel
theorem s_110_197 {d : Nat} {Q : wQ} {L : List (Option Value)} {st : List Value} {w : aw} {cn sn : Nat} {a : Nat} {i : Int32} : wp d 110 Q 197 L (.int i :: .ref a :: st) w cn sn = ((kd w a = 20 ∨ kd w a = 30) ∧ inR i (ln w a) ∧ wp d 110 Q 198 L (.int (ai w a i.toNatClampNeg) :: st) w cn sn) := wp_row d_110_197 _ _ _ _ _
theorem d_110_198 : decode (mB 110) 198 = .ok (.invokevirtual 133, 3) := by decide +kernel
theorem s_110_198 {d : Nat} {Q : wQ} {L : List (Option Value)} {st : List Value} {w : aw} {cn sn : Nat} {v0 v1 v2 : Value} {b : Nat} : wp d 110 Q 198 L (v2 :: v1 :: v0 :: .ref b :: st) w cn sn = (kd w b = 9 ∧ catS st ≤ 8 ∧ wpD d 106 [.ref b, v0, v1, v2] w (fun v w' => wp d 110 Q 201 L (v.toList ++ st) w' cn sn)) := w_virtual (As := [v0, v1, v2]) d_110_198 (by decide +kernel : cT (mO 110) 133 = some (0, 106)) rfl (by decide +kernel) rfl (by decide +kernel) rfl
theorem d_110_201 : decode (mB 110) 201 = .ok (.aload_n 0, 1) := by decide +kernel
theorem s_110_201 {d : Nat} {Q : wQ} {L : List (Option Value)} {st : List Value} {w : aw} {cn sn : Nat} {v : Nat} : wp d 110 Q 201 (some (.ref v) :: L) st w cn sn = wp d 110 Q 202 (some (.ref v) :: L) (.ref v :: st) w cn sn := w_aload_n d_110_201 rfl
theorem d_110_202 : decode (mB 110) 202 = .ok (.getfield 30, 3) := by decide +kernel
theorem s_110_202 {d : Nat} {Q : wQ} {L : List (Option Value)} {st : List Value} {w : aw} {cn sn : Nat} {a : Nat} : wp d 110 Q 202 L (.ref a :: st) w cn sn = (kd w a = 9 ∧ wp d 110 Q 205 L (fd w 528 a :: st) w cn sn) := w_getfield d_110_202 (by decide +kernel : fT (mO 110) 30 = some (8, 16))
theorem d_110_205 : decode (mB 110) 205 = .ok (.iload_n 1, 1) := by decide +kernel
theorem s_110_205 {d : Nat} {Q : wQ} {L : List (Option Value)} {st : List Value} {w : aw} {cn sn : Nat} {a0 : Option Value} {v : Int32} : wp d 110 Q 205 (a0 :: some (.int v) :: L) st w cn sn = wp d 110 Q 206 (a0 :: some (.int v) :: L) (.int v :: st) w cn sn := w_iload_n d_110_205 rfl
theorem d_110_206 : decode (mB 110) 206 = .ok (.iconst 0, 1) := by decide +kernel
theorem s_110_206 {d : Nat} {Q : wQ} {L : List (Option Value)} {st : List Value} {w : aw} {cn sn : Nat}  : wp d 110 Q 206 L st w cn sn = wp d 110 Q 207 L (.int 0 :: st) w cn sn := w_iconst d_110_206 (by decide)
theorem d_110_207 : decode (mB 110) 207 = .ok (.iastore, 1) := by decide +kernel
theorem s_110_207 {d : Nat} {Q : wQ} {L : List (Option Value)} {st : List Value} {w : aw} {cn sn : Nat} {a : Nat} {i x : Int32} : wp d 110 Q 207 L (.int x :: .int i :: .ref a :: st) w cn sn = (kd w a = 20 ∧ inR i (ln w a) ∧ wp d 110 Q 208 L st (uA w a i.toNatClampNeg x) cn sn) := wp_row d_110_207 _ _ _ _ _
theorem d_110_208 : decode (mB 110) 208 = .ok (.goto 41, 3) := by decide +kernel
theorem s_110_208 {d : Nat} {Q : wQ} {L : List (Option Value)} {st : List Value} {w : aw} {cn sn : Nat}  : wp d 110 Q 208 L st w cn sn = wp d 110 Q 249 L st w cn sn := w_goto d_110_208 (by decide)
theorem d_110_211 : decode (mB 110) 211 = .ok (.aload_n 0, 1) := by decide +kernel
theorem s_110_211 {d : Nat} {Q : wQ} {L : List (Option Value)} {st : List Value} {w : aw} {cn sn : Nat} {v : Nat} : wp d 110 Q 211 (some (.ref v) :: L) st w cn sn = wp d 110 Q 212 (some (.ref v) :: L) (.ref v :: st) w cn sn := w_aload_n d_110_211 rfl
theorem d_110_212 : decode (mB 110) 212 = .ok (.iload_n 1, 1) := by decide +kernel
theorem s_110_212 {d : Nat} {Q : wQ} {L : List (Option Value)} {st : List Value} {w : aw} {cn sn : Nat} {a0 : Option Value} {v : Int32} : wp d 110 Q 212 (a0 :: some (.int v) :: L) st w cn sn = wp d 110 Q 213 (a0 :: some (.int v) :: L) (.int v :: st) w cn sn := w_iload_n d_110_212 rfl
theorem d_110_213 : decode (mB 110) 213 = .ok (.iload 4, 2) := by decide +kernel
theorem s_110_213 {d : Nat} {Q : wQ} {L : List (Option Value)} {st : List Value} {w : aw} {cn sn : Nat} {a0 a1 a2 a3 : Option Value} {v : Int32} : wp d 110 Q 213 (a0 :: a1 :: a2 :: a3 :: some (.int v) :: L) st w cn sn = wp d 110 Q 215 (a0 :: a1 :: a2 :: a3 :: some (.int v) :: L) (.int v :: st) w cn sn := w_iload d_110_213 rfl
theorem d_110_215 : decode (mB 110) 215 = .ok (.aload_n 0, 1) := by decide +kernel
theorem s_110_215 {d : Nat} {Q : wQ} {L : List (Option Value)} {st : List Value} {w : aw} {cn sn : Nat} {v : Nat} : wp d 110 Q 215 (some (.ref v) :: L) st w cn sn = wp d 110 Q 216 (some (.ref v) :: L) (.ref v :: st) w cn sn := w_aload_n d_110_215 rfl
theorem d_110_216 : decode (mB 110) 216 = .ok (.getfield 33, 3) := by decide +kernel
theorem s_110_216 {d : Nat} {Q : wQ} {L : List (Option Value)} {st : List Value} {w : aw} {cn sn : Nat} {a : Nat} : wp d 110 Q 216 L (.ref a :: st) w cn sn = (kd w a = 9 ∧ wp d 110 Q 219 L (fd w 529 a :: st) w cn sn) := w_getfield d_110_216 (by decide +kernel : fT (mO 110) 33 = some (8, 17))
theorem d_110_219 : decode (mB 110) 219 = .ok (.iload_n 1, 1) := by decide +kernel
theorem s_110_219 {d : Nat} {Q : wQ} {L : List (Option Value)} {st : List Value} {w : aw} {cn sn : Nat} {a0 : Option Value} {v : Int32} : wp d 110 Q 219 (a0 :: some (.int v) :: L) st w cn sn = wp d 110 Q 220 (a0 :: some (.int v) :: L) (.int v :: st) w cn sn := w_iload_n d_110_219 rfl
theorem d_110_220 : decode (mB 110) 220 = .ok (.iaload, 1) := by decide +kernel
theorem s_110_220 {d : Nat} {Q : wQ} {L : List (Option Value)} {st : List Value} {w : aw} {cn sn : Nat} {a : Nat} {i : Int32} : wp d 110 Q 220 L (.int i :: .ref a :: st) w cn sn = ((kd w a = 20 ∨ kd w a = 30) ∧ inR i (ln w a) ∧ wp d 110 Q 221 L (.int (ai w a i.toNatClampNeg) :: st) w cn sn) := wp_row d_110_220 _ _ _ _ _
theorem d_110_221 : decode (mB 110) 221 = .ok (.invokevirtual 133, 3) := by decide +kernel
theorem s_110_221 {d : Nat} {Q : wQ} {L : List (Option Value)} {st : List Value} {w : aw} {cn sn : Nat} {v0 v1 v2 : Value} {b : Nat} : wp d 110 Q 221 L (v2 :: v1 :: v0 :: .ref b :: st) w cn sn = (kd w b = 9 ∧ catS st ≤ 8 ∧ wpD d 106 [.ref b, v0, v1, v2] w (fun v w' => wp d 110 Q 224 L (v.toList ++ st) w' cn sn)) := w_virtual (As := [v0, v1, v2]) d_110_221 (by decide +kernel : cT (mO 110) 133 = some (0, 106)) rfl (by decide +kernel) rfl (by decide +kernel) rfl
theorem d_110_224 : decode (mB 110) 224 = .ok (.aload_n 0, 1) := by decide +kernel
theorem s_110_224 {d : Nat} {Q : wQ} {L : List (Option Value)} {st : List Value} {w : aw} {cn sn : Nat} {v : Nat} : wp d 110 Q 224 (some (.ref v) :: L) st w cn sn = wp d 110 Q 225 (some (.ref v) :: L) (.ref v :: st) w cn sn := w_aload_n d_110_224 rfl
theorem d_110_225 : decode (mB 110) 225 = .ok (.getfield 33, 3) := by decide +kernel
theorem s_110_225 {d : Nat} {Q : wQ} {L : List (Option Value)} {st : List Value} {w : aw} {cn sn : Nat} {a : Nat} : wp d 110 Q 225 L (.ref a :: st) w cn sn = (kd w a = 9 ∧ wp d 110 Q 228 L (fd w 529 a :: st) w cn sn) := w_getfield d_110_225 (by decide +kernel : fT (mO 110) 33 = some (8, 17))
theorem d_110_228 : decode (mB 110) 228 = .ok (.iload_n 1, 1) := by decide +kernel
theorem s_110_228 {d : Nat} {Q : wQ} {L : List (Option Value)} {st : List Value} {w : aw} {cn sn : Nat} {a0 : Option Value} {v : Int32} : wp d 110 Q 228 (a0 :: some (.int v) :: L) st w cn sn = wp d 110 Q 229 (a0 :: some (.int v) :: L) (.int v :: st) w cn sn := w_iload_n d_110_228 rfl
theorem d_110_229 : decode (mB 110) 229 = .ok (.iload 4, 2) := by decide +kernel
theorem s_110_229 {d : Nat} {Q : wQ} {L : List (Option Value)} {st : List Value} {w : aw} {cn sn : Nat} {a0 a1 a2 a3 : Option Value} {v : Int32} : wp d 110 Q 229 (a0 :: a1 :: a2 :: a3 :: some (.int v) :: L) st w cn sn = wp d 110 Q 231 (a0 :: a1 :: a2 :: a3 :: some (.int v) :: L) (.int v :: st) w cn sn := w_iload d_110_229 rfl
theorem d_110_231 : decode (mB 110) 231 = .ok (.iconst 1, 1) := by decide +kernel
theorem s_110_231 {d : Nat} {Q : wQ} {L : List (Option Value)} {st : List Value} {w : aw} {cn sn : Nat}  : wp d 110 Q 231 L st w cn sn = wp d 110 Q 232 L (.int 1 :: st) w cn sn := w_iconst d_110_231 (by decide)
theorem d_110_232 : decode (mB 110) 232 = .ok (.iadd, 1) := by decide +kernel
theorem s_110_232 {d : Nat} {Q : wQ} {L : List (Option Value)} {st : List Value} {w : aw} {cn sn : Nat} {a b : Int32} : wp d 110 Q 232 L (.int b :: .int a :: st) w cn sn = wp d 110 Q 233 L (.int (a + b) :: st) w cn sn := wp_row d_110_232 _ _ _ _ _
theorem d_110_233 : decode (mB 110) 233 = .ok (.sipush 4095, 3) := by decide +kernel
theorem s_110_233 {d : Nat} {Q : wQ} {L : List (Option Value)} {st : List Value} {w : aw} {cn sn : Nat}  : wp d 110 Q 233 L st w cn sn = wp d 110 Q 236 L (.int 4095 :: st) w cn sn := w_sipush d_110_233 (by decide)
theorem d_110_236 : decode (mB 110) 236 = .ok (.iand, 1) := by decide +kernel
theorem s_110_236 {d : Nat} {Q : wQ} {L : List (Option Value)} {st : List Value} {w : aw} {cn sn : Nat} {a b : Int32} : wp d 110 Q 236 L (.int b :: .int a :: st) w cn sn = wp d 110 Q 237 L (.int (a &&& b) :: st) w cn sn := wp_row d_110_236 _ _ _ _ _
theorem d_110_237 : decode (mB 110) 237 = .ok (.iastore, 1) := by decide +kernel
theorem s_110_237 {d : Nat} {Q : wQ} {L : List (Option Value)} {st : List Value} {w : aw} {cn sn : Nat} {a : Nat} {i x : Int32} : wp d 110 Q 237 L (.int x :: .int i :: .ref a :: st) w cn sn = (kd w a = 20 ∧ inR i (ln w a) ∧ wp d 110 Q 238 L st (uA w a i.toNatClampNeg x) cn sn) := wp_row d_110_237 _ _ _ _ _
theorem d_110_238 : decode (mB 110) 238 = .ok (.goto 11, 3) := by decide +kernel
theorem s_110_238 {d : Nat} {Q : wQ} {L : List (Option Value)} {st : List Value} {w : aw} {cn sn : Nat}  : wp d 110 Q 238 L st w cn sn = wp d 110 Q 249 L st w cn sn := w_goto d_110_238 (by decide)
theorem d_110_241 : decode (mB 110) 241 = .ok (.aload_n 0, 1) := by decide +kernel
theorem s_110_241 {d : Nat} {Q : wQ} {L : List (Option Value)} {st : List Value} {w : aw} {cn sn : Nat} {v : Nat} : wp d 110 Q 241 (some (.ref v) :: L) st w cn sn = wp d 110 Q 242 (some (.ref v) :: L) (.ref v :: st) w cn sn := w_aload_n d_110_241 rfl
theorem d_110_242 : decode (mB 110) 242 = .ok (.getfield 33, 3) := by decide +kernel
theorem s_110_242 {d : Nat} {Q : wQ} {L : List (Option Value)} {st : List Value} {w : aw} {cn sn : Nat} {a : Nat} : wp d 110 Q 242 L (.ref a :: st) w cn sn = (kd w a = 9 ∧ wp d 110 Q 245 L (fd w 529 a :: st) w cn sn) := w_getfield d_110_242 (by decide +kernel : fT (mO 110) 33 = some (8, 17))
theorem d_110_245 : decode (mB 110) 245 = .ok (.iload_n 1, 1) := by decide +kernel
theorem s_110_245 {d : Nat} {Q : wQ} {L : List (Option Value)} {st : List Value} {w : aw} {cn sn : Nat} {a0 : Option Value} {v : Int32} : wp d 110 Q 245 (a0 :: some (.int v) :: L) st w cn sn = wp d 110 Q 246 (a0 :: some (.int v) :: L) (.int v :: st) w cn sn := w_iload_n d_110_245 rfl
theorem d_110_246 : decode (mB 110) 246 = .ok (.iload 4, 2) := by decide +kernel
theorem s_110_246 {d : Nat} {Q : wQ} {L : List (Option Value)} {st : List Value} {w : aw} {cn sn : Nat} {a0 a1 a2 a3 : Option Value} {v : Int32} : wp d 110 Q 246 (a0 :: a1 :: a2 :: a3 :: some (.int v) :: L) st w cn sn = wp d 110 Q 248 (a0 :: a1 :: a2 :: a3 :: some (.int v) :: L) (.int v :: st) w cn sn := w_iload d_110_246 rfl
theorem d_110_248 : decode (mB 110) 248 = .ok (.iastore, 1) := by decide +kernel
theorem s_110_248 {d : Nat} {Q : wQ} {L : List (Option Value)} {st : List Value} {w : aw} {cn sn : Nat} {a : Nat} {i x : Int32} : wp d 110 Q 248 L (.int x :: .int i :: .ref a :: st) w cn sn = (kd w a = 20 ∧ inR i (ln w a) ∧ wp d 110 Q 249 L st (uA w a i.toNatClampNeg x) cn sn) := wp_row d_110_248 _ _ _ _ _
theorem d_110_249 : decode (mB 110) 249 = .ok (.return_, 1) := by decide +kernel
theorem s_110_249 {d : Nat} {Q : wQ} {L : List (Option Value)} {w : aw} {cn sn : Nat}  : wp d 110 Q 249 L [] w cn sn = Q none w := w_return d_110_249 rfl
theorem d_111_0 : decode (mB 111) 0 = .ok (.iload_n 2, 1) := by decide +kernel
theorem s_111_0 {d : Nat} {Q : wQ} {L : List (Option Value)} {st : List Value} {w : aw} {cn sn : Nat} {a0 a1 : Option Value} {v : Int32} : wp d 111 Q 0 (a0 :: a1 :: some (.int v) :: L) st w cn sn = wp d 111 Q 1 (a0 :: a1 :: some (.int v) :: L) (.int v :: st) w cn sn := w_iload_n d_111_0 rfl
theorem d_111_1 : decode (mB 111) 1 = .ok (.sipush 128, 3) := by decide +kernel
theorem s_111_1 {d : Nat} {Q : wQ} {L : List (Option Value)} {st : List Value} {w : aw} {cn sn : Nat}  : wp d 111 Q 1 L st w cn sn = wp d 111 Q 4 L (.int 128 :: st) w cn sn := w_sipush d_111_1 (by decide)
theorem d_111_4 : decode (mB 111) 4 = .ok (.iand, 1) := by decide +kernel
theorem s_111_4 {d : Nat} {Q : wQ} {L : List (Option Value)} {st : List Value} {w : aw} {cn sn : Nat} {a b : Int32} : wp d 111 Q 4 L (.int b :: .int a :: st) w cn sn = wp d 111 Q 5 L (.int (a &&& b) :: st) w cn sn := wp_row d_111_4 _ _ _ _ _
theorem d_111_5 : decode (mB 111) 5 = .ok (.ifCond .le 10, 3) := by decide +kernel
theorem s_111_5 {d : Nat} {Q : wQ} {L : List (Option Value)} {st : List Value} {w : aw} {cn sn : Nat} {x : Int32} : wp d 111 Q 5 L (.int x :: st) w cn sn = ((x ≤ 0 → wp d 111 Q 15 L st w cn sn) ∧ (¬ x ≤ 0 → wp d 111 Q 8 L st w cn sn)) := w_ifle d_111_5 (by decide)
theorem d_111_8 : decode (mB 111) 8 = .ok (.aload_n 0, 1) := by decide +kernel
theorem s_111_8 {d : Nat} {Q : wQ} {L : List (Option Value)} {st : List Value} {w : aw} {cn sn : Nat} {v : Nat} : wp d 111 Q 8 (some (.ref v) :: L) st w cn sn = wp d 111 Q 9 (some (.ref v) :: L) (.ref v :: st) w cn sn := w_aload_n d_111_8 rfl
theorem d_111_9 : decode (mB 111) 9 = .ok (.getfield 30, 3) := by decide +kernel
theorem s_111_9 {d : Nat} {Q : wQ} {L : List (Option Value)} {st : List Value} {w : aw} {cn sn : Nat} {a : Nat} : wp d 111 Q 9 L (.ref a :: st) w cn sn = (kd w a = 9 ∧ wp d 111 Q 12 L (fd w 528 a :: st) w cn sn) := w_getfield d_111_9 (by decide +kernel : fT (mO 111) 30 = some (8, 16))
theorem d_111_12 : decode (mB 111) 12 = .ok (.iload_n 1, 1) := by decide +kernel
theorem s_111_12 {d : Nat} {Q : wQ} {L : List (Option Value)} {st : List Value} {w : aw} {cn sn : Nat} {a0 : Option Value} {v : Int32} : wp d 111 Q 12 (a0 :: some (.int v) :: L) st w cn sn = wp d 111 Q 13 (a0 :: some (.int v) :: L) (.int v :: st) w cn sn := w_iload_n d_111_12 rfl
theorem d_111_13 : decode (mB 111) 13 = .ok (.iconst 0, 1) := by decide +kernel
theorem s_111_13 {d : Nat} {Q : wQ} {L : List (Option Value)} {st : List Value} {w : aw} {cn sn : Nat}  : wp d 111 Q 13 L st w cn sn = wp d 111 Q 14 L (.int 0 :: st) w cn sn := w_iconst d_111_13 (by decide)
theorem d_111_14 : decode (mB 111) 14 = .ok (.iastore, 1) := by decide +kernel
theorem s_111_14 {d : Nat} {Q : wQ} {L : List (Option Value)} {st : List Value} {w : aw} {cn sn : Nat} {a : Nat} {i x : Int32} : wp d 111 Q 14 L (.int x :: .int i :: .ref a :: st) w cn sn = (kd w a = 20 ∧ inR i (ln w a) ∧ wp d 111 Q 15 L st (uA w a i.toNatClampNeg x) cn sn) := wp_row d_111_14 _ _ _ _ _
theorem d_111_15 : decode (mB 111) 15 = .ok (.iload_n 2, 1) := by decide +kernel
theorem s_111_15 {d : Nat} {Q : wQ} {L : List (Option Value)} {st : List Value} {w : aw} {cn sn : Nat} {a0 a1 : Option Value} {v : Int32} : wp d 111 Q 15 (a0 :: a1 :: some (.int v) :: L) st w cn sn = wp d 111 Q 16 (a0 :: a1 :: some (.int v) :: L) (.int v :: st) w cn sn := w_iload_n d_111_15 rfl
theorem d_111_16 : decode (mB 111) 16 = .ok (.bipush 64, 2) := by decide +kernel
theorem s_111_16 {d : Nat} {Q : wQ} {L : List (Option Value)} {st : List Value} {w : aw} {cn sn : Nat}  : wp d 111 Q 16 L st w cn sn = wp d 111 Q 18 L (.int 64 :: st) w cn sn := w_bipush d_111_16 (by decide)
theorem d_111_18 : decode (mB 111) 18 = .ok (.iand, 1) := by decide +kernel
theorem s_111_18 {d : Nat} {Q : wQ} {L : List (Option Value)} {st : List Value} {w : aw} {cn sn : Nat} {a b : Int32} : wp d 111 Q 18 L (.int b :: .int a :: st) w cn sn = wp d 111 Q 19 L (.int (a &&& b) :: st) w cn sn := wp_row d_111_18 _ _ _ _ _
theorem d_111_19 : decode (mB 111) 19 = .ok (.ifCond .le 10, 3) := by decide +kernel
theorem s_111_19 {d : Nat} {Q : wQ} {L : List (Option Value)} {st : List Value} {w : aw} {cn sn : Nat} {x : Int32} : wp d 111 Q 19 L (.int x :: st) w cn sn = ((x ≤ 0 → wp d 111 Q 29 L st w cn sn) ∧ (¬ x ≤ 0 → wp d 111 Q 22 L st w cn sn)) := w_ifle d_111_19 (by decide)
theorem d_111_22 : decode (mB 111) 22 = .ok (.aload_n 0, 1) := by decide +kernel
theorem s_111_22 {d : Nat} {Q : wQ} {L : List (Option Value)} {st : List Value} {w : aw} {cn sn : Nat} {v : Nat} : wp d 111 Q 22 (some (.ref v) :: L) st w cn sn = wp d 111 Q 23 (some (.ref v) :: L) (.ref v :: st) w cn sn := w_aload_n d_111_22 rfl
theorem d_111_23 : decode (mB 111) 23 = .ok (.getfield 36, 3) := by decide +kernel
theorem s_111_23 {d : Nat} {Q : wQ} {L : List (Option Value)} {st : List Value} {w : aw} {cn sn : Nat} {a : Nat} : wp d 111 Q 23 L (.ref a :: st) w cn sn = (kd w a = 9 ∧ wp d 111 Q 26 L (fd w 530 a :: st) w cn sn) := w_getfield d_111_23 (by decide +kernel : fT (mO 111) 36 = some (8, 18))
theorem d_111_26 : decode (mB 111) 26 = .ok (.iload_n 1, 1) := by decide +kernel
theorem s_111_26 {d : Nat} {Q : wQ} {L : List (Option Value)} {st : List Value} {w : aw} {cn sn : Nat} {a0 : Option Value} {v : Int32} : wp d 111 Q 26 (a0 :: some (.int v) :: L) st w cn sn = wp d 111 Q 27 (a0 :: some (.int v) :: L) (.int v :: st) w cn sn := w_iload_n d_111_26 rfl
theorem d_111_27 : decode (mB 111) 27 = .ok (.iconst 0, 1) := by decide +kernel
theorem s_111_27 {d : Nat} {Q : wQ} {L : List (Option Value)} {st : List Value} {w : aw} {cn sn : Nat}  : wp d 111 Q 27 L st w cn sn = wp d 111 Q 28 L (.int 0 :: st) w cn sn := w_iconst d_111_27 (by decide)
theorem d_111_28 : decode (mB 111) 28 = .ok (.iastore, 1) := by decide +kernel
theorem s_111_28 {d : Nat} {Q : wQ} {L : List (Option Value)} {st : List Value} {w : aw} {cn sn : Nat} {a : Nat} {i x : Int32} : wp d 111 Q 28 L (.int x :: .int i :: .ref a :: st) w cn sn = (kd w a = 20 ∧ inR i (ln w a) ∧ wp d 111 Q 29 L st (uA w a i.toNatClampNeg x) cn sn) := wp_row d_111_28 _ _ _ _ _
theorem d_111_29 : decode (mB 111) 29 = .ok (.iload_n 2, 1) := by decide +kernel
theorem s_111_29 {d : Nat} {Q : wQ} {L : List (Option Value)} {st : List Value} {w : aw} {cn sn : Nat} {a0 a1 : Option Value} {v : Int32} : wp d 111 Q 29 (a0 :: a1 :: some (.int v) :: L) st w cn sn = wp d 111 Q 30 (a0 :: a1 :: some (.int v) :: L) (.int v :: st) w cn sn := w_iload_n d_111_29 rfl
theorem d_111_30 : decode (mB 111) 30 = .ok (.bipush 32, 2) := by decide +kernel
theorem s_111_30 {d : Nat} {Q : wQ} {L : List (Option Value)} {st : List Value} {w : aw} {cn sn : Nat}  : wp d 111 Q 30 L st w cn sn = wp d 111 Q 32 L (.int 32 :: st) w cn sn := w_bipush d_111_30 (by decide)
theorem d_111_32 : decode (mB 111) 32 = .ok (.iand, 1) := by decide +kernel
theorem s_111_32 {d : Nat} {Q : wQ} {L : List (Option Value)} {st : List Value} {w : aw} {cn sn : Nat} {a b : Int32} : wp d 111 Q 32 L (.int b :: .int a :: st) w cn sn = wp d 111 Q 33 L (.int (a &&& b) :: st) w cn sn := wp_row d_111_32 _ _ _ _ _
theorem d_111_33 : decode (mB 111) 33 = .ok (.ifCond .le 19, 3) := by decide +kernel
theorem s_111_33 {d : Nat} {Q : wQ} {L : List (Option Value)} {st : List Value} {w : aw} {cn sn : Nat} {x : Int32} : wp d 111 Q 33 L (.int x :: st) w cn sn = ((x ≤ 0 → wp d 111 Q 52 L st w cn sn) ∧ (¬ x ≤ 0 → wp d 111 Q 36 L st w cn sn)) := w_ifle d_111_33 (by decide)
theorem d_111_36 : decode (mB 111) 36 = .ok (.aload_n 0, 1) := by decide +kernel
theorem s_111_36 {d : Nat} {Q : wQ} {L : List (Option Value)} {st : List Value} {w : aw} {cn sn : Nat} {v : Nat} : wp d 111 Q 36 (some (.ref v) :: L) st w cn sn = wp d 111 Q 37 (some (.ref v) :: L) (.ref v :: st) w cn sn := w_aload_n d_111_36 rfl
theorem d_111_37 : decode (mB 111) 37 = .ok (.getfield 30, 3) := by decide +kernel
theorem s_111_37 {d : Nat} {Q : wQ} {L : List (Option Value)} {st : List Value} {w : aw} {cn sn : Nat} {a : Nat} : wp d 111 Q 37 L (.ref a :: st) w cn sn = (kd w a = 9 ∧ wp d 111 Q 40 L (fd w 528 a :: st) w cn sn) := w_getfield d_111_37 (by decide +kernel : fT (mO 111) 30 = some (8, 16))
theorem d_111_40 : decode (mB 111) 40 = .ok (.iload_n 1, 1) := by decide +kernel
theorem s_111_40 {d : Nat} {Q : wQ} {L : List (Option Value)} {st : List Value} {w : aw} {cn sn : Nat} {a0 : Option Value} {v : Int32} : wp d 111 Q 40 (a0 :: some (.int v) :: L) st w cn sn = wp d 111 Q 41 (a0 :: some (.int v) :: L) (.int v :: st) w cn sn := w_iload_n d_111_40 rfl
theorem d_111_41 : decode (mB 111) 41 = .ok (.sipush 4095, 3) := by decide +kernel
theorem s_111_41 {d : Nat} {Q : wQ} {L : List (Option Value)} {st : List Value} {w : aw} {cn sn : Nat}  : wp d 111 Q 41 L st w cn sn = wp d 111 Q 44 L (.int 4095 :: st) w cn sn := w_sipush d_111_41 (by decide)
theorem d_111_44 : decode (mB 111) 44 = .ok (.aload_n 0, 1) := by decide +kernel
theorem s_111_44 {d : Nat} {Q : wQ} {L : List (Option Value)} {st : List Value} {w : aw} {cn sn : Nat} {v : Nat} : wp d 111 Q 44 (some (.ref v) :: L) st w cn sn = wp d 111 Q 45 (some (.ref v) :: L) (.ref v :: st) w cn sn := w_aload_n d_111_44 rfl
theorem d_111_45 : decode (mB 111) 45 = .ok (.getfield 30, 3) := by decide +kernel
theorem s_111_45 {d : Nat} {Q : wQ} {L : List (Option Value)} {st : List Value} {w : aw} {cn sn : Nat} {a : Nat} : wp d 111 Q 45 L (.ref a :: st) w cn sn = (kd w a = 9 ∧ wp d 111 Q 48 L (fd w 528 a :: st) w cn sn) := w_getfield d_111_45 (by decide +kernel : fT (mO 111) 30 = some (8, 16))
theorem d_111_48 : decode (mB 111) 48 = .ok (.iload_n 1, 1) := by decide +kernel
theorem s_111_48 {d : Nat} {Q : wQ} {L : List (Option Value)} {st : List Value} {w : aw} {cn sn : Nat} {a0 : Option Value} {v : Int32} : wp d 111 Q 48 (a0 :: some (.int v) :: L) st w cn sn = wp d 111 Q 49 (a0 :: some (.int v) :: L) (.int v :: st) w cn sn := w_iload_n d_111_48 rfl
theorem d_111_49 : decode (mB 111) 49 = .ok (.iaload, 1) := by decide +kernel
theorem s_111_49 {d : Nat} {Q : wQ} {L : List (Option Value)} {st : List Value} {w : aw} {cn sn : Nat} {a : Nat} {i : Int32} : wp d 111 Q 49 L (.int i :: .ref a :: st) w cn sn = ((kd w a = 20 ∨ kd w a = 30) ∧ inR i (ln w a) ∧ wp d 111 Q 50 L (.int (ai w a i.toNatClampNeg) :: st) w cn sn) := wp_row d_111_49 _ _ _ _ _
theorem d_111_50 : decode (mB 111) 50 = .ok (.isub, 1) := by decide +kernel
theorem s_111_50 {d : Nat} {Q : wQ} {L : List (Option Value)} {st : List Value} {w : aw} {cn sn : Nat} {a b : Int32} : wp d 111 Q 50 L (.int b :: .int a :: st) w cn sn = wp d 111 Q 51 L (.int (a - b) :: st) w cn sn := wp_row d_111_50 _ _ _ _ _
theorem d_111_51 : decode (mB 111) 51 = .ok (.iastore, 1) := by decide +kernel
theorem s_111_51 {d : Nat} {Q : wQ} {L : List (Option Value)} {st : List Value} {w : aw} {cn sn : Nat} {a : Nat} {i x : Int32} : wp d 111 Q 51 L (.int x :: .int i :: .ref a :: st) w cn sn = (kd w a = 20 ∧ inR i (ln w a) ∧ wp d 111 Q 52 L st (uA w a i.toNatClampNeg x) cn sn) := wp_row d_111_51 _ _ _ _ _
theorem d_111_52 : decode (mB 111) 52 = .ok (.iload_n 2, 1) := by decide +kernel
theorem s_111_52 {d : Nat} {Q : wQ} {L : List (Option Value)} {st : List Value} {w : aw} {cn sn : Nat} {a0 a1 : Option Value} {v : Int32} : wp d 111 Q 52 (a0 :: a1 :: some (.int v) :: L) st w cn sn = wp d 111 Q 53 (a0 :: a1 :: some (.int v) :: L) (.int v :: st) w cn sn := w_iload_n d_111_52 rfl
theorem d_111_53 : decode (mB 111) 53 = .ok (.bipush 16, 2) := by decide +kernel
theorem s_111_53 {d : Nat} {Q : wQ} {L : List (Option Value)} {st : List Value} {w : aw} {cn sn : Nat}  : wp d 111 Q 53 L st w cn sn = wp d 111 Q 55 L (.int 16 :: st) w cn sn := w_bipush d_111_53 (by decide)
theorem d_111_55 : decode (mB 111) 55 = .ok (.iand, 1) := by decide +kernel
theorem s_111_55 {d : Nat} {Q : wQ} {L : List (Option Value)} {st : List Value} {w : aw} {cn sn : Nat} {a b : Int32} : wp d 111 Q 55 L (.int b :: .int a :: st) w cn sn = wp d 111 Q 56 L (.int (a &&& b) :: st) w cn sn := wp_row d_111_55 _ _ _ _ _
theorem d_111_56 : decode (mB 111) 56 = .ok (.ifCond .le 17, 3) := by decide +kernel
theorem s_111_56 {d : Nat} {Q : wQ} {L : List (Option Value)} {st : List Value} {w : aw} {cn sn : Nat} {x : Int32} : wp d 111 Q 56 L (.int x :: st) w cn sn = ((x ≤ 0 → wp d 111 Q 73 L st w cn sn) ∧ (¬ x ≤ 0 → wp d 111 Q 59 L st w cn sn)) := w_ifle d_111_56 (by decide)
theorem d_111_59 : decode (mB 111) 59 = .ok (.aload_n 0, 1) := by decide +kernel
theorem s_111_59 {d : Nat} {Q : wQ} {L : List (Option Value)} {st : List Value} {w : aw} {cn sn : Nat} {v : Nat} : wp d 111 Q 59 (some (.ref v) :: L) st w cn sn = wp d 111 Q 60 (some (.ref v) :: L) (.ref v :: st) w cn sn := w_aload_n d_111_59 rfl
theorem d_111_60 : decode (mB 111) 60 = .ok (.getfield 36, 3) := by decide +kernel
theorem s_111_60 {d : Nat} {Q : wQ} {L : List (Option Value)} {st : List Value} {w : aw} {cn sn : Nat} {a : Nat} : wp d 111 Q 60 L (.ref a :: st) w cn sn = (kd w a = 9 ∧ wp d 111 Q 63 L (fd w 530 a :: st) w cn sn) := w_getfield d_111_60 (by decide +kernel : fT (mO 111) 36 = some (8, 18))
theorem d_111_63 : decode (mB 111) 63 = .ok (.iload_n 1, 1) := by decide +kernel
theorem s_111_63 {d : Nat} {Q : wQ} {L : List (Option Value)} {st : List Value} {w : aw} {cn sn : Nat} {a0 : Option Value} {v : Int32} : wp d 111 Q 63 (a0 :: some (.int v) :: L) st w cn sn = wp d 111 Q 64 (a0 :: some (.int v) :: L) (.int v :: st) w cn sn := w_iload_n d_111_63 rfl
theorem d_111_64 : decode (mB 111) 64 = .ok (.iconst 1, 1) := by decide +kernel
theorem s_111_64 {d : Nat} {Q : wQ} {L : List (Option Value)} {st : List Value} {w : aw} {cn sn : Nat}  : wp d 111 Q 64 L st w cn sn = wp d 111 Q 65 L (.int 1 :: st) w cn sn := w_iconst d_111_64 (by decide)
theorem d_111_65 : decode (mB 111) 65 = .ok (.aload_n 0, 1) := by decide +kernel
theorem s_111_65 {d : Nat} {Q : wQ} {L : List (Option Value)} {st : List Value} {w : aw} {cn sn : Nat} {v : Nat} : wp d 111 Q 65 (some (.ref v) :: L) st w cn sn = wp d 111 Q 66 (some (.ref v) :: L) (.ref v :: st) w cn sn := w_aload_n d_111_65 rfl
theorem d_111_66 : decode (mB 111) 66 = .ok (.getfield 36, 3) := by decide +kernel
theorem s_111_66 {d : Nat} {Q : wQ} {L : List (Option Value)} {st : List Value} {w : aw} {cn sn : Nat} {a : Nat} : wp d 111 Q 66 L (.ref a :: st) w cn sn = (kd w a = 9 ∧ wp d 111 Q 69 L (fd w 530 a :: st) w cn sn) := w_getfield d_111_66 (by decide +kernel : fT (mO 111) 36 = some (8, 18))
theorem d_111_69 : decode (mB 111) 69 = .ok (.iload_n 1, 1) := by decide +kernel
theorem s_111_69 {d : Nat} {Q : wQ} {L : List (Option Value)} {st : List Value} {w : aw} {cn sn : Nat} {a0 : Option Value} {v : Int32} : wp d 111 Q 69 (a0 :: some (.int v) :: L) st w cn sn = wp d 111 Q 70 (a0 :: some (.int v) :: L) (.int v :: st) w cn sn := w_iload_n d_111_69 rfl
theorem d_111_70 : decode (mB 111) 70 = .ok (.iaload, 1) := by decide +kernel
theorem s_111_70 {d : Nat} {Q : wQ} {L : List (Option Value)} {st : List Value} {w : aw} {cn sn : Nat} {a : Nat} {i : Int32} : wp d 111 Q 70 L (.int i :: .ref a :: st) w cn sn = ((kd w a = 20 ∨ kd w a = 30) ∧ inR i (ln w a) ∧ wp d 111 Q 71 L (.int (ai w a i.toNatClampNeg) :: st) w cn sn) := wp_row d_111_70 _ _ _ _ _
theorem d_111_71 : decode (mB 111) 71 = .ok (.isub, 1) := by decide +kernel
theorem s_111_71 {d : Nat} {Q : wQ} {L : List (Option Value)} {st : List Value} {w : aw} {cn sn : Nat} {a b : Int32} : wp d 111 Q 71 L (.int b :: .int a :: st) w cn sn = wp d 111 Q 72 L (.int (a - b) :: st) w cn sn := wp_row d_111_71 _ _ _ _ _
theorem d_111_72 : decode (mB 111) 72 = .ok (.iastore, 1) := by decide +kernel
theorem s_111_72 {d : Nat} {Q : wQ} {L : List (Option Value)} {st : List Value} {w : aw} {cn sn : Nat} {a : Nat} {i x : Int32} : wp d 111 Q 72 L (.int x :: .int i :: .ref a :: st) w cn sn = (kd w a = 20 ∧ inR i (ln w a) ∧ wp d 111 Q 73 L st (uA w a i.toNatClampNeg x) cn sn) := wp_row d_111_72 _ _ _ _ _
theorem d_111_73 : decode (mB 111) 73 = .ok (.iload_n 2, 1) := by decide +kernel
theorem s_111_73 {d : Nat} {Q : wQ} {L : List (Option Value)} {st : List Value} {w : aw} {cn sn : Nat} {a0 a1 : Option Value} {v : Int32} : wp d 111 Q 73 (a0 :: a1 :: some (.int v) :: L) st w cn sn = wp d 111 Q 74 (a0 :: a1 :: some (.int v) :: L) (.int v :: st) w cn sn := w_iload_n d_111_73 rfl
theorem d_111_74 : decode (mB 111) 74 = .ok (.iconst 1, 1) := by decide +kernel
theorem s_111_74 {d : Nat} {Q : wQ} {L : List (Option Value)} {st : List Value} {w : aw} {cn sn : Nat}  : wp d 111 Q 74 L st w cn sn = wp d 111 Q 75 L (.int 1 :: st) w cn sn := w_iconst d_111_74 (by decide)
theorem d_111_75 : decode (mB 111) 75 = .ok (.iand, 1) := by decide +kernel
theorem s_111_75 {d : Nat} {Q : wQ} {L : List (Option Value)} {st : List Value} {w : aw} {cn sn : Nat} {a b : Int32} : wp d 111 Q 75 L (.int b :: .int a :: st) w cn sn = wp d 111 Q 76 L (.int (a &&& b) :: st) w cn sn := wp_row d_111_75 _ _ _ _ _
theorem d_111_76 : decode (mB 111) 76 = .ok (.ifCond .le 16, 3) := by decide +kernel
theorem s_111_76 {d : Nat} {Q : wQ} {L : List (Option Value)} {st : List Value} {w : aw} {cn sn : Nat} {x : Int32} : wp d 111 Q 76 L (.int x :: st) w cn sn = ((x ≤ 0 → wp d 111 Q 92 L st w cn sn) ∧ (¬ x ≤ 0 → wp d 111 Q 79 L st w cn sn)) := w_ifle d_111_76 (by decide)
theorem d_111_79 : decode (mB 111) 79 = .ok (.aload_n 0, 1) := by decide +kernel
theorem s_111_79 {d : Nat} {Q : wQ} {L : List (Option Value)} {st : List Value} {w : aw} {cn sn : Nat} {v : Nat} : wp d 111 Q 79 (some (.ref v) :: L) st w cn sn = wp d 111 Q 80 (some (.ref v) :: L) (.ref v :: st) w cn sn := w_aload_n d_111_79 rfl
theorem d_111_80 : decode (mB 111) 80 = .ok (.iload_n 1, 1) := by decide +kernel
theorem s_111_80 {d : Nat} {Q : wQ} {L : List (Option Value)} {st : List Value} {w : aw} {cn sn : Nat} {a0 : Option Value} {v : Int32} : wp d 111 Q 80 (a0 :: some (.int v) :: L) st w cn sn = wp d 111 Q 81 (a0 :: some (.int v) :: L) (.int v :: st) w cn sn := w_iload_n d_111_80 rfl
theorem d_111_81 : decode (mB 111) 81 = .ok (.aload_n 0, 1) := by decide +kernel
theorem s_111_81 {d : Nat} {Q : wQ} {L : List (Option Value)} {st : List Value} {w : aw} {cn sn : Nat} {v : Nat} : wp d 111 Q 81 (some (.ref v) :: L) st w cn sn = wp d 111 Q 82 (some (.ref v) :: L) (.ref v :: st) w cn sn := w_aload_n d_111_81 rfl
theorem d_111_82 : decode (mB 111) 82 = .ok (.getfield 30, 3) := by decide +kernel
theorem s_111_82 {d : Nat} {Q : wQ} {L : List (Option Value)} {st : List Value} {w : aw} {cn sn : Nat} {a : Nat} : wp d 111 Q 82 L (.ref a :: st) w cn sn = (kd w a = 9 ∧ wp d 111 Q 85 L (fd w 528 a :: st) w cn sn) := w_getfield d_111_82 (by decide +kernel : fT (mO 111) 30 = some (8, 16))
theorem d_111_85 : decode (mB 111) 85 = .ok (.iload_n 1, 1) := by decide +kernel
theorem s_111_85 {d : Nat} {Q : wQ} {L : List (Option Value)} {st : List Value} {w : aw} {cn sn : Nat} {a0 : Option Value} {v : Int32} : wp d 111 Q 85 (a0 :: some (.int v) :: L) st w cn sn = wp d 111 Q 86 (a0 :: some (.int v) :: L) (.int v :: st) w cn sn := w_iload_n d_111_85 rfl
theorem d_111_86 : decode (mB 111) 86 = .ok (.iaload, 1) := by decide +kernel
theorem s_111_86 {d : Nat} {Q : wQ} {L : List (Option Value)} {st : List Value} {w : aw} {cn sn : Nat} {a : Nat} {i : Int32} : wp d 111 Q 86 L (.int i :: .ref a :: st) w cn sn = ((kd w a = 20 ∨ kd w a = 30) ∧ inR i (ln w a) ∧ wp d 111 Q 87 L (.int (ai w a i.toNatClampNeg) :: st) w cn sn) := wp_row d_111_86 _ _ _ _ _
theorem d_111_87 : decode (mB 111) 87 = .ok (.iconst 1, 1) := by decide +kernel
theorem s_111_87 {d : Nat} {Q : wQ} {L : List (Option Value)} {st : List Value} {w : aw} {cn sn : Nat}  : wp d 111 Q 87 L st w cn sn = wp d 111 Q 88 L (.int 1 :: st) w cn sn := w_iconst d_111_87 (by decide)
theorem d_111_88 : decode (mB 111) 88 = .ok (.iadd, 1) := by decide +kernel
theorem s_111_88 {d : Nat} {Q : wQ} {L : List (Option Value)} {st : List Value} {w : aw} {cn sn : Nat} {a b : Int32} : wp d 111 Q 88 L (.int b :: .int a :: st) w cn sn = wp d 111 Q 89 L (.int (a + b) :: st) w cn sn := wp_row d_111_88 _ _ _ _ _
theorem d_111_89 : decode (mB 111) 89 = .ok (.invokevirtual 136, 3) := by decide +kernel
theorem s_111_89 {d : Nat} {Q : wQ} {L : List (Option Value)} {st : List Value} {w : aw} {cn sn : Nat} {v0 v1 : Value} {b : Nat} : wp d 111 Q 89 L (v1 :: v0 :: .ref b :: st) w cn sn = (kd w b = 9 ∧ catS st ≤ 8 ∧ wpD d 107 [.ref b, v0, v1] w (fun v w' => wp d 111 Q 92 L (v.toList ++ st) w' cn sn)) := w_virtual (As := [v0, v1]) d_111_89 (by decide +kernel : cT (mO 111) 136 = some (0, 107)) rfl (by decide +kernel) rfl (by decide +kernel) rfl
theorem d_111_92 : decode (mB 111) 92 = .ok (.iload_n 2, 1) := by decide +kernel
theorem s_111_92 {d : Nat} {Q : wQ} {L : List (Option Value)} {st : List Value} {w : aw} {cn sn : Nat} {a0 a1 : Option Value} {v : Int32} : wp d 111 Q 92 (a0 :: a1 :: some (.int v) :: L) st w cn sn = wp d 111 Q 93 (a0 :: a1 :: some (.int v) :: L) (.int v :: st) w cn sn := w_iload_n d_111_92 rfl
theorem d_111_93 : decode (mB 111) 93 = .ok (.bipush 8, 2) := by decide +kernel
theorem s_111_93 {d : Nat} {Q : wQ} {L : List (Option Value)} {st : List Value} {w : aw} {cn sn : Nat}  : wp d 111 Q 93 L st w cn sn = wp d 111 Q 95 L (.int 8 :: st) w cn sn := w_bipush d_111_93 (by decide)
theorem d_111_95 : decode (mB 111) 95 = .ok (.iand, 1) := by decide +kernel
theorem s_111_95 {d : Nat} {Q : wQ} {L : List (Option Value)} {st : List Value} {w : aw} {cn sn : Nat} {a b : Int32} : wp d 111 Q 95 L (.int b :: .int a :: st) w cn sn = wp d 111 Q 96 L (.int (a &&& b) :: st) w cn sn := wp_row d_111_95 _ _ _ _ _
theorem d_111_96 : decode (mB 111) 96 = .ok (.ifCond .le 7, 3) := by decide +kernel
theorem s_111_96 {d : Nat} {Q : wQ} {L : List (Option Value)} {st : List Value} {w : aw} {cn sn : Nat} {x : Int32} : wp d 111 Q 96 L (.int x :: st) w cn sn = ((x ≤ 0 → wp d 111 Q 103 L st w cn sn) ∧ (¬ x ≤ 0 → wp d 111 Q 99 L st w cn sn)) := w_ifle d_111_96 (by decide)
theorem d_111_99 : decode (mB 111) 99 = .ok (.iconst 1, 1) := by decide +kernel
theorem s_111_99 {d : Nat} {Q : wQ} {L : List (Option Value)} {st : List Value} {w : aw} {cn sn : Nat}  : wp d 111 Q 99 L st w cn sn = wp d 111 Q 100 L (.int 1 :: st) w cn sn := w_iconst d_111_99 (by decide)
theorem d_111_100 : decode (mB 111) 100 = .ok (.goto 4, 3) := by decide +kernel
theorem s_111_100 {d : Nat} {Q : wQ} {L : List (Option Value)} {st : List Value} {w : aw} {cn sn : Nat}  : wp d 111 Q 100 L st w cn sn = wp d 111 Q 104 L st w cn sn := w_goto d_111_100 (by decide)
theorem d_111_103 : decode (mB 111) 103 = .ok (.iconst 0, 1) := by decide +kernel
theorem s_111_103 {d : Nat} {Q : wQ} {L : List (Option Value)} {st : List Value} {w : aw} {cn sn : Nat}  : wp d 111 Q 103 L st w cn sn = wp d 111 Q 104 L (.int 0 :: st) w cn sn := w_iconst d_111_103 (by decide)
theorem d_111_104 : decode (mB 111) 104 = .ok (.istore_n 3, 1) := by decide +kernel
theorem s_111_104 {d : Nat} {Q : wQ} {L : List (Option Value)} {st : List Value} {w : aw} {cn sn : Nat} {a0 a1 a2 a3 : Option Value} {v : Int32} : wp d 111 Q 104 (a0 :: a1 :: a2 :: a3 :: L) (.int v :: st) w cn sn = wp d 111 Q 105 (a0 :: a1 :: clr a2 :: some (.int v) :: L) st w cn sn := w_istore_n d_111_104 (Nat.le_add_left 4 _) rfl
theorem d_111_105 : decode (mB 111) 105 = .ok (.iload_n 2, 1) := by decide +kernel
theorem s_111_105 {d : Nat} {Q : wQ} {L : List (Option Value)} {st : List Value} {w : aw} {cn sn : Nat} {a0 a1 : Option Value} {v : Int32} : wp d 111 Q 105 (a0 :: a1 :: some (.int v) :: L) st w cn sn = wp d 111 Q 106 (a0 :: a1 :: some (.int v) :: L) (.int v :: st) w cn sn := w_iload_n d_111_105 rfl
theorem d_111_106 : decode (mB 111) 106 = .ok (.iconst 4, 1) := by decide +kernel
theorem s_111_106 {d : Nat} {Q : wQ} {L : List (Option Value)} {st : List Value} {w : aw} {cn sn : Nat}  : wp d 111 Q 106 L st w cn sn = wp d 111 Q 107 L (.int 4 :: st) w cn sn := w_iconst d_111_106 (by decide)
theorem d_111_107 : decode (mB 111) 107 = .ok (.iand, 1) := by decide +kernel
theorem s_111_107 {d : Nat} {Q : wQ} {L : List (Option Value)} {st : List Value} {w : aw} {cn sn : Nat} {a b : Int32} : wp d 111 Q 107 L (.int b :: .int a :: st) w cn sn = wp d 111 Q 108 L (.int (a &&& b) :: st) w cn sn := wp_row d_111_107 _ _ _ _ _
theorem d_111_108 : decode (mB 111) 108 = .ok (.ifCond .le 7, 3) := by decide +kernel
theorem s_111_108 {d : Nat} {Q : wQ} {L : List (Option Value)} {st : List Value} {w : aw} {cn sn : Nat} {x : Int32} : wp d 111 Q 108 L (.int x :: st) w cn sn = ((x ≤ 0 → wp d 111 Q 115 L st w cn sn) ∧ (¬ x ≤ 0 → wp d 111 Q 111 L st w cn sn)) := w_ifle d_111_108 (by decide)
theorem d_111_111 : decode (mB 111) 111 = .ok (.iconst 1, 1) := by decide +kernel
theorem s_111_111 {d : Nat} {Q : wQ} {L : List (Option Value)} {st : List Value} {w : aw} {cn sn : Nat}  : wp d 111 Q 111 L st w cn sn = wp d 111 Q 112 L (.int 1 :: st) w cn sn := w_iconst d_111_111 (by decide)
theorem d_111_112 : decode (mB 111) 112 = .ok (.goto 4, 3) := by decide +kernel
theorem s_111_112 {d : Nat} {Q : wQ} {L : List (Option Value)} {st : List Value} {w : aw} {cn sn : Nat}  : wp d 111 Q 112 L st w cn sn = wp d 111 Q 116 L st w cn sn := w_goto d_111_112 (by decide)
theorem d_111_115 : decode (mB 111) 115 = .ok (.iconst 0, 1) := by decide +kernel
theorem s_111_115 {d : Nat} {Q : wQ} {L : List (Option Value)} {st : List Value} {w : aw} {cn sn : Nat}  : wp d 111 Q 115 L st w cn sn = wp d 111 Q 116 L (.int 0 :: st) w cn sn := w_iconst d_111_115 (by decide)
theorem d_111_116 : decode (mB 111) 116 = .ok (.istore 4, 2) := by decide +kernel
theorem s_111_116 {d : Nat} {Q : wQ} {L : List (Option Value)} {st : List Value} {w : aw} {cn sn : Nat} {a0 a1 a2 a3 a4 : Option Value} {v : Int32} : wp d 111 Q 116 (a0 :: a1 :: a2 :: a3 :: a4 :: L) (.int v :: st) w cn sn = wp d 111 Q 118 (a0 :: a1 :: a2 :: clr a3 :: some (.int v) :: L) st w cn sn := w_istore d_111_116 (Nat.le_add_left 5 _) rfl
theorem d_111_118 : decode (mB 111) 118 = .ok (.iconst 0, 1) := by decide +kernel
theorem s_111_118 {d : Nat} {Q : wQ} {L : List (Option Value)} {st : List Value} {w : aw} {cn sn : Nat}  : wp d 111 Q 118 L st w cn sn = wp d 111 Q 119 L (.int 0 :: st) w cn sn := w_iconst d_111_118 (by decide)
theorem d_111_119 : decode (mB 111) 119 = .ok (.istore 5, 2) := by decide +kernel
theorem s_111_119 {d : Nat} {Q : wQ} {L : List (Option Value)} {st : List Value} {w : aw} {cn sn : Nat} {a0 a1 a2 a3 a4 a5 : Option Value} {v : Int32} : wp d 111 Q 119 (a0 :: a1 :: a2 :: a3 :: a4 :: a5 :: L) (.int v :: st) w cn sn = wp d 111 Q 121 (a0 :: a1 :: a2 :: a3 :: clr a4 :: some (.int v) :: L) st w cn sn := w_istore d_111_119 (Nat.le_add_left 6 _) rfl
theorem d_111_121 : decode (mB 111) 121 = .ok (.iload 5, 2) := by decide +kernel
theorem s_111_121 {d : Nat} {Q : wQ} {L : List (Option Value)} {st : List Value} {w : aw} {cn sn : Nat} {a0 a1 a2 a3 a4 : Option Value} {v : Int32} : wp d 111 Q 121 (a0 :: a1 :: a2 :: a3 :: a4 :: some (.int v) :: L) st w cn sn = wp d 111 Q 123 (a0 :: a1 :: a2 :: a3 :: a4 :: some (.int v) :: L) (.int v :: st) w cn sn := w_iload d_111_121 rfl
theorem d_111_123 : decode (mB 111) 123 = .ok (.iload_n 2, 1) := by decide +kernel
theorem s_111_123 {d : Nat} {Q : wQ} {L : List (Option Value)} {st : List Value} {w : aw} {cn sn : Nat} {a0 a1 : Option Value} {v : Int32} : wp d 111 Q 123 (a0 :: a1 :: some (.int v) :: L) st w cn sn = wp d 111 Q 124 (a0 :: a1 :: some (.int v) :: L) (.int v :: st) w cn sn := w_iload_n d_111_123 rfl
theorem d_111_124 : decode (mB 111) 124 = .ok (.iconst 2, 1) := by decide +kernel
theorem s_111_124 {d : Nat} {Q : wQ} {L : List (Option Value)} {st : List Value} {w : aw} {cn sn : Nat}  : wp d 111 Q 124 L st w cn sn = wp d 111 Q 125 L (.int 2 :: st) w cn sn := w_iconst d_111_124 (by decide)
theorem d_111_125 : decode (mB 111) 125 = .ok (.iand, 1) := by decide +kernel
theorem s_111_125 {d : Nat} {Q : wQ} {L : List (Option Value)} {st : List Value} {w : aw} {cn sn : Nat} {a b : Int32} : wp d 111 Q 125 L (.int b :: .int a :: st) w cn sn = wp d 111 Q 126 L (.int (a &&& b) :: st) w cn sn := wp_row d_111_125 _ _ _ _ _
theorem d_111_126 : decode (mB 111) 126 = .ok (.ifCond .le 7, 3) := by decide +kernel
theorem s_111_126 {d : Nat} {Q : wQ} {L : List (Option Value)} {st : List Value} {w : aw} {cn sn : Nat} {x : Int32} : wp d 111 Q 126 L (.int x :: st) w cn sn = ((x ≤ 0 → wp d 111 Q 133 L st w cn sn) ∧ (¬ x ≤ 0 → wp d 111 Q 129 L st w cn sn)) := w_ifle d_111_126 (by decide)
theorem d_111_129 : decode (mB 111) 129 = .ok (.iconst 2, 1) := by decide +kernel
theorem s_111_129 {d : Nat} {Q : wQ} {L : List (Option Value)} {st : List Value} {w : aw} {cn sn : Nat}  : wp d 111 Q 129 L st w cn sn = wp d 111 Q 130 L (.int 2 :: st) w cn sn := w_iconst d_111_129 (by decide)
theorem d_111_130 : decode (mB 111) 130 = .ok (.goto 4, 3) := by decide +kernel
theorem s_111_130 {d : Nat} {Q : wQ} {L : List (Option Value)} {st : List Value} {w : aw} {cn sn : Nat}  : wp d 111 Q 130 L st w cn sn = wp d 111 Q 134 L st w cn sn := w_goto d_111_130 (by decide)
theorem d_111_133 : decode (mB 111) 133 = .ok (.iconst 1, 1) := by decide +kernel
theorem s_111_133 {d : Nat} {Q : wQ} {L : List (Option Value)} {st : List Value} {w : aw} {cn sn : Nat}  : wp d 111 Q 133 L st w cn sn = wp d 111 Q 134 L (.int 1 :: st) w cn sn := w_iconst d_111_133 (by decide)
theorem d_111_134 : decode (mB 111) 134 = .ok (.if_icmp .ge 95, 3) := by decide +kernel
theorem s_111_134 {d : Nat} {Q : wQ} {L : List (Option Value)} {st : List Value} {w : aw} {cn sn : Nat} {a b : Int32} : wp d 111 Q 134 L (.int b :: .int a :: st) w cn sn = ((b ≤ a → wp d 111 Q 229 L st w cn sn) ∧ (¬ b ≤ a → wp d 111 Q 137 L st w cn sn)) := w_icge d_111_134 (by decide)
theorem d_111_137 : decode (mB 111) 137 = .ok (.iload_n 3, 1) := by decide +kernel
theorem s_111_137 {d : Nat} {Q : wQ} {L : List (Option Value)} {st : List Value} {w : aw} {cn sn : Nat} {a0 a1 a2 : Option Value} {v : Int32} : wp d 111 Q 137 (a0 :: a1 :: a2 :: some (.int v) :: L) st w cn sn = wp d 111 Q 138 (a0 :: a1 :: a2 :: some (.int v) :: L) (.int v :: st) w cn sn := w_iload_n d_111_137 rfl
theorem d_111_138 : decode (mB 111) 138 = .ok (.iload 4, 2) := by decide +kernel
theorem s_111_138 {d : Nat} {Q : wQ} {L : List (Option Value)} {st : List Value} {w : aw} {cn sn : Nat} {a0 a1 a2 a3 : Option Value} {v : Int32} : wp d 111 Q 138 (a0 :: a1 :: a2 :: a3 :: some (.int v) :: L) st w cn sn = wp d 111 Q 140 (a0 :: a1 :: a2 :: a3 :: some (.int v) :: L) (.int v :: st) w cn sn := w_iload d_111_138 rfl
theorem d_111_140 : decode (mB 111) 140 = .ok (.if_icmp .eq 89, 3) := by decide +kernel
theorem s_111_140 {d : Nat} {Q : wQ} {L : List (Option Value)} {st : List Value} {w : aw} {cn sn : Nat} {a b : Int32} : wp d 111 Q 140 L (.int b :: .int a :: st) w cn sn = ((a = b → wp d 111 Q 229 L st w cn sn) ∧ (¬ a = b → wp d 111 Q 143 L st w cn sn)) := w_iceq d_111_140 (by decide)
theorem d_111_143 : decode (mB 111) 143 = .ok (.aload_n 0, 1) := by decide +kernel
theorem s_111_143 {d : Nat} {Q : wQ} {L : List (Option Value)} {st : List Value} {w : aw} {cn sn : Nat} {v : Nat} : wp d 111 Q 143 (some (.ref v) :: L) st w cn sn = wp d 111 Q 144 (some (.ref v) :: L) (.ref v :: st) w cn sn := w_aload_n d_111_143 rfl
theorem d_111_144 : decode (mB 111) 144 = .ok (.getfield 36, 3) := by decide +kernel
theorem s_111_144 {d : Nat} {Q : wQ} {L : List (Option Value)} {st : List Value} {w : aw} {cn sn : Nat} {a : Nat} : wp d 111 Q 144 L (.ref a :: st) w cn sn = (kd w a = 9 ∧ wp d 111 Q 147 L (fd w 530 a :: st) w cn sn) := w_getfield d_111_144 (by decide +kernel : fT (mO 111) 36 = some (8, 18))
theorem d_111_147 : decode (mB 111) 147 = .ok (.iload_n 1, 1) := by decide +kernel
theorem s_111_147 {d : Nat} {Q : wQ} {L : List (Option Value)} {st : List Value} {w : aw} {cn sn : Nat} {a0 : Option Value} {v : Int32} : wp d 111 Q 147 (a0 :: some (.int v) :: L) st w cn sn = wp d 111 Q 148 (a0 :: some (.int v) :: L) (.int v :: st) w cn sn := w_iload_n d_111_147 rfl
theorem d_111_148 : decode (mB 111) 148 = .ok (.iaload, 1) := by decide +kernel
theorem s_111_148 {d : Nat} {Q : wQ} {L : List (Option Value)} {st : List Value} {w : aw} {cn sn : Nat} {a : Nat} {i : Int32} : wp d 111 Q 148 L (.int i :: .ref a :: st) w cn sn = ((kd w a = 20 ∨ kd w a = 30) ∧ inR i (ln w a) ∧ wp d 111 Q 149 L (.int (ai w a i.toNatClampNeg) :: st) w cn sn) := wp_row d_111_148 _ _ _ _ _
theorem d_111_149 : decode (mB 111) 149 = .ok (.sipush 4096, 3) := by decide +kernel
theorem s_111_149 {d : Nat} {Q : wQ} {L : List (Option Value)} {st : List Value} {w : aw} {cn sn : Nat}  : wp d 111 Q 149 L st w cn sn = wp d 111 Q 152 L (.int 4096 :: st) w cn sn := w_sipush d_111_149 (by decide)
theorem d_111_152 : decode (mB 111) 152 = .ok (.imul, 1) := by decide +kernel
theorem s_111_152 {d : Nat} {Q : wQ} {L : List (Option Value)} {st : List Value} {w : aw} {cn sn : Nat} {a b : Int32} : wp d 111 Q 152 L (.int b :: .int a :: st) w cn sn = wp d 111 Q 153 L (.int (a * b) :: st) w cn sn := wp_row d_111_152 _ _ _ _ _
theorem d_111_153 : decode (mB 111) 153 = .ok (.aload_n 0, 1) := by decide +kernel
theorem s_111_153 {d : Nat} {Q : wQ} {L : List (Option Value)} {st : List Value} {w : aw} {cn sn : Nat} {v : Nat} : wp d 111 Q 153 (some (.ref v) :: L) st w cn sn = wp d 111 Q 154 (some (.ref v) :: L) (.ref v :: st) w cn sn := w_aload_n d_111_153 rfl
theorem d_111_154 : decode (mB 111) 154 = .ok (.getfield 30, 3) := by decide +kernel
theorem s_111_154 {d : Nat} {Q : wQ} {L : List (Option Value)} {st : List Value} {w : aw} {cn sn : Nat} {a : Nat} : wp d 111 Q 154 L (.ref a :: st) w cn sn = (kd w a = 9 ∧ wp d 111 Q 157 L (fd w 528 a :: st) w cn sn) := w_getfield d_111_154 (by decide +kernel : fT (mO 111) 30 = some (8, 16))
theorem d_111_157 : decode (mB 111) 157 = .ok (.iload_n 1, 1) := by decide +kernel
theorem s_111_157 {d : Nat} {Q : wQ} {L : List (Option Value)} {st : List Value} {w : aw} {cn sn : Nat} {a0 : Option Value} {v : Int32} : wp d 111 Q 157 (a0 :: some (.int v) :: L) st w cn sn = wp d 111 Q 158 (a0 :: some (.int v) :: L) (.int v :: st) w cn sn := w_iload_n d_111_157 rfl
theorem d_111_158 : decode (mB 111) 158 = .ok (.iaload, 1) := by decide +kernel
theorem s_111_158 {d : Nat} {Q : wQ} {L : List (Option Value)} {st : List Value} {w : aw} {cn sn : Nat} {a : Nat} {i : Int32} : wp d 111 Q 158 L (.int i :: .ref a :: st) w cn sn = ((kd w a = 20 ∨ kd w a = 30) ∧ inR i (ln w a) ∧ wp d 111 Q 159 L (.int (ai w a i.toNatClampNeg) :: st) w cn sn) := wp_row d_111_158 _ _ _ _ _
theorem d_111_159 : decode (mB 111) 159 = .ok (.iadd, 1) := by decide +kernel
theorem s_111_159 {d : Nat} {Q : wQ} {L : List (Option Value)} {st : List Value} {w : aw} {cn sn : Nat} {a b : Int32} : wp d 111 Q 159 L (.int b :: .int a :: st) w cn sn = wp d 111 Q 160 L (.int (a + b) :: st) w cn sn := wp_row d_111_159 _ _ _ _ _
theorem d_111_160 : decode (mB 111) 160 = .ok (.istore 6, 2) := by decide +kernel
theorem s_111_160 {d : Nat} {Q : wQ} {L : List (Option Value)} {st : List Value} {w : aw} {cn sn : Nat} {a0 a1 a2 a3 a4 a5 a6 : Option Value} {v : Int32} : wp d 111 Q 160 (a0 :: a1 :: a2 :: a3 :: a4 :: a5 :: a6 :: L) (.int v :: st) w cn sn = wp d 111 Q 162 (a0 :: a1 :: a2 :: a3 :: a4 :: clr a5 :: some (.int v) :: L) st w cn sn := w_istore d_111_160 (Nat.le_add_left 7 _) rfl
theorem d_111_162 : decode (mB 111) 162 = .ok (.iload_n 3, 1) := by decide +kernel
theorem s_111_162 {d : Nat} {Q : wQ} {L : List (Option Value)} {st : List Value} {w : aw} {cn sn : Nat} {a0 a1 a2 : Option Value} {v : Int32} : wp d 111 Q 162 (a0 :: a1 :: a2 :: some (.int v) :: L) st w cn sn = wp d 111 Q 163 (a0 :: a1 :: a2 :: some (.int v) :: L) (.int v :: st) w cn sn := w_iload_n d_111_162 rfl
theorem d_111_163 : decode (mB 111) 163 = .ok (.ifCond .eq 19, 3) := by decide +kernel
theorem s_111_163 {d : Nat} {Q : wQ} {L : List (Option Value)} {st : List Value} {w : aw} {cn sn : Nat} {x : Int32} : wp d 111 Q 163 L (.int x :: st) w cn sn = ((x = 0 → wp d 111 Q 182 L st w cn sn) ∧ (¬ x = 0 → wp d 111 Q 166 L st w cn sn)) := w_ifeq d_111_163 (by decide)
theorem d_111_166 : decode (mB 111) 166 = .ok (.iload 6, 2) := by decide +kernel
theorem s_111_166 {d : Nat} {Q : wQ} {L : List (Option Value)} {st : List Value} {w : aw} {cn sn : Nat} {a0 a1 a2 a3 a4 a5 : Option Value} {v : Int32} : wp d 111 Q 166 (a0 :: a1 :: a2 :: a3 :: a4 :: a5 :: some (.int v) :: L) st w cn sn = wp d 111 Q 168 (a0 :: a1 :: a2 :: a3 :: a4 :: a5 :: some (.int v) :: L) (.int v :: st) w cn sn := w_iload d_111_166 rfl
theorem d_111_168 : decode (mB 111) 168 = .ok (.iconst 2, 1) := by decide +kernel
theorem s_111_168 {d : Nat} {Q : wQ} {L : List (Option Value)} {st : List Value} {w : aw} {cn sn : Nat}  : wp d 111 Q 168 L st w cn sn = wp d 111 Q 169 L (.int 2 :: st) w cn sn := w_iconst d_111_168 (by decide)
theorem d_111_169 : decode (mB 111) 169 = .ok (.idiv, 1) := by decide +kernel
theorem s_111_169 {d : Nat} {Q : wQ} {L : List (Option Value)} {st : List Value} {w : aw} {cn sn : Nat} {a b : Int32} : wp d 111 Q 169 L (.int b :: .int a :: st) w cn sn = (¬ b = 0 ∧ wp d 111 Q 170 L (.int (a / b) :: st) w cn sn) := wp_row d_111_169 _ _ _ _ _
theorem d_111_170 : decode (mB 111) 170 = .ok (.iload 6, 2) := by decide +kernel
theorem s_111_170 {d : Nat} {Q : wQ} {L : List (Option Value)} {st : List Value} {w : aw} {cn sn : Nat} {a0 a1 a2 a3 a4 a5 : Option Value} {v : Int32} : wp d 111 Q 170 (a0 :: a1 :: a2 :: a3 :: a4 :: a5 :: some (.int v) :: L) st w cn sn = wp d 111 Q 172 (a0 :: a1 :: a2 :: a3 :: a4 :: a5 :: some (.int v) :: L) (.int v :: st) w cn sn := w_iload d_111_170 rfl
theorem d_111_172 : decode (mB 111) 172 = .ok (.iconst 2, 1) := by decide +kernel
theorem s_111_172 {d : Nat} {Q : wQ} {L : List (Option Value)} {st : List Value} {w : aw} {cn sn : Nat}  : wp d 111 Q 172 L st w cn sn = wp d 111 Q 173 L (.int 2 :: st) w cn sn := w_iconst d_111_172 (by decide)
theorem d_111_173 : decode (mB 111) 173 = .ok (.irem, 1) := by decide +kernel
theorem s_111_173 {d : Nat} {Q : wQ} {L : List (Option Value)} {st : List Value} {w : aw} {cn sn : Nat} {a b : Int32} : wp d 111 Q 173 L (.int b :: .int a :: st) w cn sn = (¬ b = 0 ∧ wp d 111 Q 174 L (.int (a - a / b * b) :: st) w cn sn) := wp_row d_111_173 _ _ _ _ _
theorem d_111_174 : decode (mB 111) 174 = .ok (.sipush 4096, 3) := by decide +kernel
theorem s_111_174 {d : Nat} {Q : wQ} {L : List (Option Value)} {st : List Value} {w : aw} {cn sn : Nat}  : wp d 111 Q 174 L st w cn sn = wp d 111 Q 177 L (.int 4096 :: st) w cn sn := w_sipush d_111_174 (by decide)
theorem d_111_177 : decode (mB 111) 177 = .ok (.imul, 1) := by decide +kernel
theorem s_111_177 {d : Nat} {Q : wQ} {L : List (Option Value)} {st : List Value} {w : aw} {cn sn : Nat} {a b : Int32} : wp d 111 Q 177 L (.int b :: .int a :: st) w cn sn = wp d 111 Q 178 L (.int (a * b) :: st) w cn sn := wp_row d_111_177 _ _ _ _ _
theorem d_111_178 : decode (mB 111) 178 = .ok (.iadd, 1) := by decide +kernel
theorem s_111_178 {d : Nat} {Q : wQ} {L : List (Option Value)} {st : List Value} {w : aw} {cn sn : Nat} {a b : Int32} : wp d 111 Q 178 L (.int b :: .int a :: st) w cn sn = wp d 111 Q 179 L (.int (a + b) :: st) w cn sn := wp_row d_111_178 _ _ _ _ _
theorem d_111_179 : decode (mB 111) 179 = .ok (.goto 18, 3) := by decide +kernel
theorem s_111_179 {d : Nat} {Q : wQ} {L : List (Option Value)} {st : List Value} {w : aw} {cn sn : Nat}  : wp d 111 Q 179 L st w cn sn = wp d 111 Q 197 L st w cn sn := w_goto d_111_179 (by decide)
theorem d_111_182 : decode (mB 111) 182 = .ok (.iload 6, 2) := by decide +kernel
theorem s_111_182 {d : Nat} {Q : wQ} {L : List (Option Value)} {st : List Value} {w : aw} {cn sn : Nat} {a0 a1 a2 a3 a4 a5 : Option Value} {v : Int32} : wp d 111 Q 182 (a0 :: a1 :: a2 :: a3 :: a4 :: a5 :: some (.int v) :: L) st w cn sn = wp d 111 Q 184 (a0 :: a1 :: a2 :: a3 :: a4 :: a5 :: some (.int v) :: L) (.int v :: st) w cn sn := w_iload d_111_182 rfl
theorem d_111_184 : decode (mB 111) 184 = .ok (.iconst 2, 1) := by decide +kernel
theorem s_111_184 {d : Nat} {Q : wQ} {L : List (Option Value)} {st : List Value} {w : aw} {cn sn : Nat}  : wp d 111 Q 184 L st w cn sn = wp d 111 Q 185 L (.int 2 :: st) w cn sn := w_iconst d_111_184 (by decide)
theorem d_111_185 : decode (mB 111) 185 = .ok (.imul, 1) := by decide +kernel
theorem s_111_185 {d : Nat} {Q : wQ} {L : List (Option Value)} {st : List Value} {w : aw} {cn sn : Nat} {a b : Int32} : wp d 111 Q 185 L (.int b :: .int a :: st) w cn sn = wp d 111 Q 186 L (.int (a * b) :: st) w cn sn := wp_row d_111_185 _ _ _ _ _
theorem d_111_186 : decode (mB 111) 186 = .ok (.sipush 8192, 3) := by decide +kernel
theorem s_111_186 {d : Nat} {Q : wQ} {L : List (Option Value)} {st : List Value} {w : aw} {cn sn : Nat}  : wp d 111 Q 186 L st w cn sn = wp d 111 Q 189 L (.int 8192 :: st) w cn sn := w_sipush d_111_186 (by decide)
theorem d_111_189 : decode (mB 111) 189 = .ok (.irem, 1) := by decide +kernel
theorem s_111_189 {d : Nat} {Q : wQ} {L : List (Option Value)} {st : List Value} {w : aw} {cn sn : Nat} {a b : Int32} : wp d 111 Q 189 L (.int b :: .int a :: st) w cn sn = (¬ b = 0 ∧ wp d 111 Q 190 L (.int (a - a / b * b) :: st) w cn sn) := wp_row d_111_189 _ _ _ _ _
theorem d_111_190 : decode (mB 111) 190 = .ok (.iload 6, 2) := by decide +kernel
theorem s_111_190 {d : Nat} {Q : wQ} {L : List (Option Value)} {st : List Value} {w : aw} {cn sn : Nat} {a0 a1 a2 a3 a4 a5 : Option Value} {v : Int32} : wp d 111 Q 190 (a0 :: a1 :: a2 :: a3 :: a4 :: a5 :: some (.int v) :: L) st w cn sn = wp d 111 Q 192 (a0 :: a1 :: a2 :: a3 :: a4 :: a5 :: some (.int v) :: L) (.int v :: st) w cn sn := w_iload d_111_190 rfl
theorem d_111_192 : decode (mB 111) 192 = .ok (.sipush 4096, 3) := by decide +kernel
theorem s_111_192 {d : Nat} {Q : wQ} {L : List (Option Value)} {st : List Value} {w : aw} {cn sn : Nat}  : wp d 111 Q 192 L st w cn sn = wp d 111 Q 195 L (.int 4096 :: st) w cn sn := w_sipush d_111_192 (by decide)
theorem d_111_195 : decode (mB 111) 195 = .ok (.idiv, 1) := by decide +kernel
theorem s_111_195 {d : Nat} {Q : wQ} {L : List (Option Value)} {st : List Value} {w : aw} {cn sn : Nat} {a b : Int32} : wp d 111 Q 195 L (.int b :: .int a :: st) w cn sn = (¬ b = 0 ∧ wp d 111 Q 196 L (.int (a / b) :: st) w cn sn) := wp_row d_111_195 _ _ _ _ _
theorem d_111_196 : decode (mB 111) 196 = .ok (.iadd, 1) := by decide +kernel
theorem s_111_196 {d : Nat} {Q : wQ} {L : List (Option Value)} {st : List Value} {w : aw} {cn sn : Nat} {a b : Int32} : wp d 111 Q 196 L (.int b :: .int a :: st) w cn sn = wp d 111 Q 197 L (.int (a + b) :: st) w cn sn := wp_row d_111_196 _ _ _ _ _
theorem d_111_197 : decode (mB 111) 197 = .ok (.istore 6, 2) := by decide +kernel
theorem s_111_197 {d : Nat} {Q : wQ} {L : List (Option Value)} {st : List Value} {w : aw} {cn sn : Nat} {a0 a1 a2 a3 a4 a5 a6 : Option Value} {v : Int32} : wp d 111 Q 197 (a0 :: a1 :: a2 :: a3 :: a4 :: a5 :: a6 :: L) (.int v :: st) w cn sn = wp d 111 Q 199 (a0 :: a1 :: a2 :: a3 :: a4 :: clr a5 :: some (.int v) :: L) st w cn sn := w_istore d_111_197 (Nat.le_add_left 7 _) rfl
theorem d_111_199 : decode (mB 111) 199 = .ok (.aload_n 0, 1) := by decide +kernel
theorem s_111_199 {d : Nat} {Q : wQ} {L : List (Option Value)} {st : List Value} {w : aw} {cn sn : Nat} {v : Nat} : wp d 111 Q 199 (some (.ref v) :: L) st w cn sn = wp d 111 Q 200 (some (.ref v) :: L) (.ref v :: st) w cn sn := w_aload_n d_111_199 rfl
theorem d_111_200 : decode (mB 111) 200 = .ok (.getfield 36, 3) := by decide +kernel
theorem s_111_200 {d : Nat} {Q : wQ} {L : List (Option Value)} {st : List Value} {w : aw} {cn sn : Nat} {a : Nat} : wp d 111 Q 200 L (.ref a :: st) w cn sn = (kd w a = 9 ∧ wp d 111 Q 203 L (fd w 530 a :: st) w cn sn) := w_getfield d_111_200 (by decide +kernel : fT (mO 111) 36 = some (8, 18))
theorem d_111_203 : decode (mB 111) 203 = .ok (.iload_n 1, 1) := by decide +kernel
theorem s_111_203 {d : Nat} {Q : wQ} {L : List (Option Value)} {st : List Value} {w : aw} {cn sn : Nat} {a0 : Option Value} {v : Int32} : wp d 111 Q 203 (a0 :: some (.int v) :: L) st w cn sn = wp d 111 Q 204 (a0 :: some (.int v) :: L) (.int v :: st) w cn sn := w_iload_n d_111_203 rfl
theorem d_111_204 : decode (mB 111) 204 = .ok (.iload 6, 2) := by decide +kernel
theorem s_111_204 {d : Nat} {Q : wQ} {L : List (Option Value)} {st : List Value} {w : aw} {cn sn : Nat} {a0 a1 a2 a3 a4 a5 : Option Value} {v : Int32} : wp d 111 Q 204 (a0 :: a1 :: a2 :: a3 :: a4 :: a5 :: some (.int v) :: L) st w cn sn = wp d 111 Q 206 (a0 :: a1 :: a2 :: a3 :: a4 :: a5 :: some (.int v) :: L) (.int v :: st) w cn sn := w_iload d_111_204 rfl
theorem d_111_206 : decode (mB 111) 206 = .ok (.sipush 4096, 3) := by decide +kernel
theorem s_111_206 {d : Nat} {Q : wQ} {L : List (Option Value)} {st : List Value} {w : aw} {cn sn : Nat}  : wp d 111 Q 206 L st w cn sn = wp d 111 Q 209 L (.int 4096 :: st) w cn sn := w_sipush d_111_206 (by decide)
theorem d_111_209 : decode (mB 111) 209 = .ok (.idiv, 1) := by decide +kernel
theorem s_111_209 {d : Nat} {Q : wQ} {L : List (Option Value)} {st : List Value} {w : aw} {cn sn : Nat} {a b : Int32} : wp d 111 Q 209 L (.int b :: .int a :: st) w cn sn = (¬ b = 0 ∧ wp d 111 Q 210 L (.int (a / b) :: st) w cn sn) := wp_row d_111_209 _ _ _ _ _
theorem d_111_210 : decode (mB 111) 210 = .ok (.iastore, 1) := by decide +kernel
theorem s_111_210 {d : Nat} {Q : wQ} {L : List (Option Value)} {st : List Value} {w : aw} {cn sn : Nat} {a : Nat} {i x : Int32} : wp d 111 Q 210 L (.int x :: .int i :: .ref a :: st) w cn sn = (kd w a = 20 ∧ inR i (ln w a) ∧ wp d 111 Q 211 L st (uA w a i.toNatClampNeg x) cn sn) := wp_row d_111_210 _ _ _ _ _
theorem d_111_211 : decode (mB 111) 211 = .ok (.aload_n 0, 1) := by decide +kernel
theorem s_111_211 {d : Nat} {Q : wQ} {L : List (Option Value)} {st : List Value} {w : aw} {cn sn : Nat} {v : Nat} : wp d 111 Q 211 (some (.ref v) :: L) st w cn sn = wp d 111 Q 212 (some (.ref v) :: L) (.ref v :: st) w cn sn := w_aload_n d_111_211 rfl
theorem d_111_212 : decode (mB 111) 212 = .ok (.getfield 30, 3) := by decide +kernel
theorem s_111_212 {d : Nat} {Q : wQ} {L : List (Option Value)} {st : List Value} {w : aw} {cn sn : Nat} {a : Nat} : wp d 111 Q 212 L (.ref a :: st) w cn sn = (kd w a = 9 ∧ wp d 111 Q 215 L (fd w 528 a :: st) w cn sn) := w_getfield d_111_212 (by decide +kernel : fT (mO 111) 30 = some (8, 16))
theorem d_111_215 : decode (mB 111) 215 = .ok (.iload_n 1, 1) := by decide +kernel
theorem s_111_215 {d : Nat} {Q : wQ} {L : List (Option Value)} {st : List Value} {w : aw} {cn sn : Nat} {a0 : Option Value} {v : Int32} : wp d 111 Q 215 (a0 :: some (.int v) :: L) st w cn sn = wp d 111 Q 216 (a0 :: some (.int v) :: L) (.int v :: st) w cn sn := w_iload_n d_111_215 rfl
theorem d_111_216 : decode (mB 111) 216 = .ok (.iload 6, 2) := by decide +kernel
theorem s_111_216 {d : Nat} {Q : wQ} {L : List (Option Value)} {st : List Value} {w : aw} {cn sn : Nat} {a0 a1 a2 a3 a4 a5 : Option Value} {v : Int32} : wp d 111 Q 216 (a0 :: a1 :: a2 :: a3 :: a4 :: a5 :: some (.int v) :: L) st w cn sn = wp d 111 Q 218 (a0 :: a1 :: a2 :: a3 :: a4 :: a5 :: some (.int v) :: L) (.int v :: st) w cn sn := w_iload d_111_216 rfl
theorem d_111_218 : decode (mB 111) 218 = .ok (.sipush 4096, 3) := by decide +kernel
theorem s_111_218 {d : Nat} {Q : wQ} {L : List (Option Value)} {st : List Value} {w : aw} {cn sn : Nat}  : wp d 111 Q 218 L st w cn sn = wp d 111 Q 221 L (.int 4096 :: st) w cn sn := w_sipush d_111_218 (by decide)
theorem d_111_221 : decode (mB 111) 221 = .ok (.irem, 1) := by decide +kernel
theorem s_111_221 {d : Nat} {Q : wQ} {L : List (Option Value)} {st : List Value} {w : aw} {cn sn : Nat} {a b : Int32} : wp d 111 Q 221 L (.int b :: .int a :: st) w cn sn = (¬ b = 0 ∧ wp d 111 Q 222 L (.int (a - a / b * b) :: st) w cn sn) := wp_row d_111_221 _ _ _ _ _
theorem d_111_222 : decode (mB 111) 222 = .ok (.iastore, 1) := by decide +kernel
theorem s_111_222 {d : Nat} {Q : wQ} {L : List (Option Value)} {st : List Value} {w : aw} {cn sn : Nat} {a : Nat} {i x : Int32} : wp d 111 Q 222 L (.int x :: .int i :: .ref a :: st) w cn sn = (kd w a = 20 ∧ inR i (ln w a) ∧ wp d 111 Q 223 L st (uA w a i.toNatClampNeg x) cn sn) := wp_row d_111_222 _ _ _ _ _
theorem d_111_223 : decode (mB 111) 223 = .ok (.iinc 5 1, 3) := by decide +kernel
theorem s_111_223 {d : Nat} {Q : wQ} {L : List (Option Value)} {st : List Value} {w : aw} {cn sn : Nat} {a0 a1 a2 a3 a4 : Option Value} {v : Int32} : wp d 111 Q 223 (a0 :: a1 :: a2 :: a3 :: a4 :: some (.int v) :: L) st w cn sn = wp d 111 Q 226 (a0 :: a1 :: a2 :: a3 :: clr a4 :: some (.int (v + 1)) :: L) st w cn sn := w_iinc d_111_223 rfl (by decide) rfl
theorem d_111_226 : decode (mB 111) 226 = .ok (.goto (-105), 3) := by decide +kernel
theorem s_111_226 {d : Nat} {Q : wQ} {L : List (Option Value)} {st : List Value} {w : aw} {cn sn : Nat}  : wp d 111 Q 226 L st w cn sn = wp d 111 Q 121 L st w cn sn := w_goto d_111_226 (by decide)
theorem d_111_229 : decode (mB 111) 229 = .ok (.return_, 1) := by decide +kernel
theorem s_111_229 {d : Nat} {Q : wQ} {L : List (Option Value)} {w : aw} {cn sn : Nat}  : wp d 111 Q 229 L [] w cn sn = Q none w := w_return d_111_229 rfl
