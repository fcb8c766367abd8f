theorem d_127_0 : decode (mB 127) 0 = .ok (.iload_n 1, 1) := by decide +kernel
theorem s_127_0 {d : Nat} {Q : wQ} {L : List (Option Value)} {st : List Value} {w : aw} {cn sn : Nat} {a0 : Option Value} {v : Int32} : wp d 127 Q 0 (a0 :: some (.int v) :: L) st w cn sn = wp d 127 Q 1 (a0 :: some (.int v) :: L) (.int v :: st) w cn sn := w_iload_n d_127_0 rfl
theorem d_127_1 : decode (mB 127) 1 = .ok (.ifCond .ne 10, 3) := by decide +kernel
theorem s_127_1 {d : Nat} {Q : wQ} {L : List (Option Value)} {st : List Value} {w : aw} {cn sn : Nat} {x : Int32} : wp d 127 Q 1 L (.int x :: st) w cn sn = ((¬ x = 0 → wp d 127 Q 11 L st w cn sn) ∧ (x = 0 → wp d 127 Q 4 L st w cn sn)) := w_ifne d_127_1 (by decide)
theorem d_127_4 : decode (mB 127) 4 = .ok (.aload_n 0, 1) := by decide +kernel
theorem s_127_4 {d : Nat} {Q : wQ} {L : List (Option Value)} {st : List Value} {w : aw} {cn sn : Nat} {v : Nat} : wp d 127 Q 4 (some (.ref v) :: L) st w cn sn = wp d 127 Q 5 (some (.ref v) :: L) (.ref v :: st) w cn sn := w_aload_n d_127_4 rfl
theorem d_127_5 : decode (mB 127) 5 = .ok (.getfield 199, 3) := by decide +kernel
theorem s_127_5 {d : Nat} {Q : wQ} {L : List (Option Value)} {st : List Value} {w : aw} {cn sn : Nat} {a : Nat} : wp d 127 Q 5 L (.ref a :: st) w cn sn = (kd w a = 9 ∧ wp d 127 Q 8 L (fd w 544 a :: st) w cn sn) := w_getfield d_127_5 (by decide +kernel : fT (mO 127) 199 = some (8, 32))
theorem d_127_8 : decode (mB 127) 8 = .ok (.goto 16, 3) := by decide +kernel
theorem s_127_8 {d : Nat} {Q : wQ} {L : List (Option Value)} {st : List Value} {w : aw} {cn sn : Nat}  : wp d 127 Q 8 L st w cn sn = wp d 127 Q 24 L st w cn sn := w_goto d_127_8 (by decide)
theorem d_127_11 : decode (mB 127) 11 = .ok (.iload_n 1, 1) := by decide +kernel
theorem s_127_11 {d : Nat} {Q : wQ} {L : List (Option Value)} {st : List Value} {w : aw} {cn sn : Nat} {a0 : Option Value} {v : Int32} : wp d 127 Q 11 (a0 :: some (.int v) :: L) st w cn sn = wp d 127 Q 12 (a0 :: some (.int v) :: L) (.int v :: st) w cn sn := w_iload_n d_127_11 rfl
theorem d_127_12 : decode (mB 127) 12 = .ok (.iconst 1, 1) := by decide +kernel
theorem s_127_12 {d : Nat} {Q : wQ} {L : List (Option Value)} {st : List Value} {w : aw} {cn sn : Nat}  : wp d 127 Q 12 L st w cn sn = wp d 127 Q 13 L (.int 1 :: st) w cn sn := w_iconst d_127_12 (by decide)
theorem d_127_13 : decode (mB 127) 13 = .ok (.if_icmp .ne 10, 3) := by decide +kernel
theorem s_127_13 {d : Nat} {Q : wQ} {L : List (Option Value)} {st : List Value} {w : aw} {cn sn : Nat} {a b : Int32} : wp d 127 Q 13 L (.int b :: .int a :: st) w cn sn = ((¬ a = b → wp d 127 Q 23 L st w cn sn) ∧ (a = b → wp d 127 Q 16 L st w cn sn)) := w_icne d_127_13 (by decide)
theorem d_127_16 : decode (mB 127) 16 = .ok (.aload_n 0, 1) := by decide +kernel
theorem s_127_16 {d : Nat} {Q : wQ} {L : List (Option Value)} {st : List Value} {w : aw} {cn sn : Nat} {v : Nat} : wp d 127 Q 16 (some (.ref v) :: L) st w cn sn = wp d 127 Q 17 (some (.ref v) :: L) (.ref v :: st) w cn sn := w_aload_n d_127_16 rfl
theorem d_127_17 : decode (mB 127) 17 = .ok (.getfield 202, 3) := by decide +kernel
theorem s_127_17 {d : Nat} {Q : wQ} {L : List (Option Value)} {st : List Value} {w : aw} {cn sn : Nat} {a : Nat} : wp d 127 Q 17 L (.ref a :: st) w cn sn = (kd w a = 9 ∧ wp d 127 Q 20 L (fd w 545 a :: st) w cn sn) := w_getfield d_127_17 (by decide +kernel : fT (mO 127) 202 = some (8, 33))
theorem d_127_20 : decode (mB 127) 20 = .ok (.goto 4, 3) := by decide +kernel
theorem s_127_20 {d : Nat} {Q : wQ} {L : List (Option Value)} {st : List Value} {w : aw} {cn sn : Nat}  : wp d 127 Q 20 L st w cn sn = wp d 127 Q 24 L st w cn sn := w_goto d_127_20 (by decide)
theorem d_127_23 : decode (mB 127) 23 = .ok (.iconst (-1), 1) := by decide +kernel
theorem s_127_23 {d : Nat} {Q : wQ} {L : List (Option Value)} {st : List Value} {w : aw} {cn sn : Nat}  : wp d 127 Q 23 L st w cn sn = wp d 127 Q 24 L (.int (-1) :: st) w cn sn := w_iconst d_127_23 (by decide)
theorem d_127_24 : decode (mB 127) 24 = .ok (.ireturn, 1) := by decide +kernel
theorem s_127_24 {d : Nat} {Q : wQ} {L : List (Option Value)} {w : aw} {cn sn : Nat} {v : Int32} : wp d 127 Q 24 L [.int v] w cn sn = Q (some (.int v)) w := w_ireturn d_127_24 rfl
theorem d_128_0 : decode (mB 128) 0 = .ok (.aload_n 0, 1) := by decide +kernel
theorem s_128_0 {d : Nat} {Q : wQ} {L : List (Option Value)} {st : List Value} {w : aw} {cn sn : Nat} {v : Nat} : wp d 128 Q 0 (some (.ref v) :: L) st w cn sn = wp d 128 Q 1 (some (.ref v) :: L) (.ref v :: st) w cn sn := w_aload_n d_128_0 rfl
theorem d_128_1 : decode (mB 128) 1 = .ok (.iload_n 1, 1) := by decide +kernel
theorem s_128_1 {d : Nat} {Q : wQ} {L : List (Option Value)} {st : List Value} {w : aw} {cn sn : Nat} {a0 : Option Value} {v : Int32} : wp d 128 Q 1 (a0 :: some (.int v) :: L) st w cn sn = wp d 128 Q 2 (a0 :: some (.int v) :: L) (.int v :: st) w cn sn := w_iload_n d_128_1 rfl
theorem d_128_2 : decode (mB 128) 2 = .ok (.invokevirtual 205, 3) := by decide +kernel
theorem s_128_2 {d : Nat} {Q : wQ} {L : List (Option Value)} {st : List Value} {w : aw} {cn sn : Nat} {v0 : Value} {b : Nat} : wp d 128 Q 2 L (v0 :: .ref b :: st) w cn sn = (kd w b = 9 ∧ catS st ≤ 8 ∧ wpD d 106 [.ref b, v0] w (fun v w' => wp d 128 Q 5 L (v.toList ++ st) w' cn sn)) := w_virtual (As := [v0]) d_128_2 (by decide +kernel : cT (mO 128) 205 = some (0, 106)) rfl (by decide +kernel) rfl (by decide +kernel) rfl
theorem d_128_5 : decode (mB 128) 5 = .ok (.ifCond .eq 25, 3) := by decide +kernel
theorem s_128_5 {d : Nat} {Q : wQ} {L : List (Option Value)} {st : List Value} {w : aw} {cn sn : Nat} {x : Int32} : wp d 128 Q 5 L (.int x :: st) w cn sn = ((x = 0 → wp d 128 Q 30 L st w cn sn) ∧ (¬ x = 0 → wp d 128 Q 8 L st w cn sn)) := w_ifeq d_128_5 (by decide)
theorem d_128_8 : decode (mB 128) 8 = .ok (.iload_n 2, 1) := by decide +kernel
theorem s_128_8 {d : Nat} {Q : wQ} {L : List (Option Value)} {st : List Value} {w : aw} {cn sn : Nat} {a0 a1 : Option Value} {v : Int32} : wp d 128 Q 8 (a0 :: a1 :: some (.int v) :: L) st w cn sn = wp d 128 Q 9 (a0 :: a1 :: some (.int v) :: L) (.int v :: st) w cn sn := w_iload_n d_128_8 rfl
theorem d_128_9 : decode (mB 128) 9 = .ok (.iconst 0, 1) := by decide +kernel
theorem s_128_9 {d : Nat} {Q : wQ} {L : List (Option Value)} {st : List Value} {w : aw} {cn sn : Nat}  : wp d 128 Q 9 L st w cn sn = wp d 128 Q 10 L (.int 0 :: st) w cn sn := w_iconst d_128_9 (by decide)
theorem d_128_10 : decode (mB 128) 10 = .ok (.sipush 4095, 3) := by decide +kernel
theorem s_128_10 {d : Nat} {Q : wQ} {L : List (Option Value)} {st : List Value} {w : aw} {cn sn : Nat}  : wp d 128 Q 10 L st w cn sn = wp d 128 Q 13 L (.int 4095 :: st) w cn sn := w_sipush d_128_10 (by decide)
theorem d_128_13 : decode (mB 128) 13 = .ok (.invokestatic 111, 3) := by decide +kernel
theorem s_128_13 {d : Nat} {Q : wQ} {L : List (Option Value)} {st : List Value} {w : aw} {cn sn : Nat} {v0 v1 v2 : Value} : wp d 128 Q 13 L (v2 :: v1 :: v0 :: st) w cn sn = (catS st ≤ 8 ∧ wpD d 105 [v0, v1, v2] w (fun v w' => wp d 128 Q 16 L (v.toList ++ st) w' cn sn)) := w_static (As := [v0, v1, v2]) d_128_13 (by decide +kernel : cT (mO 128) 111 = some (2, 105)) (by decide +kernel) rfl (by decide +kernel) rfl
theorem d_128_16 : decode (mB 128) 16 = .ok (.ifCond .eq 14, 3) := by decide +kernel
theorem s_128_16 {d : Nat} {Q : wQ} {L : List (Option Value)} {st : List Value} {w : aw} {cn sn : Nat} {x : Int32} : wp d 128 Q 16 L (.int x :: st) w cn sn = ((x = 0 → wp d 128 Q 30 L st w cn sn) ∧ (¬ x = 0 → wp d 128 Q 19 L st w cn sn)) := w_ifeq d_128_16 (by decide)
theorem d_128_19 : decode (mB 128) 19 = .ok (.iload_n 3, 1) := by decide +kernel
theorem s_128_19 {d : Nat} {Q : wQ} {L : List (Option Value)} {st : List Value} {w : aw} {cn sn : Nat} {a0 a1 a2 : Option Value} {v : Int32} : wp d 128 Q 19 (a0 :: a1 :: a2 :: some (.int v) :: L) st w cn sn = wp d 128 Q 20 (a0 :: a1 :: a2 :: some (.int v) :: L) (.int v :: st) w cn sn := w_iload_n d_128_19 rfl
theorem d_128_20 : decode (mB 128) 20 = .ok (.iconst 0, 1) := by decide +kernel
theorem s_128_20 {d : Nat} {Q : wQ} {L : List (Option Value)} {st : List Value} {w : aw} {cn sn : Nat}  : wp d 128 Q 20 L st w cn sn = wp d 128 Q 21 L (.int 0 :: st) w cn sn := w_iconst d_128_20 (by decide)
theorem d_128_21 : decode (mB 128) 21 = .ok (.sipush 4095, 3) := by decide +kernel
theorem s_128_21 {d : Nat} {Q : wQ} {L : List (Option Value)} {st : List Value} {w : aw} {cn sn : Nat}  : wp d 128 Q 21 L st w cn sn = wp d 128 Q 24 L (.int 4095 :: st) w cn sn := w_sipush d_128_21 (by decide)
theorem d_128_24 : decode (mB 128) 24 = .ok (.invokestatic 111, 3) := by decide +kernel
theorem s_128_24 {d : Nat} {Q : wQ} {L : List (Option Value)} {st : List Value} {w : aw} {cn sn : Nat} {v0 v1 v2 : Value} : wp d 128 Q 24 L (v2 :: v1 :: v0 :: st) w cn sn = (catS st ≤ 8 ∧ wpD d 105 [v0, v1, v2] w (fun v w' => wp d 128 Q 27 L (v.toList ++ st) w' cn sn)) := w_static (As := [v0, v1, v2]) d_128_24 (by decide +kernel : cT (mO 128) 111 = some (2, 105)) (by decide +kernel) rfl (by decide +kernel) rfl
theorem d_128_27 : decode (mB 128) 27 = .ok (.ifCond .ne 5, 3) := by decide +kernel
theorem s_128_27 {d : Nat} {Q : wQ} {L : List (Option Value)} {st : List Value} {w : aw} {cn sn : Nat} {x : Int32} : wp d 128 Q 27 L (.int x :: st) w cn sn = ((¬ x = 0 → wp d 128 Q 32 L st w cn sn) ∧ (x = 0 → wp d 128 Q 30 L st w cn sn)) := w_ifne d_128_27 (by decide)
theorem d_128_30 : decode (mB 128) 30 = .ok (.iconst (-1), 1) := by decide +kernel
theorem s_128_30 {d : Nat} {Q : wQ} {L : List (Option Value)} {st : List Value} {w : aw} {cn sn : Nat}  : wp d 128 Q 30 L st w cn sn = wp d 128 Q 31 L (.int (-1) :: st) w cn sn := w_iconst d_128_30 (by decide)
theorem d_128_31 : decode (mB 128) 31 = .ok (.ireturn, 1) := by decide +kernel
theorem s_128_31 {d : Nat} {Q : wQ} {L : List (Option Value)} {w : aw} {cn sn : Nat} {v : Int32} : wp d 128 Q 31 L [.int v] w cn sn = Q (some (.int v)) w := w_ireturn d_128_31 rfl
theorem d_128_32 : decode (mB 128) 32 = .ok (.aload_n 0, 1) := by decide +kernel
theorem s_128_32 {d : Nat} {Q : wQ} {L : List (Option Value)} {st : List Value} {w : aw} {cn sn : Nat} {v : Nat} : wp d 128 Q 32 (some (.ref v) :: L) st w cn sn = wp d 128 Q 33 (some (.ref v) :: L) (.ref v :: st) w cn sn := w_aload_n d_128_32 rfl
theorem d_128_33 : decode (mB 128) 33 = .ok (.iload_n 1, 1) := by decide +kernel
theorem s_128_33 {d : Nat} {Q : wQ} {L : List (Option Value)} {st : List Value} {w : aw} {cn sn : Nat} {a0 : Option Value} {v : Int32} : wp d 128 Q 33 (a0 :: some (.int v) :: L) st w cn sn = wp d 128 Q 34 (a0 :: some (.int v) :: L) (.int v :: st) w cn sn := w_iload_n d_128_33 rfl
theorem d_128_34 : decode (mB 128) 34 = .ok (.iload_n 2, 1) := by decide +kernel
theorem s_128_34 {d : Nat} {Q : wQ} {L : List (Option Value)} {st : List Value} {w : aw} {cn sn : Nat} {a0 a1 : Option Value} {v : Int32} : wp d 128 Q 34 (a0 :: a1 :: some (.int v) :: L) st w cn sn = wp d 128 Q 35 (a0 :: a1 :: some (.int v) :: L) (.int v :: st) w cn sn := w_iload_n d_128_34 rfl
theorem d_128_35 : decode (mB 128) 35 = .ok (.iload_n 3, 1) := by decide +kernel
theorem s_128_35 {d : Nat} {Q : wQ} {L : List (Option Value)} {st : List Value} {w : aw} {cn sn : Nat} {a0 a1 a2 : Option Value} {v : Int32} : wp d 128 Q 35 (a0 :: a1 :: a2 :: some (.int v) :: L) st w cn sn = wp d 128 Q 36 (a0 :: a1 :: a2 :: some (.int v) :: L) (.int v :: st) w cn sn := w_iload_n d_128_35 rfl
theorem d_128_36 : decode (mB 128) 36 = .ok (.invokevirtual 133, 3) := by decide +kernel
theorem s_128_36 {d : Nat} {Q : wQ} {L : List (Option Value)} {st : List Value} {w : aw} {cn sn : Nat} {v0 v1 v2 : Value} {b : Nat} : wp d 128 Q 36 L (v2 :: v1 :: v0 :: .ref b :: st) w cn sn = (kd w b = 9 ∧ catS st ≤ 8 ∧ wpD d 108 [.ref b, v0, v1, v2] w (fun v w' => wp d 128 Q 39 L (v.toList ++ st) w' cn sn)) := w_virtual (As := [v0, v1, v2]) d_128_36 (by decide +kernel : cT (mO 128) 133 = some (0, 108)) rfl (by decide +kernel) rfl (by decide +kernel) rfl
theorem d_128_39 : decode (mB 128) 39 = .ok (.iconst 1, 1) := by decide +kernel
theorem s_128_39 {d : Nat} {Q : wQ} {L : List (Option Value)} {st : List Value} {w : aw} {cn sn : Nat}  : wp d 128 Q 39 L st w cn sn = wp d 128 Q 40 L (.int 1 :: st) w cn sn := w_iconst d_128_39 (by decide)
theorem d_128_40 : decode (mB 128) 40 = .ok (.ireturn, 1) := by decide +kernel
theorem s_128_40 {d : Nat} {Q : wQ} {L : List (Option Value)} {w : aw} {cn sn : Nat} {v : Int32} : wp d 128 Q 40 L [.int v] w cn sn = Q (some (.int v)) w := w_ireturn d_128_40 rfl
theorem d_129_0 : decode (mB 129) 0 = .ok (.aload_n 0, 1) := by decide +kernel
theorem s_129_0 {d : Nat} {Q : wQ} {L : List (Option Value)} {st : List Value} {w : aw} {cn sn : Nat} {v : Nat} : wp d 129 Q 0 (some (.ref v) :: L) st w cn sn = wp d 129 Q 1 (some (.ref v) :: L) (.ref v :: st) w cn sn := w_aload_n d_129_0 rfl
theorem d_129_1 : decode (mB 129) 1 = .ok (.iload_n 1, 1) := by decide +kernel
theorem s_129_1 {d : Nat} {Q : wQ} {L : List (Option Value)} {st : List Value} {w : aw} {cn sn : Nat} {a0 : Option Value} {v : Int32} : wp d 129 Q 1 (a0 :: some (.int v) :: L) st w cn sn = wp d 129 Q 2 (a0 :: some (.int v) :: L) (.int v :: st) w cn sn := w_iload_n d_129_1 rfl
theorem d_129_2 : decode (mB 129) 2 = .ok (.invokevirtual 205, 3) := by decide +kernel
theorem s_129_2 {d : Nat} {Q : wQ} {L : List (Option Value)} {st : List Value} {w : aw} {cn sn : Nat} {v0 : Value} {b : Nat} : wp d 129 Q 2 L (v0 :: .ref b :: st) w cn sn = (kd w b = 9 ∧ catS st ≤ 8 ∧ wpD d 106 [.ref b, v0] w (fun v w' => wp d 129 Q 5 L (v.toList ++ st) w' cn sn)) := w_virtual (As := [v0]) d_129_2 (by decide +kernel : cT (mO 129) 205 = some (0, 106)) rfl (by decide +kernel) rfl (by decide +kernel) rfl
theorem d_129_5 : decode (mB 129) 5 = .ok (.ifCond .eq 23, 3) := by decide +kernel
theorem s_129_5 {d : Nat} {Q : wQ} {L : List (Option Value)} {st : List Value} {w : aw} {cn sn : Nat} {x : Int32} : wp d 129 Q 5 L (.int x :: st) w cn sn = ((x = 0 → wp d 129 Q 28 L st w cn sn) ∧ (¬ x = 0 → wp d 129 Q 8 L st w cn sn)) := w_ifeq d_129_5 (by decide)
theorem d_129_8 : decode (mB 129) 8 = .ok (.iload_n 2, 1) := by decide +kernel
theorem s_129_8 {d : Nat} {Q : wQ} {L : List (Option Value)} {st : List Value} {w : aw} {cn sn : Nat} {a0 a1 : Option Value} {v : Int32} : wp d 129 Q 8 (a0 :: a1 :: some (.int v) :: L) st w cn sn = wp d 129 Q 9 (a0 :: a1 :: some (.int v) :: L) (.int v :: st) w cn sn := w_iload_n d_129_8 rfl
theorem d_129_9 : decode (mB 129) 9 = .ok (.iconst 0, 1) := by decide +kernel
theorem s_129_9 {d : Nat} {Q : wQ} {L : List (Option Value)} {st : List Value} {w : aw} {cn sn : Nat}  : wp d 129 Q 9 L st w cn sn = wp d 129 Q 10 L (.int 0 :: st) w cn sn := w_iconst d_129_9 (by decide)
theorem d_129_10 : decode (mB 129) 10 = .ok (.sipush 4095, 3) := by decide +kernel
theorem s_129_10 {d : Nat} {Q : wQ} {L : List (Option Value)} {st : List Value} {w : aw} {cn sn : Nat}  : wp d 129 Q 10 L st w cn sn = wp d 129 Q 13 L (.int 4095 :: st) w cn sn := w_sipush d_129_10 (by decide)
theorem d_129_13 : decode (mB 129) 13 = .ok (.invokestatic 111, 3) := by decide +kernel
theorem s_129_13 {d : Nat} {Q : wQ} {L : List (Option Value)} {st : List Value} {w : aw} {cn sn : Nat} {v0 v1 v2 : Value} : wp d 129 Q 13 L (v2 :: v1 :: v0 :: st) w cn sn = (catS st ≤ 8 ∧ wpD d 105 [v0, v1, v2] w (fun v w' => wp d 129 Q 16 L (v.toList ++ st) w' cn sn)) := w_static (As := [v0, v1, v2]) d_129_13 (by decide +kernel : cT (mO 129) 111 = some (2, 105)) (by decide +kernel) rfl (by decide +kernel) rfl
theorem d_129_16 : decode (mB 129) 16 = .ok (.ifCond .eq 12, 3) := by decide +kernel
theorem s_129_16 {d : Nat} {Q : wQ} {L : List (Option Value)} {st : List Value} {w : aw} {cn sn : Nat} {x : Int32} : wp d 129 Q 16 L (.int x :: st) w cn sn = ((x = 0 → wp d 129 Q 28 L st w cn sn) ∧ (¬ x = 0 → wp d 129 Q 19 L st w cn sn)) := w_ifeq d_129_16 (by decide)
theorem d_129_19 : decode (mB 129) 19 = .ok (.aload_n 0, 1) := by decide +kernel
theorem s_129_19 {d : Nat} {Q : wQ} {L : List (Option Value)} {st : List Value} {w : aw} {cn sn : Nat} {v : Nat} : wp d 129 Q 19 (some (.ref v) :: L) st w cn sn = wp d 129 Q 20 (some (.ref v) :: L) (.ref v :: st) w cn sn := w_aload_n d_129_19 rfl
theorem d_129_20 : decode (mB 129) 20 = .ok (.iload_n 1, 1) := by decide +kernel
theorem s_129_20 {d : Nat} {Q : wQ} {L : List (Option Value)} {st : List Value} {w : aw} {cn sn : Nat} {a0 : Option Value} {v : Int32} : wp d 129 Q 20 (a0 :: some (.int v) :: L) st w cn sn = wp d 129 Q 21 (a0 :: some (.int v) :: L) (.int v :: st) w cn sn := w_iload_n d_129_20 rfl
theorem d_129_21 : decode (mB 129) 21 = .ok (.iload_n 2, 1) := by decide +kernel
theorem s_129_21 {d : Nat} {Q : wQ} {L : List (Option Value)} {st : List Value} {w : aw} {cn sn : Nat} {a0 a1 : Option Value} {v : Int32} : wp d 129 Q 21 (a0 :: a1 :: some (.int v) :: L) st w cn sn = wp d 129 Q 22 (a0 :: a1 :: some (.int v) :: L) (.int v :: st) w cn sn := w_iload_n d_129_21 rfl
theorem d_129_22 : decode (mB 129) 22 = .ok (.invokevirtual 115, 3) := by decide +kernel
theorem s_129_22 {d : Nat} {Q : wQ} {L : List (Option Value)} {st : List Value} {w : aw} {cn sn : Nat} {v0 v1 : Value} {b : Nat} : wp d 129 Q 22 L (v1 :: v0 :: .ref b :: st) w cn sn = (kd w b = 9 ∧ catS st ≤ 8 ∧ wpD d 107 [.ref b, v0, v1] w (fun v w' => wp d 129 Q 25 L (v.toList ++ st) w' cn sn)) := w_virtual (As := [v0, v1]) d_129_22 (by decide +kernel : cT (mO 129) 115 = some (0, 107)) rfl (by decide +kernel) rfl (by decide +kernel) rfl
theorem d_129_25 : decode (mB 129) 25 = .ok (.goto 4, 3) := by decide +kernel
theorem s_129_25 {d : Nat} {Q : wQ} {L : List (Option Value)} {st : List Value} {w : aw} {cn sn : Nat}  : wp d 129 Q 25 L st w cn sn = wp d 129 Q 29 L st w cn sn := w_goto d_129_25 (by decide)
theorem d_129_28 : decode (mB 129) 28 = .ok (.iconst (-1), 1) := by decide +kernel
theorem s_129_28 {d : Nat} {Q : wQ} {L : List (Option Value)} {st : List Value} {w : aw} {cn sn : Nat}  : wp d 129 Q 28 L st w cn sn = wp d 129 Q 29 L (.int (-1) :: st) w cn sn := w_iconst d_129_28 (by decide)
theorem d_129_29 : decode (mB 129) 29 = .ok (.ireturn, 1) := by decide +kernel
theorem s_129_29 {d : Nat} {Q : wQ} {L : List (Option Value)} {w : aw} {cn sn : Nat} {v : Int32} : wp d 129 Q 29 L [.int v] w cn sn = Q (some (.int v)) w := w_ireturn d_129_29 rfl
theorem d_130_0 : decode (mB 130) 0 = .ok (.aload_n 0, 1) := by decide +kernel
theorem s_130_0 {d : Nat} {Q : wQ} {L : List (Option Value)} {st : List Value} {w : aw} {cn sn : Nat} {v : Nat} : wp d 130 Q 0 (some (.ref v) :: L) st w cn sn = wp d 130 Q 1 (some (.ref v) :: L) (.ref v :: st) w cn sn := w_aload_n d_130_0 rfl
theorem d_130_1 : decode (mB 130) 1 = .ok (.iload_n 1, 1) := by decide +kernel
theorem s_130_1 {d : Nat} {Q : wQ} {L : List (Option Value)} {st : List Value} {w : aw} {cn sn : Nat} {a0 : Option Value} {v : Int32} : wp d 130 Q 1 (a0 :: some (.int v) :: L) st w cn sn = wp d 130 Q 2 (a0 :: some (.int v) :: L) (.int v :: st) w cn sn := w_iload_n d_130_1 rfl
theorem d_130_2 : decode (mB 130) 2 = .ok (.invokevirtual 205, 3) := by decide +kernel
theorem s_130_2 {d : Nat} {Q : wQ} {L : List (Option Value)} {st : List Value} {w : aw} {cn sn : Nat} {v0 : Value} {b : Nat} : wp d 130 Q 2 L (v0 :: .ref b :: st) w cn sn = (kd w b = 9 ∧ catS st ≤ 8 ∧ wpD d 106 [.ref b, v0] w (fun v w' => wp d 130 Q 5 L (v.toList ++ st) w' cn sn)) := w_virtual (As := [v0]) d_130_2 (by decide +kernel : cT (mO 130) 205 = some (0, 106)) rfl (by decide +kernel) rfl (by decide +kernel) rfl
theorem d_130_5 : decode (mB 130) 5 = .ok (.ifCond .eq 27, 3) := by decide +kernel
theorem s_130_5 {d : Nat} {Q : wQ} {L : List (Option Value)} {st : List Value} {w : aw} {cn sn : Nat} {x : Int32} : wp d 130 Q 5 L (.int x :: st) w cn sn = ((x = 0 → wp d 130 Q 32 L st w cn sn) ∧ (¬ x = 0 → wp d 130 Q 8 L st w cn sn)) := w_ifeq d_130_5 (by decide)
theorem d_130_8 : decode (mB 130) 8 = .ok (.iload_n 2, 1) := by decide +kernel
theorem s_130_8 {d : Nat} {Q : wQ} {L : List (Option Value)} {st : List Value} {w : aw} {cn sn : Nat} {a0 a1 : Option Value} {v : Int32} : wp d 130 Q 8 (a0 :: a1 :: some (.int v) :: L) st w cn sn = wp d 130 Q 9 (a0 :: a1 :: some (.int v) :: L) (.int v :: st) w cn sn := w_iload_n d_130_8 rfl
theorem d_130_9 : decode (mB 130) 9 = .ok (.iconst 0, 1) := by decide +kernel
theorem s_130_9 {d : Nat} {Q : wQ} {L : List (Option Value)} {st : List Value} {w : aw} {cn sn : Nat}  : wp d 130 Q 9 L st w cn sn = wp d 130 Q 10 L (.int 0 :: st) w cn sn := w_iconst d_130_9 (by decide)
theorem d_130_10 : decode (mB 130) 10 = .ok (.bipush 31, 2) := by decide +kernel
theorem s_130_10 {d : Nat} {Q : wQ} {L : List (Option Value)} {st : List Value} {w : aw} {cn sn : Nat}  : wp d 130 Q 10 L st w cn sn = wp d 130 Q 12 L (.int 31 :: st) w cn sn := w_bipush d_130_10 (by decide)
theorem d_130_12 : decode (mB 130) 12 = .ok (.invokestatic 111, 3) := by decide +kernel
theorem s_130_12 {d : Nat} {Q : wQ} {L : List (Option Value)} {st : List Value} {w : aw} {cn sn : Nat} {v0 v1 v2 : Value} : wp d 130 Q 12 L (v2 :: v1 :: v0 :: st) w cn sn = (catS st ≤ 8 ∧ wpD d 105 [v0, v1, v2] w (fun v w' => wp d 130 Q 15 L (v.toList ++ st) w' cn sn)) := w_static (As := [v0, v1, v2]) d_130_12 (by decide +kernel : cT (mO 130) 111 = some (2, 105)) (by decide +kernel) rfl (by decide +kernel) rfl
theorem d_130_15 : decode (mB 130) 15 = .ok (.ifCond .eq 17, 3) := by decide +kernel
theorem s_130_15 {d : Nat} {Q : wQ} {L : List (Option Value)} {st : List Value} {w : aw} {cn sn : Nat} {x : Int32} : wp d 130 Q 15 L (.int x :: st) w cn sn = ((x = 0 → wp d 130 Q 32 L st w cn sn) ∧ (¬ x = 0 → wp d 130 Q 18 L st w cn sn)) := w_ifeq d_130_15 (by decide)
theorem d_130_18 : decode (mB 130) 18 = .ok (.iload_n 3, 1) := by decide +kernel
theorem s_130_18 {d : Nat} {Q : wQ} {L : List (Option Value)} {st : List Value} {w : aw} {cn sn : Nat} {a0 a1 a2 : Option Value} {v : Int32} : wp d 130 Q 18 (a0 :: a1 :: a2 :: some (.int v) :: L) st w cn sn = wp d 130 Q 19 (a0 :: a1 :: a2 :: some (.int v) :: L) (.int v :: st) w cn sn := w_iload_n d_130_18 rfl
theorem d_130_19 : decode (mB 130) 19 = .ok (.iconst 0, 1) := by decide +kernel
theorem s_130_19 {d : Nat} {Q : wQ} {L : List (Option Value)} {st : List Value} {w : aw} {cn sn : Nat}  : wp d 130 Q 19 L st w cn sn = wp d 130 Q 20 L (.int 0 :: st) w cn sn := w_iconst d_130_19 (by decide)
theorem d_130_20 : decode (mB 130) 20 = .ok (.bipush 127, 2) := by decide +kernel
theorem s_130_20 {d : Nat} {Q : wQ} {L : List (Option Value)} {st : List Value} {w : aw} {cn sn : Nat}  : wp d 130 Q 20 L st w cn sn = wp d 130 Q 22 L (.int 127 :: st) w cn sn := w_bipush d_130_20 (by decide)
theorem d_130_22 : decode (mB 130) 22 = .ok (.invokestatic 111, 3) := by decide +kernel
theorem s_130_22 {d : Nat} {Q : wQ} {L : List (Option Value)} {st : List Value} {w : aw} {cn sn : Nat} {v0 v1 v2 : Value} : wp d 130 Q 22 L (v2 :: v1 :: v0 :: st) w cn sn = (catS st ≤ 8 ∧ wpD d 105 [v0, v1, v2] w (fun v w' => wp d 130 Q 25 L (v.toList ++ st) w' cn sn)) := w_static (As := [v0, v1, v2]) d_130_22 (by decide +kernel : cT (mO 130) 111 = some (2, 105)) (by decide +kernel) rfl (by decide +kernel) rfl
theorem d_130_25 : decode (mB 130) 25 = .ok (.ifCond .eq 7, 3) := by decide +kernel
theorem s_130_25 {d : Nat} {Q : wQ} {L : List (Option Value)} {st : List Value} {w : aw} {cn sn : Nat} {x : Int32} : wp d 130 Q 25 L (.int x :: st) w cn sn = ((x = 0 → wp d 130 Q 32 L st w cn sn) ∧ (¬ x = 0 → wp d 130 Q 28 L st w cn sn)) := w_ifeq d_130_25 (by decide)
theorem d_130_28 : decode (mB 130) 28 = .ok (.iconst 1, 1) := by decide +kernel
theorem s_130_28 {d : Nat} {Q : wQ} {L : List (Option Value)} {st : List Value} {w : aw} {cn sn : Nat}  : wp d 130 Q 28 L st w cn sn = wp d 130 Q 29 L (.int 1 :: st) w cn sn := w_iconst d_130_28 (by decide)
theorem d_130_29 : decode (mB 130) 29 = .ok (.goto 4, 3) := by decide +kernel
theorem s_130_29 {d : Nat} {Q : wQ} {L : List (Option Value)} {st : List Value} {w : aw} {cn sn : Nat}  : wp d 130 Q 29 L st w cn sn = wp d 130 Q 33 L st w cn sn := w_goto d_130_29 (by decide)
theorem d_130_32 : decode (mB 130) 32 = .ok (.iconst 0, 1) := by decide +kernel
theorem s_130_32 {d : Nat} {Q : wQ} {L : List (Option Value)} {st : List Value} {w : aw} {cn sn : Nat}  : wp d 130 Q 32 L st w cn sn = wp d 130 Q 33 L (.int 0 :: st) w cn sn := w_iconst d_130_32 (by decide)
theorem d_130_33 : decode (mB 130) 33 = .ok (.ireturn, 1) := by decide +kernel
theorem s_130_33 {d : Nat} {Q : wQ} {L : List (Option Value)} {w : aw} {cn sn : Nat} {v : Int32} : wp d 130 Q 33 L [.int v] w cn sn = (narrow .boolean (.int v) = .int v ∧ Q (some (.int v)) w) := w_zreturn d_130_33 rfl
theorem d_131_0 : decode (mB 131) 0 = .ok (.aload_n 0, 1) := by decide +kernel
theorem s_131_0 {d : Nat} {Q : wQ} {L : List (Option Value)} {st : List Value} {w : aw} {cn sn : Nat} {v : Nat} : wp d 131 Q 0 (some (.ref v) :: L) st w cn sn = wp d 131 Q 1 (some (.ref v) :: L) (.ref v :: st) w cn sn := w_aload_n d_131_0 rfl
theorem d_131_1 : decode (mB 131) 1 = .ok (.iload_n 1, 1) := by decide +kernel
theorem s_131_1 {d : Nat} {Q : wQ} {L : List (Option Value)} {st : List Value} {w : aw} {cn sn : Nat} {a0 : Option Value} {v : Int32} : wp d 131 Q 1 (a0 :: some (.int v) :: L) st w cn sn = wp d 131 Q 2 (a0 :: some (.int v) :: L) (.int v :: st) w cn sn := w_iload_n d_131_1 rfl
theorem d_131_2 : decode (mB 131) 2 = .ok (.iload_n 2, 1) := by decide +kernel
theorem s_131_2 {d : Nat} {Q : wQ} {L : List (Option Value)} {st : List Value} {w : aw} {cn sn : Nat} {a0 a1 : Option Value} {v : Int32} : wp d 131 Q 2 (a0 :: a1 :: some (.int v) :: L) st w cn sn = wp d 131 Q 3 (a0 :: a1 :: some (.int v) :: L) (.int v :: st) w cn sn := w_iload_n d_131_2 rfl
theorem d_131_3 : decode (mB 131) 3 = .ok (.iload_n 3, 1) := by decide +kernel
theorem s_131_3 {d : Nat} {Q : wQ} {L : List (Option Value)} {st : List Value} {w : aw} {cn sn : Nat} {a0 a1 a2 : Option Value} {v : Int32} : wp d 131 Q 3 (a0 :: a1 :: a2 :: some (.int v) :: L) st w cn sn = wp d 131 Q 4 (a0 :: a1 :: a2 :: some (.int v) :: L) (.int v :: st) w cn sn := w_iload_n d_131_3 rfl
theorem d_131_4 : decode (mB 131) 4 = .ok (.invokevirtual 209, 3) := by decide +kernel
theorem s_131_4 {d : Nat} {Q : wQ} {L : List (Option Value)} {st : List Value} {w : aw} {cn sn : Nat} {v0 v1 v2 : Value} {b : Nat} : wp d 131 Q 4 L (v2 :: v1 :: v0 :: .ref b :: st) w cn sn = (kd w b = 9 ∧ catS st ≤ 8 ∧ wpD d 130 [.ref b, v0, v1, v2] w (fun v w' => wp d 131 Q 7 L (v.toList ++ st) w' cn sn)) := w_virtual (As := [v0, v1, v2]) d_131_4 (by decide +kernel : cT (mO 131) 209 = some (0, 130)) rfl (by decide +kernel) rfl (by decide +kernel) rfl
theorem d_131_7 : decode (mB 131) 7 = .ok (.ifCond .eq 15, 3) := by decide +kernel
theorem s_131_7 {d : Nat} {Q : wQ} {L : List (Option Value)} {st : List Value} {w : aw} {cn sn : Nat} {x : Int32} : wp d 131 Q 7 L (.int x :: st) w cn sn = ((x = 0 → wp d 131 Q 22 L st w cn sn) ∧ (¬ x = 0 → wp d 131 Q 10 L st w cn sn)) := w_ifeq d_131_7 (by decide)
theorem d_131_10 : decode (mB 131) 10 = .ok (.iload 4, 2) := by decide +kernel
theorem s_131_10 {d : Nat} {Q : wQ} {L : List (Option Value)} {st : List Value} {w : aw} {cn sn : Nat} {a0 a1 a2 a3 : Option Value} {v : Int32} : wp d 131 Q 10 (a0 :: a1 :: a2 :: a3 :: some (.int v) :: L) st w cn sn = wp d 131 Q 12 (a0 :: a1 :: a2 :: a3 :: some (.int v) :: L) (.int v :: st) w cn sn := w_iload d_131_10 rfl
theorem d_131_12 : decode (mB 131) 12 = .ok (.iconst 0, 1) := by decide +kernel
theorem s_131_12 {d : Nat} {Q : wQ} {L : List (Option Value)} {st : List Value} {w : aw} {cn sn : Nat}  : wp d 131 Q 12 L st w cn sn = wp d 131 Q 13 L (.int 0 :: st) w cn sn := w_iconst d_131_12 (by decide)
theorem d_131_13 : decode (mB 131) 13 = .ok (.sipush 4095, 3) := by decide +kernel
theorem s_131_13 {d : Nat} {Q : wQ} {L : List (Option Value)} {st : List Value} {w : aw} {cn sn : Nat}  : wp d 131 Q 13 L st w cn sn = wp d 131 Q 16 L (.int 4095 :: st) w cn sn := w_sipush d_131_13 (by decide)
theorem d_131_16 : decode (mB 131) 16 = .ok (.invokestatic 111, 3) := by decide +kernel
theorem s_131_16 {d : Nat} {Q : wQ} {L : List (Option Value)} {st : List Value} {w : aw} {cn sn : Nat} {v0 v1 v2 : Value} : wp d 131 Q 16 L (v2 :: v1 :: v0 :: st) w cn sn = (catS st ≤ 8 ∧ wpD d 105 [v0, v1, v2] w (fun v w' => wp d 131 Q 19 L (v.toList ++ st) w' cn sn)) := w_static (As := [v0, v1, v2]) d_131_16 (by decide +kernel : cT (mO 131) 111 = some (2, 105)) (by decide +kernel) rfl (by decide +kernel) rfl
theorem d_131_19 : decode (mB 131) 19 = .ok (.ifCond .ne 5, 3) := by decide +kernel
theorem s_131_19 {d : Nat} {Q : wQ} {L : List (Option Value)} {st : List Value} {w : aw} {cn sn : Nat} {x : Int32} : wp d 131 Q 19 L (.int x :: st) w cn sn = ((¬ x = 0 → wp d 131 Q 24 L st w cn sn) ∧ (x = 0 → wp d 131 Q 22 L st w cn sn)) := w_ifne d_131_19 (by decide)
theorem d_131_22 : decode (mB 131) 22 = .ok (.iconst (-1), 1) := by decide +kernel
theorem s_131_22 {d : Nat} {Q : wQ} {L : List (Option Value)} {st : List Value} {w : aw} {cn sn : Nat}  : wp d 131 Q 22 L st w cn sn = wp d 131 Q 23 L (.int (-1) :: st) w cn sn := w_iconst d_131_22 (by decide)
theorem d_131_23 : decode (mB 131) 23 = .ok (.ireturn, 1) := by decide +kernel
theorem s_131_23 {d : Nat} {Q : wQ} {L : List (Option Value)} {w : aw} {cn sn : Nat} {v : Int32} : wp d 131 Q 23 L [.int v] w cn sn = Q (some (.int v)) w := w_ireturn d_131_23 rfl
theorem d_131_24 : decode (mB 131) 24 = .ok (.aload_n 0, 1) := by decide +kernel
theorem s_131_24 {d : Nat} {Q : wQ} {L : List (Option Value)} {st : List Value} {w : aw} {cn sn : Nat} {v : Nat} : wp d 131 Q 24 (some (.ref v) :: L) st w cn sn = wp d 131 Q 25 (some (.ref v) :: L) (.ref v :: st) w cn sn := w_aload_n d_131_24 rfl
theorem d_131_25 : decode (mB 131) 25 = .ok (.getfield 27, 3) := by decide +kernel
theorem s_131_25 {d : Nat} {Q : wQ} {L : List (Option Value)} {st : List Value} {w : aw} {cn sn : Nat} {a : Nat} : wp d 131 Q 25 L (.ref a :: st) w cn sn = (kd w a = 9 ∧ wp d 131 Q 28 L (fd w 527 a :: st) w cn sn) := w_getfield d_131_25 (by decide +kernel : fT (mO 131) 27 = some (8, 15))
theorem d_131_28 : decode (mB 131) 28 = .ok (.sipush 4096, 3) := by decide +kernel
theorem s_131_28 {d : Nat} {Q : wQ} {L : List (Option Value)} {st : List Value} {w : aw} {cn sn : Nat}  : wp d 131 Q 28 L st w cn sn = wp d 131 Q 31 L (.int 4096 :: st) w cn sn := w_sipush d_131_28 (by decide)
theorem d_131_31 : decode (mB 131) 31 = .ok (.iload_n 1, 1) := by decide +kernel
theorem s_131_31 {d : Nat} {Q : wQ} {L : List (Option Value)} {st : List Value} {w : aw} {cn sn : Nat} {a0 : Option Value} {v : Int32} : wp d 131 Q 31 (a0 :: some (.int v) :: L) st w cn sn = wp d 131 Q 32 (a0 :: some (.int v) :: L) (.int v :: st) w cn sn := w_iload_n d_131_31 rfl
theorem d_131_32 : decode (mB 131) 32 = .ok (.imul, 1) := by decide +kernel
theorem s_131_32 {d : Nat} {Q : wQ} {L : List (Option Value)} {st : List Value} {w : aw} {cn sn : Nat} {a b : Int32} : wp d 131 Q 32 L (.int b :: .int a :: st) w cn sn = wp d 131 Q 33 L (.int (a * b) :: st) w cn sn := wp_row d_131_32 _ _ _ _ _
theorem d_131_33 : decode (mB 131) 33 = .ok (.sipush 128, 3) := by decide +kernel
theorem s_131_33 {d : Nat} {Q : wQ} {L : List (Option Value)} {st : List Value} {w : aw} {cn sn : Nat}  : wp d 131 Q 33 L st w cn sn = wp d 131 Q 36 L (.int 128 :: st) w cn sn := w_sipush d_131_33 (by decide)
theorem d_131_36 : decode (mB 131) 36 = .ok (.iload_n 2, 1) := by decide +kernel
theorem s_131_36 {d : Nat} {Q : wQ} {L : List (Option Value)} {st : List Value} {w : aw} {cn sn : Nat} {a0 a1 : Option Value} {v : Int32} : wp d 131 Q 36 (a0 :: a1 :: some (.int v) :: L) st w cn sn = wp d 131 Q 37 (a0 :: a1 :: some (.int v) :: L) (.int v :: st) w cn sn := w_iload_n d_131_36 rfl
theorem d_131_37 : decode (mB 131) 37 = .ok (.imul, 1) := by decide +kernel
theorem s_131_37 {d : Nat} {Q : wQ} {L : List (Option Value)} {st : List Value} {w : aw} {cn sn : Nat} {a b : Int32} : wp d 131 Q 37 L (.int b :: .int a :: st) w cn sn = wp d 131 Q 38 L (.int (a * b) :: st) w cn sn := wp_row d_131_37 _ _ _ _ _
theorem d_131_38 : decode (mB 131) 38 = .ok (.iadd, 1) := by decide +kernel
theorem s_131_38 {d : Nat} {Q : wQ} {L : List (Option Value)} {st : List Value} {w : aw} {cn sn : Nat} {a b : Int32} : wp d 131 Q 38 L (.int b :: .int a :: st) w cn sn = wp d 131 Q 39 L (.int (a + b) :: st) w cn sn := wp_row d_131_38 _ _ _ _ _
theorem d_131_39 : decode (mB 131) 39 = .ok (.iload_n 3, 1) := by decide +kernel
theorem s_131_39 {d : Nat} {Q : wQ} {L : List (Option Value)} {st : List Value} {w : aw} {cn sn : Nat} {a0 a1 a2 : Option Value} {v : Int32} : wp d 131 Q 39 (a0 :: a1 :: a2 :: some (.int v) :: L) st w cn sn = wp d 131 Q 40 (a0 :: a1 :: a2 :: some (.int v) :: L) (.int v :: st) w cn sn := w_iload_n d_131_39 rfl
theorem d_131_40 : decode (mB 131) 40 = .ok (.iadd, 1) := by decide +kernel
theorem s_131_40 {d : Nat} {Q : wQ} {L : List (Option Value)} {st : List Value} {w : aw} {cn sn : Nat} {a b : Int32} : wp d 131 Q 40 L (.int b :: .int a :: st) w cn sn = wp d 131 Q 41 L (.int (a + b) :: st) w cn sn := wp_row d_131_40 _ _ _ _ _
theorem d_131_41 : decode (mB 131) 41 = .ok (.iload 4, 2) := by decide +kernel
theorem s_131_41 {d : Nat} {Q : wQ} {L : List (Option Value)} {st : List Value} {w : aw} {cn sn : Nat} {a0 a1 a2 a3 : Option Value} {v : Int32} : wp d 131 Q 41 (a0 :: a1 :: a2 :: a3 :: some (.int v) :: L) st w cn sn = wp d 131 Q 43 (a0 :: a1 :: a2 :: a3 :: some (.int v) :: L) (.int v :: st) w cn sn := w_iload d_131_41 rfl
theorem d_131_43 : decode (mB 131) 43 = .ok (.iastore, 1) := by decide +kernel
theorem s_131_43 {d : Nat} {Q : wQ} {L : List (Option Value)} {st : List Value} {w : aw} {cn sn : Nat} {a : Nat} {i x : Int32} : wp d 131 Q 43 L (.int x :: .int i :: .ref a :: st) w cn sn = (kd w a = 20 ∧ inR i (ln w a) ∧ wp d 131 Q 44 L st (uA w a i.toNatClampNeg x) cn sn) := wp_row d_131_43 _ _ _ _ _
theorem d_131_44 : decode (mB 131) 44 = .ok (.iconst 1, 1) := by decide +kernel
theorem s_131_44 {d : Nat} {Q : wQ} {L : List (Option Value)} {st : List Value} {w : aw} {cn sn : Nat}  : wp d 131 Q 44 L st w cn sn = wp d 131 Q 45 L (.int 1 :: st) w cn sn := w_iconst d_131_44 (by decide)
theorem d_131_45 : decode (mB 131) 45 = .ok (.ireturn, 1) := by decide +kernel
theorem s_131_45 {d : Nat} {Q : wQ} {L : List (Option Value)} {w : aw} {cn sn : Nat} {v : Int32} : wp d 131 Q 45 L [.int v] w cn sn = Q (some (.int v)) w := w_ireturn d_131_45 rfl
theorem d_132_0 : decode (mB 132) 0 = .ok (.aload_n 0, 1) := by decide +kernel
theorem s_132_0 {d : Nat} {Q : wQ} {L : List (Option Value)} {st : List Value} {w : aw} {cn sn : Nat} {v : Nat} : wp d 132 Q 0 (some (.ref v) :: L) st w cn sn = wp d 132 Q 1 (some (.ref v) :: L) (.ref v :: st) w cn sn := w_aload_n d_132_0 rfl
theorem d_132_1 : decode (mB 132) 1 = .ok (.iload_n 1, 1) := by decide +kernel
theorem s_132_1 {d : Nat} {Q : wQ} {L : List (Option Value)} {st : List Value} {w : aw} {cn sn : Nat} {a0 : Option Value} {v : Int32} : wp d 132 Q 1 (a0 :: some (.int v) :: L) st w cn sn = wp d 132 Q 2 (a0 :: some (.int v) :: L) (.int v :: st) w cn sn := w_iload_n d_132_1 rfl
theorem d_132_2 : decode (mB 132) 2 = .ok (.iload_n 2, 1) := by decide +kernel
theorem s_132_2 {d : Nat} {Q : wQ} {L : List (Option Value)} {st : List Value} {w : aw} {cn sn : Nat} {a0 a1 : Option Value} {v : Int32} : wp d 132 Q 2 (a0 :: a1 :: some (.int v) :: L) st w cn sn = wp d 132 Q 3 (a0 :: a1 :: some (.int v) :: L) (.int v :: st) w cn sn := w_iload_n d_132_2 rfl
theorem d_132_3 : decode (mB 132) 3 = .ok (.iload_n 3, 1) := by decide +kernel
theorem s_132_3 {d : Nat} {Q : wQ} {L : List (Option Value)} {st : List Value} {w : aw} {cn sn : Nat} {a0 a1 a2 : Option Value} {v : Int32} : wp d 132 Q 3 (a0 :: a1 :: a2 :: some (.int v) :: L) st w cn sn = wp d 132 Q 4 (a0 :: a1 :: a2 :: some (.int v) :: L) (.int v :: st) w cn sn := w_iload_n d_132_3 rfl
theorem d_132_4 : decode (mB 132) 4 = .ok (.invokevirtual 209, 3) := by decide +kernel
theorem s_132_4 {d : Nat} {Q : wQ} {L : List (Option Value)} {st : List Value} {w : aw} {cn sn : Nat} {v0 v1 v2 : Value} {b : Nat} : wp d 132 Q 4 L (v2 :: v1 :: v0 :: .ref b :: st) w cn sn = (kd w b = 9 ∧ catS st ≤ 8 ∧ wpD d 130 [.ref b, v0, v1, v2] w (fun v w' => wp d 132 Q 7 L (v.toList ++ st) w' cn sn)) := w_virtual (As := [v0, v1, v2]) d_132_4 (by decide +kernel : cT (mO 132) 209 = some (0, 130)) rfl (by decide +kernel) rfl (by decide +kernel) rfl
theorem d_132_7 : decode (mB 132) 7 = .ok (.ifCond .eq 24, 3) := by decide +kernel
theorem s_132_7 {d : Nat} {Q : wQ} {L : List (Option Value)} {st : List Value} {w : aw} {cn sn : Nat} {x : Int32} : wp d 132 Q 7 L (.int x :: st) w cn sn = ((x = 0 → wp d 132 Q 31 L st w cn sn) ∧ (¬ x = 0 → wp d 132 Q 10 L st w cn sn)) := w_ifeq d_132_7 (by decide)
theorem d_132_10 : decode (mB 132) 10 = .ok (.aload_n 0, 1) := by decide +kernel
theorem s_132_10 {d : Nat} {Q : wQ} {L : List (Option Value)} {st : List Value} {w : aw} {cn sn : Nat} {v : Nat} : wp d 132 Q 10 (some (.ref v) :: L) st w cn sn = wp d 132 Q 11 (some (.ref v) :: L) (.ref v :: st) w cn sn := w_aload_n d_132_10 rfl
theorem d_132_11 : decode (mB 132) 11 = .ok (.getfield 27, 3) := by decide +kernel
theorem s_132_11 {d : Nat} {Q : wQ} {L : List (Option Value)} {st : List Value} {w : aw} {cn sn : Nat} {a : Nat} : wp d 132 Q 11 L (.ref a :: st) w cn sn = (kd w a = 9 ∧ wp d 132 Q 14 L (fd w 527 a :: st) w cn sn) := w_getfield d_132_11 (by decide +kernel : fT (mO 132) 27 = some (8, 15))
theorem d_132_14 : decode (mB 132) 14 = .ok (.sipush 4096, 3) := by decide +kernel
theorem s_132_14 {d : Nat} {Q : wQ} {L : List (Option Value)} {st : List Value} {w : aw} {cn sn : Nat}  : wp d 132 Q 14 L st w cn sn = wp d 132 Q 17 L (.int 4096 :: st) w cn sn := w_sipush d_132_14 (by decide)
theorem d_132_17 : decode (mB 132) 17 = .ok (.iload_n 1, 1) := by decide +kernel
theorem s_132_17 {d : Nat} {Q : wQ} {L : List (Option Value)} {st : List Value} {w : aw} {cn sn : Nat} {a0 : Option Value} {v : Int32} : wp d 132 Q 17 (a0 :: some (.int v) :: L) st w cn sn = wp d 132 Q 18 (a0 :: some (.int v) :: L) (.int v :: st) w cn sn := w_iload_n d_132_17 rfl
theorem d_132_18 : decode (mB 132) 18 = .ok (.imul, 1) := by decide +kernel
theorem s_132_18 {d : Nat} {Q : wQ} {L : List (Option Value)} {st : List Value} {w : aw} {cn sn : Nat} {a b : Int32} : wp d 132 Q 18 L (.int b :: .int a :: st) w cn sn = wp d 132 Q 19 L (.int (a * b) :: st) w cn sn := wp_row d_132_18 _ _ _ _ _
theorem d_132_19 : decode (mB 132) 19 = .ok (.sipush 128, 3) := by decide +kernel
theorem s_132_19 {d : Nat} {Q : wQ} {L : List (Option Value)} {st : List Value} {w : aw} {cn sn : Nat}  : wp d 132 Q 19 L st w cn sn = wp d 132 Q 22 L (.int 128 :: st) w cn sn := w_sipush d_132_19 (by decide)
theorem d_132_22 : decode (mB 132) 22 = .ok (.iload_n 2, 1) := by decide +kernel
theorem s_132_22 {d : Nat} {Q : wQ} {L : List (Option Value)} {st : List Value} {w : aw} {cn sn : Nat} {a0 a1 : Option Value} {v : Int32} : wp d 132 Q 22 (a0 :: a1 :: some (.int v) :: L) st w cn sn = wp d 132 Q 23 (a0 :: a1 :: some (.int v) :: L) (.int v :: st) w cn sn := w_iload_n d_132_22 rfl
theorem d_132_23 : decode (mB 132) 23 = .ok (.imul, 1) := by decide +kernel
theorem s_132_23 {d : Nat} {Q : wQ} {L : List (Option Value)} {st : List Value} {w : aw} {cn sn : Nat} {a b : Int32} : wp d 132 Q 23 L (.int b :: .int a :: st) w cn sn = wp d 132 Q 24 L (.int (a * b) :: st) w cn sn := wp_row d_132_23 _ _ _ _ _
theorem d_132_24 : decode (mB 132) 24 = .ok (.iadd, 1) := by decide +kernel
theorem s_132_24 {d : Nat} {Q : wQ} {L : List (Option Value)} {st : List Value} {w : aw} {cn sn : Nat} {a b : Int32} : wp d 132 Q 24 L (.int b :: .int a :: st) w cn sn = wp d 132 Q 25 L (.int (a + b) :: st) w cn sn := wp_row d_132_24 _ _ _ _ _
theorem d_132_25 : decode (mB 132) 25 = .ok (.iload_n 3, 1) := by decide +kernel
theorem s_132_25 {d : Nat} {Q : wQ} {L : List (Option Value)} {st : List Value} {w : aw} {cn sn : Nat} {a0 a1 a2 : Option Value} {v : Int32} : wp d 132 Q 25 (a0 :: a1 :: a2 :: some (.int v) :: L) st w cn sn = wp d 132 Q 26 (a0 :: a1 :: a2 :: some (.int v) :: L) (.int v :: st) w cn sn := w_iload_n d_132_25 rfl
theorem d_132_26 : decode (mB 132) 26 = .ok (.iadd, 1) := by decide +kernel
theorem s_132_26 {d : Nat} {Q : wQ} {L : List (Option Value)} {st : List Value} {w : aw} {cn sn : Nat} {a b : Int32} : wp d 132 Q 26 L (.int b :: .int a :: st) w cn sn = wp d 132 Q 27 L (.int (a + b) :: st) w cn sn := wp_row d_132_26 _ _ _ _ _
theorem d_132_27 : decode (mB 132) 27 = .ok (.iaload, 1) := by decide +kernel
theorem s_132_27 {d : Nat} {Q : wQ} {L : List (Option Value)} {st : List Value} {w : aw} {cn sn : Nat} {a : Nat} {i : Int32} : wp d 132 Q 27 L (.int i :: .ref a :: st) w cn sn = ((kd w a = 20 ∨ kd w a = 30) ∧ inR i (ln w a) ∧ wp d 132 Q 28 L (.int (ai w a i.toNatClampNeg) :: st) w cn sn) := wp_row d_132_27 _ _ _ _ _
theorem d_132_28 : decode (mB 132) 28 = .ok (.goto 4, 3) := by decide +kernel
theorem s_132_28 {d : Nat} {Q : wQ} {L : List (Option Value)} {st : List Value} {w : aw} {cn sn : Nat}  : wp d 132 Q 28 L st w cn sn = wp d 132 Q 32 L st w cn sn := w_goto d_132_28 (by decide)
theorem d_132_31 : decode (mB 132) 31 = .ok (.iconst (-1), 1) := by decide +kernel
theorem s_132_31 {d : Nat} {Q : wQ} {L : List (Option Value)} {st : List Value} {w : aw} {cn sn : Nat}  : wp d 132 Q 31 L st w cn sn = wp d 132 Q 32 L (.int (-1) :: st) w cn sn := w_iconst d_132_31 (by decide)
theorem d_132_32 : decode (mB 132) 32 = .ok (.ireturn, 1) := by decide +kernel
theorem s_132_32 {d : Nat} {Q : wQ} {L : List (Option Value)} {w : aw} {cn sn : Nat} {v : Int32} : wp d 132 Q 32 L [.int v] w cn sn = Q (some (.int v)) w := w_ireturn d_132_32 rfl
theorem d_133_0 : decode (mB 133) 0 = .ok (.aload_n 0, 1) := by decide +kernel
theorem s_133_0 {d : Nat} {Q : wQ} {L : List (Option Value)} {st : List Value} {w : aw} {cn sn : Nat} {v : Nat} : wp d 133 Q 0 (some (.ref v) :: L) st w cn sn = wp d 133 Q 1 (some (.ref v) :: L) (.ref v :: st) w cn sn := w_aload_n d_133_0 rfl
theorem d_133_1 : decode (mB 133) 1 = .ok (.iload_n 1, 1) := by decide +kernel
theorem s_133_1 {d : Nat} {Q : wQ} {L : List (Option Value)} {st : List Value} {w : aw} {cn sn : Nat} {a0 : Option Value} {v : Int32} : wp d 133 Q 1 (a0 :: some (.int v) :: L) st w cn sn = wp d 133 Q 2 (a0 :: some (.int v) :: L) (.int v :: st) w cn sn := w_iload_n d_133_1 rfl
theorem d_133_2 : decode (mB 133) 2 = .ok (.invokevirtual 205, 3) := by decide +kernel
theorem s_133_2 {d : Nat} {Q : wQ} {L : List (Option Value)} {st : List Value} {w : aw} {cn sn : Nat} {v0 : Value} {b : Nat} : wp d 133 Q 2 L (v0 :: .ref b :: st) w cn sn = (kd w b = 9 ∧ catS st ≤ 8 ∧ wpD d 106 [.ref b, v0] w (fun v w' => wp d 133 Q 5 L (v.toList ++ st) w' cn sn)) := w_virtual (As := [v0]) d_133_2 (by decide +kernel : cT (mO 133) 205 = some (0, 106)) rfl (by decide +kernel) rfl (by decide +kernel) rfl
theorem d_133_5 : decode (mB 133) 5 = .ok (.ifCond .eq 14, 3) := by decide +kernel
theorem s_133_5 {d : Nat} {Q : wQ} {L : List (Option Value)} {st : List Value} {w : aw} {cn sn : Nat} {x : Int32} : wp d 133 Q 5 L (.int x :: st) w cn sn = ((x = 0 → wp d 133 Q 19 L st w cn sn) ∧ (¬ x = 0 → wp d 133 Q 8 L st w cn sn)) := w_ifeq d_133_5 (by decide)
theorem d_133_8 : decode (mB 133) 8 = .ok (.iload_n 2, 1) := by decide +kernel
theorem s_133_8 {d : Nat} {Q : wQ} {L : List (Option Value)} {st : List Value} {w : aw} {cn sn : Nat} {a0 a1 : Option Value} {v : Int32} : wp d 133 Q 8 (a0 :: a1 :: some (.int v) :: L) st w cn sn = wp d 133 Q 9 (a0 :: a1 :: some (.int v) :: L) (.int v :: st) w cn sn := w_iload_n d_133_8 rfl
theorem d_133_9 : decode (mB 133) 9 = .ok (.iconst 0, 1) := by decide +kernel
theorem s_133_9 {d : Nat} {Q : wQ} {L : List (Option Value)} {st : List Value} {w : aw} {cn sn : Nat}  : wp d 133 Q 9 L st w cn sn = wp d 133 Q 10 L (.int 0 :: st) w cn sn := w_iconst d_133_9 (by decide)
theorem d_133_10 : decode (mB 133) 10 = .ok (.sipush 4095, 3) := by decide +kernel
theorem s_133_10 {d : Nat} {Q : wQ} {L : List (Option Value)} {st : List Value} {w : aw} {cn sn : Nat}  : wp d 133 Q 10 L st w cn sn = wp d 133 Q 13 L (.int 4095 :: st) w cn sn := w_sipush d_133_10 (by decide)
theorem d_133_13 : decode (mB 133) 13 = .ok (.invokestatic 111, 3) := by decide +kernel
theorem s_133_13 {d : Nat} {Q : wQ} {L : List (Option Value)} {st : List Value} {w : aw} {cn sn : Nat} {v0 v1 v2 : Value} : wp d 133 Q 13 L (v2 :: v1 :: v0 :: st) w cn sn = (catS st ≤ 8 ∧ wpD d 105 [v0, v1, v2] w (fun v w' => wp d 133 Q 16 L (v.toList ++ st) w' cn sn)) := w_static (As := [v0, v1, v2]) d_133_13 (by decide +kernel : cT (mO 133) 111 = some (2, 105)) (by decide +kernel) rfl (by decide +kernel) rfl
theorem d_133_16 : decode (mB 133) 16 = .ok (.ifCond .ne 5, 3) := by decide +kernel
theorem s_133_16 {d : Nat} {Q : wQ} {L : List (Option Value)} {st : List Value} {w : aw} {cn sn : Nat} {x : Int32} : wp d 133 Q 16 L (.int x :: st) w cn sn = ((¬ x = 0 → wp d 133 Q 21 L st w cn sn) ∧ (x = 0 → wp d 133 Q 19 L st w cn sn)) := w_ifne d_133_16 (by decide)
theorem d_133_19 : decode (mB 133) 19 = .ok (.iconst (-1), 1) := by decide +kernel
theorem s_133_19 {d : Nat} {Q : wQ} {L : List (Option Value)} {st : List Value} {w : aw} {cn sn : Nat}  : wp d 133 Q 19 L st w cn sn = wp d 133 Q 20 L (.int (-1) :: st) w cn sn := w_iconst d_133_19 (by decide)
theorem d_133_20 : decode (mB 133) 20 = .ok (.ireturn, 1) := by decide +kernel
theorem s_133_20 {d : Nat} {Q : wQ} {L : List (Option Value)} {w : aw} {cn sn : Nat} {v : Int32} : wp d 133 Q 20 L [.int v] w cn sn = Q (some (.int v)) w := w_ireturn d_133_20 rfl
theorem d_133_21 : decode (mB 133) 21 = .ok (.aload_n 0, 1) := by decide +kernel
theorem s_133_21 {d : Nat} {Q : wQ} {L : List (Option Value)} {st : List Value} {w : aw} {cn sn : Nat} {v : Nat} : wp d 133 Q 21 (some (.ref v) :: L) st w cn sn = wp d 133 Q 22 (some (.ref v) :: L) (.ref v :: st) w cn sn := w_aload_n d_133_21 rfl
theorem d_133_22 : decode (mB 133) 22 = .ok (.getfield 45, 3) := by decide +kernel
theorem s_133_22 {d : Nat} {Q : wQ} {L : List (Option Value)} {st : List Value} {w : aw} {cn sn : Nat} {a : Nat} : wp d 133 Q 22 L (.ref a :: st) w cn sn = (kd w a = 9 ∧ wp d 133 Q 25 L (fd w 533 a :: st) w cn sn) := w_getfield d_133_22 (by decide +kernel : fT (mO 133) 45 = some (8, 21))
theorem d_133_25 : decode (mB 133) 25 = .ok (.iload_n 1, 1) := by decide +kernel
theorem s_133_25 {d : Nat} {Q : wQ} {L : List (Option Value)} {st : List Value} {w : aw} {cn sn : Nat} {a0 : Option Value} {v : Int32} : wp d 133 Q 25 (a0 :: some (.int v) :: L) st w cn sn = wp d 133 Q 26 (a0 :: some (.int v) :: L) (.int v :: st) w cn sn := w_iload_n d_133_25 rfl
theorem d_133_26 : decode (mB 133) 26 = .ok (.iload_n 2, 1) := by decide +kernel
theorem s_133_26 {d : Nat} {Q : wQ} {L : List (Option Value)} {st : List Value} {w : aw} {cn sn : Nat} {a0 a1 : Option Value} {v : Int32} : wp d 133 Q 26 (a0 :: a1 :: some (.int v) :: L) st w cn sn = wp d 133 Q 27 (a0 :: a1 :: some (.int v) :: L) (.int v :: st) w cn sn := w_iload_n d_133_26 rfl
theorem d_133_27 : decode (mB 133) 27 = .ok (.iastore, 1) := by decide +kernel
theorem s_133_27 {d : Nat} {Q : wQ} {L : List (Option Value)} {st : List Value} {w : aw} {cn sn : Nat} {a : Nat} {i x : Int32} : wp d 133 Q 27 L (.int x :: .int i :: .ref a :: st) w cn sn = (kd w a = 20 ∧ inR i (ln w a) ∧ wp d 133 Q 28 L st (uA w a i.toNatClampNeg x) cn sn) := wp_row d_133_27 _ _ _ _ _
theorem d_133_28 : decode (mB 133) 28 = .ok (.iconst 1, 1) := by decide +kernel
theorem s_133_28 {d : Nat} {Q : wQ} {L : List (Option Value)} {st : List Value} {w : aw} {cn sn : Nat}  : wp d 133 Q 28 L st w cn sn = wp d 133 Q 29 L (.int 1 :: st) w cn sn := w_iconst d_133_28 (by decide)
theorem d_133_29 : decode (mB 133) 29 = .ok (.ireturn, 1) := by decide +kernel
theorem s_133_29 {d : Nat} {Q : wQ} {L : List (Option Value)} {w : aw} {cn sn : Nat} {v : Int32} : wp d 133 Q 29 L [.int v] w cn sn = Q (some (.int v)) w := w_ireturn d_133_29 rfl
theorem d_134_0 : decode (mB 134) 0 = .ok (.aload_n 0, 1) := by decide +kernel
theorem s_134_0 {d : Nat} {Q : wQ} {L : List (Option Value)} {st : List Value} {w : aw} {cn sn : Nat} {v : Nat} : wp d 134 Q 0 (some (.ref v) :: L) st w cn sn = wp d 134 Q 1 (some (.ref v) :: L) (.ref v :: st) w cn sn := w_aload_n d_134_0 rfl
theorem d_134_1 : decode (mB 134) 1 = .ok (.iload_n 1, 1) := by decide +kernel
theorem s_134_1 {d : Nat} {Q : wQ} {L : List (Option Value)} {st : List Value} {w : aw} {cn sn : Nat} {a0 : Option Value} {v : Int32} : wp d 134 Q 1 (a0 :: some (.int v) :: L) st w cn sn = wp d 134 Q 2 (a0 :: some (.int v) :: L) (.int v :: st) w cn sn := w_iload_n d_134_1 rfl
theorem d_134_2 : decode (mB 134) 2 = .ok (.invokevirtual 205, 3) := by decide +kernel
theorem s_134_2 {d : Nat} {Q : wQ} {L : List (Option Value)} {st : List Value} {w : aw} {cn sn : Nat} {v0 : Value} {b : Nat} : wp d 134 Q 2 L (v0 :: .ref b :: st) w cn sn = (kd w b = 9 ∧ catS st ≤ 8 ∧ wpD d 106 [.ref b, v0] w (fun v w' => wp d 134 Q 5 L (v.toList ++ st) w' cn sn)) := w_virtual (As := [v0]) d_134_2 (by decide +kernel : cT (mO 134) 205 = some (0, 106)) rfl (by decide +kernel) rfl (by decide +kernel) rfl
theorem d_134_5 : decode (mB 134) 5 = .ok (.ifCond .eq 14, 3) := by decide +kernel
theorem s_134_5 {d : Nat} {Q : wQ} {L : List (Option Value)} {st : List Value} {w : aw} {cn sn : Nat} {x : Int32} : wp d 134 Q 5 L (.int x :: st) w cn sn = ((x = 0 → wp d 134 Q 19 L st w cn sn) ∧ (¬ x = 0 → wp d 134 Q 8 L st w cn sn)) := w_ifeq d_134_5 (by decide)
theorem d_134_8 : decode (mB 134) 8 = .ok (.iload_n 2, 1) := by decide +kernel
theorem s_134_8 {d : Nat} {Q : wQ} {L : List (Option Value)} {st : List Value} {w : aw} {cn sn : Nat} {a0 a1 : Option Value} {v : Int32} : wp d 134 Q 8 (a0 :: a1 :: some (.int v) :: L) st w cn sn = wp d 134 Q 9 (a0 :: a1 :: some (.int v) :: L) (.int v :: st) w cn sn := w_iload_n d_134_8 rfl
theorem d_134_9 : decode (mB 134) 9 = .ok (.iconst 0, 1) := by decide +kernel
theorem s_134_9 {d : Nat} {Q : wQ} {L : List (Option Value)} {st : List Value} {w : aw} {cn sn : Nat}  : wp d 134 Q 9 L st w cn sn = wp d 134 Q 10 L (.int 0 :: st) w cn sn := w_iconst d_134_9 (by decide)
theorem d_134_10 : decode (mB 134) 10 = .ok (.sipush 4095, 3) := by decide +kernel
theorem s_134_10 {d : Nat} {Q : wQ} {L : List (Option Value)} {st : List Value} {w : aw} {cn sn : Nat}  : wp d 134 Q 10 L st w cn sn = wp d 134 Q 13 L (.int 4095 :: st) w cn sn := w_sipush d_134_10 (by decide)
theorem d_134_13 : decode (mB 134) 13 = .ok (.invokestatic 111, 3) := by decide +kernel
theorem s_134_13 {d : Nat} {Q : wQ} {L : List (Option Value)} {st : List Value} {w : aw} {cn sn : Nat} {v0 v1 v2 : Value} : wp d 134 Q 13 L (v2 :: v1 :: v0 :: st) w cn sn = (catS st ≤ 8 ∧ wpD d 105 [v0, v1, v2] w (fun v w' => wp d 134 Q 16 L (v.toList ++ st) w' cn sn)) := w_static (As := [v0, v1, v2]) d_134_13 (by decide +kernel : cT (mO 134) 111 = some (2, 105)) (by decide +kernel) rfl (by decide +kernel) rfl
theorem d_134_16 : decode (mB 134) 16 = .ok (.ifCond .ne 5, 3) := by decide +kernel
theorem s_134_16 {d : Nat} {Q : wQ} {L : List (Option Value)} {st : List Value} {w : aw} {cn sn : Nat} {x : Int32} : wp d 134 Q 16 L (.int x :: st) w cn sn = ((¬ x = 0 → wp d 134 Q 21 L st w cn sn) ∧ (x = 0 → wp d 134 Q 19 L st w cn sn)) := w_ifne d_134_16 (by decide)
theorem d_134_19 : decode (mB 134) 19 = .ok (.iconst (-1), 1) := by decide +kernel
theorem s_134_19 {d : Nat} {Q : wQ} {L : List (Option Value)} {st : List Value} {w : aw} {cn sn : Nat}  : wp d 134 Q 19 L st w cn sn = wp d 134 Q 20 L (.int (-1) :: st) w cn sn := w_iconst d_134_19 (by decide)
theorem d_134_20 : decode (mB 134) 20 = .ok (.ireturn, 1) := by decide +kernel
theorem s_134_20 {d : Nat} {Q : wQ} {L : List (Option Value)} {w : aw} {cn sn : Nat} {v : Int32} : wp d 134 Q 20 L [.int v] w cn sn = Q (some (.int v)) w := w_ireturn d_134_20 rfl
theorem d_134_21 : decode (mB 134) 21 = .ok (.aload_n 0, 1) := by decide +kernel
theorem s_134_21 {d : Nat} {Q : wQ} {L : List (Option Value)} {st : List Value} {w : aw} {cn sn : Nat} {v : Nat} : wp d 134 Q 21 (some (.ref v) :: L) st w cn sn = wp d 134 Q 22 (some (.ref v) :: L) (.ref v :: st) w cn sn := w_aload_n d_134_21 rfl
theorem d_134_22 : decode (mB 134) 22 = .ok (.getfield 39, 3) := by decide +kernel
theorem s_134_22 {d : Nat} {Q : wQ} {L : List (Option Value)} {st : List Value} {w : aw} {cn sn : Nat} {a : Nat} : wp d 134 Q 22 L (.ref a :: st) w cn sn = (kd w a = 9 ∧ wp d 134 Q 25 L (fd w 531 a :: st) w cn sn) := w_getfield d_134_22 (by decide +kernel : fT (mO 134) 39 = some (8, 19))
theorem d_134_25 : decode (mB 134) 25 = .ok (.iload_n 1, 1) := by decide +kernel
theorem s_134_25 {d : Nat} {Q : wQ} {L : List (Option Value)} {st : List Value} {w : aw} {cn sn : Nat} {a0 : Option Value} {v : Int32} : wp d 134 Q 25 (a0 :: some (.int v) :: L) st w cn sn = wp d 134 Q 26 (a0 :: some (.int v) :: L) (.int v :: st) w cn sn := w_iload_n d_134_25 rfl
theorem d_134_26 : decode (mB 134) 26 = .ok (.iaload, 1) := by decide +kernel
theorem s_134_26 {d : Nat} {Q : wQ} {L : List (Option Value)} {st : List Value} {w : aw} {cn sn : Nat} {a : Nat} {i : Int32} : wp d 134 Q 26 L (.int i :: .ref a :: st) w cn sn = ((kd w a = 20 ∨ kd w a = 30) ∧ inR i (ln w a) ∧ wp d 134 Q 27 L (.int (ai w a i.toNatClampNeg) :: st) w cn sn) := wp_row d_134_26 _ _ _ _ _
theorem d_134_27 : decode (mB 134) 27 = .ok (.ifCond .eq 5, 3) := by decide +kernel
theorem s_134_27 {d : Nat} {Q : wQ} {L : List (Option Value)} {st : List Value} {w : aw} {cn sn : Nat} {x : Int32} : wp d 134 Q 27 L (.int x :: st) w cn sn = ((x = 0 → wp d 134 Q 32 L st w cn sn) ∧ (¬ x = 0 → wp d 134 Q 30 L st w cn sn)) := w_ifeq d_134_27 (by decide)
theorem d_134_30 : decode (mB 134) 30 = .ok (.iconst 0, 1) := by decide +kernel
theorem s_134_30 {d : Nat} {Q : wQ} {L : List (Option Value)} {st : List Value} {w : aw} {cn sn : Nat}  : wp d 134 Q 30 L st w cn sn = wp d 134 Q 31 L (.int 0 :: st) w cn sn := w_iconst d_134_30 (by decide)
theorem d_134_31 : decode (mB 134) 31 = .ok (.ireturn, 1) := by decide +kernel
theorem s_134_31 {d : Nat} {Q : wQ} {L : List (Option Value)} {w : aw} {cn sn : Nat} {v : Int32} : wp d 134 Q 31 L [.int v] w cn sn = Q (some (.int v)) w := w_ireturn d_134_31 rfl
theorem d_134_32 : decode (mB 134) 32 = .ok (.aload_n 0, 1) := by decide +kernel
theorem s_134_32 {d : Nat} {Q : wQ} {L : List (Option Value)} {st : List Value} {w : aw} {cn sn : Nat} {v : Nat} : wp d 134 Q 32 (some (.ref v) :: L) st w cn sn = wp d 134 Q 33 (some (.ref v) :: L) (.ref v :: st) w cn sn := w_aload_n d_134_32 rfl
theorem d_134_33 : decode (mB 134) 33 = .ok (.getfield 33, 3) := by decide +kernel
theorem s_134_33 {d : Nat} {Q : wQ} {L : List (Option Value)} {st : List Value} {w : aw} {cn sn : Nat} {a : Nat} : wp d 134 Q 33 L (.ref a :: st) w cn sn = (kd w a = 9 ∧ wp d 134 Q 36 L (fd w 529 a :: st) w cn sn) := w_getfield d_134_33 (by decide +kernel : fT (mO 134) 33 = some (8, 17))
theorem d_134_36 : decode (mB 134) 36 = .ok (.iload_n 1, 1) := by decide +kernel
theorem s_134_36 {d : Nat} {Q : wQ} {L : List (Option Value)} {st : List Value} {w : aw} {cn sn : Nat} {a0 : Option Value} {v : Int32} : wp d 134 Q 36 (a0 :: some (.int v) :: L) st w cn sn = wp d 134 Q 37 (a0 :: some (.int v) :: L) (.int v :: st) w cn sn := w_iload_n d_134_36 rfl
theorem d_134_37 : decode (mB 134) 37 = .ok (.iload_n 2, 1) := by decide +kernel
theorem s_134_37 {d : Nat} {Q : wQ} {L : List (Option Value)} {st : List Value} {w : aw} {cn sn : Nat} {a0 a1 : Option Value} {v : Int32} : wp d 134 Q 37 (a0 :: a1 :: some (.int v) :: L) st w cn sn = wp d 134 Q 38 (a0 :: a1 :: some (.int v) :: L) (.int v :: st) w cn sn := w_iload_n d_134_37 rfl
theorem d_134_38 : decode (mB 134) 38 = .ok (.iastore, 1) := by decide +kernel
theorem s_134_38 {d : Nat} {Q : wQ} {L : List (Option Value)} {st : List Value} {w : aw} {cn sn : Nat} {a : Nat} {i x : Int32} : wp d 134 Q 38 L (.int x :: .int i :: .ref a :: st) w cn sn = (kd w a = 20 ∧ inR i (ln w a) ∧ wp d 134 Q 39 L st (uA w a i.toNatClampNeg x) cn sn) := wp_row d_134_38 _ _ _ _ _
theorem d_134_39 : decode (mB 134) 39 = .ok (.aload_n 0, 1) := by decide +kernel
theorem s_134_39 {d : Nat} {Q : wQ} {L : List (Option Value)} {st : List Value} {w : aw} {cn sn : Nat} {v : Nat} : wp d 134 Q 39 (some (.ref v) :: L) st w cn sn = wp d 134 Q 40 (some (.ref v) :: L) (.ref v :: st) w cn sn := w_aload_n d_134_39 rfl
theorem d_134_40 : decode (mB 134) 40 = .ok (.iload_n 1, 1) := by decide +kernel
theorem s_134_40 {d : Nat} {Q : wQ} {L : List (Option Value)} {st : List Value} {w : aw} {cn sn : Nat} {a0 : Option Value} {v : Int32} : wp d 134 Q 40 (a0 :: some (.int v) :: L) st w cn sn = wp d 134 Q 41 (a0 :: some (.int v) :: L) (.int v :: st) w cn sn := w_iload_n d_134_40 rfl
theorem d_134_41 : decode (mB 134) 41 = .ok (.invokevirtual 162, 3) := by decide +kernel
theorem s_134_41 {d : Nat} {Q : wQ} {L : List (Option Value)} {st : List Value} {w : aw} {cn sn : Nat} {v0 : Value} {b : Nat} : wp d 134 Q 41 L (v0 :: .ref b :: st) w cn sn = (kd w b = 9 ∧ catS st ≤ 8 ∧ wpD d 119 [.ref b, v0] w (fun v w' => wp d 134 Q 44 L (v.toList ++ st) w' cn sn)) := w_virtual (As := [v0]) d_134_41 (by decide +kernel : cT (mO 134) 162 = some (0, 119)) rfl (by decide +kernel) rfl (by decide +kernel) rfl
theorem d_134_44 : decode (mB 134) 44 = .ok (.aload_n 0, 1) := by decide +kernel
theorem s_134_44 {d : Nat} {Q : wQ} {L : List (Option Value)} {st : List Value} {w : aw} {cn sn : Nat} {v : Nat} : wp d 134 Q 44 (some (.ref v) :: L) st w cn sn = wp d 134 Q 45 (some (.ref v) :: L) (.ref v :: st) w cn sn := w_aload_n d_134_44 rfl
theorem d_134_45 : decode (mB 134) 45 = .ok (.invokevirtual 190, 3) := by decide +kernel
theorem s_134_45 {d : Nat} {Q : wQ} {L : List (Option Value)} {st : List Value} {w : aw} {cn sn : Nat} {b : Nat} : wp d 134 Q 45 L (.ref b :: st) w cn sn = (kd w b = 9 ∧ catS st ≤ 8 ∧ wpD d 121 [.ref b] w (fun v w' => wp d 134 Q 48 L (v.toList ++ st) w' cn sn)) := w_virtual (As := []) d_134_45 (by decide +kernel : cT (mO 134) 190 = some (0, 121)) rfl (by decide +kernel) rfl (by decide +kernel) rfl
theorem d_134_48 : decode (mB 134) 48 = .ok (.iconst 1, 1) := by decide +kernel
theorem s_134_48 {d : Nat} {Q : wQ} {L : List (Option Value)} {st : List Value} {w : aw} {cn sn : Nat}  : wp d 134 Q 48 L st w cn sn = wp d 134 Q 49 L (.int 1 :: st) w cn sn := w_iconst d_134_48 (by decide)
theorem d_134_49 : decode (mB 134) 49 = .ok (.ireturn, 1) := by decide +kernel
theorem s_134_49 {d : Nat} {Q : wQ} {L : List (Option Value)} {w : aw} {cn sn : Nat} {v : Int32} : wp d 134 Q 49 L [.int v] w cn sn = Q (some (.int v)) w := w_ireturn d_134_49 rfl
theorem d_135_0 : decode (mB 135) 0 = .ok (.aload_n 0, 1) := by decide +kernel
theorem s_135_0 {d : Nat} {Q : wQ} {L : List (Option Value)} {st : List Value} {w : aw} {cn sn : Nat} {v : Nat} : wp d 135 Q 0 (some (.ref v) :: L) st w cn sn = wp d 135 Q 1 (some (.ref v) :: L) (.ref v :: st) w cn sn := w_aload_n d_135_0 rfl
theorem d_135_1 : decode (mB 135) 1 = .ok (.iload_n 1, 1) := by decide +kernel
theorem s_135_1 {d : Nat} {Q : wQ} {L : List (Option Value)} {st : List Value} {w : aw} {cn sn : Nat} {a0 : Option Value} {v : Int32} : wp d 135 Q 1 (a0 :: some (.int v) :: L) st w cn sn = wp d 135 Q 2 (a0 :: some (.int v) :: L) (.int v :: st) w cn sn := w_iload_n d_135_1 rfl
theorem d_135_2 : decode (mB 135) 2 = .ok (.invokevirtual 205, 3) := by decide +kernel
theorem s_135_2 {d : Nat} {Q : wQ} {L : List (Option Value)} {st : List Value} {w : aw} {cn sn : Nat} {v0 : Value} {b : Nat} : wp d 135 Q 2 L (v0 :: .ref b :: st) w cn sn = (kd w b = 9 ∧ catS st ≤ 8 ∧ wpD d 106 [.ref b, v0] w (fun v w' => wp d 135 Q 5 L (v.toList ++ st) w' cn sn)) := w_virtual (As := [v0]) d_135_2 (by decide +kernel : cT (mO 135) 205 = some (0, 106)) rfl (by decide +kernel) rfl (by decide +kernel) rfl
theorem d_135_5 : decode (mB 135) 5 = .ok (.ifCond .eq 14, 3) := by decide +kernel
theorem s_135_5 {d : Nat} {Q : wQ} {L : List (Option Value)} {st : List Value} {w : aw} {cn sn : Nat} {x : Int32} : wp d 135 Q 5 L (.int x :: st) w cn sn = ((x = 0 → wp d 135 Q 19 L st w cn sn) ∧ (¬ x = 0 → wp d 135 Q 8 L st w cn sn)) := w_ifeq d_135_5 (by decide)
theorem d_135_8 : decode (mB 135) 8 = .ok (.iload_n 2, 1) := by decide +kernel
theorem s_135_8 {d : Nat} {Q : wQ} {L : List (Option Value)} {st : List Value} {w : aw} {cn sn : Nat} {a0 a1 : Option Value} {v : Int32} : wp d 135 Q 8 (a0 :: a1 :: some (.int v) :: L) st w cn sn = wp d 135 Q 9 (a0 :: a1 :: some (.int v) :: L) (.int v :: st) w cn sn := w_iload_n d_135_8 rfl
theorem d_135_9 : decode (mB 135) 9 = .ok (.iconst 0, 1) := by decide +kernel
theorem s_135_9 {d : Nat} {Q : wQ} {L : List (Option Value)} {st : List Value} {w : aw} {cn sn : Nat}  : wp d 135 Q 9 L st w cn sn = wp d 135 Q 10 L (.int 0 :: st) w cn sn := w_iconst d_135_9 (by decide)
theorem d_135_10 : decode (mB 135) 10 = .ok (.sipush 255, 3) := by decide +kernel
theorem s_135_10 {d : Nat} {Q : wQ} {L : List (Option Value)} {st : List Value} {w : aw} {cn sn : Nat}  : wp d 135 Q 10 L st w cn sn = wp d 135 Q 13 L (.int 255 :: st) w cn sn := w_sipush d_135_10 (by decide)
theorem d_135_13 : decode (mB 135) 13 = .ok (.invokestatic 111, 3) := by decide +kernel
theorem s_135_13 {d : Nat} {Q : wQ} {L : List (Option Value)} {st : List Value} {w : aw} {cn sn : Nat} {v0 v1 v2 : Value} : wp d 135 Q 13 L (v2 :: v1 :: v0 :: st) w cn sn = (catS st ≤ 8 ∧ wpD d 105 [v0, v1, v2] w (fun v w' => wp d 135 Q 16 L (v.toList ++ st) w' cn sn)) := w_static (As := [v0, v1, v2]) d_135_13 (by decide +kernel : cT (mO 135) 111 = some (2, 105)) (by decide +kernel) rfl (by decide +kernel) rfl
theorem d_135_16 : decode (mB 135) 16 = .ok (.ifCond .ne 5, 3) := by decide +kernel
theorem s_135_16 {d : Nat} {Q : wQ} {L : List (Option Value)} {st : List Value} {w : aw} {cn sn : Nat} {x : Int32} : wp d 135 Q 16 L (.int x :: st) w cn sn = ((¬ x = 0 → wp d 135 Q 21 L st w cn sn) ∧ (x = 0 → wp d 135 Q 19 L st w cn sn)) := w_ifne d_135_16 (by decide)
theorem d_135_19 : decode (mB 135) 19 = .ok (.iconst (-1), 1) := by decide +kernel
theorem s_135_19 {d : Nat} {Q : wQ} {L : List (Option Value)} {st : List Value} {w : aw} {cn sn : Nat}  : wp d 135 Q 19 L st w cn sn = wp d 135 Q 20 L (.int (-1) :: st) w cn sn := w_iconst d_135_19 (by decide)
theorem d_135_20 : decode (mB 135) 20 = .ok (.ireturn, 1) := by decide +kernel
theorem s_135_20 {d : Nat} {Q : wQ} {L : List (Option Value)} {w : aw} {cn sn : Nat} {v : Int32} : wp d 135 Q 20 L [.int v] w cn sn = Q (some (.int v)) w := w_ireturn d_135_20 rfl
theorem d_135_21 : decode (mB 135) 21 = .ok (.aload_n 0, 1) := by decide +kernel
theorem s_135_21 {d : Nat} {Q : wQ} {L : List (Option Value)} {st : List Value} {w : aw} {cn sn : Nat} {v : Nat} : wp d 135 Q 21 (some (.ref v) :: L) st w cn sn = wp d 135 Q 22 (some (.ref v) :: L) (.ref v :: st) w cn sn := w_aload_n d_135_21 rfl
theorem d_135_22 : decode (mB 135) 22 = .ok (.getfield 57, 3) := by decide +kernel
theorem s_135_22 {d : Nat} {Q : wQ} {L : List (Option Value)} {st : List Value} {w : aw} {cn sn : Nat} {a : Nat} : wp d 135 Q 22 L (.ref a :: st) w cn sn = (kd w a = 9 ∧ wp d 135 Q 25 L (fd w 537 a :: st) w cn sn) := w_getfield d_135_22 (by decide +kernel : fT (mO 135) 57 = some (8, 25))
theorem d_135_25 : decode (mB 135) 25 = .ok (.iload_n 1, 1) := by decide +kernel
theorem s_135_25 {d : Nat} {Q : wQ} {L : List (Option Value)} {st : List Value} {w : aw} {cn sn : Nat} {a0 : Option Value} {v : Int32} : wp d 135 Q 25 (a0 :: some (.int v) :: L) st w cn sn = wp d 135 Q 26 (a0 :: some (.int v) :: L) (.int v :: st) w cn sn := w_iload_n d_135_25 rfl
theorem d_135_26 : decode (mB 135) 26 = .ok (.iaload, 1) := by decide +kernel
theorem s_135_26 {d : Nat} {Q : wQ} {L : List (Option Value)} {st : List Value} {w : aw} {cn sn : Nat} {a : Nat} {i : Int32} : wp d 135 Q 26 L (.int i :: .ref a :: st) w cn sn = ((kd w a = 20 ∨ kd w a = 30) ∧ inR i (ln w a) ∧ wp d 135 Q 27 L (.int (ai w a i.toNatClampNeg) :: st) w cn sn) := wp_row d_135_26 _ _ _ _ _
theorem d_135_27 : decode (mB 135) 27 = .ok (.bipush 16, 2) := by decide +kernel
theorem s_135_27 {d : Nat} {Q : wQ} {L : List (Option Value)} {st : List Value} {w : aw} {cn sn : Nat}  : wp d 135 Q 27 L st w cn sn = wp d 135 Q 29 L (.int 16 :: st) w cn sn := w_bipush d_135_27 (by decide)
theorem d_135_29 : decode (mB 135) 29 = .ok (.if_icmp .ne 23, 3) := by decide +kernel
theorem s_135_29 {d : Nat} {Q : wQ} {L : List (Option Value)} {st : List Value} {w : aw} {cn sn : Nat} {a b : Int32} : wp d 135 Q 29 L (.int b :: .int a :: st) w cn sn = ((¬ a = b → wp d 135 Q 52 L st w cn sn) ∧ (a = b → wp d 135 Q 32 L st w cn sn)) := w_icne d_135_29 (by decide)
theorem d_135_32 : decode (mB 135) 32 = .ok (.aload_n 0, 1) := by decide +kernel
theorem s_135_32 {d : Nat} {Q : wQ} {L : List (Option Value)} {st : List Value} {w : aw} {cn sn : Nat} {v : Nat} : wp d 135 Q 32 (some (.ref v) :: L) st w cn sn = wp d 135 Q 33 (some (.ref v) :: L) (.ref v :: st) w cn sn := w_aload_n d_135_32 rfl
theorem d_135_33 : decode (mB 135) 33 = .ok (.getfield 48, 3) := by decide +kernel
theorem s_135_33 {d : Nat} {Q : wQ} {L : List (Option Value)} {st : List Value} {w : aw} {cn sn : Nat} {a : Nat} : wp d 135 Q 33 L (.ref a :: st) w cn sn = (kd w a = 9 ∧ wp d 135 Q 36 L (fd w 534 a :: st) w cn sn) := w_getfield d_135_33 (by decide +kernel : fT (mO 135) 48 = some (8, 22))
theorem d_135_36 : decode (mB 135) 36 = .ok (.iload_n 1, 1) := by decide +kernel
theorem s_135_36 {d : Nat} {Q : wQ} {L : List (Option Value)} {st : List Value} {w : aw} {cn sn : Nat} {a0 : Option Value} {v : Int32} : wp d 135 Q 36 (a0 :: some (.int v) :: L) st w cn sn = wp d 135 Q 37 (a0 :: some (.int v) :: L) (.int v :: st) w cn sn := w_iload_n d_135_36 rfl
theorem d_135_37 : decode (mB 135) 37 = .ok (.aload_n 0, 1) := by decide +kernel
theorem s_135_37 {d : Nat} {Q : wQ} {L : List (Option Value)} {st : List Value} {w : aw} {cn sn : Nat} {v : Nat} : wp d 135 Q 37 (some (.ref v) :: L) st w cn sn = wp d 135 Q 38 (some (.ref v) :: L) (.ref v :: st) w cn sn := w_aload_n d_135_37 rfl
theorem d_135_38 : decode (mB 135) 38 = .ok (.getfield 48, 3) := by decide +kernel
theorem s_135_38 {d : Nat} {Q : wQ} {L : List (Option Value)} {st : List Value} {w : aw} {cn sn : Nat} {a : Nat} : wp d 135 Q 38 L (.ref a :: st) w cn sn = (kd w a = 9 ∧ wp d 135 Q 41 L (fd w 534 a :: st) w cn sn) := w_getfield d_135_38 (by decide +kernel : fT (mO 135) 48 = some (8, 22))
theorem d_135_41 : decode (mB 135) 41 = .ok (.iload_n 1, 1) := by decide +kernel
theorem s_135_41 {d : Nat} {Q : wQ} {L : List (Option Value)} {st : List Value} {w : aw} {cn sn : Nat} {a0 : Option Value} {v : Int32} : wp d 135 Q 41 (a0 :: some (.int v) :: L) st w cn sn = wp d 135 Q 42 (a0 :: some (.int v) :: L) (.int v :: st) w cn sn := w_iload_n d_135_41 rfl
theorem d_135_42 : decode (mB 135) 42 = .ok (.iaload, 1) := by decide +kernel
theorem s_135_42 {d : Nat} {Q : wQ} {L : List (Option Value)} {st : List Value} {w : aw} {cn sn : Nat} {a : Nat} {i : Int32} : wp d 135 Q 42 L (.int i :: .ref a :: st) w cn sn = ((kd w a = 20 ∨ kd w a = 30) ∧ inR i (ln w a) ∧ wp d 135 Q 43 L (.int (ai w a i.toNatClampNeg) :: st) w cn sn) := wp_row d_135_42 _ _ _ _ _
theorem d_135_43 : decode (mB 135) 43 = .ok (.iconst 1, 1) := by decide +kernel
theorem s_135_43 {d : Nat} {Q : wQ} {L : List (Option Value)} {st : List Value} {w : aw} {cn sn : Nat}  : wp d 135 Q 43 L st w cn sn = wp d 135 Q 44 L (.int 1 :: st) w cn sn := w_iconst d_135_43 (by decide)
theorem d_135_44 : decode (mB 135) 44 = .ok (.iadd, 1) := by decide +kernel
theorem s_135_44 {d : Nat} {Q : wQ} {L : List (Option Value)} {st : List Value} {w : aw} {cn sn : Nat} {a b : Int32} : wp d 135 Q 44 L (.int b :: .int a :: st) w cn sn = wp d 135 Q 45 L (.int (a + b) :: st) w cn sn := wp_row d_135_44 _ _ _ _ _
theorem d_135_45 : decode (mB 135) 45 = .ok (.sipush 4095, 3) := by decide +kernel
theorem s_135_45 {d : Nat} {Q : wQ} {L : List (Option Value)} {st : List Value} {w : aw} {cn sn : Nat}  : wp d 135 Q 45 L st w cn sn = wp d 135 Q 48 L (.int 4095 :: st) w cn sn := w_sipush d_135_45 (by decide)
theorem d_135_48 : decode (mB 135) 48 = .ok (.iand, 1) := by decide +kernel
theorem s_135_48 {d : Nat} {Q : wQ} {L : List (Option Value)} {st : List Value} {w : aw} {cn sn : Nat} {a b : Int32} : wp d 135 Q 48 L (.int b :: .int a :: st) w cn sn = wp d 135 Q 49 L (.int (a &&& b) :: st) w cn sn := wp_row d_135_48 _ _ _ _ _
theorem d_135_49 : decode (mB 135) 49 = .ok (.iastore, 1) := by decide +kernel
theorem s_135_49 {d : Nat} {Q : wQ} {L : List (Option Value)} {st : List Value} {w : aw} {cn sn : Nat} {a : Nat} {i x : Int32} : wp d 135 Q 49 L (.int x :: .int i :: .ref a :: st) w cn sn = (kd w a = 20 ∧ inR i (ln w a) ∧ wp d 135 Q 50 L st (uA w a i.toNatClampNeg x) cn sn) := wp_row d_135_49 _ _ _ _ _
theorem d_135_50 : decode (mB 135) 50 = .ok (.iconst 0, 1) := by decide +kernel
theorem s_135_50 {d : Nat} {Q : wQ} {L : List (Option Value)} {st : List Value} {w : aw} {cn sn : Nat}  : wp d 135 Q 50 L st w cn sn = wp d 135 Q 51 L (.int 0 :: st) w cn sn := w_iconst d_135_50 (by decide)
theorem d_135_51 : decode (mB 135) 51 = .ok (.ireturn, 1) := by decide +kernel
theorem s_135_51 {d : Nat} {Q : wQ} {L : List (Option Value)} {w : aw} {cn sn : Nat} {v : Int32} : wp d 135 Q 51 L [.int v] w cn sn = Q (some (.int v)) w := w_ireturn d_135_51 rfl
theorem d_135_52 : decode (mB 135) 52 = .ok (.aload_n 0, 1) := by decide +kernel
theorem s_135_52 {d : Nat} {Q : wQ} {L : List (Option Value)} {st : List Value} {w : aw} {cn sn : Nat} {v : Nat} : wp d 135 Q 52 (some (.ref v) :: L) st w cn sn = wp d 135 Q 53 (some (.ref v) :: L) (.ref v :: st) w cn sn := w_aload_n d_135_52 rfl
theorem d_135_53 : decode (mB 135) 53 = .ok (.getfield 54, 3) := by decide +kernel
theorem s_135_53 {d : Nat} {Q : wQ} {L : List (Option Value)} {st : List Value} {w : aw} {cn sn : Nat} {a : Nat} : wp d 135 Q 53 L (.ref a :: st) w cn sn = (kd w a = 9 ∧ wp d 135 Q 56 L (fd w 536 a :: st) w cn sn) := w_getfield d_135_53 (by decide +kernel : fT (mO 135) 54 = some (8, 24))
theorem d_135_56 : decode (mB 135) 56 = .ok (.bipush 16, 2) := by decide +kernel
theorem s_135_56 {d : Nat} {Q : wQ} {L : List (Option Value)} {st : List Value} {w : aw} {cn sn : Nat}  : wp d 135 Q 56 L st w cn sn = wp d 135 Q 58 L (.int 16 :: st) w cn sn := w_bipush d_135_56 (by decide)
theorem d_135_58 : decode (mB 135) 58 = .ok (.iload_n 1, 1) := by decide +kernel
theorem s_135_58 {d : Nat} {Q : wQ} {L : List (Option Value)} {st : List Value} {w : aw} {cn sn : Nat} {a0 : Option Value} {v : Int32} : wp d 135 Q 58 (a0 :: some (.int v) :: L) st w cn sn = wp d 135 Q 59 (a0 :: some (.int v) :: L) (.int v :: st) w cn sn := w_iload_n d_135_58 rfl
theorem d_135_59 : decode (mB 135) 59 = .ok (.imul, 1) := by decide +kernel
theorem s_135_59 {d : Nat} {Q : wQ} {L : List (Option Value)} {st : List Value} {w : aw} {cn sn : Nat} {a b : Int32} : wp d 135 Q 59 L (.int b :: .int a :: st) w cn sn = wp d 135 Q 60 L (.int (a * b) :: st) w cn sn := wp_row d_135_59 _ _ _ _ _
theorem d_135_60 : decode (mB 135) 60 = .ok (.aload_n 0, 1) := by decide +kernel
theorem s_135_60 {d : Nat} {Q : wQ} {L : List (Option Value)} {st : List Value} {w : aw} {cn sn : Nat} {v : Nat} : wp d 135 Q 60 (some (.ref v) :: L) st w cn sn = wp d 135 Q 61 (some (.ref v) :: L) (.ref v :: st) w cn sn := w_aload_n d_135_60 rfl
theorem d_135_61 : decode (mB 135) 61 = .ok (.getfield 57, 3) := by decide +kernel
theorem s_135_61 {d : Nat} {Q : wQ} {L : List (Option Value)} {st : List Value} {w : aw} {cn sn : Nat} {a : Nat} : wp d 135 Q 61 L (.ref a :: st) w cn sn = (kd w a = 9 ∧ wp d 135 Q 64 L (fd w 537 a :: st) w cn sn) := w_getfield d_135_61 (by decide +kernel : fT (mO 135) 57 = some (8, 25))
theorem d_135_64 : decode (mB 135) 64 = .ok (.iload_n 1, 1) := by decide +kernel
theorem s_135_64 {d : Nat} {Q : wQ} {L : List (Option Value)} {st : List Value} {w : aw} {cn sn : Nat} {a0 : Option Value} {v : Int32} : wp d 135 Q 64 (a0 :: some (.int v) :: L) st w cn sn = wp d 135 Q 65 (a0 :: some (.int v) :: L) (.int v :: st) w cn sn := w_iload_n d_135_64 rfl
theorem d_135_65 : decode (mB 135) 65 = .ok (.iaload, 1) := by decide +kernel
theorem s_135_65 {d : Nat} {Q : wQ} {L : List (Option Value)} {st : List Value} {w : aw} {cn sn : Nat} {a : Nat} {i : Int32} : wp d 135 Q 65 L (.int i :: .ref a :: st) w cn sn = ((kd w a = 20 ∨ kd w a = 30) ∧ inR i (ln w a) ∧ wp d 135 Q 66 L (.int (ai w a i.toNatClampNeg) :: st) w cn sn) := wp_row d_135_65 _ _ _ _ _
theorem d_135_66 : decode (mB 135) 66 = .ok (.iadd, 1) := by decide +kernel
theorem s_135_66 {d : Nat} {Q : wQ} {L : List (Option Value)} {st : List Value} {w : aw} {cn sn : Nat} {a b : Int32} : wp d 135 Q 66 L (.int b :: .int a :: st) w cn sn = wp d 135 Q 67 L (.int (a + b) :: st) w cn sn := wp_row d_135_66 _ _ _ _ _
theorem d_135_67 : decode (mB 135) 67 = .ok (.iload_n 2, 1) := by decide +kernel
theorem s_135_67 {d : Nat} {Q : wQ} {L : List (Option Value)} {st : List Value} {w : aw} {cn sn : Nat} {a0 a1 : Option Value} {v : Int32} : wp d 135 Q 67 (a0 :: a1 :: some (.int v) :: L) st w cn sn = wp d 135 Q 68 (a0 :: a1 :: some (.int v) :: L) (.int v :: st) w cn sn := w_iload_n d_135_67 rfl
theorem d_135_68 : decode (mB 135) 68 = .ok (.iastore, 1) := by decide +kernel
theorem s_135_68 {d : Nat} {Q : wQ} {L : List (Option Value)} {st : List Value} {w : aw} {cn sn : Nat} {a : Nat} {i x : Int32} : wp d 135 Q 68 L (.int x :: .int i :: .ref a :: st) w cn sn = (kd w a = 20 ∧ inR i (ln w a) ∧ wp d 135 Q 69 L st (uA w a i.toNatClampNeg x) cn sn) := wp_row d_135_68 _ _ _ _ _
theorem d_135_69 : decode (mB 135) 69 = .ok (.aload_n 0, 1) := by decide +kernel
theorem s_135_69 {d : Nat} {Q : wQ} {L : List (Option Value)} {st : List Value} {w : aw} {cn sn : Nat} {v : Nat} : wp d 135 Q 69 (some (.ref v) :: L) st w cn sn = wp d 135 Q 70 (some (.ref v) :: L) (.ref v :: st) w cn sn := w_aload_n d_135_69 rfl
theorem d_135_70 : decode (mB 135) 70 = .ok (.getfield 57, 3) := by decide +kernel
theorem s_135_70 {d : Nat} {Q : wQ} {L : List (Option Value)} {st : List Value} {w : aw} {cn sn : Nat} {a : Nat} : wp d 135 Q 70 L (.ref a :: st) w cn sn = (kd w a = 9 ∧ wp d 135 Q 73 L (fd w 537 a :: st) w cn sn) := w_getfield d_135_70 (by decide +kernel : fT (mO 135) 57 = some (8, 25))
theorem d_135_73 : decode (mB 135) 73 = .ok (.iload_n 1, 1) := by decide +kernel
theorem s_135_73 {d : Nat} {Q : wQ} {L : List (Option Value)} {st : List Value} {w : aw} {cn sn : Nat} {a0 : Option Value} {v : Int32} : wp d 135 Q 73 (a0 :: some (.int v) :: L) st w cn sn = wp d 135 Q 74 (a0 :: some (.int v) :: L) (.int v :: st) w cn sn := w_iload_n d_135_73 rfl
theorem d_135_74 : decode (mB 135) 74 = .ok (.dup2, 1) := by decide +kernel
theorem s_135_74 {d : Nat} {Q : wQ} {L : List (Option Value)} {st : List Value} {w : aw} {cn sn : Nat} {a b : Value} : wp d 135 Q 74 L (a :: b :: st) w cn sn = (a.category = 1 ∧ b.category = 1 ∧ wp d 135 Q 75 L (a :: b :: a :: b :: st) w cn sn) := wp_row d_135_74 _ _ _ _ _
theorem d_135_75 : decode (mB 135) 75 = .ok (.iaload, 1) := by decide +kernel
theorem s_135_75 {d : Nat} {Q : wQ} {L : List (Option Value)} {st : List Value} {w : aw} {cn sn : Nat} {a : Nat} {i : Int32} : wp d 135 Q 75 L (.int i :: .ref a :: st) w cn sn = ((kd w a = 20 ∨ kd w a = 30) ∧ inR i (ln w a) ∧ wp d 135 Q 76 L (.int (ai w a i.toNatClampNeg) :: st) w cn sn) := wp_row d_135_75 _ _ _ _ _
theorem d_135_76 : decode (mB 135) 76 = .ok (.iconst 1, 1) := by decide +kernel
theorem s_135_76 {d : Nat} {Q : wQ} {L : List (Option Value)} {st : List Value} {w : aw} {cn sn : Nat}  : wp d 135 Q 76 L st w cn sn = wp d 135 Q 77 L (.int 1 :: st) w cn sn := w_iconst d_135_76 (by decide)
theorem d_135_77 : decode (mB 135) 77 = .ok (.iadd, 1) := by decide +kernel
theorem s_135_77 {d : Nat} {Q : wQ} {L : List (Option Value)} {st : List Value} {w : aw} {cn sn : Nat} {a b : Int32} : wp d 135 Q 77 L (.int b :: .int a :: st) w cn sn = wp d 135 Q 78 L (.int (a + b) :: st) w cn sn := wp_row d_135_77 _ _ _ _ _
theorem d_135_78 : decode (mB 135) 78 = .ok (.iastore, 1) := by decide +kernel
theorem s_135_78 {d : Nat} {Q : wQ} {L : List (Option Value)} {st : List Value} {w : aw} {cn sn : Nat} {a : Nat} {i x : Int32} : wp d 135 Q 78 L (.int x :: .int i :: .ref a :: st) w cn sn = (kd w a = 20 ∧ inR i (ln w a) ∧ wp d 135 Q 79 L st (uA w a i.toNatClampNeg x) cn sn) := wp_row d_135_78 _ _ _ _ _
theorem d_135_79 : decode (mB 135) 79 = .ok (.aload_n 0, 1) := by decide +kernel
theorem s_135_79 {d : Nat} {Q : wQ} {L : List (Option Value)} {st : List Value} {w : aw} {cn sn : Nat} {v : Nat} : wp d 135 Q 79 (some (.ref v) :: L) st w cn sn = wp d 135 Q 80 (some (.ref v) :: L) (.ref v :: st) w cn sn := w_aload_n d_135_79 rfl
theorem d_135_80 : decode (mB 135) 80 = .ok (.getfield 39, 3) := by decide +kernel
theorem s_135_80 {d : Nat} {Q : wQ} {L : List (Option Value)} {st : List Value} {w : aw} {cn sn : Nat} {a : Nat} : wp d 135 Q 80 L (.ref a :: st) w cn sn = (kd w a = 9 ∧ wp d 135 Q 83 L (fd w 531 a :: st) w cn sn) := w_getfield d_135_80 (by decide +kernel : fT (mO 135) 39 = some (8, 19))
theorem d_135_83 : decode (mB 135) 83 = .ok (.iload_n 1, 1) := by decide +kernel
theorem s_135_83 {d : Nat} {Q : wQ} {L : List (Option Value)} {st : List Value} {w : aw} {cn sn : Nat} {a0 : Option Value} {v : Int32} : wp d 135 Q 83 (a0 :: some (.int v) :: L) st w cn sn = wp d 135 Q 84 (a0 :: some (.int v) :: L) (.int v :: st) w cn sn := w_iload_n d_135_83 rfl
theorem d_135_84 : decode (mB 135) 84 = .ok (.iaload, 1) := by decide +kernel
theorem s_135_84 {d : Nat} {Q : wQ} {L : List (Option Value)} {st : List Value} {w : aw} {cn sn : Nat} {a : Nat} {i : Int32} : wp d 135 Q 84 L (.int i :: .ref a :: st) w cn sn = ((kd w a = 20 ∨ kd w a = 30) ∧ inR i (ln w a) ∧ wp d 135 Q 85 L (.int (ai w a i.toNatClampNeg) :: st) w cn sn) := wp_row d_135_84 _ _ _ _ _
theorem d_135_85 : decode (mB 135) 85 = .ok (.iconst 3, 1) := by decide +kernel
theorem s_135_85 {d : Nat} {Q : wQ} {L : List (Option Value)} {st : List Value} {w : aw} {cn sn : Nat}  : wp d 135 Q 85 L st w cn sn = wp d 135 Q 86 L (.int 3 :: st) w cn sn := w_iconst d_135_85 (by decide)
theorem d_135_86 : decode (mB 135) 86 = .ok (.if_icmp .ne 8, 3) := by decide +kernel
theorem s_135_86 {d : Nat} {Q : wQ} {L : List (Option Value)} {st : List Value} {w : aw} {cn sn : Nat} {a b : Int32} : wp d 135 Q 86 L (.int b :: .int a :: st) w cn sn = ((¬ a = b → wp d 135 Q 94 L st w cn sn) ∧ (a = b → wp d 135 Q 89 L st w cn sn)) := w_icne d_135_86 (by decide)
theorem d_135_89 : decode (mB 135) 89 = .ok (.aload_n 0, 1) := by decide +kernel
theorem s_135_89 {d : Nat} {Q : wQ} {L : List (Option Value)} {st : List Value} {w : aw} {cn sn : Nat} {v : Nat} : wp d 135 Q 89 (some (.ref v) :: L) st w cn sn = wp d 135 Q 90 (some (.ref v) :: L) (.ref v :: st) w cn sn := w_aload_n d_135_89 rfl
theorem d_135_90 : decode (mB 135) 90 = .ok (.iload_n 1, 1) := by decide +kernel
theorem s_135_90 {d : Nat} {Q : wQ} {L : List (Option Value)} {st : List Value} {w : aw} {cn sn : Nat} {a0 : Option Value} {v : Int32} : wp d 135 Q 90 (a0 :: some (.int v) :: L) st w cn sn = wp d 135 Q 91 (a0 :: some (.int v) :: L) (.int v :: st) w cn sn := w_iload_n d_135_90 rfl
theorem d_135_91 : decode (mB 135) 91 = .ok (.invokevirtual 162, 3) := by decide +kernel
theorem s_135_91 {d : Nat} {Q : wQ} {L : List (Option Value)} {st : List Value} {w : aw} {cn sn : Nat} {v0 : Value} {b : Nat} : wp d 135 Q 91 L (v0 :: .ref b :: st) w cn sn = (kd w b = 9 ∧ catS st ≤ 8 ∧ wpD d 119 [.ref b, v0] w (fun v w' => wp d 135 Q 94 L (v.toList ++ st) w' cn sn)) := w_virtual (As := [v0]) d_135_91 (by decide +kernel : cT (mO 135) 162 = some (0, 119)) rfl (by decide +kernel) rfl (by decide +kernel) rfl
theorem d_135_94 : decode (mB 135) 94 = .ok (.aload_n 0, 1) := by decide +kernel
theorem s_135_94 {d : Nat} {Q : wQ} {L : List (Option Value)} {st : List Value} {w : aw} {cn sn : Nat} {v : Nat} : wp d 135 Q 94 (some (.ref v) :: L) st w cn sn = wp d 135 Q 95 (some (.ref v) :: L) (.ref v :: st) w cn sn := w_aload_n d_135_94 rfl
theorem d_135_95 : decode (mB 135) 95 = .ok (.invokevirtual 190, 3) := by decide +kernel
theorem s_135_95 {d : Nat} {Q : wQ} {L : List (Option Value)} {st : List Value} {w : aw} {cn sn : Nat} {b : Nat} : wp d 135 Q 95 L (.ref b :: st) w cn sn = (kd w b = 9 ∧ catS st ≤ 8 ∧ wpD d 121 [.ref b] w (fun v w' => wp d 135 Q 98 L (v.toList ++ st) w' cn sn)) := w_virtual (As := []) d_135_95 (by decide +kernel : cT (mO 135) 190 = some (0, 121)) rfl (by decide +kernel) rfl (by decide +kernel) rfl
theorem d_135_98 : decode (mB 135) 98 = .ok (.iconst 1, 1) := by decide +kernel
theorem s_135_98 {d : Nat} {Q : wQ} {L : List (Option Value)} {st : List Value} {w : aw} {cn sn : Nat}  : wp d 135 Q 98 L st w cn sn = wp d 135 Q 99 L (.int 1 :: st) w cn sn := w_iconst d_135_98 (by decide)
theorem d_135_99 : decode (mB 135) 99 = .ok (.ireturn, 1) := by decide +kernel
theorem s_135_99 {d : Nat} {Q : wQ} {L : List (Option Value)} {w : aw} {cn sn : Nat} {v : Int32} : wp d 135 Q 99 L [.int v] w cn sn = Q (some (.int v)) w := w_ireturn d_135_99 rfl
theorem d_136_0 : decode (mB 136) 0 = .ok (.aload_n 0, 1) := by decide +kernel
theorem s_136_0 {d : Nat} {Q : wQ} {L : List (Option Value)} {st : List Value} {w : aw} {cn sn : Nat} {v : Nat} : wp d 136 Q 0 (some (.ref v) :: L) st w cn sn = wp d 136 Q 1 (some (.ref v) :: L) (.ref v :: st) w cn sn := w_aload_n d_136_0 rfl
theorem d_136_1 : decode (mB 136) 1 = .ok (.getfield 108, 3) := by decide +kernel
theorem s_136_1 {d : Nat} {Q : wQ} {L : List (Option Value)} {st : List Value} {w : aw} {cn sn : Nat} {a : Nat} : wp d 136 Q 1 L (.ref a :: st) w cn sn = (kd w a = 9 ∧ wp d 136 Q 4 L (fd w 512 a :: st) w cn sn) := w_getfield d_136_1 (by decide +kernel : fT (mO 136) 108 = some (8, 0))
theorem d_136_4 : decode (mB 136) 4 = .ok (.ifCond .eq 14, 3) := by decide +kernel
theorem s_136_4 {d : Nat} {Q : wQ} {L : List (Option Value)} {st : List Value} {w : aw} {cn sn : Nat} {x : Int32} : wp d 136 Q 4 L (.int x :: st) w cn sn = ((x = 0 → wp d 136 Q 18 L st w cn sn) ∧ (¬ x = 0 → wp d 136 Q 7 L st w cn sn)) := w_ifeq d_136_4 (by decide)
theorem d_136_7 : decode (mB 136) 7 = .ok (.iload_n 1, 1) := by decide +kernel
theorem s_136_7 {d : Nat} {Q : wQ} {L : List (Option Value)} {st : List Value} {w : aw} {cn sn : Nat} {a0 : Option Value} {v : Int32} : wp d 136 Q 7 (a0 :: some (.int v) :: L) st w cn sn = wp d 136 Q 8 (a0 :: some (.int v) :: L) (.int v :: st) w cn sn := w_iload_n d_136_7 rfl
theorem d_136_8 : decode (mB 136) 8 = .ok (.iconst 0, 1) := by decide +kernel
theorem s_136_8 {d : Nat} {Q : wQ} {L : List (Option Value)} {st : List Value} {w : aw} {cn sn : Nat}  : wp d 136 Q 8 L st w cn sn = wp d 136 Q 9 L (.int 0 :: st) w cn sn := w_iconst d_136_8 (by decide)
theorem d_136_9 : decode (mB 136) 9 = .ok (.sipush 1000, 3) := by decide +kernel
theorem s_136_9 {d : Nat} {Q : wQ} {L : List (Option Value)} {st : List Value} {w : aw} {cn sn : Nat}  : wp d 136 Q 9 L st w cn sn = wp d 136 Q 12 L (.int 1000 :: st) w cn sn := w_sipush d_136_9 (by decide)
theorem d_136_12 : decode (mB 136) 12 = .ok (.invokestatic 111, 3) := by decide +kernel
theorem s_136_12 {d : Nat} {Q : wQ} {L : List (Option Value)} {st : List Value} {w : aw} {cn sn : Nat} {v0 v1 v2 : Value} : wp d 136 Q 12 L (v2 :: v1 :: v0 :: st) w cn sn = (catS st ≤ 8 ∧ wpD d 105 [v0, v1, v2] w (fun v w' => wp d 136 Q 15 L (v.toList ++ st) w' cn sn)) := w_static (As := [v0, v1, v2]) d_136_12 (by decide +kernel : cT (mO 136) 111 = some (2, 105)) (by decide +kernel) rfl (by decide +kernel) rfl
theorem d_136_15 : decode (mB 136) 15 = .ok (.ifCond .ne 5, 3) := by decide +kernel
theorem s_136_15 {d : Nat} {Q : wQ} {L : List (Option Value)} {st : List Value} {w : aw} {cn sn : Nat} {x : Int32} : wp d 136 Q 15 L (.int x :: st) w cn sn = ((¬ x = 0 → wp d 136 Q 20 L st w cn sn) ∧ (x = 0 → wp d 136 Q 18 L st w cn sn)) := w_ifne d_136_15 (by decide)
theorem d_136_18 : decode (mB 136) 18 = .ok (.iconst (-1), 1) := by decide +kernel
theorem s_136_18 {d : Nat} {Q : wQ} {L : List (Option Value)} {st : List Value} {w : aw} {cn sn : Nat}  : wp d 136 Q 18 L st w cn sn = wp d 136 Q 19 L (.int (-1) :: st) w cn sn := w_iconst d_136_18 (by decide)
theorem d_136_19 : decode (mB 136) 19 = .ok (.ireturn, 1) := by decide +kernel
theorem s_136_19 {d : Nat} {Q : wQ} {L : List (Option Value)} {w : aw} {cn sn : Nat} {v : Int32} : wp d 136 Q 19 L [.int v] w cn sn = Q (some (.int v)) w := w_ireturn d_136_19 rfl
theorem d_136_20 : decode (mB 136) 20 = .ok (.aload_n 0, 1) := by decide +kernel
theorem s_136_20 {d : Nat} {Q : wQ} {L : List (Option Value)} {st : List Value} {w : aw} {cn sn : Nat} {v : Nat} : wp d 136 Q 20 (some (.ref v) :: L) st w cn sn = wp d 136 Q 21 (some (.ref v) :: L) (.ref v :: st) w cn sn := w_aload_n d_136_20 rfl
theorem d_136_21 : decode (mB 136) 21 = .ok (.getfield 181, 3) := by decide +kernel
theorem s_136_21 {d : Nat} {Q : wQ} {L : List (Option Value)} {st : List Value} {w : aw} {cn sn : Nat} {a : Nat} : wp d 136 Q 21 L (.ref a :: st) w cn sn = (kd w a = 9 ∧ wp d 136 Q 24 L (fd w 520 a :: st) w cn sn) := w_getfield d_136_21 (by decide +kernel : fT (mO 136) 181 = some (8, 8))
theorem d_136_24 : decode (mB 136) 24 = .ok (.istore_n 2, 1) := by decide +kernel
theorem s_136_24 {d : Nat} {Q : wQ} {L : List (Option Value)} {st : List Value} {w : aw} {cn sn : Nat} {a0 a1 a2 : Option Value} {v : Int32} : wp d 136 Q 24 (a0 :: a1 :: a2 :: L) (.int v :: st) w cn sn = wp d 136 Q 25 (a0 :: clr a1 :: some (.int v) :: L) st w cn sn := w_istore_n d_136_24 (Nat.le_add_left 3 _) rfl
theorem d_136_25 : decode (mB 136) 25 = .ok (.iconst 0, 1) := by decide +kernel
theorem s_136_25 {d : Nat} {Q : wQ} {L : List (Option Value)} {st : List Value} {w : aw} {cn sn : Nat}  : wp d 136 Q 25 L st w cn sn = wp d 136 Q 26 L (.int 0 :: st) w cn sn := w_iconst d_136_25 (by decide)
theorem d_136_26 : decode (mB 136) 26 = .ok (.istore_n 3, 1) := by decide +kernel
theorem s_136_26 {d : Nat} {Q : wQ} {L : List (Option Value)} {st : List Value} {w : aw} {cn sn : Nat} {a0 a1 a2 a3 : Option Value} {v : Int32} : wp d 136 Q 26 (a0 :: a1 :: a2 :: a3 :: L) (.int v :: st) w cn sn = wp d 136 Q 27 (a0 :: a1 :: clr a2 :: some (.int v) :: L) st w cn sn := w_istore_n d_136_26 (Nat.le_add_left 4 _) rfl
theorem d_136_27 : decode (mB 136) 27 = .ok (.iload_n 3, 1) := by decide +kernel
theorem s_136_27 {d : Nat} {Q : wQ} {L : List (Option Value)} {st : List Value} {w : aw} {cn sn : Nat} {a0 a1 a2 : Option Value} {v : Int32} : wp d 136 Q 27 (a0 :: a1 :: a2 :: some (.int v) :: L) st w cn sn = wp d 136 Q 28 (a0 :: a1 :: a2 :: some (.int v) :: L) (.int v :: st) w cn sn := w_iload_n d_136_27 rfl
theorem d_136_28 : decode (mB 136) 28 = .ok (.iload_n 1, 1) := by decide +kernel
theorem s_136_28 {d : Nat} {Q : wQ} {L : List (Option Value)} {st : List Value} {w : aw} {cn sn : Nat} {a0 : Option Value} {v : Int32} : wp d 136 Q 28 (a0 :: some (.int v) :: L) st w cn sn = wp d 136 Q 29 (a0 :: some (.int v) :: L) (.int v :: st) w cn sn := w_iload_n d_136_28 rfl
theorem d_136_29 : decode (mB 136) 29 = .ok (.if_icmp .ge 13, 3) := by decide +kernel
theorem s_136_29 {d : Nat} {Q : wQ} {L : List (Option Value)} {st : List Value} {w : aw} {cn sn : Nat} {a b : Int32} : wp d 136 Q 29 L (.int b :: .int a :: st) w cn sn = ((b ≤ a → wp d 136 Q 42 L st w cn sn) ∧ (¬ b ≤ a → wp d 136 Q 32 L st w cn sn)) := w_icge d_136_29 (by decide)
theorem d_136_32 : decode (mB 136) 32 = .ok (.aload_n 0, 1) := by decide +kernel
theorem s_136_32 {d : Nat} {Q : wQ} {L : List (Option Value)} {st : List Value} {w : aw} {cn sn : Nat} {v : Nat} : wp d 136 Q 32 (some (.ref v) :: L) st w cn sn = wp d 136 Q 33 (some (.ref v) :: L) (.ref v :: st) w cn sn := w_aload_n d_136_32 rfl
theorem d_136_33 : decode (mB 136) 33 = .ok (.invokevirtual 212, 3) := by decide +kernel
theorem s_136_33 {d : Nat} {Q : wQ} {L : List (Option Value)} {st : List Value} {w : aw} {cn sn : Nat} {b : Nat} : wp d 136 Q 33 L (.ref b :: st) w cn sn = (kd w b = 9 ∧ catS st ≤ 8 ∧ wpD d 122 [.ref b] w (fun v w' => wp d 136 Q 36 L (v.toList ++ st) w' cn sn)) := w_virtual (As := []) d_136_33 (by decide +kernel : cT (mO 136) 212 = some (0, 122)) rfl (by decide +kernel) rfl (by decide +kernel) rfl
theorem d_136_36 : decode (mB 136) 36 = .ok (.iinc 3 1, 3) := by decide +kernel
theorem s_136_36 {d : Nat} {Q : wQ} {L : List (Option Value)} {st : List Value} {w : aw} {cn sn : Nat} {a0 a1 a2 : Option Value} {v : Int32} : wp d 136 Q 36 (a0 :: a1 :: a2 :: some (.int v) :: L) st w cn sn = wp d 136 Q 39 (a0 :: a1 :: clr a2 :: some (.int (v + 1)) :: L) st w cn sn := w_iinc d_136_36 rfl (by decide) rfl
theorem d_136_39 : decode (mB 136) 39 = .ok (.goto (-12), 3) := by decide +kernel
theorem s_136_39 {d : Nat} {Q : wQ} {L : List (Option Value)} {st : List Value} {w : aw} {cn sn : Nat}  : wp d 136 Q 39 L st w cn sn = wp d 136 Q 27 L st w cn sn := w_goto d_136_39 (by decide)
theorem d_136_42 : decode (mB 136) 42 = .ok (.iload_n 1, 1) := by decide +kernel
theorem s_136_42 {d : Nat} {Q : wQ} {L : List (Option Value)} {st : List Value} {w : aw} {cn sn : Nat} {a0 : Option Value} {v : Int32} : wp d 136 Q 42 (a0 :: some (.int v) :: L) st w cn sn = wp d 136 Q 43 (a0 :: some (.int v) :: L) (.int v :: st) w cn sn := w_iload_n d_136_42 rfl
theorem d_136_43 : decode (mB 136) 43 = .ok (.aload_n 0, 1) := by decide +kernel
theorem s_136_43 {d : Nat} {Q : wQ} {L : List (Option Value)} {st : List Value} {w : aw} {cn sn : Nat} {v : Nat} : wp d 136 Q 43 (some (.ref v) :: L) st w cn sn = wp d 136 Q 44 (some (.ref v) :: L) (.ref v :: st) w cn sn := w_aload_n d_136_43 rfl
theorem d_136_44 : decode (mB 136) 44 = .ok (.getfield 181, 3) := by decide +kernel
theorem s_136_44 {d : Nat} {Q : wQ} {L : List (Option Value)} {st : List Value} {w : aw} {cn sn : Nat} {a : Nat} : wp d 136 Q 44 L (.ref a :: st) w cn sn = (kd w a = 9 ∧ wp d 136 Q 47 L (fd w 520 a :: st) w cn sn) := w_getfield d_136_44 (by decide +kernel : fT (mO 136) 181 = some (8, 8))
theorem d_136_47 : decode (mB 136) 47 = .ok (.iload_n 2, 1) := by decide +kernel
theorem s_136_47 {d : Nat} {Q : wQ} {L : List (Option Value)} {st : List Value} {w : aw} {cn sn : Nat} {a0 a1 : Option Value} {v : Int32} : wp d 136 Q 47 (a0 :: a1 :: some (.int v) :: L) st w cn sn = wp d 136 Q 48 (a0 :: a1 :: some (.int v) :: L) (.int v :: st) w cn sn := w_iload_n d_136_47 rfl
theorem d_136_48 : decode (mB 136) 48 = .ok (.isub, 1) := by decide +kernel
theorem s_136_48 {d : Nat} {Q : wQ} {L : List (Option Value)} {st : List Value} {w : aw} {cn sn : Nat} {a b : Int32} : wp d 136 Q 48 L (.int b :: .int a :: st) w cn sn = wp d 136 Q 49 L (.int (a - b) :: st) w cn sn := wp_row d_136_48 _ _ _ _ _
theorem d_136_49 : decode (mB 136) 49 = .ok (.isub, 1) := by decide +kernel
theorem s_136_49 {d : Nat} {Q : wQ} {L : List (Option Value)} {st : List Value} {w : aw} {cn sn : Nat} {a b : Int32} : wp d 136 Q 49 L (.int b :: .int a :: st) w cn sn = wp d 136 Q 50 L (.int (a - b) :: st) w cn sn := wp_row d_136_49 _ _ _ _ _
theorem d_136_50 : decode (mB 136) 50 = .ok (.ireturn, 1) := by decide +kernel
theorem s_136_50 {d : Nat} {Q : wQ} {L : List (Option Value)} {w : aw} {cn sn : Nat} {v : Int32} : wp d 136 Q 50 L [.int v] w cn sn = Q (some (.int v)) w := w_ireturn d_136_50 rfl
theorem d_137_0 : decode (mB 137) 0 = .ok (.aload_n 0, 1) := by decide +kernel
theorem s_137_0 {d : Nat} {Q : wQ} {L : List (Option Value)} {st : List Value} {w : aw} {cn sn : Nat} {v : Nat} : wp d 137 Q 0 (some (.ref v) :: L) st w cn sn = wp d 137 Q 1 (some (.ref v) :: L) (.ref v :: st) w cn sn := w_aload_n d_137_0 rfl
theorem d_137_1 : decode (mB 137) 1 = .ok (.iload_n 1, 1) := by decide +kernel
theorem s_137_1 {d : Nat} {Q : wQ} {L : List (Option Value)} {st : List Value} {w : aw} {cn sn : Nat} {a0 : Option Value} {v : Int32} : wp d 137 Q 1 (a0 :: some (.int v) :: L) st w cn sn = wp d 137 Q 2 (a0 :: some (.int v) :: L) (.int v :: st) w cn sn := w_iload_n d_137_1 rfl
theorem d_137_2 : decode (mB 137) 2 = .ok (.invokevirtual 205, 3) := by decide +kernel
theorem s_137_2 {d : Nat} {Q : wQ} {L : List (Option Value)} {st : List Value} {w : aw} {cn sn : Nat} {v0 : Value} {b : Nat} : wp d 137 Q 2 L (v0 :: .ref b :: st) w cn sn = (kd w b = 9 ∧ catS st ≤ 8 ∧ wpD d 106 [.ref b, v0] w (fun v w' => wp d 137 Q 5 L (v.toList ++ st) w' cn sn)) := w_virtual (As := [v0]) d_137_2 (by decide +kernel : cT (mO 137) 205 = some (0, 106)) rfl (by decide +kernel) rfl (by decide +kernel) rfl
theorem d_137_5 : decode (mB 137) 5 = .ok (.ifCond .ne 5, 3) := by decide +kernel
theorem s_137_5 {d : Nat} {Q : wQ} {L : List (Option Value)} {st : List Value} {w : aw} {cn sn : Nat} {x : Int32} : wp d 137 Q 5 L (.int x :: st) w cn sn = ((¬ x = 0 → wp d 137 Q 10 L st w cn sn) ∧ (x = 0 → wp d 137 Q 8 L st w cn sn)) := w_ifne d_137_5 (by decide)
theorem d_137_8 : decode (mB 137) 8 = .ok (.iconst (-1), 1) := by decide +kernel
theorem s_137_8 {d : Nat} {Q : wQ} {L : List (Option Value)} {st : List Value} {w : aw} {cn sn : Nat}  : wp d 137 Q 8 L st w cn sn = wp d 137 Q 9 L (.int (-1) :: st) w cn sn := w_iconst d_137_8 (by decide)
theorem d_137_9 : decode (mB 137) 9 = .ok (.ireturn, 1) := by decide +kernel
theorem s_137_9 {d : Nat} {Q : wQ} {L : List (Option Value)} {w : aw} {cn sn : Nat} {v : Int32} : wp d 137 Q 9 L [.int v] w cn sn = Q (some (.int v)) w := w_ireturn d_137_9 rfl
theorem d_137_10 : decode (mB 137) 10 = .ok (.iload_n 2, 1) := by decide +kernel
theorem s_137_10 {d : Nat} {Q : wQ} {L : List (Option Value)} {st : List Value} {w : aw} {cn sn : Nat} {a0 a1 : Option Value} {v : Int32} : wp d 137 Q 10 (a0 :: a1 :: some (.int v) :: L) st w cn sn = wp d 137 Q 11 (a0 :: a1 :: some (.int v) :: L) (.int v :: st) w cn sn := w_iload_n d_137_10 rfl
theorem d_137_11 : decode (mB 137) 11 = .ok (.tableswitch 155 0 11 #[61, 68, 75, 82, 89, 96, 103, 110, 117, 124, 131, 148], 61) := by decide +kernel
theorem s_137_11 {d : Nat} {Q : wQ} {L : List (Option Value)} {st : List Value} {w : aw} {cn sn : Nat} {x : Int32} : wp d 137 Q 11 L (.int x :: st) w cn sn = ((x.toInt < 0 ∨ 11 < x.toInt → wp d 137 Q 166 L st w cn sn) ∧ ∀ (i t : Nat), ([72, 79, 86, 93, 100, 107, 114, 121, 128, 135, 142, 159] : List Nat)[i]? = some t → x.toInt = 0 + i → wp d 137 Q t L st w cn sn) := w_table d_137_11 (by decide) (by decide) (by decide)
theorem d_137_72 : decode (mB 137) 72 = .ok (.aload_n 0, 1) := by decide +kernel
theorem s_137_72 {d : Nat} {Q : wQ} {L : List (Option Value)} {st : List Value} {w : aw} {cn sn : Nat} {v : Nat} : wp d 137 Q 72 (some (.ref v) :: L) st w cn sn = wp d 137 Q 73 (some (.ref v) :: L) (.ref v :: st) w cn sn := w_aload_n d_137_72 rfl
theorem d_137_73 : decode (mB 137) 73 = .ok (.getfield 33, 3) := by decide +kernel
theorem s_137_73 {d : Nat} {Q : wQ} {L : List (Option Value)} {st : List Value} {w : aw} {cn sn : Nat} {a : Nat} : wp d 137 Q 73 L (.ref a :: st) w cn sn = (kd w a = 9 ∧ wp d 137 Q 76 L (fd w 529 a :: st) w cn sn) := w_getfield d_137_73 (by decide +kernel : fT (mO 137) 33 = some (8, 17))
theorem d_137_76 : decode (mB 137) 76 = .ok (.iload_n 1, 1) := by decide +kernel
theorem s_137_76 {d : Nat} {Q : wQ} {L : List (Option Value)} {st : List Value} {w : aw} {cn sn : Nat} {a0 : Option Value} {v : Int32} : wp d 137 Q 76 (a0 :: some (.int v) :: L) st w cn sn = wp d 137 Q 77 (a0 :: some (.int v) :: L) (.int v :: st) w cn sn := w_iload_n d_137_76 rfl
theorem d_137_77 : decode (mB 137) 77 = .ok (.iaload, 1) := by decide +kernel
theorem s_137_77 {d : Nat} {Q : wQ} {L : List (Option Value)} {st : List Value} {w : aw} {cn sn : Nat} {a : Nat} {i : Int32} : wp d 137 Q 77 L (.int i :: .ref a :: st) w cn sn = ((kd w a = 20 ∨ kd w a = 30) ∧ inR i (ln w a) ∧ wp d 137 Q 78 L (.int (ai w a i.toNatClampNeg) :: st) w cn sn) := wp_row d_137_77 _ _ _ _ _
theorem d_137_78 : decode (mB 137) 78 = .ok (.ireturn, 1) := by decide +kernel
theorem s_137_78 {d : Nat} {Q : wQ} {L : List (Option Value)} {w : aw} {cn sn : Nat} {v : Int32} : wp d 137 Q 78 L [.int v] w cn sn = Q (some (.int v)) w := w_ireturn d_137_78 rfl
theorem d_137_79 : decode (mB 137) 79 = .ok (.aload_n 0, 1) := by decide +kernel
theorem s_137_79 {d : Nat} {Q : wQ} {L : List (Option Value)} {st : List Value} {w : aw} {cn sn : Nat} {v : Nat} : wp d 137 Q 79 (some (.ref v) :: L) st w cn sn = wp d 137 Q 80 (some (.ref v) :: L) (.ref v :: st) w cn sn := w_aload_n d_137_79 rfl
theorem d_137_80 : decode (mB 137) 80 = .ok (.getfield 30, 3) := by decide +kernel
theorem s_137_80 {d : Nat} {Q : wQ} {L : List (Option Value)} {st : List Value} {w : aw} {cn sn : Nat} {a : Nat} : wp d 137 Q 80 L (.ref a :: st) w cn sn = (kd w a = 9 ∧ wp d 137 Q 83 L (fd w 528 a :: st) w cn sn) := w_getfield d_137_80 (by decide +kernel : fT (mO 137) 30 = some (8, 16))
theorem d_137_83 : decode (mB 137) 83 = .ok (.iload_n 1, 1) := by decide +kernel
theorem s_137_83 {d : Nat} {Q : wQ} {L : List (Option Value)} {st : List Value} {w : aw} {cn sn : Nat} {a0 : Option Value} {v : Int32} : wp d 137 Q 83 (a0 :: some (.int v) :: L) st w cn sn = wp d 137 Q 84 (a0 :: some (.int v) :: L) (.int v :: st) w cn sn := w_iload_n d_137_83 rfl
theorem d_137_84 : decode (mB 137) 84 = .ok (.iaload, 1) := by decide +kernel
theorem s_137_84 {d : Nat} {Q : wQ} {L : List (Option Value)} {st : List Value} {w : aw} {cn sn : Nat} {a : Nat} {i : Int32} : wp d 137 Q 84 L (.int i :: .ref a :: st) w cn sn = ((kd w a = 20 ∨ kd w a = 30) ∧ inR i (ln w a) ∧ wp d 137 Q 85 L (.int (ai w a i.toNatClampNeg) :: st) w cn sn) := wp_row d_137_84 _ _ _ _ _
theorem d_137_85 : decode (mB 137) 85 = .ok (.ireturn, 1) := by decide +kernel
theorem s_137_85 {d : Nat} {Q : wQ} {L : List (Option Value)} {w : aw} {cn sn : Nat} {v : Int32} : wp d 137 Q 85 L [.int v] w cn sn = Q (some (.int v)) w := w_ireturn d_137_85 rfl
theorem d_137_86 : decode (mB 137) 86 = .ok (.aload_n 0, 1) := by decide +kernel
theorem s_137_86 {d : Nat} {Q : wQ} {L : List (Option Value)} {st : List Value} {w : aw} {cn sn : Nat} {v : Nat} : wp d 137 Q 86 (some (.ref v) :: L) st w cn sn = wp d 137 Q 87 (some (.ref v) :: L) (.ref v :: st) w cn sn := w_aload_n d_137_86 rfl
theorem d_137_87 : decode (mB 137) 87 = .ok (.getfield 36, 3) := by decide +kernel
theorem s_137_87 {d : Nat} {Q : wQ} {L : List (Option Value)} {st : List Value} {w : aw} {cn sn : Nat} {a : Nat} : wp d 137 Q 87 L (.ref a :: st) w cn sn = (kd w a = 9 ∧ wp d 137 Q 90 L (fd w 530 a :: st) w cn sn) := w_getfield d_137_87 (by decide +kernel : fT (mO 137) 36 = some (8, 18))
theorem d_137_90 : decode (mB 137) 90 = .ok (.iload_n 1, 1) := by decide +kernel
theorem s_137_90 {d : Nat} {Q : wQ} {L : List (Option Value)} {st : List Value} {w : aw} {cn sn : Nat} {a0 : Option Value} {v : Int32} : wp d 137 Q 90 (a0 :: some (.int v) :: L) st w cn sn = wp d 137 Q 91 (a0 :: some (.int v) :: L) (.int v :: st) w cn sn := w_iload_n d_137_90 rfl
theorem d_137_91 : decode (mB 137) 91 = .ok (.iaload, 1) := by decide +kernel
theorem s_137_91 {d : Nat} {Q : wQ} {L : List (Option Value)} {st : List Value} {w : aw} {cn sn : Nat} {a : Nat} {i : Int32} : wp d 137 Q 91 L (.int i :: .ref a :: st) w cn sn = ((kd w a = 20 ∨ kd w a = 30) ∧ inR i (ln w a) ∧ wp d 137 Q 92 L (.int (ai w a i.toNatClampNeg) :: st) w cn sn) := wp_row d_137_91 _ _ _ _ _
theorem d_137_92 : decode (mB 137) 92 = .ok (.ireturn, 1) := by decide +kernel
theorem s_137_92 {d : Nat} {Q : wQ} {L : List (Option Value)} {w : aw} {cn sn : Nat} {v : Int32} : wp d 137 Q 92 L [.int v] w cn sn = Q (some (.int v)) w := w_ireturn d_137_92 rfl
theorem d_137_93 : decode (mB 137) 93 = .ok (.aload_n 0, 1) := by decide +kernel
theorem s_137_93 {d : Nat} {Q : wQ} {L : List (Option Value)} {st : List Value} {w : aw} {cn sn : Nat} {v : Nat} : wp d 137 Q 93 (some (.ref v) :: L) st w cn sn = wp d 137 Q 94 (some (.ref v) :: L) (.ref v :: st) w cn sn := w_aload_n d_137_93 rfl
theorem d_137_94 : decode (mB 137) 94 = .ok (.getfield 39, 3) := by decide +kernel
theorem s_137_94 {d : Nat} {Q : wQ} {L : List (Option Value)} {st : List Value} {w : aw} {cn sn : Nat} {a : Nat} : wp d 137 Q 94 L (.ref a :: st) w cn sn = (kd w a = 9 ∧ wp d 137 Q 97 L (fd w 531 a :: st) w cn sn) := w_getfield d_137_94 (by decide +kernel : fT (mO 137) 39 = some (8, 19))
theorem d_137_97 : decode (mB 137) 97 = .ok (.iload_n 1, 1) := by decide +kernel
theorem s_137_97 {d : Nat} {Q : wQ} {L : List (Option Value)} {st : List Value} {w : aw} {cn sn : Nat} {a0 : Option Value} {v : Int32} : wp d 137 Q 97 (a0 :: some (.int v) :: L) st w cn sn = wp d 137 Q 98 (a0 :: some (.int v) :: L) (.int v :: st) w cn sn := w_iload_n d_137_97 rfl
theorem d_137_98 : decode (mB 137) 98 = .ok (.iaload, 1) := by decide +kernel
theorem s_137_98 {d : Nat} {Q : wQ} {L : List (Option Value)} {st : List Value} {w : aw} {cn sn : Nat} {a : Nat} {i : Int32} : wp d 137 Q 98 L (.int i :: .ref a :: st) w cn sn = ((kd w a = 20 ∨ kd w a = 30) ∧ inR i (ln w a) ∧ wp d 137 Q 99 L (.int (ai w a i.toNatClampNeg) :: st) w cn sn) := wp_row d_137_98 _ _ _ _ _
theorem d_137_99 : decode (mB 137) 99 = .ok (.ireturn, 1) := by decide +kernel
theorem s_137_99 {d : Nat} {Q : wQ} {L : List (Option Value)} {w : aw} {cn sn : Nat} {v : Int32} : wp d 137 Q 99 L [.int v] w cn sn = Q (some (.int v)) w := w_ireturn d_137_99 rfl
theorem d_137_100 : decode (mB 137) 100 = .ok (.aload_n 0, 1) := by decide +kernel
theorem s_137_100 {d : Nat} {Q : wQ} {L : List (Option Value)} {st : List Value} {w : aw} {cn sn : Nat} {v : Nat} : wp d 137 Q 100 (some (.ref v) :: L) st w cn sn = wp d 137 Q 101 (some (.ref v) :: L) (.ref v :: st) w cn sn := w_aload_n d_137_100 rfl
theorem d_137_101 : decode (mB 137) 101 = .ok (.getfield 42, 3) := by decide +kernel
theorem s_137_101 {d : Nat} {Q : wQ} {L : List (Option Value)} {st : List Value} {w : aw} {cn sn : Nat} {a : Nat} : wp d 137 Q 101 L (.ref a :: st) w cn sn = (kd w a = 9 ∧ wp d 137 Q 104 L (fd w 532 a :: st) w cn sn) := w_getfield d_137_101 (by decide +kernel : fT (mO 137) 42 = some (8, 20))
theorem d_137_104 : decode (mB 137) 104 = .ok (.iload_n 1, 1) := by decide +kernel
theorem s_137_104 {d : Nat} {Q : wQ} {L : List (Option Value)} {st : List Value} {w : aw} {cn sn : Nat} {a0 : Option Value} {v : Int32} : wp d 137 Q 104 (a0 :: some (.int v) :: L) st w cn sn = wp d 137 Q 105 (a0 :: some (.int v) :: L) (.int v :: st) w cn sn := w_iload_n d_137_104 rfl
theorem d_137_105 : decode (mB 137) 105 = .ok (.iaload, 1) := by decide +kernel
theorem s_137_105 {d : Nat} {Q : wQ} {L : List (Option Value)} {st : List Value} {w : aw} {cn sn : Nat} {a : Nat} {i : Int32} : wp d 137 Q 105 L (.int i :: .ref a :: st) w cn sn = ((kd w a = 20 ∨ kd w a = 30) ∧ inR i (ln w a) ∧ wp d 137 Q 106 L (.int (ai w a i.toNatClampNeg) :: st) w cn sn) := wp_row d_137_105 _ _ _ _ _
theorem d_137_106 : decode (mB 137) 106 = .ok (.ireturn, 1) := by decide +kernel
theorem s_137_106 {d : Nat} {Q : wQ} {L : List (Option Value)} {w : aw} {cn sn : Nat} {v : Int32} : wp d 137 Q 106 L [.int v] w cn sn = Q (some (.int v)) w := w_ireturn d_137_106 rfl
theorem d_137_107 : decode (mB 137) 107 = .ok (.aload_n 0, 1) := by decide +kernel
theorem s_137_107 {d : Nat} {Q : wQ} {L : List (Option Value)} {st : List Value} {w : aw} {cn sn : Nat} {v : Nat} : wp d 137 Q 107 (some (.ref v) :: L) st w cn sn = wp d 137 Q 108 (some (.ref v) :: L) (.ref v :: st) w cn sn := w_aload_n d_137_107 rfl
theorem d_137_108 : decode (mB 137) 108 = .ok (.getfield 57, 3) := by decide +kernel
theorem s_137_108 {d : Nat} {Q : wQ} {L : List (Option Value)} {st : List Value} {w : aw} {cn sn : Nat} {a : Nat} : wp d 137 Q 108 L (.ref a :: st) w cn sn = (kd w a = 9 ∧ wp d 137 Q 111 L (fd w 537 a :: st) w cn sn) := w_getfield d_137_108 (by decide +kernel : fT (mO 137) 57 = some (8, 25))
theorem d_137_111 : decode (mB 137) 111 = .ok (.iload_n 1, 1) := by decide +kernel
theorem s_137_111 {d : Nat} {Q : wQ} {L : List (Option Value)} {st : List Value} {w : aw} {cn sn : Nat} {a0 : Option Value} {v : Int32} : wp d 137 Q 111 (a0 :: some (.int v) :: L) st w cn sn = wp d 137 Q 112 (a0 :: some (.int v) :: L) (.int v :: st) w cn sn := w_iload_n d_137_111 rfl
theorem d_137_112 : decode (mB 137) 112 = .ok (.iaload, 1) := by decide +kernel
theorem s_137_112 {d : Nat} {Q : wQ} {L : List (Option Value)} {st : List Value} {w : aw} {cn sn : Nat} {a : Nat} {i : Int32} : wp d 137 Q 112 L (.int i :: .ref a :: st) w cn sn = ((kd w a = 20 ∨ kd w a = 30) ∧ inR i (ln w a) ∧ wp d 137 Q 113 L (.int (ai w a i.toNatClampNeg) :: st) w cn sn) := wp_row d_137_112 _ _ _ _ _
theorem d_137_113 : decode (mB 137) 113 = .ok (.ireturn, 1) := by decide +kernel
theorem s_137_113 {d : Nat} {Q : wQ} {L : List (Option Value)} {w : aw} {cn sn : Nat} {v : Int32} : wp d 137 Q 113 L [.int v] w cn sn = Q (some (.int v)) w := w_ireturn d_137_113 rfl
theorem d_137_114 : decode (mB 137) 114 = .ok (.aload_n 0, 1) := by decide +kernel
theorem s_137_114 {d : Nat} {Q : wQ} {L : List (Option Value)} {st : List Value} {w : aw} {cn sn : Nat} {v : Nat} : wp d 137 Q 114 (some (.ref v) :: L) st w cn sn = wp d 137 Q 115 (some (.ref v) :: L) (.ref v :: st) w cn sn := w_aload_n d_137_114 rfl
theorem d_137_115 : decode (mB 137) 115 = .ok (.getfield 63, 3) := by decide +kernel
theorem s_137_115 {d : Nat} {Q : wQ} {L : List (Option Value)} {st : List Value} {w : aw} {cn sn : Nat} {a : Nat} : wp d 137 Q 115 L (.ref a :: st) w cn sn = (kd w a = 9 ∧ wp d 137 Q 118 L (fd w 539 a :: st) w cn sn) := w_getfield d_137_115 (by decide +kernel : fT (mO 137) 63 = some (8, 27))
theorem d_137_118 : decode (mB 137) 118 = .ok (.iload_n 1, 1) := by decide +kernel
theorem s_137_118 {d : Nat} {Q : wQ} {L : List (Option Value)} {st : List Value} {w : aw} {cn sn : Nat} {a0 : Option Value} {v : Int32} : wp d 137 Q 118 (a0 :: some (.int v) :: L) st w cn sn = wp d 137 Q 119 (a0 :: some (.int v) :: L) (.int v :: st) w cn sn := w_iload_n d_137_118 rfl
theorem d_137_119 : decode (mB 137) 119 = .ok (.iaload, 1) := by decide +kernel
theorem s_137_119 {d : Nat} {Q : wQ} {L : List (Option Value)} {st : List Value} {w : aw} {cn sn : Nat} {a : Nat} {i : Int32} : wp d 137 Q 119 L (.int i :: .ref a :: st) w cn sn = ((kd w a = 20 ∨ kd w a = 30) ∧ inR i (ln w a) ∧ wp d 137 Q 120 L (.int (ai w a i.toNatClampNeg) :: st) w cn sn) := wp_row d_137_119 _ _ _ _ _
theorem d_137_120 : decode (mB 137) 120 = .ok (.ireturn, 1) := by decide +kernel
theorem s_137_120 {d : Nat} {Q : wQ} {L : List (Option Value)} {w : aw} {cn sn : Nat} {v : Int32} : wp d 137 Q 120 L [.int v] w cn sn = Q (some (.int v)) w := w_ireturn d_137_120 rfl
theorem d_137_121 : decode (mB 137) 121 = .ok (.aload_n 0, 1) := by decide +kernel
theorem s_137_121 {d : Nat} {Q : wQ} {L : List (Option Value)} {st : List Value} {w : aw} {cn sn : Nat} {v : Nat} : wp d 137 Q 121 (some (.ref v) :: L) st w cn sn = wp d 137 Q 122 (some (.ref v) :: L) (.ref v :: st) w cn sn := w_aload_n d_137_121 rfl
theorem d_137_122 : decode (mB 137) 122 = .ok (.getfield 48, 3) := by decide +kernel
theorem s_137_122 {d : Nat} {Q : wQ} {L : List (Option Value)} {st : List Value} {w : aw} {cn sn : Nat} {a : Nat} : wp d 137 Q 122 L (.ref a :: st) w cn sn = (kd w a = 9 ∧ wp d 137 Q 125 L (fd w 534 a :: st) w cn sn) := w_getfield d_137_122 (by decide +kernel : fT (mO 137) 48 = some (8, 22))
theorem d_137_125 : decode (mB 137) 125 = .ok (.iload_n 1, 1) := by decide +kernel
theorem s_137_125 {d : Nat} {Q : wQ} {L : List (Option Value)} {st : List Value} {w : aw} {cn sn : Nat} {a0 : Option Value} {v : Int32} : wp d 137 Q 125 (a0 :: some (.int v) :: L) st w cn sn = wp d 137 Q 126 (a0 :: some (.int v) :: L) (.int v :: st) w cn sn := w_iload_n d_137_125 rfl
theorem d_137_126 : decode (mB 137) 126 = .ok (.iaload, 1) := by decide +kernel
theorem s_137_126 {d : Nat} {Q : wQ} {L : List (Option Value)} {st : List Value} {w : aw} {cn sn : Nat} {a : Nat} {i : Int32} : wp d 137 Q 126 L (.int i :: .ref a :: st) w cn sn = ((kd w a = 20 ∨ kd w a = 30) ∧ inR i (ln w a) ∧ wp d 137 Q 127 L (.int (ai w a i.toNatClampNeg) :: st) w cn sn) := wp_row d_137_126 _ _ _ _ _
theorem d_137_127 : decode (mB 137) 127 = .ok (.ireturn, 1) := by decide +kernel
theorem s_137_127 {d : Nat} {Q : wQ} {L : List (Option Value)} {w : aw} {cn sn : Nat} {v : Int32} : wp d 137 Q 127 L [.int v] w cn sn = Q (some (.int v)) w := w_ireturn d_137_127 rfl
theorem d_137_128 : decode (mB 137) 128 = .ok (.aload_n 0, 1) := by decide +kernel
theorem s_137_128 {d : Nat} {Q : wQ} {L : List (Option Value)} {st : List Value} {w : aw} {cn sn : Nat} {v : Nat} : wp d 137 Q 128 (some (.ref v) :: L) st w cn sn = wp d 137 Q 129 (some (.ref v) :: L) (.ref v :: st) w cn sn := w_aload_n d_137_128 rfl
theorem d_137_129 : decode (mB 137) 129 = .ok (.getfield 20, 3) := by decide +kernel
theorem s_137_129 {d : Nat} {Q : wQ} {L : List (Option Value)} {st : List Value} {w : aw} {cn sn : Nat} {a : Nat} : wp d 137 Q 129 L (.ref a :: st) w cn sn = (kd w a = 9 ∧ wp d 137 Q 132 L (fd w 525 a :: st) w cn sn) := w_getfield d_137_129 (by decide +kernel : fT (mO 137) 20 = some (8, 13))
theorem d_137_132 : decode (mB 137) 132 = .ok (.iload_n 1, 1) := by decide +kernel
theorem s_137_132 {d : Nat} {Q : wQ} {L : List (Option Value)} {st : List Value} {w : aw} {cn sn : Nat} {a0 : Option Value} {v : Int32} : wp d 137 Q 132 (a0 :: some (.int v) :: L) st w cn sn = wp d 137 Q 133 (a0 :: some (.int v) :: L) (.int v :: st) w cn sn := w_iload_n d_137_132 rfl
theorem d_137_133 : decode (mB 137) 133 = .ok (.iaload, 1) := by decide +kernel
theorem s_137_133 {d : Nat} {Q : wQ} {L : List (Option Value)} {st : List Value} {w : aw} {cn sn : Nat} {a : Nat} {i : Int32} : wp d 137 Q 133 L (.int i :: .ref a :: st) w cn sn = ((kd w a = 20 ∨ kd w a = 30) ∧ inR i (ln w a) ∧ wp d 137 Q 134 L (.int (ai w a i.toNatClampNeg) :: st) w cn sn) := wp_row d_137_133 _ _ _ _ _
theorem d_137_134 : decode (mB 137) 134 = .ok (.ireturn, 1) := by decide +kernel
theorem s_137_134 {d : Nat} {Q : wQ} {L : List (Option Value)} {w : aw} {cn sn : Nat} {v : Int32} : wp d 137 Q 134 L [.int v] w cn sn = Q (some (.int v)) w := w_ireturn d_137_134 rfl
theorem d_137_135 : decode (mB 137) 135 = .ok (.aload_n 0, 1) := by decide +kernel
theorem s_137_135 {d : Nat} {Q : wQ} {L : List (Option Value)} {st : List Value} {w : aw} {cn sn : Nat} {v : Nat} : wp d 137 Q 135 (some (.ref v) :: L) st w cn sn = wp d 137 Q 136 (some (.ref v) :: L) (.ref v :: st) w cn sn := w_aload_n d_137_135 rfl
theorem d_137_136 : decode (mB 137) 136 = .ok (.getfield 69, 3) := by decide +kernel
theorem s_137_136 {d : Nat} {Q : wQ} {L : List (Option Value)} {st : List Value} {w : aw} {cn sn : Nat} {a : Nat} : wp d 137 Q 136 L (.ref a :: st) w cn sn = (kd w a = 9 ∧ wp d 137 Q 139 L (fd w 541 a :: st) w cn sn) := w_getfield d_137_136 (by decide +kernel : fT (mO 137) 69 = some (8, 29))
theorem d_137_139 : decode (mB 137) 139 = .ok (.iload_n 1, 1) := by decide +kernel
theorem s_137_139 {d : Nat} {Q : wQ} {L : List (Option Value)} {st : List Value} {w : aw} {cn sn : Nat} {a0 : Option Value} {v : Int32} : wp d 137 Q 139 (a0 :: some (.int v) :: L) st w cn sn = wp d 137 Q 140 (a0 :: some (.int v) :: L) (.int v :: st) w cn sn := w_iload_n d_137_139 rfl
theorem d_137_140 : decode (mB 137) 140 = .ok (.iaload, 1) := by decide +kernel
theorem s_137_140 {d : Nat} {Q : wQ} {L : List (Option Value)} {st : List Value} {w : aw} {cn sn : Nat} {a : Nat} {i : Int32} : wp d 137 Q 140 L (.int i :: .ref a :: st) w cn sn = ((kd w a = 20 ∨ kd w a = 30) ∧ inR i (ln w a) ∧ wp d 137 Q 141 L (.int (ai w a i.toNatClampNeg) :: st) w cn sn) := wp_row d_137_140 _ _ _ _ _
theorem d_137_141 : decode (mB 137) 141 = .ok (.ireturn, 1) := by decide +kernel
theorem s_137_141 {d : Nat} {Q : wQ} {L : List (Option Value)} {w : aw} {cn sn : Nat} {v : Int32} : wp d 137 Q 141 L [.int v] w cn sn = Q (some (.int v)) w := w_ireturn d_137_141 rfl
theorem d_137_142 : decode (mB 137) 142 = .ok (.iload_n 1, 1) := by decide +kernel
theorem s_137_142 {d : Nat} {Q : wQ} {L : List (Option Value)} {st : List Value} {w : aw} {cn sn : Nat} {a0 : Option Value} {v : Int32} : wp d 137 Q 142 (a0 :: some (.int v) :: L) st w cn sn = wp d 137 Q 143 (a0 :: some (.int v) :: L) (.int v :: st) w cn sn := w_iload_n d_137_142 rfl
theorem d_137_143 : decode (mB 137) 143 = .ok (.aload_n 0, 1) := by decide +kernel
theorem s_137_143 {d : Nat} {Q : wQ} {L : List (Option Value)} {st : List Value} {w : aw} {cn sn : Nat} {v : Nat} : wp d 137 Q 143 (some (.ref v) :: L) st w cn sn = wp d 137 Q 144 (some (.ref v) :: L) (.ref v :: st) w cn sn := w_aload_n d_137_143 rfl
theorem d_137_144 : decode (mB 137) 144 = .ok (.getfield 13, 3) := by decide +kernel
theorem s_137_144 {d : Nat} {Q : wQ} {L : List (Option Value)} {st : List Value} {w : aw} {cn sn : Nat} {a : Nat} : wp d 137 Q 144 L (.ref a :: st) w cn sn = (kd w a = 9 ∧ wp d 137 Q 147 L (fd w 521 a :: st) w cn sn) := w_getfield d_137_144 (by decide +kernel : fT (mO 137) 13 = some (8, 9))
theorem d_137_147 : decode (mB 137) 147 = .ok (.if_icmp .ne 10, 3) := by decide +kernel
theorem s_137_147 {d : Nat} {Q : wQ} {L : List (Option Value)} {st : List Value} {w : aw} {cn sn : Nat} {a b : Int32} : wp d 137 Q 147 L (.int b :: .int a :: st) w cn sn = ((¬ a = b → wp d 137 Q 157 L st w cn sn) ∧ (a = b → wp d 137 Q 150 L st w cn sn)) := w_icne d_137_147 (by decide)
theorem d_137_150 : decode (mB 137) 150 = .ok (.aload_n 0, 1) := by decide +kernel
theorem s_137_150 {d : Nat} {Q : wQ} {L : List (Option Value)} {st : List Value} {w : aw} {cn sn : Nat} {v : Nat} : wp d 137 Q 150 (some (.ref v) :: L) st w cn sn = wp d 137 Q 151 (some (.ref v) :: L) (.ref v :: st) w cn sn := w_aload_n d_137_150 rfl
theorem d_137_151 : decode (mB 137) 151 = .ok (.getfield 153, 3) := by decide +kernel
theorem s_137_151 {d : Nat} {Q : wQ} {L : List (Option Value)} {st : List Value} {w : aw} {cn sn : Nat} {a : Nat} : wp d 137 Q 151 L (.ref a :: st) w cn sn = (kd w a = 9 ∧ wp d 137 Q 154 L (fd w 522 a :: st) w cn sn) := w_getfield d_137_151 (by decide +kernel : fT (mO 137) 153 = some (8, 10))
theorem d_137_154 : decode (mB 137) 154 = .ok (.goto 4, 3) := by decide +kernel
theorem s_137_154 {d : Nat} {Q : wQ} {L : List (Option Value)} {st : List Value} {w : aw} {cn sn : Nat}  : wp d 137 Q 154 L st w cn sn = wp d 137 Q 158 L st w cn sn := w_goto d_137_154 (by decide)
theorem d_137_157 : decode (mB 137) 157 = .ok (.iconst 0, 1) := by decide +kernel
theorem s_137_157 {d : Nat} {Q : wQ} {L : List (Option Value)} {st : List Value} {w : aw} {cn sn : Nat}  : wp d 137 Q 157 L st w cn sn = wp d 137 Q 158 L (.int 0 :: st) w cn sn := w_iconst d_137_157 (by decide)
theorem d_137_158 : decode (mB 137) 158 = .ok (.ireturn, 1) := by decide +kernel
theorem s_137_158 {d : Nat} {Q : wQ} {L : List (Option Value)} {w : aw} {cn sn : Nat} {v : Int32} : wp d 137 Q 158 L [.int v] w cn sn = Q (some (.int v)) w := w_ireturn d_137_158 rfl
theorem d_137_159 : decode (mB 137) 159 = .ok (.aload_n 0, 1) := by decide +kernel
theorem s_137_159 {d : Nat} {Q : wQ} {L : List (Option Value)} {st : List Value} {w : aw} {cn sn : Nat} {v : Nat} : wp d 137 Q 159 (some (.ref v) :: L) st w cn sn = wp d 137 Q 160 (some (.ref v) :: L) (.ref v :: st) w cn sn := w_aload_n d_137_159 rfl
theorem d_137_160 : decode (mB 137) 160 = .ok (.getfield 51, 3) := by decide +kernel
theorem s_137_160 {d : Nat} {Q : wQ} {L : List (Option Value)} {st : List Value} {w : aw} {cn sn : Nat} {a : Nat} : wp d 137 Q 160 L (.ref a :: st) w cn sn = (kd w a = 9 ∧ wp d 137 Q 163 L (fd w 535 a :: st) w cn sn) := w_getfield d_137_160 (by decide +kernel : fT (mO 137) 51 = some (8, 23))
theorem d_137_163 : decode (mB 137) 163 = .ok (.iload_n 1, 1) := by decide +kernel
theorem s_137_163 {d : Nat} {Q : wQ} {L : List (Option Value)} {st : List Value} {w : aw} {cn sn : Nat} {a0 : Option Value} {v : Int32} : wp d 137 Q 163 (a0 :: some (.int v) :: L) st w cn sn = wp d 137 Q 164 (a0 :: some (.int v) :: L) (.int v :: st) w cn sn := w_iload_n d_137_163 rfl
theorem d_137_164 : decode (mB 137) 164 = .ok (.iaload, 1) := by decide +kernel
theorem s_137_164 {d : Nat} {Q : wQ} {L : List (Option Value)} {st : List Value} {w : aw} {cn sn : Nat} {a : Nat} {i : Int32} : wp d 137 Q 164 L (.int i :: .ref a :: st) w cn sn = ((kd w a = 20 ∨ kd w a = 30) ∧ inR i (ln w a) ∧ wp d 137 Q 165 L (.int (ai w a i.toNatClampNeg) :: st) w cn sn) := wp_row d_137_164 _ _ _ _ _
theorem d_137_165 : decode (mB 137) 165 = .ok (.ireturn, 1) := by decide +kernel
theorem s_137_165 {d : Nat} {Q : wQ} {L : List (Option Value)} {w : aw} {cn sn : Nat} {v : Int32} : wp d 137 Q 165 L [.int v] w cn sn = Q (some (.int v)) w := w_ireturn d_137_165 rfl
theorem d_137_166 : decode (mB 137) 166 = .ok (.iconst (-1), 1) := by decide +kernel
theorem s_137_166 {d : Nat} {Q : wQ} {L : List (Option Value)} {st : List Value} {w : aw} {cn sn : Nat}  : wp d 137 Q 166 L st w cn sn = wp d 137 Q 167 L (.int (-1) :: st) w cn sn := w_iconst d_137_166 (by decide)
theorem d_137_167 : decode (mB 137) 167 = .ok (.ireturn, 1) := by decide +kernel
theorem s_137_167 {d : Nat} {Q : wQ} {L : List (Option Value)} {w : aw} {cn sn : Nat} {v : Int32} : wp d 137 Q 167 L [.int v] w cn sn = Q (some (.int v)) w := w_ireturn d_137_167 rfl
theorem d_138_0 : decode (mB 138) 0 = .ok (.aload_n 0, 1) := by decide +kernel
theorem s_138_0 {d : Nat} {Q : wQ} {L : List (Option Value)} {st : List Value} {w : aw} {cn sn : Nat} {v : Nat} : wp d 138 Q 0 (some (.ref v) :: L) st w cn sn = wp d 138 Q 1 (some (.ref v) :: L) (.ref v :: st) w cn sn := w_aload_n d_138_0 rfl
theorem d_138_1 : decode (mB 138) 1 = .ok (.iload_n 1, 1) := by decide +kernel
theorem s_138_1 {d : Nat} {Q : wQ} {L : List (Option Value)} {st : List Value} {w : aw} {cn sn : Nat} {a0 : Option Value} {v : Int32} : wp d 138 Q 1 (a0 :: some (.int v) :: L) st w cn sn = wp d 138 Q 2 (a0 :: some (.int v) :: L) (.int v :: st) w cn sn := w_iload_n d_138_1 rfl
theorem d_138_2 : decode (mB 138) 2 = .ok (.invokevirtual 205, 3) := by decide +kernel
theorem s_138_2 {d : Nat} {Q : wQ} {L : List (Option Value)} {st : List Value} {w : aw} {cn sn : Nat} {v0 : Value} {b : Nat} : wp d 138 Q 2 L (v0 :: .ref b :: st) w cn sn = (kd w b = 9 ∧ catS st ≤ 8 ∧ wpD d 106 [.ref b, v0] w (fun v w' => wp d 138 Q 5 L (v.toList ++ st) w' cn sn)) := w_virtual (As := [v0]) d_138_2 (by decide +kernel : cT (mO 138) 205 = some (0, 106)) rfl (by decide +kernel) rfl (by decide +kernel) rfl
theorem d_138_5 : decode (mB 138) 5 = .ok (.ifCond .eq 52, 3) := by decide +kernel
theorem s_138_5 {d : Nat} {Q : wQ} {L : List (Option Value)} {st : List Value} {w : aw} {cn sn : Nat} {x : Int32} : wp d 138 Q 5 L (.int x :: st) w cn sn = ((x = 0 → wp d 138 Q 57 L st w cn sn) ∧ (¬ x = 0 → wp d 138 Q 8 L st w cn sn)) := w_ifeq d_138_5 (by decide)
theorem d_138_8 : decode (mB 138) 8 = .ok (.iload_n 2, 1) := by decide +kernel
theorem s_138_8 {d : Nat} {Q : wQ} {L : List (Option Value)} {st : List Value} {w : aw} {cn sn : Nat} {a0 a1 : Option Value} {v : Int32} : wp d 138 Q 8 (a0 :: a1 :: some (.int v) :: L) st w cn sn = wp d 138 Q 9 (a0 :: a1 :: some (.int v) :: L) (.int v :: st) w cn sn := w_iload_n d_138_8 rfl
theorem d_138_9 : decode (mB 138) 9 = .ok (.iconst 0, 1) := by decide +kernel
theorem s_138_9 {d : Nat} {Q : wQ} {L : List (Option Value)} {st : List Value} {w : aw} {cn sn : Nat}  : wp d 138 Q 9 L st w cn sn = wp d 138 Q 10 L (.int 0 :: st) w cn sn := w_iconst d_138_9 (by decide)
theorem d_138_10 : decode (mB 138) 10 = .ok (.aload_n 0, 1) := by decide +kernel
theorem s_138_10 {d : Nat} {Q : wQ} {L : List (Option Value)} {st : List Value} {w : aw} {cn sn : Nat} {v : Nat} : wp d 138 Q 10 (some (.ref v) :: L) st w cn sn = wp d 138 Q 11 (some (.ref v) :: L) (.ref v :: st) w cn sn := w_aload_n d_138_10 rfl
theorem d_138_11 : decode (mB 138) 11 = .ok (.getfield 69, 3) := by decide +kernel
theorem s_138_11 {d : Nat} {Q : wQ} {L : List (Option Value)} {st : List Value} {w : aw} {cn sn : Nat} {a : Nat} : wp d 138 Q 11 L (.ref a :: st) w cn sn = (kd w a = 9 ∧ wp d 138 Q 14 L (fd w 541 a :: st) w cn sn) := w_getfield d_138_11 (by decide +kernel : fT (mO 138) 69 = some (8, 29))
theorem d_138_14 : decode (mB 138) 14 = .ok (.iload_n 1, 1) := by decide +kernel
theorem s_138_14 {d : Nat} {Q : wQ} {L : List (Option Value)} {st : List Value} {w : aw} {cn sn : Nat} {a0 : Option Value} {v : Int32} : wp d 138 Q 14 (a0 :: some (.int v) :: L) st w cn sn = wp d 138 Q 15 (a0 :: some (.int v) :: L) (.int v :: st) w cn sn := w_iload_n d_138_14 rfl
theorem d_138_15 : decode (mB 138) 15 = .ok (.iaload, 1) := by decide +kernel
theorem s_138_15 {d : Nat} {Q : wQ} {L : List (Option Value)} {st : List Value} {w : aw} {cn sn : Nat} {a : Nat} {i : Int32} : wp d 138 Q 15 L (.int i :: .ref a :: st) w cn sn = ((kd w a = 20 ∨ kd w a = 30) ∧ inR i (ln w a) ∧ wp d 138 Q 16 L (.int (ai w a i.toNatClampNeg) :: st) w cn sn) := wp_row d_138_15 _ _ _ _ _
theorem d_138_16 : decode (mB 138) 16 = .ok (.iconst 1, 1) := by decide +kernel
theorem s_138_16 {d : Nat} {Q : wQ} {L : List (Option Value)} {st : List Value} {w : aw} {cn sn : Nat}  : wp d 138 Q 16 L st w cn sn = wp d 138 Q 17 L (.int 1 :: st) w cn sn := w_iconst d_138_16 (by decide)
theorem d_138_17 : decode (mB 138) 17 = .ok (.isub, 1) := by decide +kernel
theorem s_138_17 {d : Nat} {Q : wQ} {L : List (Option Value)} {st : List Value} {w : aw} {cn sn : Nat} {a b : Int32} : wp d 138 Q 17 L (.int b :: .int a :: st) w cn sn = wp d 138 Q 18 L (.int (a - b) :: st) w cn sn := wp_row d_138_17 _ _ _ _ _
theorem d_138_18 : decode (mB 138) 18 = .ok (.invokestatic 111, 3) := by decide +kernel
theorem s_138_18 {d : Nat} {Q : wQ} {L : List (Option Value)} {st : List Value} {w : aw} {cn sn : Nat} {v0 v1 v2 : Value} : wp d 138 Q 18 L (v2 :: v1 :: v0 :: st) w cn sn = (catS st ≤ 8 ∧ wpD d 105 [v0, v1, v2] w (fun v w' => wp d 138 Q 21 L (v.toList ++ st) w' cn sn)) := w_static (As := [v0, v1, v2]) d_138_18 (by decide +kernel : cT (mO 138) 111 = some (2, 105)) (by decide +kernel) rfl (by decide +kernel) rfl
theorem d_138_21 : decode (mB 138) 21 = .ok (.ifCond .eq 36, 3) := by decide +kernel
theorem s_138_21 {d : Nat} {Q : wQ} {L : List (Option Value)} {st : List Value} {w : aw} {cn sn : Nat} {x : Int32} : wp d 138 Q 21 L (.int x :: st) w cn sn = ((x = 0 → wp d 138 Q 57 L st w cn sn) ∧ (¬ x = 0 → wp d 138 Q 24 L st w cn sn)) := w_ifeq d_138_21 (by decide)
theorem d_138_24 : decode (mB 138) 24 = .ok (.iload_n 2, 1) := by decide +kernel
theorem s_138_24 {d : Nat} {Q : wQ} {L : List (Option Value)} {st : List Value} {w : aw} {cn sn : Nat} {a0 a1 : Option Value} {v : Int32} : wp d 138 Q 24 (a0 :: a1 :: some (.int v) :: L) st w cn sn = wp d 138 Q 25 (a0 :: a1 :: some (.int v) :: L) (.int v :: st) w cn sn := w_iload_n d_138_24 rfl
theorem d_138_25 : decode (mB 138) 25 = .ok (.aload_n 0, 1) := by decide +kernel
theorem s_138_25 {d : Nat} {Q : wQ} {L : List (Option Value)} {st : List Value} {w : aw} {cn sn : Nat} {v : Nat} : wp d 138 Q 25 (some (.ref v) :: L) st w cn sn = wp d 138 Q 26 (some (.ref v) :: L) (.ref v :: st) w cn sn := w_aload_n d_138_25 rfl
theorem d_138_26 : decode (mB 138) 26 = .ok (.getfield 69, 3) := by decide +kernel
theorem s_138_26 {d : Nat} {Q : wQ} {L : List (Option Value)} {st : List Value} {w : aw} {cn sn : Nat} {a : Nat} : wp d 138 Q 26 L (.ref a :: st) w cn sn = (kd w a = 9 ∧ wp d 138 Q 29 L (fd w 541 a :: st) w cn sn) := w_getfield d_138_26 (by decide +kernel : fT (mO 138) 69 = some (8, 29))
theorem d_138_29 : decode (mB 138) 29 = .ok (.iload_n 1, 1) := by decide +kernel
theorem s_138_29 {d : Nat} {Q : wQ} {L : List (Option Value)} {st : List Value} {w : aw} {cn sn : Nat} {a0 : Option Value} {v : Int32} : wp d 138 Q 29 (a0 :: some (.int v) :: L) st w cn sn = wp d 138 Q 30 (a0 :: some (.int v) :: L) (.int v :: st) w cn sn := w_iload_n d_138_29 rfl
theorem d_138_30 : decode (mB 138) 30 = .ok (.iaload, 1) := by decide +kernel
theorem s_138_30 {d : Nat} {Q : wQ} {L : List (Option Value)} {st : List Value} {w : aw} {cn sn : Nat} {a : Nat} {i : Int32} : wp d 138 Q 30 L (.int i :: .ref a :: st) w cn sn = ((kd w a = 20 ∨ kd w a = 30) ∧ inR i (ln w a) ∧ wp d 138 Q 31 L (.int (ai w a i.toNatClampNeg) :: st) w cn sn) := wp_row d_138_30 _ _ _ _ _
theorem d_138_31 : decode (mB 138) 31 = .ok (.sipush 512, 3) := by decide +kernel
theorem s_138_31 {d : Nat} {Q : wQ} {L : List (Option Value)} {st : List Value} {w : aw} {cn sn : Nat}  : wp d 138 Q 31 L st w cn sn = wp d 138 Q 34 L (.int 512 :: st) w cn sn := w_sipush d_138_31 (by decide)
theorem d_138_34 : decode (mB 138) 34 = .ok (.isub, 1) := by decide +kernel
theorem s_138_34 {d : Nat} {Q : wQ} {L : List (Option Value)} {st : List Value} {w : aw} {cn sn : Nat} {a b : Int32} : wp d 138 Q 34 L (.int b :: .int a :: st) w cn sn = wp d 138 Q 35 L (.int (a - b) :: st) w cn sn := wp_row d_138_34 _ _ _ _ _
theorem d_138_35 : decode (mB 138) 35 = .ok (.if_icmp .lt 22, 3) := by decide +kernel
theorem s_138_35 {d : Nat} {Q : wQ} {L : List (Option Value)} {st : List Value} {w : aw} {cn sn : Nat} {a b : Int32} : wp d 138 Q 35 L (.int b :: .int a :: st) w cn sn = ((a < b → wp d 138 Q 57 L st w cn sn) ∧ (¬ a < b → wp d 138 Q 38 L st w cn sn)) := w_iclt d_138_35 (by decide)
theorem d_138_38 : decode (mB 138) 38 = .ok (.aload_n 0, 1) := by decide +kernel
theorem s_138_38 {d : Nat} {Q : wQ} {L : List (Option Value)} {st : List Value} {w : aw} {cn sn : Nat} {v : Nat} : wp d 138 Q 38 (some (.ref v) :: L) st w cn sn = wp d 138 Q 39 (some (.ref v) :: L) (.ref v :: st) w cn sn := w_aload_n d_138_38 rfl
theorem d_138_39 : decode (mB 138) 39 = .ok (.getfield 66, 3) := by decide +kernel
theorem s_138_39 {d : Nat} {Q : wQ} {L : List (Option Value)} {st : List Value} {w : aw} {cn sn : Nat} {a : Nat} : wp d 138 Q 39 L (.ref a :: st) w cn sn = (kd w a = 9 ∧ wp d 138 Q 42 L (fd w 540 a :: st) w cn sn) := w_getfield d_138_39 (by decide +kernel : fT (mO 138) 66 = some (8, 28))
theorem d_138_42 : decode (mB 138) 42 = .ok (.sipush 512, 3) := by decide +kernel
theorem s_138_42 {d : Nat} {Q : wQ} {L : List (Option Value)} {st : List Value} {w : aw} {cn sn : Nat}  : wp d 138 Q 42 L st w cn sn = wp d 138 Q 45 L (.int 512 :: st) w cn sn := w_sipush d_138_42 (by decide)
theorem d_138_45 : decode (mB 138) 45 = .ok (.iload_n 1, 1) := by decide +kernel
theorem s_138_45 {d : Nat} {Q : wQ} {L : List (Option Value)} {st : List Value} {w : aw} {cn sn : Nat} {a0 : Option Value} {v : Int32} : wp d 138 Q 45 (a0 :: some (.int v) :: L) st w cn sn = wp d 138 Q 46 (a0 :: some (.int v) :: L) (.int v :: st) w cn sn := w_iload_n d_138_45 rfl
theorem d_138_46 : decode (mB 138) 46 = .ok (.imul, 1) := by decide +kernel
theorem s_138_46 {d : Nat} {Q : wQ} {L : List (Option Value)} {st : List Value} {w : aw} {cn sn : Nat} {a b : Int32} : wp d 138 Q 46 L (.int b :: .int a :: st) w cn sn = wp d 138 Q 47 L (.int (a * b) :: st) w cn sn := wp_row d_138_46 _ _ _ _ _
theorem d_138_47 : decode (mB 138) 47 = .ok (.iload_n 2, 1) := by decide +kernel
theorem s_138_47 {d : Nat} {Q : wQ} {L : List (Option Value)} {st : List Value} {w : aw} {cn sn : Nat} {a0 a1 : Option Value} {v : Int32} : wp d 138 Q 47 (a0 :: a1 :: some (.int v) :: L) st w cn sn = wp d 138 Q 48 (a0 :: a1 :: some (.int v) :: L) (.int v :: st) w cn sn := w_iload_n d_138_47 rfl
theorem d_138_48 : decode (mB 138) 48 = .ok (.sipush 512, 3) := by decide +kernel
theorem s_138_48 {d : Nat} {Q : wQ} {L : List (Option Value)} {st : List Value} {w : aw} {cn sn : Nat}  : wp d 138 Q 48 L st w cn sn = wp d 138 Q 51 L (.int 512 :: st) w cn sn := w_sipush d_138_48 (by decide)
theorem d_138_51 : decode (mB 138) 51 = .ok (.irem, 1) := by decide +kernel
theorem s_138_51 {d : Nat} {Q : wQ} {L : List (Option Value)} {st : List Value} {w : aw} {cn sn : Nat} {a b : Int32} : wp d 138 Q 51 L (.int b :: .int a :: st) w cn sn = (¬ b = 0 ∧ wp d 138 Q 52 L (.int (a - a / b * b) :: st) w cn sn) := wp_row d_138_51 _ _ _ _ _
theorem d_138_52 : decode (mB 138) 52 = .ok (.iadd, 1) := by decide +kernel
theorem s_138_52 {d : Nat} {Q : wQ} {L : List (Option Value)} {st : List Value} {w : aw} {cn sn : Nat} {a b : Int32} : wp d 138 Q 52 L (.int b :: .int a :: st) w cn sn = wp d 138 Q 53 L (.int (a + b) :: st) w cn sn := wp_row d_138_52 _ _ _ _ _
theorem d_138_53 : decode (mB 138) 53 = .ok (.iaload, 1) := by decide +kernel
theorem s_138_53 {d : Nat} {Q : wQ} {L : List (Option Value)} {st : List Value} {w : aw} {cn sn : Nat} {a : Nat} {i : Int32} : wp d 138 Q 53 L (.int i :: .ref a :: st) w cn sn = ((kd w a = 20 ∨ kd w a = 30) ∧ inR i (ln w a) ∧ wp d 138 Q 54 L (.int (ai w a i.toNatClampNeg) :: st) w cn sn) := wp_row d_138_53 _ _ _ _ _
theorem d_138_54 : decode (mB 138) 54 = .ok (.goto 4, 3) := by decide +kernel
theorem s_138_54 {d : Nat} {Q : wQ} {L : List (Option Value)} {st : List Value} {w : aw} {cn sn : Nat}  : wp d 138 Q 54 L st w cn sn = wp d 138 Q 58 L st w cn sn := w_goto d_138_54 (by decide)
theorem d_138_57 : decode (mB 138) 57 = .ok (.iconst (-1), 1) := by decide +kernel
theorem s_138_57 {d : Nat} {Q : wQ} {L : List (Option Value)} {st : List Value} {w : aw} {cn sn : Nat}  : wp d 138 Q 57 L st w cn sn = wp d 138 Q 58 L (.int (-1) :: st) w cn sn := w_iconst d_138_57 (by decide)
theorem d_138_58 : decode (mB 138) 58 = .ok (.ireturn, 1) := by decide +kernel
theorem s_138_58 {d : Nat} {Q : wQ} {L : List (Option Value)} {w : aw} {cn sn : Nat} {v : Int32} : wp d 138 Q 58 L [.int v] w cn sn = Q (some (.int v)) w := w_ireturn d_138_58 rfl
