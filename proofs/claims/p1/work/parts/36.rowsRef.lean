theorem d_152_0 : decode (mB 152) 0 = .ok (.aload_n 0, 1) := by decide +kernel
theorem s_152_0 {d : Nat} {Q : wQ} {L : List (Option Value)} {st : List Value} {w : aw} {cn sn : Nat} {v : Nat} : wp d 152 Q 0 (some (.ref v) :: L) st w cn sn = wp d 152 Q 1 (some (.ref v) :: L) (.ref v :: st) w cn sn := w_aload_n d_152_0 rfl
theorem d_152_1 : decode (mB 152) 1 = .ok (.aload_n 0, 1) := by decide +kernel
theorem s_152_1 {d : Nat} {Q : wQ} {L : List (Option Value)} {st : List Value} {w : aw} {cn sn : Nat} {v : Nat} : wp d 152 Q 1 (some (.ref v) :: L) st w cn sn = wp d 152 Q 2 (some (.ref v) :: L) (.ref v :: st) w cn sn := w_aload_n d_152_1 rfl
theorem d_152_2 : decode (mB 152) 2 = .ok (.getfield 231, 3) := by decide +kernel
theorem s_152_2 {d : Nat} {Q : wQ} {L : List (Option Value)} {st : List Value} {w : aw} {cn sn : Nat} {a : Nat} : wp d 152 Q 2 L (.ref a :: st) w cn sn = (kd w a = 9 ∧ wp d 152 Q 5 L (fd w 555 a :: st) w cn sn) := w_getfield d_152_2 (by decide +kernel : fT (mO 152) 231 = some (8, 43))
theorem d_152_5 : decode (mB 152) 5 = .ok (.invokevirtual 243, 3) := by decide +kernel
theorem s_152_5 {d : Nat} {Q : wQ} {L : List (Option Value)} {st : List Value} {w : aw} {cn sn : Nat} {v0 : Value} {b : Nat} : wp d 152 Q 5 L (v0 :: .ref b :: st) w cn sn = (kd w b = 9 ∧ catS st ≤ 8 ∧ wpD d 148 [.ref b, v0] w (fun v w' => wp d 152 Q 8 L (v.toList ++ st) w' cn sn)) := w_virtual (As := [v0]) d_152_5 (by decide +kernel : cT (mO 152) 243 = some (0, 148)) rfl (by decide +kernel) rfl (by decide +kernel) rfl
theorem d_152_8 : decode (mB 152) 8 = .ok (.ifCond .eq 24, 3) := by decide +kernel
theorem s_152_8 {d : Nat} {Q : wQ} {L : List (Option Value)} {st : List Value} {w : aw} {cn sn : Nat} {x : Int32} : wp d 152 Q 8 L (.int x :: st) w cn sn = ((x = 0 → wp d 152 Q 32 L st w cn sn) ∧ (¬ x = 0 → wp d 152 Q 11 L st w cn sn)) := w_ifeq d_152_8 (by decide)
theorem d_152_11 : decode (mB 152) 11 = .ok (.aload_n 0, 1) := by decide +kernel
theorem s_152_11 {d : Nat} {Q : wQ} {L : List (Option Value)} {st : List Value} {w : aw} {cn sn : Nat} {v : Nat} : wp d 152 Q 11 (some (.ref v) :: L) st w cn sn = wp d 152 Q 12 (some (.ref v) :: L) (.ref v :: st) w cn sn := w_aload_n d_152_11 rfl
theorem d_152_12 : decode (mB 152) 12 = .ok (.aload_n 0, 1) := by decide +kernel
theorem s_152_12 {d : Nat} {Q : wQ} {L : List (Option Value)} {st : List Value} {w : aw} {cn sn : Nat} {v : Nat} : wp d 152 Q 12 (some (.ref v) :: L) st w cn sn = wp d 152 Q 13 (some (.ref v) :: L) (.ref v :: st) w cn sn := w_aload_n d_152_12 rfl
theorem d_152_13 : decode (mB 152) 13 = .ok (.aload_n 0, 1) := by decide +kernel
theorem s_152_13 {d : Nat} {Q : wQ} {L : List (Option Value)} {st : List Value} {w : aw} {cn sn : Nat} {v : Nat} : wp d 152 Q 13 (some (.ref v) :: L) st w cn sn = wp d 152 Q 14 (some (.ref v) :: L) (.ref v :: st) w cn sn := w_aload_n d_152_13 rfl
theorem d_152_14 : decode (mB 152) 14 = .ok (.getfield 231, 3) := by decide +kernel
theorem s_152_14 {d : Nat} {Q : wQ} {L : List (Option Value)} {st : List Value} {w : aw} {cn sn : Nat} {a : Nat} : wp d 152 Q 14 L (.ref a :: st) w cn sn = (kd w a = 9 ∧ wp d 152 Q 17 L (fd w 555 a :: st) w cn sn) := w_getfield d_152_14 (by decide +kernel : fT (mO 152) 231 = some (8, 43))
theorem d_152_17 : decode (mB 152) 17 = .ok (.invokevirtual 240, 3) := by decide +kernel
theorem s_152_17 {d : Nat} {Q : wQ} {L : List (Option Value)} {st : List Value} {w : aw} {cn sn : Nat} {v0 : Value} {b : Nat} : wp d 152 Q 17 L (v0 :: .ref b :: st) w cn sn = (kd w b = 9 ∧ catS st ≤ 8 ∧ wpD d 147 [.ref b, v0] w (fun v w' => wp d 152 Q 20 L (v.toList ++ st) w' cn sn)) := w_virtual (As := [v0]) d_152_17 (by decide +kernel : cT (mO 152) 240 = some (0, 147)) rfl (by decide +kernel) rfl (by decide +kernel) rfl
theorem d_152_20 : decode (mB 152) 20 = .ok (.invokevirtual 237, 3) := by decide +kernel
theorem s_152_20 {d : Nat} {Q : wQ} {L : List (Option Value)} {st : List Value} {w : aw} {cn sn : Nat} {v0 : Value} {b : Nat} : wp d 152 Q 20 L (v0 :: .ref b :: st) w cn sn = (kd w b = 9 ∧ catS st ≤ 8 ∧ wpD d 145 [.ref b, v0] w (fun v w' => wp d 152 Q 23 L (v.toList ++ st) w' cn sn)) := w_virtual (As := [v0]) d_152_20 (by decide +kernel : cT (mO 152) 237 = some (0, 145)) rfl (by decide +kernel) rfl (by decide +kernel) rfl
theorem d_152_23 : decode (mB 152) 23 = .ok (.bipush 44, 2) := by decide +kernel
theorem s_152_23 {d : Nat} {Q : wQ} {L : List (Option Value)} {st : List Value} {w : aw} {cn sn : Nat}  : wp d 152 Q 23 L st w cn sn = wp d 152 Q 25 L (.int 44 :: st) w cn sn := w_bipush d_152_23 (by decide)
theorem d_152_25 : decode (mB 152) 25 = .ok (.if_icmp .ne 7, 3) := by decide +kernel
theorem s_152_25 {d : Nat} {Q : wQ} {L : List (Option Value)} {st : List Value} {w : aw} {cn sn : Nat} {a b : Int32} : wp d 152 Q 25 L (.int b :: .int a :: st) w cn sn = ((¬ a = b → wp d 152 Q 32 L st w cn sn) ∧ (a = b → wp d 152 Q 28 L st w cn sn)) := w_icne d_152_25 (by decide)
theorem d_152_28 : decode (mB 152) 28 = .ok (.iconst 1, 1) := by decide +kernel
theorem s_152_28 {d : Nat} {Q : wQ} {L : List (Option Value)} {st : List Value} {w : aw} {cn sn : Nat}  : wp d 152 Q 28 L st w cn sn = wp d 152 Q 29 L (.int 1 :: st) w cn sn := w_iconst d_152_28 (by decide)
theorem d_152_29 : decode (mB 152) 29 = .ok (.goto 4, 3) := by decide +kernel
theorem s_152_29 {d : Nat} {Q : wQ} {L : List (Option Value)} {st : List Value} {w : aw} {cn sn : Nat}  : wp d 152 Q 29 L st w cn sn = wp d 152 Q 33 L st w cn sn := w_goto d_152_29 (by decide)
theorem d_152_32 : decode (mB 152) 32 = .ok (.iconst 0, 1) := by decide +kernel
theorem s_152_32 {d : Nat} {Q : wQ} {L : List (Option Value)} {st : List Value} {w : aw} {cn sn : Nat}  : wp d 152 Q 32 L st w cn sn = wp d 152 Q 33 L (.int 0 :: st) w cn sn := w_iconst d_152_32 (by decide)
theorem d_152_33 : decode (mB 152) 33 = .ok (.ireturn, 1) := by decide +kernel
theorem s_152_33 {d : Nat} {Q : wQ} {L : List (Option Value)} {w : aw} {cn sn : Nat} {v : Int32} : wp d 152 Q 33 L [.int v] w cn sn = (narrow .boolean (.int v) = .int v ∧ Q (some (.int v)) w) := w_zreturn d_152_33 rfl
theorem d_153_0 : decode (mB 153) 0 = .ok (.aload_n 0, 1) := by decide +kernel
theorem s_153_0 {d : Nat} {Q : wQ} {L : List (Option Value)} {st : List Value} {w : aw} {cn sn : Nat} {v : Nat} : wp d 153 Q 0 (some (.ref v) :: L) st w cn sn = wp d 153 Q 1 (some (.ref v) :: L) (.ref v :: st) w cn sn := w_aload_n d_153_0 rfl
theorem d_153_1 : decode (mB 153) 1 = .ok (.aload_n 0, 1) := by decide +kernel
theorem s_153_1 {d : Nat} {Q : wQ} {L : List (Option Value)} {st : List Value} {w : aw} {cn sn : Nat} {v : Nat} : wp d 153 Q 1 (some (.ref v) :: L) st w cn sn = wp d 153 Q 2 (some (.ref v) :: L) (.ref v :: st) w cn sn := w_aload_n d_153_1 rfl
theorem d_153_2 : decode (mB 153) 2 = .ok (.getfield 231, 3) := by decide +kernel
theorem s_153_2 {d : Nat} {Q : wQ} {L : List (Option Value)} {st : List Value} {w : aw} {cn sn : Nat} {a : Nat} : wp d 153 Q 2 L (.ref a :: st) w cn sn = (kd w a = 9 ∧ wp d 153 Q 5 L (fd w 555 a :: st) w cn sn) := w_getfield d_153_2 (by decide +kernel : fT (mO 153) 231 = some (8, 43))
theorem d_153_5 : decode (mB 153) 5 = .ok (.invokevirtual 243, 3) := by decide +kernel
theorem s_153_5 {d : Nat} {Q : wQ} {L : List (Option Value)} {st : List Value} {w : aw} {cn sn : Nat} {v0 : Value} {b : Nat} : wp d 153 Q 5 L (v0 :: .ref b :: st) w cn sn = (kd w b = 9 ∧ catS st ≤ 8 ∧ wpD d 148 [.ref b, v0] w (fun v w' => wp d 153 Q 8 L (v.toList ++ st) w' cn sn)) := w_virtual (As := [v0]) d_153_5 (by decide +kernel : cT (mO 153) 243 = some (0, 148)) rfl (by decide +kernel) rfl (by decide +kernel) rfl
theorem d_153_8 : decode (mB 153) 8 = .ok (.ifCond .eq 24, 3) := by decide +kernel
theorem s_153_8 {d : Nat} {Q : wQ} {L : List (Option Value)} {st : List Value} {w : aw} {cn sn : Nat} {x : Int32} : wp d 153 Q 8 L (.int x :: st) w cn sn = ((x = 0 → wp d 153 Q 32 L st w cn sn) ∧ (¬ x = 0 → wp d 153 Q 11 L st w cn sn)) := w_ifeq d_153_8 (by decide)
theorem d_153_11 : decode (mB 153) 11 = .ok (.aload_n 0, 1) := by decide +kernel
theorem s_153_11 {d : Nat} {Q : wQ} {L : List (Option Value)} {st : List Value} {w : aw} {cn sn : Nat} {v : Nat} : wp d 153 Q 11 (some (.ref v) :: L) st w cn sn = wp d 153 Q 12 (some (.ref v) :: L) (.ref v :: st) w cn sn := w_aload_n d_153_11 rfl
theorem d_153_12 : decode (mB 153) 12 = .ok (.aload_n 0, 1) := by decide +kernel
theorem s_153_12 {d : Nat} {Q : wQ} {L : List (Option Value)} {st : List Value} {w : aw} {cn sn : Nat} {v : Nat} : wp d 153 Q 12 (some (.ref v) :: L) st w cn sn = wp d 153 Q 13 (some (.ref v) :: L) (.ref v :: st) w cn sn := w_aload_n d_153_12 rfl
theorem d_153_13 : decode (mB 153) 13 = .ok (.aload_n 0, 1) := by decide +kernel
theorem s_153_13 {d : Nat} {Q : wQ} {L : List (Option Value)} {st : List Value} {w : aw} {cn sn : Nat} {v : Nat} : wp d 153 Q 13 (some (.ref v) :: L) st w cn sn = wp d 153 Q 14 (some (.ref v) :: L) (.ref v :: st) w cn sn := w_aload_n d_153_13 rfl
theorem d_153_14 : decode (mB 153) 14 = .ok (.getfield 231, 3) := by decide +kernel
theorem s_153_14 {d : Nat} {Q : wQ} {L : List (Option Value)} {st : List Value} {w : aw} {cn sn : Nat} {a : Nat} : wp d 153 Q 14 L (.ref a :: st) w cn sn = (kd w a = 9 ∧ wp d 153 Q 17 L (fd w 555 a :: st) w cn sn) := w_getfield d_153_14 (by decide +kernel : fT (mO 153) 231 = some (8, 43))
theorem d_153_17 : decode (mB 153) 17 = .ok (.invokevirtual 240, 3) := by decide +kernel
theorem s_153_17 {d : Nat} {Q : wQ} {L : List (Option Value)} {st : List Value} {w : aw} {cn sn : Nat} {v0 : Value} {b : Nat} : wp d 153 Q 17 L (v0 :: .ref b :: st) w cn sn = (kd w b = 9 ∧ catS st ≤ 8 ∧ wpD d 147 [.ref b, v0] w (fun v w' => wp d 153 Q 20 L (v.toList ++ st) w' cn sn)) := w_virtual (As := [v0]) d_153_17 (by decide +kernel : cT (mO 153) 240 = some (0, 147)) rfl (by decide +kernel) rfl (by decide +kernel) rfl
theorem d_153_20 : decode (mB 153) 20 = .ok (.invokevirtual 237, 3) := by decide +kernel
theorem s_153_20 {d : Nat} {Q : wQ} {L : List (Option Value)} {st : List Value} {w : aw} {cn sn : Nat} {v0 : Value} {b : Nat} : wp d 153 Q 20 L (v0 :: .ref b :: st) w cn sn = (kd w b = 9 ∧ catS st ≤ 8 ∧ wpD d 145 [.ref b, v0] w (fun v w' => wp d 153 Q 23 L (v.toList ++ st) w' cn sn)) := w_virtual (As := [v0]) d_153_20 (by decide +kernel : cT (mO 153) 237 = some (0, 145)) rfl (by decide +kernel) rfl (by decide +kernel) rfl
theorem d_153_23 : decode (mB 153) 23 = .ok (.bipush 61, 2) := by decide +kernel
theorem s_153_23 {d : Nat} {Q : wQ} {L : List (Option Value)} {st : List Value} {w : aw} {cn sn : Nat}  : wp d 153 Q 23 L st w cn sn = wp d 153 Q 25 L (.int 61 :: st) w cn sn := w_bipush d_153_23 (by decide)
theorem d_153_25 : decode (mB 153) 25 = .ok (.if_icmp .ne 7, 3) := by decide +kernel
theorem s_153_25 {d : Nat} {Q : wQ} {L : List (Option Value)} {st : List Value} {w : aw} {cn sn : Nat} {a b : Int32} : wp d 153 Q 25 L (.int b :: .int a :: st) w cn sn = ((¬ a = b → wp d 153 Q 32 L st w cn sn) ∧ (a = b → wp d 153 Q 28 L st w cn sn)) := w_icne d_153_25 (by decide)
theorem d_153_28 : decode (mB 153) 28 = .ok (.iconst 1, 1) := by decide +kernel
theorem s_153_28 {d : Nat} {Q : wQ} {L : List (Option Value)} {st : List Value} {w : aw} {cn sn : Nat}  : wp d 153 Q 28 L st w cn sn = wp d 153 Q 29 L (.int 1 :: st) w cn sn := w_iconst d_153_28 (by decide)
theorem d_153_29 : decode (mB 153) 29 = .ok (.goto 4, 3) := by decide +kernel
theorem s_153_29 {d : Nat} {Q : wQ} {L : List (Option Value)} {st : List Value} {w : aw} {cn sn : Nat}  : wp d 153 Q 29 L st w cn sn = wp d 153 Q 33 L st w cn sn := w_goto d_153_29 (by decide)
theorem d_153_32 : decode (mB 153) 32 = .ok (.iconst 0, 1) := by decide +kernel
theorem s_153_32 {d : Nat} {Q : wQ} {L : List (Option Value)} {st : List Value} {w : aw} {cn sn : Nat}  : wp d 153 Q 32 L st w cn sn = wp d 153 Q 33 L (.int 0 :: st) w cn sn := w_iconst d_153_32 (by decide)
theorem d_153_33 : decode (mB 153) 33 = .ok (.ireturn, 1) := by decide +kernel
theorem s_153_33 {d : Nat} {Q : wQ} {L : List (Option Value)} {w : aw} {cn sn : Nat} {v : Int32} : wp d 153 Q 33 L [.int v] w cn sn = (narrow .boolean (.int v) = .int v ∧ Q (some (.int v)) w) := w_zreturn d_153_33 rfl
theorem d_154_0 : decode (mB 154) 0 = .ok (.aload_n 0, 1) := by decide +kernel
theorem s_154_0 {d : Nat} {Q : wQ} {L : List (Option Value)} {st : List Value} {w : aw} {cn sn : Nat} {v : Nat} : wp d 154 Q 0 (some (.ref v) :: L) st w cn sn = wp d 154 Q 1 (some (.ref v) :: L) (.ref v :: st) w cn sn := w_aload_n d_154_0 rfl
theorem d_154_1 : decode (mB 154) 1 = .ok (.aload_n 0, 1) := by decide +kernel
theorem s_154_1 {d : Nat} {Q : wQ} {L : List (Option Value)} {st : List Value} {w : aw} {cn sn : Nat} {v : Nat} : wp d 154 Q 1 (some (.ref v) :: L) st w cn sn = wp d 154 Q 2 (some (.ref v) :: L) (.ref v :: st) w cn sn := w_aload_n d_154_1 rfl
theorem d_154_2 : decode (mB 154) 2 = .ok (.getfield 231, 3) := by decide +kernel
theorem s_154_2 {d : Nat} {Q : wQ} {L : List (Option Value)} {st : List Value} {w : aw} {cn sn : Nat} {a : Nat} : wp d 154 Q 2 L (.ref a :: st) w cn sn = (kd w a = 9 ∧ wp d 154 Q 5 L (fd w 555 a :: st) w cn sn) := w_getfield d_154_2 (by decide +kernel : fT (mO 154) 231 = some (8, 43))
theorem d_154_5 : decode (mB 154) 5 = .ok (.invokevirtual 237, 3) := by decide +kernel
theorem s_154_5 {d : Nat} {Q : wQ} {L : List (Option Value)} {st : List Value} {w : aw} {cn sn : Nat} {v0 : Value} {b : Nat} : wp d 154 Q 5 L (v0 :: .ref b :: st) w cn sn = (kd w b = 9 ∧ catS st ≤ 8 ∧ wpD d 145 [.ref b, v0] w (fun v w' => wp d 154 Q 8 L (v.toList ++ st) w' cn sn)) := w_virtual (As := [v0]) d_154_5 (by decide +kernel : cT (mO 154) 237 = some (0, 145)) rfl (by decide +kernel) rfl (by decide +kernel) rfl
theorem d_154_8 : decode (mB 154) 8 = .ok (.bipush 73, 2) := by decide +kernel
theorem s_154_8 {d : Nat} {Q : wQ} {L : List (Option Value)} {st : List Value} {w : aw} {cn sn : Nat}  : wp d 154 Q 8 L st w cn sn = wp d 154 Q 10 L (.int 73 :: st) w cn sn := w_bipush d_154_8 (by decide)
theorem d_154_10 : decode (mB 154) 10 = .ok (.if_icmp .ne 20, 3) := by decide +kernel
theorem s_154_10 {d : Nat} {Q : wQ} {L : List (Option Value)} {st : List Value} {w : aw} {cn sn : Nat} {a b : Int32} : wp d 154 Q 10 L (.int b :: .int a :: st) w cn sn = ((¬ a = b → wp d 154 Q 30 L st w cn sn) ∧ (a = b → wp d 154 Q 13 L st w cn sn)) := w_icne d_154_10 (by decide)
theorem d_154_13 : decode (mB 154) 13 = .ok (.aload_n 0, 1) := by decide +kernel
theorem s_154_13 {d : Nat} {Q : wQ} {L : List (Option Value)} {st : List Value} {w : aw} {cn sn : Nat} {v : Nat} : wp d 154 Q 13 (some (.ref v) :: L) st w cn sn = wp d 154 Q 14 (some (.ref v) :: L) (.ref v :: st) w cn sn := w_aload_n d_154_13 rfl
theorem d_154_14 : decode (mB 154) 14 = .ok (.aload_n 0, 1) := by decide +kernel
theorem s_154_14 {d : Nat} {Q : wQ} {L : List (Option Value)} {st : List Value} {w : aw} {cn sn : Nat} {v : Nat} : wp d 154 Q 14 (some (.ref v) :: L) st w cn sn = wp d 154 Q 15 (some (.ref v) :: L) (.ref v :: st) w cn sn := w_aload_n d_154_14 rfl
theorem d_154_15 : decode (mB 154) 15 = .ok (.getfield 231, 3) := by decide +kernel
theorem s_154_15 {d : Nat} {Q : wQ} {L : List (Option Value)} {st : List Value} {w : aw} {cn sn : Nat} {a : Nat} : wp d 154 Q 15 L (.ref a :: st) w cn sn = (kd w a = 9 ∧ wp d 154 Q 18 L (fd w 555 a :: st) w cn sn) := w_getfield d_154_15 (by decide +kernel : fT (mO 154) 231 = some (8, 43))
theorem d_154_18 : decode (mB 154) 18 = .ok (.invokevirtual 240, 3) := by decide +kernel
theorem s_154_18 {d : Nat} {Q : wQ} {L : List (Option Value)} {st : List Value} {w : aw} {cn sn : Nat} {v0 : Value} {b : Nat} : wp d 154 Q 18 L (v0 :: .ref b :: st) w cn sn = (kd w b = 9 ∧ catS st ≤ 8 ∧ wpD d 147 [.ref b, v0] w (fun v w' => wp d 154 Q 21 L (v.toList ++ st) w' cn sn)) := w_virtual (As := [v0]) d_154_18 (by decide +kernel : cT (mO 154) 240 = some (0, 147)) rfl (by decide +kernel) rfl (by decide +kernel) rfl
theorem d_154_21 : decode (mB 154) 21 = .ok (.aload_n 0, 1) := by decide +kernel
theorem s_154_21 {d : Nat} {Q : wQ} {L : List (Option Value)} {st : List Value} {w : aw} {cn sn : Nat} {v : Nat} : wp d 154 Q 21 (some (.ref v) :: L) st w cn sn = wp d 154 Q 22 (some (.ref v) :: L) (.ref v :: st) w cn sn := w_aload_n d_154_21 rfl
theorem d_154_22 : decode (mB 154) 22 = .ok (.getfield 231, 3) := by decide +kernel
theorem s_154_22 {d : Nat} {Q : wQ} {L : List (Option Value)} {st : List Value} {w : aw} {cn sn : Nat} {a : Nat} : wp d 154 Q 22 L (.ref a :: st) w cn sn = (kd w a = 9 ∧ wp d 154 Q 25 L (fd w 555 a :: st) w cn sn) := w_getfield d_154_22 (by decide +kernel : fT (mO 154) 231 = some (8, 43))
theorem d_154_25 : decode (mB 154) 25 = .ok (.iconst 1, 1) := by decide +kernel
theorem s_154_25 {d : Nat} {Q : wQ} {L : List (Option Value)} {st : List Value} {w : aw} {cn sn : Nat}  : wp d 154 Q 25 L st w cn sn = wp d 154 Q 26 L (.int 1 :: st) w cn sn := w_iconst d_154_25 (by decide)
theorem d_154_26 : decode (mB 154) 26 = .ok (.iadd, 1) := by decide +kernel
theorem s_154_26 {d : Nat} {Q : wQ} {L : List (Option Value)} {st : List Value} {w : aw} {cn sn : Nat} {a b : Int32} : wp d 154 Q 26 L (.int b :: .int a :: st) w cn sn = wp d 154 Q 27 L (.int (a + b) :: st) w cn sn := wp_row d_154_26 _ _ _ _ _
theorem d_154_27 : decode (mB 154) 27 = .ok (.if_icmp .eq 5, 3) := by decide +kernel
theorem s_154_27 {d : Nat} {Q : wQ} {L : List (Option Value)} {st : List Value} {w : aw} {cn sn : Nat} {a b : Int32} : wp d 154 Q 27 L (.int b :: .int a :: st) w cn sn = ((a = b → wp d 154 Q 32 L st w cn sn) ∧ (¬ a = b → wp d 154 Q 30 L st w cn sn)) := w_iceq d_154_27 (by decide)
theorem d_154_30 : decode (mB 154) 30 = .ok (.iconst 0, 1) := by decide +kernel
theorem s_154_30 {d : Nat} {Q : wQ} {L : List (Option Value)} {st : List Value} {w : aw} {cn sn : Nat}  : wp d 154 Q 30 L st w cn sn = wp d 154 Q 31 L (.int 0 :: st) w cn sn := w_iconst d_154_30 (by decide)
theorem d_154_31 : decode (mB 154) 31 = .ok (.ireturn, 1) := by decide +kernel
theorem s_154_31 {d : Nat} {Q : wQ} {L : List (Option Value)} {w : aw} {cn sn : Nat} {v : Int32} : wp d 154 Q 31 L [.int v] w cn sn = (narrow .boolean (.int v) = .int v ∧ Q (some (.int v)) w) := w_zreturn d_154_31 rfl
theorem d_154_32 : decode (mB 154) 32 = .ok (.aload_n 0, 1) := by decide +kernel
theorem s_154_32 {d : Nat} {Q : wQ} {L : List (Option Value)} {st : List Value} {w : aw} {cn sn : Nat} {v : Nat} : wp d 154 Q 32 (some (.ref v) :: L) st w cn sn = wp d 154 Q 33 (some (.ref v) :: L) (.ref v :: st) w cn sn := w_aload_n d_154_32 rfl
theorem d_154_33 : decode (mB 154) 33 = .ok (.getfield 231, 3) := by decide +kernel
theorem s_154_33 {d : Nat} {Q : wQ} {L : List (Option Value)} {st : List Value} {w : aw} {cn sn : Nat} {a : Nat} : wp d 154 Q 33 L (.ref a :: st) w cn sn = (kd w a = 9 ∧ wp d 154 Q 36 L (fd w 555 a :: st) w cn sn) := w_getfield d_154_33 (by decide +kernel : fT (mO 154) 231 = some (8, 43))
theorem d_154_36 : decode (mB 154) 36 = .ok (.iconst 1, 1) := by decide +kernel
theorem s_154_36 {d : Nat} {Q : wQ} {L : List (Option Value)} {st : List Value} {w : aw} {cn sn : Nat}  : wp d 154 Q 36 L st w cn sn = wp d 154 Q 37 L (.int 1 :: st) w cn sn := w_iconst d_154_36 (by decide)
theorem d_154_37 : decode (mB 154) 37 = .ok (.iadd, 1) := by decide +kernel
theorem s_154_37 {d : Nat} {Q : wQ} {L : List (Option Value)} {st : List Value} {w : aw} {cn sn : Nat} {a b : Int32} : wp d 154 Q 37 L (.int b :: .int a :: st) w cn sn = wp d 154 Q 38 L (.int (a + b) :: st) w cn sn := wp_row d_154_37 _ _ _ _ _
theorem d_154_38 : decode (mB 154) 38 = .ok (.istore_n 1, 1) := by decide +kernel
theorem s_154_38 {d : Nat} {Q : wQ} {L : List (Option Value)} {st : List Value} {w : aw} {cn sn : Nat} {a0 a1 : Option Value} {v : Int32} : wp d 154 Q 38 (a0 :: a1 :: L) (.int v :: st) w cn sn = wp d 154 Q 39 (clr a0 :: some (.int v) :: L) st w cn sn := w_istore_n d_154_38 (Nat.le_add_left 2 _) rfl
theorem d_154_39 : decode (mB 154) 39 = .ok (.iload_n 1, 1) := by decide +kernel
theorem s_154_39 {d : Nat} {Q : wQ} {L : List (Option Value)} {st : List Value} {w : aw} {cn sn : Nat} {a0 : Option Value} {v : Int32} : wp d 154 Q 39 (a0 :: some (.int v) :: L) st w cn sn = wp d 154 Q 40 (a0 :: some (.int v) :: L) (.int v :: st) w cn sn := w_iload_n d_154_39 rfl
theorem d_154_40 : decode (mB 154) 40 = .ok (.aload_n 0, 1) := by decide +kernel
theorem s_154_40 {d : Nat} {Q : wQ} {L : List (Option Value)} {st : List Value} {w : aw} {cn sn : Nat} {v : Nat} : wp d 154 Q 40 (some (.ref v) :: L) st w cn sn = wp d 154 Q 41 (some (.ref v) :: L) (.ref v :: st) w cn sn := w_aload_n d_154_40 rfl
theorem d_154_41 : decode (mB 154) 41 = .ok (.getfield 228, 3) := by decide +kernel
theorem s_154_41 {d : Nat} {Q : wQ} {L : List (Option Value)} {st : List Value} {w : aw} {cn sn : Nat} {a : Nat} : wp d 154 Q 41 L (.ref a :: st) w cn sn = (kd w a = 9 ∧ wp d 154 Q 44 L (fd w 556 a :: st) w cn sn) := w_getfield d_154_41 (by decide +kernel : fT (mO 154) 228 = some (8, 44))
theorem d_154_44 : decode (mB 154) 44 = .ok (.if_icmp .ge 31, 3) := by decide +kernel
theorem s_154_44 {d : Nat} {Q : wQ} {L : List (Option Value)} {st : List Value} {w : aw} {cn sn : Nat} {a b : Int32} : wp d 154 Q 44 L (.int b :: .int a :: st) w cn sn = ((b ≤ a → wp d 154 Q 75 L st w cn sn) ∧ (¬ b ≤ a → wp d 154 Q 47 L st w cn sn)) := w_icge d_154_44 (by decide)
theorem d_154_47 : decode (mB 154) 47 = .ok (.aload_n 0, 1) := by decide +kernel
theorem s_154_47 {d : Nat} {Q : wQ} {L : List (Option Value)} {st : List Value} {w : aw} {cn sn : Nat} {v : Nat} : wp d 154 Q 47 (some (.ref v) :: L) st w cn sn = wp d 154 Q 48 (some (.ref v) :: L) (.ref v :: st) w cn sn := w_aload_n d_154_47 rfl
theorem d_154_48 : decode (mB 154) 48 = .ok (.getfield 72, 3) := by decide +kernel
theorem s_154_48 {d : Nat} {Q : wQ} {L : List (Option Value)} {st : List Value} {w : aw} {cn sn : Nat} {a : Nat} : wp d 154 Q 48 L (.ref a :: st) w cn sn = (kd w a = 9 ∧ wp d 154 Q 51 L (fd w 542 a :: st) w cn sn) := w_getfield d_154_48 (by decide +kernel : fT (mO 154) 72 = some (8, 30))
theorem d_154_51 : decode (mB 154) 51 = .ok (.iload_n 1, 1) := by decide +kernel
theorem s_154_51 {d : Nat} {Q : wQ} {L : List (Option Value)} {st : List Value} {w : aw} {cn sn : Nat} {a0 : Option Value} {v : Int32} : wp d 154 Q 51 (a0 :: some (.int v) :: L) st w cn sn = wp d 154 Q 52 (a0 :: some (.int v) :: L) (.int v :: st) w cn sn := w_iload_n d_154_51 rfl
theorem d_154_52 : decode (mB 154) 52 = .ok (.iaload, 1) := by decide +kernel
theorem s_154_52 {d : Nat} {Q : wQ} {L : List (Option Value)} {st : List Value} {w : aw} {cn sn : Nat} {a : Nat} {i : Int32} : wp d 154 Q 52 L (.int i :: .ref a :: st) w cn sn = ((kd w a = 20 ∨ kd w a = 30) ∧ inR i (ln w a) ∧ wp d 154 Q 53 L (.int (ai w a i.toNatClampNeg) :: st) w cn sn) := wp_row d_154_52 _ _ _ _ _
theorem d_154_53 : decode (mB 154) 53 = .ok (.bipush 32, 2) := by decide +kernel
theorem s_154_53 {d : Nat} {Q : wQ} {L : List (Option Value)} {st : List Value} {w : aw} {cn sn : Nat}  : wp d 154 Q 53 L st w cn sn = wp d 154 Q 55 L (.int 32 :: st) w cn sn := w_bipush d_154_53 (by decide)
theorem d_154_55 : decode (mB 154) 55 = .ok (.if_icmp .eq 14, 3) := by decide +kernel
theorem s_154_55 {d : Nat} {Q : wQ} {L : List (Option Value)} {st : List Value} {w : aw} {cn sn : Nat} {a b : Int32} : wp d 154 Q 55 L (.int b :: .int a :: st) w cn sn = ((a = b → wp d 154 Q 69 L st w cn sn) ∧ (¬ a = b → wp d 154 Q 58 L st w cn sn)) := w_iceq d_154_55 (by decide)
theorem d_154_58 : decode (mB 154) 58 = .ok (.aload_n 0, 1) := by decide +kernel
theorem s_154_58 {d : Nat} {Q : wQ} {L : List (Option Value)} {st : List Value} {w : aw} {cn sn : Nat} {v : Nat} : wp d 154 Q 58 (some (.ref v) :: L) st w cn sn = wp d 154 Q 59 (some (.ref v) :: L) (.ref v :: st) w cn sn := w_aload_n d_154_58 rfl
theorem d_154_59 : decode (mB 154) 59 = .ok (.getfield 72, 3) := by decide +kernel
theorem s_154_59 {d : Nat} {Q : wQ} {L : List (Option Value)} {st : List Value} {w : aw} {cn sn : Nat} {a : Nat} : wp d 154 Q 59 L (.ref a :: st) w cn sn = (kd w a = 9 ∧ wp d 154 Q 62 L (fd w 542 a :: st) w cn sn) := w_getfield d_154_59 (by decide +kernel : fT (mO 154) 72 = some (8, 30))
theorem d_154_62 : decode (mB 154) 62 = .ok (.iload_n 1, 1) := by decide +kernel
theorem s_154_62 {d : Nat} {Q : wQ} {L : List (Option Value)} {st : List Value} {w : aw} {cn sn : Nat} {a0 : Option Value} {v : Int32} : wp d 154 Q 62 (a0 :: some (.int v) :: L) st w cn sn = wp d 154 Q 63 (a0 :: some (.int v) :: L) (.int v :: st) w cn sn := w_iload_n d_154_62 rfl
theorem d_154_63 : decode (mB 154) 63 = .ok (.iaload, 1) := by decide +kernel
theorem s_154_63 {d : Nat} {Q : wQ} {L : List (Option Value)} {st : List Value} {w : aw} {cn sn : Nat} {a : Nat} {i : Int32} : wp d 154 Q 63 L (.int i :: .ref a :: st) w cn sn = ((kd w a = 20 ∨ kd w a = 30) ∧ inR i (ln w a) ∧ wp d 154 Q 64 L (.int (ai w a i.toNatClampNeg) :: st) w cn sn) := wp_row d_154_63 _ _ _ _ _
theorem d_154_64 : decode (mB 154) 64 = .ok (.bipush 9, 2) := by decide +kernel
theorem s_154_64 {d : Nat} {Q : wQ} {L : List (Option Value)} {st : List Value} {w : aw} {cn sn : Nat}  : wp d 154 Q 64 L st w cn sn = wp d 154 Q 66 L (.int 9 :: st) w cn sn := w_bipush d_154_64 (by decide)
theorem d_154_66 : decode (mB 154) 66 = .ok (.if_icmp .ne 9, 3) := by decide +kernel
theorem s_154_66 {d : Nat} {Q : wQ} {L : List (Option Value)} {st : List Value} {w : aw} {cn sn : Nat} {a b : Int32} : wp d 154 Q 66 L (.int b :: .int a :: st) w cn sn = ((¬ a = b → wp d 154 Q 75 L st w cn sn) ∧ (a = b → wp d 154 Q 69 L st w cn sn)) := w_icne d_154_66 (by decide)
theorem d_154_69 : decode (mB 154) 69 = .ok (.iinc 1 1, 3) := by decide +kernel
theorem s_154_69 {d : Nat} {Q : wQ} {L : List (Option Value)} {st : List Value} {w : aw} {cn sn : Nat} {a0 : Option Value} {v : Int32} : wp d 154 Q 69 (a0 :: some (.int v) :: L) st w cn sn = wp d 154 Q 72 (clr a0 :: some (.int (v + 1)) :: L) st w cn sn := w_iinc d_154_69 rfl (by decide) rfl
theorem d_154_72 : decode (mB 154) 72 = .ok (.goto (-33), 3) := by decide +kernel
theorem s_154_72 {d : Nat} {Q : wQ} {L : List (Option Value)} {st : List Value} {w : aw} {cn sn : Nat}  : wp d 154 Q 72 L st w cn sn = wp d 154 Q 39 L st w cn sn := w_goto d_154_72 (by decide)
theorem d_154_75 : decode (mB 154) 75 = .ok (.aload_n 0, 1) := by decide +kernel
theorem s_154_75 {d : Nat} {Q : wQ} {L : List (Option Value)} {st : List Value} {w : aw} {cn sn : Nat} {v : Nat} : wp d 154 Q 75 (some (.ref v) :: L) st w cn sn = wp d 154 Q 76 (some (.ref v) :: L) (.ref v :: st) w cn sn := w_aload_n d_154_75 rfl
theorem d_154_76 : decode (mB 154) 76 = .ok (.iload_n 1, 1) := by decide +kernel
theorem s_154_76 {d : Nat} {Q : wQ} {L : List (Option Value)} {st : List Value} {w : aw} {cn sn : Nat} {a0 : Option Value} {v : Int32} : wp d 154 Q 76 (a0 :: some (.int v) :: L) st w cn sn = wp d 154 Q 77 (a0 :: some (.int v) :: L) (.int v :: st) w cn sn := w_iload_n d_154_76 rfl
theorem d_154_77 : decode (mB 154) 77 = .ok (.invokevirtual 237, 3) := by decide +kernel
theorem s_154_77 {d : Nat} {Q : wQ} {L : List (Option Value)} {st : List Value} {w : aw} {cn sn : Nat} {v0 : Value} {b : Nat} : wp d 154 Q 77 L (v0 :: .ref b :: st) w cn sn = (kd w b = 9 ∧ catS st ≤ 8 ∧ wpD d 145 [.ref b, v0] w (fun v w' => wp d 154 Q 80 L (v.toList ++ st) w' cn sn)) := w_virtual (As := [v0]) d_154_77 (by decide +kernel : cT (mO 154) 237 = some (0, 145)) rfl (by decide +kernel) rfl (by decide +kernel) rfl
theorem d_154_80 : decode (mB 154) 80 = .ok (.istore_n 2, 1) := by decide +kernel
theorem s_154_80 {d : Nat} {Q : wQ} {L : List (Option Value)} {st : List Value} {w : aw} {cn sn : Nat} {a0 a1 a2 : Option Value} {v : Int32} : wp d 154 Q 80 (a0 :: a1 :: a2 :: L) (.int v :: st) w cn sn = wp d 154 Q 81 (a0 :: clr a1 :: some (.int v) :: L) st w cn sn := w_istore_n d_154_80 (Nat.le_add_left 3 _) rfl
theorem d_154_81 : decode (mB 154) 81 = .ok (.iload_n 2, 1) := by decide +kernel
theorem s_154_81 {d : Nat} {Q : wQ} {L : List (Option Value)} {st : List Value} {w : aw} {cn sn : Nat} {a0 a1 : Option Value} {v : Int32} : wp d 154 Q 81 (a0 :: a1 :: some (.int v) :: L) st w cn sn = wp d 154 Q 82 (a0 :: a1 :: some (.int v) :: L) (.int v :: st) w cn sn := w_iload_n d_154_81 rfl
theorem d_154_82 : decode (mB 154) 82 = .ok (.invokestatic 225, 3) := by decide +kernel
theorem s_154_82 {d : Nat} {Q : wQ} {L : List (Option Value)} {st : List Value} {w : aw} {cn sn : Nat} {v0 : Value} : wp d 154 Q 82 L (v0 :: st) w cn sn = (catS st ≤ 8 ∧ wpD d 142 [v0] w (fun v w' => wp d 154 Q 85 L (v.toList ++ st) w' cn sn)) := w_static (As := [v0]) d_154_82 (by decide +kernel : cT (mO 154) 225 = some (2, 142)) rfl (by decide +kernel) rfl
theorem d_154_85 : decode (mB 154) 85 = .ok (.ifCond .ne 28, 3) := by decide +kernel
theorem s_154_85 {d : Nat} {Q : wQ} {L : List (Option Value)} {st : List Value} {w : aw} {cn sn : Nat} {x : Int32} : wp d 154 Q 85 L (.int x :: st) w cn sn = ((¬ x = 0 → wp d 154 Q 113 L st w cn sn) ∧ (x = 0 → wp d 154 Q 88 L st w cn sn)) := w_ifne d_154_85 (by decide)
theorem d_154_88 : decode (mB 154) 88 = .ok (.iload_n 2, 1) := by decide +kernel
theorem s_154_88 {d : Nat} {Q : wQ} {L : List (Option Value)} {st : List Value} {w : aw} {cn sn : Nat} {a0 a1 : Option Value} {v : Int32} : wp d 154 Q 88 (a0 :: a1 :: some (.int v) :: L) st w cn sn = wp d 154 Q 89 (a0 :: a1 :: some (.int v) :: L) (.int v :: st) w cn sn := w_iload_n d_154_88 rfl
theorem d_154_89 : decode (mB 154) 89 = .ok (.invokestatic 234, 3) := by decide +kernel
theorem s_154_89 {d : Nat} {Q : wQ} {L : List (Option Value)} {st : List Value} {w : aw} {cn sn : Nat} {v0 : Value} : wp d 154 Q 89 L (v0 :: st) w cn sn = (catS st ≤ 8 ∧ wpD d 143 [v0] w (fun v w' => wp d 154 Q 92 L (v.toList ++ st) w' cn sn)) := w_static (As := [v0]) d_154_89 (by decide +kernel : cT (mO 154) 234 = some (2, 143)) rfl (by decide +kernel) rfl
theorem d_154_92 : decode (mB 154) 92 = .ok (.ifCond .ne 21, 3) := by decide +kernel
theorem s_154_92 {d : Nat} {Q : wQ} {L : List (Option Value)} {st : List Value} {w : aw} {cn sn : Nat} {x : Int32} : wp d 154 Q 92 L (.int x :: st) w cn sn = ((¬ x = 0 → wp d 154 Q 113 L st w cn sn) ∧ (x = 0 → wp d 154 Q 95 L st w cn sn)) := w_ifne d_154_92 (by decide)
theorem d_154_95 : decode (mB 154) 95 = .ok (.iload_n 2, 1) := by decide +kernel
theorem s_154_95 {d : Nat} {Q : wQ} {L : List (Option Value)} {st : List Value} {w : aw} {cn sn : Nat} {a0 a1 : Option Value} {v : Int32} : wp d 154 Q 95 (a0 :: a1 :: some (.int v) :: L) st w cn sn = wp d 154 Q 96 (a0 :: a1 :: some (.int v) :: L) (.int v :: st) w cn sn := w_iload_n d_154_95 rfl
theorem d_154_96 : decode (mB 154) 96 = .ok (.bipush 46, 2) := by decide +kernel
theorem s_154_96 {d : Nat} {Q : wQ} {L : List (Option Value)} {st : List Value} {w : aw} {cn sn : Nat}  : wp d 154 Q 96 L st w cn sn = wp d 154 Q 98 L (.int 46 :: st) w cn sn := w_bipush d_154_96 (by decide)
theorem d_154_98 : decode (mB 154) 98 = .ok (.if_icmp .eq 15, 3) := by decide +kernel
theorem s_154_98 {d : Nat} {Q : wQ} {L : List (Option Value)} {st : List Value} {w : aw} {cn sn : Nat} {a b : Int32} : wp d 154 Q 98 L (.int b :: .int a :: st) w cn sn = ((a = b → wp d 154 Q 113 L st w cn sn) ∧ (¬ a = b → wp d 154 Q 101 L st w cn sn)) := w_iceq d_154_98 (by decide)
theorem d_154_101 : decode (mB 154) 101 = .ok (.iload_n 2, 1) := by decide +kernel
theorem s_154_101 {d : Nat} {Q : wQ} {L : List (Option Value)} {st : List Value} {w : aw} {cn sn : Nat} {a0 a1 : Option Value} {v : Int32} : wp d 154 Q 101 (a0 :: a1 :: some (.int v) :: L) st w cn sn = wp d 154 Q 102 (a0 :: a1 :: some (.int v) :: L) (.int v :: st) w cn sn := w_iload_n d_154_101 rfl
theorem d_154_102 : decode (mB 154) 102 = .ok (.bipush 45, 2) := by decide +kernel
theorem s_154_102 {d : Nat} {Q : wQ} {L : List (Option Value)} {st : List Value} {w : aw} {cn sn : Nat}  : wp d 154 Q 102 L st w cn sn = wp d 154 Q 104 L (.int 45 :: st) w cn sn := w_bipush d_154_102 (by decide)
theorem d_154_104 : decode (mB 154) 104 = .ok (.if_icmp .eq 9, 3) := by decide +kernel
theorem s_154_104 {d : Nat} {Q : wQ} {L : List (Option Value)} {st : List Value} {w : aw} {cn sn : Nat} {a b : Int32} : wp d 154 Q 104 L (.int b :: .int a :: st) w cn sn = ((a = b → wp d 154 Q 113 L st w cn sn) ∧ (¬ a = b → wp d 154 Q 107 L st w cn sn)) := w_iceq d_154_104 (by decide)
theorem d_154_107 : decode (mB 154) 107 = .ok (.iload_n 2, 1) := by decide +kernel
theorem s_154_107 {d : Nat} {Q : wQ} {L : List (Option Value)} {st : List Value} {w : aw} {cn sn : Nat} {a0 a1 : Option Value} {v : Int32} : wp d 154 Q 107 (a0 :: a1 :: some (.int v) :: L) st w cn sn = wp d 154 Q 108 (a0 :: a1 :: some (.int v) :: L) (.int v :: st) w cn sn := w_iload_n d_154_107 rfl
theorem d_154_108 : decode (mB 154) 108 = .ok (.bipush 40, 2) := by decide +kernel
theorem s_154_108 {d : Nat} {Q : wQ} {L : List (Option Value)} {st : List Value} {w : aw} {cn sn : Nat}  : wp d 154 Q 108 L st w cn sn = wp d 154 Q 110 L (.int 40 :: st) w cn sn := w_bipush d_154_108 (by decide)
theorem d_154_110 : decode (mB 154) 110 = .ok (.if_icmp .ne 7, 3) := by decide +kernel
theorem s_154_110 {d : Nat} {Q : wQ} {L : List (Option Value)} {st : List Value} {w : aw} {cn sn : Nat} {a b : Int32} : wp d 154 Q 110 L (.int b :: .int a :: st) w cn sn = ((¬ a = b → wp d 154 Q 117 L st w cn sn) ∧ (a = b → wp d 154 Q 113 L st w cn sn)) := w_icne d_154_110 (by decide)
theorem d_154_113 : decode (mB 154) 113 = .ok (.iconst 1, 1) := by decide +kernel
theorem s_154_113 {d : Nat} {Q : wQ} {L : List (Option Value)} {st : List Value} {w : aw} {cn sn : Nat}  : wp d 154 Q 113 L st w cn sn = wp d 154 Q 114 L (.int 1 :: st) w cn sn := w_iconst d_154_113 (by decide)
theorem d_154_114 : decode (mB 154) 114 = .ok (.goto 4, 3) := by decide +kernel
theorem s_154_114 {d : Nat} {Q : wQ} {L : List (Option Value)} {st : List Value} {w : aw} {cn sn : Nat}  : wp d 154 Q 114 L st w cn sn = wp d 154 Q 118 L st w cn sn := w_goto d_154_114 (by decide)
theorem d_154_117 : decode (mB 154) 117 = .ok (.iconst 0, 1) := by decide +kernel
theorem s_154_117 {d : Nat} {Q : wQ} {L : List (Option Value)} {st : List Value} {w : aw} {cn sn : Nat}  : wp d 154 Q 117 L st w cn sn = wp d 154 Q 118 L (.int 0 :: st) w cn sn := w_iconst d_154_117 (by decide)
theorem d_154_118 : decode (mB 154) 118 = .ok (.ireturn, 1) := by decide +kernel
theorem s_154_118 {d : Nat} {Q : wQ} {L : List (Option Value)} {w : aw} {cn sn : Nat} {v : Int32} : wp d 154 Q 118 L [.int v] w cn sn = (narrow .boolean (.int v) = .int v ∧ Q (some (.int v)) w) := w_zreturn d_154_118 rfl
theorem d_155_0 : decode (mB 155) 0 = .ok (.aload_n 0, 1) := by decide +kernel
theorem s_155_0 {d : Nat} {Q : wQ} {L : List (Option Value)} {st : List Value} {w : aw} {cn sn : Nat} {v : Nat} : wp d 155 Q 0 (some (.ref v) :: L) st w cn sn = wp d 155 Q 1 (some (.ref v) :: L) (.ref v :: st) w cn sn := w_aload_n d_155_0 rfl
theorem d_155_1 : decode (mB 155) 1 = .ok (.aload_n 0, 1) := by decide +kernel
theorem s_155_1 {d : Nat} {Q : wQ} {L : List (Option Value)} {st : List Value} {w : aw} {cn sn : Nat} {v : Nat} : wp d 155 Q 1 (some (.ref v) :: L) st w cn sn = wp d 155 Q 2 (some (.ref v) :: L) (.ref v :: st) w cn sn := w_aload_n d_155_1 rfl
theorem d_155_2 : decode (mB 155) 2 = .ok (.getfield 231, 3) := by decide +kernel
theorem s_155_2 {d : Nat} {Q : wQ} {L : List (Option Value)} {st : List Value} {w : aw} {cn sn : Nat} {a : Nat} : wp d 155 Q 2 L (.ref a :: st) w cn sn = (kd w a = 9 ∧ wp d 155 Q 5 L (fd w 555 a :: st) w cn sn) := w_getfield d_155_2 (by decide +kernel : fT (mO 155) 231 = some (8, 43))
theorem d_155_5 : decode (mB 155) 5 = .ok (.invokevirtual 240, 3) := by decide +kernel
theorem s_155_5 {d : Nat} {Q : wQ} {L : List (Option Value)} {st : List Value} {w : aw} {cn sn : Nat} {v0 : Value} {b : Nat} : wp d 155 Q 5 L (v0 :: .ref b :: st) w cn sn = (kd w b = 9 ∧ catS st ≤ 8 ∧ wpD d 147 [.ref b, v0] w (fun v w' => wp d 155 Q 8 L (v.toList ++ st) w' cn sn)) := w_virtual (As := [v0]) d_155_5 (by decide +kernel : cT (mO 155) 240 = some (0, 147)) rfl (by decide +kernel) rfl (by decide +kernel) rfl
theorem d_155_8 : decode (mB 155) 8 = .ok (.istore_n 3, 1) := by decide +kernel
theorem s_155_8 {d : Nat} {Q : wQ} {L : List (Option Value)} {st : List Value} {w : aw} {cn sn : Nat} {a0 a1 a2 a3 : Option Value} {v : Int32} : wp d 155 Q 8 (a0 :: a1 :: a2 :: a3 :: L) (.int v :: st) w cn sn = wp d 155 Q 9 (a0 :: a1 :: clr a2 :: some (.int v) :: L) st w cn sn := w_istore_n d_155_8 (Nat.le_add_left 4 _) rfl
theorem d_155_9 : decode (mB 155) 9 = .ok (.aload_n 0, 1) := by decide +kernel
theorem s_155_9 {d : Nat} {Q : wQ} {L : List (Option Value)} {st : List Value} {w : aw} {cn sn : Nat} {v : Nat} : wp d 155 Q 9 (some (.ref v) :: L) st w cn sn = wp d 155 Q 10 (some (.ref v) :: L) (.ref v :: st) w cn sn := w_aload_n d_155_9 rfl
theorem d_155_10 : decode (mB 155) 10 = .ok (.aload_n 0, 1) := by decide +kernel
theorem s_155_10 {d : Nat} {Q : wQ} {L : List (Option Value)} {st : List Value} {w : aw} {cn sn : Nat} {v : Nat} : wp d 155 Q 10 (some (.ref v) :: L) st w cn sn = wp d 155 Q 11 (some (.ref v) :: L) (.ref v :: st) w cn sn := w_aload_n d_155_10 rfl
theorem d_155_11 : decode (mB 155) 11 = .ok (.getfield 231, 3) := by decide +kernel
theorem s_155_11 {d : Nat} {Q : wQ} {L : List (Option Value)} {st : List Value} {w : aw} {cn sn : Nat} {a : Nat} : wp d 155 Q 11 L (.ref a :: st) w cn sn = (kd w a = 9 ∧ wp d 155 Q 14 L (fd w 555 a :: st) w cn sn) := w_getfield d_155_11 (by decide +kernel : fT (mO 155) 231 = some (8, 43))
theorem d_155_14 : decode (mB 155) 14 = .ok (.invokevirtual 237, 3) := by decide +kernel
theorem s_155_14 {d : Nat} {Q : wQ} {L : List (Option Value)} {st : List Value} {w : aw} {cn sn : Nat} {v0 : Value} {b : Nat} : wp d 155 Q 14 L (v0 :: .ref b :: st) w cn sn = (kd w b = 9 ∧ catS st ≤ 8 ∧ wpD d 145 [.ref b, v0] w (fun v w' => wp d 155 Q 17 L (v.toList ++ st) w' cn sn)) := w_virtual (As := [v0]) d_155_14 (by decide +kernel : cT (mO 155) 237 = some (0, 145)) rfl (by decide +kernel) rfl (by decide +kernel) rfl
theorem d_155_17 : decode (mB 155) 17 = .ok (.bipush 46, 2) := by decide +kernel
theorem s_155_17 {d : Nat} {Q : wQ} {L : List (Option Value)} {st : List Value} {w : aw} {cn sn : Nat}  : wp d 155 Q 17 L st w cn sn = wp d 155 Q 19 L (.int 46 :: st) w cn sn := w_bipush d_155_17 (by decide)
theorem d_155_19 : decode (mB 155) 19 = .ok (.if_icmp .ne 18, 3) := by decide +kernel
theorem s_155_19 {d : Nat} {Q : wQ} {L : List (Option Value)} {st : List Value} {w : aw} {cn sn : Nat} {a b : Int32} : wp d 155 Q 19 L (.int b :: .int a :: st) w cn sn = ((¬ a = b → wp d 155 Q 37 L st w cn sn) ∧ (a = b → wp d 155 Q 22 L st w cn sn)) := w_icne d_155_19 (by decide)
theorem d_155_22 : decode (mB 155) 22 = .ok (.aload_n 0, 1) := by decide +kernel
theorem s_155_22 {d : Nat} {Q : wQ} {L : List (Option Value)} {st : List Value} {w : aw} {cn sn : Nat} {v : Nat} : wp d 155 Q 22 (some (.ref v) :: L) st w cn sn = wp d 155 Q 23 (some (.ref v) :: L) (.ref v :: st) w cn sn := w_aload_n d_155_22 rfl
theorem d_155_23 : decode (mB 155) 23 = .ok (.getfield 254, 3) := by decide +kernel
theorem s_155_23 {d : Nat} {Q : wQ} {L : List (Option Value)} {st : List Value} {w : aw} {cn sn : Nat} {a : Nat} : wp d 155 Q 23 L (.ref a :: st) w cn sn = (kd w a = 9 ∧ wp d 155 Q 26 L (fd w 554 a :: st) w cn sn) := w_getfield d_155_23 (by decide +kernel : fT (mO 155) 254 = some (8, 42))
theorem d_155_26 : decode (mB 155) 26 = .ok (.istore_n 2, 1) := by decide +kernel
theorem s_155_26 {d : Nat} {Q : wQ} {L : List (Option Value)} {st : List Value} {w : aw} {cn sn : Nat} {a0 a1 a2 : Option Value} {v : Int32} : wp d 155 Q 26 (a0 :: a1 :: a2 :: L) (.int v :: st) w cn sn = wp d 155 Q 27 (a0 :: clr a1 :: some (.int v) :: L) st w cn sn := w_istore_n d_155_26 (Nat.le_add_left 3 _) rfl
theorem d_155_27 : decode (mB 155) 27 = .ok (.aload_n 0, 1) := by decide +kernel
theorem s_155_27 {d : Nat} {Q : wQ} {L : List (Option Value)} {st : List Value} {w : aw} {cn sn : Nat} {v : Nat} : wp d 155 Q 27 (some (.ref v) :: L) st w cn sn = wp d 155 Q 28 (some (.ref v) :: L) (.ref v :: st) w cn sn := w_aload_n d_155_27 rfl
theorem d_155_28 : decode (mB 155) 28 = .ok (.getfield 231, 3) := by decide +kernel
theorem s_155_28 {d : Nat} {Q : wQ} {L : List (Option Value)} {st : List Value} {w : aw} {cn sn : Nat} {a : Nat} : wp d 155 Q 28 L (.ref a :: st) w cn sn = (kd w a = 9 ∧ wp d 155 Q 31 L (fd w 555 a :: st) w cn sn) := w_getfield d_155_28 (by decide +kernel : fT (mO 155) 231 = some (8, 43))
theorem d_155_31 : decode (mB 155) 31 = .ok (.iconst 1, 1) := by decide +kernel
theorem s_155_31 {d : Nat} {Q : wQ} {L : List (Option Value)} {st : List Value} {w : aw} {cn sn : Nat}  : wp d 155 Q 31 L st w cn sn = wp d 155 Q 32 L (.int 1 :: st) w cn sn := w_iconst d_155_31 (by decide)
theorem d_155_32 : decode (mB 155) 32 = .ok (.iadd, 1) := by decide +kernel
theorem s_155_32 {d : Nat} {Q : wQ} {L : List (Option Value)} {st : List Value} {w : aw} {cn sn : Nat} {a b : Int32} : wp d 155 Q 32 L (.int b :: .int a :: st) w cn sn = wp d 155 Q 33 L (.int (a + b) :: st) w cn sn := wp_row d_155_32 _ _ _ _ _
theorem d_155_33 : decode (mB 155) 33 = .ok (.istore_n 3, 1) := by decide +kernel
theorem s_155_33 {d : Nat} {Q : wQ} {L : List (Option Value)} {st : List Value} {w : aw} {cn sn : Nat} {a0 a1 a2 a3 : Option Value} {v : Int32} : wp d 155 Q 33 (a0 :: a1 :: a2 :: a3 :: L) (.int v :: st) w cn sn = wp d 155 Q 34 (a0 :: a1 :: clr a2 :: some (.int v) :: L) st w cn sn := w_istore_n d_155_33 (Nat.le_add_left 4 _) rfl
theorem d_155_34 : decode (mB 155) 34 = .ok (.goto 166, 3) := by decide +kernel
theorem s_155_34 {d : Nat} {Q : wQ} {L : List (Option Value)} {st : List Value} {w : aw} {cn sn : Nat}  : wp d 155 Q 34 L st w cn sn = wp d 155 Q 200 L st w cn sn := w_goto d_155_34 (by decide)
theorem d_155_37 : decode (mB 155) 37 = .ok (.aload_n 0, 1) := by decide +kernel
theorem s_155_37 {d : Nat} {Q : wQ} {L : List (Option Value)} {st : List Value} {w : aw} {cn sn : Nat} {v : Nat} : wp d 155 Q 37 (some (.ref v) :: L) st w cn sn = wp d 155 Q 38 (some (.ref v) :: L) (.ref v :: st) w cn sn := w_aload_n d_155_37 rfl
theorem d_155_38 : decode (mB 155) 38 = .ok (.aload_n 0, 1) := by decide +kernel
theorem s_155_38 {d : Nat} {Q : wQ} {L : List (Option Value)} {st : List Value} {w : aw} {cn sn : Nat} {v : Nat} : wp d 155 Q 38 (some (.ref v) :: L) st w cn sn = wp d 155 Q 39 (some (.ref v) :: L) (.ref v :: st) w cn sn := w_aload_n d_155_38 rfl
theorem d_155_39 : decode (mB 155) 39 = .ok (.getfield 231, 3) := by decide +kernel
theorem s_155_39 {d : Nat} {Q : wQ} {L : List (Option Value)} {st : List Value} {w : aw} {cn sn : Nat} {a : Nat} : wp d 155 Q 39 L (.ref a :: st) w cn sn = (kd w a = 9 ∧ wp d 155 Q 42 L (fd w 555 a :: st) w cn sn) := w_getfield d_155_39 (by decide +kernel : fT (mO 155) 231 = some (8, 43))
theorem d_155_42 : decode (mB 155) 42 = .ok (.invokevirtual 237, 3) := by decide +kernel
theorem s_155_42 {d : Nat} {Q : wQ} {L : List (Option Value)} {st : List Value} {w : aw} {cn sn : Nat} {v0 : Value} {b : Nat} : wp d 155 Q 42 L (v0 :: .ref b :: st) w cn sn = (kd w b = 9 ∧ catS st ≤ 8 ∧ wpD d 145 [.ref b, v0] w (fun v w' => wp d 155 Q 45 L (v.toList ++ st) w' cn sn)) := w_virtual (As := [v0]) d_155_42 (by decide +kernel : cT (mO 155) 237 = some (0, 145)) rfl (by decide +kernel) rfl (by decide +kernel) rfl
theorem d_155_45 : decode (mB 155) 45 = .ok (.invokestatic 225, 3) := by decide +kernel
theorem s_155_45 {d : Nat} {Q : wQ} {L : List (Option Value)} {st : List Value} {w : aw} {cn sn : Nat} {v0 : Value} : wp d 155 Q 45 L (v0 :: st) w cn sn = (catS st ≤ 8 ∧ wpD d 142 [v0] w (fun v w' => wp d 155 Q 48 L (v.toList ++ st) w' cn sn)) := w_static (As := [v0]) d_155_45 (by decide +kernel : cT (mO 155) 225 = some (2, 142)) rfl (by decide +kernel) rfl
theorem d_155_48 : decode (mB 155) 48 = .ok (.ifCond .eq 70, 3) := by decide +kernel
theorem s_155_48 {d : Nat} {Q : wQ} {L : List (Option Value)} {st : List Value} {w : aw} {cn sn : Nat} {x : Int32} : wp d 155 Q 48 L (.int x :: st) w cn sn = ((x = 0 → wp d 155 Q 118 L st w cn sn) ∧ (¬ x = 0 → wp d 155 Q 51 L st w cn sn)) := w_ifeq d_155_48 (by decide)
theorem d_155_51 : decode (mB 155) 51 = .ok (.iload_n 3, 1) := by decide +kernel
theorem s_155_51 {d : Nat} {Q : wQ} {L : List (Option Value)} {st : List Value} {w : aw} {cn sn : Nat} {a0 a1 a2 : Option Value} {v : Int32} : wp d 155 Q 51 (a0 :: a1 :: a2 :: some (.int v) :: L) st w cn sn = wp d 155 Q 52 (a0 :: a1 :: a2 :: some (.int v) :: L) (.int v :: st) w cn sn := w_iload_n d_155_51 rfl
theorem d_155_52 : decode (mB 155) 52 = .ok (.aload_n 0, 1) := by decide +kernel
theorem s_155_52 {d : Nat} {Q : wQ} {L : List (Option Value)} {st : List Value} {w : aw} {cn sn : Nat} {v : Nat} : wp d 155 Q 52 (some (.ref v) :: L) st w cn sn = wp d 155 Q 53 (some (.ref v) :: L) (.ref v :: st) w cn sn := w_aload_n d_155_52 rfl
theorem d_155_53 : decode (mB 155) 53 = .ok (.getfield 231, 3) := by decide +kernel
theorem s_155_53 {d : Nat} {Q : wQ} {L : List (Option Value)} {st : List Value} {w : aw} {cn sn : Nat} {a : Nat} : wp d 155 Q 53 L (.ref a :: st) w cn sn = (kd w a = 9 ∧ wp d 155 Q 56 L (fd w 555 a :: st) w cn sn) := w_getfield d_155_53 (by decide +kernel : fT (mO 155) 231 = some (8, 43))
theorem d_155_56 : decode (mB 155) 56 = .ok (.isub, 1) := by decide +kernel
theorem s_155_56 {d : Nat} {Q : wQ} {L : List (Option Value)} {st : List Value} {w : aw} {cn sn : Nat} {a b : Int32} : wp d 155 Q 56 L (.int b :: .int a :: st) w cn sn = wp d 155 Q 57 L (.int (a - b) :: st) w cn sn := wp_row d_155_56 _ _ _ _ _
theorem d_155_57 : decode (mB 155) 57 = .ok (.bipush 6, 2) := by decide +kernel
theorem s_155_57 {d : Nat} {Q : wQ} {L : List (Option Value)} {st : List Value} {w : aw} {cn sn : Nat}  : wp d 155 Q 57 L st w cn sn = wp d 155 Q 59 L (.int 6 :: st) w cn sn := w_bipush d_155_57 (by decide)
theorem d_155_59 : decode (mB 155) 59 = .ok (.if_icmp .le 5, 3) := by decide +kernel
theorem s_155_59 {d : Nat} {Q : wQ} {L : List (Option Value)} {st : List Value} {w : aw} {cn sn : Nat} {a b : Int32} : wp d 155 Q 59 L (.int b :: .int a :: st) w cn sn = ((a ≤ b → wp d 155 Q 64 L st w cn sn) ∧ (¬ a ≤ b → wp d 155 Q 62 L st w cn sn)) := w_icle d_155_59 (by decide)
theorem d_155_62 : decode (mB 155) 62 = .ok (.iconst 0, 1) := by decide +kernel
theorem s_155_62 {d : Nat} {Q : wQ} {L : List (Option Value)} {st : List Value} {w : aw} {cn sn : Nat}  : wp d 155 Q 62 L st w cn sn = wp d 155 Q 63 L (.int 0 :: st) w cn sn := w_iconst d_155_62 (by decide)
theorem d_155_63 : decode (mB 155) 63 = .ok (.ireturn, 1) := by decide +kernel
theorem s_155_63 {d : Nat} {Q : wQ} {L : List (Option Value)} {w : aw} {cn sn : Nat} {v : Int32} : wp d 155 Q 63 L [.int v] w cn sn = (narrow .boolean (.int v) = .int v ∧ Q (some (.int v)) w) := w_zreturn d_155_63 rfl
theorem d_155_64 : decode (mB 155) 64 = .ok (.aload_n 0, 1) := by decide +kernel
theorem s_155_64 {d : Nat} {Q : wQ} {L : List (Option Value)} {st : List Value} {w : aw} {cn sn : Nat} {v : Nat} : wp d 155 Q 64 (some (.ref v) :: L) st w cn sn = wp d 155 Q 65 (some (.ref v) :: L) (.ref v :: st) w cn sn := w_aload_n d_155_64 rfl
theorem d_155_65 : decode (mB 155) 65 = .ok (.aload_n 0, 1) := by decide +kernel
theorem s_155_65 {d : Nat} {Q : wQ} {L : List (Option Value)} {st : List Value} {w : aw} {cn sn : Nat} {v : Nat} : wp d 155 Q 65 (some (.ref v) :: L) st w cn sn = wp d 155 Q 66 (some (.ref v) :: L) (.ref v :: st) w cn sn := w_aload_n d_155_65 rfl
theorem d_155_66 : decode (mB 155) 66 = .ok (.aload_n 0, 1) := by decide +kernel
theorem s_155_66 {d : Nat} {Q : wQ} {L : List (Option Value)} {st : List Value} {w : aw} {cn sn : Nat} {v : Nat} : wp d 155 Q 66 (some (.ref v) :: L) st w cn sn = wp d 155 Q 67 (some (.ref v) :: L) (.ref v :: st) w cn sn := w_aload_n d_155_66 rfl
theorem d_155_67 : decode (mB 155) 67 = .ok (.getfield 231, 3) := by decide +kernel
theorem s_155_67 {d : Nat} {Q : wQ} {L : List (Option Value)} {st : List Value} {w : aw} {cn sn : Nat} {a : Nat} : wp d 155 Q 67 L (.ref a :: st) w cn sn = (kd w a = 9 ∧ wp d 155 Q 70 L (fd w 555 a :: st) w cn sn) := w_getfield d_155_67 (by decide +kernel : fT (mO 155) 231 = some (8, 43))
theorem d_155_70 : decode (mB 155) 70 = .ok (.invokevirtual 246, 3) := by decide +kernel
theorem s_155_70 {d : Nat} {Q : wQ} {L : List (Option Value)} {st : List Value} {w : aw} {cn sn : Nat} {v0 : Value} {b : Nat} : wp d 155 Q 70 L (v0 :: .ref b :: st) w cn sn = (kd w b = 9 ∧ catS st ≤ 8 ∧ wpD d 149 [.ref b, v0] w (fun v w' => wp d 155 Q 73 L (v.toList ++ st) w' cn sn)) := w_virtual (As := [v0]) d_155_70 (by decide +kernel : cT (mO 155) 246 = some (0, 149)) rfl (by decide +kernel) rfl (by decide +kernel) rfl
theorem d_155_73 : decode (mB 155) 73 = .ok (.invokevirtual 250, 3) := by decide +kernel
theorem s_155_73 {d : Nat} {Q : wQ} {L : List (Option Value)} {st : List Value} {w : aw} {cn sn : Nat} {v0 : Value} {b : Nat} : wp d 155 Q 73 L (v0 :: .ref b :: st) w cn sn = (kd w b = 9 ∧ catS st ≤ 8 ∧ wpD d 150 [.ref b, v0] w (fun v w' => wp d 155 Q 76 L (v.toList ++ st) w' cn sn)) := w_virtual (As := [v0]) d_155_73 (by decide +kernel : cT (mO 155) 250 = some (0, 150)) rfl (by decide +kernel) rfl (by decide +kernel) rfl
theorem d_155_76 : decode (mB 155) 76 = .ok (.istore 4, 2) := by decide +kernel
theorem s_155_76 {d : Nat} {Q : wQ} {L : List (Option Value)} {st : List Value} {w : aw} {cn sn : Nat} {a0 a1 a2 a3 a4 : Option Value} {v : Int32} : wp d 155 Q 76 (a0 :: a1 :: a2 :: a3 :: a4 :: L) (.int v :: st) w cn sn = wp d 155 Q 78 (a0 :: a1 :: a2 :: clr a3 :: some (.int v) :: L) st w cn sn := w_istore d_155_76 (Nat.le_add_left 5 _) rfl
theorem d_155_78 : decode (mB 155) 78 = .ok (.iload 4, 2) := by decide +kernel
theorem s_155_78 {d : Nat} {Q : wQ} {L : List (Option Value)} {st : List Value} {w : aw} {cn sn : Nat} {a0 a1 a2 a3 : Option Value} {v : Int32} : wp d 155 Q 78 (a0 :: a1 :: a2 :: a3 :: some (.int v) :: L) st w cn sn = wp d 155 Q 80 (a0 :: a1 :: a2 :: a3 :: some (.int v) :: L) (.int v :: st) w cn sn := w_iload d_155_78 rfl
theorem d_155_80 : decode (mB 155) 80 = .ok (.ifCond .ge 7, 3) := by decide +kernel
theorem s_155_80 {d : Nat} {Q : wQ} {L : List (Option Value)} {st : List Value} {w : aw} {cn sn : Nat} {x : Int32} : wp d 155 Q 80 L (.int x :: st) w cn sn = ((0 ≤ x → wp d 155 Q 87 L st w cn sn) ∧ (¬ 0 ≤ x → wp d 155 Q 83 L st w cn sn)) := w_ifge d_155_80 (by decide)
theorem d_155_83 : decode (mB 155) 83 = .ok (.iconst (-1), 1) := by decide +kernel
theorem s_155_83 {d : Nat} {Q : wQ} {L : List (Option Value)} {st : List Value} {w : aw} {cn sn : Nat}  : wp d 155 Q 83 L st w cn sn = wp d 155 Q 84 L (.int (-1) :: st) w cn sn := w_iconst d_155_83 (by decide)
theorem d_155_84 : decode (mB 155) 84 = .ok (.goto 10, 3) := by decide +kernel
theorem s_155_84 {d : Nat} {Q : wQ} {L : List (Option Value)} {st : List Value} {w : aw} {cn sn : Nat}  : wp d 155 Q 84 L st w cn sn = wp d 155 Q 94 L st w cn sn := w_goto d_155_84 (by decide)
theorem d_155_87 : decode (mB 155) 87 = .ok (.aload_n 0, 1) := by decide +kernel
theorem s_155_87 {d : Nat} {Q : wQ} {L : List (Option Value)} {st : List Value} {w : aw} {cn sn : Nat} {v : Nat} : wp d 155 Q 87 (some (.ref v) :: L) st w cn sn = wp d 155 Q 88 (some (.ref v) :: L) (.ref v :: st) w cn sn := w_aload_n d_155_87 rfl
theorem d_155_88 : decode (mB 155) 88 = .ok (.getfield 79, 3) := by decide +kernel
theorem s_155_88 {d : Nat} {Q : wQ} {L : List (Option Value)} {st : List Value} {w : aw} {cn sn : Nat} {a : Nat} : wp d 155 Q 88 L (.ref a :: st) w cn sn = (kd w a = 9 ∧ wp d 155 Q 91 L (fd w 547 a :: st) w cn sn) := w_getfield d_155_88 (by decide +kernel : fT (mO 155) 79 = some (8, 35))
theorem d_155_91 : decode (mB 155) 91 = .ok (.iload 4, 2) := by decide +kernel
theorem s_155_91 {d : Nat} {Q : wQ} {L : List (Option Value)} {st : List Value} {w : aw} {cn sn : Nat} {a0 a1 a2 a3 : Option Value} {v : Int32} : wp d 155 Q 91 (a0 :: a1 :: a2 :: a3 :: some (.int v) :: L) st w cn sn = wp d 155 Q 93 (a0 :: a1 :: a2 :: a3 :: some (.int v) :: L) (.int v :: st) w cn sn := w_iload d_155_91 rfl
theorem d_155_93 : decode (mB 155) 93 = .ok (.iaload, 1) := by decide +kernel
theorem s_155_93 {d : Nat} {Q : wQ} {L : List (Option Value)} {st : List Value} {w : aw} {cn sn : Nat} {a : Nat} {i : Int32} : wp d 155 Q 93 L (.int i :: .ref a :: st) w cn sn = ((kd w a = 20 ∨ kd w a = 30) ∧ inR i (ln w a) ∧ wp d 155 Q 94 L (.int (ai w a i.toNatClampNeg) :: st) w cn sn) := wp_row d_155_93 _ _ _ _ _
theorem d_155_94 : decode (mB 155) 94 = .ok (.istore_n 2, 1) := by decide +kernel
theorem s_155_94 {d : Nat} {Q : wQ} {L : List (Option Value)} {st : List Value} {w : aw} {cn sn : Nat} {a0 a1 a2 : Option Value} {v : Int32} : wp d 155 Q 94 (a0 :: a1 :: a2 :: L) (.int v :: st) w cn sn = wp d 155 Q 95 (a0 :: clr a1 :: some (.int v) :: L) st w cn sn := w_istore_n d_155_94 (Nat.le_add_left 3 _) rfl
theorem d_155_95 : decode (mB 155) 95 = .ok (.aload_n 0, 1) := by decide +kernel
theorem s_155_95 {d : Nat} {Q : wQ} {L : List (Option Value)} {st : List Value} {w : aw} {cn sn : Nat} {v : Nat} : wp d 155 Q 95 (some (.ref v) :: L) st w cn sn = wp d 155 Q 96 (some (.ref v) :: L) (.ref v :: st) w cn sn := w_aload_n d_155_95 rfl
theorem d_155_96 : decode (mB 155) 96 = .ok (.aload_n 0, 1) := by decide +kernel
theorem s_155_96 {d : Nat} {Q : wQ} {L : List (Option Value)} {st : List Value} {w : aw} {cn sn : Nat} {v : Nat} : wp d 155 Q 96 (some (.ref v) :: L) st w cn sn = wp d 155 Q 97 (some (.ref v) :: L) (.ref v :: st) w cn sn := w_aload_n d_155_96 rfl
theorem d_155_97 : decode (mB 155) 97 = .ok (.getfield 257, 3) := by decide +kernel
theorem s_155_97 {d : Nat} {Q : wQ} {L : List (Option Value)} {st : List Value} {w : aw} {cn sn : Nat} {a : Nat} : wp d 155 Q 97 L (.ref a :: st) w cn sn = (kd w a = 9 ∧ wp d 155 Q 100 L (fd w 558 a :: st) w cn sn) := w_getfield d_155_97 (by decide +kernel : fT (mO 155) 257 = some (8, 46))
theorem d_155_100 : decode (mB 155) 100 = .ok (.ifCond .eq 11, 3) := by decide +kernel
theorem s_155_100 {d : Nat} {Q : wQ} {L : List (Option Value)} {st : List Value} {w : aw} {cn sn : Nat} {x : Int32} : wp d 155 Q 100 L (.int x :: st) w cn sn = ((x = 0 → wp d 155 Q 111 L st w cn sn) ∧ (¬ x = 0 → wp d 155 Q 103 L st w cn sn)) := w_ifeq d_155_100 (by decide)
theorem d_155_103 : decode (mB 155) 103 = .ok (.iload_n 2, 1) := by decide +kernel
theorem s_155_103 {d : Nat} {Q : wQ} {L : List (Option Value)} {st : List Value} {w : aw} {cn sn : Nat} {a0 a1 : Option Value} {v : Int32} : wp d 155 Q 103 (a0 :: a1 :: some (.int v) :: L) st w cn sn = wp d 155 Q 104 (a0 :: a1 :: some (.int v) :: L) (.int v :: st) w cn sn := w_iload_n d_155_103 rfl
theorem d_155_104 : decode (mB 155) 104 = .ok (.ifCond .lt 7, 3) := by decide +kernel
theorem s_155_104 {d : Nat} {Q : wQ} {L : List (Option Value)} {st : List Value} {w : aw} {cn sn : Nat} {x : Int32} : wp d 155 Q 104 L (.int x :: st) w cn sn = ((x < 0 → wp d 155 Q 111 L st w cn sn) ∧ (¬ x < 0 → wp d 155 Q 107 L st w cn sn)) := w_iflt d_155_104 (by decide)
theorem d_155_107 : decode (mB 155) 107 = .ok (.iconst 1, 1) := by decide +kernel
theorem s_155_107 {d : Nat} {Q : wQ} {L : List (Option Value)} {st : List Value} {w : aw} {cn sn : Nat}  : wp d 155 Q 107 L st w cn sn = wp d 155 Q 108 L (.int 1 :: st) w cn sn := w_iconst d_155_107 (by decide)
theorem d_155_108 : decode (mB 155) 108 = .ok (.goto 4, 3) := by decide +kernel
theorem s_155_108 {d : Nat} {Q : wQ} {L : List (Option Value)} {st : List Value} {w : aw} {cn sn : Nat}  : wp d 155 Q 108 L st w cn sn = wp d 155 Q 112 L st w cn sn := w_goto d_155_108 (by decide)
theorem d_155_111 : decode (mB 155) 111 = .ok (.iconst 0, 1) := by decide +kernel
theorem s_155_111 {d : Nat} {Q : wQ} {L : List (Option Value)} {st : List Value} {w : aw} {cn sn : Nat}  : wp d 155 Q 111 L st w cn sn = wp d 155 Q 112 L (.int 0 :: st) w cn sn := w_iconst d_155_111 (by decide)
theorem d_155_112 : decode (mB 155) 112 = .ok (.putfield 257, 3) := by decide +kernel
theorem s_155_112 {d : Nat} {Q : wQ} {L : List (Option Value)} {st : List Value} {w : aw} {cn sn : Nat} {x : Int32} {a : Nat} : wp d 155 Q 112 L (.int x :: .ref a :: st) w cn sn = (kd w a = 9 ∧ okv .boolean (.int x) ∧ wp d 155 Q 115 L st (uF w 558 a (.int x)) cn sn) := w_putfieldC d_155_112 (by decide +kernel : fT (mO 155) 257 = some (8, 46)) (by decide +kernel)
theorem d_155_115 : decode (mB 155) 115 = .ok (.goto 85, 3) := by decide +kernel
theorem s_155_115 {d : Nat} {Q : wQ} {L : List (Option Value)} {st : List Value} {w : aw} {cn sn : Nat}  : wp d 155 Q 115 L st w cn sn = wp d 155 Q 200 L st w cn sn := w_goto d_155_115 (by decide)
theorem d_155_118 : decode (mB 155) 118 = .ok (.iload_n 3, 1) := by decide +kernel
theorem s_155_118 {d : Nat} {Q : wQ} {L : List (Option Value)} {st : List Value} {w : aw} {cn sn : Nat} {a0 a1 a2 : Option Value} {v : Int32} : wp d 155 Q 118 (a0 :: a1 :: a2 :: some (.int v) :: L) st w cn sn = wp d 155 Q 119 (a0 :: a1 :: a2 :: some (.int v) :: L) (.int v :: st) w cn sn := w_iload_n d_155_118 rfl
theorem d_155_119 : decode (mB 155) 119 = .ok (.aload_n 0, 1) := by decide +kernel
theorem s_155_119 {d : Nat} {Q : wQ} {L : List (Option Value)} {st : List Value} {w : aw} {cn sn : Nat} {v : Nat} : wp d 155 Q 119 (some (.ref v) :: L) st w cn sn = wp d 155 Q 120 (some (.ref v) :: L) (.ref v :: st) w cn sn := w_aload_n d_155_119 rfl
theorem d_155_120 : decode (mB 155) 120 = .ok (.getfield 231, 3) := by decide +kernel
theorem s_155_120 {d : Nat} {Q : wQ} {L : List (Option Value)} {st : List Value} {w : aw} {cn sn : Nat} {a : Nat} : wp d 155 Q 120 L (.ref a :: st) w cn sn = (kd w a = 9 ∧ wp d 155 Q 123 L (fd w 555 a :: st) w cn sn) := w_getfield d_155_120 (by decide +kernel : fT (mO 155) 231 = some (8, 43))
theorem d_155_123 : decode (mB 155) 123 = .ok (.if_icmp .eq 13, 3) := by decide +kernel
theorem s_155_123 {d : Nat} {Q : wQ} {L : List (Option Value)} {st : List Value} {w : aw} {cn sn : Nat} {a b : Int32} : wp d 155 Q 123 L (.int b :: .int a :: st) w cn sn = ((a = b → wp d 155 Q 136 L st w cn sn) ∧ (¬ a = b → wp d 155 Q 126 L st w cn sn)) := w_iceq d_155_123 (by decide)
theorem d_155_126 : decode (mB 155) 126 = .ok (.iload_n 3, 1) := by decide +kernel
theorem s_155_126 {d : Nat} {Q : wQ} {L : List (Option Value)} {st : List Value} {w : aw} {cn sn : Nat} {a0 a1 a2 : Option Value} {v : Int32} : wp d 155 Q 126 (a0 :: a1 :: a2 :: some (.int v) :: L) st w cn sn = wp d 155 Q 127 (a0 :: a1 :: a2 :: some (.int v) :: L) (.int v :: st) w cn sn := w_iload_n d_155_126 rfl
theorem d_155_127 : decode (mB 155) 127 = .ok (.aload_n 0, 1) := by decide +kernel
theorem s_155_127 {d : Nat} {Q : wQ} {L : List (Option Value)} {st : List Value} {w : aw} {cn sn : Nat} {v : Nat} : wp d 155 Q 127 (some (.ref v) :: L) st w cn sn = wp d 155 Q 128 (some (.ref v) :: L) (.ref v :: st) w cn sn := w_aload_n d_155_127 rfl
theorem d_155_128 : decode (mB 155) 128 = .ok (.getfield 231, 3) := by decide +kernel
theorem s_155_128 {d : Nat} {Q : wQ} {L : List (Option Value)} {st : List Value} {w : aw} {cn sn : Nat} {a : Nat} : wp d 155 Q 128 L (.ref a :: st) w cn sn = (kd w a = 9 ∧ wp d 155 Q 131 L (fd w 555 a :: st) w cn sn) := w_getfield d_155_128 (by decide +kernel : fT (mO 155) 231 = some (8, 43))
theorem d_155_131 : decode (mB 155) 131 = .ok (.isub, 1) := by decide +kernel
theorem s_155_131 {d : Nat} {Q : wQ} {L : List (Option Value)} {st : List Value} {w : aw} {cn sn : Nat} {a b : Int32} : wp d 155 Q 131 L (.int b :: .int a :: st) w cn sn = wp d 155 Q 132 L (.int (a - b) :: st) w cn sn := wp_row d_155_131 _ _ _ _ _
theorem d_155_132 : decode (mB 155) 132 = .ok (.iconst 4, 1) := by decide +kernel
theorem s_155_132 {d : Nat} {Q : wQ} {L : List (Option Value)} {st : List Value} {w : aw} {cn sn : Nat}  : wp d 155 Q 132 L st w cn sn = wp d 155 Q 133 L (.int 4 :: st) w cn sn := w_iconst d_155_132 (by decide)
theorem d_155_133 : decode (mB 155) 133 = .ok (.if_icmp .le 5, 3) := by decide +kernel
theorem s_155_133 {d : Nat} {Q : wQ} {L : List (Option Value)} {st : List Value} {w : aw} {cn sn : Nat} {a b : Int32} : wp d 155 Q 133 L (.int b :: .int a :: st) w cn sn = ((a ≤ b → wp d 155 Q 138 L st w cn sn) ∧ (¬ a ≤ b → wp d 155 Q 136 L st w cn sn)) := w_icle d_155_133 (by decide)
theorem d_155_136 : decode (mB 155) 136 = .ok (.iconst 0, 1) := by decide +kernel
theorem s_155_136 {d : Nat} {Q : wQ} {L : List (Option Value)} {st : List Value} {w : aw} {cn sn : Nat}  : wp d 155 Q 136 L st w cn sn = wp d 155 Q 137 L (.int 0 :: st) w cn sn := w_iconst d_155_136 (by decide)
theorem d_155_137 : decode (mB 155) 137 = .ok (.ireturn, 1) := by decide +kernel
theorem s_155_137 {d : Nat} {Q : wQ} {L : List (Option Value)} {w : aw} {cn sn : Nat} {v : Int32} : wp d 155 Q 137 L [.int v] w cn sn = (narrow .boolean (.int v) = .int v ∧ Q (some (.int v)) w) := w_zreturn d_155_137 rfl
theorem d_155_138 : decode (mB 155) 138 = .ok (.iconst 0, 1) := by decide +kernel
theorem s_155_138 {d : Nat} {Q : wQ} {L : List (Option Value)} {st : List Value} {w : aw} {cn sn : Nat}  : wp d 155 Q 138 L st w cn sn = wp d 155 Q 139 L (.int 0 :: st) w cn sn := w_iconst d_155_138 (by decide)
theorem d_155_139 : decode (mB 155) 139 = .ok (.istore_n 2, 1) := by decide +kernel
theorem s_155_139 {d : Nat} {Q : wQ} {L : List (Option Value)} {st : List Value} {w : aw} {cn sn : Nat} {a0 a1 a2 : Option Value} {v : Int32} : wp d 155 Q 139 (a0 :: a1 :: a2 :: L) (.int v :: st) w cn sn = wp d 155 Q 140 (a0 :: clr a1 :: some (.int v) :: L) st w cn sn := w_istore_n d_155_139 (Nat.le_add_left 3 _) rfl
theorem d_155_140 : decode (mB 155) 140 = .ok (.aload_n 0, 1) := by decide +kernel
theorem s_155_140 {d : Nat} {Q : wQ} {L : List (Option Value)} {st : List Value} {w : aw} {cn sn : Nat} {v : Nat} : wp d 155 Q 140 (some (.ref v) :: L) st w cn sn = wp d 155 Q 141 (some (.ref v) :: L) (.ref v :: st) w cn sn := w_aload_n d_155_140 rfl
theorem d_155_141 : decode (mB 155) 141 = .ok (.getfield 231, 3) := by decide +kernel
theorem s_155_141 {d : Nat} {Q : wQ} {L : List (Option Value)} {st : List Value} {w : aw} {cn sn : Nat} {a : Nat} : wp d 155 Q 141 L (.ref a :: st) w cn sn = (kd w a = 9 ∧ wp d 155 Q 144 L (fd w 555 a :: st) w cn sn) := w_getfield d_155_141 (by decide +kernel : fT (mO 155) 231 = some (8, 43))
theorem d_155_144 : decode (mB 155) 144 = .ok (.istore 4, 2) := by decide +kernel
theorem s_155_144 {d : Nat} {Q : wQ} {L : List (Option Value)} {st : List Value} {w : aw} {cn sn : Nat} {a0 a1 a2 a3 a4 : Option Value} {v : Int32} : wp d 155 Q 144 (a0 :: a1 :: a2 :: a3 :: a4 :: L) (.int v :: st) w cn sn = wp d 155 Q 146 (a0 :: a1 :: a2 :: clr a3 :: some (.int v) :: L) st w cn sn := w_istore d_155_144 (Nat.le_add_left 5 _) rfl
theorem d_155_146 : decode (mB 155) 146 = .ok (.iload 4, 2) := by decide +kernel
theorem s_155_146 {d : Nat} {Q : wQ} {L : List (Option Value)} {st : List Value} {w : aw} {cn sn : Nat} {a0 a1 a2 a3 : Option Value} {v : Int32} : wp d 155 Q 146 (a0 :: a1 :: a2 :: a3 :: some (.int v) :: L) st w cn sn = wp d 155 Q 148 (a0 :: a1 :: a2 :: a3 :: some (.int v) :: L) (.int v :: st) w cn sn := w_iload d_155_146 rfl
theorem d_155_148 : decode (mB 155) 148 = .ok (.iload_n 3, 1) := by decide +kernel
theorem s_155_148 {d : Nat} {Q : wQ} {L : List (Option Value)} {st : List Value} {w : aw} {cn sn : Nat} {a0 a1 a2 : Option Value} {v : Int32} : wp d 155 Q 148 (a0 :: a1 :: a2 :: some (.int v) :: L) st w cn sn = wp d 155 Q 149 (a0 :: a1 :: a2 :: some (.int v) :: L) (.int v :: st) w cn sn := w_iload_n d_155_148 rfl
theorem d_155_149 : decode (mB 155) 149 = .ok (.if_icmp .ge 51, 3) := by decide +kernel
theorem s_155_149 {d : Nat} {Q : wQ} {L : List (Option Value)} {st : List Value} {w : aw} {cn sn : Nat} {a b : Int32} : wp d 155 Q 149 L (.int b :: .int a :: st) w cn sn = ((b ≤ a → wp d 155 Q 200 L st w cn sn) ∧ (¬ b ≤ a → wp d 155 Q 152 L st w cn sn)) := w_icge d_155_149 (by decide)
theorem d_155_152 : decode (mB 155) 152 = .ok (.aload_n 0, 1) := by decide +kernel
theorem s_155_152 {d : Nat} {Q : wQ} {L : List (Option Value)} {st : List Value} {w : aw} {cn sn : Nat} {v : Nat} : wp d 155 Q 152 (some (.ref v) :: L) st w cn sn = wp d 155 Q 153 (some (.ref v) :: L) (.ref v :: st) w cn sn := w_aload_n d_155_152 rfl
theorem d_155_153 : decode (mB 155) 153 = .ok (.getfield 72, 3) := by decide +kernel
theorem s_155_153 {d : Nat} {Q : wQ} {L : List (Option Value)} {st : List Value} {w : aw} {cn sn : Nat} {a : Nat} : wp d 155 Q 153 L (.ref a :: st) w cn sn = (kd w a = 9 ∧ wp d 155 Q 156 L (fd w 542 a :: st) w cn sn) := w_getfield d_155_153 (by decide +kernel : fT (mO 155) 72 = some (8, 30))
theorem d_155_156 : decode (mB 155) 156 = .ok (.iload 4, 2) := by decide +kernel
theorem s_155_156 {d : Nat} {Q : wQ} {L : List (Option Value)} {st : List Value} {w : aw} {cn sn : Nat} {a0 a1 a2 a3 : Option Value} {v : Int32} : wp d 155 Q 156 (a0 :: a1 :: a2 :: a3 :: some (.int v) :: L) st w cn sn = wp d 155 Q 158 (a0 :: a1 :: a2 :: a3 :: some (.int v) :: L) (.int v :: st) w cn sn := w_iload d_155_156 rfl
theorem d_155_158 : decode (mB 155) 158 = .ok (.iaload, 1) := by decide +kernel
theorem s_155_158 {d : Nat} {Q : wQ} {L : List (Option Value)} {st : List Value} {w : aw} {cn sn : Nat} {a : Nat} {i : Int32} : wp d 155 Q 158 L (.int i :: .ref a :: st) w cn sn = ((kd w a = 20 ∨ kd w a = 30) ∧ inR i (ln w a) ∧ wp d 155 Q 159 L (.int (ai w a i.toNatClampNeg) :: st) w cn sn) := wp_row d_155_158 _ _ _ _ _
theorem d_155_159 : decode (mB 155) 159 = .ok (.bipush 48, 2) := by decide +kernel
theorem s_155_159 {d : Nat} {Q : wQ} {L : List (Option Value)} {st : List Value} {w : aw} {cn sn : Nat}  : wp d 155 Q 159 L st w cn sn = wp d 155 Q 161 L (.int 48 :: st) w cn sn := w_bipush d_155_159 (by decide)
theorem d_155_161 : decode (mB 155) 161 = .ok (.if_icmp .lt 15, 3) := by decide +kernel
theorem s_155_161 {d : Nat} {Q : wQ} {L : List (Option Value)} {st : List Value} {w : aw} {cn sn : Nat} {a b : Int32} : wp d 155 Q 161 L (.int b :: .int a :: st) w cn sn = ((a < b → wp d 155 Q 176 L st w cn sn) ∧ (¬ a < b → wp d 155 Q 164 L st w cn sn)) := w_iclt d_155_161 (by decide)
theorem d_155_164 : decode (mB 155) 164 = .ok (.aload_n 0, 1) := by decide +kernel
theorem s_155_164 {d : Nat} {Q : wQ} {L : List (Option Value)} {st : List Value} {w : aw} {cn sn : Nat} {v : Nat} : wp d 155 Q 164 (some (.ref v) :: L) st w cn sn = wp d 155 Q 165 (some (.ref v) :: L) (.ref v :: st) w cn sn := w_aload_n d_155_164 rfl
theorem d_155_165 : decode (mB 155) 165 = .ok (.getfield 72, 3) := by decide +kernel
theorem s_155_165 {d : Nat} {Q : wQ} {L : List (Option Value)} {st : List Value} {w : aw} {cn sn : Nat} {a : Nat} : wp d 155 Q 165 L (.ref a :: st) w cn sn = (kd w a = 9 ∧ wp d 155 Q 168 L (fd w 542 a :: st) w cn sn) := w_getfield d_155_165 (by decide +kernel : fT (mO 155) 72 = some (8, 30))
theorem d_155_168 : decode (mB 155) 168 = .ok (.iload 4, 2) := by decide +kernel
theorem s_155_168 {d : Nat} {Q : wQ} {L : List (Option Value)} {st : List Value} {w : aw} {cn sn : Nat} {a0 a1 a2 a3 : Option Value} {v : Int32} : wp d 155 Q 168 (a0 :: a1 :: a2 :: a3 :: some (.int v) :: L) st w cn sn = wp d 155 Q 170 (a0 :: a1 :: a2 :: a3 :: some (.int v) :: L) (.int v :: st) w cn sn := w_iload d_155_168 rfl
theorem d_155_170 : decode (mB 155) 170 = .ok (.iaload, 1) := by decide +kernel
theorem s_155_170 {d : Nat} {Q : wQ} {L : List (Option Value)} {st : List Value} {w : aw} {cn sn : Nat} {a : Nat} {i : Int32} : wp d 155 Q 170 L (.int i :: .ref a :: st) w cn sn = ((kd w a = 20 ∨ kd w a = 30) ∧ inR i (ln w a) ∧ wp d 155 Q 171 L (.int (ai w a i.toNatClampNeg) :: st) w cn sn) := wp_row d_155_170 _ _ _ _ _
theorem d_155_171 : decode (mB 155) 171 = .ok (.bipush 55, 2) := by decide +kernel
theorem s_155_171 {d : Nat} {Q : wQ} {L : List (Option Value)} {st : List Value} {w : aw} {cn sn : Nat}  : wp d 155 Q 171 L st w cn sn = wp d 155 Q 173 L (.int 55 :: st) w cn sn := w_bipush d_155_171 (by decide)
theorem d_155_173 : decode (mB 155) 173 = .ok (.if_icmp .le 5, 3) := by decide +kernel
theorem s_155_173 {d : Nat} {Q : wQ} {L : List (Option Value)} {st : List Value} {w : aw} {cn sn : Nat} {a b : Int32} : wp d 155 Q 173 L (.int b :: .int a :: st) w cn sn = ((a ≤ b → wp d 155 Q 178 L st w cn sn) ∧ (¬ a ≤ b → wp d 155 Q 176 L st w cn sn)) := w_icle d_155_173 (by decide)
theorem d_155_176 : decode (mB 155) 176 = .ok (.iconst 0, 1) := by decide +kernel
theorem s_155_176 {d : Nat} {Q : wQ} {L : List (Option Value)} {st : List Value} {w : aw} {cn sn : Nat}  : wp d 155 Q 176 L st w cn sn = wp d 155 Q 177 L (.int 0 :: st) w cn sn := w_iconst d_155_176 (by decide)
theorem d_155_177 : decode (mB 155) 177 = .ok (.ireturn, 1) := by decide +kernel
theorem s_155_177 {d : Nat} {Q : wQ} {L : List (Option Value)} {w : aw} {cn sn : Nat} {v : Int32} : wp d 155 Q 177 L [.int v] w cn sn = (narrow .boolean (.int v) = .int v ∧ Q (some (.int v)) w) := w_zreturn d_155_177 rfl
theorem d_155_178 : decode (mB 155) 178 = .ok (.bipush 8, 2) := by decide +kernel
theorem s_155_178 {d : Nat} {Q : wQ} {L : List (Option Value)} {st : List Value} {w : aw} {cn sn : Nat}  : wp d 155 Q 178 L st w cn sn = wp d 155 Q 180 L (.int 8 :: st) w cn sn := w_bipush d_155_178 (by decide)
theorem d_155_180 : decode (mB 155) 180 = .ok (.iload_n 2, 1) := by decide +kernel
theorem s_155_180 {d : Nat} {Q : wQ} {L : List (Option Value)} {st : List Value} {w : aw} {cn sn : Nat} {a0 a1 : Option Value} {v : Int32} : wp d 155 Q 180 (a0 :: a1 :: some (.int v) :: L) st w cn sn = wp d 155 Q 181 (a0 :: a1 :: some (.int v) :: L) (.int v :: st) w cn sn := w_iload_n d_155_180 rfl
theorem d_155_181 : decode (mB 155) 181 = .ok (.imul, 1) := by decide +kernel
theorem s_155_181 {d : Nat} {Q : wQ} {L : List (Option Value)} {st : List Value} {w : aw} {cn sn : Nat} {a b : Int32} : wp d 155 Q 181 L (.int b :: .int a :: st) w cn sn = wp d 155 Q 182 L (.int (a * b) :: st) w cn sn := wp_row d_155_181 _ _ _ _ _
theorem d_155_182 : decode (mB 155) 182 = .ok (.aload_n 0, 1) := by decide +kernel
theorem s_155_182 {d : Nat} {Q : wQ} {L : List (Option Value)} {st : List Value} {w : aw} {cn sn : Nat} {v : Nat} : wp d 155 Q 182 (some (.ref v) :: L) st w cn sn = wp d 155 Q 183 (some (.ref v) :: L) (.ref v :: st) w cn sn := w_aload_n d_155_182 rfl
theorem d_155_183 : decode (mB 155) 183 = .ok (.getfield 72, 3) := by decide +kernel
theorem s_155_183 {d : Nat} {Q : wQ} {L : List (Option Value)} {st : List Value} {w : aw} {cn sn : Nat} {a : Nat} : wp d 155 Q 183 L (.ref a :: st) w cn sn = (kd w a = 9 ∧ wp d 155 Q 186 L (fd w 542 a :: st) w cn sn) := w_getfield d_155_183 (by decide +kernel : fT (mO 155) 72 = some (8, 30))
theorem d_155_186 : decode (mB 155) 186 = .ok (.iload 4, 2) := by decide +kernel
theorem s_155_186 {d : Nat} {Q : wQ} {L : List (Option Value)} {st : List Value} {w : aw} {cn sn : Nat} {a0 a1 a2 a3 : Option Value} {v : Int32} : wp d 155 Q 186 (a0 :: a1 :: a2 :: a3 :: some (.int v) :: L) st w cn sn = wp d 155 Q 188 (a0 :: a1 :: a2 :: a3 :: some (.int v) :: L) (.int v :: st) w cn sn := w_iload d_155_186 rfl
theorem d_155_188 : decode (mB 155) 188 = .ok (.iaload, 1) := by decide +kernel
theorem s_155_188 {d : Nat} {Q : wQ} {L : List (Option Value)} {st : List Value} {w : aw} {cn sn : Nat} {a : Nat} {i : Int32} : wp d 155 Q 188 L (.int i :: .ref a :: st) w cn sn = ((kd w a = 20 ∨ kd w a = 30) ∧ inR i (ln w a) ∧ wp d 155 Q 189 L (.int (ai w a i.toNatClampNeg) :: st) w cn sn) := wp_row d_155_188 _ _ _ _ _
theorem d_155_189 : decode (mB 155) 189 = .ok (.iadd, 1) := by decide +kernel
theorem s_155_189 {d : Nat} {Q : wQ} {L : List (Option Value)} {st : List Value} {w : aw} {cn sn : Nat} {a b : Int32} : wp d 155 Q 189 L (.int b :: .int a :: st) w cn sn = wp d 155 Q 190 L (.int (a + b) :: st) w cn sn := wp_row d_155_189 _ _ _ _ _
theorem d_155_190 : decode (mB 155) 190 = .ok (.bipush 48, 2) := by decide +kernel
theorem s_155_190 {d : Nat} {Q : wQ} {L : List (Option Value)} {st : List Value} {w : aw} {cn sn : Nat}  : wp d 155 Q 190 L st w cn sn = wp d 155 Q 192 L (.int 48 :: st) w cn sn := w_bipush d_155_190 (by decide)
theorem d_155_192 : decode (mB 155) 192 = .ok (.isub, 1) := by decide +kernel
theorem s_155_192 {d : Nat} {Q : wQ} {L : List (Option Value)} {st : List Value} {w : aw} {cn sn : Nat} {a b : Int32} : wp d 155 Q 192 L (.int b :: .int a :: st) w cn sn = wp d 155 Q 193 L (.int (a - b) :: st) w cn sn := wp_row d_155_192 _ _ _ _ _
theorem d_155_193 : decode (mB 155) 193 = .ok (.istore_n 2, 1) := by decide +kernel
theorem s_155_193 {d : Nat} {Q : wQ} {L : List (Option Value)} {st : List Value} {w : aw} {cn sn : Nat} {a0 a1 a2 : Option Value} {v : Int32} : wp d 155 Q 193 (a0 :: a1 :: a2 :: L) (.int v :: st) w cn sn = wp d 155 Q 194 (a0 :: clr a1 :: some (.int v) :: L) st w cn sn := w_istore_n d_155_193 (Nat.le_add_left 3 _) rfl
theorem d_155_194 : decode (mB 155) 194 = .ok (.iinc 4 1, 3) := by decide +kernel
theorem s_155_194 {d : Nat} {Q : wQ} {L : List (Option Value)} {st : List Value} {w : aw} {cn sn : Nat} {a0 a1 a2 a3 : Option Value} {v : Int32} : wp d 155 Q 194 (a0 :: a1 :: a2 :: a3 :: some (.int v) :: L) st w cn sn = wp d 155 Q 197 (a0 :: a1 :: a2 :: clr a3 :: some (.int (v + 1)) :: L) st w cn sn := w_iinc d_155_194 rfl (by decide) rfl
theorem d_155_197 : decode (mB 155) 197 = .ok (.goto (-51), 3) := by decide +kernel
theorem s_155_197 {d : Nat} {Q : wQ} {L : List (Option Value)} {st : List Value} {w : aw} {cn sn : Nat}  : wp d 155 Q 197 L st w cn sn = wp d 155 Q 146 L st w cn sn := w_goto d_155_197 (by decide)
theorem d_155_200 : decode (mB 155) 200 = .ok (.aload_n 0, 1) := by decide +kernel
theorem s_155_200 {d : Nat} {Q : wQ} {L : List (Option Value)} {st : List Value} {w : aw} {cn sn : Nat} {v : Nat} : wp d 155 Q 200 (some (.ref v) :: L) st w cn sn = wp d 155 Q 201 (some (.ref v) :: L) (.ref v :: st) w cn sn := w_aload_n d_155_200 rfl
theorem d_155_201 : decode (mB 155) 201 = .ok (.iload_n 3, 1) := by decide +kernel
theorem s_155_201 {d : Nat} {Q : wQ} {L : List (Option Value)} {st : List Value} {w : aw} {cn sn : Nat} {a0 a1 a2 : Option Value} {v : Int32} : wp d 155 Q 201 (a0 :: a1 :: a2 :: some (.int v) :: L) st w cn sn = wp d 155 Q 202 (a0 :: a1 :: a2 :: some (.int v) :: L) (.int v :: st) w cn sn := w_iload_n d_155_201 rfl
theorem d_155_202 : decode (mB 155) 202 = .ok (.putfield 231, 3) := by decide +kernel
theorem s_155_202 {d : Nat} {Q : wQ} {L : List (Option Value)} {st : List Value} {w : aw} {cn sn : Nat} {x : Int32} {a : Nat} : wp d 155 Q 202 L (.int x :: .ref a :: st) w cn sn = (kd w a = 9 ∧ wp d 155 Q 205 L st (uF w 555 a (.int x)) cn sn) := w_putfield d_155_202 (by decide +kernel : fT (mO 155) 231 = some (8, 43)) (by decide +kernel) ok_int
theorem d_155_205 : decode (mB 155) 205 = .ok (.aload_n 0, 1) := by decide +kernel
theorem s_155_205 {d : Nat} {Q : wQ} {L : List (Option Value)} {st : List Value} {w : aw} {cn sn : Nat} {v : Nat} : wp d 155 Q 205 (some (.ref v) :: L) st w cn sn = wp d 155 Q 206 (some (.ref v) :: L) (.ref v :: st) w cn sn := w_aload_n d_155_205 rfl
theorem d_155_206 : decode (mB 155) 206 = .ok (.aload_n 0, 1) := by decide +kernel
theorem s_155_206 {d : Nat} {Q : wQ} {L : List (Option Value)} {st : List Value} {w : aw} {cn sn : Nat} {v : Nat} : wp d 155 Q 206 (some (.ref v) :: L) st w cn sn = wp d 155 Q 207 (some (.ref v) :: L) (.ref v :: st) w cn sn := w_aload_n d_155_206 rfl
theorem d_155_207 : decode (mB 155) 207 = .ok (.getfield 261, 3) := by decide +kernel
theorem s_155_207 {d : Nat} {Q : wQ} {L : List (Option Value)} {st : List Value} {w : aw} {cn sn : Nat} {a : Nat} : wp d 155 Q 207 L (.ref a :: st) w cn sn = (kd w a = 9 ∧ wp d 155 Q 210 L (fd w 557 a :: st) w cn sn) := w_getfield d_155_207 (by decide +kernel : fT (mO 155) 261 = some (8, 45))
theorem d_155_210 : decode (mB 155) 210 = .ok (.iload_n 1, 1) := by decide +kernel
theorem s_155_210 {d : Nat} {Q : wQ} {L : List (Option Value)} {st : List Value} {w : aw} {cn sn : Nat} {a0 : Option Value} {v : Int32} : wp d 155 Q 210 (a0 :: some (.int v) :: L) st w cn sn = wp d 155 Q 211 (a0 :: some (.int v) :: L) (.int v :: st) w cn sn := w_iload_n d_155_210 rfl
theorem d_155_211 : decode (mB 155) 211 = .ok (.iload_n 2, 1) := by decide +kernel
theorem s_155_211 {d : Nat} {Q : wQ} {L : List (Option Value)} {st : List Value} {w : aw} {cn sn : Nat} {a0 a1 : Option Value} {v : Int32} : wp d 155 Q 211 (a0 :: a1 :: some (.int v) :: L) st w cn sn = wp d 155 Q 212 (a0 :: a1 :: some (.int v) :: L) (.int v :: st) w cn sn := w_iload_n d_155_211 rfl
theorem d_155_212 : decode (mB 155) 212 = .ok (.imul, 1) := by decide +kernel
theorem s_155_212 {d : Nat} {Q : wQ} {L : List (Option Value)} {st : List Value} {w : aw} {cn sn : Nat} {a b : Int32} : wp d 155 Q 212 L (.int b :: .int a :: st) w cn sn = wp d 155 Q 213 L (.int (a * b) :: st) w cn sn := wp_row d_155_212 _ _ _ _ _
theorem d_155_213 : decode (mB 155) 213 = .ok (.iadd, 1) := by decide +kernel
theorem s_155_213 {d : Nat} {Q : wQ} {L : List (Option Value)} {st : List Value} {w : aw} {cn sn : Nat} {a b : Int32} : wp d 155 Q 213 L (.int b :: .int a :: st) w cn sn = wp d 155 Q 214 L (.int (a + b) :: st) w cn sn := wp_row d_155_213 _ _ _ _ _
theorem d_155_214 : decode (mB 155) 214 = .ok (.sipush 4095, 3) := by decide +kernel
theorem s_155_214 {d : Nat} {Q : wQ} {L : List (Option Value)} {st : List Value} {w : aw} {cn sn : Nat}  : wp d 155 Q 214 L st w cn sn = wp d 155 Q 217 L (.int 4095 :: st) w cn sn := w_sipush d_155_214 (by decide)
theorem d_155_217 : decode (mB 155) 217 = .ok (.iand, 1) := by decide +kernel
theorem s_155_217 {d : Nat} {Q : wQ} {L : List (Option Value)} {st : List Value} {w : aw} {cn sn : Nat} {a b : Int32} : wp d 155 Q 217 L (.int b :: .int a :: st) w cn sn = wp d 155 Q 218 L (.int (a &&& b) :: st) w cn sn := wp_row d_155_217 _ _ _ _ _
theorem d_155_218 : decode (mB 155) 218 = .ok (.putfield 261, 3) := by decide +kernel
theorem s_155_218 {d : Nat} {Q : wQ} {L : List (Option Value)} {st : List Value} {w : aw} {cn sn : Nat} {x : Int32} {a : Nat} : wp d 155 Q 218 L (.int x :: .ref a :: st) w cn sn = (kd w a = 9 ∧ wp d 155 Q 221 L st (uF w 557 a (.int x)) cn sn) := w_putfield d_155_218 (by decide +kernel : fT (mO 155) 261 = some (8, 45)) (by decide +kernel) ok_int
theorem d_155_221 : decode (mB 155) 221 = .ok (.iconst 1, 1) := by decide +kernel
theorem s_155_221 {d : Nat} {Q : wQ} {L : List (Option Value)} {st : List Value} {w : aw} {cn sn : Nat}  : wp d 155 Q 221 L st w cn sn = wp d 155 Q 222 L (.int 1 :: st) w cn sn := w_iconst d_155_221 (by decide)
theorem d_155_222 : decode (mB 155) 222 = .ok (.ireturn, 1) := by decide +kernel
theorem s_155_222 {d : Nat} {Q : wQ} {L : List (Option Value)} {w : aw} {cn sn : Nat} {v : Int32} : wp d 155 Q 222 L [.int v] w cn sn = (narrow .boolean (.int v) = .int v ∧ Q (some (.int v)) w) := w_zreturn d_155_222 rfl
theorem d_156_0 : decode (mB 156) 0 = .ok (.aload_n 0, 1) := by decide +kernel
theorem s_156_0 {d : Nat} {Q : wQ} {L : List (Option Value)} {st : List Value} {w : aw} {cn sn : Nat} {v : Nat} : wp d 156 Q 0 (some (.ref v) :: L) st w cn sn = wp d 156 Q 1 (some (.ref v) :: L) (.ref v :: st) w cn sn := w_aload_n d_156_0 rfl
theorem d_156_1 : decode (mB 156) 1 = .ok (.iconst 0, 1) := by decide +kernel
theorem s_156_1 {d : Nat} {Q : wQ} {L : List (Option Value)} {st : List Value} {w : aw} {cn sn : Nat}  : wp d 156 Q 1 L st w cn sn = wp d 156 Q 2 L (.int 0 :: st) w cn sn := w_iconst d_156_1 (by decide)
theorem d_156_2 : decode (mB 156) 2 = .ok (.putfield 261, 3) := by decide +kernel
theorem s_156_2 {d : Nat} {Q : wQ} {L : List (Option Value)} {st : List Value} {w : aw} {cn sn : Nat} {x : Int32} {a : Nat} : wp d 156 Q 2 L (.int x :: .ref a :: st) w cn sn = (kd w a = 9 ∧ wp d 156 Q 5 L st (uF w 557 a (.int x)) cn sn) := w_putfield d_156_2 (by decide +kernel : fT (mO 156) 261 = some (8, 45)) (by decide +kernel) ok_int
theorem d_156_5 : decode (mB 156) 5 = .ok (.aload_n 0, 1) := by decide +kernel
theorem s_156_5 {d : Nat} {Q : wQ} {L : List (Option Value)} {st : List Value} {w : aw} {cn sn : Nat} {v : Nat} : wp d 156 Q 5 (some (.ref v) :: L) st w cn sn = wp d 156 Q 6 (some (.ref v) :: L) (.ref v :: st) w cn sn := w_aload_n d_156_5 rfl
theorem d_156_6 : decode (mB 156) 6 = .ok (.iconst 1, 1) := by decide +kernel
theorem s_156_6 {d : Nat} {Q : wQ} {L : List (Option Value)} {st : List Value} {w : aw} {cn sn : Nat}  : wp d 156 Q 6 L st w cn sn = wp d 156 Q 7 L (.int 1 :: st) w cn sn := w_iconst d_156_6 (by decide)
theorem d_156_7 : decode (mB 156) 7 = .ok (.putfield 257, 3) := by decide +kernel
theorem s_156_7 {d : Nat} {Q : wQ} {L : List (Option Value)} {st : List Value} {w : aw} {cn sn : Nat} {x : Int32} {a : Nat} : wp d 156 Q 7 L (.int x :: .ref a :: st) w cn sn = (kd w a = 9 ∧ okv .boolean (.int x) ∧ wp d 156 Q 10 L st (uF w 558 a (.int x)) cn sn) := w_putfieldC d_156_7 (by decide +kernel : fT (mO 156) 257 = some (8, 46)) (by decide +kernel)
theorem d_156_10 : decode (mB 156) 10 = .ok (.aload_n 0, 1) := by decide +kernel
theorem s_156_10 {d : Nat} {Q : wQ} {L : List (Option Value)} {st : List Value} {w : aw} {cn sn : Nat} {v : Nat} : wp d 156 Q 10 (some (.ref v) :: L) st w cn sn = wp d 156 Q 11 (some (.ref v) :: L) (.ref v :: st) w cn sn := w_aload_n d_156_10 rfl
theorem d_156_11 : decode (mB 156) 11 = .ok (.aload_n 0, 1) := by decide +kernel
theorem s_156_11 {d : Nat} {Q : wQ} {L : List (Option Value)} {st : List Value} {w : aw} {cn sn : Nat} {v : Nat} : wp d 156 Q 11 (some (.ref v) :: L) st w cn sn = wp d 156 Q 12 (some (.ref v) :: L) (.ref v :: st) w cn sn := w_aload_n d_156_11 rfl
theorem d_156_12 : decode (mB 156) 12 = .ok (.getfield 231, 3) := by decide +kernel
theorem s_156_12 {d : Nat} {Q : wQ} {L : List (Option Value)} {st : List Value} {w : aw} {cn sn : Nat} {a : Nat} : wp d 156 Q 12 L (.ref a :: st) w cn sn = (kd w a = 9 ∧ wp d 156 Q 15 L (fd w 555 a :: st) w cn sn) := w_getfield d_156_12 (by decide +kernel : fT (mO 156) 231 = some (8, 43))
theorem d_156_15 : decode (mB 156) 15 = .ok (.invokevirtual 237, 3) := by decide +kernel
theorem s_156_15 {d : Nat} {Q : wQ} {L : List (Option Value)} {st : List Value} {w : aw} {cn sn : Nat} {v0 : Value} {b : Nat} : wp d 156 Q 15 L (v0 :: .ref b :: st) w cn sn = (kd w b = 9 ∧ catS st ≤ 8 ∧ wpD d 145 [.ref b, v0] w (fun v w' => wp d 156 Q 18 L (v.toList ++ st) w' cn sn)) := w_virtual (As := [v0]) d_156_15 (by decide +kernel : cT (mO 156) 237 = some (0, 145)) rfl (by decide +kernel) rfl (by decide +kernel) rfl
theorem d_156_18 : decode (mB 156) 18 = .ok (.bipush 45, 2) := by decide +kernel
theorem s_156_18 {d : Nat} {Q : wQ} {L : List (Option Value)} {st : List Value} {w : aw} {cn sn : Nat}  : wp d 156 Q 18 L st w cn sn = wp d 156 Q 20 L (.int 45 :: st) w cn sn := w_bipush d_156_18 (by decide)
theorem d_156_20 : decode (mB 156) 20 = .ok (.if_icmp .ne 7, 3) := by decide +kernel
theorem s_156_20 {d : Nat} {Q : wQ} {L : List (Option Value)} {st : List Value} {w : aw} {cn sn : Nat} {a b : Int32} : wp d 156 Q 20 L (.int b :: .int a :: st) w cn sn = ((¬ a = b → wp d 156 Q 27 L st w cn sn) ∧ (a = b → wp d 156 Q 23 L st w cn sn)) := w_icne d_156_20 (by decide)
theorem d_156_23 : decode (mB 156) 23 = .ok (.iconst 1, 1) := by decide +kernel
theorem s_156_23 {d : Nat} {Q : wQ} {L : List (Option Value)} {st : List Value} {w : aw} {cn sn : Nat}  : wp d 156 Q 23 L st w cn sn = wp d 156 Q 24 L (.int 1 :: st) w cn sn := w_iconst d_156_23 (by decide)
theorem d_156_24 : decode (mB 156) 24 = .ok (.goto 4, 3) := by decide +kernel
theorem s_156_24 {d : Nat} {Q : wQ} {L : List (Option Value)} {st : List Value} {w : aw} {cn sn : Nat}  : wp d 156 Q 24 L st w cn sn = wp d 156 Q 28 L st w cn sn := w_goto d_156_24 (by decide)
theorem d_156_27 : decode (mB 156) 27 = .ok (.iconst 0, 1) := by decide +kernel
theorem s_156_27 {d : Nat} {Q : wQ} {L : List (Option Value)} {st : List Value} {w : aw} {cn sn : Nat}  : wp d 156 Q 27 L st w cn sn = wp d 156 Q 28 L (.int 0 :: st) w cn sn := w_iconst d_156_27 (by decide)
theorem d_156_28 : decode (mB 156) 28 = .ok (.istore_n 1, 1) := by decide +kernel
theorem s_156_28 {d : Nat} {Q : wQ} {L : List (Option Value)} {st : List Value} {w : aw} {cn sn : Nat} {a0 a1 : Option Value} {v : Int32} : wp d 156 Q 28 (a0 :: a1 :: L) (.int v :: st) w cn sn = wp d 156 Q 29 (clr a0 :: some (.int v) :: L) st w cn sn := w_istore_n d_156_28 (Nat.le_add_left 2 _) rfl
theorem d_156_29 : decode (mB 156) 29 = .ok (.iload_n 1, 1) := by decide +kernel
theorem s_156_29 {d : Nat} {Q : wQ} {L : List (Option Value)} {st : List Value} {w : aw} {cn sn : Nat} {a0 : Option Value} {v : Int32} : wp d 156 Q 29 (a0 :: some (.int v) :: L) st w cn sn = wp d 156 Q 30 (a0 :: some (.int v) :: L) (.int v :: st) w cn sn := w_iload_n d_156_29 rfl
theorem d_156_30 : decode (mB 156) 30 = .ok (.ifCond .eq 13, 3) := by decide +kernel
theorem s_156_30 {d : Nat} {Q : wQ} {L : List (Option Value)} {st : List Value} {w : aw} {cn sn : Nat} {x : Int32} : wp d 156 Q 30 L (.int x :: st) w cn sn = ((x = 0 → wp d 156 Q 43 L st w cn sn) ∧ (¬ x = 0 → wp d 156 Q 33 L st w cn sn)) := w_ifeq d_156_30 (by decide)
theorem d_156_33 : decode (mB 156) 33 = .ok (.aload_n 0, 1) := by decide +kernel
theorem s_156_33 {d : Nat} {Q : wQ} {L : List (Option Value)} {st : List Value} {w : aw} {cn sn : Nat} {v : Nat} : wp d 156 Q 33 (some (.ref v) :: L) st w cn sn = wp d 156 Q 34 (some (.ref v) :: L) (.ref v :: st) w cn sn := w_aload_n d_156_33 rfl
theorem d_156_34 : decode (mB 156) 34 = .ok (.dup, 1) := by decide +kernel
theorem s_156_34 {d : Nat} {Q : wQ} {L : List (Option Value)} {st : List Value} {w : aw} {cn sn : Nat} {v : Value} : wp d 156 Q 34 L (v :: st) w cn sn = (v.category = 1 ∧ wp d 156 Q 35 L (v :: v :: st) w cn sn) := wp_row d_156_34 _ _ _ _ _
theorem d_156_35 : decode (mB 156) 35 = .ok (.getfield 231, 3) := by decide +kernel
theorem s_156_35 {d : Nat} {Q : wQ} {L : List (Option Value)} {st : List Value} {w : aw} {cn sn : Nat} {a : Nat} : wp d 156 Q 35 L (.ref a :: st) w cn sn = (kd w a = 9 ∧ wp d 156 Q 38 L (fd w 555 a :: st) w cn sn) := w_getfield d_156_35 (by decide +kernel : fT (mO 156) 231 = some (8, 43))
theorem d_156_38 : decode (mB 156) 38 = .ok (.iconst 1, 1) := by decide +kernel
theorem s_156_38 {d : Nat} {Q : wQ} {L : List (Option Value)} {st : List Value} {w : aw} {cn sn : Nat}  : wp d 156 Q 38 L st w cn sn = wp d 156 Q 39 L (.int 1 :: st) w cn sn := w_iconst d_156_38 (by decide)
theorem d_156_39 : decode (mB 156) 39 = .ok (.iadd, 1) := by decide +kernel
theorem s_156_39 {d : Nat} {Q : wQ} {L : List (Option Value)} {st : List Value} {w : aw} {cn sn : Nat} {a b : Int32} : wp d 156 Q 39 L (.int b :: .int a :: st) w cn sn = wp d 156 Q 40 L (.int (a + b) :: st) w cn sn := wp_row d_156_39 _ _ _ _ _
theorem d_156_40 : decode (mB 156) 40 = .ok (.putfield 231, 3) := by decide +kernel
theorem s_156_40 {d : Nat} {Q : wQ} {L : List (Option Value)} {st : List Value} {w : aw} {cn sn : Nat} {x : Int32} {a : Nat} : wp d 156 Q 40 L (.int x :: .ref a :: st) w cn sn = (kd w a = 9 ∧ wp d 156 Q 43 L st (uF w 555 a (.int x)) cn sn) := w_putfield d_156_40 (by decide +kernel : fT (mO 156) 231 = some (8, 43)) (by decide +kernel) ok_int
theorem d_156_43 : decode (mB 156) 43 = .ok (.aload_n 0, 1) := by decide +kernel
theorem s_156_43 {d : Nat} {Q : wQ} {L : List (Option Value)} {st : List Value} {w : aw} {cn sn : Nat} {v : Nat} : wp d 156 Q 43 (some (.ref v) :: L) st w cn sn = wp d 156 Q 44 (some (.ref v) :: L) (.ref v :: st) w cn sn := w_aload_n d_156_43 rfl
theorem d_156_44 : decode (mB 156) 44 = .ok (.iload_n 1, 1) := by decide +kernel
theorem s_156_44 {d : Nat} {Q : wQ} {L : List (Option Value)} {st : List Value} {w : aw} {cn sn : Nat} {a0 : Option Value} {v : Int32} : wp d 156 Q 44 (a0 :: some (.int v) :: L) st w cn sn = wp d 156 Q 45 (a0 :: some (.int v) :: L) (.int v :: st) w cn sn := w_iload_n d_156_44 rfl
theorem d_156_45 : decode (mB 156) 45 = .ok (.ifCond .eq 7, 3) := by decide +kernel
theorem s_156_45 {d : Nat} {Q : wQ} {L : List (Option Value)} {st : List Value} {w : aw} {cn sn : Nat} {x : Int32} : wp d 156 Q 45 L (.int x :: st) w cn sn = ((x = 0 → wp d 156 Q 52 L st w cn sn) ∧ (¬ x = 0 → wp d 156 Q 48 L st w cn sn)) := w_ifeq d_156_45 (by decide)
theorem d_156_48 : decode (mB 156) 48 = .ok (.iconst (-1), 1) := by decide +kernel
theorem s_156_48 {d : Nat} {Q : wQ} {L : List (Option Value)} {st : List Value} {w : aw} {cn sn : Nat}  : wp d 156 Q 48 L st w cn sn = wp d 156 Q 49 L (.int (-1) :: st) w cn sn := w_iconst d_156_48 (by decide)
theorem d_156_49 : decode (mB 156) 49 = .ok (.goto 4, 3) := by decide +kernel
theorem s_156_49 {d : Nat} {Q : wQ} {L : List (Option Value)} {st : List Value} {w : aw} {cn sn : Nat}  : wp d 156 Q 49 L st w cn sn = wp d 156 Q 53 L st w cn sn := w_goto d_156_49 (by decide)
theorem d_156_52 : decode (mB 156) 52 = .ok (.iconst 1, 1) := by decide +kernel
theorem s_156_52 {d : Nat} {Q : wQ} {L : List (Option Value)} {st : List Value} {w : aw} {cn sn : Nat}  : wp d 156 Q 52 L st w cn sn = wp d 156 Q 53 L (.int 1 :: st) w cn sn := w_iconst d_156_52 (by decide)
theorem d_156_53 : decode (mB 156) 53 = .ok (.invokevirtual 264, 3) := by decide +kernel
theorem s_156_53 {d : Nat} {Q : wQ} {L : List (Option Value)} {st : List Value} {w : aw} {cn sn : Nat} {v0 : Value} {b : Nat} : wp d 156 Q 53 L (v0 :: .ref b :: st) w cn sn = (kd w b = 9 ∧ catS st ≤ 8 ∧ wpD d 155 [.ref b, v0] w (fun v w' => wp d 156 Q 56 L (v.toList ++ st) w' cn sn)) := w_virtual (As := [v0]) d_156_53 (by decide +kernel : cT (mO 156) 264 = some (0, 155)) rfl (by decide +kernel) rfl (by decide +kernel) rfl
theorem d_156_56 : decode (mB 156) 56 = .ok (.istore_n 2, 1) := by decide +kernel
theorem s_156_56 {d : Nat} {Q : wQ} {L : List (Option Value)} {st : List Value} {w : aw} {cn sn : Nat} {a0 a1 a2 : Option Value} {v : Int32} : wp d 156 Q 56 (a0 :: a1 :: a2 :: L) (.int v :: st) w cn sn = wp d 156 Q 57 (a0 :: clr a1 :: some (.int v) :: L) st w cn sn := w_istore_n d_156_56 (Nat.le_add_left 3 _) rfl
theorem d_156_57 : decode (mB 156) 57 = .ok (.iload_n 2, 1) := by decide +kernel
theorem s_156_57 {d : Nat} {Q : wQ} {L : List (Option Value)} {st : List Value} {w : aw} {cn sn : Nat} {a0 a1 : Option Value} {v : Int32} : wp d 156 Q 57 (a0 :: a1 :: some (.int v) :: L) st w cn sn = wp d 156 Q 58 (a0 :: a1 :: some (.int v) :: L) (.int v :: st) w cn sn := w_iload_n d_156_57 rfl
theorem d_156_58 : decode (mB 156) 58 = .ok (.ifCond .eq 67, 3) := by decide +kernel
theorem s_156_58 {d : Nat} {Q : wQ} {L : List (Option Value)} {st : List Value} {w : aw} {cn sn : Nat} {x : Int32} : wp d 156 Q 58 L (.int x :: st) w cn sn = ((x = 0 → wp d 156 Q 125 L st w cn sn) ∧ (¬ x = 0 → wp d 156 Q 61 L st w cn sn)) := w_ifeq d_156_58 (by decide)
theorem d_156_61 : decode (mB 156) 61 = .ok (.aload_n 0, 1) := by decide +kernel
theorem s_156_61 {d : Nat} {Q : wQ} {L : List (Option Value)} {st : List Value} {w : aw} {cn sn : Nat} {v : Nat} : wp d 156 Q 61 (some (.ref v) :: L) st w cn sn = wp d 156 Q 62 (some (.ref v) :: L) (.ref v :: st) w cn sn := w_aload_n d_156_61 rfl
theorem d_156_62 : decode (mB 156) 62 = .ok (.aload_n 0, 1) := by decide +kernel
theorem s_156_62 {d : Nat} {Q : wQ} {L : List (Option Value)} {st : List Value} {w : aw} {cn sn : Nat} {v : Nat} : wp d 156 Q 62 (some (.ref v) :: L) st w cn sn = wp d 156 Q 63 (some (.ref v) :: L) (.ref v :: st) w cn sn := w_aload_n d_156_62 rfl
theorem d_156_63 : decode (mB 156) 63 = .ok (.getfield 231, 3) := by decide +kernel
theorem s_156_63 {d : Nat} {Q : wQ} {L : List (Option Value)} {st : List Value} {w : aw} {cn sn : Nat} {a : Nat} : wp d 156 Q 63 L (.ref a :: st) w cn sn = (kd w a = 9 ∧ wp d 156 Q 66 L (fd w 555 a :: st) w cn sn) := w_getfield d_156_63 (by decide +kernel : fT (mO 156) 231 = some (8, 43))
theorem d_156_66 : decode (mB 156) 66 = .ok (.invokevirtual 237, 3) := by decide +kernel
theorem s_156_66 {d : Nat} {Q : wQ} {L : List (Option Value)} {st : List Value} {w : aw} {cn sn : Nat} {v0 : Value} {b : Nat} : wp d 156 Q 66 L (v0 :: .ref b :: st) w cn sn = (kd w b = 9 ∧ catS st ≤ 8 ∧ wpD d 145 [.ref b, v0] w (fun v w' => wp d 156 Q 69 L (v.toList ++ st) w' cn sn)) := w_virtual (As := [v0]) d_156_66 (by decide +kernel : cT (mO 156) 237 = some (0, 145)) rfl (by decide +kernel) rfl (by decide +kernel) rfl
theorem d_156_69 : decode (mB 156) 69 = .ok (.bipush 43, 2) := by decide +kernel
theorem s_156_69 {d : Nat} {Q : wQ} {L : List (Option Value)} {st : List Value} {w : aw} {cn sn : Nat}  : wp d 156 Q 69 L st w cn sn = wp d 156 Q 71 L (.int 43 :: st) w cn sn := w_bipush d_156_69 (by decide)
theorem d_156_71 : decode (mB 156) 71 = .ok (.if_icmp .eq 16, 3) := by decide +kernel
theorem s_156_71 {d : Nat} {Q : wQ} {L : List (Option Value)} {st : List Value} {w : aw} {cn sn : Nat} {a b : Int32} : wp d 156 Q 71 L (.int b :: .int a :: st) w cn sn = ((a = b → wp d 156 Q 87 L st w cn sn) ∧ (¬ a = b → wp d 156 Q 74 L st w cn sn)) := w_iceq d_156_71 (by decide)
theorem d_156_74 : decode (mB 156) 74 = .ok (.aload_n 0, 1) := by decide +kernel
theorem s_156_74 {d : Nat} {Q : wQ} {L : List (Option Value)} {st : List Value} {w : aw} {cn sn : Nat} {v : Nat} : wp d 156 Q 74 (some (.ref v) :: L) st w cn sn = wp d 156 Q 75 (some (.ref v) :: L) (.ref v :: st) w cn sn := w_aload_n d_156_74 rfl
theorem d_156_75 : decode (mB 156) 75 = .ok (.aload_n 0, 1) := by decide +kernel
theorem s_156_75 {d : Nat} {Q : wQ} {L : List (Option Value)} {st : List Value} {w : aw} {cn sn : Nat} {v : Nat} : wp d 156 Q 75 (some (.ref v) :: L) st w cn sn = wp d 156 Q 76 (some (.ref v) :: L) (.ref v :: st) w cn sn := w_aload_n d_156_75 rfl
theorem d_156_76 : decode (mB 156) 76 = .ok (.getfield 231, 3) := by decide +kernel
theorem s_156_76 {d : Nat} {Q : wQ} {L : List (Option Value)} {st : List Value} {w : aw} {cn sn : Nat} {a : Nat} : wp d 156 Q 76 L (.ref a :: st) w cn sn = (kd w a = 9 ∧ wp d 156 Q 79 L (fd w 555 a :: st) w cn sn) := w_getfield d_156_76 (by decide +kernel : fT (mO 156) 231 = some (8, 43))
theorem d_156_79 : decode (mB 156) 79 = .ok (.invokevirtual 237, 3) := by decide +kernel
theorem s_156_79 {d : Nat} {Q : wQ} {L : List (Option Value)} {st : List Value} {w : aw} {cn sn : Nat} {v0 : Value} {b : Nat} : wp d 156 Q 79 L (v0 :: .ref b :: st) w cn sn = (kd w b = 9 ∧ catS st ≤ 8 ∧ wpD d 145 [.ref b, v0] w (fun v w' => wp d 156 Q 82 L (v.toList ++ st) w' cn sn)) := w_virtual (As := [v0]) d_156_79 (by decide +kernel : cT (mO 156) 237 = some (0, 145)) rfl (by decide +kernel) rfl (by decide +kernel) rfl
theorem d_156_82 : decode (mB 156) 82 = .ok (.bipush 45, 2) := by decide +kernel
theorem s_156_82 {d : Nat} {Q : wQ} {L : List (Option Value)} {st : List Value} {w : aw} {cn sn : Nat}  : wp d 156 Q 82 L st w cn sn = wp d 156 Q 84 L (.int 45 :: st) w cn sn := w_bipush d_156_82 (by decide)
theorem d_156_84 : decode (mB 156) 84 = .ok (.if_icmp .ne 41, 3) := by decide +kernel
theorem s_156_84 {d : Nat} {Q : wQ} {L : List (Option Value)} {st : List Value} {w : aw} {cn sn : Nat} {a b : Int32} : wp d 156 Q 84 L (.int b :: .int a :: st) w cn sn = ((¬ a = b → wp d 156 Q 125 L st w cn sn) ∧ (a = b → wp d 156 Q 87 L st w cn sn)) := w_icne d_156_84 (by decide)
theorem d_156_87 : decode (mB 156) 87 = .ok (.aload_n 0, 1) := by decide +kernel
theorem s_156_87 {d : Nat} {Q : wQ} {L : List (Option Value)} {st : List Value} {w : aw} {cn sn : Nat} {v : Nat} : wp d 156 Q 87 (some (.ref v) :: L) st w cn sn = wp d 156 Q 88 (some (.ref v) :: L) (.ref v :: st) w cn sn := w_aload_n d_156_87 rfl
theorem d_156_88 : decode (mB 156) 88 = .ok (.dup, 1) := by decide +kernel
theorem s_156_88 {d : Nat} {Q : wQ} {L : List (Option Value)} {st : List Value} {w : aw} {cn sn : Nat} {v : Value} : wp d 156 Q 88 L (v :: st) w cn sn = (v.category = 1 ∧ wp d 156 Q 89 L (v :: v :: st) w cn sn) := wp_row d_156_88 _ _ _ _ _
theorem d_156_89 : decode (mB 156) 89 = .ok (.getfield 231, 3) := by decide +kernel
theorem s_156_89 {d : Nat} {Q : wQ} {L : List (Option Value)} {st : List Value} {w : aw} {cn sn : Nat} {a : Nat} : wp d 156 Q 89 L (.ref a :: st) w cn sn = (kd w a = 9 ∧ wp d 156 Q 92 L (fd w 555 a :: st) w cn sn) := w_getfield d_156_89 (by decide +kernel : fT (mO 156) 231 = some (8, 43))
theorem d_156_92 : decode (mB 156) 92 = .ok (.iconst 1, 1) := by decide +kernel
theorem s_156_92 {d : Nat} {Q : wQ} {L : List (Option Value)} {st : List Value} {w : aw} {cn sn : Nat}  : wp d 156 Q 92 L st w cn sn = wp d 156 Q 93 L (.int 1 :: st) w cn sn := w_iconst d_156_92 (by decide)
theorem d_156_93 : decode (mB 156) 93 = .ok (.iadd, 1) := by decide +kernel
theorem s_156_93 {d : Nat} {Q : wQ} {L : List (Option Value)} {st : List Value} {w : aw} {cn sn : Nat} {a b : Int32} : wp d 156 Q 93 L (.int b :: .int a :: st) w cn sn = wp d 156 Q 94 L (.int (a + b) :: st) w cn sn := wp_row d_156_93 _ _ _ _ _
theorem d_156_94 : decode (mB 156) 94 = .ok (.putfield 231, 3) := by decide +kernel
theorem s_156_94 {d : Nat} {Q : wQ} {L : List (Option Value)} {st : List Value} {w : aw} {cn sn : Nat} {x : Int32} {a : Nat} : wp d 156 Q 94 L (.int x :: .ref a :: st) w cn sn = (kd w a = 9 ∧ wp d 156 Q 97 L st (uF w 555 a (.int x)) cn sn) := w_putfield d_156_94 (by decide +kernel : fT (mO 156) 231 = some (8, 43)) (by decide +kernel) ok_int
theorem d_156_97 : decode (mB 156) 97 = .ok (.aload_n 0, 1) := by decide +kernel
theorem s_156_97 {d : Nat} {Q : wQ} {L : List (Option Value)} {st : List Value} {w : aw} {cn sn : Nat} {v : Nat} : wp d 156 Q 97 (some (.ref v) :: L) st w cn sn = wp d 156 Q 98 (some (.ref v) :: L) (.ref v :: st) w cn sn := w_aload_n d_156_97 rfl
theorem d_156_98 : decode (mB 156) 98 = .ok (.aload_n 0, 1) := by decide +kernel
theorem s_156_98 {d : Nat} {Q : wQ} {L : List (Option Value)} {st : List Value} {w : aw} {cn sn : Nat} {v : Nat} : wp d 156 Q 98 (some (.ref v) :: L) st w cn sn = wp d 156 Q 99 (some (.ref v) :: L) (.ref v :: st) w cn sn := w_aload_n d_156_98 rfl
theorem d_156_99 : decode (mB 156) 99 = .ok (.aload_n 0, 1) := by decide +kernel
theorem s_156_99 {d : Nat} {Q : wQ} {L : List (Option Value)} {st : List Value} {w : aw} {cn sn : Nat} {v : Nat} : wp d 156 Q 99 (some (.ref v) :: L) st w cn sn = wp d 156 Q 100 (some (.ref v) :: L) (.ref v :: st) w cn sn := w_aload_n d_156_99 rfl
theorem d_156_100 : decode (mB 156) 100 = .ok (.getfield 231, 3) := by decide +kernel
theorem s_156_100 {d : Nat} {Q : wQ} {L : List (Option Value)} {st : List Value} {w : aw} {cn sn : Nat} {a : Nat} : wp d 156 Q 100 L (.ref a :: st) w cn sn = (kd w a = 9 ∧ wp d 156 Q 103 L (fd w 555 a :: st) w cn sn) := w_getfield d_156_100 (by decide +kernel : fT (mO 156) 231 = some (8, 43))
theorem d_156_103 : decode (mB 156) 103 = .ok (.iconst 1, 1) := by decide +kernel
theorem s_156_103 {d : Nat} {Q : wQ} {L : List (Option Value)} {st : List Value} {w : aw} {cn sn : Nat}  : wp d 156 Q 103 L st w cn sn = wp d 156 Q 104 L (.int 1 :: st) w cn sn := w_iconst d_156_103 (by decide)
theorem d_156_104 : decode (mB 156) 104 = .ok (.isub, 1) := by decide +kernel
theorem s_156_104 {d : Nat} {Q : wQ} {L : List (Option Value)} {st : List Value} {w : aw} {cn sn : Nat} {a b : Int32} : wp d 156 Q 104 L (.int b :: .int a :: st) w cn sn = wp d 156 Q 105 L (.int (a - b) :: st) w cn sn := wp_row d_156_104 _ _ _ _ _
theorem d_156_105 : decode (mB 156) 105 = .ok (.invokevirtual 237, 3) := by decide +kernel
theorem s_156_105 {d : Nat} {Q : wQ} {L : List (Option Value)} {st : List Value} {w : aw} {cn sn : Nat} {v0 : Value} {b : Nat} : wp d 156 Q 105 L (v0 :: .ref b :: st) w cn sn = (kd w b = 9 ∧ catS st ≤ 8 ∧ wpD d 145 [.ref b, v0] w (fun v w' => wp d 156 Q 108 L (v.toList ++ st) w' cn sn)) := w_virtual (As := [v0]) d_156_105 (by decide +kernel : cT (mO 156) 237 = some (0, 145)) rfl (by decide +kernel) rfl (by decide +kernel) rfl
theorem d_156_108 : decode (mB 156) 108 = .ok (.bipush 45, 2) := by decide +kernel
theorem s_156_108 {d : Nat} {Q : wQ} {L : List (Option Value)} {st : List Value} {w : aw} {cn sn : Nat}  : wp d 156 Q 108 L st w cn sn = wp d 156 Q 110 L (.int 45 :: st) w cn sn := w_bipush d_156_108 (by decide)
theorem d_156_110 : decode (mB 156) 110 = .ok (.if_icmp .ne 7, 3) := by decide +kernel
theorem s_156_110 {d : Nat} {Q : wQ} {L : List (Option Value)} {st : List Value} {w : aw} {cn sn : Nat} {a b : Int32} : wp d 156 Q 110 L (.int b :: .int a :: st) w cn sn = ((¬ a = b → wp d 156 Q 117 L st w cn sn) ∧ (a = b → wp d 156 Q 113 L st w cn sn)) := w_icne d_156_110 (by decide)
theorem d_156_113 : decode (mB 156) 113 = .ok (.iconst (-1), 1) := by decide +kernel
theorem s_156_113 {d : Nat} {Q : wQ} {L : List (Option Value)} {st : List Value} {w : aw} {cn sn : Nat}  : wp d 156 Q 113 L st w cn sn = wp d 156 Q 114 L (.int (-1) :: st) w cn sn := w_iconst d_156_113 (by decide)
theorem d_156_114 : decode (mB 156) 114 = .ok (.goto 4, 3) := by decide +kernel
theorem s_156_114 {d : Nat} {Q : wQ} {L : List (Option Value)} {st : List Value} {w : aw} {cn sn : Nat}  : wp d 156 Q 114 L st w cn sn = wp d 156 Q 118 L st w cn sn := w_goto d_156_114 (by decide)
theorem d_156_117 : decode (mB 156) 117 = .ok (.iconst 1, 1) := by decide +kernel
theorem s_156_117 {d : Nat} {Q : wQ} {L : List (Option Value)} {st : List Value} {w : aw} {cn sn : Nat}  : wp d 156 Q 117 L st w cn sn = wp d 156 Q 118 L (.int 1 :: st) w cn sn := w_iconst d_156_117 (by decide)
theorem d_156_118 : decode (mB 156) 118 = .ok (.invokevirtual 264, 3) := by decide +kernel
theorem s_156_118 {d : Nat} {Q : wQ} {L : List (Option Value)} {st : List Value} {w : aw} {cn sn : Nat} {v0 : Value} {b : Nat} : wp d 156 Q 118 L (v0 :: .ref b :: st) w cn sn = (kd w b = 9 ∧ catS st ≤ 8 ∧ wpD d 155 [.ref b, v0] w (fun v w' => wp d 156 Q 121 L (v.toList ++ st) w' cn sn)) := w_virtual (As := [v0]) d_156_118 (by decide +kernel : cT (mO 156) 264 = some (0, 155)) rfl (by decide +kernel) rfl (by decide +kernel) rfl
theorem d_156_121 : decode (mB 156) 121 = .ok (.istore_n 2, 1) := by decide +kernel
theorem s_156_121 {d : Nat} {Q : wQ} {L : List (Option Value)} {st : List Value} {w : aw} {cn sn : Nat} {a0 a1 a2 : Option Value} {v : Int32} : wp d 156 Q 121 (a0 :: a1 :: a2 :: L) (.int v :: st) w cn sn = wp d 156 Q 122 (a0 :: clr a1 :: some (.int v) :: L) st w cn sn := w_istore_n d_156_121 (Nat.le_add_left 3 _) rfl
theorem d_156_122 : decode (mB 156) 122 = .ok (.goto (-65), 3) := by decide +kernel
theorem s_156_122 {d : Nat} {Q : wQ} {L : List (Option Value)} {st : List Value} {w : aw} {cn sn : Nat}  : wp d 156 Q 122 L st w cn sn = wp d 156 Q 57 L st w cn sn := w_goto d_156_122 (by decide)
theorem d_156_125 : decode (mB 156) 125 = .ok (.iload_n 2, 1) := by decide +kernel
theorem s_156_125 {d : Nat} {Q : wQ} {L : List (Option Value)} {st : List Value} {w : aw} {cn sn : Nat} {a0 a1 : Option Value} {v : Int32} : wp d 156 Q 125 (a0 :: a1 :: some (.int v) :: L) st w cn sn = wp d 156 Q 126 (a0 :: a1 :: some (.int v) :: L) (.int v :: st) w cn sn := w_iload_n d_156_125 rfl
theorem d_156_126 : decode (mB 156) 126 = .ok (.ireturn, 1) := by decide +kernel
theorem s_156_126 {d : Nat} {Q : wQ} {L : List (Option Value)} {w : aw} {cn sn : Nat} {v : Int32} : wp d 156 Q 126 L [.int v] w cn sn = (narrow .boolean (.int v) = .int v ∧ Q (some (.int v)) w) := w_zreturn d_156_126 rfl
theorem d_157_0 : decode (mB 157) 0 = .ok (.aload_n 0, 1) := by decide +kernel
theorem s_157_0 {d : Nat} {Q : wQ} {L : List (Option Value)} {st : List Value} {w : aw} {cn sn : Nat} {v : Nat} : wp d 157 Q 0 (some (.ref v) :: L) st w cn sn = wp d 157 Q 1 (some (.ref v) :: L) (.ref v :: st) w cn sn := w_aload_n d_157_0 rfl
theorem d_157_1 : decode (mB 157) 1 = .ok (.invokevirtual 267, 3) := by decide +kernel
theorem s_157_1 {d : Nat} {Q : wQ} {L : List (Option Value)} {st : List Value} {w : aw} {cn sn : Nat} {b : Nat} : wp d 157 Q 1 L (.ref b :: st) w cn sn = (kd w b = 9 ∧ catS st ≤ 8 ∧ wpD d 146 [.ref b] w (fun v w' => wp d 157 Q 4 L (v.toList ++ st) w' cn sn)) := w_virtual (As := []) d_157_1 (by decide +kernel : cT (mO 157) 267 = some (0, 146)) rfl (by decide +kernel) rfl (by decide +kernel) rfl
theorem d_157_4 : decode (mB 157) 4 = .ok (.aload_n 0, 1) := by decide +kernel
theorem s_157_4 {d : Nat} {Q : wQ} {L : List (Option Value)} {st : List Value} {w : aw} {cn sn : Nat} {v : Nat} : wp d 157 Q 4 (some (.ref v) :: L) st w cn sn = wp d 157 Q 5 (some (.ref v) :: L) (.ref v :: st) w cn sn := w_aload_n d_157_4 rfl
theorem d_157_5 : decode (mB 157) 5 = .ok (.getfield 231, 3) := by decide +kernel
theorem s_157_5 {d : Nat} {Q : wQ} {L : List (Option Value)} {st : List Value} {w : aw} {cn sn : Nat} {a : Nat} : wp d 157 Q 5 L (.ref a :: st) w cn sn = (kd w a = 9 ∧ wp d 157 Q 8 L (fd w 555 a :: st) w cn sn) := w_getfield d_157_5 (by decide +kernel : fT (mO 157) 231 = some (8, 43))
theorem d_157_8 : decode (mB 157) 8 = .ok (.aload_n 0, 1) := by decide +kernel
theorem s_157_8 {d : Nat} {Q : wQ} {L : List (Option Value)} {st : List Value} {w : aw} {cn sn : Nat} {v : Nat} : wp d 157 Q 8 (some (.ref v) :: L) st w cn sn = wp d 157 Q 9 (some (.ref v) :: L) (.ref v :: st) w cn sn := w_aload_n d_157_8 rfl
theorem d_157_9 : decode (mB 157) 9 = .ok (.getfield 228, 3) := by decide +kernel
theorem s_157_9 {d : Nat} {Q : wQ} {L : List (Option Value)} {st : List Value} {w : aw} {cn sn : Nat} {a : Nat} : wp d 157 Q 9 L (.ref a :: st) w cn sn = (kd w a = 9 ∧ wp d 157 Q 12 L (fd w 556 a :: st) w cn sn) := w_getfield d_157_9 (by decide +kernel : fT (mO 157) 228 = some (8, 44))
theorem d_157_12 : decode (mB 157) 12 = .ok (.if_icmp .lt 7, 3) := by decide +kernel
theorem s_157_12 {d : Nat} {Q : wQ} {L : List (Option Value)} {st : List Value} {w : aw} {cn sn : Nat} {a b : Int32} : wp d 157 Q 12 L (.int b :: .int a :: st) w cn sn = ((a < b → wp d 157 Q 19 L st w cn sn) ∧ (¬ a < b → wp d 157 Q 15 L st w cn sn)) := w_iclt d_157_12 (by decide)
theorem d_157_15 : decode (mB 157) 15 = .ok (.iconst 1, 1) := by decide +kernel
theorem s_157_15 {d : Nat} {Q : wQ} {L : List (Option Value)} {st : List Value} {w : aw} {cn sn : Nat}  : wp d 157 Q 15 L st w cn sn = wp d 157 Q 16 L (.int 1 :: st) w cn sn := w_iconst d_157_15 (by decide)
theorem d_157_16 : decode (mB 157) 16 = .ok (.goto 4, 3) := by decide +kernel
theorem s_157_16 {d : Nat} {Q : wQ} {L : List (Option Value)} {st : List Value} {w : aw} {cn sn : Nat}  : wp d 157 Q 16 L st w cn sn = wp d 157 Q 20 L st w cn sn := w_goto d_157_16 (by decide)
theorem d_157_19 : decode (mB 157) 19 = .ok (.iconst 0, 1) := by decide +kernel
theorem s_157_19 {d : Nat} {Q : wQ} {L : List (Option Value)} {st : List Value} {w : aw} {cn sn : Nat}  : wp d 157 Q 19 L st w cn sn = wp d 157 Q 20 L (.int 0 :: st) w cn sn := w_iconst d_157_19 (by decide)
theorem d_157_20 : decode (mB 157) 20 = .ok (.ireturn, 1) := by decide +kernel
theorem s_157_20 {d : Nat} {Q : wQ} {L : List (Option Value)} {w : aw} {cn sn : Nat} {v : Int32} : wp d 157 Q 20 L [.int v] w cn sn = (narrow .boolean (.int v) = .int v ∧ Q (some (.int v)) w) := w_zreturn d_157_20 rfl
theorem d_158_0 : decode (mB 158) 0 = .ok (.aload_n 0, 1) := by decide +kernel
theorem s_158_0 {d : Nat} {Q : wQ} {L : List (Option Value)} {st : List Value} {w : aw} {cn sn : Nat} {v : Nat} : wp d 158 Q 0 (some (.ref v) :: L) st w cn sn = wp d 158 Q 1 (some (.ref v) :: L) (.ref v :: st) w cn sn := w_aload_n d_158_0 rfl
theorem d_158_1 : decode (mB 158) 1 = .ok (.invokevirtual 267, 3) := by decide +kernel
theorem s_158_1 {d : Nat} {Q : wQ} {L : List (Option Value)} {st : List Value} {w : aw} {cn sn : Nat} {b : Nat} : wp d 158 Q 1 L (.ref b :: st) w cn sn = (kd w b = 9 ∧ catS st ≤ 8 ∧ wpD d 146 [.ref b] w (fun v w' => wp d 158 Q 4 L (v.toList ++ st) w' cn sn)) := w_virtual (As := []) d_158_1 (by decide +kernel : cT (mO 158) 267 = some (0, 146)) rfl (by decide +kernel) rfl (by decide +kernel) rfl
theorem d_158_4 : decode (mB 158) 4 = .ok (.aload_n 0, 1) := by decide +kernel
theorem s_158_4 {d : Nat} {Q : wQ} {L : List (Option Value)} {st : List Value} {w : aw} {cn sn : Nat} {v : Nat} : wp d 158 Q 4 (some (.ref v) :: L) st w cn sn = wp d 158 Q 5 (some (.ref v) :: L) (.ref v :: st) w cn sn := w_aload_n d_158_4 rfl
theorem d_158_5 : decode (mB 158) 5 = .ok (.invokevirtual 270, 3) := by decide +kernel
theorem s_158_5 {d : Nat} {Q : wQ} {L : List (Option Value)} {st : List Value} {w : aw} {cn sn : Nat} {b : Nat} : wp d 158 Q 5 L (.ref b :: st) w cn sn = (kd w b = 9 ∧ catS st ≤ 8 ∧ wpD d 152 [.ref b] w (fun v w' => wp d 158 Q 8 L (v.toList ++ st) w' cn sn)) := w_virtual (As := []) d_158_5 (by decide +kernel : cT (mO 158) 270 = some (0, 152)) rfl (by decide +kernel) rfl (by decide +kernel) rfl
theorem d_158_8 : decode (mB 158) 8 = .ok (.ifCond .eq 24, 3) := by decide +kernel
theorem s_158_8 {d : Nat} {Q : wQ} {L : List (Option Value)} {st : List Value} {w : aw} {cn sn : Nat} {x : Int32} : wp d 158 Q 8 L (.int x :: st) w cn sn = ((x = 0 → wp d 158 Q 32 L st w cn sn) ∧ (¬ x = 0 → wp d 158 Q 11 L st w cn sn)) := w_ifeq d_158_8 (by decide)
theorem d_158_11 : decode (mB 158) 11 = .ok (.aload_n 0, 1) := by decide +kernel
theorem s_158_11 {d : Nat} {Q : wQ} {L : List (Option Value)} {st : List Value} {w : aw} {cn sn : Nat} {v : Nat} : wp d 158 Q 11 (some (.ref v) :: L) st w cn sn = wp d 158 Q 12 (some (.ref v) :: L) (.ref v :: st) w cn sn := w_aload_n d_158_11 rfl
theorem d_158_12 : decode (mB 158) 12 = .ok (.aload_n 0, 1) := by decide +kernel
theorem s_158_12 {d : Nat} {Q : wQ} {L : List (Option Value)} {st : List Value} {w : aw} {cn sn : Nat} {v : Nat} : wp d 158 Q 12 (some (.ref v) :: L) st w cn sn = wp d 158 Q 13 (some (.ref v) :: L) (.ref v :: st) w cn sn := w_aload_n d_158_12 rfl
theorem d_158_13 : decode (mB 158) 13 = .ok (.aload_n 0, 1) := by decide +kernel
theorem s_158_13 {d : Nat} {Q : wQ} {L : List (Option Value)} {st : List Value} {w : aw} {cn sn : Nat} {v : Nat} : wp d 158 Q 13 (some (.ref v) :: L) st w cn sn = wp d 158 Q 14 (some (.ref v) :: L) (.ref v :: st) w cn sn := w_aload_n d_158_13 rfl
theorem d_158_14 : decode (mB 158) 14 = .ok (.getfield 231, 3) := by decide +kernel
theorem s_158_14 {d : Nat} {Q : wQ} {L : List (Option Value)} {st : List Value} {w : aw} {cn sn : Nat} {a : Nat} : wp d 158 Q 14 L (.ref a :: st) w cn sn = (kd w a = 9 ∧ wp d 158 Q 17 L (fd w 555 a :: st) w cn sn) := w_getfield d_158_14 (by decide +kernel : fT (mO 158) 231 = some (8, 43))
theorem d_158_17 : decode (mB 158) 17 = .ok (.invokevirtual 240, 3) := by decide +kernel
theorem s_158_17 {d : Nat} {Q : wQ} {L : List (Option Value)} {st : List Value} {w : aw} {cn sn : Nat} {v0 : Value} {b : Nat} : wp d 158 Q 17 L (v0 :: .ref b :: st) w cn sn = (kd w b = 9 ∧ catS st ≤ 8 ∧ wpD d 147 [.ref b, v0] w (fun v w' => wp d 158 Q 20 L (v.toList ++ st) w' cn sn)) := w_virtual (As := [v0]) d_158_17 (by decide +kernel : cT (mO 158) 240 = some (0, 147)) rfl (by decide +kernel) rfl (by decide +kernel) rfl
theorem d_158_20 : decode (mB 158) 20 = .ok (.iconst 1, 1) := by decide +kernel
theorem s_158_20 {d : Nat} {Q : wQ} {L : List (Option Value)} {st : List Value} {w : aw} {cn sn : Nat}  : wp d 158 Q 20 L st w cn sn = wp d 158 Q 21 L (.int 1 :: st) w cn sn := w_iconst d_158_20 (by decide)
theorem d_158_21 : decode (mB 158) 21 = .ok (.iadd, 1) := by decide +kernel
theorem s_158_21 {d : Nat} {Q : wQ} {L : List (Option Value)} {st : List Value} {w : aw} {cn sn : Nat} {a b : Int32} : wp d 158 Q 21 L (.int b :: .int a :: st) w cn sn = wp d 158 Q 22 L (.int (a + b) :: st) w cn sn := wp_row d_158_21 _ _ _ _ _
theorem d_158_22 : decode (mB 158) 22 = .ok (.putfield 231, 3) := by decide +kernel
theorem s_158_22 {d : Nat} {Q : wQ} {L : List (Option Value)} {st : List Value} {w : aw} {cn sn : Nat} {x : Int32} {a : Nat} : wp d 158 Q 22 L (.int x :: .ref a :: st) w cn sn = (kd w a = 9 ∧ wp d 158 Q 25 L st (uF w 555 a (.int x)) cn sn) := w_putfield d_158_22 (by decide +kernel : fT (mO 158) 231 = some (8, 43)) (by decide +kernel) ok_int
theorem d_158_25 : decode (mB 158) 25 = .ok (.aload_n 0, 1) := by decide +kernel
theorem s_158_25 {d : Nat} {Q : wQ} {L : List (Option Value)} {st : List Value} {w : aw} {cn sn : Nat} {v : Nat} : wp d 158 Q 25 (some (.ref v) :: L) st w cn sn = wp d 158 Q 26 (some (.ref v) :: L) (.ref v :: st) w cn sn := w_aload_n d_158_25 rfl
theorem d_158_26 : decode (mB 158) 26 = .ok (.invokevirtual 267, 3) := by decide +kernel
theorem s_158_26 {d : Nat} {Q : wQ} {L : List (Option Value)} {st : List Value} {w : aw} {cn sn : Nat} {b : Nat} : wp d 158 Q 26 L (.ref b :: st) w cn sn = (kd w b = 9 ∧ catS st ≤ 8 ∧ wpD d 146 [.ref b] w (fun v w' => wp d 158 Q 29 L (v.toList ++ st) w' cn sn)) := w_virtual (As := []) d_158_26 (by decide +kernel : cT (mO 158) 267 = some (0, 146)) rfl (by decide +kernel) rfl (by decide +kernel) rfl
theorem d_158_29 : decode (mB 158) 29 = .ok (.goto (-25), 3) := by decide +kernel
theorem s_158_29 {d : Nat} {Q : wQ} {L : List (Option Value)} {st : List Value} {w : aw} {cn sn : Nat}  : wp d 158 Q 29 L st w cn sn = wp d 158 Q 4 L st w cn sn := w_goto d_158_29 (by decide)
theorem d_158_32 : decode (mB 158) 32 = .ok (.aload_n 0, 1) := by decide +kernel
theorem s_158_32 {d : Nat} {Q : wQ} {L : List (Option Value)} {st : List Value} {w : aw} {cn sn : Nat} {v : Nat} : wp d 158 Q 32 (some (.ref v) :: L) st w cn sn = wp d 158 Q 33 (some (.ref v) :: L) (.ref v :: st) w cn sn := w_aload_n d_158_32 rfl
theorem d_158_33 : decode (mB 158) 33 = .ok (.getfield 231, 3) := by decide +kernel
theorem s_158_33 {d : Nat} {Q : wQ} {L : List (Option Value)} {st : List Value} {w : aw} {cn sn : Nat} {a : Nat} : wp d 158 Q 33 L (.ref a :: st) w cn sn = (kd w a = 9 ∧ wp d 158 Q 36 L (fd w 555 a :: st) w cn sn) := w_getfield d_158_33 (by decide +kernel : fT (mO 158) 231 = some (8, 43))
theorem d_158_36 : decode (mB 158) 36 = .ok (.aload_n 0, 1) := by decide +kernel
theorem s_158_36 {d : Nat} {Q : wQ} {L : List (Option Value)} {st : List Value} {w : aw} {cn sn : Nat} {v : Nat} : wp d 158 Q 36 (some (.ref v) :: L) st w cn sn = wp d 158 Q 37 (some (.ref v) :: L) (.ref v :: st) w cn sn := w_aload_n d_158_36 rfl
theorem d_158_37 : decode (mB 158) 37 = .ok (.getfield 228, 3) := by decide +kernel
theorem s_158_37 {d : Nat} {Q : wQ} {L : List (Option Value)} {st : List Value} {w : aw} {cn sn : Nat} {a : Nat} : wp d 158 Q 37 L (.ref a :: st) w cn sn = (kd w a = 9 ∧ wp d 158 Q 40 L (fd w 556 a :: st) w cn sn) := w_getfield d_158_37 (by decide +kernel : fT (mO 158) 228 = some (8, 44))
theorem d_158_40 : decode (mB 158) 40 = .ok (.if_icmp .lt 5, 3) := by decide +kernel
theorem s_158_40 {d : Nat} {Q : wQ} {L : List (Option Value)} {st : List Value} {w : aw} {cn sn : Nat} {a b : Int32} : wp d 158 Q 40 L (.int b :: .int a :: st) w cn sn = ((a < b → wp d 158 Q 45 L st w cn sn) ∧ (¬ a < b → wp d 158 Q 43 L st w cn sn)) := w_iclt d_158_40 (by decide)
theorem d_158_43 : decode (mB 158) 43 = .ok (.iconst 1, 1) := by decide +kernel
theorem s_158_43 {d : Nat} {Q : wQ} {L : List (Option Value)} {st : List Value} {w : aw} {cn sn : Nat}  : wp d 158 Q 43 L st w cn sn = wp d 158 Q 44 L (.int 1 :: st) w cn sn := w_iconst d_158_43 (by decide)
theorem d_158_44 : decode (mB 158) 44 = .ok (.ireturn, 1) := by decide +kernel
theorem s_158_44 {d : Nat} {Q : wQ} {L : List (Option Value)} {w : aw} {cn sn : Nat} {v : Int32} : wp d 158 Q 44 L [.int v] w cn sn = (narrow .boolean (.int v) = .int v ∧ Q (some (.int v)) w) := w_zreturn d_158_44 rfl
theorem d_158_45 : decode (mB 158) 45 = .ok (.aload_n 0, 1) := by decide +kernel
theorem s_158_45 {d : Nat} {Q : wQ} {L : List (Option Value)} {st : List Value} {w : aw} {cn sn : Nat} {v : Nat} : wp d 158 Q 45 (some (.ref v) :: L) st w cn sn = wp d 158 Q 46 (some (.ref v) :: L) (.ref v :: st) w cn sn := w_aload_n d_158_45 rfl
theorem d_158_46 : decode (mB 158) 46 = .ok (.aload_n 0, 1) := by decide +kernel
theorem s_158_46 {d : Nat} {Q : wQ} {L : List (Option Value)} {st : List Value} {w : aw} {cn sn : Nat} {v : Nat} : wp d 158 Q 46 (some (.ref v) :: L) st w cn sn = wp d 158 Q 47 (some (.ref v) :: L) (.ref v :: st) w cn sn := w_aload_n d_158_46 rfl
theorem d_158_47 : decode (mB 158) 47 = .ok (.getfield 231, 3) := by decide +kernel
theorem s_158_47 {d : Nat} {Q : wQ} {L : List (Option Value)} {st : List Value} {w : aw} {cn sn : Nat} {a : Nat} : wp d 158 Q 47 L (.ref a :: st) w cn sn = (kd w a = 9 ∧ wp d 158 Q 50 L (fd w 555 a :: st) w cn sn) := w_getfield d_158_47 (by decide +kernel : fT (mO 158) 231 = some (8, 43))
theorem d_158_50 : decode (mB 158) 50 = .ok (.invokevirtual 237, 3) := by decide +kernel
theorem s_158_50 {d : Nat} {Q : wQ} {L : List (Option Value)} {st : List Value} {w : aw} {cn sn : Nat} {v0 : Value} {b : Nat} : wp d 158 Q 50 L (v0 :: .ref b :: st) w cn sn = (kd w b = 9 ∧ catS st ≤ 8 ∧ wpD d 145 [.ref b, v0] w (fun v w' => wp d 158 Q 53 L (v.toList ++ st) w' cn sn)) := w_virtual (As := [v0]) d_158_50 (by decide +kernel : cT (mO 158) 237 = some (0, 145)) rfl (by decide +kernel) rfl (by decide +kernel) rfl
theorem d_158_53 : decode (mB 158) 53 = .ok (.bipush 42, 2) := by decide +kernel
theorem s_158_53 {d : Nat} {Q : wQ} {L : List (Option Value)} {st : List Value} {w : aw} {cn sn : Nat}  : wp d 158 Q 53 L st w cn sn = wp d 158 Q 55 L (.int 42 :: st) w cn sn := w_bipush d_158_53 (by decide)
theorem d_158_55 : decode (mB 158) 55 = .ok (.if_icmp .ne 37, 3) := by decide +kernel
theorem s_158_55 {d : Nat} {Q : wQ} {L : List (Option Value)} {st : List Value} {w : aw} {cn sn : Nat} {a b : Int32} : wp d 158 Q 55 L (.int b :: .int a :: st) w cn sn = ((¬ a = b → wp d 158 Q 92 L st w cn sn) ∧ (a = b → wp d 158 Q 58 L st w cn sn)) := w_icne d_158_55 (by decide)
theorem d_158_58 : decode (mB 158) 58 = .ok (.aload_n 0, 1) := by decide +kernel
theorem s_158_58 {d : Nat} {Q : wQ} {L : List (Option Value)} {st : List Value} {w : aw} {cn sn : Nat} {v : Nat} : wp d 158 Q 58 (some (.ref v) :: L) st w cn sn = wp d 158 Q 59 (some (.ref v) :: L) (.ref v :: st) w cn sn := w_aload_n d_158_58 rfl
theorem d_158_59 : decode (mB 158) 59 = .ok (.dup, 1) := by decide +kernel
theorem s_158_59 {d : Nat} {Q : wQ} {L : List (Option Value)} {st : List Value} {w : aw} {cn sn : Nat} {v : Value} : wp d 158 Q 59 L (v :: st) w cn sn = (v.category = 1 ∧ wp d 158 Q 60 L (v :: v :: st) w cn sn) := wp_row d_158_59 _ _ _ _ _
theorem d_158_60 : decode (mB 158) 60 = .ok (.getfield 231, 3) := by decide +kernel
theorem s_158_60 {d : Nat} {Q : wQ} {L : List (Option Value)} {st : List Value} {w : aw} {cn sn : Nat} {a : Nat} : wp d 158 Q 60 L (.ref a :: st) w cn sn = (kd w a = 9 ∧ wp d 158 Q 63 L (fd w 555 a :: st) w cn sn) := w_getfield d_158_60 (by decide +kernel : fT (mO 158) 231 = some (8, 43))
theorem d_158_63 : decode (mB 158) 63 = .ok (.iconst 1, 1) := by decide +kernel
theorem s_158_63 {d : Nat} {Q : wQ} {L : List (Option Value)} {st : List Value} {w : aw} {cn sn : Nat}  : wp d 158 Q 63 L st w cn sn = wp d 158 Q 64 L (.int 1 :: st) w cn sn := w_iconst d_158_63 (by decide)
theorem d_158_64 : decode (mB 158) 64 = .ok (.iadd, 1) := by decide +kernel
theorem s_158_64 {d : Nat} {Q : wQ} {L : List (Option Value)} {st : List Value} {w : aw} {cn sn : Nat} {a b : Int32} : wp d 158 Q 64 L (.int b :: .int a :: st) w cn sn = wp d 158 Q 65 L (.int (a + b) :: st) w cn sn := wp_row d_158_64 _ _ _ _ _
theorem d_158_65 : decode (mB 158) 65 = .ok (.putfield 231, 3) := by decide +kernel
theorem s_158_65 {d : Nat} {Q : wQ} {L : List (Option Value)} {st : List Value} {w : aw} {cn sn : Nat} {x : Int32} {a : Nat} : wp d 158 Q 65 L (.int x :: .ref a :: st) w cn sn = (kd w a = 9 ∧ wp d 158 Q 68 L st (uF w 555 a (.int x)) cn sn) := w_putfield d_158_65 (by decide +kernel : fT (mO 158) 231 = some (8, 43)) (by decide +kernel) ok_int
theorem d_158_68 : decode (mB 158) 68 = .ok (.aload_n 0, 1) := by decide +kernel
theorem s_158_68 {d : Nat} {Q : wQ} {L : List (Option Value)} {st : List Value} {w : aw} {cn sn : Nat} {v : Nat} : wp d 158 Q 68 (some (.ref v) :: L) st w cn sn = wp d 158 Q 69 (some (.ref v) :: L) (.ref v :: st) w cn sn := w_aload_n d_158_68 rfl
theorem d_158_69 : decode (mB 158) 69 = .ok (.invokevirtual 267, 3) := by decide +kernel
theorem s_158_69 {d : Nat} {Q : wQ} {L : List (Option Value)} {st : List Value} {w : aw} {cn sn : Nat} {b : Nat} : wp d 158 Q 69 L (.ref b :: st) w cn sn = (kd w b = 9 ∧ catS st ≤ 8 ∧ wpD d 146 [.ref b] w (fun v w' => wp d 158 Q 72 L (v.toList ++ st) w' cn sn)) := w_virtual (As := []) d_158_69 (by decide +kernel : cT (mO 158) 267 = some (0, 146)) rfl (by decide +kernel) rfl (by decide +kernel) rfl
theorem d_158_72 : decode (mB 158) 72 = .ok (.aload_n 0, 1) := by decide +kernel
theorem s_158_72 {d : Nat} {Q : wQ} {L : List (Option Value)} {st : List Value} {w : aw} {cn sn : Nat} {v : Nat} : wp d 158 Q 72 (some (.ref v) :: L) st w cn sn = wp d 158 Q 73 (some (.ref v) :: L) (.ref v :: st) w cn sn := w_aload_n d_158_72 rfl
theorem d_158_73 : decode (mB 158) 73 = .ok (.invokevirtual 274, 3) := by decide +kernel
theorem s_158_73 {d : Nat} {Q : wQ} {L : List (Option Value)} {st : List Value} {w : aw} {cn sn : Nat} {b : Nat} : wp d 158 Q 73 L (.ref b :: st) w cn sn = (kd w b = 9 ∧ catS st ≤ 8 ∧ wpD d 156 [.ref b] w (fun v w' => wp d 158 Q 76 L (v.toList ++ st) w' cn sn)) := w_virtual (As := []) d_158_73 (by decide +kernel : cT (mO 158) 274 = some (0, 156)) rfl (by decide +kernel) rfl (by decide +kernel) rfl
theorem d_158_76 : decode (mB 158) 76 = .ok (.ifCond .eq 14, 3) := by decide +kernel
theorem s_158_76 {d : Nat} {Q : wQ} {L : List (Option Value)} {st : List Value} {w : aw} {cn sn : Nat} {x : Int32} : wp d 158 Q 76 L (.int x :: st) w cn sn = ((x = 0 → wp d 158 Q 90 L st w cn sn) ∧ (¬ x = 0 → wp d 158 Q 79 L st w cn sn)) := w_ifeq d_158_76 (by decide)
theorem d_158_79 : decode (mB 158) 79 = .ok (.aload_n 0, 1) := by decide +kernel
theorem s_158_79 {d : Nat} {Q : wQ} {L : List (Option Value)} {st : List Value} {w : aw} {cn sn : Nat} {v : Nat} : wp d 158 Q 79 (some (.ref v) :: L) st w cn sn = wp d 158 Q 80 (some (.ref v) :: L) (.ref v :: st) w cn sn := w_aload_n d_158_79 rfl
theorem d_158_80 : decode (mB 158) 80 = .ok (.invokevirtual 277, 3) := by decide +kernel
theorem s_158_80 {d : Nat} {Q : wQ} {L : List (Option Value)} {st : List Value} {w : aw} {cn sn : Nat} {b : Nat} : wp d 158 Q 80 L (.ref b :: st) w cn sn = (kd w b = 9 ∧ catS st ≤ 8 ∧ wpD d 157 [.ref b] w (fun v w' => wp d 158 Q 83 L (v.toList ++ st) w' cn sn)) := w_virtual (As := []) d_158_80 (by decide +kernel : cT (mO 158) 277 = some (0, 157)) rfl (by decide +kernel) rfl (by decide +kernel) rfl
theorem d_158_83 : decode (mB 158) 83 = .ok (.ifCond .eq 7, 3) := by decide +kernel
theorem s_158_83 {d : Nat} {Q : wQ} {L : List (Option Value)} {st : List Value} {w : aw} {cn sn : Nat} {x : Int32} : wp d 158 Q 83 L (.int x :: st) w cn sn = ((x = 0 → wp d 158 Q 90 L st w cn sn) ∧ (¬ x = 0 → wp d 158 Q 86 L st w cn sn)) := w_ifeq d_158_83 (by decide)
theorem d_158_86 : decode (mB 158) 86 = .ok (.iconst 1, 1) := by decide +kernel
theorem s_158_86 {d : Nat} {Q : wQ} {L : List (Option Value)} {st : List Value} {w : aw} {cn sn : Nat}  : wp d 158 Q 86 L st w cn sn = wp d 158 Q 87 L (.int 1 :: st) w cn sn := w_iconst d_158_86 (by decide)
theorem d_158_87 : decode (mB 158) 87 = .ok (.goto 4, 3) := by decide +kernel
theorem s_158_87 {d : Nat} {Q : wQ} {L : List (Option Value)} {st : List Value} {w : aw} {cn sn : Nat}  : wp d 158 Q 87 L st w cn sn = wp d 158 Q 91 L st w cn sn := w_goto d_158_87 (by decide)
theorem d_158_90 : decode (mB 158) 90 = .ok (.iconst 0, 1) := by decide +kernel
theorem s_158_90 {d : Nat} {Q : wQ} {L : List (Option Value)} {st : List Value} {w : aw} {cn sn : Nat}  : wp d 158 Q 90 L st w cn sn = wp d 158 Q 91 L (.int 0 :: st) w cn sn := w_iconst d_158_90 (by decide)
theorem d_158_91 : decode (mB 158) 91 = .ok (.ireturn, 1) := by decide +kernel
theorem s_158_91 {d : Nat} {Q : wQ} {L : List (Option Value)} {w : aw} {cn sn : Nat} {v : Int32} : wp d 158 Q 91 L [.int v] w cn sn = (narrow .boolean (.int v) = .int v ∧ Q (some (.int v)) w) := w_zreturn d_158_91 rfl
theorem d_158_92 : decode (mB 158) 92 = .ok (.aload_n 0, 1) := by decide +kernel
theorem s_158_92 {d : Nat} {Q : wQ} {L : List (Option Value)} {st : List Value} {w : aw} {cn sn : Nat} {v : Nat} : wp d 158 Q 92 (some (.ref v) :: L) st w cn sn = wp d 158 Q 93 (some (.ref v) :: L) (.ref v :: st) w cn sn := w_aload_n d_158_92 rfl
theorem d_158_93 : decode (mB 158) 93 = .ok (.invokevirtual 280, 3) := by decide +kernel
theorem s_158_93 {d : Nat} {Q : wQ} {L : List (Option Value)} {st : List Value} {w : aw} {cn sn : Nat} {b : Nat} : wp d 158 Q 93 L (.ref b :: st) w cn sn = (kd w b = 9 ∧ catS st ≤ 8 ∧ wpD d 153 [.ref b] w (fun v w' => wp d 158 Q 96 L (v.toList ++ st) w' cn sn)) := w_virtual (As := []) d_158_93 (by decide +kernel : cT (mO 158) 280 = some (0, 153)) rfl (by decide +kernel) rfl (by decide +kernel) rfl
theorem d_158_96 : decode (mB 158) 96 = .ok (.ifCond .eq 41, 3) := by decide +kernel
theorem s_158_96 {d : Nat} {Q : wQ} {L : List (Option Value)} {st : List Value} {w : aw} {cn sn : Nat} {x : Int32} : wp d 158 Q 96 L (.int x :: st) w cn sn = ((x = 0 → wp d 158 Q 137 L st w cn sn) ∧ (¬ x = 0 → wp d 158 Q 99 L st w cn sn)) := w_ifeq d_158_96 (by decide)
theorem d_158_99 : decode (mB 158) 99 = .ok (.aload_n 0, 1) := by decide +kernel
theorem s_158_99 {d : Nat} {Q : wQ} {L : List (Option Value)} {st : List Value} {w : aw} {cn sn : Nat} {v : Nat} : wp d 158 Q 99 (some (.ref v) :: L) st w cn sn = wp d 158 Q 100 (some (.ref v) :: L) (.ref v :: st) w cn sn := w_aload_n d_158_99 rfl
theorem d_158_100 : decode (mB 158) 100 = .ok (.aload_n 0, 1) := by decide +kernel
theorem s_158_100 {d : Nat} {Q : wQ} {L : List (Option Value)} {st : List Value} {w : aw} {cn sn : Nat} {v : Nat} : wp d 158 Q 100 (some (.ref v) :: L) st w cn sn = wp d 158 Q 101 (some (.ref v) :: L) (.ref v :: st) w cn sn := w_aload_n d_158_100 rfl
theorem d_158_101 : decode (mB 158) 101 = .ok (.aload_n 0, 1) := by decide +kernel
theorem s_158_101 {d : Nat} {Q : wQ} {L : List (Option Value)} {st : List Value} {w : aw} {cn sn : Nat} {v : Nat} : wp d 158 Q 101 (some (.ref v) :: L) st w cn sn = wp d 158 Q 102 (some (.ref v) :: L) (.ref v :: st) w cn sn := w_aload_n d_158_101 rfl
theorem d_158_102 : decode (mB 158) 102 = .ok (.getfield 231, 3) := by decide +kernel
theorem s_158_102 {d : Nat} {Q : wQ} {L : List (Option Value)} {st : List Value} {w : aw} {cn sn : Nat} {a : Nat} : wp d 158 Q 102 L (.ref a :: st) w cn sn = (kd w a = 9 ∧ wp d 158 Q 105 L (fd w 555 a :: st) w cn sn) := w_getfield d_158_102 (by decide +kernel : fT (mO 158) 231 = some (8, 43))
theorem d_158_105 : decode (mB 158) 105 = .ok (.invokevirtual 240, 3) := by decide +kernel
theorem s_158_105 {d : Nat} {Q : wQ} {L : List (Option Value)} {st : List Value} {w : aw} {cn sn : Nat} {v0 : Value} {b : Nat} : wp d 158 Q 105 L (v0 :: .ref b :: st) w cn sn = (kd w b = 9 ∧ catS st ≤ 8 ∧ wpD d 147 [.ref b, v0] w (fun v w' => wp d 158 Q 108 L (v.toList ++ st) w' cn sn)) := w_virtual (As := [v0]) d_158_105 (by decide +kernel : cT (mO 158) 240 = some (0, 147)) rfl (by decide +kernel) rfl (by decide +kernel) rfl
theorem d_158_108 : decode (mB 158) 108 = .ok (.iconst 1, 1) := by decide +kernel
theorem s_158_108 {d : Nat} {Q : wQ} {L : List (Option Value)} {st : List Value} {w : aw} {cn sn : Nat}  : wp d 158 Q 108 L st w cn sn = wp d 158 Q 109 L (.int 1 :: st) w cn sn := w_iconst d_158_108 (by decide)
theorem d_158_109 : decode (mB 158) 109 = .ok (.iadd, 1) := by decide +kernel
theorem s_158_109 {d : Nat} {Q : wQ} {L : List (Option Value)} {st : List Value} {w : aw} {cn sn : Nat} {a b : Int32} : wp d 158 Q 109 L (.int b :: .int a :: st) w cn sn = wp d 158 Q 110 L (.int (a + b) :: st) w cn sn := wp_row d_158_109 _ _ _ _ _
theorem d_158_110 : decode (mB 158) 110 = .ok (.putfield 231, 3) := by decide +kernel
theorem s_158_110 {d : Nat} {Q : wQ} {L : List (Option Value)} {st : List Value} {w : aw} {cn sn : Nat} {x : Int32} {a : Nat} : wp d 158 Q 110 L (.int x :: .ref a :: st) w cn sn = (kd w a = 9 ∧ wp d 158 Q 113 L st (uF w 555 a (.int x)) cn sn) := w_putfield d_158_110 (by decide +kernel : fT (mO 158) 231 = some (8, 43)) (by decide +kernel) ok_int
theorem d_158_113 : decode (mB 158) 113 = .ok (.aload_n 0, 1) := by decide +kernel
theorem s_158_113 {d : Nat} {Q : wQ} {L : List (Option Value)} {st : List Value} {w : aw} {cn sn : Nat} {v : Nat} : wp d 158 Q 113 (some (.ref v) :: L) st w cn sn = wp d 158 Q 114 (some (.ref v) :: L) (.ref v :: st) w cn sn := w_aload_n d_158_113 rfl
theorem d_158_114 : decode (mB 158) 114 = .ok (.invokevirtual 267, 3) := by decide +kernel
theorem s_158_114 {d : Nat} {Q : wQ} {L : List (Option Value)} {st : List Value} {w : aw} {cn sn : Nat} {b : Nat} : wp d 158 Q 114 L (.ref b :: st) w cn sn = (kd w b = 9 ∧ catS st ≤ 8 ∧ wpD d 146 [.ref b] w (fun v w' => wp d 158 Q 117 L (v.toList ++ st) w' cn sn)) := w_virtual (As := []) d_158_114 (by decide +kernel : cT (mO 158) 267 = some (0, 146)) rfl (by decide +kernel) rfl (by decide +kernel) rfl
theorem d_158_117 : decode (mB 158) 117 = .ok (.aload_n 0, 1) := by decide +kernel
theorem s_158_117 {d : Nat} {Q : wQ} {L : List (Option Value)} {st : List Value} {w : aw} {cn sn : Nat} {v : Nat} : wp d 158 Q 117 (some (.ref v) :: L) st w cn sn = wp d 158 Q 118 (some (.ref v) :: L) (.ref v :: st) w cn sn := w_aload_n d_158_117 rfl
theorem d_158_118 : decode (mB 158) 118 = .ok (.invokevirtual 274, 3) := by decide +kernel
theorem s_158_118 {d : Nat} {Q : wQ} {L : List (Option Value)} {st : List Value} {w : aw} {cn sn : Nat} {b : Nat} : wp d 158 Q 118 L (.ref b :: st) w cn sn = (kd w b = 9 ∧ catS st ≤ 8 ∧ wpD d 156 [.ref b] w (fun v w' => wp d 158 Q 121 L (v.toList ++ st) w' cn sn)) := w_virtual (As := []) d_158_118 (by decide +kernel : cT (mO 158) 274 = some (0, 156)) rfl (by decide +kernel) rfl (by decide +kernel) rfl
theorem d_158_121 : decode (mB 158) 121 = .ok (.ifCond .eq 14, 3) := by decide +kernel
theorem s_158_121 {d : Nat} {Q : wQ} {L : List (Option Value)} {st : List Value} {w : aw} {cn sn : Nat} {x : Int32} : wp d 158 Q 121 L (.int x :: st) w cn sn = ((x = 0 → wp d 158 Q 135 L st w cn sn) ∧ (¬ x = 0 → wp d 158 Q 124 L st w cn sn)) := w_ifeq d_158_121 (by decide)
theorem d_158_124 : decode (mB 158) 124 = .ok (.aload_n 0, 1) := by decide +kernel
theorem s_158_124 {d : Nat} {Q : wQ} {L : List (Option Value)} {st : List Value} {w : aw} {cn sn : Nat} {v : Nat} : wp d 158 Q 124 (some (.ref v) :: L) st w cn sn = wp d 158 Q 125 (some (.ref v) :: L) (.ref v :: st) w cn sn := w_aload_n d_158_124 rfl
theorem d_158_125 : decode (mB 158) 125 = .ok (.invokevirtual 277, 3) := by decide +kernel
theorem s_158_125 {d : Nat} {Q : wQ} {L : List (Option Value)} {st : List Value} {w : aw} {cn sn : Nat} {b : Nat} : wp d 158 Q 125 L (.ref b :: st) w cn sn = (kd w b = 9 ∧ catS st ≤ 8 ∧ wpD d 157 [.ref b] w (fun v w' => wp d 158 Q 128 L (v.toList ++ st) w' cn sn)) := w_virtual (As := []) d_158_125 (by decide +kernel : cT (mO 158) 277 = some (0, 157)) rfl (by decide +kernel) rfl (by decide +kernel) rfl
theorem d_158_128 : decode (mB 158) 128 = .ok (.ifCond .eq 7, 3) := by decide +kernel
theorem s_158_128 {d : Nat} {Q : wQ} {L : List (Option Value)} {st : List Value} {w : aw} {cn sn : Nat} {x : Int32} : wp d 158 Q 128 L (.int x :: st) w cn sn = ((x = 0 → wp d 158 Q 135 L st w cn sn) ∧ (¬ x = 0 → wp d 158 Q 131 L st w cn sn)) := w_ifeq d_158_128 (by decide)
theorem d_158_131 : decode (mB 158) 131 = .ok (.iconst 1, 1) := by decide +kernel
theorem s_158_131 {d : Nat} {Q : wQ} {L : List (Option Value)} {st : List Value} {w : aw} {cn sn : Nat}  : wp d 158 Q 131 L st w cn sn = wp d 158 Q 132 L (.int 1 :: st) w cn sn := w_iconst d_158_131 (by decide)
theorem d_158_132 : decode (mB 158) 132 = .ok (.goto 4, 3) := by decide +kernel
theorem s_158_132 {d : Nat} {Q : wQ} {L : List (Option Value)} {st : List Value} {w : aw} {cn sn : Nat}  : wp d 158 Q 132 L st w cn sn = wp d 158 Q 136 L st w cn sn := w_goto d_158_132 (by decide)
theorem d_158_135 : decode (mB 158) 135 = .ok (.iconst 0, 1) := by decide +kernel
theorem s_158_135 {d : Nat} {Q : wQ} {L : List (Option Value)} {st : List Value} {w : aw} {cn sn : Nat}  : wp d 158 Q 135 L st w cn sn = wp d 158 Q 136 L (.int 0 :: st) w cn sn := w_iconst d_158_135 (by decide)
theorem d_158_136 : decode (mB 158) 136 = .ok (.ireturn, 1) := by decide +kernel
theorem s_158_136 {d : Nat} {Q : wQ} {L : List (Option Value)} {w : aw} {cn sn : Nat} {v : Int32} : wp d 158 Q 136 L [.int v] w cn sn = (narrow .boolean (.int v) = .int v ∧ Q (some (.int v)) w) := w_zreturn d_158_136 rfl
theorem d_158_137 : decode (mB 158) 137 = .ok (.aload_n 0, 1) := by decide +kernel
theorem s_158_137 {d : Nat} {Q : wQ} {L : List (Option Value)} {st : List Value} {w : aw} {cn sn : Nat} {v : Nat} : wp d 158 Q 137 (some (.ref v) :: L) st w cn sn = wp d 158 Q 138 (some (.ref v) :: L) (.ref v :: st) w cn sn := w_aload_n d_158_137 rfl
theorem d_158_138 : decode (mB 158) 138 = .ok (.aload_n 0, 1) := by decide +kernel
theorem s_158_138 {d : Nat} {Q : wQ} {L : List (Option Value)} {st : List Value} {w : aw} {cn sn : Nat} {v : Nat} : wp d 158 Q 138 (some (.ref v) :: L) st w cn sn = wp d 158 Q 139 (some (.ref v) :: L) (.ref v :: st) w cn sn := w_aload_n d_158_138 rfl
theorem d_158_139 : decode (mB 158) 139 = .ok (.getfield 231, 3) := by decide +kernel
theorem s_158_139 {d : Nat} {Q : wQ} {L : List (Option Value)} {st : List Value} {w : aw} {cn sn : Nat} {a : Nat} : wp d 158 Q 139 L (.ref a :: st) w cn sn = (kd w a = 9 ∧ wp d 158 Q 142 L (fd w 555 a :: st) w cn sn) := w_getfield d_158_139 (by decide +kernel : fT (mO 158) 231 = some (8, 43))
theorem d_158_142 : decode (mB 158) 142 = .ok (.invokevirtual 283, 3) := by decide +kernel
theorem s_158_142 {d : Nat} {Q : wQ} {L : List (Option Value)} {st : List Value} {w : aw} {cn sn : Nat} {v0 : Value} {b : Nat} : wp d 158 Q 142 L (v0 :: .ref b :: st) w cn sn = (kd w b = 9 ∧ catS st ≤ 8 ∧ wpD d 151 [.ref b, v0] w (fun v w' => wp d 158 Q 145 L (v.toList ++ st) w' cn sn)) := w_virtual (As := [v0]) d_158_142 (by decide +kernel : cT (mO 158) 283 = some (0, 151)) rfl (by decide +kernel) rfl (by decide +kernel) rfl
theorem d_158_145 : decode (mB 158) 145 = .ok (.ifCond .lt 10, 3) := by decide +kernel
theorem s_158_145 {d : Nat} {Q : wQ} {L : List (Option Value)} {st : List Value} {w : aw} {cn sn : Nat} {x : Int32} : wp d 158 Q 145 L (.int x :: st) w cn sn = ((x < 0 → wp d 158 Q 155 L st w cn sn) ∧ (¬ x < 0 → wp d 158 Q 148 L st w cn sn)) := w_iflt d_158_145 (by decide)
theorem d_158_148 : decode (mB 158) 148 = .ok (.aload_n 0, 1) := by decide +kernel
theorem s_158_148 {d : Nat} {Q : wQ} {L : List (Option Value)} {st : List Value} {w : aw} {cn sn : Nat} {v : Nat} : wp d 158 Q 148 (some (.ref v) :: L) st w cn sn = wp d 158 Q 149 (some (.ref v) :: L) (.ref v :: st) w cn sn := w_aload_n d_158_148 rfl
theorem d_158_149 : decode (mB 158) 149 = .ok (.invokevirtual 286, 3) := by decide +kernel
theorem s_158_149 {d : Nat} {Q : wQ} {L : List (Option Value)} {st : List Value} {w : aw} {cn sn : Nat} {b : Nat} : wp d 158 Q 149 L (.ref b :: st) w cn sn = (kd w b = 9 ∧ catS st ≤ 8 ∧ wpD d 159 [.ref b] w (fun v w' => wp d 158 Q 152 L (v.toList ++ st) w' cn sn)) := w_virtual (As := []) d_158_149 (by decide +kernel : cT (mO 158) 286 = some (0, 159)) rfl (by decide +kernel) rfl (by decide +kernel) rfl
theorem d_158_152 : decode (mB 158) 152 = .ok (.goto 7, 3) := by decide +kernel
theorem s_158_152 {d : Nat} {Q : wQ} {L : List (Option Value)} {st : List Value} {w : aw} {cn sn : Nat}  : wp d 158 Q 152 L st w cn sn = wp d 158 Q 159 L st w cn sn := w_goto d_158_152 (by decide)
theorem d_158_155 : decode (mB 158) 155 = .ok (.aload_n 0, 1) := by decide +kernel
theorem s_158_155 {d : Nat} {Q : wQ} {L : List (Option Value)} {st : List Value} {w : aw} {cn sn : Nat} {v : Nat} : wp d 158 Q 155 (some (.ref v) :: L) st w cn sn = wp d 158 Q 156 (some (.ref v) :: L) (.ref v :: st) w cn sn := w_aload_n d_158_155 rfl
theorem d_158_156 : decode (mB 158) 156 = .ok (.invokevirtual 289, 3) := by decide +kernel
theorem s_158_156 {d : Nat} {Q : wQ} {L : List (Option Value)} {st : List Value} {w : aw} {cn sn : Nat} {b : Nat} : wp d 158 Q 156 L (.ref b :: st) w cn sn = (kd w b = 9 ∧ catS st ≤ 8 ∧ wpD d 160 [.ref b] w (fun v w' => wp d 158 Q 159 L (v.toList ++ st) w' cn sn)) := w_virtual (As := []) d_158_156 (by decide +kernel : cT (mO 158) 289 = some (0, 160)) rfl (by decide +kernel) rfl (by decide +kernel) rfl
theorem d_158_159 : decode (mB 158) 159 = .ok (.ireturn, 1) := by decide +kernel
theorem s_158_159 {d : Nat} {Q : wQ} {L : List (Option Value)} {w : aw} {cn sn : Nat} {v : Int32} : wp d 158 Q 159 L [.int v] w cn sn = (narrow .boolean (.int v) = .int v ∧ Q (some (.int v)) w) := w_zreturn d_158_159 rfl
