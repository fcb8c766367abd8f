theorem d_154_0 : decode (mB 154) 0 = .ok (.aload_n 0, 1) := by decide +kernel
theorem s_154_0 {d : Nat} {Q : wQ} {L : List (Option Value)} {st : List Value} {w : aw} {cn sn : Nat} {v : Nat} : wp d 154 Q 0 (some (.ref v) :: L) st w cn sn = wp d 154 Q 1 (some (.ref v) :: L) (.ref v :: st) w cn sn := w_aload_n d_154_0 rfl
theorem d_154_1 : decode (mB 154) 1 = .ok (.aload_n 0, 1) := by decide +kernel
theorem s_154_1 {d : Nat} {Q : wQ} {L : List (Option Value)} {st : List Value} {w : aw} {cn sn : Nat} {v : Nat} : wp d 154 Q 1 (some (.ref v) :: L) st w cn sn = wp d 154 Q 2 (some (.ref v) :: L) (.ref v :: st) w cn sn := w_aload_n d_154_1 rfl
theorem d_154_2 : decode (mB 154) 2 = .ok (.getfield 231, 3) := by decide +kernel
theorem s_154_2 {d : Nat} {Q : wQ} {L : List (Option Value)} {st : List Value} {w : aw} {cn sn : Nat} {a : Nat} : wp d 154 Q 2 L (.ref a :: st) w cn sn = (kd w a = 9 ∧ wp d 154 Q 5 L (fd w 555 a :: st) w cn sn) := w_getfield d_154_2 (by decide +kernel : fT (mO 154) 231 = some (8, 43))
theorem d_154_5 : decode (mB 154) 5 = .ok (.invokevirtual 243, 3) := by decide +kernel
theorem s_154_5 {d : Nat} {Q : wQ} {L : List (Option Value)} {st : List Value} {w : aw} {cn sn : Nat} {v0 : Value} {b : Nat} : wp d 154 Q 5 L (v0 :: .ref b :: st) w cn sn = (kd w b = 9 ∧ catS st ≤ 8 ∧ wpD d 150 [.ref b, v0] w (fun v w' => wp d 154 Q 8 L (v.toList ++ st) w' cn sn)) := w_virtual (As := [v0]) d_154_5 (by decide +kernel : cT (mO 154) 243 = some (0, 150)) rfl (by decide +kernel) rfl (by decide +kernel) rfl
theorem d_154_8 : decode (mB 154) 8 = .ok (.ifCond .eq 24, 3) := by decide +kernel
theorem s_154_8 {d : Nat} {Q : wQ} {L : List (Option Value)} {st : List Value} {w : aw} {cn sn : Nat} {x : Int32} : wp d 154 Q 8 L (.int x :: st) w cn sn = ((x = 0 → wp d 154 Q 32 L st w cn sn) ∧ (¬ x = 0 → wp d 154 Q 11 L st w cn sn)) := w_ifeq d_154_8 (by decide)
theorem d_154_11 : decode (mB 154) 11 = .ok (.aload_n 0, 1) := by decide +kernel
theorem s_154_11 {d : Nat} {Q : wQ} {L : List (Option Value)} {st : List Value} {w : aw} {cn sn : Nat} {v : Nat} : wp d 154 Q 11 (some (.ref v) :: L) st w cn sn = wp d 154 Q 12 (some (.ref v) :: L) (.ref v :: st) w cn sn := w_aload_n d_154_11 rfl
theorem d_154_12 : decode (mB 154) 12 = .ok (.aload_n 0, 1) := by decide +kernel
theorem s_154_12 {d : Nat} {Q : wQ} {L : List (Option Value)} {st : List Value} {w : aw} {cn sn : Nat} {v : Nat} : wp d 154 Q 12 (some (.ref v) :: L) st w cn sn = wp d 154 Q 13 (some (.ref v) :: L) (.ref v :: st) w cn sn := w_aload_n d_154_12 rfl
theorem d_154_13 : decode (mB 154) 13 = .ok (.aload_n 0, 1) := by decide +kernel
theorem s_154_13 {d : Nat} {Q : wQ} {L : List (Option Value)} {st : List Value} {w : aw} {cn sn : Nat} {v : Nat} : wp d 154 Q 13 (some (.ref v) :: L) st w cn sn = wp d 154 Q 14 (some (.ref v) :: L) (.ref v :: st) w cn sn := w_aload_n d_154_13 rfl
theorem d_154_14 : decode (mB 154) 14 = .ok (.getfield 231, 3) := by decide +kernel
theorem s_154_14 {d : Nat} {Q : wQ} {L : List (Option Value)} {st : List Value} {w : aw} {cn sn : Nat} {a : Nat} : wp d 154 Q 14 L (.ref a :: st) w cn sn = (kd w a = 9 ∧ wp d 154 Q 17 L (fd w 555 a :: st) w cn sn) := w_getfield d_154_14 (by decide +kernel : fT (mO 154) 231 = some (8, 43))
theorem d_154_17 : decode (mB 154) 17 = .ok (.invokevirtual 240, 3) := by decide +kernel
theorem s_154_17 {d : Nat} {Q : wQ} {L : List (Option Value)} {st : List Value} {w : aw} {cn sn : Nat} {v0 : Value} {b : Nat} : wp d 154 Q 17 L (v0 :: .ref b :: st) w cn sn = (kd w b = 9 ∧ catS st ≤ 8 ∧ wpD d 149 [.ref b, v0] w (fun v w' => wp d 154 Q 20 L (v.toList ++ st) w' cn sn)) := w_virtual (As := [v0]) d_154_17 (by decide +kernel : cT (mO 154) 240 = some (0, 149)) rfl (by decide +kernel) rfl (by decide +kernel) rfl
theorem d_154_20 : decode (mB 154) 20 = .ok (.invokevirtual 237, 3) := by decide +kernel
theorem s_154_20 {d : Nat} {Q : wQ} {L : List (Option Value)} {st : List Value} {w : aw} {cn sn : Nat} {v0 : Value} {b : Nat} : wp d 154 Q 20 L (v0 :: .ref b :: st) w cn sn = (kd w b = 9 ∧ catS st ≤ 8 ∧ wpD d 147 [.ref b, v0] w (fun v w' => wp d 154 Q 23 L (v.toList ++ st) w' cn sn)) := w_virtual (As := [v0]) d_154_20 (by decide +kernel : cT (mO 154) 237 = some (0, 147)) rfl (by decide +kernel) rfl (by decide +kernel) rfl
theorem d_154_23 : decode (mB 154) 23 = .ok (.bipush 44, 2) := by decide +kernel
theorem s_154_23 {d : Nat} {Q : wQ} {L : List (Option Value)} {st : List Value} {w : aw} {cn sn : Nat}  : wp d 154 Q 23 L st w cn sn = wp d 154 Q 25 L (.int 44 :: st) w cn sn := w_bipush d_154_23 (by decide)
theorem d_154_25 : decode (mB 154) 25 = .ok (.if_icmp .ne 7, 3) := by decide +kernel
theorem s_154_25 {d : Nat} {Q : wQ} {L : List (Option Value)} {st : List Value} {w : aw} {cn sn : Nat} {a b : Int32} : wp d 154 Q 25 L (.int b :: .int a :: st) w cn sn = ((¬ a = b → wp d 154 Q 32 L st w cn sn) ∧ (a = b → wp d 154 Q 28 L st w cn sn)) := w_icne d_154_25 (by decide)
theorem d_154_28 : decode (mB 154) 28 = .ok (.iconst 1, 1) := by decide +kernel
theorem s_154_28 {d : Nat} {Q : wQ} {L : List (Option Value)} {st : List Value} {w : aw} {cn sn : Nat}  : wp d 154 Q 28 L st w cn sn = wp d 154 Q 29 L (.int 1 :: st) w cn sn := w_iconst d_154_28 (by decide)
theorem d_154_29 : decode (mB 154) 29 = .ok (.goto 4, 3) := by decide +kernel
theorem s_154_29 {d : Nat} {Q : wQ} {L : List (Option Value)} {st : List Value} {w : aw} {cn sn : Nat}  : wp d 154 Q 29 L st w cn sn = wp d 154 Q 33 L st w cn sn := w_goto d_154_29 (by decide)
theorem d_154_32 : decode (mB 154) 32 = .ok (.iconst 0, 1) := by decide +kernel
theorem s_154_32 {d : Nat} {Q : wQ} {L : List (Option Value)} {st : List Value} {w : aw} {cn sn : Nat}  : wp d 154 Q 32 L st w cn sn = wp d 154 Q 33 L (.int 0 :: st) w cn sn := w_iconst d_154_32 (by decide)
theorem d_154_33 : decode (mB 154) 33 = .ok (.ireturn, 1) := by decide +kernel
theorem s_154_33 {d : Nat} {Q : wQ} {L : List (Option Value)} {w : aw} {cn sn : Nat} {v : Int32} : wp d 154 Q 33 L [.int v] w cn sn = (narrow .boolean (.int v) = .int v ∧ Q (some (.int v)) w) := w_zreturn d_154_33 rfl
theorem d_155_0 : decode (mB 155) 0 = .ok (.aload_n 0, 1) := by decide +kernel
theorem s_155_0 {d : Nat} {Q : wQ} {L : List (Option Value)} {st : List Value} {w : aw} {cn sn : Nat} {v : Nat} : wp d 155 Q 0 (some (.ref v) :: L) st w cn sn = wp d 155 Q 1 (some (.ref v) :: L) (.ref v :: st) w cn sn := w_aload_n d_155_0 rfl
theorem d_155_1 : decode (mB 155) 1 = .ok (.aload_n 0, 1) := by decide +kernel
theorem s_155_1 {d : Nat} {Q : wQ} {L : List (Option Value)} {st : List Value} {w : aw} {cn sn : Nat} {v : Nat} : wp d 155 Q 1 (some (.ref v) :: L) st w cn sn = wp d 155 Q 2 (some (.ref v) :: L) (.ref v :: st) w cn sn := w_aload_n d_155_1 rfl
theorem d_155_2 : decode (mB 155) 2 = .ok (.getfield 231, 3) := by decide +kernel
theorem s_155_2 {d : Nat} {Q : wQ} {L : List (Option Value)} {st : List Value} {w : aw} {cn sn : Nat} {a : Nat} : wp d 155 Q 2 L (.ref a :: st) w cn sn = (kd w a = 9 ∧ wp d 155 Q 5 L (fd w 555 a :: st) w cn sn) := w_getfield d_155_2 (by decide +kernel : fT (mO 155) 231 = some (8, 43))
theorem d_155_5 : decode (mB 155) 5 = .ok (.invokevirtual 243, 3) := by decide +kernel
theorem s_155_5 {d : Nat} {Q : wQ} {L : List (Option Value)} {st : List Value} {w : aw} {cn sn : Nat} {v0 : Value} {b : Nat} : wp d 155 Q 5 L (v0 :: .ref b :: st) w cn sn = (kd w b = 9 ∧ catS st ≤ 8 ∧ wpD d 150 [.ref b, v0] w (fun v w' => wp d 155 Q 8 L (v.toList ++ st) w' cn sn)) := w_virtual (As := [v0]) d_155_5 (by decide +kernel : cT (mO 155) 243 = some (0, 150)) rfl (by decide +kernel) rfl (by decide +kernel) rfl
theorem d_155_8 : decode (mB 155) 8 = .ok (.ifCond .eq 24, 3) := by decide +kernel
theorem s_155_8 {d : Nat} {Q : wQ} {L : List (Option Value)} {st : List Value} {w : aw} {cn sn : Nat} {x : Int32} : wp d 155 Q 8 L (.int x :: st) w cn sn = ((x = 0 → wp d 155 Q 32 L st w cn sn) ∧ (¬ x = 0 → wp d 155 Q 11 L st w cn sn)) := w_ifeq d_155_8 (by decide)
theorem d_155_11 : decode (mB 155) 11 = .ok (.aload_n 0, 1) := by decide +kernel
theorem s_155_11 {d : Nat} {Q : wQ} {L : List (Option Value)} {st : List Value} {w : aw} {cn sn : Nat} {v : Nat} : wp d 155 Q 11 (some (.ref v) :: L) st w cn sn = wp d 155 Q 12 (some (.ref v) :: L) (.ref v :: st) w cn sn := w_aload_n d_155_11 rfl
theorem d_155_12 : decode (mB 155) 12 = .ok (.aload_n 0, 1) := by decide +kernel
theorem s_155_12 {d : Nat} {Q : wQ} {L : List (Option Value)} {st : List Value} {w : aw} {cn sn : Nat} {v : Nat} : wp d 155 Q 12 (some (.ref v) :: L) st w cn sn = wp d 155 Q 13 (some (.ref v) :: L) (.ref v :: st) w cn sn := w_aload_n d_155_12 rfl
theorem d_155_13 : decode (mB 155) 13 = .ok (.aload_n 0, 1) := by decide +kernel
theorem s_155_13 {d : Nat} {Q : wQ} {L : List (Option Value)} {st : List Value} {w : aw} {cn sn : Nat} {v : Nat} : wp d 155 Q 13 (some (.ref v) :: L) st w cn sn = wp d 155 Q 14 (some (.ref v) :: L) (.ref v :: st) w cn sn := w_aload_n d_155_13 rfl
theorem d_155_14 : decode (mB 155) 14 = .ok (.getfield 231, 3) := by decide +kernel
theorem s_155_14 {d : Nat} {Q : wQ} {L : List (Option Value)} {st : List Value} {w : aw} {cn sn : Nat} {a : Nat} : wp d 155 Q 14 L (.ref a :: st) w cn sn = (kd w a = 9 ∧ wp d 155 Q 17 L (fd w 555 a :: st) w cn sn) := w_getfield d_155_14 (by decide +kernel : fT (mO 155) 231 = some (8, 43))
theorem d_155_17 : decode (mB 155) 17 = .ok (.invokevirtual 240, 3) := by decide +kernel
theorem s_155_17 {d : Nat} {Q : wQ} {L : List (Option Value)} {st : List Value} {w : aw} {cn sn : Nat} {v0 : Value} {b : Nat} : wp d 155 Q 17 L (v0 :: .ref b :: st) w cn sn = (kd w b = 9 ∧ catS st ≤ 8 ∧ wpD d 149 [.ref b, v0] w (fun v w' => wp d 155 Q 20 L (v.toList ++ st) w' cn sn)) := w_virtual (As := [v0]) d_155_17 (by decide +kernel : cT (mO 155) 240 = some (0, 149)) rfl (by decide +kernel) rfl (by decide +kernel) rfl
theorem d_155_20 : decode (mB 155) 20 = .ok (.invokevirtual 237, 3) := by decide +kernel
theorem s_155_20 {d : Nat} {Q : wQ} {L : List (Option Value)} {st : List Value} {w : aw} {cn sn : Nat} {v0 : Value} {b : Nat} : wp d 155 Q 20 L (v0 :: .ref b :: st) w cn sn = (kd w b = 9 ∧ catS st ≤ 8 ∧ wpD d 147 [.ref b, v0] w (fun v w' => wp d 155 Q 23 L (v.toList ++ st) w' cn sn)) := w_virtual (As := [v0]) d_155_20 (by decide +kernel : cT (mO 155) 237 = some (0, 147)) rfl (by decide +kernel) rfl (by decide +kernel) rfl
theorem d_155_23 : decode (mB 155) 23 = .ok (.bipush 61, 2) := by decide +kernel
theorem s_155_23 {d : Nat} {Q : wQ} {L : List (Option Value)} {st : List Value} {w : aw} {cn sn : Nat}  : wp d 155 Q 23 L st w cn sn = wp d 155 Q 25 L (.int 61 :: st) w cn sn := w_bipush d_155_23 (by decide)
theorem d_155_25 : decode (mB 155) 25 = .ok (.if_icmp .ne 7, 3) := by decide +kernel
theorem s_155_25 {d : Nat} {Q : wQ} {L : List (Option Value)} {st : List Value} {w : aw} {cn sn : Nat} {a b : Int32} : wp d 155 Q 25 L (.int b :: .int a :: st) w cn sn = ((¬ a = b → wp d 155 Q 32 L st w cn sn) ∧ (a = b → wp d 155 Q 28 L st w cn sn)) := w_icne d_155_25 (by decide)
theorem d_155_28 : decode (mB 155) 28 = .ok (.iconst 1, 1) := by decide +kernel
theorem s_155_28 {d : Nat} {Q : wQ} {L : List (Option Value)} {st : List Value} {w : aw} {cn sn : Nat}  : wp d 155 Q 28 L st w cn sn = wp d 155 Q 29 L (.int 1 :: st) w cn sn := w_iconst d_155_28 (by decide)
theorem d_155_29 : decode (mB 155) 29 = .ok (.goto 4, 3) := by decide +kernel
theorem s_155_29 {d : Nat} {Q : wQ} {L : List (Option Value)} {st : List Value} {w : aw} {cn sn : Nat}  : wp d 155 Q 29 L st w cn sn = wp d 155 Q 33 L st w cn sn := w_goto d_155_29 (by decide)
theorem d_155_32 : decode (mB 155) 32 = .ok (.iconst 0, 1) := by decide +kernel
theorem s_155_32 {d : Nat} {Q : wQ} {L : List (Option Value)} {st : List Value} {w : aw} {cn sn : Nat}  : wp d 155 Q 32 L st w cn sn = wp d 155 Q 33 L (.int 0 :: st) w cn sn := w_iconst d_155_32 (by decide)
theorem d_155_33 : decode (mB 155) 33 = .ok (.ireturn, 1) := by decide +kernel
theorem s_155_33 {d : Nat} {Q : wQ} {L : List (Option Value)} {w : aw} {cn sn : Nat} {v : Int32} : wp d 155 Q 33 L [.int v] w cn sn = (narrow .boolean (.int v) = .int v ∧ Q (some (.int v)) w) := w_zreturn d_155_33 rfl
theorem d_156_0 : decode (mB 156) 0 = .ok (.aload_n 0, 1) := by decide +kernel
theorem s_156_0 {d : Nat} {Q : wQ} {L : List (Option Value)} {st : List Value} {w : aw} {cn sn : Nat} {v : Nat} : wp d 156 Q 0 (some (.ref v) :: L) st w cn sn = wp d 156 Q 1 (some (.ref v) :: L) (.ref v :: st) w cn sn := w_aload_n d_156_0 rfl
theorem d_156_1 : decode (mB 156) 1 = .ok (.aload_n 0, 1) := by decide +kernel
theorem s_156_1 {d : Nat} {Q : wQ} {L : List (Option Value)} {st : List Value} {w : aw} {cn sn : Nat} {v : Nat} : wp d 156 Q 1 (some (.ref v) :: L) st w cn sn = wp d 156 Q 2 (some (.ref v) :: L) (.ref v :: st) w cn sn := w_aload_n d_156_1 rfl
theorem d_156_2 : decode (mB 156) 2 = .ok (.getfield 231, 3) := by decide +kernel
theorem s_156_2 {d : Nat} {Q : wQ} {L : List (Option Value)} {st : List Value} {w : aw} {cn sn : Nat} {a : Nat} : wp d 156 Q 2 L (.ref a :: st) w cn sn = (kd w a = 9 ∧ wp d 156 Q 5 L (fd w 555 a :: st) w cn sn) := w_getfield d_156_2 (by decide +kernel : fT (mO 156) 231 = some (8, 43))
theorem d_156_5 : decode (mB 156) 5 = .ok (.invokevirtual 237, 3) := by decide +kernel
theorem s_156_5 {d : Nat} {Q : wQ} {L : List (Option Value)} {st : List Value} {w : aw} {cn sn : Nat} {v0 : Value} {b : Nat} : wp d 156 Q 5 L (v0 :: .ref b :: st) w cn sn = (kd w b = 9 ∧ catS st ≤ 8 ∧ wpD d 147 [.ref b, v0] w (fun v w' => wp d 156 Q 8 L (v.toList ++ st) w' cn sn)) := w_virtual (As := [v0]) d_156_5 (by decide +kernel : cT (mO 156) 237 = some (0, 147)) rfl (by decide +kernel) rfl (by decide +kernel) rfl
theorem d_156_8 : decode (mB 156) 8 = .ok (.bipush 73, 2) := by decide +kernel
theorem s_156_8 {d : Nat} {Q : wQ} {L : List (Option Value)} {st : List Value} {w : aw} {cn sn : Nat}  : wp d 156 Q 8 L st w cn sn = wp d 156 Q 10 L (.int 73 :: st) w cn sn := w_bipush d_156_8 (by decide)
theorem d_156_10 : decode (mB 156) 10 = .ok (.if_icmp .ne 20, 3) := by decide +kernel
theorem s_156_10 {d : Nat} {Q : wQ} {L : List (Option Value)} {st : List Value} {w : aw} {cn sn : Nat} {a b : Int32} : wp d 156 Q 10 L (.int b :: .int a :: st) w cn sn = ((¬ a = b → wp d 156 Q 30 L st w cn sn) ∧ (a = b → wp d 156 Q 13 L st w cn sn)) := w_icne d_156_10 (by decide)
theorem d_156_13 : decode (mB 156) 13 = .ok (.aload_n 0, 1) := by decide +kernel
theorem s_156_13 {d : Nat} {Q : wQ} {L : List (Option Value)} {st : List Value} {w : aw} {cn sn : Nat} {v : Nat} : wp d 156 Q 13 (some (.ref v) :: L) st w cn sn = wp d 156 Q 14 (some (.ref v) :: L) (.ref v :: st) w cn sn := w_aload_n d_156_13 rfl
theorem d_156_14 : decode (mB 156) 14 = .ok (.aload_n 0, 1) := by decide +kernel
theorem s_156_14 {d : Nat} {Q : wQ} {L : List (Option Value)} {st : List Value} {w : aw} {cn sn : Nat} {v : Nat} : wp d 156 Q 14 (some (.ref v) :: L) st w cn sn = wp d 156 Q 15 (some (.ref v) :: L) (.ref v :: st) w cn sn := w_aload_n d_156_14 rfl
theorem d_156_15 : decode (mB 156) 15 = .ok (.getfield 231, 3) := by decide +kernel
theorem s_156_15 {d : Nat} {Q : wQ} {L : List (Option Value)} {st : List Value} {w : aw} {cn sn : Nat} {a : Nat} : wp d 156 Q 15 L (.ref a :: st) w cn sn = (kd w a = 9 ∧ wp d 156 Q 18 L (fd w 555 a :: st) w cn sn) := w_getfield d_156_15 (by decide +kernel : fT (mO 156) 231 = some (8, 43))
theorem d_156_18 : decode (mB 156) 18 = .ok (.invokevirtual 240, 3) := by decide +kernel
theorem s_156_18 {d : Nat} {Q : wQ} {L : List (Option Value)} {st : List Value} {w : aw} {cn sn : Nat} {v0 : Value} {b : Nat} : wp d 156 Q 18 L (v0 :: .ref b :: st) w cn sn = (kd w b = 9 ∧ catS st ≤ 8 ∧ wpD d 149 [.ref b, v0] w (fun v w' => wp d 156 Q 21 L (v.toList ++ st) w' cn sn)) := w_virtual (As := [v0]) d_156_18 (by decide +kernel : cT (mO 156) 240 = some (0, 149)) rfl (by decide +kernel) rfl (by decide +kernel) rfl
theorem d_156_21 : decode (mB 156) 21 = .ok (.aload_n 0, 1) := by decide +kernel
theorem s_156_21 {d : Nat} {Q : wQ} {L : List (Option Value)} {st : List Value} {w : aw} {cn sn : Nat} {v : Nat} : wp d 156 Q 21 (some (.ref v) :: L) st w cn sn = wp d 156 Q 22 (some (.ref v) :: L) (.ref v :: st) w cn sn := w_aload_n d_156_21 rfl
theorem d_156_22 : decode (mB 156) 22 = .ok (.getfield 231, 3) := by decide +kernel
theorem s_156_22 {d : Nat} {Q : wQ} {L : List (Option Value)} {st : List Value} {w : aw} {cn sn : Nat} {a : Nat} : wp d 156 Q 22 L (.ref a :: st) w cn sn = (kd w a = 9 ∧ wp d 156 Q 25 L (fd w 555 a :: st) w cn sn) := w_getfield d_156_22 (by decide +kernel : fT (mO 156) 231 = some (8, 43))
theorem d_156_25 : decode (mB 156) 25 = .ok (.iconst 1, 1) := by decide +kernel
theorem s_156_25 {d : Nat} {Q : wQ} {L : List (Option Value)} {st : List Value} {w : aw} {cn sn : Nat}  : wp d 156 Q 25 L st w cn sn = wp d 156 Q 26 L (.int 1 :: st) w cn sn := w_iconst d_156_25 (by decide)
theorem d_156_26 : decode (mB 156) 26 = .ok (.iadd, 1) := by decide +kernel
theorem s_156_26 {d : Nat} {Q : wQ} {L : List (Option Value)} {st : List Value} {w : aw} {cn sn : Nat} {a b : Int32} : wp d 156 Q 26 L (.int b :: .int a :: st) w cn sn = wp d 156 Q 27 L (.int (a + b) :: st) w cn sn := wp_row d_156_26 _ _ _ _ _
theorem d_156_27 : decode (mB 156) 27 = .ok (.if_icmp .eq 5, 3) := by decide +kernel
theorem s_156_27 {d : Nat} {Q : wQ} {L : List (Option Value)} {st : List Value} {w : aw} {cn sn : Nat} {a b : Int32} : wp d 156 Q 27 L (.int b :: .int a :: st) w cn sn = ((a = b → wp d 156 Q 32 L st w cn sn) ∧ (¬ a = b → wp d 156 Q 30 L st w cn sn)) := w_iceq d_156_27 (by decide)
theorem d_156_30 : decode (mB 156) 30 = .ok (.iconst 0, 1) := by decide +kernel
theorem s_156_30 {d : Nat} {Q : wQ} {L : List (Option Value)} {st : List Value} {w : aw} {cn sn : Nat}  : wp d 156 Q 30 L st w cn sn = wp d 156 Q 31 L (.int 0 :: st) w cn sn := w_iconst d_156_30 (by decide)
theorem d_156_31 : decode (mB 156) 31 = .ok (.ireturn, 1) := by decide +kernel
theorem s_156_31 {d : Nat} {Q : wQ} {L : List (Option Value)} {w : aw} {cn sn : Nat} {v : Int32} : wp d 156 Q 31 L [.int v] w cn sn = (narrow .boolean (.int v) = .int v ∧ Q (some (.int v)) w) := w_zreturn d_156_31 rfl
theorem d_156_32 : decode (mB 156) 32 = .ok (.aload_n 0, 1) := by decide +kernel
theorem s_156_32 {d : Nat} {Q : wQ} {L : List (Option Value)} {st : List Value} {w : aw} {cn sn : Nat} {v : Nat} : wp d 156 Q 32 (some (.ref v) :: L) st w cn sn = wp d 156 Q 33 (some (.ref v) :: L) (.ref v :: st) w cn sn := w_aload_n d_156_32 rfl
theorem d_156_33 : decode (mB 156) 33 = .ok (.getfield 231, 3) := by decide +kernel
theorem s_156_33 {d : Nat} {Q : wQ} {L : List (Option Value)} {st : List Value} {w : aw} {cn sn : Nat} {a : Nat} : wp d 156 Q 33 L (.ref a :: st) w cn sn = (kd w a = 9 ∧ wp d 156 Q 36 L (fd w 555 a :: st) w cn sn) := w_getfield d_156_33 (by decide +kernel : fT (mO 156) 231 = some (8, 43))
theorem d_156_36 : decode (mB 156) 36 = .ok (.iconst 1, 1) := by decide +kernel
theorem s_156_36 {d : Nat} {Q : wQ} {L : List (Option Value)} {st : List Value} {w : aw} {cn sn : Nat}  : wp d 156 Q 36 L st w cn sn = wp d 156 Q 37 L (.int 1 :: st) w cn sn := w_iconst d_156_36 (by decide)
theorem d_156_37 : decode (mB 156) 37 = .ok (.iadd, 1) := by decide +kernel
theorem s_156_37 {d : Nat} {Q : wQ} {L : List (Option Value)} {st : List Value} {w : aw} {cn sn : Nat} {a b : Int32} : wp d 156 Q 37 L (.int b :: .int a :: st) w cn sn = wp d 156 Q 38 L (.int (a + b) :: st) w cn sn := wp_row d_156_37 _ _ _ _ _
theorem d_156_38 : decode (mB 156) 38 = .ok (.istore_n 1, 1) := by decide +kernel
theorem s_156_38 {d : Nat} {Q : wQ} {L : List (Option Value)} {st : List Value} {w : aw} {cn sn : Nat} {a0 a1 : Option Value} {v : Int32} : wp d 156 Q 38 (a0 :: a1 :: L) (.int v :: st) w cn sn = wp d 156 Q 39 (clr a0 :: some (.int v) :: L) st w cn sn := w_istore_n d_156_38 (Nat.le_add_left 2 _) rfl
theorem d_156_39 : decode (mB 156) 39 = .ok (.iload_n 1, 1) := by decide +kernel
theorem s_156_39 {d : Nat} {Q : wQ} {L : List (Option Value)} {st : List Value} {w : aw} {cn sn : Nat} {a0 : Option Value} {v : Int32} : wp d 156 Q 39 (a0 :: some (.int v) :: L) st w cn sn = wp d 156 Q 40 (a0 :: some (.int v) :: L) (.int v :: st) w cn sn := w_iload_n d_156_39 rfl
theorem d_156_40 : decode (mB 156) 40 = .ok (.aload_n 0, 1) := by decide +kernel
theorem s_156_40 {d : Nat} {Q : wQ} {L : List (Option Value)} {st : List Value} {w : aw} {cn sn : Nat} {v : Nat} : wp d 156 Q 40 (some (.ref v) :: L) st w cn sn = wp d 156 Q 41 (some (.ref v) :: L) (.ref v :: st) w cn sn := w_aload_n d_156_40 rfl
theorem d_156_41 : decode (mB 156) 41 = .ok (.getfield 228, 3) := by decide +kernel
theorem s_156_41 {d : Nat} {Q : wQ} {L : List (Option Value)} {st : List Value} {w : aw} {cn sn : Nat} {a : Nat} : wp d 156 Q 41 L (.ref a :: st) w cn sn = (kd w a = 9 ∧ wp d 156 Q 44 L (fd w 556 a :: st) w cn sn) := w_getfield d_156_41 (by decide +kernel : fT (mO 156) 228 = some (8, 44))
theorem d_156_44 : decode (mB 156) 44 = .ok (.if_icmp .ge 31, 3) := by decide +kernel
theorem s_156_44 {d : Nat} {Q : wQ} {L : List (Option Value)} {st : List Value} {w : aw} {cn sn : Nat} {a b : Int32} : wp d 156 Q 44 L (.int b :: .int a :: st) w cn sn = ((b ≤ a → wp d 156 Q 75 L st w cn sn) ∧ (¬ b ≤ a → wp d 156 Q 47 L st w cn sn)) := w_icge d_156_44 (by decide)
theorem d_156_47 : decode (mB 156) 47 = .ok (.aload_n 0, 1) := by decide +kernel
theorem s_156_47 {d : Nat} {Q : wQ} {L : List (Option Value)} {st : List Value} {w : aw} {cn sn : Nat} {v : Nat} : wp d 156 Q 47 (some (.ref v) :: L) st w cn sn = wp d 156 Q 48 (some (.ref v) :: L) (.ref v :: st) w cn sn := w_aload_n d_156_47 rfl
theorem d_156_48 : decode (mB 156) 48 = .ok (.getfield 72, 3) := by decide +kernel
theorem s_156_48 {d : Nat} {Q : wQ} {L : List (Option Value)} {st : List Value} {w : aw} {cn sn : Nat} {a : Nat} : wp d 156 Q 48 L (.ref a :: st) w cn sn = (kd w a = 9 ∧ wp d 156 Q 51 L (fd w 542 a :: st) w cn sn) := w_getfield d_156_48 (by decide +kernel : fT (mO 156) 72 = some (8, 30))
theorem d_156_51 : decode (mB 156) 51 = .ok (.iload_n 1, 1) := by decide +kernel
theorem s_156_51 {d : Nat} {Q : wQ} {L : List (Option Value)} {st : List Value} {w : aw} {cn sn : Nat} {a0 : Option Value} {v : Int32} : wp d 156 Q 51 (a0 :: some (.int v) :: L) st w cn sn = wp d 156 Q 52 (a0 :: some (.int v) :: L) (.int v :: st) w cn sn := w_iload_n d_156_51 rfl
theorem d_156_52 : decode (mB 156) 52 = .ok (.iaload, 1) := by decide +kernel
theorem s_156_52 {d : Nat} {Q : wQ} {L : List (Option Value)} {st : List Value} {w : aw} {cn sn : Nat} {a : Nat} {i : Int32} : wp d 156 Q 52 L (.int i :: .ref a :: st) w cn sn = ((kd w a = 20 ∨ kd w a = 30) ∧ inR i (ln w a) ∧ wp d 156 Q 53 L (.int (ai w a i.toNatClampNeg) :: st) w cn sn) := wp_row d_156_52 _ _ _ _ _
theorem d_156_53 : decode (mB 156) 53 = .ok (.bipush 32, 2) := by decide +kernel
theorem s_156_53 {d : Nat} {Q : wQ} {L : List (Option Value)} {st : List Value} {w : aw} {cn sn : Nat}  : wp d 156 Q 53 L st w cn sn = wp d 156 Q 55 L (.int 32 :: st) w cn sn := w_bipush d_156_53 (by decide)
theorem d_156_55 : decode (mB 156) 55 = .ok (.if_icmp .eq 14, 3) := by decide +kernel
theorem s_156_55 {d : Nat} {Q : wQ} {L : List (Option Value)} {st : List Value} {w : aw} {cn sn : Nat} {a b : Int32} : wp d 156 Q 55 L (.int b :: .int a :: st) w cn sn = ((a = b → wp d 156 Q 69 L st w cn sn) ∧ (¬ a = b → wp d 156 Q 58 L st w cn sn)) := w_iceq d_156_55 (by decide)
theorem d_156_58 : decode (mB 156) 58 = .ok (.aload_n 0, 1) := by decide +kernel
theorem s_156_58 {d : Nat} {Q : wQ} {L : List (Option Value)} {st : List Value} {w : aw} {cn sn : Nat} {v : Nat} : wp d 156 Q 58 (some (.ref v) :: L) st w cn sn = wp d 156 Q 59 (some (.ref v) :: L) (.ref v :: st) w cn sn := w_aload_n d_156_58 rfl
theorem d_156_59 : decode (mB 156) 59 = .ok (.getfield 72, 3) := by decide +kernel
theorem s_156_59 {d : Nat} {Q : wQ} {L : List (Option Value)} {st : List Value} {w : aw} {cn sn : Nat} {a : Nat} : wp d 156 Q 59 L (.ref a :: st) w cn sn = (kd w a = 9 ∧ wp d 156 Q 62 L (fd w 542 a :: st) w cn sn) := w_getfield d_156_59 (by decide +kernel : fT (mO 156) 72 = some (8, 30))
theorem d_156_62 : decode (mB 156) 62 = .ok (.iload_n 1, 1) := by decide +kernel
theorem s_156_62 {d : Nat} {Q : wQ} {L : List (Option Value)} {st : List Value} {w : aw} {cn sn : Nat} {a0 : Option Value} {v : Int32} : wp d 156 Q 62 (a0 :: some (.int v) :: L) st w cn sn = wp d 156 Q 63 (a0 :: some (.int v) :: L) (.int v :: st) w cn sn := w_iload_n d_156_62 rfl
theorem d_156_63 : decode (mB 156) 63 = .ok (.iaload, 1) := by decide +kernel
theorem s_156_63 {d : Nat} {Q : wQ} {L : List (Option Value)} {st : List Value} {w : aw} {cn sn : Nat} {a : Nat} {i : Int32} : wp d 156 Q 63 L (.int i :: .ref a :: st) w cn sn = ((kd w a = 20 ∨ kd w a = 30) ∧ inR i (ln w a) ∧ wp d 156 Q 64 L (.int (ai w a i.toNatClampNeg) :: st) w cn sn) := wp_row d_156_63 _ _ _ _ _
theorem d_156_64 : decode (mB 156) 64 = .ok (.bipush 9, 2) := by decide +kernel
theorem s_156_64 {d : Nat} {Q : wQ} {L : List (Option Value)} {st : List Value} {w : aw} {cn sn : Nat}  : wp d 156 Q 64 L st w cn sn = wp d 156 Q 66 L (.int 9 :: st) w cn sn := w_bipush d_156_64 (by decide)
theorem d_156_66 : decode (mB 156) 66 = .ok (.if_icmp .ne 9, 3) := by decide +kernel
theorem s_156_66 {d : Nat} {Q : wQ} {L : List (Option Value)} {st : List Value} {w : aw} {cn sn : Nat} {a b : Int32} : wp d 156 Q 66 L (.int b :: .int a :: st) w cn sn = ((¬ a = b → wp d 156 Q 75 L st w cn sn) ∧ (a = b → wp d 156 Q 69 L st w cn sn)) := w_icne d_156_66 (by decide)
theorem d_156_69 : decode (mB 156) 69 = .ok (.iinc 1 1, 3) := by decide +kernel
theorem s_156_69 {d : Nat} {Q : wQ} {L : List (Option Value)} {st : List Value} {w : aw} {cn sn : Nat} {a0 : Option Value} {v : Int32} : wp d 156 Q 69 (a0 :: some (.int v) :: L) st w cn sn = wp d 156 Q 72 (clr a0 :: some (.int (v + 1)) :: L) st w cn sn := w_iinc d_156_69 rfl (by decide) rfl
theorem d_156_72 : decode (mB 156) 72 = .ok (.goto (-33), 3) := by decide +kernel
theorem s_156_72 {d : Nat} {Q : wQ} {L : List (Option Value)} {st : List Value} {w : aw} {cn sn : Nat}  : wp d 156 Q 72 L st w cn sn = wp d 156 Q 39 L st w cn sn := w_goto d_156_72 (by decide)
theorem d_156_75 : decode (mB 156) 75 = .ok (.aload_n 0, 1) := by decide +kernel
theorem s_156_75 {d : Nat} {Q : wQ} {L : List (Option Value)} {st : List Value} {w : aw} {cn sn : Nat} {v : Nat} : wp d 156 Q 75 (some (.ref v) :: L) st w cn sn = wp d 156 Q 76 (some (.ref v) :: L) (.ref v :: st) w cn sn := w_aload_n d_156_75 rfl
theorem d_156_76 : decode (mB 156) 76 = .ok (.iload_n 1, 1) := by decide +kernel
theorem s_156_76 {d : Nat} {Q : wQ} {L : List (Option Value)} {st : List Value} {w : aw} {cn sn : Nat} {a0 : Option Value} {v : Int32} : wp d 156 Q 76 (a0 :: some (.int v) :: L) st w cn sn = wp d 156 Q 77 (a0 :: some (.int v) :: L) (.int v :: st) w cn sn := w_iload_n d_156_76 rfl
theorem d_156_77 : decode (mB 156) 77 = .ok (.invokevirtual 237, 3) := by decide +kernel
theorem s_156_77 {d : Nat} {Q : wQ} {L : List (Option Value)} {st : List Value} {w : aw} {cn sn : Nat} {v0 : Value} {b : Nat} : wp d 156 Q 77 L (v0 :: .ref b :: st) w cn sn = (kd w b = 9 ∧ catS st ≤ 8 ∧ wpD d 147 [.ref b, v0] w (fun v w' => wp d 156 Q 80 L (v.toList ++ st) w' cn sn)) := w_virtual (As := [v0]) d_156_77 (by decide +kernel : cT (mO 156) 237 = some (0, 147)) rfl (by decide +kernel) rfl (by decide +kernel) rfl
theorem d_156_80 : decode (mB 156) 80 = .ok (.istore_n 2, 1) := by decide +kernel
theorem s_156_80 {d : Nat} {Q : wQ} {L : List (Option Value)} {st : List Value} {w : aw} {cn sn : Nat} {a0 a1 a2 : Option Value} {v : Int32} : wp d 156 Q 80 (a0 :: a1 :: a2 :: L) (.int v :: st) w cn sn = wp d 156 Q 81 (a0 :: clr a1 :: some (.int v) :: L) st w cn sn := w_istore_n d_156_80 (Nat.le_add_left 3 _) rfl
theorem d_156_81 : decode (mB 156) 81 = .ok (.iload_n 2, 1) := by decide +kernel
theorem s_156_81 {d : Nat} {Q : wQ} {L : List (Option Value)} {st : List Value} {w : aw} {cn sn : Nat} {a0 a1 : Option Value} {v : Int32} : wp d 156 Q 81 (a0 :: a1 :: some (.int v) :: L) st w cn sn = wp d 156 Q 82 (a0 :: a1 :: some (.int v) :: L) (.int v :: st) w cn sn := w_iload_n d_156_81 rfl
theorem d_156_82 : decode (mB 156) 82 = .ok (.invokestatic 225, 3) := by decide +kernel
theorem s_156_82 {d : Nat} {Q : wQ} {L : List (Option Value)} {st : List Value} {w : aw} {cn sn : Nat} {v0 : Value} : wp d 156 Q 82 L (v0 :: st) w cn sn = (catS st ≤ 8 ∧ wpD d 144 [v0] w (fun v w' => wp d 156 Q 85 L (v.toList ++ st) w' cn sn)) := w_static (As := [v0]) d_156_82 (by decide +kernel : cT (mO 156) 225 = some (2, 144)) (by decide +kernel) rfl (by decide +kernel) rfl
theorem d_156_85 : decode (mB 156) 85 = .ok (.ifCond .ne 28, 3) := by decide +kernel
theorem s_156_85 {d : Nat} {Q : wQ} {L : List (Option Value)} {st : List Value} {w : aw} {cn sn : Nat} {x : Int32} : wp d 156 Q 85 L (.int x :: st) w cn sn = ((¬ x = 0 → wp d 156 Q 113 L st w cn sn) ∧ (x = 0 → wp d 156 Q 88 L st w cn sn)) := w_ifne d_156_85 (by decide)
theorem d_156_88 : decode (mB 156) 88 = .ok (.iload_n 2, 1) := by decide +kernel
theorem s_156_88 {d : Nat} {Q : wQ} {L : List (Option Value)} {st : List Value} {w : aw} {cn sn : Nat} {a0 a1 : Option Value} {v : Int32} : wp d 156 Q 88 (a0 :: a1 :: some (.int v) :: L) st w cn sn = wp d 156 Q 89 (a0 :: a1 :: some (.int v) :: L) (.int v :: st) w cn sn := w_iload_n d_156_88 rfl
theorem d_156_89 : decode (mB 156) 89 = .ok (.invokestatic 234, 3) := by decide +kernel
theorem s_156_89 {d : Nat} {Q : wQ} {L : List (Option Value)} {st : List Value} {w : aw} {cn sn : Nat} {v0 : Value} : wp d 156 Q 89 L (v0 :: st) w cn sn = (catS st ≤ 8 ∧ wpD d 145 [v0] w (fun v w' => wp d 156 Q 92 L (v.toList ++ st) w' cn sn)) := w_static (As := [v0]) d_156_89 (by decide +kernel : cT (mO 156) 234 = some (2, 145)) (by decide +kernel) rfl (by decide +kernel) rfl
theorem d_156_92 : decode (mB 156) 92 = .ok (.ifCond .ne 21, 3) := by decide +kernel
theorem s_156_92 {d : Nat} {Q : wQ} {L : List (Option Value)} {st : List Value} {w : aw} {cn sn : Nat} {x : Int32} : wp d 156 Q 92 L (.int x :: st) w cn sn = ((¬ x = 0 → wp d 156 Q 113 L st w cn sn) ∧ (x = 0 → wp d 156 Q 95 L st w cn sn)) := w_ifne d_156_92 (by decide)
theorem d_156_95 : decode (mB 156) 95 = .ok (.iload_n 2, 1) := by decide +kernel
theorem s_156_95 {d : Nat} {Q : wQ} {L : List (Option Value)} {st : List Value} {w : aw} {cn sn : Nat} {a0 a1 : Option Value} {v : Int32} : wp d 156 Q 95 (a0 :: a1 :: some (.int v) :: L) st w cn sn = wp d 156 Q 96 (a0 :: a1 :: some (.int v) :: L) (.int v :: st) w cn sn := w_iload_n d_156_95 rfl
theorem d_156_96 : decode (mB 156) 96 = .ok (.bipush 46, 2) := by decide +kernel
theorem s_156_96 {d : Nat} {Q : wQ} {L : List (Option Value)} {st : List Value} {w : aw} {cn sn : Nat}  : wp d 156 Q 96 L st w cn sn = wp d 156 Q 98 L (.int 46 :: st) w cn sn := w_bipush d_156_96 (by decide)
theorem d_156_98 : decode (mB 156) 98 = .ok (.if_icmp .eq 15, 3) := by decide +kernel
theorem s_156_98 {d : Nat} {Q : wQ} {L : List (Option Value)} {st : List Value} {w : aw} {cn sn : Nat} {a b : Int32} : wp d 156 Q 98 L (.int b :: .int a :: st) w cn sn = ((a = b → wp d 156 Q 113 L st w cn sn) ∧ (¬ a = b → wp d 156 Q 101 L st w cn sn)) := w_iceq d_156_98 (by decide)
theorem d_156_101 : decode (mB 156) 101 = .ok (.iload_n 2, 1) := by decide +kernel
theorem s_156_101 {d : Nat} {Q : wQ} {L : List (Option Value)} {st : List Value} {w : aw} {cn sn : Nat} {a0 a1 : Option Value} {v : Int32} : wp d 156 Q 101 (a0 :: a1 :: some (.int v) :: L) st w cn sn = wp d 156 Q 102 (a0 :: a1 :: some (.int v) :: L) (.int v :: st) w cn sn := w_iload_n d_156_101 rfl
theorem d_156_102 : decode (mB 156) 102 = .ok (.bipush 45, 2) := by decide +kernel
theorem s_156_102 {d : Nat} {Q : wQ} {L : List (Option Value)} {st : List Value} {w : aw} {cn sn : Nat}  : wp d 156 Q 102 L st w cn sn = wp d 156 Q 104 L (.int 45 :: st) w cn sn := w_bipush d_156_102 (by decide)
theorem d_156_104 : decode (mB 156) 104 = .ok (.if_icmp .eq 9, 3) := by decide +kernel
theorem s_156_104 {d : Nat} {Q : wQ} {L : List (Option Value)} {st : List Value} {w : aw} {cn sn : Nat} {a b : Int32} : wp d 156 Q 104 L (.int b :: .int a :: st) w cn sn = ((a = b → wp d 156 Q 113 L st w cn sn) ∧ (¬ a = b → wp d 156 Q 107 L st w cn sn)) := w_iceq d_156_104 (by decide)
theorem d_156_107 : decode (mB 156) 107 = .ok (.iload_n 2, 1) := by decide +kernel
theorem s_156_107 {d : Nat} {Q : wQ} {L : List (Option Value)} {st : List Value} {w : aw} {cn sn : Nat} {a0 a1 : Option Value} {v : Int32} : wp d 156 Q 107 (a0 :: a1 :: some (.int v) :: L) st w cn sn = wp d 156 Q 108 (a0 :: a1 :: some (.int v) :: L) (.int v :: st) w cn sn := w_iload_n d_156_107 rfl
theorem d_156_108 : decode (mB 156) 108 = .ok (.bipush 40, 2) := by decide +kernel
theorem s_156_108 {d : Nat} {Q : wQ} {L : List (Option Value)} {st : List Value} {w : aw} {cn sn : Nat}  : wp d 156 Q 108 L st w cn sn = wp d 156 Q 110 L (.int 40 :: st) w cn sn := w_bipush d_156_108 (by decide)
theorem d_156_110 : decode (mB 156) 110 = .ok (.if_icmp .ne 7, 3) := by decide +kernel
theorem s_156_110 {d : Nat} {Q : wQ} {L : List (Option Value)} {st : List Value} {w : aw} {cn sn : Nat} {a b : Int32} : wp d 156 Q 110 L (.int b :: .int a :: st) w cn sn = ((¬ a = b → wp d 156 Q 117 L st w cn sn) ∧ (a = b → wp d 156 Q 113 L st w cn sn)) := w_icne d_156_110 (by decide)
theorem d_156_113 : decode (mB 156) 113 = .ok (.iconst 1, 1) := by decide +kernel
theorem s_156_113 {d : Nat} {Q : wQ} {L : List (Option Value)} {st : List Value} {w : aw} {cn sn : Nat}  : wp d 156 Q 113 L st w cn sn = wp d 156 Q 114 L (.int 1 :: st) w cn sn := w_iconst d_156_113 (by decide)
theorem d_156_114 : decode (mB 156) 114 = .ok (.goto 4, 3) := by decide +kernel
theorem s_156_114 {d : Nat} {Q : wQ} {L : List (Option Value)} {st : List Value} {w : aw} {cn sn : Nat}  : wp d 156 Q 114 L st w cn sn = wp d 156 Q 118 L st w cn sn := w_goto d_156_114 (by decide)
theorem d_156_117 : decode (mB 156) 117 = .ok (.iconst 0, 1) := by decide +kernel
theorem s_156_117 {d : Nat} {Q : wQ} {L : List (Option Value)} {st : List Value} {w : aw} {cn sn : Nat}  : wp d 156 Q 117 L st w cn sn = wp d 156 Q 118 L (.int 0 :: st) w cn sn := w_iconst d_156_117 (by decide)
theorem d_156_118 : decode (mB 156) 118 = .ok (.ireturn, 1) := by decide +kernel
theorem s_156_118 {d : Nat} {Q : wQ} {L : List (Option Value)} {w : aw} {cn sn : Nat} {v : Int32} : wp d 156 Q 118 L [.int v] w cn sn = (narrow .boolean (.int v) = .int v ∧ Q (some (.int v)) w) := w_zreturn d_156_118 rfl
theorem d_157_0 : decode (mB 157) 0 = .ok (.aload_n 0, 1) := by decide +kernel
theorem s_157_0 {d : Nat} {Q : wQ} {L : List (Option Value)} {st : List Value} {w : aw} {cn sn : Nat} {v : Nat} : wp d 157 Q 0 (some (.ref v) :: L) st w cn sn = wp d 157 Q 1 (some (.ref v) :: L) (.ref v :: st) w cn sn := w_aload_n d_157_0 rfl
theorem d_157_1 : decode (mB 157) 1 = .ok (.aload_n 0, 1) := by decide +kernel
theorem s_157_1 {d : Nat} {Q : wQ} {L : List (Option Value)} {st : List Value} {w : aw} {cn sn : Nat} {v : Nat} : wp d 157 Q 1 (some (.ref v) :: L) st w cn sn = wp d 157 Q 2 (some (.ref v) :: L) (.ref v :: st) w cn sn := w_aload_n d_157_1 rfl
theorem d_157_2 : decode (mB 157) 2 = .ok (.getfield 231, 3) := by decide +kernel
theorem s_157_2 {d : Nat} {Q : wQ} {L : List (Option Value)} {st : List Value} {w : aw} {cn sn : Nat} {a : Nat} : wp d 157 Q 2 L (.ref a :: st) w cn sn = (kd w a = 9 ∧ wp d 157 Q 5 L (fd w 555 a :: st) w cn sn) := w_getfield d_157_2 (by decide +kernel : fT (mO 157) 231 = some (8, 43))
theorem d_157_5 : decode (mB 157) 5 = .ok (.invokevirtual 240, 3) := by decide +kernel
theorem s_157_5 {d : Nat} {Q : wQ} {L : List (Option Value)} {st : List Value} {w : aw} {cn sn : Nat} {v0 : Value} {b : Nat} : wp d 157 Q 5 L (v0 :: .ref b :: st) w cn sn = (kd w b = 9 ∧ catS st ≤ 8 ∧ wpD d 149 [.ref b, v0] w (fun v w' => wp d 157 Q 8 L (v.toList ++ st) w' cn sn)) := w_virtual (As := [v0]) d_157_5 (by decide +kernel : cT (mO 157) 240 = some (0, 149)) rfl (by decide +kernel) rfl (by decide +kernel) rfl
theorem d_157_8 : decode (mB 157) 8 = .ok (.istore_n 3, 1) := by decide +kernel
theorem s_157_8 {d : Nat} {Q : wQ} {L : List (Option Value)} {st : List Value} {w : aw} {cn sn : Nat} {a0 a1 a2 a3 : Option Value} {v : Int32} : wp d 157 Q 8 (a0 :: a1 :: a2 :: a3 :: L) (.int v :: st) w cn sn = wp d 157 Q 9 (a0 :: a1 :: clr a2 :: some (.int v) :: L) st w cn sn := w_istore_n d_157_8 (Nat.le_add_left 4 _) rfl
theorem d_157_9 : decode (mB 157) 9 = .ok (.aload_n 0, 1) := by decide +kernel
theorem s_157_9 {d : Nat} {Q : wQ} {L : List (Option Value)} {st : List Value} {w : aw} {cn sn : Nat} {v : Nat} : wp d 157 Q 9 (some (.ref v) :: L) st w cn sn = wp d 157 Q 10 (some (.ref v) :: L) (.ref v :: st) w cn sn := w_aload_n d_157_9 rfl
theorem d_157_10 : decode (mB 157) 10 = .ok (.aload_n 0, 1) := by decide +kernel
theorem s_157_10 {d : Nat} {Q : wQ} {L : List (Option Value)} {st : List Value} {w : aw} {cn sn : Nat} {v : Nat} : wp d 157 Q 10 (some (.ref v) :: L) st w cn sn = wp d 157 Q 11 (some (.ref v) :: L) (.ref v :: st) w cn sn := w_aload_n d_157_10 rfl
theorem d_157_11 : decode (mB 157) 11 = .ok (.getfield 231, 3) := by decide +kernel
theorem s_157_11 {d : Nat} {Q : wQ} {L : List (Option Value)} {st : List Value} {w : aw} {cn sn : Nat} {a : Nat} : wp d 157 Q 11 L (.ref a :: st) w cn sn = (kd w a = 9 ∧ wp d 157 Q 14 L (fd w 555 a :: st) w cn sn) := w_getfield d_157_11 (by decide +kernel : fT (mO 157) 231 = some (8, 43))
theorem d_157_14 : decode (mB 157) 14 = .ok (.invokevirtual 237, 3) := by decide +kernel
theorem s_157_14 {d : Nat} {Q : wQ} {L : List (Option Value)} {st : List Value} {w : aw} {cn sn : Nat} {v0 : Value} {b : Nat} : wp d 157 Q 14 L (v0 :: .ref b :: st) w cn sn = (kd w b = 9 ∧ catS st ≤ 8 ∧ wpD d 147 [.ref b, v0] w (fun v w' => wp d 157 Q 17 L (v.toList ++ st) w' cn sn)) := w_virtual (As := [v0]) d_157_14 (by decide +kernel : cT (mO 157) 237 = some (0, 147)) rfl (by decide +kernel) rfl (by decide +kernel) rfl
theorem d_157_17 : decode (mB 157) 17 = .ok (.bipush 46, 2) := by decide +kernel
theorem s_157_17 {d : Nat} {Q : wQ} {L : List (Option Value)} {st : List Value} {w : aw} {cn sn : Nat}  : wp d 157 Q 17 L st w cn sn = wp d 157 Q 19 L (.int 46 :: st) w cn sn := w_bipush d_157_17 (by decide)
theorem d_157_19 : decode (mB 157) 19 = .ok (.if_icmp .ne 18, 3) := by decide +kernel
theorem s_157_19 {d : Nat} {Q : wQ} {L : List (Option Value)} {st : List Value} {w : aw} {cn sn : Nat} {a b : Int32} : wp d 157 Q 19 L (.int b :: .int a :: st) w cn sn = ((¬ a = b → wp d 157 Q 37 L st w cn sn) ∧ (a = b → wp d 157 Q 22 L st w cn sn)) := w_icne d_157_19 (by decide)
theorem d_157_22 : decode (mB 157) 22 = .ok (.aload_n 0, 1) := by decide +kernel
theorem s_157_22 {d : Nat} {Q : wQ} {L : List (Option Value)} {st : List Value} {w : aw} {cn sn : Nat} {v : Nat} : wp d 157 Q 22 (some (.ref v) :: L) st w cn sn = wp d 157 Q 23 (some (.ref v) :: L) (.ref v :: st) w cn sn := w_aload_n d_157_22 rfl
theorem d_157_23 : decode (mB 157) 23 = .ok (.getfield 254, 3) := by decide +kernel
theorem s_157_23 {d : Nat} {Q : wQ} {L : List (Option Value)} {st : List Value} {w : aw} {cn sn : Nat} {a : Nat} : wp d 157 Q 23 L (.ref a :: st) w cn sn = (kd w a = 9 ∧ wp d 157 Q 26 L (fd w 554 a :: st) w cn sn) := w_getfield d_157_23 (by decide +kernel : fT (mO 157) 254 = some (8, 42))
theorem d_157_26 : decode (mB 157) 26 = .ok (.istore_n 2, 1) := by decide +kernel
theorem s_157_26 {d : Nat} {Q : wQ} {L : List (Option Value)} {st : List Value} {w : aw} {cn sn : Nat} {a0 a1 a2 : Option Value} {v : Int32} : wp d 157 Q 26 (a0 :: a1 :: a2 :: L) (.int v :: st) w cn sn = wp d 157 Q 27 (a0 :: clr a1 :: some (.int v) :: L) st w cn sn := w_istore_n d_157_26 (Nat.le_add_left 3 _) rfl
theorem d_157_27 : decode (mB 157) 27 = .ok (.aload_n 0, 1) := by decide +kernel
theorem s_157_27 {d : Nat} {Q : wQ} {L : List (Option Value)} {st : List Value} {w : aw} {cn sn : Nat} {v : Nat} : wp d 157 Q 27 (some (.ref v) :: L) st w cn sn = wp d 157 Q 28 (some (.ref v) :: L) (.ref v :: st) w cn sn := w_aload_n d_157_27 rfl
theorem d_157_28 : decode (mB 157) 28 = .ok (.getfield 231, 3) := by decide +kernel
theorem s_157_28 {d : Nat} {Q : wQ} {L : List (Option Value)} {st : List Value} {w : aw} {cn sn : Nat} {a : Nat} : wp d 157 Q 28 L (.ref a :: st) w cn sn = (kd w a = 9 ∧ wp d 157 Q 31 L (fd w 555 a :: st) w cn sn) := w_getfield d_157_28 (by decide +kernel : fT (mO 157) 231 = some (8, 43))
theorem d_157_31 : decode (mB 157) 31 = .ok (.iconst 1, 1) := by decide +kernel
theorem s_157_31 {d : Nat} {Q : wQ} {L : List (Option Value)} {st : List Value} {w : aw} {cn sn : Nat}  : wp d 157 Q 31 L st w cn sn = wp d 157 Q 32 L (.int 1 :: st) w cn sn := w_iconst d_157_31 (by decide)
theorem d_157_32 : decode (mB 157) 32 = .ok (.iadd, 1) := by decide +kernel
theorem s_157_32 {d : Nat} {Q : wQ} {L : List (Option Value)} {st : List Value} {w : aw} {cn sn : Nat} {a b : Int32} : wp d 157 Q 32 L (.int b :: .int a :: st) w cn sn = wp d 157 Q 33 L (.int (a + b) :: st) w cn sn := wp_row d_157_32 _ _ _ _ _
theorem d_157_33 : decode (mB 157) 33 = .ok (.istore_n 3, 1) := by decide +kernel
theorem s_157_33 {d : Nat} {Q : wQ} {L : List (Option Value)} {st : List Value} {w : aw} {cn sn : Nat} {a0 a1 a2 a3 : Option Value} {v : Int32} : wp d 157 Q 33 (a0 :: a1 :: a2 :: a3 :: L) (.int v :: st) w cn sn = wp d 157 Q 34 (a0 :: a1 :: clr a2 :: some (.int v) :: L) st w cn sn := w_istore_n d_157_33 (Nat.le_add_left 4 _) rfl
theorem d_157_34 : decode (mB 157) 34 = .ok (.goto 166, 3) := by decide +kernel
theorem s_157_34 {d : Nat} {Q : wQ} {L : List (Option Value)} {st : List Value} {w : aw} {cn sn : Nat}  : wp d 157 Q 34 L st w cn sn = wp d 157 Q 200 L st w cn sn := w_goto d_157_34 (by decide)
theorem d_157_37 : decode (mB 157) 37 = .ok (.aload_n 0, 1) := by decide +kernel
theorem s_157_37 {d : Nat} {Q : wQ} {L : List (Option Value)} {st : List Value} {w : aw} {cn sn : Nat} {v : Nat} : wp d 157 Q 37 (some (.ref v) :: L) st w cn sn = wp d 157 Q 38 (some (.ref v) :: L) (.ref v :: st) w cn sn := w_aload_n d_157_37 rfl
theorem d_157_38 : decode (mB 157) 38 = .ok (.aload_n 0, 1) := by decide +kernel
theorem s_157_38 {d : Nat} {Q : wQ} {L : List (Option Value)} {st : List Value} {w : aw} {cn sn : Nat} {v : Nat} : wp d 157 Q 38 (some (.ref v) :: L) st w cn sn = wp d 157 Q 39 (some (.ref v) :: L) (.ref v :: st) w cn sn := w_aload_n d_157_38 rfl
theorem d_157_39 : decode (mB 157) 39 = .ok (.getfield 231, 3) := by decide +kernel
theorem s_157_39 {d : Nat} {Q : wQ} {L : List (Option Value)} {st : List Value} {w : aw} {cn sn : Nat} {a : Nat} : wp d 157 Q 39 L (.ref a :: st) w cn sn = (kd w a = 9 ∧ wp d 157 Q 42 L (fd w 555 a :: st) w cn sn) := w_getfield d_157_39 (by decide +kernel : fT (mO 157) 231 = some (8, 43))
theorem d_157_42 : decode (mB 157) 42 = .ok (.invokevirtual 237, 3) := by decide +kernel
theorem s_157_42 {d : Nat} {Q : wQ} {L : List (Option Value)} {st : List Value} {w : aw} {cn sn : Nat} {v0 : Value} {b : Nat} : wp d 157 Q 42 L (v0 :: .ref b :: st) w cn sn = (kd w b = 9 ∧ catS st ≤ 8 ∧ wpD d 147 [.ref b, v0] w (fun v w' => wp d 157 Q 45 L (v.toList ++ st) w' cn sn)) := w_virtual (As := [v0]) d_157_42 (by decide +kernel : cT (mO 157) 237 = some (0, 147)) rfl (by decide +kernel) rfl (by decide +kernel) rfl
theorem d_157_45 : decode (mB 157) 45 = .ok (.invokestatic 225, 3) := by decide +kernel
theorem s_157_45 {d : Nat} {Q : wQ} {L : List (Option Value)} {st : List Value} {w : aw} {cn sn : Nat} {v0 : Value} : wp d 157 Q 45 L (v0 :: st) w cn sn = (catS st ≤ 8 ∧ wpD d 144 [v0] w (fun v w' => wp d 157 Q 48 L (v.toList ++ st) w' cn sn)) := w_static (As := [v0]) d_157_45 (by decide +kernel : cT (mO 157) 225 = some (2, 144)) (by decide +kernel) rfl (by decide +kernel) rfl
theorem d_157_48 : decode (mB 157) 48 = .ok (.ifCond .eq 70, 3) := by decide +kernel
theorem s_157_48 {d : Nat} {Q : wQ} {L : List (Option Value)} {st : List Value} {w : aw} {cn sn : Nat} {x : Int32} : wp d 157 Q 48 L (.int x :: st) w cn sn = ((x = 0 → wp d 157 Q 118 L st w cn sn) ∧ (¬ x = 0 → wp d 157 Q 51 L st w cn sn)) := w_ifeq d_157_48 (by decide)
theorem d_157_51 : decode (mB 157) 51 = .ok (.iload_n 3, 1) := by decide +kernel
theorem s_157_51 {d : Nat} {Q : wQ} {L : List (Option Value)} {st : List Value} {w : aw} {cn sn : Nat} {a0 a1 a2 : Option Value} {v : Int32} : wp d 157 Q 51 (a0 :: a1 :: a2 :: some (.int v) :: L) st w cn sn = wp d 157 Q 52 (a0 :: a1 :: a2 :: some (.int v) :: L) (.int v :: st) w cn sn := w_iload_n d_157_51 rfl
theorem d_157_52 : decode (mB 157) 52 = .ok (.aload_n 0, 1) := by decide +kernel
theorem s_157_52 {d : Nat} {Q : wQ} {L : List (Option Value)} {st : List Value} {w : aw} {cn sn : Nat} {v : Nat} : wp d 157 Q 52 (some (.ref v) :: L) st w cn sn = wp d 157 Q 53 (some (.ref v) :: L) (.ref v :: st) w cn sn := w_aload_n d_157_52 rfl
theorem d_157_53 : decode (mB 157) 53 = .ok (.getfield 231, 3) := by decide +kernel
theorem s_157_53 {d : Nat} {Q : wQ} {L : List (Option Value)} {st : List Value} {w : aw} {cn sn : Nat} {a : Nat} : wp d 157 Q 53 L (.ref a :: st) w cn sn = (kd w a = 9 ∧ wp d 157 Q 56 L (fd w 555 a :: st) w cn sn) := w_getfield d_157_53 (by decide +kernel : fT (mO 157) 231 = some (8, 43))
theorem d_157_56 : decode (mB 157) 56 = .ok (.isub, 1) := by decide +kernel
theorem s_157_56 {d : Nat} {Q : wQ} {L : List (Option Value)} {st : List Value} {w : aw} {cn sn : Nat} {a b : Int32} : wp d 157 Q 56 L (.int b :: .int a :: st) w cn sn = wp d 157 Q 57 L (.int (a - b) :: st) w cn sn := wp_row d_157_56 _ _ _ _ _
theorem d_157_57 : decode (mB 157) 57 = .ok (.bipush 6, 2) := by decide +kernel
theorem s_157_57 {d : Nat} {Q : wQ} {L : List (Option Value)} {st : List Value} {w : aw} {cn sn : Nat}  : wp d 157 Q 57 L st w cn sn = wp d 157 Q 59 L (.int 6 :: st) w cn sn := w_bipush d_157_57 (by decide)
theorem d_157_59 : decode (mB 157) 59 = .ok (.if_icmp .le 5, 3) := by decide +kernel
theorem s_157_59 {d : Nat} {Q : wQ} {L : List (Option Value)} {st : List Value} {w : aw} {cn sn : Nat} {a b : Int32} : wp d 157 Q 59 L (.int b :: .int a :: st) w cn sn = ((a ≤ b → wp d 157 Q 64 L st w cn sn) ∧ (¬ a ≤ b → wp d 157 Q 62 L st w cn sn)) := w_icle d_157_59 (by decide)
theorem d_157_62 : decode (mB 157) 62 = .ok (.iconst 0, 1) := by decide +kernel
theorem s_157_62 {d : Nat} {Q : wQ} {L : List (Option Value)} {st : List Value} {w : aw} {cn sn : Nat}  : wp d 157 Q 62 L st w cn sn = wp d 157 Q 63 L (.int 0 :: st) w cn sn := w_iconst d_157_62 (by decide)
theorem d_157_63 : decode (mB 157) 63 = .ok (.ireturn, 1) := by decide +kernel
theorem s_157_63 {d : Nat} {Q : wQ} {L : List (Option Value)} {w : aw} {cn sn : Nat} {v : Int32} : wp d 157 Q 63 L [.int v] w cn sn = (narrow .boolean (.int v) = .int v ∧ Q (some (.int v)) w) := w_zreturn d_157_63 rfl
theorem d_157_64 : decode (mB 157) 64 = .ok (.aload_n 0, 1) := by decide +kernel
theorem s_157_64 {d : Nat} {Q : wQ} {L : List (Option Value)} {st : List Value} {w : aw} {cn sn : Nat} {v : Nat} : wp d 157 Q 64 (some (.ref v) :: L) st w cn sn = wp d 157 Q 65 (some (.ref v) :: L) (.ref v :: st) w cn sn := w_aload_n d_157_64 rfl
theorem d_157_65 : decode (mB 157) 65 = .ok (.aload_n 0, 1) := by decide +kernel
theorem s_157_65 {d : Nat} {Q : wQ} {L : List (Option Value)} {st : List Value} {w : aw} {cn sn : Nat} {v : Nat} : wp d 157 Q 65 (some (.ref v) :: L) st w cn sn = wp d 157 Q 66 (some (.ref v) :: L) (.ref v :: st) w cn sn := w_aload_n d_157_65 rfl
theorem d_157_66 : decode (mB 157) 66 = .ok (.aload_n 0, 1) := by decide +kernel
theorem s_157_66 {d : Nat} {Q : wQ} {L : List (Option Value)} {st : List Value} {w : aw} {cn sn : Nat} {v : Nat} : wp d 157 Q 66 (some (.ref v) :: L) st w cn sn = wp d 157 Q 67 (some (.ref v) :: L) (.ref v :: st) w cn sn := w_aload_n d_157_66 rfl
theorem d_157_67 : decode (mB 157) 67 = .ok (.getfield 231, 3) := by decide +kernel
theorem s_157_67 {d : Nat} {Q : wQ} {L : List (Option Value)} {st : List Value} {w : aw} {cn sn : Nat} {a : Nat} : wp d 157 Q 67 L (.ref a :: st) w cn sn = (kd w a = 9 ∧ wp d 157 Q 70 L (fd w 555 a :: st) w cn sn) := w_getfield d_157_67 (by decide +kernel : fT (mO 157) 231 = some (8, 43))
theorem d_157_70 : decode (mB 157) 70 = .ok (.invokevirtual 246, 3) := by decide +kernel
theorem s_157_70 {d : Nat} {Q : wQ} {L : List (Option Value)} {st : List Value} {w : aw} {cn sn : Nat} {v0 : Value} {b : Nat} : wp d 157 Q 70 L (v0 :: .ref b :: st) w cn sn = (kd w b = 9 ∧ catS st ≤ 8 ∧ wpD d 151 [.ref b, v0] w (fun v w' => wp d 157 Q 73 L (v.toList ++ st) w' cn sn)) := w_virtual (As := [v0]) d_157_70 (by decide +kernel : cT (mO 157) 246 = some (0, 151)) rfl (by decide +kernel) rfl (by decide +kernel) rfl
theorem d_157_73 : decode (mB 157) 73 = .ok (.invokevirtual 250, 3) := by decide +kernel
theorem s_157_73 {d : Nat} {Q : wQ} {L : List (Option Value)} {st : List Value} {w : aw} {cn sn : Nat} {v0 : Value} {b : Nat} : wp d 157 Q 73 L (v0 :: .ref b :: st) w cn sn = (kd w b = 9 ∧ catS st ≤ 8 ∧ wpD d 152 [.ref b, v0] w (fun v w' => wp d 157 Q 76 L (v.toList ++ st) w' cn sn)) := w_virtual (As := [v0]) d_157_73 (by decide +kernel : cT (mO 157) 250 = some (0, 152)) rfl (by decide +kernel) rfl (by decide +kernel) rfl
theorem d_157_76 : decode (mB 157) 76 = .ok (.istore 4, 2) := by decide +kernel
theorem s_157_76 {d : Nat} {Q : wQ} {L : List (Option Value)} {st : List Value} {w : aw} {cn sn : Nat} {a0 a1 a2 a3 a4 : Option Value} {v : Int32} : wp d 157 Q 76 (a0 :: a1 :: a2 :: a3 :: a4 :: L) (.int v :: st) w cn sn = wp d 157 Q 78 (a0 :: a1 :: a2 :: clr a3 :: some (.int v) :: L) st w cn sn := w_istore d_157_76 (Nat.le_add_left 5 _) rfl
theorem d_157_78 : decode (mB 157) 78 = .ok (.iload 4, 2) := by decide +kernel
theorem s_157_78 {d : Nat} {Q : wQ} {L : List (Option Value)} {st : List Value} {w : aw} {cn sn : Nat} {a0 a1 a2 a3 : Option Value} {v : Int32} : wp d 157 Q 78 (a0 :: a1 :: a2 :: a3 :: some (.int v) :: L) st w cn sn = wp d 157 Q 80 (a0 :: a1 :: a2 :: a3 :: some (.int v) :: L) (.int v :: st) w cn sn := w_iload d_157_78 rfl
theorem d_157_80 : decode (mB 157) 80 = .ok (.ifCond .ge 7, 3) := by decide +kernel
theorem s_157_80 {d : Nat} {Q : wQ} {L : List (Option Value)} {st : List Value} {w : aw} {cn sn : Nat} {x : Int32} : wp d 157 Q 80 L (.int x :: st) w cn sn = ((0 ≤ x → wp d 157 Q 87 L st w cn sn) ∧ (¬ 0 ≤ x → wp d 157 Q 83 L st w cn sn)) := w_ifge d_157_80 (by decide)
theorem d_157_83 : decode (mB 157) 83 = .ok (.iconst (-1), 1) := by decide +kernel
theorem s_157_83 {d : Nat} {Q : wQ} {L : List (Option Value)} {st : List Value} {w : aw} {cn sn : Nat}  : wp d 157 Q 83 L st w cn sn = wp d 157 Q 84 L (.int (-1) :: st) w cn sn := w_iconst d_157_83 (by decide)
theorem d_157_84 : decode (mB 157) 84 = .ok (.goto 10, 3) := by decide +kernel
theorem s_157_84 {d : Nat} {Q : wQ} {L : List (Option Value)} {st : List Value} {w : aw} {cn sn : Nat}  : wp d 157 Q 84 L st w cn sn = wp d 157 Q 94 L st w cn sn := w_goto d_157_84 (by decide)
theorem d_157_87 : decode (mB 157) 87 = .ok (.aload_n 0, 1) := by decide +kernel
theorem s_157_87 {d : Nat} {Q : wQ} {L : List (Option Value)} {st : List Value} {w : aw} {cn sn : Nat} {v : Nat} : wp d 157 Q 87 (some (.ref v) :: L) st w cn sn = wp d 157 Q 88 (some (.ref v) :: L) (.ref v :: st) w cn sn := w_aload_n d_157_87 rfl
theorem d_157_88 : decode (mB 157) 88 = .ok (.getfield 79, 3) := by decide +kernel
theorem s_157_88 {d : Nat} {Q : wQ} {L : List (Option Value)} {st : List Value} {w : aw} {cn sn : Nat} {a : Nat} : wp d 157 Q 88 L (.ref a :: st) w cn sn = (kd w a = 9 ∧ wp d 157 Q 91 L (fd w 547 a :: st) w cn sn) := w_getfield d_157_88 (by decide +kernel : fT (mO 157) 79 = some (8, 35))
theorem d_157_91 : decode (mB 157) 91 = .ok (.iload 4, 2) := by decide +kernel
theorem s_157_91 {d : Nat} {Q : wQ} {L : List (Option Value)} {st : List Value} {w : aw} {cn sn : Nat} {a0 a1 a2 a3 : Option Value} {v : Int32} : wp d 157 Q 91 (a0 :: a1 :: a2 :: a3 :: some (.int v) :: L) st w cn sn = wp d 157 Q 93 (a0 :: a1 :: a2 :: a3 :: some (.int v) :: L) (.int v :: st) w cn sn := w_iload d_157_91 rfl
theorem d_157_93 : decode (mB 157) 93 = .ok (.iaload, 1) := by decide +kernel
theorem s_157_93 {d : Nat} {Q : wQ} {L : List (Option Value)} {st : List Value} {w : aw} {cn sn : Nat} {a : Nat} {i : Int32} : wp d 157 Q 93 L (.int i :: .ref a :: st) w cn sn = ((kd w a = 20 ∨ kd w a = 30) ∧ inR i (ln w a) ∧ wp d 157 Q 94 L (.int (ai w a i.toNatClampNeg) :: st) w cn sn) := wp_row d_157_93 _ _ _ _ _
theorem d_157_94 : decode (mB 157) 94 = .ok (.istore_n 2, 1) := by decide +kernel
theorem s_157_94 {d : Nat} {Q : wQ} {L : List (Option Value)} {st : List Value} {w : aw} {cn sn : Nat} {a0 a1 a2 : Option Value} {v : Int32} : wp d 157 Q 94 (a0 :: a1 :: a2 :: L) (.int v :: st) w cn sn = wp d 157 Q 95 (a0 :: clr a1 :: some (.int v) :: L) st w cn sn := w_istore_n d_157_94 (Nat.le_add_left 3 _) rfl
theorem d_157_95 : decode (mB 157) 95 = .ok (.aload_n 0, 1) := by decide +kernel
theorem s_157_95 {d : Nat} {Q : wQ} {L : List (Option Value)} {st : List Value} {w : aw} {cn sn : Nat} {v : Nat} : wp d 157 Q 95 (some (.ref v) :: L) st w cn sn = wp d 157 Q 96 (some (.ref v) :: L) (.ref v :: st) w cn sn := w_aload_n d_157_95 rfl
theorem d_157_96 : decode (mB 157) 96 = .ok (.aload_n 0, 1) := by decide +kernel
theorem s_157_96 {d : Nat} {Q : wQ} {L : List (Option Value)} {st : List Value} {w : aw} {cn sn : Nat} {v : Nat} : wp d 157 Q 96 (some (.ref v) :: L) st w cn sn = wp d 157 Q 97 (some (.ref v) :: L) (.ref v :: st) w cn sn := w_aload_n d_157_96 rfl
theorem d_157_97 : decode (mB 157) 97 = .ok (.getfield 257, 3) := by decide +kernel
theorem s_157_97 {d : Nat} {Q : wQ} {L : List (Option Value)} {st : List Value} {w : aw} {cn sn : Nat} {a : Nat} : wp d 157 Q 97 L (.ref a :: st) w cn sn = (kd w a = 9 ∧ wp d 157 Q 100 L (fd w 558 a :: st) w cn sn) := w_getfield d_157_97 (by decide +kernel : fT (mO 157) 257 = some (8, 46))
theorem d_157_100 : decode (mB 157) 100 = .ok (.ifCond .eq 11, 3) := by decide +kernel
theorem s_157_100 {d : Nat} {Q : wQ} {L : List (Option Value)} {st : List Value} {w : aw} {cn sn : Nat} {x : Int32} : wp d 157 Q 100 L (.int x :: st) w cn sn = ((x = 0 → wp d 157 Q 111 L st w cn sn) ∧ (¬ x = 0 → wp d 157 Q 103 L st w cn sn)) := w_ifeq d_157_100 (by decide)
theorem d_157_103 : decode (mB 157) 103 = .ok (.iload_n 2, 1) := by decide +kernel
theorem s_157_103 {d : Nat} {Q : wQ} {L : List (Option Value)} {st : List Value} {w : aw} {cn sn : Nat} {a0 a1 : Option Value} {v : Int32} : wp d 157 Q 103 (a0 :: a1 :: some (.int v) :: L) st w cn sn = wp d 157 Q 104 (a0 :: a1 :: some (.int v) :: L) (.int v :: st) w cn sn := w_iload_n d_157_103 rfl
theorem d_157_104 : decode (mB 157) 104 = .ok (.ifCond .lt 7, 3) := by decide +kernel
theorem s_157_104 {d : Nat} {Q : wQ} {L : List (Option Value)} {st : List Value} {w : aw} {cn sn : Nat} {x : Int32} : wp d 157 Q 104 L (.int x :: st) w cn sn = ((x < 0 → wp d 157 Q 111 L st w cn sn) ∧ (¬ x < 0 → wp d 157 Q 107 L st w cn sn)) := w_iflt d_157_104 (by decide)
theorem d_157_107 : decode (mB 157) 107 = .ok (.iconst 1, 1) := by decide +kernel
theorem s_157_107 {d : Nat} {Q : wQ} {L : List (Option Value)} {st : List Value} {w : aw} {cn sn : Nat}  : wp d 157 Q 107 L st w cn sn = wp d 157 Q 108 L (.int 1 :: st) w cn sn := w_iconst d_157_107 (by decide)
theorem d_157_108 : decode (mB 157) 108 = .ok (.goto 4, 3) := by decide +kernel
theorem s_157_108 {d : Nat} {Q : wQ} {L : List (Option Value)} {st : List Value} {w : aw} {cn sn : Nat}  : wp d 157 Q 108 L st w cn sn = wp d 157 Q 112 L st w cn sn := w_goto d_157_108 (by decide)
theorem d_157_111 : decode (mB 157) 111 = .ok (.iconst 0, 1) := by decide +kernel
theorem s_157_111 {d : Nat} {Q : wQ} {L : List (Option Value)} {st : List Value} {w : aw} {cn sn : Nat}  : wp d 157 Q 111 L st w cn sn = wp d 157 Q 112 L (.int 0 :: st) w cn sn := w_iconst d_157_111 (by decide)
theorem d_157_112 : decode (mB 157) 112 = .ok (.putfield 257, 3) := by decide +kernel
theorem s_157_112 {d : Nat} {Q : wQ} {L : List (Option Value)} {st : List Value} {w : aw} {cn sn : Nat} {x : Int32} {a : Nat} : wp d 157 Q 112 L (.int x :: .ref a :: st) w cn sn = (kd w a = 9 ∧ okv .boolean (.int x) ∧ wp d 157 Q 115 L st (uF w 558 a (.int x)) cn sn) := w_putfieldC d_157_112 (by decide +kernel : fT (mO 157) 257 = some (8, 46)) (by decide +kernel)
theorem d_157_115 : decode (mB 157) 115 = .ok (.goto 85, 3) := by decide +kernel
theorem s_157_115 {d : Nat} {Q : wQ} {L : List (Option Value)} {st : List Value} {w : aw} {cn sn : Nat}  : wp d 157 Q 115 L st w cn sn = wp d 157 Q 200 L st w cn sn := w_goto d_157_115 (by decide)
theorem d_157_118 : decode (mB 157) 118 = .ok (.iload_n 3, 1) := by decide +kernel
theorem s_157_118 {d : Nat} {Q : wQ} {L : List (Option Value)} {st : List Value} {w : aw} {cn sn : Nat} {a0 a1 a2 : Option Value} {v : Int32} : wp d 157 Q 118 (a0 :: a1 :: a2 :: some (.int v) :: L) st w cn sn = wp d 157 Q 119 (a0 :: a1 :: a2 :: some (.int v) :: L) (.int v :: st) w cn sn := w_iload_n d_157_118 rfl
theorem d_157_119 : decode (mB 157) 119 = .ok (.aload_n 0, 1) := by decide +kernel
theorem s_157_119 {d : Nat} {Q : wQ} {L : List (Option Value)} {st : List Value} {w : aw} {cn sn : Nat} {v : Nat} : wp d 157 Q 119 (some (.ref v) :: L) st w cn sn = wp d 157 Q 120 (some (.ref v) :: L) (.ref v :: st) w cn sn := w_aload_n d_157_119 rfl
theorem d_157_120 : decode (mB 157) 120 = .ok (.getfield 231, 3) := by decide +kernel
theorem s_157_120 {d : Nat} {Q : wQ} {L : List (Option Value)} {st : List Value} {w : aw} {cn sn : Nat} {a : Nat} : wp d 157 Q 120 L (.ref a :: st) w cn sn = (kd w a = 9 ∧ wp d 157 Q 123 L (fd w 555 a :: st) w cn sn) := w_getfield d_157_120 (by decide +kernel : fT (mO 157) 231 = some (8, 43))
theorem d_157_123 : decode (mB 157) 123 = .ok (.if_icmp .eq 13, 3) := by decide +kernel
theorem s_157_123 {d : Nat} {Q : wQ} {L : List (Option Value)} {st : List Value} {w : aw} {cn sn : Nat} {a b : Int32} : wp d 157 Q 123 L (.int b :: .int a :: st) w cn sn = ((a = b → wp d 157 Q 136 L st w cn sn) ∧ (¬ a = b → wp d 157 Q 126 L st w cn sn)) := w_iceq d_157_123 (by decide)
theorem d_157_126 : decode (mB 157) 126 = .ok (.iload_n 3, 1) := by decide +kernel
theorem s_157_126 {d : Nat} {Q : wQ} {L : List (Option Value)} {st : List Value} {w : aw} {cn sn : Nat} {a0 a1 a2 : Option Value} {v : Int32} : wp d 157 Q 126 (a0 :: a1 :: a2 :: some (.int v) :: L) st w cn sn = wp d 157 Q 127 (a0 :: a1 :: a2 :: some (.int v) :: L) (.int v :: st) w cn sn := w_iload_n d_157_126 rfl
theorem d_157_127 : decode (mB 157) 127 = .ok (.aload_n 0, 1) := by decide +kernel
theorem s_157_127 {d : Nat} {Q : wQ} {L : List (Option Value)} {st : List Value} {w : aw} {cn sn : Nat} {v : Nat} : wp d 157 Q 127 (some (.ref v) :: L) st w cn sn = wp d 157 Q 128 (some (.ref v) :: L) (.ref v :: st) w cn sn := w_aload_n d_157_127 rfl
theorem d_157_128 : decode (mB 157) 128 = .ok (.getfield 231, 3) := by decide +kernel
theorem s_157_128 {d : Nat} {Q : wQ} {L : List (Option Value)} {st : List Value} {w : aw} {cn sn : Nat} {a : Nat} : wp d 157 Q 128 L (.ref a :: st) w cn sn = (kd w a = 9 ∧ wp d 157 Q 131 L (fd w 555 a :: st) w cn sn) := w_getfield d_157_128 (by decide +kernel : fT (mO 157) 231 = some (8, 43))
theorem d_157_131 : decode (mB 157) 131 = .ok (.isub, 1) := by decide +kernel
theorem s_157_131 {d : Nat} {Q : wQ} {L : List (Option Value)} {st : List Value} {w : aw} {cn sn : Nat} {a b : Int32} : wp d 157 Q 131 L (.int b :: .int a :: st) w cn sn = wp d 157 Q 132 L (.int (a - b) :: st) w cn sn := wp_row d_157_131 _ _ _ _ _
theorem d_157_132 : decode (mB 157) 132 = .ok (.iconst 4, 1) := by decide +kernel
theorem s_157_132 {d : Nat} {Q : wQ} {L : List (Option Value)} {st : List Value} {w : aw} {cn sn : Nat}  : wp d 157 Q 132 L st w cn sn = wp d 157 Q 133 L (.int 4 :: st) w cn sn := w_iconst d_157_132 (by decide)
theorem d_157_133 : decode (mB 157) 133 = .ok (.if_icmp .le 5, 3) := by decide +kernel
theorem s_157_133 {d : Nat} {Q : wQ} {L : List (Option Value)} {st : List Value} {w : aw} {cn sn : Nat} {a b : Int32} : wp d 157 Q 133 L (.int b :: .int a :: st) w cn sn = ((a ≤ b → wp d 157 Q 138 L st w cn sn) ∧ (¬ a ≤ b → wp d 157 Q 136 L st w cn sn)) := w_icle d_157_133 (by decide)
theorem d_157_136 : decode (mB 157) 136 = .ok (.iconst 0, 1) := by decide +kernel
theorem s_157_136 {d : Nat} {Q : wQ} {L : List (Option Value)} {st : List Value} {w : aw} {cn sn : Nat}  : wp d 157 Q 136 L st w cn sn = wp d 157 Q 137 L (.int 0 :: st) w cn sn := w_iconst d_157_136 (by decide)
theorem d_157_137 : decode (mB 157) 137 = .ok (.ireturn, 1) := by decide +kernel
theorem s_157_137 {d : Nat} {Q : wQ} {L : List (Option Value)} {w : aw} {cn sn : Nat} {v : Int32} : wp d 157 Q 137 L [.int v] w cn sn = (narrow .boolean (.int v) = .int v ∧ Q (some (.int v)) w) := w_zreturn d_157_137 rfl
theorem d_157_138 : decode (mB 157) 138 = .ok (.iconst 0, 1) := by decide +kernel
theorem s_157_138 {d : Nat} {Q : wQ} {L : List (Option Value)} {st : List Value} {w : aw} {cn sn : Nat}  : wp d 157 Q 138 L st w cn sn = wp d 157 Q 139 L (.int 0 :: st) w cn sn := w_iconst d_157_138 (by decide)
theorem d_157_139 : decode (mB 157) 139 = .ok (.istore_n 2, 1) := by decide +kernel
theorem s_157_139 {d : Nat} {Q : wQ} {L : List (Option Value)} {st : List Value} {w : aw} {cn sn : Nat} {a0 a1 a2 : Option Value} {v : Int32} : wp d 157 Q 139 (a0 :: a1 :: a2 :: L) (.int v :: st) w cn sn = wp d 157 Q 140 (a0 :: clr a1 :: some (.int v) :: L) st w cn sn := w_istore_n d_157_139 (Nat.le_add_left 3 _) rfl
theorem d_157_140 : decode (mB 157) 140 = .ok (.aload_n 0, 1) := by decide +kernel
theorem s_157_140 {d : Nat} {Q : wQ} {L : List (Option Value)} {st : List Value} {w : aw} {cn sn : Nat} {v : Nat} : wp d 157 Q 140 (some (.ref v) :: L) st w cn sn = wp d 157 Q 141 (some (.ref v) :: L) (.ref v :: st) w cn sn := w_aload_n d_157_140 rfl
theorem d_157_141 : decode (mB 157) 141 = .ok (.getfield 231, 3) := by decide +kernel
theorem s_157_141 {d : Nat} {Q : wQ} {L : List (Option Value)} {st : List Value} {w : aw} {cn sn : Nat} {a : Nat} : wp d 157 Q 141 L (.ref a :: st) w cn sn = (kd w a = 9 ∧ wp d 157 Q 144 L (fd w 555 a :: st) w cn sn) := w_getfield d_157_141 (by decide +kernel : fT (mO 157) 231 = some (8, 43))
theorem d_157_144 : decode (mB 157) 144 = .ok (.istore 4, 2) := by decide +kernel
theorem s_157_144 {d : Nat} {Q : wQ} {L : List (Option Value)} {st : List Value} {w : aw} {cn sn : Nat} {a0 a1 a2 a3 a4 : Option Value} {v : Int32} : wp d 157 Q 144 (a0 :: a1 :: a2 :: a3 :: a4 :: L) (.int v :: st) w cn sn = wp d 157 Q 146 (a0 :: a1 :: a2 :: clr a3 :: some (.int v) :: L) st w cn sn := w_istore d_157_144 (Nat.le_add_left 5 _) rfl
theorem d_157_146 : decode (mB 157) 146 = .ok (.iload 4, 2) := by decide +kernel
theorem s_157_146 {d : Nat} {Q : wQ} {L : List (Option Value)} {st : List Value} {w : aw} {cn sn : Nat} {a0 a1 a2 a3 : Option Value} {v : Int32} : wp d 157 Q 146 (a0 :: a1 :: a2 :: a3 :: some (.int v) :: L) st w cn sn = wp d 157 Q 148 (a0 :: a1 :: a2 :: a3 :: some (.int v) :: L) (.int v :: st) w cn sn := w_iload d_157_146 rfl
theorem d_157_148 : decode (mB 157) 148 = .ok (.iload_n 3, 1) := by decide +kernel
theorem s_157_148 {d : Nat} {Q : wQ} {L : List (Option Value)} {st : List Value} {w : aw} {cn sn : Nat} {a0 a1 a2 : Option Value} {v : Int32} : wp d 157 Q 148 (a0 :: a1 :: a2 :: some (.int v) :: L) st w cn sn = wp d 157 Q 149 (a0 :: a1 :: a2 :: some (.int v) :: L) (.int v :: st) w cn sn := w_iload_n d_157_148 rfl
theorem d_157_149 : decode (mB 157) 149 = .ok (.if_icmp .ge 51, 3) := by decide +kernel
theorem s_157_149 {d : Nat} {Q : wQ} {L : List (Option Value)} {st : List Value} {w : aw} {cn sn : Nat} {a b : Int32} : wp d 157 Q 149 L (.int b :: .int a :: st) w cn sn = ((b ≤ a → wp d 157 Q 200 L st w cn sn) ∧ (¬ b ≤ a → wp d 157 Q 152 L st w cn sn)) := w_icge d_157_149 (by decide)
theorem d_157_152 : decode (mB 157) 152 = .ok (.aload_n 0, 1) := by decide +kernel
theorem s_157_152 {d : Nat} {Q : wQ} {L : List (Option Value)} {st : List Value} {w : aw} {cn sn : Nat} {v : Nat} : wp d 157 Q 152 (some (.ref v) :: L) st w cn sn = wp d 157 Q 153 (some (.ref v) :: L) (.ref v :: st) w cn sn := w_aload_n d_157_152 rfl
theorem d_157_153 : decode (mB 157) 153 = .ok (.getfield 72, 3) := by decide +kernel
theorem s_157_153 {d : Nat} {Q : wQ} {L : List (Option Value)} {st : List Value} {w : aw} {cn sn : Nat} {a : Nat} : wp d 157 Q 153 L (.ref a :: st) w cn sn = (kd w a = 9 ∧ wp d 157 Q 156 L (fd w 542 a :: st) w cn sn) := w_getfield d_157_153 (by decide +kernel : fT (mO 157) 72 = some (8, 30))
theorem d_157_156 : decode (mB 157) 156 = .ok (.iload 4, 2) := by decide +kernel
theorem s_157_156 {d : Nat} {Q : wQ} {L : List (Option Value)} {st : List Value} {w : aw} {cn sn : Nat} {a0 a1 a2 a3 : Option Value} {v : Int32} : wp d 157 Q 156 (a0 :: a1 :: a2 :: a3 :: some (.int v) :: L) st w cn sn = wp d 157 Q 158 (a0 :: a1 :: a2 :: a3 :: some (.int v) :: L) (.int v :: st) w cn sn := w_iload d_157_156 rfl
theorem d_157_158 : decode (mB 157) 158 = .ok (.iaload, 1) := by decide +kernel
theorem s_157_158 {d : Nat} {Q : wQ} {L : List (Option Value)} {st : List Value} {w : aw} {cn sn : Nat} {a : Nat} {i : Int32} : wp d 157 Q 158 L (.int i :: .ref a :: st) w cn sn = ((kd w a = 20 ∨ kd w a = 30) ∧ inR i (ln w a) ∧ wp d 157 Q 159 L (.int (ai w a i.toNatClampNeg) :: st) w cn sn) := wp_row d_157_158 _ _ _ _ _
theorem d_157_159 : decode (mB 157) 159 = .ok (.bipush 48, 2) := by decide +kernel
theorem s_157_159 {d : Nat} {Q : wQ} {L : List (Option Value)} {st : List Value} {w : aw} {cn sn : Nat}  : wp d 157 Q 159 L st w cn sn = wp d 157 Q 161 L (.int 48 :: st) w cn sn := w_bipush d_157_159 (by decide)
theorem d_157_161 : decode (mB 157) 161 = .ok (.if_icmp .lt 15, 3) := by decide +kernel
theorem s_157_161 {d : Nat} {Q : wQ} {L : List (Option Value)} {st : List Value} {w : aw} {cn sn : Nat} {a b : Int32} : wp d 157 Q 161 L (.int b :: .int a :: st) w cn sn = ((a < b → wp d 157 Q 176 L st w cn sn) ∧ (¬ a < b → wp d 157 Q 164 L st w cn sn)) := w_iclt d_157_161 (by decide)
theorem d_157_164 : decode (mB 157) 164 = .ok (.aload_n 0, 1) := by decide +kernel
theorem s_157_164 {d : Nat} {Q : wQ} {L : List (Option Value)} {st : List Value} {w : aw} {cn sn : Nat} {v : Nat} : wp d 157 Q 164 (some (.ref v) :: L) st w cn sn = wp d 157 Q 165 (some (.ref v) :: L) (.ref v :: st) w cn sn := w_aload_n d_157_164 rfl
theorem d_157_165 : decode (mB 157) 165 = .ok (.getfield 72, 3) := by decide +kernel
theorem s_157_165 {d : Nat} {Q : wQ} {L : List (Option Value)} {st : List Value} {w : aw} {cn sn : Nat} {a : Nat} : wp d 157 Q 165 L (.ref a :: st) w cn sn = (kd w a = 9 ∧ wp d 157 Q 168 L (fd w 542 a :: st) w cn sn) := w_getfield d_157_165 (by decide +kernel : fT (mO 157) 72 = some (8, 30))
theorem d_157_168 : decode (mB 157) 168 = .ok (.iload 4, 2) := by decide +kernel
theorem s_157_168 {d : Nat} {Q : wQ} {L : List (Option Value)} {st : List Value} {w : aw} {cn sn : Nat} {a0 a1 a2 a3 : Option Value} {v : Int32} : wp d 157 Q 168 (a0 :: a1 :: a2 :: a3 :: some (.int v) :: L) st w cn sn = wp d 157 Q 170 (a0 :: a1 :: a2 :: a3 :: some (.int v) :: L) (.int v :: st) w cn sn := w_iload d_157_168 rfl
theorem d_157_170 : decode (mB 157) 170 = .ok (.iaload, 1) := by decide +kernel
theorem s_157_170 {d : Nat} {Q : wQ} {L : List (Option Value)} {st : List Value} {w : aw} {cn sn : Nat} {a : Nat} {i : Int32} : wp d 157 Q 170 L (.int i :: .ref a :: st) w cn sn = ((kd w a = 20 ∨ kd w a = 30) ∧ inR i (ln w a) ∧ wp d 157 Q 171 L (.int (ai w a i.toNatClampNeg) :: st) w cn sn) := wp_row d_157_170 _ _ _ _ _
theorem d_157_171 : decode (mB 157) 171 = .ok (.bipush 55, 2) := by decide +kernel
theorem s_157_171 {d : Nat} {Q : wQ} {L : List (Option Value)} {st : List Value} {w : aw} {cn sn : Nat}  : wp d 157 Q 171 L st w cn sn = wp d 157 Q 173 L (.int 55 :: st) w cn sn := w_bipush d_157_171 (by decide)
theorem d_157_173 : decode (mB 157) 173 = .ok (.if_icmp .le 5, 3) := by decide +kernel
theorem s_157_173 {d : Nat} {Q : wQ} {L : List (Option Value)} {st : List Value} {w : aw} {cn sn : Nat} {a b : Int32} : wp d 157 Q 173 L (.int b :: .int a :: st) w cn sn = ((a ≤ b → wp d 157 Q 178 L st w cn sn) ∧ (¬ a ≤ b → wp d 157 Q 176 L st w cn sn)) := w_icle d_157_173 (by decide)
theorem d_157_176 : decode (mB 157) 176 = .ok (.iconst 0, 1) := by decide +kernel
theorem s_157_176 {d : Nat} {Q : wQ} {L : List (Option Value)} {st : List Value} {w : aw} {cn sn : Nat}  : wp d 157 Q 176 L st w cn sn = wp d 157 Q 177 L (.int 0 :: st) w cn sn := w_iconst d_157_176 (by decide)
theorem d_157_177 : decode (mB 157) 177 = .ok (.ireturn, 1) := by decide +kernel
theorem s_157_177 {d : Nat} {Q : wQ} {L : List (Option Value)} {w : aw} {cn sn : Nat} {v : Int32} : wp d 157 Q 177 L [.int v] w cn sn = (narrow .boolean (.int v) = .int v ∧ Q (some (.int v)) w) := w_zreturn d_157_177 rfl
theorem d_157_178 : decode (mB 157) 178 = .ok (.bipush 8, 2) := by decide +kernel
theorem s_157_178 {d : Nat} {Q : wQ} {L : List (Option Value)} {st : List Value} {w : aw} {cn sn : Nat}  : wp d 157 Q 178 L st w cn sn = wp d 157 Q 180 L (.int 8 :: st) w cn sn := w_bipush d_157_178 (by decide)
theorem d_157_180 : decode (mB 157) 180 = .ok (.iload_n 2, 1) := by decide +kernel
theorem s_157_180 {d : Nat} {Q : wQ} {L : List (Option Value)} {st : List Value} {w : aw} {cn sn : Nat} {a0 a1 : Option Value} {v : Int32} : wp d 157 Q 180 (a0 :: a1 :: some (.int v) :: L) st w cn sn = wp d 157 Q 181 (a0 :: a1 :: some (.int v) :: L) (.int v :: st) w cn sn := w_iload_n d_157_180 rfl
theorem d_157_181 : decode (mB 157) 181 = .ok (.imul, 1) := by decide +kernel
theorem s_157_181 {d : Nat} {Q : wQ} {L : List (Option Value)} {st : List Value} {w : aw} {cn sn : Nat} {a b : Int32} : wp d 157 Q 181 L (.int b :: .int a :: st) w cn sn = wp d 157 Q 182 L (.int (a * b) :: st) w cn sn := wp_row d_157_181 _ _ _ _ _
theorem d_157_182 : decode (mB 157) 182 = .ok (.aload_n 0, 1) := by decide +kernel
theorem s_157_182 {d : Nat} {Q : wQ} {L : List (Option Value)} {st : List Value} {w : aw} {cn sn : Nat} {v : Nat} : wp d 157 Q 182 (some (.ref v) :: L) st w cn sn = wp d 157 Q 183 (some (.ref v) :: L) (.ref v :: st) w cn sn := w_aload_n d_157_182 rfl
theorem d_157_183 : decode (mB 157) 183 = .ok (.getfield 72, 3) := by decide +kernel
theorem s_157_183 {d : Nat} {Q : wQ} {L : List (Option Value)} {st : List Value} {w : aw} {cn sn : Nat} {a : Nat} : wp d 157 Q 183 L (.ref a :: st) w cn sn = (kd w a = 9 ∧ wp d 157 Q 186 L (fd w 542 a :: st) w cn sn) := w_getfield d_157_183 (by decide +kernel : fT (mO 157) 72 = some (8, 30))
theorem d_157_186 : decode (mB 157) 186 = .ok (.iload 4, 2) := by decide +kernel
theorem s_157_186 {d : Nat} {Q : wQ} {L : List (Option Value)} {st : List Value} {w : aw} {cn sn : Nat} {a0 a1 a2 a3 : Option Value} {v : Int32} : wp d 157 Q 186 (a0 :: a1 :: a2 :: a3 :: some (.int v) :: L) st w cn sn = wp d 157 Q 188 (a0 :: a1 :: a2 :: a3 :: some (.int v) :: L) (.int v :: st) w cn sn := w_iload d_157_186 rfl
theorem d_157_188 : decode (mB 157) 188 = .ok (.iaload, 1) := by decide +kernel
theorem s_157_188 {d : Nat} {Q : wQ} {L : List (Option Value)} {st : List Value} {w : aw} {cn sn : Nat} {a : Nat} {i : Int32} : wp d 157 Q 188 L (.int i :: .ref a :: st) w cn sn = ((kd w a = 20 ∨ kd w a = 30) ∧ inR i (ln w a) ∧ wp d 157 Q 189 L (.int (ai w a i.toNatClampNeg) :: st) w cn sn) := wp_row d_157_188 _ _ _ _ _
theorem d_157_189 : decode (mB 157) 189 = .ok (.iadd, 1) := by decide +kernel
theorem s_157_189 {d : Nat} {Q : wQ} {L : List (Option Value)} {st : List Value} {w : aw} {cn sn : Nat} {a b : Int32} : wp d 157 Q 189 L (.int b :: .int a :: st) w cn sn = wp d 157 Q 190 L (.int (a + b) :: st) w cn sn := wp_row d_157_189 _ _ _ _ _
theorem d_157_190 : decode (mB 157) 190 = .ok (.bipush 48, 2) := by decide +kernel
theorem s_157_190 {d : Nat} {Q : wQ} {L : List (Option Value)} {st : List Value} {w : aw} {cn sn : Nat}  : wp d 157 Q 190 L st w cn sn = wp d 157 Q 192 L (.int 48 :: st) w cn sn := w_bipush d_157_190 (by decide)
theorem d_157_192 : decode (mB 157) 192 = .ok (.isub, 1) := by decide +kernel
theorem s_157_192 {d : Nat} {Q : wQ} {L : List (Option Value)} {st : List Value} {w : aw} {cn sn : Nat} {a b : Int32} : wp d 157 Q 192 L (.int b :: .int a :: st) w cn sn = wp d 157 Q 193 L (.int (a - b) :: st) w cn sn := wp_row d_157_192 _ _ _ _ _
theorem d_157_193 : decode (mB 157) 193 = .ok (.istore_n 2, 1) := by decide +kernel
theorem s_157_193 {d : Nat} {Q : wQ} {L : List (Option Value)} {st : List Value} {w : aw} {cn sn : Nat} {a0 a1 a2 : Option Value} {v : Int32} : wp d 157 Q 193 (a0 :: a1 :: a2 :: L) (.int v :: st) w cn sn = wp d 157 Q 194 (a0 :: clr a1 :: some (.int v) :: L) st w cn sn := w_istore_n d_157_193 (Nat.le_add_left 3 _) rfl
theorem d_157_194 : decode (mB 157) 194 = .ok (.iinc 4 1, 3) := by decide +kernel
theorem s_157_194 {d : Nat} {Q : wQ} {L : List (Option Value)} {st : List Value} {w : aw} {cn sn : Nat} {a0 a1 a2 a3 : Option Value} {v : Int32} : wp d 157 Q 194 (a0 :: a1 :: a2 :: a3 :: some (.int v) :: L) st w cn sn = wp d 157 Q 197 (a0 :: a1 :: a2 :: clr a3 :: some (.int (v + 1)) :: L) st w cn sn := w_iinc d_157_194 rfl (by decide) rfl
theorem d_157_197 : decode (mB 157) 197 = .ok (.goto (-51), 3) := by decide +kernel
theorem s_157_197 {d : Nat} {Q : wQ} {L : List (Option Value)} {st : List Value} {w : aw} {cn sn : Nat}  : wp d 157 Q 197 L st w cn sn = wp d 157 Q 146 L st w cn sn := w_goto d_157_197 (by decide)
theorem d_157_200 : decode (mB 157) 200 = .ok (.aload_n 0, 1) := by decide +kernel
theorem s_157_200 {d : Nat} {Q : wQ} {L : List (Option Value)} {st : List Value} {w : aw} {cn sn : Nat} {v : Nat} : wp d 157 Q 200 (some (.ref v) :: L) st w cn sn = wp d 157 Q 201 (some (.ref v) :: L) (.ref v :: st) w cn sn := w_aload_n d_157_200 rfl
theorem d_157_201 : decode (mB 157) 201 = .ok (.iload_n 3, 1) := by decide +kernel
theorem s_157_201 {d : Nat} {Q : wQ} {L : List (Option Value)} {st : List Value} {w : aw} {cn sn : Nat} {a0 a1 a2 : Option Value} {v : Int32} : wp d 157 Q 201 (a0 :: a1 :: a2 :: some (.int v) :: L) st w cn sn = wp d 157 Q 202 (a0 :: a1 :: a2 :: some (.int v) :: L) (.int v :: st) w cn sn := w_iload_n d_157_201 rfl
theorem d_157_202 : decode (mB 157) 202 = .ok (.putfield 231, 3) := by decide +kernel
theorem s_157_202 {d : Nat} {Q : wQ} {L : List (Option Value)} {st : List Value} {w : aw} {cn sn : Nat} {x : Int32} {a : Nat} : wp d 157 Q 202 L (.int x :: .ref a :: st) w cn sn = (kd w a = 9 ∧ wp d 157 Q 205 L st (uF w 555 a (.int x)) cn sn) := w_putfield d_157_202 (by decide +kernel : fT (mO 157) 231 = some (8, 43)) (by decide +kernel) ok_int
theorem d_157_205 : decode (mB 157) 205 = .ok (.aload_n 0, 1) := by decide +kernel
theorem s_157_205 {d : Nat} {Q : wQ} {L : List (Option Value)} {st : List Value} {w : aw} {cn sn : Nat} {v : Nat} : wp d 157 Q 205 (some (.ref v) :: L) st w cn sn = wp d 157 Q 206 (some (.ref v) :: L) (.ref v :: st) w cn sn := w_aload_n d_157_205 rfl
theorem d_157_206 : decode (mB 157) 206 = .ok (.aload_n 0, 1) := by decide +kernel
theorem s_157_206 {d : Nat} {Q : wQ} {L : List (Option Value)} {st : List Value} {w : aw} {cn sn : Nat} {v : Nat} : wp d 157 Q 206 (some (.ref v) :: L) st w cn sn = wp d 157 Q 207 (some (.ref v) :: L) (.ref v :: st) w cn sn := w_aload_n d_157_206 rfl
theorem d_157_207 : decode (mB 157) 207 = .ok (.getfield 261, 3) := by decide +kernel
theorem s_157_207 {d : Nat} {Q : wQ} {L : List (Option Value)} {st : List Value} {w : aw} {cn sn : Nat} {a : Nat} : wp d 157 Q 207 L (.ref a :: st) w cn sn = (kd w a = 9 ∧ wp d 157 Q 210 L (fd w 557 a :: st) w cn sn) := w_getfield d_157_207 (by decide +kernel : fT (mO 157) 261 = some (8, 45))
theorem d_157_210 : decode (mB 157) 210 = .ok (.iload_n 1, 1) := by decide +kernel
theorem s_157_210 {d : Nat} {Q : wQ} {L : List (Option Value)} {st : List Value} {w : aw} {cn sn : Nat} {a0 : Option Value} {v : Int32} : wp d 157 Q 210 (a0 :: some (.int v) :: L) st w cn sn = wp d 157 Q 211 (a0 :: some (.int v) :: L) (.int v :: st) w cn sn := w_iload_n d_157_210 rfl
theorem d_157_211 : decode (mB 157) 211 = .ok (.iload_n 2, 1) := by decide +kernel
theorem s_157_211 {d : Nat} {Q : wQ} {L : List (Option Value)} {st : List Value} {w : aw} {cn sn : Nat} {a0 a1 : Option Value} {v : Int32} : wp d 157 Q 211 (a0 :: a1 :: some (.int v) :: L) st w cn sn = wp d 157 Q 212 (a0 :: a1 :: some (.int v) :: L) (.int v :: st) w cn sn := w_iload_n d_157_211 rfl
theorem d_157_212 : decode (mB 157) 212 = .ok (.imul, 1) := by decide +kernel
theorem s_157_212 {d : Nat} {Q : wQ} {L : List (Option Value)} {st : List Value} {w : aw} {cn sn : Nat} {a b : Int32} : wp d 157 Q 212 L (.int b :: .int a :: st) w cn sn = wp d 157 Q 213 L (.int (a * b) :: st) w cn sn := wp_row d_157_212 _ _ _ _ _
theorem d_157_213 : decode (mB 157) 213 = .ok (.iadd, 1) := by decide +kernel
theorem s_157_213 {d : Nat} {Q : wQ} {L : List (Option Value)} {st : List Value} {w : aw} {cn sn : Nat} {a b : Int32} : wp d 157 Q 213 L (.int b :: .int a :: st) w cn sn = wp d 157 Q 214 L (.int (a + b) :: st) w cn sn := wp_row d_157_213 _ _ _ _ _
theorem d_157_214 : decode (mB 157) 214 = .ok (.sipush 4095, 3) := by decide +kernel
theorem s_157_214 {d : Nat} {Q : wQ} {L : List (Option Value)} {st : List Value} {w : aw} {cn sn : Nat}  : wp d 157 Q 214 L st w cn sn = wp d 157 Q 217 L (.int 4095 :: st) w cn sn := w_sipush d_157_214 (by decide)
theorem d_157_217 : decode (mB 157) 217 = .ok (.iand, 1) := by decide +kernel
theorem s_157_217 {d : Nat} {Q : wQ} {L : List (Option Value)} {st : List Value} {w : aw} {cn sn : Nat} {a b : Int32} : wp d 157 Q 217 L (.int b :: .int a :: st) w cn sn = wp d 157 Q 218 L (.int (a &&& b) :: st) w cn sn := wp_row d_157_217 _ _ _ _ _
theorem d_157_218 : decode (mB 157) 218 = .ok (.putfield 261, 3) := by decide +kernel
theorem s_157_218 {d : Nat} {Q : wQ} {L : List (Option Value)} {st : List Value} {w : aw} {cn sn : Nat} {x : Int32} {a : Nat} : wp d 157 Q 218 L (.int x :: .ref a :: st) w cn sn = (kd w a = 9 ∧ wp d 157 Q 221 L st (uF w 557 a (.int x)) cn sn) := w_putfield d_157_218 (by decide +kernel : fT (mO 157) 261 = some (8, 45)) (by decide +kernel) ok_int
theorem d_157_221 : decode (mB 157) 221 = .ok (.iconst 1, 1) := by decide +kernel
theorem s_157_221 {d : Nat} {Q : wQ} {L : List (Option Value)} {st : List Value} {w : aw} {cn sn : Nat}  : wp d 157 Q 221 L st w cn sn = wp d 157 Q 222 L (.int 1 :: st) w cn sn := w_iconst d_157_221 (by decide)
theorem d_157_222 : decode (mB 157) 222 = .ok (.ireturn, 1) := by decide +kernel
theorem s_157_222 {d : Nat} {Q : wQ} {L : List (Option Value)} {w : aw} {cn sn : Nat} {v : Int32} : wp d 157 Q 222 L [.int v] w cn sn = (narrow .boolean (.int v) = .int v ∧ Q (some (.int v)) w) := w_zreturn d_157_222 rfl
theorem d_158_0 : decode (mB 158) 0 = .ok (.aload_n 0, 1) := by decide +kernel
theorem s_158_0 {d : Nat} {Q : wQ} {L : List (Option Value)} {st : List Value} {w : aw} {cn sn : Nat} {v : Nat} : wp d 158 Q 0 (some (.ref v) :: L) st w cn sn = wp d 158 Q 1 (some (.ref v) :: L) (.ref v :: st) w cn sn := w_aload_n d_158_0 rfl
theorem d_158_1 : decode (mB 158) 1 = .ok (.iconst 0, 1) := by decide +kernel
theorem s_158_1 {d : Nat} {Q : wQ} {L : List (Option Value)} {st : List Value} {w : aw} {cn sn : Nat}  : wp d 158 Q 1 L st w cn sn = wp d 158 Q 2 L (.int 0 :: st) w cn sn := w_iconst d_158_1 (by decide)
theorem d_158_2 : decode (mB 158) 2 = .ok (.putfield 261, 3) := by decide +kernel
theorem s_158_2 {d : Nat} {Q : wQ} {L : List (Option Value)} {st : List Value} {w : aw} {cn sn : Nat} {x : Int32} {a : Nat} : wp d 158 Q 2 L (.int x :: .ref a :: st) w cn sn = (kd w a = 9 ∧ wp d 158 Q 5 L st (uF w 557 a (.int x)) cn sn) := w_putfield d_158_2 (by decide +kernel : fT (mO 158) 261 = some (8, 45)) (by decide +kernel) ok_int
theorem d_158_5 : decode (mB 158) 5 = .ok (.aload_n 0, 1) := by decide +kernel
theorem s_158_5 {d : Nat} {Q : wQ} {L : List (Option Value)} {st : List Value} {w : aw} {cn sn : Nat} {v : Nat} : wp d 158 Q 5 (some (.ref v) :: L) st w cn sn = wp d 158 Q 6 (some (.ref v) :: L) (.ref v :: st) w cn sn := w_aload_n d_158_5 rfl
theorem d_158_6 : decode (mB 158) 6 = .ok (.iconst 1, 1) := by decide +kernel
theorem s_158_6 {d : Nat} {Q : wQ} {L : List (Option Value)} {st : List Value} {w : aw} {cn sn : Nat}  : wp d 158 Q 6 L st w cn sn = wp d 158 Q 7 L (.int 1 :: st) w cn sn := w_iconst d_158_6 (by decide)
theorem d_158_7 : decode (mB 158) 7 = .ok (.putfield 257, 3) := by decide +kernel
theorem s_158_7 {d : Nat} {Q : wQ} {L : List (Option Value)} {st : List Value} {w : aw} {cn sn : Nat} {x : Int32} {a : Nat} : wp d 158 Q 7 L (.int x :: .ref a :: st) w cn sn = (kd w a = 9 ∧ okv .boolean (.int x) ∧ wp d 158 Q 10 L st (uF w 558 a (.int x)) cn sn) := w_putfieldC d_158_7 (by decide +kernel : fT (mO 158) 257 = some (8, 46)) (by decide +kernel)
theorem d_158_10 : decode (mB 158) 10 = .ok (.aload_n 0, 1) := by decide +kernel
theorem s_158_10 {d : Nat} {Q : wQ} {L : List (Option Value)} {st : List Value} {w : aw} {cn sn : Nat} {v : Nat} : wp d 158 Q 10 (some (.ref v) :: L) st w cn sn = wp d 158 Q 11 (some (.ref v) :: L) (.ref v :: st) w cn sn := w_aload_n d_158_10 rfl
theorem d_158_11 : decode (mB 158) 11 = .ok (.aload_n 0, 1) := by decide +kernel
theorem s_158_11 {d : Nat} {Q : wQ} {L : List (Option Value)} {st : List Value} {w : aw} {cn sn : Nat} {v : Nat} : wp d 158 Q 11 (some (.ref v) :: L) st w cn sn = wp d 158 Q 12 (some (.ref v) :: L) (.ref v :: st) w cn sn := w_aload_n d_158_11 rfl
theorem d_158_12 : decode (mB 158) 12 = .ok (.getfield 231, 3) := by decide +kernel
theorem s_158_12 {d : Nat} {Q : wQ} {L : List (Option Value)} {st : List Value} {w : aw} {cn sn : Nat} {a : Nat} : wp d 158 Q 12 L (.ref a :: st) w cn sn = (kd w a = 9 ∧ wp d 158 Q 15 L (fd w 555 a :: st) w cn sn) := w_getfield d_158_12 (by decide +kernel : fT (mO 158) 231 = some (8, 43))
theorem d_158_15 : decode (mB 158) 15 = .ok (.invokevirtual 237, 3) := by decide +kernel
theorem s_158_15 {d : Nat} {Q : wQ} {L : List (Option Value)} {st : List Value} {w : aw} {cn sn : Nat} {v0 : Value} {b : Nat} : wp d 158 Q 15 L (v0 :: .ref b :: st) w cn sn = (kd w b = 9 ∧ catS st ≤ 8 ∧ wpD d 147 [.ref b, v0] w (fun v w' => wp d 158 Q 18 L (v.toList ++ st) w' cn sn)) := w_virtual (As := [v0]) d_158_15 (by decide +kernel : cT (mO 158) 237 = some (0, 147)) rfl (by decide +kernel) rfl (by decide +kernel) rfl
theorem d_158_18 : decode (mB 158) 18 = .ok (.bipush 45, 2) := by decide +kernel
theorem s_158_18 {d : Nat} {Q : wQ} {L : List (Option Value)} {st : List Value} {w : aw} {cn sn : Nat}  : wp d 158 Q 18 L st w cn sn = wp d 158 Q 20 L (.int 45 :: st) w cn sn := w_bipush d_158_18 (by decide)
theorem d_158_20 : decode (mB 158) 20 = .ok (.if_icmp .ne 7, 3) := by decide +kernel
theorem s_158_20 {d : Nat} {Q : wQ} {L : List (Option Value)} {st : List Value} {w : aw} {cn sn : Nat} {a b : Int32} : wp d 158 Q 20 L (.int b :: .int a :: st) w cn sn = ((¬ a = b → wp d 158 Q 27 L st w cn sn) ∧ (a = b → wp d 158 Q 23 L st w cn sn)) := w_icne d_158_20 (by decide)
theorem d_158_23 : decode (mB 158) 23 = .ok (.iconst 1, 1) := by decide +kernel
theorem s_158_23 {d : Nat} {Q : wQ} {L : List (Option Value)} {st : List Value} {w : aw} {cn sn : Nat}  : wp d 158 Q 23 L st w cn sn = wp d 158 Q 24 L (.int 1 :: st) w cn sn := w_iconst d_158_23 (by decide)
theorem d_158_24 : decode (mB 158) 24 = .ok (.goto 4, 3) := by decide +kernel
theorem s_158_24 {d : Nat} {Q : wQ} {L : List (Option Value)} {st : List Value} {w : aw} {cn sn : Nat}  : wp d 158 Q 24 L st w cn sn = wp d 158 Q 28 L st w cn sn := w_goto d_158_24 (by decide)
theorem d_158_27 : decode (mB 158) 27 = .ok (.iconst 0, 1) := by decide +kernel
theorem s_158_27 {d : Nat} {Q : wQ} {L : List (Option Value)} {st : List Value} {w : aw} {cn sn : Nat}  : wp d 158 Q 27 L st w cn sn = wp d 158 Q 28 L (.int 0 :: st) w cn sn := w_iconst d_158_27 (by decide)
theorem d_158_28 : decode (mB 158) 28 = .ok (.istore_n 1, 1) := by decide +kernel
theorem s_158_28 {d : Nat} {Q : wQ} {L : List (Option Value)} {st : List Value} {w : aw} {cn sn : Nat} {a0 a1 : Option Value} {v : Int32} : wp d 158 Q 28 (a0 :: a1 :: L) (.int v :: st) w cn sn = wp d 158 Q 29 (clr a0 :: some (.int v) :: L) st w cn sn := w_istore_n d_158_28 (Nat.le_add_left 2 _) rfl
theorem d_158_29 : decode (mB 158) 29 = .ok (.iload_n 1, 1) := by decide +kernel
theorem s_158_29 {d : Nat} {Q : wQ} {L : List (Option Value)} {st : List Value} {w : aw} {cn sn : Nat} {a0 : Option Value} {v : Int32} : wp d 158 Q 29 (a0 :: some (.int v) :: L) st w cn sn = wp d 158 Q 30 (a0 :: some (.int v) :: L) (.int v :: st) w cn sn := w_iload_n d_158_29 rfl
theorem d_158_30 : decode (mB 158) 30 = .ok (.ifCond .eq 13, 3) := by decide +kernel
theorem s_158_30 {d : Nat} {Q : wQ} {L : List (Option Value)} {st : List Value} {w : aw} {cn sn : Nat} {x : Int32} : wp d 158 Q 30 L (.int x :: st) w cn sn = ((x = 0 → wp d 158 Q 43 L st w cn sn) ∧ (¬ x = 0 → wp d 158 Q 33 L st w cn sn)) := w_ifeq d_158_30 (by decide)
theorem d_158_33 : decode (mB 158) 33 = .ok (.aload_n 0, 1) := by decide +kernel
theorem s_158_33 {d : Nat} {Q : wQ} {L : List (Option Value)} {st : List Value} {w : aw} {cn sn : Nat} {v : Nat} : wp d 158 Q 33 (some (.ref v) :: L) st w cn sn = wp d 158 Q 34 (some (.ref v) :: L) (.ref v :: st) w cn sn := w_aload_n d_158_33 rfl
theorem d_158_34 : decode (mB 158) 34 = .ok (.dup, 1) := by decide +kernel
theorem s_158_34 {d : Nat} {Q : wQ} {L : List (Option Value)} {st : List Value} {w : aw} {cn sn : Nat} {v : Value} : wp d 158 Q 34 L (v :: st) w cn sn = (v.category = 1 ∧ wp d 158 Q 35 L (v :: v :: st) w cn sn) := wp_row d_158_34 _ _ _ _ _
theorem d_158_35 : decode (mB 158) 35 = .ok (.getfield 231, 3) := by decide +kernel
theorem s_158_35 {d : Nat} {Q : wQ} {L : List (Option Value)} {st : List Value} {w : aw} {cn sn : Nat} {a : Nat} : wp d 158 Q 35 L (.ref a :: st) w cn sn = (kd w a = 9 ∧ wp d 158 Q 38 L (fd w 555 a :: st) w cn sn) := w_getfield d_158_35 (by decide +kernel : fT (mO 158) 231 = some (8, 43))
theorem d_158_38 : decode (mB 158) 38 = .ok (.iconst 1, 1) := by decide +kernel
theorem s_158_38 {d : Nat} {Q : wQ} {L : List (Option Value)} {st : List Value} {w : aw} {cn sn : Nat}  : wp d 158 Q 38 L st w cn sn = wp d 158 Q 39 L (.int 1 :: st) w cn sn := w_iconst d_158_38 (by decide)
theorem d_158_39 : decode (mB 158) 39 = .ok (.iadd, 1) := by decide +kernel
theorem s_158_39 {d : Nat} {Q : wQ} {L : List (Option Value)} {st : List Value} {w : aw} {cn sn : Nat} {a b : Int32} : wp d 158 Q 39 L (.int b :: .int a :: st) w cn sn = wp d 158 Q 40 L (.int (a + b) :: st) w cn sn := wp_row d_158_39 _ _ _ _ _
theorem d_158_40 : decode (mB 158) 40 = .ok (.putfield 231, 3) := by decide +kernel
theorem s_158_40 {d : Nat} {Q : wQ} {L : List (Option Value)} {st : List Value} {w : aw} {cn sn : Nat} {x : Int32} {a : Nat} : wp d 158 Q 40 L (.int x :: .ref a :: st) w cn sn = (kd w a = 9 ∧ wp d 158 Q 43 L st (uF w 555 a (.int x)) cn sn) := w_putfield d_158_40 (by decide +kernel : fT (mO 158) 231 = some (8, 43)) (by decide +kernel) ok_int
theorem d_158_43 : decode (mB 158) 43 = .ok (.aload_n 0, 1) := by decide +kernel
theorem s_158_43 {d : Nat} {Q : wQ} {L : List (Option Value)} {st : List Value} {w : aw} {cn sn : Nat} {v : Nat} : wp d 158 Q 43 (some (.ref v) :: L) st w cn sn = wp d 158 Q 44 (some (.ref v) :: L) (.ref v :: st) w cn sn := w_aload_n d_158_43 rfl
theorem d_158_44 : decode (mB 158) 44 = .ok (.iload_n 1, 1) := by decide +kernel
theorem s_158_44 {d : Nat} {Q : wQ} {L : List (Option Value)} {st : List Value} {w : aw} {cn sn : Nat} {a0 : Option Value} {v : Int32} : wp d 158 Q 44 (a0 :: some (.int v) :: L) st w cn sn = wp d 158 Q 45 (a0 :: some (.int v) :: L) (.int v :: st) w cn sn := w_iload_n d_158_44 rfl
theorem d_158_45 : decode (mB 158) 45 = .ok (.ifCond .eq 7, 3) := by decide +kernel
theorem s_158_45 {d : Nat} {Q : wQ} {L : List (Option Value)} {st : List Value} {w : aw} {cn sn : Nat} {x : Int32} : wp d 158 Q 45 L (.int x :: st) w cn sn = ((x = 0 → wp d 158 Q 52 L st w cn sn) ∧ (¬ x = 0 → wp d 158 Q 48 L st w cn sn)) := w_ifeq d_158_45 (by decide)
theorem d_158_48 : decode (mB 158) 48 = .ok (.iconst (-1), 1) := by decide +kernel
theorem s_158_48 {d : Nat} {Q : wQ} {L : List (Option Value)} {st : List Value} {w : aw} {cn sn : Nat}  : wp d 158 Q 48 L st w cn sn = wp d 158 Q 49 L (.int (-1) :: st) w cn sn := w_iconst d_158_48 (by decide)
theorem d_158_49 : decode (mB 158) 49 = .ok (.goto 4, 3) := by decide +kernel
theorem s_158_49 {d : Nat} {Q : wQ} {L : List (Option Value)} {st : List Value} {w : aw} {cn sn : Nat}  : wp d 158 Q 49 L st w cn sn = wp d 158 Q 53 L st w cn sn := w_goto d_158_49 (by decide)
theorem d_158_52 : decode (mB 158) 52 = .ok (.iconst 1, 1) := by decide +kernel
theorem s_158_52 {d : Nat} {Q : wQ} {L : List (Option Value)} {st : List Value} {w : aw} {cn sn : Nat}  : wp d 158 Q 52 L st w cn sn = wp d 158 Q 53 L (.int 1 :: st) w cn sn := w_iconst d_158_52 (by decide)
theorem d_158_53 : decode (mB 158) 53 = .ok (.invokevirtual 264, 3) := by decide +kernel
theorem s_158_53 {d : Nat} {Q : wQ} {L : List (Option Value)} {st : List Value} {w : aw} {cn sn : Nat} {v0 : Value} {b : Nat} : wp d 158 Q 53 L (v0 :: .ref b :: st) w cn sn = (kd w b = 9 ∧ catS st ≤ 8 ∧ wpD d 157 [.ref b, v0] w (fun v w' => wp d 158 Q 56 L (v.toList ++ st) w' cn sn)) := w_virtual (As := [v0]) d_158_53 (by decide +kernel : cT (mO 158) 264 = some (0, 157)) rfl (by decide +kernel) rfl (by decide +kernel) rfl
theorem d_158_56 : decode (mB 158) 56 = .ok (.istore_n 2, 1) := by decide +kernel
theorem s_158_56 {d : Nat} {Q : wQ} {L : List (Option Value)} {st : List Value} {w : aw} {cn sn : Nat} {a0 a1 a2 : Option Value} {v : Int32} : wp d 158 Q 56 (a0 :: a1 :: a2 :: L) (.int v :: st) w cn sn = wp d 158 Q 57 (a0 :: clr a1 :: some (.int v) :: L) st w cn sn := w_istore_n d_158_56 (Nat.le_add_left 3 _) rfl
theorem d_158_57 : decode (mB 158) 57 = .ok (.iload_n 2, 1) := by decide +kernel
theorem s_158_57 {d : Nat} {Q : wQ} {L : List (Option Value)} {st : List Value} {w : aw} {cn sn : Nat} {a0 a1 : Option Value} {v : Int32} : wp d 158 Q 57 (a0 :: a1 :: some (.int v) :: L) st w cn sn = wp d 158 Q 58 (a0 :: a1 :: some (.int v) :: L) (.int v :: st) w cn sn := w_iload_n d_158_57 rfl
theorem d_158_58 : decode (mB 158) 58 = .ok (.ifCond .eq 67, 3) := by decide +kernel
theorem s_158_58 {d : Nat} {Q : wQ} {L : List (Option Value)} {st : List Value} {w : aw} {cn sn : Nat} {x : Int32} : wp d 158 Q 58 L (.int x :: st) w cn sn = ((x = 0 → wp d 158 Q 125 L st w cn sn) ∧ (¬ x = 0 → wp d 158 Q 61 L st w cn sn)) := w_ifeq d_158_58 (by decide)
theorem d_158_61 : decode (mB 158) 61 = .ok (.aload_n 0, 1) := by decide +kernel
theorem s_158_61 {d : Nat} {Q : wQ} {L : List (Option Value)} {st : List Value} {w : aw} {cn sn : Nat} {v : Nat} : wp d 158 Q 61 (some (.ref v) :: L) st w cn sn = wp d 158 Q 62 (some (.ref v) :: L) (.ref v :: st) w cn sn := w_aload_n d_158_61 rfl
theorem d_158_62 : decode (mB 158) 62 = .ok (.aload_n 0, 1) := by decide +kernel
theorem s_158_62 {d : Nat} {Q : wQ} {L : List (Option Value)} {st : List Value} {w : aw} {cn sn : Nat} {v : Nat} : wp d 158 Q 62 (some (.ref v) :: L) st w cn sn = wp d 158 Q 63 (some (.ref v) :: L) (.ref v :: st) w cn sn := w_aload_n d_158_62 rfl
theorem d_158_63 : decode (mB 158) 63 = .ok (.getfield 231, 3) := by decide +kernel
theorem s_158_63 {d : Nat} {Q : wQ} {L : List (Option Value)} {st : List Value} {w : aw} {cn sn : Nat} {a : Nat} : wp d 158 Q 63 L (.ref a :: st) w cn sn = (kd w a = 9 ∧ wp d 158 Q 66 L (fd w 555 a :: st) w cn sn) := w_getfield d_158_63 (by decide +kernel : fT (mO 158) 231 = some (8, 43))
theorem d_158_66 : decode (mB 158) 66 = .ok (.invokevirtual 237, 3) := by decide +kernel
theorem s_158_66 {d : Nat} {Q : wQ} {L : List (Option Value)} {st : List Value} {w : aw} {cn sn : Nat} {v0 : Value} {b : Nat} : wp d 158 Q 66 L (v0 :: .ref b :: st) w cn sn = (kd w b = 9 ∧ catS st ≤ 8 ∧ wpD d 147 [.ref b, v0] w (fun v w' => wp d 158 Q 69 L (v.toList ++ st) w' cn sn)) := w_virtual (As := [v0]) d_158_66 (by decide +kernel : cT (mO 158) 237 = some (0, 147)) rfl (by decide +kernel) rfl (by decide +kernel) rfl
theorem d_158_69 : decode (mB 158) 69 = .ok (.bipush 43, 2) := by decide +kernel
theorem s_158_69 {d : Nat} {Q : wQ} {L : List (Option Value)} {st : List Value} {w : aw} {cn sn : Nat}  : wp d 158 Q 69 L st w cn sn = wp d 158 Q 71 L (.int 43 :: st) w cn sn := w_bipush d_158_69 (by decide)
theorem d_158_71 : decode (mB 158) 71 = .ok (.if_icmp .eq 16, 3) := by decide +kernel
theorem s_158_71 {d : Nat} {Q : wQ} {L : List (Option Value)} {st : List Value} {w : aw} {cn sn : Nat} {a b : Int32} : wp d 158 Q 71 L (.int b :: .int a :: st) w cn sn = ((a = b → wp d 158 Q 87 L st w cn sn) ∧ (¬ a = b → wp d 158 Q 74 L st w cn sn)) := w_iceq d_158_71 (by decide)
theorem d_158_74 : decode (mB 158) 74 = .ok (.aload_n 0, 1) := by decide +kernel
theorem s_158_74 {d : Nat} {Q : wQ} {L : List (Option Value)} {st : List Value} {w : aw} {cn sn : Nat} {v : Nat} : wp d 158 Q 74 (some (.ref v) :: L) st w cn sn = wp d 158 Q 75 (some (.ref v) :: L) (.ref v :: st) w cn sn := w_aload_n d_158_74 rfl
theorem d_158_75 : decode (mB 158) 75 = .ok (.aload_n 0, 1) := by decide +kernel
theorem s_158_75 {d : Nat} {Q : wQ} {L : List (Option Value)} {st : List Value} {w : aw} {cn sn : Nat} {v : Nat} : wp d 158 Q 75 (some (.ref v) :: L) st w cn sn = wp d 158 Q 76 (some (.ref v) :: L) (.ref v :: st) w cn sn := w_aload_n d_158_75 rfl
theorem d_158_76 : decode (mB 158) 76 = .ok (.getfield 231, 3) := by decide +kernel
theorem s_158_76 {d : Nat} {Q : wQ} {L : List (Option Value)} {st : List Value} {w : aw} {cn sn : Nat} {a : Nat} : wp d 158 Q 76 L (.ref a :: st) w cn sn = (kd w a = 9 ∧ wp d 158 Q 79 L (fd w 555 a :: st) w cn sn) := w_getfield d_158_76 (by decide +kernel : fT (mO 158) 231 = some (8, 43))
theorem d_158_79 : decode (mB 158) 79 = .ok (.invokevirtual 237, 3) := by decide +kernel
theorem s_158_79 {d : Nat} {Q : wQ} {L : List (Option Value)} {st : List Value} {w : aw} {cn sn : Nat} {v0 : Value} {b : Nat} : wp d 158 Q 79 L (v0 :: .ref b :: st) w cn sn = (kd w b = 9 ∧ catS st ≤ 8 ∧ wpD d 147 [.ref b, v0] w (fun v w' => wp d 158 Q 82 L (v.toList ++ st) w' cn sn)) := w_virtual (As := [v0]) d_158_79 (by decide +kernel : cT (mO 158) 237 = some (0, 147)) rfl (by decide +kernel) rfl (by decide +kernel) rfl
theorem d_158_82 : decode (mB 158) 82 = .ok (.bipush 45, 2) := by decide +kernel
theorem s_158_82 {d : Nat} {Q : wQ} {L : List (Option Value)} {st : List Value} {w : aw} {cn sn : Nat}  : wp d 158 Q 82 L st w cn sn = wp d 158 Q 84 L (.int 45 :: st) w cn sn := w_bipush d_158_82 (by decide)
theorem d_158_84 : decode (mB 158) 84 = .ok (.if_icmp .ne 41, 3) := by decide +kernel
theorem s_158_84 {d : Nat} {Q : wQ} {L : List (Option Value)} {st : List Value} {w : aw} {cn sn : Nat} {a b : Int32} : wp d 158 Q 84 L (.int b :: .int a :: st) w cn sn = ((¬ a = b → wp d 158 Q 125 L st w cn sn) ∧ (a = b → wp d 158 Q 87 L st w cn sn)) := w_icne d_158_84 (by decide)
theorem d_158_87 : decode (mB 158) 87 = .ok (.aload_n 0, 1) := by decide +kernel
theorem s_158_87 {d : Nat} {Q : wQ} {L : List (Option Value)} {st : List Value} {w : aw} {cn sn : Nat} {v : Nat} : wp d 158 Q 87 (some (.ref v) :: L) st w cn sn = wp d 158 Q 88 (some (.ref v) :: L) (.ref v :: st) w cn sn := w_aload_n d_158_87 rfl
theorem d_158_88 : decode (mB 158) 88 = .ok (.dup, 1) := by decide +kernel
theorem s_158_88 {d : Nat} {Q : wQ} {L : List (Option Value)} {st : List Value} {w : aw} {cn sn : Nat} {v : Value} : wp d 158 Q 88 L (v :: st) w cn sn = (v.category = 1 ∧ wp d 158 Q 89 L (v :: v :: st) w cn sn) := wp_row d_158_88 _ _ _ _ _
theorem d_158_89 : decode (mB 158) 89 = .ok (.getfield 231, 3) := by decide +kernel
theorem s_158_89 {d : Nat} {Q : wQ} {L : List (Option Value)} {st : List Value} {w : aw} {cn sn : Nat} {a : Nat} : wp d 158 Q 89 L (.ref a :: st) w cn sn = (kd w a = 9 ∧ wp d 158 Q 92 L (fd w 555 a :: st) w cn sn) := w_getfield d_158_89 (by decide +kernel : fT (mO 158) 231 = some (8, 43))
theorem d_158_92 : decode (mB 158) 92 = .ok (.iconst 1, 1) := by decide +kernel
theorem s_158_92 {d : Nat} {Q : wQ} {L : List (Option Value)} {st : List Value} {w : aw} {cn sn : Nat}  : wp d 158 Q 92 L st w cn sn = wp d 158 Q 93 L (.int 1 :: st) w cn sn := w_iconst d_158_92 (by decide)
theorem d_158_93 : decode (mB 158) 93 = .ok (.iadd, 1) := by decide +kernel
theorem s_158_93 {d : Nat} {Q : wQ} {L : List (Option Value)} {st : List Value} {w : aw} {cn sn : Nat} {a b : Int32} : wp d 158 Q 93 L (.int b :: .int a :: st) w cn sn = wp d 158 Q 94 L (.int (a + b) :: st) w cn sn := wp_row d_158_93 _ _ _ _ _
theorem d_158_94 : decode (mB 158) 94 = .ok (.putfield 231, 3) := by decide +kernel
theorem s_158_94 {d : Nat} {Q : wQ} {L : List (Option Value)} {st : List Value} {w : aw} {cn sn : Nat} {x : Int32} {a : Nat} : wp d 158 Q 94 L (.int x :: .ref a :: st) w cn sn = (kd w a = 9 ∧ wp d 158 Q 97 L st (uF w 555 a (.int x)) cn sn) := w_putfield d_158_94 (by decide +kernel : fT (mO 158) 231 = some (8, 43)) (by decide +kernel) ok_int
theorem d_158_97 : decode (mB 158) 97 = .ok (.aload_n 0, 1) := by decide +kernel
theorem s_158_97 {d : Nat} {Q : wQ} {L : List (Option Value)} {st : List Value} {w : aw} {cn sn : Nat} {v : Nat} : wp d 158 Q 97 (some (.ref v) :: L) st w cn sn = wp d 158 Q 98 (some (.ref v) :: L) (.ref v :: st) w cn sn := w_aload_n d_158_97 rfl
theorem d_158_98 : decode (mB 158) 98 = .ok (.aload_n 0, 1) := by decide +kernel
theorem s_158_98 {d : Nat} {Q : wQ} {L : List (Option Value)} {st : List Value} {w : aw} {cn sn : Nat} {v : Nat} : wp d 158 Q 98 (some (.ref v) :: L) st w cn sn = wp d 158 Q 99 (some (.ref v) :: L) (.ref v :: st) w cn sn := w_aload_n d_158_98 rfl
theorem d_158_99 : decode (mB 158) 99 = .ok (.aload_n 0, 1) := by decide +kernel
theorem s_158_99 {d : Nat} {Q : wQ} {L : List (Option Value)} {st : List Value} {w : aw} {cn sn : Nat} {v : Nat} : wp d 158 Q 99 (some (.ref v) :: L) st w cn sn = wp d 158 Q 100 (some (.ref v) :: L) (.ref v :: st) w cn sn := w_aload_n d_158_99 rfl
theorem d_158_100 : decode (mB 158) 100 = .ok (.getfield 231, 3) := by decide +kernel
theorem s_158_100 {d : Nat} {Q : wQ} {L : List (Option Value)} {st : List Value} {w : aw} {cn sn : Nat} {a : Nat} : wp d 158 Q 100 L (.ref a :: st) w cn sn = (kd w a = 9 ∧ wp d 158 Q 103 L (fd w 555 a :: st) w cn sn) := w_getfield d_158_100 (by decide +kernel : fT (mO 158) 231 = some (8, 43))
theorem d_158_103 : decode (mB 158) 103 = .ok (.iconst 1, 1) := by decide +kernel
theorem s_158_103 {d : Nat} {Q : wQ} {L : List (Option Value)} {st : List Value} {w : aw} {cn sn : Nat}  : wp d 158 Q 103 L st w cn sn = wp d 158 Q 104 L (.int 1 :: st) w cn sn := w_iconst d_158_103 (by decide)
theorem d_158_104 : decode (mB 158) 104 = .ok (.isub, 1) := by decide +kernel
theorem s_158_104 {d : Nat} {Q : wQ} {L : List (Option Value)} {st : List Value} {w : aw} {cn sn : Nat} {a b : Int32} : wp d 158 Q 104 L (.int b :: .int a :: st) w cn sn = wp d 158 Q 105 L (.int (a - b) :: st) w cn sn := wp_row d_158_104 _ _ _ _ _
theorem d_158_105 : decode (mB 158) 105 = .ok (.invokevirtual 237, 3) := by decide +kernel
theorem s_158_105 {d : Nat} {Q : wQ} {L : List (Option Value)} {st : List Value} {w : aw} {cn sn : Nat} {v0 : Value} {b : Nat} : wp d 158 Q 105 L (v0 :: .ref b :: st) w cn sn = (kd w b = 9 ∧ catS st ≤ 8 ∧ wpD d 147 [.ref b, v0] w (fun v w' => wp d 158 Q 108 L (v.toList ++ st) w' cn sn)) := w_virtual (As := [v0]) d_158_105 (by decide +kernel : cT (mO 158) 237 = some (0, 147)) rfl (by decide +kernel) rfl (by decide +kernel) rfl
theorem d_158_108 : decode (mB 158) 108 = .ok (.bipush 45, 2) := by decide +kernel
theorem s_158_108 {d : Nat} {Q : wQ} {L : List (Option Value)} {st : List Value} {w : aw} {cn sn : Nat}  : wp d 158 Q 108 L st w cn sn = wp d 158 Q 110 L (.int 45 :: st) w cn sn := w_bipush d_158_108 (by decide)
theorem d_158_110 : decode (mB 158) 110 = .ok (.if_icmp .ne 7, 3) := by decide +kernel
theorem s_158_110 {d : Nat} {Q : wQ} {L : List (Option Value)} {st : List Value} {w : aw} {cn sn : Nat} {a b : Int32} : wp d 158 Q 110 L (.int b :: .int a :: st) w cn sn = ((¬ a = b → wp d 158 Q 117 L st w cn sn) ∧ (a = b → wp d 158 Q 113 L st w cn sn)) := w_icne d_158_110 (by decide)
theorem d_158_113 : decode (mB 158) 113 = .ok (.iconst (-1), 1) := by decide +kernel
theorem s_158_113 {d : Nat} {Q : wQ} {L : List (Option Value)} {st : List Value} {w : aw} {cn sn : Nat}  : wp d 158 Q 113 L st w cn sn = wp d 158 Q 114 L (.int (-1) :: st) w cn sn := w_iconst d_158_113 (by decide)
theorem d_158_114 : decode (mB 158) 114 = .ok (.goto 4, 3) := by decide +kernel
theorem s_158_114 {d : Nat} {Q : wQ} {L : List (Option Value)} {st : List Value} {w : aw} {cn sn : Nat}  : wp d 158 Q 114 L st w cn sn = wp d 158 Q 118 L st w cn sn := w_goto d_158_114 (by decide)
theorem d_158_117 : decode (mB 158) 117 = .ok (.iconst 1, 1) := by decide +kernel
theorem s_158_117 {d : Nat} {Q : wQ} {L : List (Option Value)} {st : List Value} {w : aw} {cn sn : Nat}  : wp d 158 Q 117 L st w cn sn = wp d 158 Q 118 L (.int 1 :: st) w cn sn := w_iconst d_158_117 (by decide)
theorem d_158_118 : decode (mB 158) 118 = .ok (.invokevirtual 264, 3) := by decide +kernel
theorem s_158_118 {d : Nat} {Q : wQ} {L : List (Option Value)} {st : List Value} {w : aw} {cn sn : Nat} {v0 : Value} {b : Nat} : wp d 158 Q 118 L (v0 :: .ref b :: st) w cn sn = (kd w b = 9 ∧ catS st ≤ 8 ∧ wpD d 157 [.ref b, v0] w (fun v w' => wp d 158 Q 121 L (v.toList ++ st) w' cn sn)) := w_virtual (As := [v0]) d_158_118 (by decide +kernel : cT (mO 158) 264 = some (0, 157)) rfl (by decide +kernel) rfl (by decide +kernel) rfl
theorem d_158_121 : decode (mB 158) 121 = .ok (.istore_n 2, 1) := by decide +kernel
theorem s_158_121 {d : Nat} {Q : wQ} {L : List (Option Value)} {st : List Value} {w : aw} {cn sn : Nat} {a0 a1 a2 : Option Value} {v : Int32} : wp d 158 Q 121 (a0 :: a1 :: a2 :: L) (.int v :: st) w cn sn = wp d 158 Q 122 (a0 :: clr a1 :: some (.int v) :: L) st w cn sn := w_istore_n d_158_121 (Nat.le_add_left 3 _) rfl
theorem d_158_122 : decode (mB 158) 122 = .ok (.goto (-65), 3) := by decide +kernel
theorem s_158_122 {d : Nat} {Q : wQ} {L : List (Option Value)} {st : List Value} {w : aw} {cn sn : Nat}  : wp d 158 Q 122 L st w cn sn = wp d 158 Q 57 L st w cn sn := w_goto d_158_122 (by decide)
theorem d_158_125 : decode (mB 158) 125 = .ok (.iload_n 2, 1) := by decide +kernel
theorem s_158_125 {d : Nat} {Q : wQ} {L : List (Option Value)} {st : List Value} {w : aw} {cn sn : Nat} {a0 a1 : Option Value} {v : Int32} : wp d 158 Q 125 (a0 :: a1 :: some (.int v) :: L) st w cn sn = wp d 158 Q 126 (a0 :: a1 :: some (.int v) :: L) (.int v :: st) w cn sn := w_iload_n d_158_125 rfl
theorem d_158_126 : decode (mB 158) 126 = .ok (.ireturn, 1) := by decide +kernel
theorem s_158_126 {d : Nat} {Q : wQ} {L : List (Option Value)} {w : aw} {cn sn : Nat} {v : Int32} : wp d 158 Q 126 L [.int v] w cn sn = (narrow .boolean (.int v) = .int v ∧ Q (some (.int v)) w) := w_zreturn d_158_126 rfl
theorem d_159_0 : decode (mB 159) 0 = .ok (.aload_n 0, 1) := by decide +kernel
theorem s_159_0 {d : Nat} {Q : wQ} {L : List (Option Value)} {st : List Value} {w : aw} {cn sn : Nat} {v : Nat} : wp d 159 Q 0 (some (.ref v) :: L) st w cn sn = wp d 159 Q 1 (some (.ref v) :: L) (.ref v :: st) w cn sn := w_aload_n d_159_0 rfl
theorem d_159_1 : decode (mB 159) 1 = .ok (.invokevirtual 267, 3) := by decide +kernel
theorem s_159_1 {d : Nat} {Q : wQ} {L : List (Option Value)} {st : List Value} {w : aw} {cn sn : Nat} {b : Nat} : wp d 159 Q 1 L (.ref b :: st) w cn sn = (kd w b = 9 ∧ catS st ≤ 8 ∧ wpD d 148 [.ref b] w (fun v w' => wp d 159 Q 4 L (v.toList ++ st) w' cn sn)) := w_virtual (As := []) d_159_1 (by decide +kernel : cT (mO 159) 267 = some (0, 148)) rfl (by decide +kernel) rfl (by decide +kernel) rfl
theorem d_159_4 : decode (mB 159) 4 = .ok (.aload_n 0, 1) := by decide +kernel
theorem s_159_4 {d : Nat} {Q : wQ} {L : List (Option Value)} {st : List Value} {w : aw} {cn sn : Nat} {v : Nat} : wp d 159 Q 4 (some (.ref v) :: L) st w cn sn = wp d 159 Q 5 (some (.ref v) :: L) (.ref v :: st) w cn sn := w_aload_n d_159_4 rfl
theorem d_159_5 : decode (mB 159) 5 = .ok (.getfield 231, 3) := by decide +kernel
theorem s_159_5 {d : Nat} {Q : wQ} {L : List (Option Value)} {st : List Value} {w : aw} {cn sn : Nat} {a : Nat} : wp d 159 Q 5 L (.ref a :: st) w cn sn = (kd w a = 9 ∧ wp d 159 Q 8 L (fd w 555 a :: st) w cn sn) := w_getfield d_159_5 (by decide +kernel : fT (mO 159) 231 = some (8, 43))
theorem d_159_8 : decode (mB 159) 8 = .ok (.aload_n 0, 1) := by decide +kernel
theorem s_159_8 {d : Nat} {Q : wQ} {L : List (Option Value)} {st : List Value} {w : aw} {cn sn : Nat} {v : Nat} : wp d 159 Q 8 (some (.ref v) :: L) st w cn sn = wp d 159 Q 9 (some (.ref v) :: L) (.ref v :: st) w cn sn := w_aload_n d_159_8 rfl
theorem d_159_9 : decode (mB 159) 9 = .ok (.getfield 228, 3) := by decide +kernel
theorem s_159_9 {d : Nat} {Q : wQ} {L : List (Option Value)} {st : List Value} {w : aw} {cn sn : Nat} {a : Nat} : wp d 159 Q 9 L (.ref a :: st) w cn sn = (kd w a = 9 ∧ wp d 159 Q 12 L (fd w 556 a :: st) w cn sn) := w_getfield d_159_9 (by decide +kernel : fT (mO 159) 228 = some (8, 44))
theorem d_159_12 : decode (mB 159) 12 = .ok (.if_icmp .lt 7, 3) := by decide +kernel
theorem s_159_12 {d : Nat} {Q : wQ} {L : List (Option Value)} {st : List Value} {w : aw} {cn sn : Nat} {a b : Int32} : wp d 159 Q 12 L (.int b :: .int a :: st) w cn sn = ((a < b → wp d 159 Q 19 L st w cn sn) ∧ (¬ a < b → wp d 159 Q 15 L st w cn sn)) := w_iclt d_159_12 (by decide)
theorem d_159_15 : decode (mB 159) 15 = .ok (.iconst 1, 1) := by decide +kernel
theorem s_159_15 {d : Nat} {Q : wQ} {L : List (Option Value)} {st : List Value} {w : aw} {cn sn : Nat}  : wp d 159 Q 15 L st w cn sn = wp d 159 Q 16 L (.int 1 :: st) w cn sn := w_iconst d_159_15 (by decide)
theorem d_159_16 : decode (mB 159) 16 = .ok (.goto 4, 3) := by decide +kernel
theorem s_159_16 {d : Nat} {Q : wQ} {L : List (Option Value)} {st : List Value} {w : aw} {cn sn : Nat}  : wp d 159 Q 16 L st w cn sn = wp d 159 Q 20 L st w cn sn := w_goto d_159_16 (by decide)
theorem d_159_19 : decode (mB 159) 19 = .ok (.iconst 0, 1) := by decide +kernel
theorem s_159_19 {d : Nat} {Q : wQ} {L : List (Option Value)} {st : List Value} {w : aw} {cn sn : Nat}  : wp d 159 Q 19 L st w cn sn = wp d 159 Q 20 L (.int 0 :: st) w cn sn := w_iconst d_159_19 (by decide)
theorem d_159_20 : decode (mB 159) 20 = .ok (.ireturn, 1) := by decide +kernel
theorem s_159_20 {d : Nat} {Q : wQ} {L : List (Option Value)} {w : aw} {cn sn : Nat} {v : Int32} : wp d 159 Q 20 L [.int v] w cn sn = (narrow .boolean (.int v) = .int v ∧ Q (some (.int v)) w) := w_zreturn d_159_20 rfl
theorem d_160_0 : decode (mB 160) 0 = .ok (.aload_n 0, 1) := by decide +kernel
theorem s_160_0 {d : Nat} {Q : wQ} {L : List (Option Value)} {st : List Value} {w : aw} {cn sn : Nat} {v : Nat} : wp d 160 Q 0 (some (.ref v) :: L) st w cn sn = wp d 160 Q 1 (some (.ref v) :: L) (.ref v :: st) w cn sn := w_aload_n d_160_0 rfl
theorem d_160_1 : decode (mB 160) 1 = .ok (.invokevirtual 267, 3) := by decide +kernel
theorem s_160_1 {d : Nat} {Q : wQ} {L : List (Option Value)} {st : List Value} {w : aw} {cn sn : Nat} {b : Nat} : wp d 160 Q 1 L (.ref b :: st) w cn sn = (kd w b = 9 ∧ catS st ≤ 8 ∧ wpD d 148 [.ref b] w (fun v w' => wp d 160 Q 4 L (v.toList ++ st) w' cn sn)) := w_virtual (As := []) d_160_1 (by decide +kernel : cT (mO 160) 267 = some (0, 148)) rfl (by decide +kernel) rfl (by decide +kernel) rfl
theorem d_160_4 : decode (mB 160) 4 = .ok (.aload_n 0, 1) := by decide +kernel
theorem s_160_4 {d : Nat} {Q : wQ} {L : List (Option Value)} {st : List Value} {w : aw} {cn sn : Nat} {v : Nat} : wp d 160 Q 4 (some (.ref v) :: L) st w cn sn = wp d 160 Q 5 (some (.ref v) :: L) (.ref v :: st) w cn sn := w_aload_n d_160_4 rfl
theorem d_160_5 : decode (mB 160) 5 = .ok (.invokevirtual 270, 3) := by decide +kernel
theorem s_160_5 {d : Nat} {Q : wQ} {L : List (Option Value)} {st : List Value} {w : aw} {cn sn : Nat} {b : Nat} : wp d 160 Q 5 L (.ref b :: st) w cn sn = (kd w b = 9 ∧ catS st ≤ 8 ∧ wpD d 154 [.ref b] w (fun v w' => wp d 160 Q 8 L (v.toList ++ st) w' cn sn)) := w_virtual (As := []) d_160_5 (by decide +kernel : cT (mO 160) 270 = some (0, 154)) rfl (by decide +kernel) rfl (by decide +kernel) rfl
theorem d_160_8 : decode (mB 160) 8 = .ok (.ifCond .eq 24, 3) := by decide +kernel
theorem s_160_8 {d : Nat} {Q : wQ} {L : List (Option Value)} {st : List Value} {w : aw} {cn sn : Nat} {x : Int32} : wp d 160 Q 8 L (.int x :: st) w cn sn = ((x = 0 → wp d 160 Q 32 L st w cn sn) ∧ (¬ x = 0 → wp d 160 Q 11 L st w cn sn)) := w_ifeq d_160_8 (by decide)
theorem d_160_11 : decode (mB 160) 11 = .ok (.aload_n 0, 1) := by decide +kernel
theorem s_160_11 {d : Nat} {Q : wQ} {L : List (Option Value)} {st : List Value} {w : aw} {cn sn : Nat} {v : Nat} : wp d 160 Q 11 (some (.ref v) :: L) st w cn sn = wp d 160 Q 12 (some (.ref v) :: L) (.ref v :: st) w cn sn := w_aload_n d_160_11 rfl
theorem d_160_12 : decode (mB 160) 12 = .ok (.aload_n 0, 1) := by decide +kernel
theorem s_160_12 {d : Nat} {Q : wQ} {L : List (Option Value)} {st : List Value} {w : aw} {cn sn : Nat} {v : Nat} : wp d 160 Q 12 (some (.ref v) :: L) st w cn sn = wp d 160 Q 13 (some (.ref v) :: L) (.ref v :: st) w cn sn := w_aload_n d_160_12 rfl
theorem d_160_13 : decode (mB 160) 13 = .ok (.aload_n 0, 1) := by decide +kernel
theorem s_160_13 {d : Nat} {Q : wQ} {L : List (Option Value)} {st : List Value} {w : aw} {cn sn : Nat} {v : Nat} : wp d 160 Q 13 (some (.ref v) :: L) st w cn sn = wp d 160 Q 14 (some (.ref v) :: L) (.ref v :: st) w cn sn := w_aload_n d_160_13 rfl
theorem d_160_14 : decode (mB 160) 14 = .ok (.getfield 231, 3) := by decide +kernel
theorem s_160_14 {d : Nat} {Q : wQ} {L : List (Option Value)} {st : List Value} {w : aw} {cn sn : Nat} {a : Nat} : wp d 160 Q 14 L (.ref a :: st) w cn sn = (kd w a = 9 ∧ wp d 160 Q 17 L (fd w 555 a :: st) w cn sn) := w_getfield d_160_14 (by decide +kernel : fT (mO 160) 231 = some (8, 43))
theorem d_160_17 : decode (mB 160) 17 = .ok (.invokevirtual 240, 3) := by decide +kernel
theorem s_160_17 {d : Nat} {Q : wQ} {L : List (Option Value)} {st : List Value} {w : aw} {cn sn : Nat} {v0 : Value} {b : Nat} : wp d 160 Q 17 L (v0 :: .ref b :: st) w cn sn = (kd w b = 9 ∧ catS st ≤ 8 ∧ wpD d 149 [.ref b, v0] w (fun v w' => wp d 160 Q 20 L (v.toList ++ st) w' cn sn)) := w_virtual (As := [v0]) d_160_17 (by decide +kernel : cT (mO 160) 240 = some (0, 149)) rfl (by decide +kernel) rfl (by decide +kernel) rfl
theorem d_160_20 : decode (mB 160) 20 = .ok (.iconst 1, 1) := by decide +kernel
theorem s_160_20 {d : Nat} {Q : wQ} {L : List (Option Value)} {st : List Value} {w : aw} {cn sn : Nat}  : wp d 160 Q 20 L st w cn sn = wp d 160 Q 21 L (.int 1 :: st) w cn sn := w_iconst d_160_20 (by decide)
theorem d_160_21 : decode (mB 160) 21 = .ok (.iadd, 1) := by decide +kernel
theorem s_160_21 {d : Nat} {Q : wQ} {L : List (Option Value)} {st : List Value} {w : aw} {cn sn : Nat} {a b : Int32} : wp d 160 Q 21 L (.int b :: .int a :: st) w cn sn = wp d 160 Q 22 L (.int (a + b) :: st) w cn sn := wp_row d_160_21 _ _ _ _ _
theorem d_160_22 : decode (mB 160) 22 = .ok (.putfield 231, 3) := by decide +kernel
theorem s_160_22 {d : Nat} {Q : wQ} {L : List (Option Value)} {st : List Value} {w : aw} {cn sn : Nat} {x : Int32} {a : Nat} : wp d 160 Q 22 L (.int x :: .ref a :: st) w cn sn = (kd w a = 9 ∧ wp d 160 Q 25 L st (uF w 555 a (.int x)) cn sn) := w_putfield d_160_22 (by decide +kernel : fT (mO 160) 231 = some (8, 43)) (by decide +kernel) ok_int
theorem d_160_25 : decode (mB 160) 25 = .ok (.aload_n 0, 1) := by decide +kernel
theorem s_160_25 {d : Nat} {Q : wQ} {L : List (Option Value)} {st : List Value} {w : aw} {cn sn : Nat} {v : Nat} : wp d 160 Q 25 (some (.ref v) :: L) st w cn sn = wp d 160 Q 26 (some (.ref v) :: L) (.ref v :: st) w cn sn := w_aload_n d_160_25 rfl
theorem d_160_26 : decode (mB 160) 26 = .ok (.invokevirtual 267, 3) := by decide +kernel
theorem s_160_26 {d : Nat} {Q : wQ} {L : List (Option Value)} {st : List Value} {w : aw} {cn sn : Nat} {b : Nat} : wp d 160 Q 26 L (.ref b :: st) w cn sn = (kd w b = 9 ∧ catS st ≤ 8 ∧ wpD d 148 [.ref b] w (fun v w' => wp d 160 Q 29 L (v.toList ++ st) w' cn sn)) := w_virtual (As := []) d_160_26 (by decide +kernel : cT (mO 160) 267 = some (0, 148)) rfl (by decide +kernel) rfl (by decide +kernel) rfl
theorem d_160_29 : decode (mB 160) 29 = .ok (.goto (-25), 3) := by decide +kernel
theorem s_160_29 {d : Nat} {Q : wQ} {L : List (Option Value)} {st : List Value} {w : aw} {cn sn : Nat}  : wp d 160 Q 29 L st w cn sn = wp d 160 Q 4 L st w cn sn := w_goto d_160_29 (by decide)
theorem d_160_32 : decode (mB 160) 32 = .ok (.aload_n 0, 1) := by decide +kernel
theorem s_160_32 {d : Nat} {Q : wQ} {L : List (Option Value)} {st : List Value} {w : aw} {cn sn : Nat} {v : Nat} : wp d 160 Q 32 (some (.ref v) :: L) st w cn sn = wp d 160 Q 33 (some (.ref v) :: L) (.ref v :: st) w cn sn := w_aload_n d_160_32 rfl
theorem d_160_33 : decode (mB 160) 33 = .ok (.getfield 231, 3) := by decide +kernel
theorem s_160_33 {d : Nat} {Q : wQ} {L : List (Option Value)} {st : List Value} {w : aw} {cn sn : Nat} {a : Nat} : wp d 160 Q 33 L (.ref a :: st) w cn sn = (kd w a = 9 ∧ wp d 160 Q 36 L (fd w 555 a :: st) w cn sn) := w_getfield d_160_33 (by decide +kernel : fT (mO 160) 231 = some (8, 43))
theorem d_160_36 : decode (mB 160) 36 = .ok (.aload_n 0, 1) := by decide +kernel
theorem s_160_36 {d : Nat} {Q : wQ} {L : List (Option Value)} {st : List Value} {w : aw} {cn sn : Nat} {v : Nat} : wp d 160 Q 36 (some (.ref v) :: L) st w cn sn = wp d 160 Q 37 (some (.ref v) :: L) (.ref v :: st) w cn sn := w_aload_n d_160_36 rfl
theorem d_160_37 : decode (mB 160) 37 = .ok (.getfield 228, 3) := by decide +kernel
theorem s_160_37 {d : Nat} {Q : wQ} {L : List (Option Value)} {st : List Value} {w : aw} {cn sn : Nat} {a : Nat} : wp d 160 Q 37 L (.ref a :: st) w cn sn = (kd w a = 9 ∧ wp d 160 Q 40 L (fd w 556 a :: st) w cn sn) := w_getfield d_160_37 (by decide +kernel : fT (mO 160) 228 = some (8, 44))
theorem d_160_40 : decode (mB 160) 40 = .ok (.if_icmp .lt 5, 3) := by decide +kernel
theorem s_160_40 {d : Nat} {Q : wQ} {L : List (Option Value)} {st : List Value} {w : aw} {cn sn : Nat} {a b : Int32} : wp d 160 Q 40 L (.int b :: .int a :: st) w cn sn = ((a < b → wp d 160 Q 45 L st w cn sn) ∧ (¬ a < b → wp d 160 Q 43 L st w cn sn)) := w_iclt d_160_40 (by decide)
theorem d_160_43 : decode (mB 160) 43 = .ok (.iconst 1, 1) := by decide +kernel
theorem s_160_43 {d : Nat} {Q : wQ} {L : List (Option Value)} {st : List Value} {w : aw} {cn sn : Nat}  : wp d 160 Q 43 L st w cn sn = wp d 160 Q 44 L (.int 1 :: st) w cn sn := w_iconst d_160_43 (by decide)
theorem d_160_44 : decode (mB 160) 44 = .ok (.ireturn, 1) := by decide +kernel
theorem s_160_44 {d : Nat} {Q : wQ} {L : List (Option Value)} {w : aw} {cn sn : Nat} {v : Int32} : wp d 160 Q 44 L [.int v] w cn sn = (narrow .boolean (.int v) = .int v ∧ Q (some (.int v)) w) := w_zreturn d_160_44 rfl
theorem d_160_45 : decode (mB 160) 45 = .ok (.aload_n 0, 1) := by decide +kernel
theorem s_160_45 {d : Nat} {Q : wQ} {L : List (Option Value)} {st : List Value} {w : aw} {cn sn : Nat} {v : Nat} : wp d 160 Q 45 (some (.ref v) :: L) st w cn sn = wp d 160 Q 46 (some (.ref v) :: L) (.ref v :: st) w cn sn := w_aload_n d_160_45 rfl
theorem d_160_46 : decode (mB 160) 46 = .ok (.aload_n 0, 1) := by decide +kernel
theorem s_160_46 {d : Nat} {Q : wQ} {L : List (Option Value)} {st : List Value} {w : aw} {cn sn : Nat} {v : Nat} : wp d 160 Q 46 (some (.ref v) :: L) st w cn sn = wp d 160 Q 47 (some (.ref v) :: L) (.ref v :: st) w cn sn := w_aload_n d_160_46 rfl
theorem d_160_47 : decode (mB 160) 47 = .ok (.getfield 231, 3) := by decide +kernel
theorem s_160_47 {d : Nat} {Q : wQ} {L : List (Option Value)} {st : List Value} {w : aw} {cn sn : Nat} {a : Nat} : wp d 160 Q 47 L (.ref a :: st) w cn sn = (kd w a = 9 ∧ wp d 160 Q 50 L (fd w 555 a :: st) w cn sn) := w_getfield d_160_47 (by decide +kernel : fT (mO 160) 231 = some (8, 43))
theorem d_160_50 : decode (mB 160) 50 = .ok (.invokevirtual 237, 3) := by decide +kernel
theorem s_160_50 {d : Nat} {Q : wQ} {L : List (Option Value)} {st : List Value} {w : aw} {cn sn : Nat} {v0 : Value} {b : Nat} : wp d 160 Q 50 L (v0 :: .ref b :: st) w cn sn = (kd w b = 9 ∧ catS st ≤ 8 ∧ wpD d 147 [.ref b, v0] w (fun v w' => wp d 160 Q 53 L (v.toList ++ st) w' cn sn)) := w_virtual (As := [v0]) d_160_50 (by decide +kernel : cT (mO 160) 237 = some (0, 147)) rfl (by decide +kernel) rfl (by decide +kernel) rfl
theorem d_160_53 : decode (mB 160) 53 = .ok (.bipush 42, 2) := by decide +kernel
theorem s_160_53 {d : Nat} {Q : wQ} {L : List (Option Value)} {st : List Value} {w : aw} {cn sn : Nat}  : wp d 160 Q 53 L st w cn sn = wp d 160 Q 55 L (.int 42 :: st) w cn sn := w_bipush d_160_53 (by decide)
theorem d_160_55 : decode (mB 160) 55 = .ok (.if_icmp .ne 37, 3) := by decide +kernel
theorem s_160_55 {d : Nat} {Q : wQ} {L : List (Option Value)} {st : List Value} {w : aw} {cn sn : Nat} {a b : Int32} : wp d 160 Q 55 L (.int b :: .int a :: st) w cn sn = ((¬ a = b → wp d 160 Q 92 L st w cn sn) ∧ (a = b → wp d 160 Q 58 L st w cn sn)) := w_icne d_160_55 (by decide)
theorem d_160_58 : decode (mB 160) 58 = .ok (.aload_n 0, 1) := by decide +kernel
theorem s_160_58 {d : Nat} {Q : wQ} {L : List (Option Value)} {st : List Value} {w : aw} {cn sn : Nat} {v : Nat} : wp d 160 Q 58 (some (.ref v) :: L) st w cn sn = wp d 160 Q 59 (some (.ref v) :: L) (.ref v :: st) w cn sn := w_aload_n d_160_58 rfl
theorem d_160_59 : decode (mB 160) 59 = .ok (.dup, 1) := by decide +kernel
theorem s_160_59 {d : Nat} {Q : wQ} {L : List (Option Value)} {st : List Value} {w : aw} {cn sn : Nat} {v : Value} : wp d 160 Q 59 L (v :: st) w cn sn = (v.category = 1 ∧ wp d 160 Q 60 L (v :: v :: st) w cn sn) := wp_row d_160_59 _ _ _ _ _
theorem d_160_60 : decode (mB 160) 60 = .ok (.getfield 231, 3) := by decide +kernel
theorem s_160_60 {d : Nat} {Q : wQ} {L : List (Option Value)} {st : List Value} {w : aw} {cn sn : Nat} {a : Nat} : wp d 160 Q 60 L (.ref a :: st) w cn sn = (kd w a = 9 ∧ wp d 160 Q 63 L (fd w 555 a :: st) w cn sn) := w_getfield d_160_60 (by decide +kernel : fT (mO 160) 231 = some (8, 43))
theorem d_160_63 : decode (mB 160) 63 = .ok (.iconst 1, 1) := by decide +kernel
theorem s_160_63 {d : Nat} {Q : wQ} {L : List (Option Value)} {st : List Value} {w : aw} {cn sn : Nat}  : wp d 160 Q 63 L st w cn sn = wp d 160 Q 64 L (.int 1 :: st) w cn sn := w_iconst d_160_63 (by decide)
theorem d_160_64 : decode (mB 160) 64 = .ok (.iadd, 1) := by decide +kernel
theorem s_160_64 {d : Nat} {Q : wQ} {L : List (Option Value)} {st : List Value} {w : aw} {cn sn : Nat} {a b : Int32} : wp d 160 Q 64 L (.int b :: .int a :: st) w cn sn = wp d 160 Q 65 L (.int (a + b) :: st) w cn sn := wp_row d_160_64 _ _ _ _ _
theorem d_160_65 : decode (mB 160) 65 = .ok (.putfield 231, 3) := by decide +kernel
theorem s_160_65 {d : Nat} {Q : wQ} {L : List (Option Value)} {st : List Value} {w : aw} {cn sn : Nat} {x : Int32} {a : Nat} : wp d 160 Q 65 L (.int x :: .ref a :: st) w cn sn = (kd w a = 9 ∧ wp d 160 Q 68 L st (uF w 555 a (.int x)) cn sn) := w_putfield d_160_65 (by decide +kernel : fT (mO 160) 231 = some (8, 43)) (by decide +kernel) ok_int
theorem d_160_68 : decode (mB 160) 68 = .ok (.aload_n 0, 1) := by decide +kernel
theorem s_160_68 {d : Nat} {Q : wQ} {L : List (Option Value)} {st : List Value} {w : aw} {cn sn : Nat} {v : Nat} : wp d 160 Q 68 (some (.ref v) :: L) st w cn sn = wp d 160 Q 69 (some (.ref v) :: L) (.ref v :: st) w cn sn := w_aload_n d_160_68 rfl
theorem d_160_69 : decode (mB 160) 69 = .ok (.invokevirtual 267, 3) := by decide +kernel
theorem s_160_69 {d : Nat} {Q : wQ} {L : List (Option Value)} {st : List Value} {w : aw} {cn sn : Nat} {b : Nat} : wp d 160 Q 69 L (.ref b :: st) w cn sn = (kd w b = 9 ∧ catS st ≤ 8 ∧ wpD d 148 [.ref b] w (fun v w' => wp d 160 Q 72 L (v.toList ++ st) w' cn sn)) := w_virtual (As := []) d_160_69 (by decide +kernel : cT (mO 160) 267 = some (0, 148)) rfl (by decide +kernel) rfl (by decide +kernel) rfl
theorem d_160_72 : decode (mB 160) 72 = .ok (.aload_n 0, 1) := by decide +kernel
theorem s_160_72 {d : Nat} {Q : wQ} {L : List (Option Value)} {st : List Value} {w : aw} {cn sn : Nat} {v : Nat} : wp d 160 Q 72 (some (.ref v) :: L) st w cn sn = wp d 160 Q 73 (some (.ref v) :: L) (.ref v :: st) w cn sn := w_aload_n d_160_72 rfl
theorem d_160_73 : decode (mB 160) 73 = .ok (.invokevirtual 274, 3) := by decide +kernel
theorem s_160_73 {d : Nat} {Q : wQ} {L : List (Option Value)} {st : List Value} {w : aw} {cn sn : Nat} {b : Nat} : wp d 160 Q 73 L (.ref b :: st) w cn sn = (kd w b = 9 ∧ catS st ≤ 8 ∧ wpD d 158 [.ref b] w (fun v w' => wp d 160 Q 76 L (v.toList ++ st) w' cn sn)) := w_virtual (As := []) d_160_73 (by decide +kernel : cT (mO 160) 274 = some (0, 158)) rfl (by decide +kernel) rfl (by decide +kernel) rfl
theorem d_160_76 : decode (mB 160) 76 = .ok (.ifCond .eq 14, 3) := by decide +kernel
theorem s_160_76 {d : Nat} {Q : wQ} {L : List (Option Value)} {st : List Value} {w : aw} {cn sn : Nat} {x : Int32} : wp d 160 Q 76 L (.int x :: st) w cn sn = ((x = 0 → wp d 160 Q 90 L st w cn sn) ∧ (¬ x = 0 → wp d 160 Q 79 L st w cn sn)) := w_ifeq d_160_76 (by decide)
theorem d_160_79 : decode (mB 160) 79 = .ok (.aload_n 0, 1) := by decide +kernel
theorem s_160_79 {d : Nat} {Q : wQ} {L : List (Option Value)} {st : List Value} {w : aw} {cn sn : Nat} {v : Nat} : wp d 160 Q 79 (some (.ref v) :: L) st w cn sn = wp d 160 Q 80 (some (.ref v) :: L) (.ref v :: st) w cn sn := w_aload_n d_160_79 rfl
theorem d_160_80 : decode (mB 160) 80 = .ok (.invokevirtual 277, 3) := by decide +kernel
theorem s_160_80 {d : Nat} {Q : wQ} {L : List (Option Value)} {st : List Value} {w : aw} {cn sn : Nat} {b : Nat} : wp d 160 Q 80 L (.ref b :: st) w cn sn = (kd w b = 9 ∧ catS st ≤ 8 ∧ wpD d 159 [.ref b] w (fun v w' => wp d 160 Q 83 L (v.toList ++ st) w' cn sn)) := w_virtual (As := []) d_160_80 (by decide +kernel : cT (mO 160) 277 = some (0, 159)) rfl (by decide +kernel) rfl (by decide +kernel) rfl
theorem d_160_83 : decode (mB 160) 83 = .ok (.ifCond .eq 7, 3) := by decide +kernel
theorem s_160_83 {d : Nat} {Q : wQ} {L : List (Option Value)} {st : List Value} {w : aw} {cn sn : Nat} {x : Int32} : wp d 160 Q 83 L (.int x :: st) w cn sn = ((x = 0 → wp d 160 Q 90 L st w cn sn) ∧ (¬ x = 0 → wp d 160 Q 86 L st w cn sn)) := w_ifeq d_160_83 (by decide)
theorem d_160_86 : decode (mB 160) 86 = .ok (.iconst 1, 1) := by decide +kernel
theorem s_160_86 {d : Nat} {Q : wQ} {L : List (Option Value)} {st : List Value} {w : aw} {cn sn : Nat}  : wp d 160 Q 86 L st w cn sn = wp d 160 Q 87 L (.int 1 :: st) w cn sn := w_iconst d_160_86 (by decide)
theorem d_160_87 : decode (mB 160) 87 = .ok (.goto 4, 3) := by decide +kernel
theorem s_160_87 {d : Nat} {Q : wQ} {L : List (Option Value)} {st : List Value} {w : aw} {cn sn : Nat}  : wp d 160 Q 87 L st w cn sn = wp d 160 Q 91 L st w cn sn := w_goto d_160_87 (by decide)
theorem d_160_90 : decode (mB 160) 90 = .ok (.iconst 0, 1) := by decide +kernel
theorem s_160_90 {d : Nat} {Q : wQ} {L : List (Option Value)} {st : List Value} {w : aw} {cn sn : Nat}  : wp d 160 Q 90 L st w cn sn = wp d 160 Q 91 L (.int 0 :: st) w cn sn := w_iconst d_160_90 (by decide)
theorem d_160_91 : decode (mB 160) 91 = .ok (.ireturn, 1) := by decide +kernel
theorem s_160_91 {d : Nat} {Q : wQ} {L : List (Option Value)} {w : aw} {cn sn : Nat} {v : Int32} : wp d 160 Q 91 L [.int v] w cn sn = (narrow .boolean (.int v) = .int v ∧ Q (some (.int v)) w) := w_zreturn d_160_91 rfl
theorem d_160_92 : decode (mB 160) 92 = .ok (.aload_n 0, 1) := by decide +kernel
theorem s_160_92 {d : Nat} {Q : wQ} {L : List (Option Value)} {st : List Value} {w : aw} {cn sn : Nat} {v : Nat} : wp d 160 Q 92 (some (.ref v) :: L) st w cn sn = wp d 160 Q 93 (some (.ref v) :: L) (.ref v :: st) w cn sn := w_aload_n d_160_92 rfl
theorem d_160_93 : decode (mB 160) 93 = .ok (.invokevirtual 280, 3) := by decide +kernel
theorem s_160_93 {d : Nat} {Q : wQ} {L : List (Option Value)} {st : List Value} {w : aw} {cn sn : Nat} {b : Nat} : wp d 160 Q 93 L (.ref b :: st) w cn sn = (kd w b = 9 ∧ catS st ≤ 8 ∧ wpD d 155 [.ref b] w (fun v w' => wp d 160 Q 96 L (v.toList ++ st) w' cn sn)) := w_virtual (As := []) d_160_93 (by decide +kernel : cT (mO 160) 280 = some (0, 155)) rfl (by decide +kernel) rfl (by decide +kernel) rfl
theorem d_160_96 : decode (mB 160) 96 = .ok (.ifCond .eq 41, 3) := by decide +kernel
theorem s_160_96 {d : Nat} {Q : wQ} {L : List (Option Value)} {st : List Value} {w : aw} {cn sn : Nat} {x : Int32} : wp d 160 Q 96 L (.int x :: st) w cn sn = ((x = 0 → wp d 160 Q 137 L st w cn sn) ∧ (¬ x = 0 → wp d 160 Q 99 L st w cn sn)) := w_ifeq d_160_96 (by decide)
theorem d_160_99 : decode (mB 160) 99 = .ok (.aload_n 0, 1) := by decide +kernel
theorem s_160_99 {d : Nat} {Q : wQ} {L : List (Option Value)} {st : List Value} {w : aw} {cn sn : Nat} {v : Nat} : wp d 160 Q 99 (some (.ref v) :: L) st w cn sn = wp d 160 Q 100 (some (.ref v) :: L) (.ref v :: st) w cn sn := w_aload_n d_160_99 rfl
theorem d_160_100 : decode (mB 160) 100 = .ok (.aload_n 0, 1) := by decide +kernel
theorem s_160_100 {d : Nat} {Q : wQ} {L : List (Option Value)} {st : List Value} {w : aw} {cn sn : Nat} {v : Nat} : wp d 160 Q 100 (some (.ref v) :: L) st w cn sn = wp d 160 Q 101 (some (.ref v) :: L) (.ref v :: st) w cn sn := w_aload_n d_160_100 rfl
theorem d_160_101 : decode (mB 160) 101 = .ok (.aload_n 0, 1) := by decide +kernel
theorem s_160_101 {d : Nat} {Q : wQ} {L : List (Option Value)} {st : List Value} {w : aw} {cn sn : Nat} {v : Nat} : wp d 160 Q 101 (some (.ref v) :: L) st w cn sn = wp d 160 Q 102 (some (.ref v) :: L) (.ref v :: st) w cn sn := w_aload_n d_160_101 rfl
theorem d_160_102 : decode (mB 160) 102 = .ok (.getfield 231, 3) := by decide +kernel
theorem s_160_102 {d : Nat} {Q : wQ} {L : List (Option Value)} {st : List Value} {w : aw} {cn sn : Nat} {a : Nat} : wp d 160 Q 102 L (.ref a :: st) w cn sn = (kd w a = 9 ∧ wp d 160 Q 105 L (fd w 555 a :: st) w cn sn) := w_getfield d_160_102 (by decide +kernel : fT (mO 160) 231 = some (8, 43))
theorem d_160_105 : decode (mB 160) 105 = .ok (.invokevirtual 240, 3) := by decide +kernel
theorem s_160_105 {d : Nat} {Q : wQ} {L : List (Option Value)} {st : List Value} {w : aw} {cn sn : Nat} {v0 : Value} {b : Nat} : wp d 160 Q 105 L (v0 :: .ref b :: st) w cn sn = (kd w b = 9 ∧ catS st ≤ 8 ∧ wpD d 149 [.ref b, v0] w (fun v w' => wp d 160 Q 108 L (v.toList ++ st) w' cn sn)) := w_virtual (As := [v0]) d_160_105 (by decide +kernel : cT (mO 160) 240 = some (0, 149)) rfl (by decide +kernel) rfl (by decide +kernel) rfl
theorem d_160_108 : decode (mB 160) 108 = .ok (.iconst 1, 1) := by decide +kernel
theorem s_160_108 {d : Nat} {Q : wQ} {L : List (Option Value)} {st : List Value} {w : aw} {cn sn : Nat}  : wp d 160 Q 108 L st w cn sn = wp d 160 Q 109 L (.int 1 :: st) w cn sn := w_iconst d_160_108 (by decide)
theorem d_160_109 : decode (mB 160) 109 = .ok (.iadd, 1) := by decide +kernel
theorem s_160_109 {d : Nat} {Q : wQ} {L : List (Option Value)} {st : List Value} {w : aw} {cn sn : Nat} {a b : Int32} : wp d 160 Q 109 L (.int b :: .int a :: st) w cn sn = wp d 160 Q 110 L (.int (a + b) :: st) w cn sn := wp_row d_160_109 _ _ _ _ _
theorem d_160_110 : decode (mB 160) 110 = .ok (.putfield 231, 3) := by decide +kernel
theorem s_160_110 {d : Nat} {Q : wQ} {L : List (Option Value)} {st : List Value} {w : aw} {cn sn : Nat} {x : Int32} {a : Nat} : wp d 160 Q 110 L (.int x :: .ref a :: st) w cn sn = (kd w a = 9 ∧ wp d 160 Q 113 L st (uF w 555 a (.int x)) cn sn) := w_putfield d_160_110 (by decide +kernel : fT (mO 160) 231 = some (8, 43)) (by decide +kernel) ok_int
theorem d_160_113 : decode (mB 160) 113 = .ok (.aload_n 0, 1) := by decide +kernel
theorem s_160_113 {d : Nat} {Q : wQ} {L : List (Option Value)} {st : List Value} {w : aw} {cn sn : Nat} {v : Nat} : wp d 160 Q 113 (some (.ref v) :: L) st w cn sn = wp d 160 Q 114 (some (.ref v) :: L) (.ref v :: st) w cn sn := w_aload_n d_160_113 rfl
theorem d_160_114 : decode (mB 160) 114 = .ok (.invokevirtual 267, 3) := by decide +kernel
theorem s_160_114 {d : Nat} {Q : wQ} {L : List (Option Value)} {st : List Value} {w : aw} {cn sn : Nat} {b : Nat} : wp d 160 Q 114 L (.ref b :: st) w cn sn = (kd w b = 9 ∧ catS st ≤ 8 ∧ wpD d 148 [.ref b] w (fun v w' => wp d 160 Q 117 L (v.toList ++ st) w' cn sn)) := w_virtual (As := []) d_160_114 (by decide +kernel : cT (mO 160) 267 = some (0, 148)) rfl (by decide +kernel) rfl (by decide +kernel) rfl
theorem d_160_117 : decode (mB 160) 117 = .ok (.aload_n 0, 1) := by decide +kernel
theorem s_160_117 {d : Nat} {Q : wQ} {L : List (Option Value)} {st : List Value} {w : aw} {cn sn : Nat} {v : Nat} : wp d 160 Q 117 (some (.ref v) :: L) st w cn sn = wp d 160 Q 118 (some (.ref v) :: L) (.ref v :: st) w cn sn := w_aload_n d_160_117 rfl
theorem d_160_118 : decode (mB 160) 118 = .ok (.invokevirtual 274, 3) := by decide +kernel
theorem s_160_118 {d : Nat} {Q : wQ} {L : List (Option Value)} {st : List Value} {w : aw} {cn sn : Nat} {b : Nat} : wp d 160 Q 118 L (.ref b :: st) w cn sn = (kd w b = 9 ∧ catS st ≤ 8 ∧ wpD d 158 [.ref b] w (fun v w' => wp d 160 Q 121 L (v.toList ++ st) w' cn sn)) := w_virtual (As := []) d_160_118 (by decide +kernel : cT (mO 160) 274 = some (0, 158)) rfl (by decide +kernel) rfl (by decide +kernel) rfl
theorem d_160_121 : decode (mB 160) 121 = .ok (.ifCond .eq 14, 3) := by decide +kernel
theorem s_160_121 {d : Nat} {Q : wQ} {L : List (Option Value)} {st : List Value} {w : aw} {cn sn : Nat} {x : Int32} : wp d 160 Q 121 L (.int x :: st) w cn sn = ((x = 0 → wp d 160 Q 135 L st w cn sn) ∧ (¬ x = 0 → wp d 160 Q 124 L st w cn sn)) := w_ifeq d_160_121 (by decide)
theorem d_160_124 : decode (mB 160) 124 = .ok (.aload_n 0, 1) := by decide +kernel
theorem s_160_124 {d : Nat} {Q : wQ} {L : List (Option Value)} {st : List Value} {w : aw} {cn sn : Nat} {v : Nat} : wp d 160 Q 124 (some (.ref v) :: L) st w cn sn = wp d 160 Q 125 (some (.ref v) :: L) (.ref v :: st) w cn sn := w_aload_n d_160_124 rfl
theorem d_160_125 : decode (mB 160) 125 = .ok (.invokevirtual 277, 3) := by decide +kernel
theorem s_160_125 {d : Nat} {Q : wQ} {L : List (Option Value)} {st : List Value} {w : aw} {cn sn : Nat} {b : Nat} : wp d 160 Q 125 L (.ref b :: st) w cn sn = (kd w b = 9 ∧ catS st ≤ 8 ∧ wpD d 159 [.ref b] w (fun v w' => wp d 160 Q 128 L (v.toList ++ st) w' cn sn)) := w_virtual (As := []) d_160_125 (by decide +kernel : cT (mO 160) 277 = some (0, 159)) rfl (by decide +kernel) rfl (by decide +kernel) rfl
theorem d_160_128 : decode (mB 160) 128 = .ok (.ifCond .eq 7, 3) := by decide +kernel
theorem s_160_128 {d : Nat} {Q : wQ} {L : List (Option Value)} {st : List Value} {w : aw} {cn sn : Nat} {x : Int32} : wp d 160 Q 128 L (.int x :: st) w cn sn = ((x = 0 → wp d 160 Q 135 L st w cn sn) ∧ (¬ x = 0 → wp d 160 Q 131 L st w cn sn)) := w_ifeq d_160_128 (by decide)
theorem d_160_131 : decode (mB 160) 131 = .ok (.iconst 1, 1) := by decide +kernel
theorem s_160_131 {d : Nat} {Q : wQ} {L : List (Option Value)} {st : List Value} {w : aw} {cn sn : Nat}  : wp d 160 Q 131 L st w cn sn = wp d 160 Q 132 L (.int 1 :: st) w cn sn := w_iconst d_160_131 (by decide)
theorem d_160_132 : decode (mB 160) 132 = .ok (.goto 4, 3) := by decide +kernel
theorem s_160_132 {d : Nat} {Q : wQ} {L : List (Option Value)} {st : List Value} {w : aw} {cn sn : Nat}  : wp d 160 Q 132 L st w cn sn = wp d 160 Q 136 L st w cn sn := w_goto d_160_132 (by decide)
theorem d_160_135 : decode (mB 160) 135 = .ok (.iconst 0, 1) := by decide +kernel
theorem s_160_135 {d : Nat} {Q : wQ} {L : List (Option Value)} {st : List Value} {w : aw} {cn sn : Nat}  : wp d 160 Q 135 L st w cn sn = wp d 160 Q 136 L (.int 0 :: st) w cn sn := w_iconst d_160_135 (by decide)
theorem d_160_136 : decode (mB 160) 136 = .ok (.ireturn, 1) := by decide +kernel
theorem s_160_136 {d : Nat} {Q : wQ} {L : List (Option Value)} {w : aw} {cn sn : Nat} {v : Int32} : wp d 160 Q 136 L [.int v] w cn sn = (narrow .boolean (.int v) = .int v ∧ Q (some (.int v)) w) := w_zreturn d_160_136 rfl
theorem d_160_137 : decode (mB 160) 137 = .ok (.aload_n 0, 1) := by decide +kernel
theorem s_160_137 {d : Nat} {Q : wQ} {L : List (Option Value)} {st : List Value} {w : aw} {cn sn : Nat} {v : Nat} : wp d 160 Q 137 (some (.ref v) :: L) st w cn sn = wp d 160 Q 138 (some (.ref v) :: L) (.ref v :: st) w cn sn := w_aload_n d_160_137 rfl
theorem d_160_138 : decode (mB 160) 138 = .ok (.aload_n 0, 1) := by decide +kernel
theorem s_160_138 {d : Nat} {Q : wQ} {L : List (Option Value)} {st : List Value} {w : aw} {cn sn : Nat} {v : Nat} : wp d 160 Q 138 (some (.ref v) :: L) st w cn sn = wp d 160 Q 139 (some (.ref v) :: L) (.ref v :: st) w cn sn := w_aload_n d_160_138 rfl
theorem d_160_139 : decode (mB 160) 139 = .ok (.getfield 231, 3) := by decide +kernel
theorem s_160_139 {d : Nat} {Q : wQ} {L : List (Option Value)} {st : List Value} {w : aw} {cn sn : Nat} {a : Nat} : wp d 160 Q 139 L (.ref a :: st) w cn sn = (kd w a = 9 ∧ wp d 160 Q 142 L (fd w 555 a :: st) w cn sn) := w_getfield d_160_139 (by decide +kernel : fT (mO 160) 231 = some (8, 43))
theorem d_160_142 : decode (mB 160) 142 = .ok (.invokevirtual 283, 3) := by decide +kernel
theorem s_160_142 {d : Nat} {Q : wQ} {L : List (Option Value)} {st : List Value} {w : aw} {cn sn : Nat} {v0 : Value} {b : Nat} : wp d 160 Q 142 L (v0 :: .ref b :: st) w cn sn = (kd w b = 9 ∧ catS st ≤ 8 ∧ wpD d 153 [.ref b, v0] w (fun v w' => wp d 160 Q 145 L (v.toList ++ st) w' cn sn)) := w_virtual (As := [v0]) d_160_142 (by decide +kernel : cT (mO 160) 283 = some (0, 153)) rfl (by decide +kernel) rfl (by decide +kernel) rfl
theorem d_160_145 : decode (mB 160) 145 = .ok (.ifCond .lt 10, 3) := by decide +kernel
theorem s_160_145 {d : Nat} {Q : wQ} {L : List (Option Value)} {st : List Value} {w : aw} {cn sn : Nat} {x : Int32} : wp d 160 Q 145 L (.int x :: st) w cn sn = ((x < 0 → wp d 160 Q 155 L st w cn sn) ∧ (¬ x < 0 → wp d 160 Q 148 L st w cn sn)) := w_iflt d_160_145 (by decide)
theorem d_160_148 : decode (mB 160) 148 = .ok (.aload_n 0, 1) := by decide +kernel
theorem s_160_148 {d : Nat} {Q : wQ} {L : List (Option Value)} {st : List Value} {w : aw} {cn sn : Nat} {v : Nat} : wp d 160 Q 148 (some (.ref v) :: L) st w cn sn = wp d 160 Q 149 (some (.ref v) :: L) (.ref v :: st) w cn sn := w_aload_n d_160_148 rfl
theorem d_160_149 : decode (mB 160) 149 = .ok (.invokevirtual 286, 3) := by decide +kernel
theorem s_160_149 {d : Nat} {Q : wQ} {L : List (Option Value)} {st : List Value} {w : aw} {cn sn : Nat} {b : Nat} : wp d 160 Q 149 L (.ref b :: st) w cn sn = (kd w b = 9 ∧ catS st ≤ 8 ∧ wpD d 161 [.ref b] w (fun v w' => wp d 160 Q 152 L (v.toList ++ st) w' cn sn)) := w_virtual (As := []) d_160_149 (by decide +kernel : cT (mO 160) 286 = some (0, 161)) rfl (by decide +kernel) rfl (by decide +kernel) rfl
theorem d_160_152 : decode (mB 160) 152 = .ok (.goto 7, 3) := by decide +kernel
theorem s_160_152 {d : Nat} {Q : wQ} {L : List (Option Value)} {st : List Value} {w : aw} {cn sn : Nat}  : wp d 160 Q 152 L st w cn sn = wp d 160 Q 159 L st w cn sn := w_goto d_160_152 (by decide)
theorem d_160_155 : decode (mB 160) 155 = .ok (.aload_n 0, 1) := by decide +kernel
theorem s_160_155 {d : Nat} {Q : wQ} {L : List (Option Value)} {st : List Value} {w : aw} {cn sn : Nat} {v : Nat} : wp d 160 Q 155 (some (.ref v) :: L) st w cn sn = wp d 160 Q 156 (some (.ref v) :: L) (.ref v :: st) w cn sn := w_aload_n d_160_155 rfl
theorem d_160_156 : decode (mB 160) 156 = .ok (.invokevirtual 289, 3) := by decide +kernel
theorem s_160_156 {d : Nat} {Q : wQ} {L : List (Option Value)} {st : List Value} {w : aw} {cn sn : Nat} {b : Nat} : wp d 160 Q 156 L (.ref b :: st) w cn sn = (kd w b = 9 ∧ catS st ≤ 8 ∧ wpD d 162 [.ref b] w (fun v w' => wp d 160 Q 159 L (v.toList ++ st) w' cn sn)) := w_virtual (As := []) d_160_156 (by decide +kernel : cT (mO 160) 289 = some (0, 162)) rfl (by decide +kernel) rfl (by decide +kernel) rfl
theorem d_160_159 : decode (mB 160) 159 = .ok (.ireturn, 1) := by decide +kernel
theorem s_160_159 {d : Nat} {Q : wQ} {L : List (Option Value)} {w : aw} {cn sn : Nat} {v : Int32} : wp d 160 Q 159 L [.int v] w cn sn = (narrow .boolean (.int v) = .int v ∧ Q (some (.int v)) w) := w_zreturn d_160_159 rfl
