theorem d_159_0 : decode (mB 159) 0 = .ok (.aload_n 0, 1) := by decide +kernel
theorem s_159_0 {d : Nat} {Q : wQ} {L : List (Option Value)} {st : List Value} {w : aw} {cn sn : Nat} {v : Nat} : wp d 159 Q 0 (some (.ref v) :: L) st w cn sn = wp d 159 Q 1 (some (.ref v) :: L) (.ref v :: st) w cn sn := w_aload_n d_159_0 rfl
theorem d_159_1 : decode (mB 159) 1 = .ok (.aload_n 0, 1) := by decide +kernel
theorem s_159_1 {d : Nat} {Q : wQ} {L : List (Option Value)} {st : List Value} {w : aw} {cn sn : Nat} {v : Nat} : wp d 159 Q 1 (some (.ref v) :: L) st w cn sn = wp d 159 Q 2 (some (.ref v) :: L) (.ref v :: st) w cn sn := w_aload_n d_159_1 rfl
theorem d_159_2 : decode (mB 159) 2 = .ok (.aload_n 0, 1) := by decide +kernel
theorem s_159_2 {d : Nat} {Q : wQ} {L : List (Option Value)} {st : List Value} {w : aw} {cn sn : Nat} {v : Nat} : wp d 159 Q 2 (some (.ref v) :: L) st w cn sn = wp d 159 Q 3 (some (.ref v) :: L) (.ref v :: st) w cn sn := w_aload_n d_159_2 rfl
theorem d_159_3 : decode (mB 159) 3 = .ok (.getfield 231, 3) := by decide +kernel
theorem s_159_3 {d : Nat} {Q : wQ} {L : List (Option Value)} {st : List Value} {w : aw} {cn sn : Nat} {a : Nat} : wp d 159 Q 3 L (.ref a :: st) w cn sn = (kd w a = 9 ∧ wp d 159 Q 6 L (fd w 555 a :: st) w cn sn) := w_getfield d_159_3 (by decide +kernel : fT (mO 159) 231 = some (8, 43))
theorem d_159_6 : decode (mB 159) 6 = .ok (.invokevirtual 240, 3) := by decide +kernel
theorem s_159_6 {d : Nat} {Q : wQ} {L : List (Option Value)} {st : List Value} {w : aw} {cn sn : Nat} {v0 : Value} {b : Nat} : wp d 159 Q 6 L (v0 :: .ref b :: st) w cn sn = (kd w b = 9 ∧ catS st ≤ 8 ∧ wpD d 147 [.ref b, v0] w (fun v w' => wp d 159 Q 9 L (v.toList ++ st) w' cn sn)) := w_virtual (As := [v0]) d_159_6 (by decide +kernel : cT (mO 159) 240 = some (0, 147)) rfl (by decide +kernel) rfl (by decide +kernel) rfl
theorem d_159_9 : decode (mB 159) 9 = .ok (.putfield 231, 3) := by decide +kernel
theorem s_159_9 {d : Nat} {Q : wQ} {L : List (Option Value)} {st : List Value} {w : aw} {cn sn : Nat} {x : Int32} {a : Nat} : wp d 159 Q 9 L (.int x :: .ref a :: st) w cn sn = (kd w a = 9 ∧ wp d 159 Q 12 L st (uF w 555 a (.int x)) cn sn) := w_putfield d_159_9 (by decide +kernel : fT (mO 159) 231 = some (8, 43)) (by decide +kernel) ok_int
theorem d_159_12 : decode (mB 159) 12 = .ok (.aload_n 0, 1) := by decide +kernel
theorem s_159_12 {d : Nat} {Q : wQ} {L : List (Option Value)} {st : List Value} {w : aw} {cn sn : Nat} {v : Nat} : wp d 159 Q 12 (some (.ref v) :: L) st w cn sn = wp d 159 Q 13 (some (.ref v) :: L) (.ref v :: st) w cn sn := w_aload_n d_159_12 rfl
theorem d_159_13 : decode (mB 159) 13 = .ok (.invokevirtual 267, 3) := by decide +kernel
theorem s_159_13 {d : Nat} {Q : wQ} {L : List (Option Value)} {st : List Value} {w : aw} {cn sn : Nat} {b : Nat} : wp d 159 Q 13 L (.ref b :: st) w cn sn = (kd w b = 9 ∧ catS st ≤ 8 ∧ wpD d 146 [.ref b] w (fun v w' => wp d 159 Q 16 L (v.toList ++ st) w' cn sn)) := w_virtual (As := []) d_159_13 (by decide +kernel : cT (mO 159) 267 = some (0, 146)) rfl (by decide +kernel) rfl (by decide +kernel) rfl
theorem d_159_16 : decode (mB 159) 16 = .ok (.aload_n 0, 1) := by decide +kernel
theorem s_159_16 {d : Nat} {Q : wQ} {L : List (Option Value)} {st : List Value} {w : aw} {cn sn : Nat} {v : Nat} : wp d 159 Q 16 (some (.ref v) :: L) st w cn sn = wp d 159 Q 17 (some (.ref v) :: L) (.ref v :: st) w cn sn := w_aload_n d_159_16 rfl
theorem d_159_17 : decode (mB 159) 17 = .ok (.invokevirtual 292, 3) := by decide +kernel
theorem s_159_17 {d : Nat} {Q : wQ} {L : List (Option Value)} {st : List Value} {w : aw} {cn sn : Nat} {b : Nat} : wp d 159 Q 17 L (.ref b :: st) w cn sn = (kd w b = 9 ∧ catS st ≤ 8 ∧ wpD d 154 [.ref b] w (fun v w' => wp d 159 Q 20 L (v.toList ++ st) w' cn sn)) := w_virtual (As := []) d_159_17 (by decide +kernel : cT (mO 159) 292 = some (0, 154)) rfl (by decide +kernel) rfl (by decide +kernel) rfl
theorem d_159_20 : decode (mB 159) 20 = .ok (.ifCond .eq 17, 3) := by decide +kernel
theorem s_159_20 {d : Nat} {Q : wQ} {L : List (Option Value)} {st : List Value} {w : aw} {cn sn : Nat} {x : Int32} : wp d 159 Q 20 L (.int x :: st) w cn sn = ((x = 0 → wp d 159 Q 37 L st w cn sn) ∧ (¬ x = 0 → wp d 159 Q 23 L st w cn sn)) := w_ifeq d_159_20 (by decide)
theorem d_159_23 : decode (mB 159) 23 = .ok (.aload_n 0, 1) := by decide +kernel
theorem s_159_23 {d : Nat} {Q : wQ} {L : List (Option Value)} {st : List Value} {w : aw} {cn sn : Nat} {v : Nat} : wp d 159 Q 23 (some (.ref v) :: L) st w cn sn = wp d 159 Q 24 (some (.ref v) :: L) (.ref v :: st) w cn sn := w_aload_n d_159_23 rfl
theorem d_159_24 : decode (mB 159) 24 = .ok (.dup, 1) := by decide +kernel
theorem s_159_24 {d : Nat} {Q : wQ} {L : List (Option Value)} {st : List Value} {w : aw} {cn sn : Nat} {v : Value} : wp d 159 Q 24 L (v :: st) w cn sn = (v.category = 1 ∧ wp d 159 Q 25 L (v :: v :: st) w cn sn) := wp_row d_159_24 _ _ _ _ _
theorem d_159_25 : decode (mB 159) 25 = .ok (.getfield 231, 3) := by decide +kernel
theorem s_159_25 {d : Nat} {Q : wQ} {L : List (Option Value)} {st : List Value} {w : aw} {cn sn : Nat} {a : Nat} : wp d 159 Q 25 L (.ref a :: st) w cn sn = (kd w a = 9 ∧ wp d 159 Q 28 L (fd w 555 a :: st) w cn sn) := w_getfield d_159_25 (by decide +kernel : fT (mO 159) 231 = some (8, 43))
theorem d_159_28 : decode (mB 159) 28 = .ok (.iconst 1, 1) := by decide +kernel
theorem s_159_28 {d : Nat} {Q : wQ} {L : List (Option Value)} {st : List Value} {w : aw} {cn sn : Nat}  : wp d 159 Q 28 L st w cn sn = wp d 159 Q 29 L (.int 1 :: st) w cn sn := w_iconst d_159_28 (by decide)
theorem d_159_29 : decode (mB 159) 29 = .ok (.iadd, 1) := by decide +kernel
theorem s_159_29 {d : Nat} {Q : wQ} {L : List (Option Value)} {st : List Value} {w : aw} {cn sn : Nat} {a b : Int32} : wp d 159 Q 29 L (.int b :: .int a :: st) w cn sn = wp d 159 Q 30 L (.int (a + b) :: st) w cn sn := wp_row d_159_29 _ _ _ _ _
theorem d_159_30 : decode (mB 159) 30 = .ok (.putfield 231, 3) := by decide +kernel
theorem s_159_30 {d : Nat} {Q : wQ} {L : List (Option Value)} {st : List Value} {w : aw} {cn sn : Nat} {x : Int32} {a : Nat} : wp d 159 Q 30 L (.int x :: .ref a :: st) w cn sn = (kd w a = 9 ∧ wp d 159 Q 33 L st (uF w 555 a (.int x)) cn sn) := w_putfield d_159_30 (by decide +kernel : fT (mO 159) 231 = some (8, 43)) (by decide +kernel) ok_int
theorem d_159_33 : decode (mB 159) 33 = .ok (.aload_n 0, 1) := by decide +kernel
theorem s_159_33 {d : Nat} {Q : wQ} {L : List (Option Value)} {st : List Value} {w : aw} {cn sn : Nat} {v : Nat} : wp d 159 Q 33 (some (.ref v) :: L) st w cn sn = wp d 159 Q 34 (some (.ref v) :: L) (.ref v :: st) w cn sn := w_aload_n d_159_33 rfl
theorem d_159_34 : decode (mB 159) 34 = .ok (.invokevirtual 267, 3) := by decide +kernel
theorem s_159_34 {d : Nat} {Q : wQ} {L : List (Option Value)} {st : List Value} {w : aw} {cn sn : Nat} {b : Nat} : wp d 159 Q 34 L (.ref b :: st) w cn sn = (kd w b = 9 ∧ catS st ≤ 8 ∧ wpD d 146 [.ref b] w (fun v w' => wp d 159 Q 37 L (v.toList ++ st) w' cn sn)) := w_virtual (As := []) d_159_34 (by decide +kernel : cT (mO 159) 267 = some (0, 146)) rfl (by decide +kernel) rfl (by decide +kernel) rfl
theorem d_159_37 : decode (mB 159) 37 = .ok (.aload_n 0, 1) := by decide +kernel
theorem s_159_37 {d : Nat} {Q : wQ} {L : List (Option Value)} {st : List Value} {w : aw} {cn sn : Nat} {v : Nat} : wp d 159 Q 37 (some (.ref v) :: L) st w cn sn = wp d 159 Q 38 (some (.ref v) :: L) (.ref v :: st) w cn sn := w_aload_n d_159_37 rfl
theorem d_159_38 : decode (mB 159) 38 = .ok (.aload_n 0, 1) := by decide +kernel
theorem s_159_38 {d : Nat} {Q : wQ} {L : List (Option Value)} {st : List Value} {w : aw} {cn sn : Nat} {v : Nat} : wp d 159 Q 38 (some (.ref v) :: L) st w cn sn = wp d 159 Q 39 (some (.ref v) :: L) (.ref v :: st) w cn sn := w_aload_n d_159_38 rfl
theorem d_159_39 : decode (mB 159) 39 = .ok (.getfield 231, 3) := by decide +kernel
theorem s_159_39 {d : Nat} {Q : wQ} {L : List (Option Value)} {st : List Value} {w : aw} {cn sn : Nat} {a : Nat} : wp d 159 Q 39 L (.ref a :: st) w cn sn = (kd w a = 9 ∧ wp d 159 Q 42 L (fd w 555 a :: st) w cn sn) := w_getfield d_159_39 (by decide +kernel : fT (mO 159) 231 = some (8, 43))
theorem d_159_42 : decode (mB 159) 42 = .ok (.invokevirtual 237, 3) := by decide +kernel
theorem s_159_42 {d : Nat} {Q : wQ} {L : List (Option Value)} {st : List Value} {w : aw} {cn sn : Nat} {v0 : Value} {b : Nat} : wp d 159 Q 42 L (v0 :: .ref b :: st) w cn sn = (kd w b = 9 ∧ catS st ≤ 8 ∧ wpD d 145 [.ref b, v0] w (fun v w' => wp d 159 Q 45 L (v.toList ++ st) w' cn sn)) := w_virtual (As := [v0]) d_159_42 (by decide +kernel : cT (mO 159) 237 = some (0, 145)) rfl (by decide +kernel) rfl (by decide +kernel) rfl
theorem d_159_45 : decode (mB 159) 45 = .ok (.bipush 40, 2) := by decide +kernel
theorem s_159_45 {d : Nat} {Q : wQ} {L : List (Option Value)} {st : List Value} {w : aw} {cn sn : Nat}  : wp d 159 Q 45 L st w cn sn = wp d 159 Q 47 L (.int 40 :: st) w cn sn := w_bipush d_159_45 (by decide)
theorem d_159_47 : decode (mB 159) 47 = .ok (.if_icmp .ne 14, 3) := by decide +kernel
theorem s_159_47 {d : Nat} {Q : wQ} {L : List (Option Value)} {st : List Value} {w : aw} {cn sn : Nat} {a b : Int32} : wp d 159 Q 47 L (.int b :: .int a :: st) w cn sn = ((¬ a = b → wp d 159 Q 61 L st w cn sn) ∧ (a = b → wp d 159 Q 50 L st w cn sn)) := w_icne d_159_47 (by decide)
theorem d_159_50 : decode (mB 159) 50 = .ok (.aload_n 0, 1) := by decide +kernel
theorem s_159_50 {d : Nat} {Q : wQ} {L : List (Option Value)} {st : List Value} {w : aw} {cn sn : Nat} {v : Nat} : wp d 159 Q 50 (some (.ref v) :: L) st w cn sn = wp d 159 Q 51 (some (.ref v) :: L) (.ref v :: st) w cn sn := w_aload_n d_159_50 rfl
theorem d_159_51 : decode (mB 159) 51 = .ok (.getfield 231, 3) := by decide +kernel
theorem s_159_51 {d : Nat} {Q : wQ} {L : List (Option Value)} {st : List Value} {w : aw} {cn sn : Nat} {a : Nat} : wp d 159 Q 51 L (.ref a :: st) w cn sn = (kd w a = 9 ∧ wp d 159 Q 54 L (fd w 555 a :: st) w cn sn) := w_getfield d_159_51 (by decide +kernel : fT (mO 159) 231 = some (8, 43))
theorem d_159_54 : decode (mB 159) 54 = .ok (.aload_n 0, 1) := by decide +kernel
theorem s_159_54 {d : Nat} {Q : wQ} {L : List (Option Value)} {st : List Value} {w : aw} {cn sn : Nat} {v : Nat} : wp d 159 Q 54 (some (.ref v) :: L) st w cn sn = wp d 159 Q 55 (some (.ref v) :: L) (.ref v :: st) w cn sn := w_aload_n d_159_54 rfl
theorem d_159_55 : decode (mB 159) 55 = .ok (.getfield 228, 3) := by decide +kernel
theorem s_159_55 {d : Nat} {Q : wQ} {L : List (Option Value)} {st : List Value} {w : aw} {cn sn : Nat} {a : Nat} : wp d 159 Q 55 L (.ref a :: st) w cn sn = (kd w a = 9 ∧ wp d 159 Q 58 L (fd w 556 a :: st) w cn sn) := w_getfield d_159_55 (by decide +kernel : fT (mO 159) 228 = some (8, 44))
theorem d_159_58 : decode (mB 159) 58 = .ok (.if_icmp .lt 23, 3) := by decide +kernel
theorem s_159_58 {d : Nat} {Q : wQ} {L : List (Option Value)} {st : List Value} {w : aw} {cn sn : Nat} {a b : Int32} : wp d 159 Q 58 L (.int b :: .int a :: st) w cn sn = ((a < b → wp d 159 Q 81 L st w cn sn) ∧ (¬ a < b → wp d 159 Q 61 L st w cn sn)) := w_iclt d_159_58 (by decide)
theorem d_159_61 : decode (mB 159) 61 = .ok (.aload_n 0, 1) := by decide +kernel
theorem s_159_61 {d : Nat} {Q : wQ} {L : List (Option Value)} {st : List Value} {w : aw} {cn sn : Nat} {v : Nat} : wp d 159 Q 61 (some (.ref v) :: L) st w cn sn = wp d 159 Q 62 (some (.ref v) :: L) (.ref v :: st) w cn sn := w_aload_n d_159_61 rfl
theorem d_159_62 : decode (mB 159) 62 = .ok (.invokevirtual 274, 3) := by decide +kernel
theorem s_159_62 {d : Nat} {Q : wQ} {L : List (Option Value)} {st : List Value} {w : aw} {cn sn : Nat} {b : Nat} : wp d 159 Q 62 L (.ref b :: st) w cn sn = (kd w b = 9 ∧ catS st ≤ 8 ∧ wpD d 156 [.ref b] w (fun v w' => wp d 159 Q 65 L (v.toList ++ st) w' cn sn)) := w_virtual (As := []) d_159_62 (by decide +kernel : cT (mO 159) 274 = some (0, 156)) rfl (by decide +kernel) rfl (by decide +kernel) rfl
theorem d_159_65 : decode (mB 159) 65 = .ok (.ifCond .eq 14, 3) := by decide +kernel
theorem s_159_65 {d : Nat} {Q : wQ} {L : List (Option Value)} {st : List Value} {w : aw} {cn sn : Nat} {x : Int32} : wp d 159 Q 65 L (.int x :: st) w cn sn = ((x = 0 → wp d 159 Q 79 L st w cn sn) ∧ (¬ x = 0 → wp d 159 Q 68 L st w cn sn)) := w_ifeq d_159_65 (by decide)
theorem d_159_68 : decode (mB 159) 68 = .ok (.aload_n 0, 1) := by decide +kernel
theorem s_159_68 {d : Nat} {Q : wQ} {L : List (Option Value)} {st : List Value} {w : aw} {cn sn : Nat} {v : Nat} : wp d 159 Q 68 (some (.ref v) :: L) st w cn sn = wp d 159 Q 69 (some (.ref v) :: L) (.ref v :: st) w cn sn := w_aload_n d_159_68 rfl
theorem d_159_69 : decode (mB 159) 69 = .ok (.invokevirtual 277, 3) := by decide +kernel
theorem s_159_69 {d : Nat} {Q : wQ} {L : List (Option Value)} {st : List Value} {w : aw} {cn sn : Nat} {b : Nat} : wp d 159 Q 69 L (.ref b :: st) w cn sn = (kd w b = 9 ∧ catS st ≤ 8 ∧ wpD d 157 [.ref b] w (fun v w' => wp d 159 Q 72 L (v.toList ++ st) w' cn sn)) := w_virtual (As := []) d_159_69 (by decide +kernel : cT (mO 159) 277 = some (0, 157)) rfl (by decide +kernel) rfl (by decide +kernel) rfl
theorem d_159_72 : decode (mB 159) 72 = .ok (.ifCond .eq 7, 3) := by decide +kernel
theorem s_159_72 {d : Nat} {Q : wQ} {L : List (Option Value)} {st : List Value} {w : aw} {cn sn : Nat} {x : Int32} : wp d 159 Q 72 L (.int x :: st) w cn sn = ((x = 0 → wp d 159 Q 79 L st w cn sn) ∧ (¬ x = 0 → wp d 159 Q 75 L st w cn sn)) := w_ifeq d_159_72 (by decide)
theorem d_159_75 : decode (mB 159) 75 = .ok (.iconst 1, 1) := by decide +kernel
theorem s_159_75 {d : Nat} {Q : wQ} {L : List (Option Value)} {st : List Value} {w : aw} {cn sn : Nat}  : wp d 159 Q 75 L st w cn sn = wp d 159 Q 76 L (.int 1 :: st) w cn sn := w_iconst d_159_75 (by decide)
theorem d_159_76 : decode (mB 159) 76 = .ok (.goto 4, 3) := by decide +kernel
theorem s_159_76 {d : Nat} {Q : wQ} {L : List (Option Value)} {st : List Value} {w : aw} {cn sn : Nat}  : wp d 159 Q 76 L st w cn sn = wp d 159 Q 80 L st w cn sn := w_goto d_159_76 (by decide)
theorem d_159_79 : decode (mB 159) 79 = .ok (.iconst 0, 1) := by decide +kernel
theorem s_159_79 {d : Nat} {Q : wQ} {L : List (Option Value)} {st : List Value} {w : aw} {cn sn : Nat}  : wp d 159 Q 79 L st w cn sn = wp d 159 Q 80 L (.int 0 :: st) w cn sn := w_iconst d_159_79 (by decide)
theorem d_159_80 : decode (mB 159) 80 = .ok (.ireturn, 1) := by decide +kernel
theorem s_159_80 {d : Nat} {Q : wQ} {L : List (Option Value)} {w : aw} {cn sn : Nat} {v : Int32} : wp d 159 Q 80 L [.int v] w cn sn = (narrow .boolean (.int v) = .int v ∧ Q (some (.int v)) w) := w_zreturn d_159_80 rfl
theorem d_159_81 : decode (mB 159) 81 = .ok (.aload_n 0, 1) := by decide +kernel
theorem s_159_81 {d : Nat} {Q : wQ} {L : List (Option Value)} {st : List Value} {w : aw} {cn sn : Nat} {v : Nat} : wp d 159 Q 81 (some (.ref v) :: L) st w cn sn = wp d 159 Q 82 (some (.ref v) :: L) (.ref v :: st) w cn sn := w_aload_n d_159_81 rfl
theorem d_159_82 : decode (mB 159) 82 = .ok (.dup, 1) := by decide +kernel
theorem s_159_82 {d : Nat} {Q : wQ} {L : List (Option Value)} {st : List Value} {w : aw} {cn sn : Nat} {v : Value} : wp d 159 Q 82 L (v :: st) w cn sn = (v.category = 1 ∧ wp d 159 Q 83 L (v :: v :: st) w cn sn) := wp_row d_159_82 _ _ _ _ _
theorem d_159_83 : decode (mB 159) 83 = .ok (.getfield 231, 3) := by decide +kernel
theorem s_159_83 {d : Nat} {Q : wQ} {L : List (Option Value)} {st : List Value} {w : aw} {cn sn : Nat} {a : Nat} : wp d 159 Q 83 L (.ref a :: st) w cn sn = (kd w a = 9 ∧ wp d 159 Q 86 L (fd w 555 a :: st) w cn sn) := w_getfield d_159_83 (by decide +kernel : fT (mO 159) 231 = some (8, 43))
theorem d_159_86 : decode (mB 159) 86 = .ok (.iconst 1, 1) := by decide +kernel
theorem s_159_86 {d : Nat} {Q : wQ} {L : List (Option Value)} {st : List Value} {w : aw} {cn sn : Nat}  : wp d 159 Q 86 L st w cn sn = wp d 159 Q 87 L (.int 1 :: st) w cn sn := w_iconst d_159_86 (by decide)
theorem d_159_87 : decode (mB 159) 87 = .ok (.iadd, 1) := by decide +kernel
theorem s_159_87 {d : Nat} {Q : wQ} {L : List (Option Value)} {st : List Value} {w : aw} {cn sn : Nat} {a b : Int32} : wp d 159 Q 87 L (.int b :: .int a :: st) w cn sn = wp d 159 Q 88 L (.int (a + b) :: st) w cn sn := wp_row d_159_87 _ _ _ _ _
theorem d_159_88 : decode (mB 159) 88 = .ok (.putfield 231, 3) := by decide +kernel
theorem s_159_88 {d : Nat} {Q : wQ} {L : List (Option Value)} {st : List Value} {w : aw} {cn sn : Nat} {x : Int32} {a : Nat} : wp d 159 Q 88 L (.int x :: .ref a :: st) w cn sn = (kd w a = 9 ∧ wp d 159 Q 91 L st (uF w 555 a (.int x)) cn sn) := w_putfield d_159_88 (by decide +kernel : fT (mO 159) 231 = some (8, 43)) (by decide +kernel) ok_int
theorem d_159_91 : decode (mB 159) 91 = .ok (.aload_n 0, 1) := by decide +kernel
theorem s_159_91 {d : Nat} {Q : wQ} {L : List (Option Value)} {st : List Value} {w : aw} {cn sn : Nat} {v : Nat} : wp d 159 Q 91 (some (.ref v) :: L) st w cn sn = wp d 159 Q 92 (some (.ref v) :: L) (.ref v :: st) w cn sn := w_aload_n d_159_91 rfl
theorem d_159_92 : decode (mB 159) 92 = .ok (.invokevirtual 267, 3) := by decide +kernel
theorem s_159_92 {d : Nat} {Q : wQ} {L : List (Option Value)} {st : List Value} {w : aw} {cn sn : Nat} {b : Nat} : wp d 159 Q 92 L (.ref b :: st) w cn sn = (kd w b = 9 ∧ catS st ≤ 8 ∧ wpD d 146 [.ref b] w (fun v w' => wp d 159 Q 95 L (v.toList ++ st) w' cn sn)) := w_virtual (As := []) d_159_92 (by decide +kernel : cT (mO 159) 267 = some (0, 146)) rfl (by decide +kernel) rfl (by decide +kernel) rfl
theorem d_159_95 : decode (mB 159) 95 = .ok (.aload_n 0, 1) := by decide +kernel
theorem s_159_95 {d : Nat} {Q : wQ} {L : List (Option Value)} {st : List Value} {w : aw} {cn sn : Nat} {v : Nat} : wp d 159 Q 95 (some (.ref v) :: L) st w cn sn = wp d 159 Q 96 (some (.ref v) :: L) (.ref v :: st) w cn sn := w_aload_n d_159_95 rfl
theorem d_159_96 : decode (mB 159) 96 = .ok (.invokevirtual 274, 3) := by decide +kernel
theorem s_159_96 {d : Nat} {Q : wQ} {L : List (Option Value)} {st : List Value} {w : aw} {cn sn : Nat} {b : Nat} : wp d 159 Q 96 L (.ref b :: st) w cn sn = (kd w b = 9 ∧ catS st ≤ 8 ∧ wpD d 156 [.ref b] w (fun v w' => wp d 159 Q 99 L (v.toList ++ st) w' cn sn)) := w_virtual (As := []) d_159_96 (by decide +kernel : cT (mO 159) 274 = some (0, 156)) rfl (by decide +kernel) rfl (by decide +kernel) rfl
theorem d_159_99 : decode (mB 159) 99 = .ok (.ifCond .ne 5, 3) := by decide +kernel
theorem s_159_99 {d : Nat} {Q : wQ} {L : List (Option Value)} {st : List Value} {w : aw} {cn sn : Nat} {x : Int32} : wp d 159 Q 99 L (.int x :: st) w cn sn = ((¬ x = 0 → wp d 159 Q 104 L st w cn sn) ∧ (x = 0 → wp d 159 Q 102 L st w cn sn)) := w_ifne d_159_99 (by decide)
theorem d_159_102 : decode (mB 159) 102 = .ok (.iconst 0, 1) := by decide +kernel
theorem s_159_102 {d : Nat} {Q : wQ} {L : List (Option Value)} {st : List Value} {w : aw} {cn sn : Nat}  : wp d 159 Q 102 L st w cn sn = wp d 159 Q 103 L (.int 0 :: st) w cn sn := w_iconst d_159_102 (by decide)
theorem d_159_103 : decode (mB 159) 103 = .ok (.ireturn, 1) := by decide +kernel
theorem s_159_103 {d : Nat} {Q : wQ} {L : List (Option Value)} {w : aw} {cn sn : Nat} {v : Int32} : wp d 159 Q 103 L [.int v] w cn sn = (narrow .boolean (.int v) = .int v ∧ Q (some (.int v)) w) := w_zreturn d_159_103 rfl
theorem d_159_104 : decode (mB 159) 104 = .ok (.aload_n 0, 1) := by decide +kernel
theorem s_159_104 {d : Nat} {Q : wQ} {L : List (Option Value)} {st : List Value} {w : aw} {cn sn : Nat} {v : Nat} : wp d 159 Q 104 (some (.ref v) :: L) st w cn sn = wp d 159 Q 105 (some (.ref v) :: L) (.ref v :: st) w cn sn := w_aload_n d_159_104 rfl
theorem d_159_105 : decode (mB 159) 105 = .ok (.invokevirtual 267, 3) := by decide +kernel
theorem s_159_105 {d : Nat} {Q : wQ} {L : List (Option Value)} {st : List Value} {w : aw} {cn sn : Nat} {b : Nat} : wp d 159 Q 105 L (.ref b :: st) w cn sn = (kd w b = 9 ∧ catS st ≤ 8 ∧ wpD d 146 [.ref b] w (fun v w' => wp d 159 Q 108 L (v.toList ++ st) w' cn sn)) := w_virtual (As := []) d_159_105 (by decide +kernel : cT (mO 159) 267 = some (0, 146)) rfl (by decide +kernel) rfl (by decide +kernel) rfl
theorem d_159_108 : decode (mB 159) 108 = .ok (.aload_n 0, 1) := by decide +kernel
theorem s_159_108 {d : Nat} {Q : wQ} {L : List (Option Value)} {st : List Value} {w : aw} {cn sn : Nat} {v : Nat} : wp d 159 Q 108 (some (.ref v) :: L) st w cn sn = wp d 159 Q 109 (some (.ref v) :: L) (.ref v :: st) w cn sn := w_aload_n d_159_108 rfl
theorem d_159_109 : decode (mB 159) 109 = .ok (.aload_n 0, 1) := by decide +kernel
theorem s_159_109 {d : Nat} {Q : wQ} {L : List (Option Value)} {st : List Value} {w : aw} {cn sn : Nat} {v : Nat} : wp d 159 Q 109 (some (.ref v) :: L) st w cn sn = wp d 159 Q 110 (some (.ref v) :: L) (.ref v :: st) w cn sn := w_aload_n d_159_109 rfl
theorem d_159_110 : decode (mB 159) 110 = .ok (.getfield 231, 3) := by decide +kernel
theorem s_159_110 {d : Nat} {Q : wQ} {L : List (Option Value)} {st : List Value} {w : aw} {cn sn : Nat} {a : Nat} : wp d 159 Q 110 L (.ref a :: st) w cn sn = (kd w a = 9 ∧ wp d 159 Q 113 L (fd w 555 a :: st) w cn sn) := w_getfield d_159_110 (by decide +kernel : fT (mO 159) 231 = some (8, 43))
theorem d_159_113 : decode (mB 159) 113 = .ok (.invokevirtual 237, 3) := by decide +kernel
theorem s_159_113 {d : Nat} {Q : wQ} {L : List (Option Value)} {st : List Value} {w : aw} {cn sn : Nat} {v0 : Value} {b : Nat} : wp d 159 Q 113 L (v0 :: .ref b :: st) w cn sn = (kd w b = 9 ∧ catS st ≤ 8 ∧ wpD d 145 [.ref b, v0] w (fun v w' => wp d 159 Q 116 L (v.toList ++ st) w' cn sn)) := w_virtual (As := [v0]) d_159_113 (by decide +kernel : cT (mO 159) 237 = some (0, 145)) rfl (by decide +kernel) rfl (by decide +kernel) rfl
theorem d_159_116 : decode (mB 159) 116 = .ok (.bipush 41, 2) := by decide +kernel
theorem s_159_116 {d : Nat} {Q : wQ} {L : List (Option Value)} {st : List Value} {w : aw} {cn sn : Nat}  : wp d 159 Q 116 L st w cn sn = wp d 159 Q 118 L (.int 41 :: st) w cn sn := w_bipush d_159_116 (by decide)
theorem d_159_118 : decode (mB 159) 118 = .ok (.if_icmp .ne 13, 3) := by decide +kernel
theorem s_159_118 {d : Nat} {Q : wQ} {L : List (Option Value)} {st : List Value} {w : aw} {cn sn : Nat} {a b : Int32} : wp d 159 Q 118 L (.int b :: .int a :: st) w cn sn = ((¬ a = b → wp d 159 Q 131 L st w cn sn) ∧ (a = b → wp d 159 Q 121 L st w cn sn)) := w_icne d_159_118 (by decide)
theorem d_159_121 : decode (mB 159) 121 = .ok (.aload_n 0, 1) := by decide +kernel
theorem s_159_121 {d : Nat} {Q : wQ} {L : List (Option Value)} {st : List Value} {w : aw} {cn sn : Nat} {v : Nat} : wp d 159 Q 121 (some (.ref v) :: L) st w cn sn = wp d 159 Q 122 (some (.ref v) :: L) (.ref v :: st) w cn sn := w_aload_n d_159_121 rfl
theorem d_159_122 : decode (mB 159) 122 = .ok (.dup, 1) := by decide +kernel
theorem s_159_122 {d : Nat} {Q : wQ} {L : List (Option Value)} {st : List Value} {w : aw} {cn sn : Nat} {v : Value} : wp d 159 Q 122 L (v :: st) w cn sn = (v.category = 1 ∧ wp d 159 Q 123 L (v :: v :: st) w cn sn) := wp_row d_159_122 _ _ _ _ _
theorem d_159_123 : decode (mB 159) 123 = .ok (.getfield 231, 3) := by decide +kernel
theorem s_159_123 {d : Nat} {Q : wQ} {L : List (Option Value)} {st : List Value} {w : aw} {cn sn : Nat} {a : Nat} : wp d 159 Q 123 L (.ref a :: st) w cn sn = (kd w a = 9 ∧ wp d 159 Q 126 L (fd w 555 a :: st) w cn sn) := w_getfield d_159_123 (by decide +kernel : fT (mO 159) 231 = some (8, 43))
theorem d_159_126 : decode (mB 159) 126 = .ok (.iconst 1, 1) := by decide +kernel
theorem s_159_126 {d : Nat} {Q : wQ} {L : List (Option Value)} {st : List Value} {w : aw} {cn sn : Nat}  : wp d 159 Q 126 L st w cn sn = wp d 159 Q 127 L (.int 1 :: st) w cn sn := w_iconst d_159_126 (by decide)
theorem d_159_127 : decode (mB 159) 127 = .ok (.iadd, 1) := by decide +kernel
theorem s_159_127 {d : Nat} {Q : wQ} {L : List (Option Value)} {st : List Value} {w : aw} {cn sn : Nat} {a b : Int32} : wp d 159 Q 127 L (.int b :: .int a :: st) w cn sn = wp d 159 Q 128 L (.int (a + b) :: st) w cn sn := wp_row d_159_127 _ _ _ _ _
theorem d_159_128 : decode (mB 159) 128 = .ok (.putfield 231, 3) := by decide +kernel
theorem s_159_128 {d : Nat} {Q : wQ} {L : List (Option Value)} {st : List Value} {w : aw} {cn sn : Nat} {x : Int32} {a : Nat} : wp d 159 Q 128 L (.int x :: .ref a :: st) w cn sn = (kd w a = 9 ∧ wp d 159 Q 131 L st (uF w 555 a (.int x)) cn sn) := w_putfield d_159_128 (by decide +kernel : fT (mO 159) 231 = some (8, 43)) (by decide +kernel) ok_int
theorem d_159_131 : decode (mB 159) 131 = .ok (.aload_n 0, 1) := by decide +kernel
theorem s_159_131 {d : Nat} {Q : wQ} {L : List (Option Value)} {st : List Value} {w : aw} {cn sn : Nat} {v : Nat} : wp d 159 Q 131 (some (.ref v) :: L) st w cn sn = wp d 159 Q 132 (some (.ref v) :: L) (.ref v :: st) w cn sn := w_aload_n d_159_131 rfl
theorem d_159_132 : decode (mB 159) 132 = .ok (.invokevirtual 277, 3) := by decide +kernel
theorem s_159_132 {d : Nat} {Q : wQ} {L : List (Option Value)} {st : List Value} {w : aw} {cn sn : Nat} {b : Nat} : wp d 159 Q 132 L (.ref b :: st) w cn sn = (kd w b = 9 ∧ catS st ≤ 8 ∧ wpD d 157 [.ref b] w (fun v w' => wp d 159 Q 135 L (v.toList ++ st) w' cn sn)) := w_virtual (As := []) d_159_132 (by decide +kernel : cT (mO 159) 277 = some (0, 157)) rfl (by decide +kernel) rfl (by decide +kernel) rfl
theorem d_159_135 : decode (mB 159) 135 = .ok (.ireturn, 1) := by decide +kernel
theorem s_159_135 {d : Nat} {Q : wQ} {L : List (Option Value)} {w : aw} {cn sn : Nat} {v : Int32} : wp d 159 Q 135 L [.int v] w cn sn = (narrow .boolean (.int v) = .int v ∧ Q (some (.int v)) w) := w_zreturn d_159_135 rfl
theorem d_160_0 : decode (mB 160) 0 = .ok (.iconst 1, 1) := by decide +kernel
theorem s_160_0 {d : Nat} {Q : wQ} {L : List (Option Value)} {st : List Value} {w : aw} {cn sn : Nat}  : wp d 160 Q 0 L st w cn sn = wp d 160 Q 1 L (.int 1 :: st) w cn sn := w_iconst d_160_0 (by decide)
theorem d_160_1 : decode (mB 160) 1 = .ok (.istore_n 1, 1) := by decide +kernel
theorem s_160_1 {d : Nat} {Q : wQ} {L : List (Option Value)} {st : List Value} {w : aw} {cn sn : Nat} {a0 a1 : Option Value} {v : Int32} : wp d 160 Q 1 (a0 :: a1 :: L) (.int v :: st) w cn sn = wp d 160 Q 2 (clr a0 :: some (.int v) :: L) st w cn sn := w_istore_n d_160_1 (Nat.le_add_left 2 _) rfl
theorem d_160_2 : decode (mB 160) 2 = .ok (.iload_n 1, 1) := by decide +kernel
theorem s_160_2 {d : Nat} {Q : wQ} {L : List (Option Value)} {st : List Value} {w : aw} {cn sn : Nat} {a0 : Option Value} {v : Int32} : wp d 160 Q 2 (a0 :: some (.int v) :: L) st w cn sn = wp d 160 Q 3 (a0 :: some (.int v) :: L) (.int v :: st) w cn sn := w_iload_n d_160_2 rfl
theorem d_160_3 : decode (mB 160) 3 = .ok (.ifCond .eq 60, 3) := by decide +kernel
theorem s_160_3 {d : Nat} {Q : wQ} {L : List (Option Value)} {st : List Value} {w : aw} {cn sn : Nat} {x : Int32} : wp d 160 Q 3 L (.int x :: st) w cn sn = ((x = 0 → wp d 160 Q 63 L st w cn sn) ∧ (¬ x = 0 → wp d 160 Q 6 L st w cn sn)) := w_ifeq d_160_3 (by decide)
theorem d_160_6 : decode (mB 160) 6 = .ok (.aload_n 0, 1) := by decide +kernel
theorem s_160_6 {d : Nat} {Q : wQ} {L : List (Option Value)} {st : List Value} {w : aw} {cn sn : Nat} {v : Nat} : wp d 160 Q 6 (some (.ref v) :: L) st w cn sn = wp d 160 Q 7 (some (.ref v) :: L) (.ref v :: st) w cn sn := w_aload_n d_160_6 rfl
theorem d_160_7 : decode (mB 160) 7 = .ok (.getfield 231, 3) := by decide +kernel
theorem s_160_7 {d : Nat} {Q : wQ} {L : List (Option Value)} {st : List Value} {w : aw} {cn sn : Nat} {a : Nat} : wp d 160 Q 7 L (.ref a :: st) w cn sn = (kd w a = 9 ∧ wp d 160 Q 10 L (fd w 555 a :: st) w cn sn) := w_getfield d_160_7 (by decide +kernel : fT (mO 160) 231 = some (8, 43))
theorem d_160_10 : decode (mB 160) 10 = .ok (.aload_n 0, 1) := by decide +kernel
theorem s_160_10 {d : Nat} {Q : wQ} {L : List (Option Value)} {st : List Value} {w : aw} {cn sn : Nat} {v : Nat} : wp d 160 Q 10 (some (.ref v) :: L) st w cn sn = wp d 160 Q 11 (some (.ref v) :: L) (.ref v :: st) w cn sn := w_aload_n d_160_10 rfl
theorem d_160_11 : decode (mB 160) 11 = .ok (.getfield 228, 3) := by decide +kernel
theorem s_160_11 {d : Nat} {Q : wQ} {L : List (Option Value)} {st : List Value} {w : aw} {cn sn : Nat} {a : Nat} : wp d 160 Q 11 L (.ref a :: st) w cn sn = (kd w a = 9 ∧ wp d 160 Q 14 L (fd w 556 a :: st) w cn sn) := w_getfield d_160_11 (by decide +kernel : fT (mO 160) 228 = some (8, 44))
theorem d_160_14 : decode (mB 160) 14 = .ok (.if_icmp .ge 49, 3) := by decide +kernel
theorem s_160_14 {d : Nat} {Q : wQ} {L : List (Option Value)} {st : List Value} {w : aw} {cn sn : Nat} {a b : Int32} : wp d 160 Q 14 L (.int b :: .int a :: st) w cn sn = ((b ≤ a → wp d 160 Q 63 L st w cn sn) ∧ (¬ b ≤ a → wp d 160 Q 17 L st w cn sn)) := w_icge d_160_14 (by decide)
theorem d_160_17 : decode (mB 160) 17 = .ok (.aload_n 0, 1) := by decide +kernel
theorem s_160_17 {d : Nat} {Q : wQ} {L : List (Option Value)} {st : List Value} {w : aw} {cn sn : Nat} {v : Nat} : wp d 160 Q 17 (some (.ref v) :: L) st w cn sn = wp d 160 Q 18 (some (.ref v) :: L) (.ref v :: st) w cn sn := w_aload_n d_160_17 rfl
theorem d_160_18 : decode (mB 160) 18 = .ok (.invokevirtual 274, 3) := by decide +kernel
theorem s_160_18 {d : Nat} {Q : wQ} {L : List (Option Value)} {st : List Value} {w : aw} {cn sn : Nat} {b : Nat} : wp d 160 Q 18 L (.ref b :: st) w cn sn = (kd w b = 9 ∧ catS st ≤ 8 ∧ wpD d 156 [.ref b] w (fun v w' => wp d 160 Q 21 L (v.toList ++ st) w' cn sn)) := w_virtual (As := []) d_160_18 (by decide +kernel : cT (mO 160) 274 = some (0, 156)) rfl (by decide +kernel) rfl (by decide +kernel) rfl
theorem d_160_21 : decode (mB 160) 21 = .ok (.istore_n 1, 1) := by decide +kernel
theorem s_160_21 {d : Nat} {Q : wQ} {L : List (Option Value)} {st : List Value} {w : aw} {cn sn : Nat} {a0 a1 : Option Value} {v : Int32} : wp d 160 Q 21 (a0 :: a1 :: L) (.int v :: st) w cn sn = wp d 160 Q 22 (clr a0 :: some (.int v) :: L) st w cn sn := w_istore_n d_160_21 (Nat.le_add_left 2 _) rfl
theorem d_160_22 : decode (mB 160) 22 = .ok (.aload_n 0, 1) := by decide +kernel
theorem s_160_22 {d : Nat} {Q : wQ} {L : List (Option Value)} {st : List Value} {w : aw} {cn sn : Nat} {v : Nat} : wp d 160 Q 22 (some (.ref v) :: L) st w cn sn = wp d 160 Q 23 (some (.ref v) :: L) (.ref v :: st) w cn sn := w_aload_n d_160_22 rfl
theorem d_160_23 : decode (mB 160) 23 = .ok (.getfield 231, 3) := by decide +kernel
theorem s_160_23 {d : Nat} {Q : wQ} {L : List (Option Value)} {st : List Value} {w : aw} {cn sn : Nat} {a : Nat} : wp d 160 Q 23 L (.ref a :: st) w cn sn = (kd w a = 9 ∧ wp d 160 Q 26 L (fd w 555 a :: st) w cn sn) := w_getfield d_160_23 (by decide +kernel : fT (mO 160) 231 = some (8, 43))
theorem d_160_26 : decode (mB 160) 26 = .ok (.istore_n 2, 1) := by decide +kernel
theorem s_160_26 {d : Nat} {Q : wQ} {L : List (Option Value)} {st : List Value} {w : aw} {cn sn : Nat} {a0 a1 a2 : Option Value} {v : Int32} : wp d 160 Q 26 (a0 :: a1 :: a2 :: L) (.int v :: st) w cn sn = wp d 160 Q 27 (a0 :: clr a1 :: some (.int v) :: L) st w cn sn := w_istore_n d_160_26 (Nat.le_add_left 3 _) rfl
theorem d_160_27 : decode (mB 160) 27 = .ok (.aload_n 0, 1) := by decide +kernel
theorem s_160_27 {d : Nat} {Q : wQ} {L : List (Option Value)} {st : List Value} {w : aw} {cn sn : Nat} {v : Nat} : wp d 160 Q 27 (some (.ref v) :: L) st w cn sn = wp d 160 Q 28 (some (.ref v) :: L) (.ref v :: st) w cn sn := w_aload_n d_160_27 rfl
theorem d_160_28 : decode (mB 160) 28 = .ok (.invokevirtual 267, 3) := by decide +kernel
theorem s_160_28 {d : Nat} {Q : wQ} {L : List (Option Value)} {st : List Value} {w : aw} {cn sn : Nat} {b : Nat} : wp d 160 Q 28 L (.ref b :: st) w cn sn = (kd w b = 9 ∧ catS st ≤ 8 ∧ wpD d 146 [.ref b] w (fun v w' => wp d 160 Q 31 L (v.toList ++ st) w' cn sn)) := w_virtual (As := []) d_160_28 (by decide +kernel : cT (mO 160) 267 = some (0, 146)) rfl (by decide +kernel) rfl (by decide +kernel) rfl
theorem d_160_31 : decode (mB 160) 31 = .ok (.iload_n 1, 1) := by decide +kernel
theorem s_160_31 {d : Nat} {Q : wQ} {L : List (Option Value)} {st : List Value} {w : aw} {cn sn : Nat} {a0 : Option Value} {v : Int32} : wp d 160 Q 31 (a0 :: some (.int v) :: L) st w cn sn = wp d 160 Q 32 (a0 :: some (.int v) :: L) (.int v :: st) w cn sn := w_iload_n d_160_31 rfl
theorem d_160_32 : decode (mB 160) 32 = .ok (.ifCond .eq 26, 3) := by decide +kernel
theorem s_160_32 {d : Nat} {Q : wQ} {L : List (Option Value)} {st : List Value} {w : aw} {cn sn : Nat} {x : Int32} : wp d 160 Q 32 L (.int x :: st) w cn sn = ((x = 0 → wp d 160 Q 58 L st w cn sn) ∧ (¬ x = 0 → wp d 160 Q 35 L st w cn sn)) := w_ifeq d_160_32 (by decide)
theorem d_160_35 : decode (mB 160) 35 = .ok (.aload_n 0, 1) := by decide +kernel
theorem s_160_35 {d : Nat} {Q : wQ} {L : List (Option Value)} {st : List Value} {w : aw} {cn sn : Nat} {v : Nat} : wp d 160 Q 35 (some (.ref v) :: L) st w cn sn = wp d 160 Q 36 (some (.ref v) :: L) (.ref v :: st) w cn sn := w_aload_n d_160_35 rfl
theorem d_160_36 : decode (mB 160) 36 = .ok (.getfield 231, 3) := by decide +kernel
theorem s_160_36 {d : Nat} {Q : wQ} {L : List (Option Value)} {st : List Value} {w : aw} {cn sn : Nat} {a : Nat} : wp d 160 Q 36 L (.ref a :: st) w cn sn = (kd w a = 9 ∧ wp d 160 Q 39 L (fd w 555 a :: st) w cn sn) := w_getfield d_160_36 (by decide +kernel : fT (mO 160) 231 = some (8, 43))
theorem d_160_39 : decode (mB 160) 39 = .ok (.iload_n 2, 1) := by decide +kernel
theorem s_160_39 {d : Nat} {Q : wQ} {L : List (Option Value)} {st : List Value} {w : aw} {cn sn : Nat} {a0 a1 : Option Value} {v : Int32} : wp d 160 Q 39 (a0 :: a1 :: some (.int v) :: L) st w cn sn = wp d 160 Q 40 (a0 :: a1 :: some (.int v) :: L) (.int v :: st) w cn sn := w_iload_n d_160_39 rfl
theorem d_160_40 : decode (mB 160) 40 = .ok (.if_icmp .gt 14, 3) := by decide +kernel
theorem s_160_40 {d : Nat} {Q : wQ} {L : List (Option Value)} {st : List Value} {w : aw} {cn sn : Nat} {a b : Int32} : wp d 160 Q 40 L (.int b :: .int a :: st) w cn sn = ((b < a → wp d 160 Q 54 L st w cn sn) ∧ (¬ b < a → wp d 160 Q 43 L st w cn sn)) := w_icgt d_160_40 (by decide)
theorem d_160_43 : decode (mB 160) 43 = .ok (.aload_n 0, 1) := by decide +kernel
theorem s_160_43 {d : Nat} {Q : wQ} {L : List (Option Value)} {st : List Value} {w : aw} {cn sn : Nat} {v : Nat} : wp d 160 Q 43 (some (.ref v) :: L) st w cn sn = wp d 160 Q 44 (some (.ref v) :: L) (.ref v :: st) w cn sn := w_aload_n d_160_43 rfl
theorem d_160_44 : decode (mB 160) 44 = .ok (.getfield 231, 3) := by decide +kernel
theorem s_160_44 {d : Nat} {Q : wQ} {L : List (Option Value)} {st : List Value} {w : aw} {cn sn : Nat} {a : Nat} : wp d 160 Q 44 L (.ref a :: st) w cn sn = (kd w a = 9 ∧ wp d 160 Q 47 L (fd w 555 a :: st) w cn sn) := w_getfield d_160_44 (by decide +kernel : fT (mO 160) 231 = some (8, 43))
theorem d_160_47 : decode (mB 160) 47 = .ok (.aload_n 0, 1) := by decide +kernel
theorem s_160_47 {d : Nat} {Q : wQ} {L : List (Option Value)} {st : List Value} {w : aw} {cn sn : Nat} {v : Nat} : wp d 160 Q 47 (some (.ref v) :: L) st w cn sn = wp d 160 Q 48 (some (.ref v) :: L) (.ref v :: st) w cn sn := w_aload_n d_160_47 rfl
theorem d_160_48 : decode (mB 160) 48 = .ok (.getfield 228, 3) := by decide +kernel
theorem s_160_48 {d : Nat} {Q : wQ} {L : List (Option Value)} {st : List Value} {w : aw} {cn sn : Nat} {a : Nat} : wp d 160 Q 48 L (.ref a :: st) w cn sn = (kd w a = 9 ∧ wp d 160 Q 51 L (fd w 556 a :: st) w cn sn) := w_getfield d_160_48 (by decide +kernel : fT (mO 160) 228 = some (8, 44))
theorem d_160_51 : decode (mB 160) 51 = .ok (.if_icmp .lt 7, 3) := by decide +kernel
theorem s_160_51 {d : Nat} {Q : wQ} {L : List (Option Value)} {st : List Value} {w : aw} {cn sn : Nat} {a b : Int32} : wp d 160 Q 51 L (.int b :: .int a :: st) w cn sn = ((a < b → wp d 160 Q 58 L st w cn sn) ∧ (¬ a < b → wp d 160 Q 54 L st w cn sn)) := w_iclt d_160_51 (by decide)
theorem d_160_54 : decode (mB 160) 54 = .ok (.iconst 1, 1) := by decide +kernel
theorem s_160_54 {d : Nat} {Q : wQ} {L : List (Option Value)} {st : List Value} {w : aw} {cn sn : Nat}  : wp d 160 Q 54 L st w cn sn = wp d 160 Q 55 L (.int 1 :: st) w cn sn := w_iconst d_160_54 (by decide)
theorem d_160_55 : decode (mB 160) 55 = .ok (.goto 4, 3) := by decide +kernel
theorem s_160_55 {d : Nat} {Q : wQ} {L : List (Option Value)} {st : List Value} {w : aw} {cn sn : Nat}  : wp d 160 Q 55 L st w cn sn = wp d 160 Q 59 L st w cn sn := w_goto d_160_55 (by decide)
theorem d_160_58 : decode (mB 160) 58 = .ok (.iconst 0, 1) := by decide +kernel
theorem s_160_58 {d : Nat} {Q : wQ} {L : List (Option Value)} {st : List Value} {w : aw} {cn sn : Nat}  : wp d 160 Q 58 L st w cn sn = wp d 160 Q 59 L (.int 0 :: st) w cn sn := w_iconst d_160_58 (by decide)
theorem d_160_59 : decode (mB 160) 59 = .ok (.istore_n 1, 1) := by decide +kernel
theorem s_160_59 {d : Nat} {Q : wQ} {L : List (Option Value)} {st : List Value} {w : aw} {cn sn : Nat} {a0 a1 : Option Value} {v : Int32} : wp d 160 Q 59 (a0 :: a1 :: L) (.int v :: st) w cn sn = wp d 160 Q 60 (clr a0 :: some (.int v) :: L) st w cn sn := w_istore_n d_160_59 (Nat.le_add_left 2 _) rfl
theorem d_160_60 : decode (mB 160) 60 = .ok (.goto (-58), 3) := by decide +kernel
theorem s_160_60 {d : Nat} {Q : wQ} {L : List (Option Value)} {st : List Value} {w : aw} {cn sn : Nat}  : wp d 160 Q 60 L st w cn sn = wp d 160 Q 2 L st w cn sn := w_goto d_160_60 (by decide)
theorem d_160_63 : decode (mB 160) 63 = .ok (.iload_n 1, 1) := by decide +kernel
theorem s_160_63 {d : Nat} {Q : wQ} {L : List (Option Value)} {st : List Value} {w : aw} {cn sn : Nat} {a0 : Option Value} {v : Int32} : wp d 160 Q 63 (a0 :: some (.int v) :: L) st w cn sn = wp d 160 Q 64 (a0 :: some (.int v) :: L) (.int v :: st) w cn sn := w_iload_n d_160_63 rfl
theorem d_160_64 : decode (mB 160) 64 = .ok (.ireturn, 1) := by decide +kernel
theorem s_160_64 {d : Nat} {Q : wQ} {L : List (Option Value)} {w : aw} {cn sn : Nat} {v : Int32} : wp d 160 Q 64 L [.int v] w cn sn = (narrow .boolean (.int v) = .int v ∧ Q (some (.int v)) w) := w_zreturn d_160_64 rfl
theorem d_161_0 : decode (mB 161) 0 = .ok (.aload_n 0, 1) := by decide +kernel
theorem s_161_0 {d : Nat} {Q : wQ} {L : List (Option Value)} {st : List Value} {w : aw} {cn sn : Nat} {v : Nat} : wp d 161 Q 0 (some (.ref v) :: L) st w cn sn = wp d 161 Q 1 (some (.ref v) :: L) (.ref v :: st) w cn sn := w_aload_n d_161_0 rfl
theorem d_161_1 : decode (mB 161) 1 = .ok (.lload_n 1, 1) := by decide +kernel
theorem s_161_1 {d : Nat} {Q : wQ} {L : List (Option Value)} {st : List Value} {w : aw} {cn sn : Nat} {a0 : Option Value} {v : Int64} : wp d 161 Q 1 (a0 :: some (.long v) :: L) st w cn sn = wp d 161 Q 2 (a0 :: some (.long v) :: L) (.long v :: st) w cn sn := w_lload_n d_161_1 rfl
theorem d_161_2 : decode (mB 161) 2 = .ok (.invokevirtual 250, 3) := by decide +kernel
theorem s_161_2 {d : Nat} {Q : wQ} {L : List (Option Value)} {st : List Value} {w : aw} {cn sn : Nat} {v0 : Value} {b : Nat} : wp d 161 Q 2 L (v0 :: .ref b :: st) w cn sn = (kd w b = 9 ∧ catS st ≤ 8 ∧ wpD d 150 [.ref b, v0] w (fun v w' => wp d 161 Q 5 L (v.toList ++ st) w' cn sn)) := w_virtual (As := [v0]) d_161_2 (by decide +kernel : cT (mO 161) 250 = some (0, 150)) rfl (by decide +kernel) rfl (by decide +kernel) rfl
theorem d_161_5 : decode (mB 161) 5 = .ok (.ifCond .lt 5, 3) := by decide +kernel
theorem s_161_5 {d : Nat} {Q : wQ} {L : List (Option Value)} {st : List Value} {w : aw} {cn sn : Nat} {x : Int32} : wp d 161 Q 5 L (.int x :: st) w cn sn = ((x < 0 → wp d 161 Q 10 L st w cn sn) ∧ (¬ x < 0 → wp d 161 Q 8 L st w cn sn)) := w_iflt d_161_5 (by decide)
theorem d_161_8 : decode (mB 161) 8 = .ok (.iconst 3, 1) := by decide +kernel
theorem s_161_8 {d : Nat} {Q : wQ} {L : List (Option Value)} {st : List Value} {w : aw} {cn sn : Nat}  : wp d 161 Q 8 L st w cn sn = wp d 161 Q 9 L (.int 3 :: st) w cn sn := w_iconst d_161_8 (by decide)
theorem d_161_9 : decode (mB 161) 9 = .ok (.ireturn, 1) := by decide +kernel
theorem s_161_9 {d : Nat} {Q : wQ} {L : List (Option Value)} {w : aw} {cn sn : Nat} {v : Int32} : wp d 161 Q 9 L [.int v] w cn sn = Q (some (.int v)) w := w_ireturn d_161_9 rfl
theorem d_161_10 : decode (mB 161) 10 = .ok (.aload_n 0, 1) := by decide +kernel
theorem s_161_10 {d : Nat} {Q : wQ} {L : List (Option Value)} {st : List Value} {w : aw} {cn sn : Nat} {v : Nat} : wp d 161 Q 10 (some (.ref v) :: L) st w cn sn = wp d 161 Q 11 (some (.ref v) :: L) (.ref v :: st) w cn sn := w_aload_n d_161_10 rfl
theorem d_161_11 : decode (mB 161) 11 = .ok (.getfield 96, 3) := by decide +kernel
theorem s_161_11 {d : Nat} {Q : wQ} {L : List (Option Value)} {st : List Value} {w : aw} {cn sn : Nat} {a : Nat} : wp d 161 Q 11 L (.ref a :: st) w cn sn = (kd w a = 9 ∧ wp d 161 Q 14 L (fd w 548 a :: st) w cn sn) := w_getfield d_161_11 (by decide +kernel : fT (mO 161) 96 = some (8, 36))
theorem d_161_14 : decode (mB 161) 14 = .ok (.aload_n 0, 1) := by decide +kernel
theorem s_161_14 {d : Nat} {Q : wQ} {L : List (Option Value)} {st : List Value} {w : aw} {cn sn : Nat} {v : Nat} : wp d 161 Q 14 (some (.ref v) :: L) st w cn sn = wp d 161 Q 15 (some (.ref v) :: L) (.ref v :: st) w cn sn := w_aload_n d_161_14 rfl
theorem d_161_15 : decode (mB 161) 15 = .ok (.getfield 103, 3) := by decide +kernel
theorem s_161_15 {d : Nat} {Q : wQ} {L : List (Option Value)} {st : List Value} {w : aw} {cn sn : Nat} {a : Nat} : wp d 161 Q 15 L (.ref a :: st) w cn sn = (kd w a = 9 ∧ wp d 161 Q 18 L (fd w 549 a :: st) w cn sn) := w_getfield d_161_15 (by decide +kernel : fT (mO 161) 103 = some (8, 37))
theorem d_161_18 : decode (mB 161) 18 = .ok (.isub, 1) := by decide +kernel
theorem s_161_18 {d : Nat} {Q : wQ} {L : List (Option Value)} {st : List Value} {w : aw} {cn sn : Nat} {a b : Int32} : wp d 161 Q 18 L (.int b :: .int a :: st) w cn sn = wp d 161 Q 19 L (.int (a - b) :: st) w cn sn := wp_row d_161_18 _ _ _ _ _
theorem d_161_19 : decode (mB 161) 19 = .ok (.sipush 200, 3) := by decide +kernel
theorem s_161_19 {d : Nat} {Q : wQ} {L : List (Option Value)} {st : List Value} {w : aw} {cn sn : Nat}  : wp d 161 Q 19 L st w cn sn = wp d 161 Q 22 L (.int 200 :: st) w cn sn := w_sipush d_161_19 (by decide)
theorem d_161_22 : decode (mB 161) 22 = .ok (.if_icmp .ne 6, 3) := by decide +kernel
theorem s_161_22 {d : Nat} {Q : wQ} {L : List (Option Value)} {st : List Value} {w : aw} {cn sn : Nat} {a b : Int32} : wp d 161 Q 22 L (.int b :: .int a :: st) w cn sn = ((¬ a = b → wp d 161 Q 28 L st w cn sn) ∧ (a = b → wp d 161 Q 25 L st w cn sn)) := w_icne d_161_22 (by decide)
theorem d_161_25 : decode (mB 161) 25 = .ok (.bipush 6, 2) := by decide +kernel
theorem s_161_25 {d : Nat} {Q : wQ} {L : List (Option Value)} {st : List Value} {w : aw} {cn sn : Nat}  : wp d 161 Q 25 L st w cn sn = wp d 161 Q 27 L (.int 6 :: st) w cn sn := w_bipush d_161_25 (by decide)
theorem d_161_27 : decode (mB 161) 27 = .ok (.ireturn, 1) := by decide +kernel
theorem s_161_27 {d : Nat} {Q : wQ} {L : List (Option Value)} {w : aw} {cn sn : Nat} {v : Int32} : wp d 161 Q 27 L [.int v] w cn sn = Q (some (.int v)) w := w_ireturn d_161_27 rfl
theorem d_161_28 : decode (mB 161) 28 = .ok (.aload_n 0, 1) := by decide +kernel
theorem s_161_28 {d : Nat} {Q : wQ} {L : List (Option Value)} {st : List Value} {w : aw} {cn sn : Nat} {v : Nat} : wp d 161 Q 28 (some (.ref v) :: L) st w cn sn = wp d 161 Q 29 (some (.ref v) :: L) (.ref v :: st) w cn sn := w_aload_n d_161_28 rfl
theorem d_161_29 : decode (mB 161) 29 = .ok (.getfield 75, 3) := by decide +kernel
theorem s_161_29 {d : Nat} {Q : wQ} {L : List (Option Value)} {st : List Value} {w : aw} {cn sn : Nat} {a : Nat} : wp d 161 Q 29 L (.ref a :: st) w cn sn = (kd w a = 9 ∧ wp d 161 Q 32 L (fd w 546 a :: st) w cn sn) := w_getfield d_161_29 (by decide +kernel : fT (mO 161) 75 = some (8, 34))
theorem d_161_32 : decode (mB 161) 32 = .ok (.aload_n 0, 1) := by decide +kernel
theorem s_161_32 {d : Nat} {Q : wQ} {L : List (Option Value)} {st : List Value} {w : aw} {cn sn : Nat} {v : Nat} : wp d 161 Q 32 (some (.ref v) :: L) st w cn sn = wp d 161 Q 33 (some (.ref v) :: L) (.ref v :: st) w cn sn := w_aload_n d_161_32 rfl
theorem d_161_33 : decode (mB 161) 33 = .ok (.getfield 96, 3) := by decide +kernel
theorem s_161_33 {d : Nat} {Q : wQ} {L : List (Option Value)} {st : List Value} {w : aw} {cn sn : Nat} {a : Nat} : wp d 161 Q 33 L (.ref a :: st) w cn sn = (kd w a = 9 ∧ wp d 161 Q 36 L (fd w 548 a :: st) w cn sn) := w_getfield d_161_33 (by decide +kernel : fT (mO 161) 96 = some (8, 36))
theorem d_161_36 : decode (mB 161) 36 = .ok (.lload_n 1, 1) := by decide +kernel
theorem s_161_36 {d : Nat} {Q : wQ} {L : List (Option Value)} {st : List Value} {w : aw} {cn sn : Nat} {a0 : Option Value} {v : Int64} : wp d 161 Q 36 (a0 :: some (.long v) :: L) st w cn sn = wp d 161 Q 37 (a0 :: some (.long v) :: L) (.long v :: st) w cn sn := w_lload_n d_161_36 rfl
theorem d_161_37 : decode (mB 161) 37 = .ok (.lastore, 1) := by decide +kernel
theorem s_161_37 {d : Nat} {Q : wQ} {L : List (Option Value)} {st : List Value} {w : aw} {cn sn : Nat} {a : Nat} {i : Int32} {x : Int64} : wp d 161 Q 37 L (.long x :: .int i :: .ref a :: st) w cn sn = (kd w a = 22 ∧ inR i (ln w a) ∧ wp d 161 Q 38 L st (uL w a i.toNatClampNeg x) cn sn) := wp_row d_161_37 _ _ _ _ _
theorem d_161_38 : decode (mB 161) 38 = .ok (.aload_n 0, 1) := by decide +kernel
theorem s_161_38 {d : Nat} {Q : wQ} {L : List (Option Value)} {st : List Value} {w : aw} {cn sn : Nat} {v : Nat} : wp d 161 Q 38 (some (.ref v) :: L) st w cn sn = wp d 161 Q 39 (some (.ref v) :: L) (.ref v :: st) w cn sn := w_aload_n d_161_38 rfl
theorem d_161_39 : decode (mB 161) 39 = .ok (.getfield 79, 3) := by decide +kernel
theorem s_161_39 {d : Nat} {Q : wQ} {L : List (Option Value)} {st : List Value} {w : aw} {cn sn : Nat} {a : Nat} : wp d 161 Q 39 L (.ref a :: st) w cn sn = (kd w a = 9 ∧ wp d 161 Q 42 L (fd w 547 a :: st) w cn sn) := w_getfield d_161_39 (by decide +kernel : fT (mO 161) 79 = some (8, 35))
theorem d_161_42 : decode (mB 161) 42 = .ok (.aload_n 0, 1) := by decide +kernel
theorem s_161_42 {d : Nat} {Q : wQ} {L : List (Option Value)} {st : List Value} {w : aw} {cn sn : Nat} {v : Nat} : wp d 161 Q 42 (some (.ref v) :: L) st w cn sn = wp d 161 Q 43 (some (.ref v) :: L) (.ref v :: st) w cn sn := w_aload_n d_161_42 rfl
theorem d_161_43 : decode (mB 161) 43 = .ok (.getfield 96, 3) := by decide +kernel
theorem s_161_43 {d : Nat} {Q : wQ} {L : List (Option Value)} {st : List Value} {w : aw} {cn sn : Nat} {a : Nat} : wp d 161 Q 43 L (.ref a :: st) w cn sn = (kd w a = 9 ∧ wp d 161 Q 46 L (fd w 548 a :: st) w cn sn) := w_getfield d_161_43 (by decide +kernel : fT (mO 161) 96 = some (8, 36))
theorem d_161_46 : decode (mB 161) 46 = .ok (.iload_n 3, 1) := by decide +kernel
theorem s_161_46 {d : Nat} {Q : wQ} {L : List (Option Value)} {st : List Value} {w : aw} {cn sn : Nat} {a0 a1 a2 : Option Value} {v : Int32} : wp d 161 Q 46 (a0 :: a1 :: a2 :: some (.int v) :: L) st w cn sn = wp d 161 Q 47 (a0 :: a1 :: a2 :: some (.int v) :: L) (.int v :: st) w cn sn := w_iload_n d_161_46 rfl
theorem d_161_47 : decode (mB 161) 47 = .ok (.iastore, 1) := by decide +kernel
theorem s_161_47 {d : Nat} {Q : wQ} {L : List (Option Value)} {st : List Value} {w : aw} {cn sn : Nat} {a : Nat} {i x : Int32} : wp d 161 Q 47 L (.int x :: .int i :: .ref a :: st) w cn sn = (kd w a = 20 ∧ inR i (ln w a) ∧ wp d 161 Q 48 L st (uA w a i.toNatClampNeg x) cn sn) := wp_row d_161_47 _ _ _ _ _
theorem d_161_48 : decode (mB 161) 48 = .ok (.aload_n 0, 1) := by decide +kernel
theorem s_161_48 {d : Nat} {Q : wQ} {L : List (Option Value)} {st : List Value} {w : aw} {cn sn : Nat} {v : Nat} : wp d 161 Q 48 (some (.ref v) :: L) st w cn sn = wp d 161 Q 49 (some (.ref v) :: L) (.ref v :: st) w cn sn := w_aload_n d_161_48 rfl
theorem d_161_49 : decode (mB 161) 49 = .ok (.dup, 1) := by decide +kernel
theorem s_161_49 {d : Nat} {Q : wQ} {L : List (Option Value)} {st : List Value} {w : aw} {cn sn : Nat} {v : Value} : wp d 161 Q 49 L (v :: st) w cn sn = (v.category = 1 ∧ wp d 161 Q 50 L (v :: v :: st) w cn sn) := wp_row d_161_49 _ _ _ _ _
theorem d_161_50 : decode (mB 161) 50 = .ok (.getfield 96, 3) := by decide +kernel
theorem s_161_50 {d : Nat} {Q : wQ} {L : List (Option Value)} {st : List Value} {w : aw} {cn sn : Nat} {a : Nat} : wp d 161 Q 50 L (.ref a :: st) w cn sn = (kd w a = 9 ∧ wp d 161 Q 53 L (fd w 548 a :: st) w cn sn) := w_getfield d_161_50 (by decide +kernel : fT (mO 161) 96 = some (8, 36))
theorem d_161_53 : decode (mB 161) 53 = .ok (.iconst 1, 1) := by decide +kernel
theorem s_161_53 {d : Nat} {Q : wQ} {L : List (Option Value)} {st : List Value} {w : aw} {cn sn : Nat}  : wp d 161 Q 53 L st w cn sn = wp d 161 Q 54 L (.int 1 :: st) w cn sn := w_iconst d_161_53 (by decide)
theorem d_161_54 : decode (mB 161) 54 = .ok (.iadd, 1) := by decide +kernel
theorem s_161_54 {d : Nat} {Q : wQ} {L : List (Option Value)} {st : List Value} {w : aw} {cn sn : Nat} {a b : Int32} : wp d 161 Q 54 L (.int b :: .int a :: st) w cn sn = wp d 161 Q 55 L (.int (a + b) :: st) w cn sn := wp_row d_161_54 _ _ _ _ _
theorem d_161_55 : decode (mB 161) 55 = .ok (.putfield 96, 3) := by decide +kernel
theorem s_161_55 {d : Nat} {Q : wQ} {L : List (Option Value)} {st : List Value} {w : aw} {cn sn : Nat} {x : Int32} {a : Nat} : wp d 161 Q 55 L (.int x :: .ref a :: st) w cn sn = (kd w a = 9 ∧ wp d 161 Q 58 L st (uF w 548 a (.int x)) cn sn) := w_putfield d_161_55 (by decide +kernel : fT (mO 161) 96 = some (8, 36)) (by decide +kernel) ok_int
theorem d_161_58 : decode (mB 161) 58 = .ok (.iconst 0, 1) := by decide +kernel
theorem s_161_58 {d : Nat} {Q : wQ} {L : List (Option Value)} {st : List Value} {w : aw} {cn sn : Nat}  : wp d 161 Q 58 L st w cn sn = wp d 161 Q 59 L (.int 0 :: st) w cn sn := w_iconst d_161_58 (by decide)
theorem d_161_59 : decode (mB 161) 59 = .ok (.ireturn, 1) := by decide +kernel
theorem s_161_59 {d : Nat} {Q : wQ} {L : List (Option Value)} {w : aw} {cn sn : Nat} {v : Int32} : wp d 161 Q 59 L [.int v] w cn sn = Q (some (.int v)) w := w_ireturn d_161_59 rfl
theorem d_162_0 : decode (mB 162) 0 = .ok (.aload_n 0, 1) := by decide +kernel
theorem s_162_0 {d : Nat} {Q : wQ} {L : List (Option Value)} {st : List Value} {w : aw} {cn sn : Nat} {v : Nat} : wp d 162 Q 0 (some (.ref v) :: L) st w cn sn = wp d 162 Q 1 (some (.ref v) :: L) (.ref v :: st) w cn sn := w_aload_n d_162_0 rfl
theorem d_162_1 : decode (mB 162) 1 = .ok (.invokevirtual 267, 3) := by decide +kernel
theorem s_162_1 {d : Nat} {Q : wQ} {L : List (Option Value)} {st : List Value} {w : aw} {cn sn : Nat} {b : Nat} : wp d 162 Q 1 L (.ref b :: st) w cn sn = (kd w b = 9 ∧ catS st ≤ 8 ∧ wpD d 146 [.ref b] w (fun v w' => wp d 162 Q 4 L (v.toList ++ st) w' cn sn)) := w_virtual (As := []) d_162_1 (by decide +kernel : cT (mO 162) 267 = some (0, 146)) rfl (by decide +kernel) rfl (by decide +kernel) rfl
theorem d_162_4 : decode (mB 162) 4 = .ok (.iconst 0, 1) := by decide +kernel
theorem s_162_4 {d : Nat} {Q : wQ} {L : List (Option Value)} {st : List Value} {w : aw} {cn sn : Nat}  : wp d 162 Q 4 L st w cn sn = wp d 162 Q 5 L (.int 0 :: st) w cn sn := w_iconst d_162_4 (by decide)
theorem d_162_5 : decode (mB 162) 5 = .ok (.istore_n 1, 1) := by decide +kernel
theorem s_162_5 {d : Nat} {Q : wQ} {L : List (Option Value)} {st : List Value} {w : aw} {cn sn : Nat} {a0 a1 : Option Value} {v : Int32} : wp d 162 Q 5 (a0 :: a1 :: L) (.int v :: st) w cn sn = wp d 162 Q 6 (clr a0 :: some (.int v) :: L) st w cn sn := w_istore_n d_162_5 (Nat.le_add_left 2 _) rfl
theorem d_162_6 : decode (mB 162) 6 = .ok (.iload_n 1, 1) := by decide +kernel
theorem s_162_6 {d : Nat} {Q : wQ} {L : List (Option Value)} {st : List Value} {w : aw} {cn sn : Nat} {a0 : Option Value} {v : Int32} : wp d 162 Q 6 (a0 :: some (.int v) :: L) st w cn sn = wp d 162 Q 7 (a0 :: some (.int v) :: L) (.int v :: st) w cn sn := w_iload_n d_162_6 rfl
theorem d_162_7 : decode (mB 162) 7 = .ok (.ifCond .ne 48, 3) := by decide +kernel
theorem s_162_7 {d : Nat} {Q : wQ} {L : List (Option Value)} {st : List Value} {w : aw} {cn sn : Nat} {x : Int32} : wp d 162 Q 7 L (.int x :: st) w cn sn = ((¬ x = 0 → wp d 162 Q 55 L st w cn sn) ∧ (x = 0 → wp d 162 Q 10 L st w cn sn)) := w_ifne d_162_7 (by decide)
theorem d_162_10 : decode (mB 162) 10 = .ok (.aload_n 0, 1) := by decide +kernel
theorem s_162_10 {d : Nat} {Q : wQ} {L : List (Option Value)} {st : List Value} {w : aw} {cn sn : Nat} {v : Nat} : wp d 162 Q 10 (some (.ref v) :: L) st w cn sn = wp d 162 Q 11 (some (.ref v) :: L) (.ref v :: st) w cn sn := w_aload_n d_162_10 rfl
theorem d_162_11 : decode (mB 162) 11 = .ok (.invokevirtual 270, 3) := by decide +kernel
theorem s_162_11 {d : Nat} {Q : wQ} {L : List (Option Value)} {st : List Value} {w : aw} {cn sn : Nat} {b : Nat} : wp d 162 Q 11 L (.ref b :: st) w cn sn = (kd w b = 9 ∧ catS st ≤ 8 ∧ wpD d 152 [.ref b] w (fun v w' => wp d 162 Q 14 L (v.toList ++ st) w' cn sn)) := w_virtual (As := []) d_162_11 (by decide +kernel : cT (mO 162) 270 = some (0, 152)) rfl (by decide +kernel) rfl (by decide +kernel) rfl
theorem d_162_14 : decode (mB 162) 14 = .ok (.ifCond .eq 41, 3) := by decide +kernel
theorem s_162_14 {d : Nat} {Q : wQ} {L : List (Option Value)} {st : List Value} {w : aw} {cn sn : Nat} {x : Int32} : wp d 162 Q 14 L (.int x :: st) w cn sn = ((x = 0 → wp d 162 Q 55 L st w cn sn) ∧ (¬ x = 0 → wp d 162 Q 17 L st w cn sn)) := w_ifeq d_162_14 (by decide)
theorem d_162_17 : decode (mB 162) 17 = .ok (.aload_n 0, 1) := by decide +kernel
theorem s_162_17 {d : Nat} {Q : wQ} {L : List (Option Value)} {st : List Value} {w : aw} {cn sn : Nat} {v : Nat} : wp d 162 Q 17 (some (.ref v) :: L) st w cn sn = wp d 162 Q 18 (some (.ref v) :: L) (.ref v :: st) w cn sn := w_aload_n d_162_17 rfl
theorem d_162_18 : decode (mB 162) 18 = .ok (.aload_n 0, 1) := by decide +kernel
theorem s_162_18 {d : Nat} {Q : wQ} {L : List (Option Value)} {st : List Value} {w : aw} {cn sn : Nat} {v : Nat} : wp d 162 Q 18 (some (.ref v) :: L) st w cn sn = wp d 162 Q 19 (some (.ref v) :: L) (.ref v :: st) w cn sn := w_aload_n d_162_18 rfl
theorem d_162_19 : decode (mB 162) 19 = .ok (.aload_n 0, 1) := by decide +kernel
theorem s_162_19 {d : Nat} {Q : wQ} {L : List (Option Value)} {st : List Value} {w : aw} {cn sn : Nat} {v : Nat} : wp d 162 Q 19 (some (.ref v) :: L) st w cn sn = wp d 162 Q 20 (some (.ref v) :: L) (.ref v :: st) w cn sn := w_aload_n d_162_19 rfl
theorem d_162_20 : decode (mB 162) 20 = .ok (.getfield 231, 3) := by decide +kernel
theorem s_162_20 {d : Nat} {Q : wQ} {L : List (Option Value)} {st : List Value} {w : aw} {cn sn : Nat} {a : Nat} : wp d 162 Q 20 L (.ref a :: st) w cn sn = (kd w a = 9 ∧ wp d 162 Q 23 L (fd w 555 a :: st) w cn sn) := w_getfield d_162_20 (by decide +kernel : fT (mO 162) 231 = some (8, 43))
theorem d_162_23 : decode (mB 162) 23 = .ok (.invokevirtual 246, 3) := by decide +kernel
theorem s_162_23 {d : Nat} {Q : wQ} {L : List (Option Value)} {st : List Value} {w : aw} {cn sn : Nat} {v0 : Value} {b : Nat} : wp d 162 Q 23 L (v0 :: .ref b :: st) w cn sn = (kd w b = 9 ∧ catS st ≤ 8 ∧ wpD d 149 [.ref b, v0] w (fun v w' => wp d 162 Q 26 L (v.toList ++ st) w' cn sn)) := w_virtual (As := [v0]) d_162_23 (by decide +kernel : cT (mO 162) 246 = some (0, 149)) rfl (by decide +kernel) rfl (by decide +kernel) rfl
theorem d_162_26 : decode (mB 162) 26 = .ok (.aload_n 0, 1) := by decide +kernel
theorem s_162_26 {d : Nat} {Q : wQ} {L : List (Option Value)} {st : List Value} {w : aw} {cn sn : Nat} {v : Nat} : wp d 162 Q 26 (some (.ref v) :: L) st w cn sn = wp d 162 Q 27 (some (.ref v) :: L) (.ref v :: st) w cn sn := w_aload_n d_162_26 rfl
theorem d_162_27 : decode (mB 162) 27 = .ok (.getfield 254, 3) := by decide +kernel
theorem s_162_27 {d : Nat} {Q : wQ} {L : List (Option Value)} {st : List Value} {w : aw} {cn sn : Nat} {a : Nat} : wp d 162 Q 27 L (.ref a :: st) w cn sn = (kd w a = 9 ∧ wp d 162 Q 30 L (fd w 554 a :: st) w cn sn) := w_getfield d_162_27 (by decide +kernel : fT (mO 162) 254 = some (8, 42))
theorem d_162_30 : decode (mB 162) 30 = .ok (.invokevirtual 295, 3) := by decide +kernel
theorem s_162_30 {d : Nat} {Q : wQ} {L : List (Option Value)} {st : List Value} {w : aw} {cn sn : Nat} {v0 v1 : Value} {b : Nat} : wp d 162 Q 30 L (v1 :: v0 :: .ref b :: st) w cn sn = (kd w b = 9 ∧ catS st ≤ 8 ∧ wpD d 161 [.ref b, v0, v1] w (fun v w' => wp d 162 Q 33 L (v.toList ++ st) w' cn sn)) := w_virtual (As := [v0, v1]) d_162_30 (by decide +kernel : cT (mO 162) 295 = some (0, 161)) rfl (by decide +kernel) rfl (by decide +kernel) rfl
theorem d_162_33 : decode (mB 162) 33 = .ok (.istore_n 1, 1) := by decide +kernel
theorem s_162_33 {d : Nat} {Q : wQ} {L : List (Option Value)} {st : List Value} {w : aw} {cn sn : Nat} {a0 a1 : Option Value} {v : Int32} : wp d 162 Q 33 (a0 :: a1 :: L) (.int v :: st) w cn sn = wp d 162 Q 34 (clr a0 :: some (.int v) :: L) st w cn sn := w_istore_n d_162_33 (Nat.le_add_left 2 _) rfl
theorem d_162_34 : decode (mB 162) 34 = .ok (.aload_n 0, 1) := by decide +kernel
theorem s_162_34 {d : Nat} {Q : wQ} {L : List (Option Value)} {st : List Value} {w : aw} {cn sn : Nat} {v : Nat} : wp d 162 Q 34 (some (.ref v) :: L) st w cn sn = wp d 162 Q 35 (some (.ref v) :: L) (.ref v :: st) w cn sn := w_aload_n d_162_34 rfl
theorem d_162_35 : decode (mB 162) 35 = .ok (.aload_n 0, 1) := by decide +kernel
theorem s_162_35 {d : Nat} {Q : wQ} {L : List (Option Value)} {st : List Value} {w : aw} {cn sn : Nat} {v : Nat} : wp d 162 Q 35 (some (.ref v) :: L) st w cn sn = wp d 162 Q 36 (some (.ref v) :: L) (.ref v :: st) w cn sn := w_aload_n d_162_35 rfl
theorem d_162_36 : decode (mB 162) 36 = .ok (.aload_n 0, 1) := by decide +kernel
theorem s_162_36 {d : Nat} {Q : wQ} {L : List (Option Value)} {st : List Value} {w : aw} {cn sn : Nat} {v : Nat} : wp d 162 Q 36 (some (.ref v) :: L) st w cn sn = wp d 162 Q 37 (some (.ref v) :: L) (.ref v :: st) w cn sn := w_aload_n d_162_36 rfl
theorem d_162_37 : decode (mB 162) 37 = .ok (.getfield 231, 3) := by decide +kernel
theorem s_162_37 {d : Nat} {Q : wQ} {L : List (Option Value)} {st : List Value} {w : aw} {cn sn : Nat} {a : Nat} : wp d 162 Q 37 L (.ref a :: st) w cn sn = (kd w a = 9 ∧ wp d 162 Q 40 L (fd w 555 a :: st) w cn sn) := w_getfield d_162_37 (by decide +kernel : fT (mO 162) 231 = some (8, 43))
theorem d_162_40 : decode (mB 162) 40 = .ok (.invokevirtual 240, 3) := by decide +kernel
theorem s_162_40 {d : Nat} {Q : wQ} {L : List (Option Value)} {st : List Value} {w : aw} {cn sn : Nat} {v0 : Value} {b : Nat} : wp d 162 Q 40 L (v0 :: .ref b :: st) w cn sn = (kd w b = 9 ∧ catS st ≤ 8 ∧ wpD d 147 [.ref b, v0] w (fun v w' => wp d 162 Q 43 L (v.toList ++ st) w' cn sn)) := w_virtual (As := [v0]) d_162_40 (by decide +kernel : cT (mO 162) 240 = some (0, 147)) rfl (by decide +kernel) rfl (by decide +kernel) rfl
theorem d_162_43 : decode (mB 162) 43 = .ok (.iconst 1, 1) := by decide +kernel
theorem s_162_43 {d : Nat} {Q : wQ} {L : List (Option Value)} {st : List Value} {w : aw} {cn sn : Nat}  : wp d 162 Q 43 L st w cn sn = wp d 162 Q 44 L (.int 1 :: st) w cn sn := w_iconst d_162_43 (by decide)
theorem d_162_44 : decode (mB 162) 44 = .ok (.iadd, 1) := by decide +kernel
theorem s_162_44 {d : Nat} {Q : wQ} {L : List (Option Value)} {st : List Value} {w : aw} {cn sn : Nat} {a b : Int32} : wp d 162 Q 44 L (.int b :: .int a :: st) w cn sn = wp d 162 Q 45 L (.int (a + b) :: st) w cn sn := wp_row d_162_44 _ _ _ _ _
theorem d_162_45 : decode (mB 162) 45 = .ok (.putfield 231, 3) := by decide +kernel
theorem s_162_45 {d : Nat} {Q : wQ} {L : List (Option Value)} {st : List Value} {w : aw} {cn sn : Nat} {x : Int32} {a : Nat} : wp d 162 Q 45 L (.int x :: .ref a :: st) w cn sn = (kd w a = 9 ∧ wp d 162 Q 48 L st (uF w 555 a (.int x)) cn sn) := w_putfield d_162_45 (by decide +kernel : fT (mO 162) 231 = some (8, 43)) (by decide +kernel) ok_int
theorem d_162_48 : decode (mB 162) 48 = .ok (.aload_n 0, 1) := by decide +kernel
theorem s_162_48 {d : Nat} {Q : wQ} {L : List (Option Value)} {st : List Value} {w : aw} {cn sn : Nat} {v : Nat} : wp d 162 Q 48 (some (.ref v) :: L) st w cn sn = wp d 162 Q 49 (some (.ref v) :: L) (.ref v :: st) w cn sn := w_aload_n d_162_48 rfl
theorem d_162_49 : decode (mB 162) 49 = .ok (.invokevirtual 267, 3) := by decide +kernel
theorem s_162_49 {d : Nat} {Q : wQ} {L : List (Option Value)} {st : List Value} {w : aw} {cn sn : Nat} {b : Nat} : wp d 162 Q 49 L (.ref b :: st) w cn sn = (kd w b = 9 ∧ catS st ≤ 8 ∧ wpD d 146 [.ref b] w (fun v w' => wp d 162 Q 52 L (v.toList ++ st) w' cn sn)) := w_virtual (As := []) d_162_49 (by decide +kernel : cT (mO 162) 267 = some (0, 146)) rfl (by decide +kernel) rfl (by decide +kernel) rfl
theorem d_162_52 : decode (mB 162) 52 = .ok (.goto (-46), 3) := by decide +kernel
theorem s_162_52 {d : Nat} {Q : wQ} {L : List (Option Value)} {st : List Value} {w : aw} {cn sn : Nat}  : wp d 162 Q 52 L st w cn sn = wp d 162 Q 6 L st w cn sn := w_goto d_162_52 (by decide)
theorem d_162_55 : decode (mB 162) 55 = .ok (.iload_n 1, 1) := by decide +kernel
theorem s_162_55 {d : Nat} {Q : wQ} {L : List (Option Value)} {st : List Value} {w : aw} {cn sn : Nat} {a0 : Option Value} {v : Int32} : wp d 162 Q 55 (a0 :: some (.int v) :: L) st w cn sn = wp d 162 Q 56 (a0 :: some (.int v) :: L) (.int v :: st) w cn sn := w_iload_n d_162_55 rfl
theorem d_162_56 : decode (mB 162) 56 = .ok (.ifCond .gt 14, 3) := by decide +kernel
theorem s_162_56 {d : Nat} {Q : wQ} {L : List (Option Value)} {st : List Value} {w : aw} {cn sn : Nat} {x : Int32} : wp d 162 Q 56 L (.int x :: st) w cn sn = ((0 < x → wp d 162 Q 70 L st w cn sn) ∧ (¬ 0 < x → wp d 162 Q 59 L st w cn sn)) := w_ifgt d_162_56 (by decide)
theorem d_162_59 : decode (mB 162) 59 = .ok (.aload_n 0, 1) := by decide +kernel
theorem s_162_59 {d : Nat} {Q : wQ} {L : List (Option Value)} {st : List Value} {w : aw} {cn sn : Nat} {v : Nat} : wp d 162 Q 59 (some (.ref v) :: L) st w cn sn = wp d 162 Q 60 (some (.ref v) :: L) (.ref v :: st) w cn sn := w_aload_n d_162_59 rfl
theorem d_162_60 : decode (mB 162) 60 = .ok (.getfield 231, 3) := by decide +kernel
theorem s_162_60 {d : Nat} {Q : wQ} {L : List (Option Value)} {st : List Value} {w : aw} {cn sn : Nat} {a : Nat} : wp d 162 Q 60 L (.ref a :: st) w cn sn = (kd w a = 9 ∧ wp d 162 Q 63 L (fd w 555 a :: st) w cn sn) := w_getfield d_162_60 (by decide +kernel : fT (mO 162) 231 = some (8, 43))
theorem d_162_63 : decode (mB 162) 63 = .ok (.aload_n 0, 1) := by decide +kernel
theorem s_162_63 {d : Nat} {Q : wQ} {L : List (Option Value)} {st : List Value} {w : aw} {cn sn : Nat} {v : Nat} : wp d 162 Q 63 (some (.ref v) :: L) st w cn sn = wp d 162 Q 64 (some (.ref v) :: L) (.ref v :: st) w cn sn := w_aload_n d_162_63 rfl
theorem d_162_64 : decode (mB 162) 64 = .ok (.getfield 228, 3) := by decide +kernel
theorem s_162_64 {d : Nat} {Q : wQ} {L : List (Option Value)} {st : List Value} {w : aw} {cn sn : Nat} {a : Nat} : wp d 162 Q 64 L (.ref a :: st) w cn sn = (kd w a = 9 ∧ wp d 162 Q 67 L (fd w 556 a :: st) w cn sn) := w_getfield d_162_64 (by decide +kernel : fT (mO 162) 228 = some (8, 44))
theorem d_162_67 : decode (mB 162) 67 = .ok (.if_icmp .lt 5, 3) := by decide +kernel
theorem s_162_67 {d : Nat} {Q : wQ} {L : List (Option Value)} {st : List Value} {w : aw} {cn sn : Nat} {a b : Int32} : wp d 162 Q 67 L (.int b :: .int a :: st) w cn sn = ((a < b → wp d 162 Q 72 L st w cn sn) ∧ (¬ a < b → wp d 162 Q 70 L st w cn sn)) := w_iclt d_162_67 (by decide)
theorem d_162_70 : decode (mB 162) 70 = .ok (.iload_n 1, 1) := by decide +kernel
theorem s_162_70 {d : Nat} {Q : wQ} {L : List (Option Value)} {st : List Value} {w : aw} {cn sn : Nat} {a0 : Option Value} {v : Int32} : wp d 162 Q 70 (a0 :: some (.int v) :: L) st w cn sn = wp d 162 Q 71 (a0 :: some (.int v) :: L) (.int v :: st) w cn sn := w_iload_n d_162_70 rfl
theorem d_162_71 : decode (mB 162) 71 = .ok (.ireturn, 1) := by decide +kernel
theorem s_162_71 {d : Nat} {Q : wQ} {L : List (Option Value)} {w : aw} {cn sn : Nat} {v : Int32} : wp d 162 Q 71 L [.int v] w cn sn = Q (some (.int v)) w := w_ireturn d_162_71 rfl
theorem d_162_72 : decode (mB 162) 72 = .ok (.aload_n 0, 1) := by decide +kernel
theorem s_162_72 {d : Nat} {Q : wQ} {L : List (Option Value)} {st : List Value} {w : aw} {cn sn : Nat} {v : Nat} : wp d 162 Q 72 (some (.ref v) :: L) st w cn sn = wp d 162 Q 73 (some (.ref v) :: L) (.ref v :: st) w cn sn := w_aload_n d_162_72 rfl
theorem d_162_73 : decode (mB 162) 73 = .ok (.aload_n 0, 1) := by decide +kernel
theorem s_162_73 {d : Nat} {Q : wQ} {L : List (Option Value)} {st : List Value} {w : aw} {cn sn : Nat} {v : Nat} : wp d 162 Q 73 (some (.ref v) :: L) st w cn sn = wp d 162 Q 74 (some (.ref v) :: L) (.ref v :: st) w cn sn := w_aload_n d_162_73 rfl
theorem d_162_74 : decode (mB 162) 74 = .ok (.getfield 231, 3) := by decide +kernel
theorem s_162_74 {d : Nat} {Q : wQ} {L : List (Option Value)} {st : List Value} {w : aw} {cn sn : Nat} {a : Nat} : wp d 162 Q 74 L (.ref a :: st) w cn sn = (kd w a = 9 ∧ wp d 162 Q 77 L (fd w 555 a :: st) w cn sn) := w_getfield d_162_74 (by decide +kernel : fT (mO 162) 231 = some (8, 43))
theorem d_162_77 : decode (mB 162) 77 = .ok (.invokevirtual 237, 3) := by decide +kernel
theorem s_162_77 {d : Nat} {Q : wQ} {L : List (Option Value)} {st : List Value} {w : aw} {cn sn : Nat} {v0 : Value} {b : Nat} : wp d 162 Q 77 L (v0 :: .ref b :: st) w cn sn = (kd w b = 9 ∧ catS st ≤ 8 ∧ wpD d 145 [.ref b, v0] w (fun v w' => wp d 162 Q 80 L (v.toList ++ st) w' cn sn)) := w_virtual (As := [v0]) d_162_77 (by decide +kernel : cT (mO 162) 237 = some (0, 145)) rfl (by decide +kernel) rfl (by decide +kernel) rfl
theorem d_162_80 : decode (mB 162) 80 = .ok (.bipush 42, 2) := by decide +kernel
theorem s_162_80 {d : Nat} {Q : wQ} {L : List (Option Value)} {st : List Value} {w : aw} {cn sn : Nat}  : wp d 162 Q 80 L st w cn sn = wp d 162 Q 82 L (.int 42 :: st) w cn sn := w_bipush d_162_80 (by decide)
theorem d_162_82 : decode (mB 162) 82 = .ok (.if_icmp .ne 41, 3) := by decide +kernel
theorem s_162_82 {d : Nat} {Q : wQ} {L : List (Option Value)} {st : List Value} {w : aw} {cn sn : Nat} {a b : Int32} : wp d 162 Q 82 L (.int b :: .int a :: st) w cn sn = ((¬ a = b → wp d 162 Q 123 L st w cn sn) ∧ (a = b → wp d 162 Q 85 L st w cn sn)) := w_icne d_162_82 (by decide)
theorem d_162_85 : decode (mB 162) 85 = .ok (.aload_n 0, 1) := by decide +kernel
theorem s_162_85 {d : Nat} {Q : wQ} {L : List (Option Value)} {st : List Value} {w : aw} {cn sn : Nat} {v : Nat} : wp d 162 Q 85 (some (.ref v) :: L) st w cn sn = wp d 162 Q 86 (some (.ref v) :: L) (.ref v :: st) w cn sn := w_aload_n d_162_85 rfl
theorem d_162_86 : decode (mB 162) 86 = .ok (.dup, 1) := by decide +kernel
theorem s_162_86 {d : Nat} {Q : wQ} {L : List (Option Value)} {st : List Value} {w : aw} {cn sn : Nat} {v : Value} : wp d 162 Q 86 L (v :: st) w cn sn = (v.category = 1 ∧ wp d 162 Q 87 L (v :: v :: st) w cn sn) := wp_row d_162_86 _ _ _ _ _
theorem d_162_87 : decode (mB 162) 87 = .ok (.getfield 231, 3) := by decide +kernel
theorem s_162_87 {d : Nat} {Q : wQ} {L : List (Option Value)} {st : List Value} {w : aw} {cn sn : Nat} {a : Nat} : wp d 162 Q 87 L (.ref a :: st) w cn sn = (kd w a = 9 ∧ wp d 162 Q 90 L (fd w 555 a :: st) w cn sn) := w_getfield d_162_87 (by decide +kernel : fT (mO 162) 231 = some (8, 43))
theorem d_162_90 : decode (mB 162) 90 = .ok (.iconst 1, 1) := by decide +kernel
theorem s_162_90 {d : Nat} {Q : wQ} {L : List (Option Value)} {st : List Value} {w : aw} {cn sn : Nat}  : wp d 162 Q 90 L st w cn sn = wp d 162 Q 91 L (.int 1 :: st) w cn sn := w_iconst d_162_90 (by decide)
theorem d_162_91 : decode (mB 162) 91 = .ok (.iadd, 1) := by decide +kernel
theorem s_162_91 {d : Nat} {Q : wQ} {L : List (Option Value)} {st : List Value} {w : aw} {cn sn : Nat} {a b : Int32} : wp d 162 Q 91 L (.int b :: .int a :: st) w cn sn = wp d 162 Q 92 L (.int (a + b) :: st) w cn sn := wp_row d_162_91 _ _ _ _ _
theorem d_162_92 : decode (mB 162) 92 = .ok (.putfield 231, 3) := by decide +kernel
theorem s_162_92 {d : Nat} {Q : wQ} {L : List (Option Value)} {st : List Value} {w : aw} {cn sn : Nat} {x : Int32} {a : Nat} : wp d 162 Q 92 L (.int x :: .ref a :: st) w cn sn = (kd w a = 9 ∧ wp d 162 Q 95 L st (uF w 555 a (.int x)) cn sn) := w_putfield d_162_92 (by decide +kernel : fT (mO 162) 231 = some (8, 43)) (by decide +kernel) ok_int
theorem d_162_95 : decode (mB 162) 95 = .ok (.aload_n 0, 1) := by decide +kernel
theorem s_162_95 {d : Nat} {Q : wQ} {L : List (Option Value)} {st : List Value} {w : aw} {cn sn : Nat} {v : Nat} : wp d 162 Q 95 (some (.ref v) :: L) st w cn sn = wp d 162 Q 96 (some (.ref v) :: L) (.ref v :: st) w cn sn := w_aload_n d_162_95 rfl
theorem d_162_96 : decode (mB 162) 96 = .ok (.invokevirtual 267, 3) := by decide +kernel
theorem s_162_96 {d : Nat} {Q : wQ} {L : List (Option Value)} {st : List Value} {w : aw} {cn sn : Nat} {b : Nat} : wp d 162 Q 96 L (.ref b :: st) w cn sn = (kd w b = 9 ∧ catS st ≤ 8 ∧ wpD d 146 [.ref b] w (fun v w' => wp d 162 Q 99 L (v.toList ++ st) w' cn sn)) := w_virtual (As := []) d_162_96 (by decide +kernel : cT (mO 162) 267 = some (0, 146)) rfl (by decide +kernel) rfl (by decide +kernel) rfl
theorem d_162_99 : decode (mB 162) 99 = .ok (.aload_n 0, 1) := by decide +kernel
theorem s_162_99 {d : Nat} {Q : wQ} {L : List (Option Value)} {st : List Value} {w : aw} {cn sn : Nat} {v : Nat} : wp d 162 Q 99 (some (.ref v) :: L) st w cn sn = wp d 162 Q 100 (some (.ref v) :: L) (.ref v :: st) w cn sn := w_aload_n d_162_99 rfl
theorem d_162_100 : decode (mB 162) 100 = .ok (.invokevirtual 274, 3) := by decide +kernel
theorem s_162_100 {d : Nat} {Q : wQ} {L : List (Option Value)} {st : List Value} {w : aw} {cn sn : Nat} {b : Nat} : wp d 162 Q 100 L (.ref b :: st) w cn sn = (kd w b = 9 ∧ catS st ≤ 8 ∧ wpD d 156 [.ref b] w (fun v w' => wp d 162 Q 103 L (v.toList ++ st) w' cn sn)) := w_virtual (As := []) d_162_100 (by decide +kernel : cT (mO 162) 274 = some (0, 156)) rfl (by decide +kernel) rfl (by decide +kernel) rfl
theorem d_162_103 : decode (mB 162) 103 = .ok (.istore_n 2, 1) := by decide +kernel
theorem s_162_103 {d : Nat} {Q : wQ} {L : List (Option Value)} {st : List Value} {w : aw} {cn sn : Nat} {a0 a1 a2 : Option Value} {v : Int32} : wp d 162 Q 103 (a0 :: a1 :: a2 :: L) (.int v :: st) w cn sn = wp d 162 Q 104 (a0 :: clr a1 :: some (.int v) :: L) st w cn sn := w_istore_n d_162_103 (Nat.le_add_left 3 _) rfl
theorem d_162_104 : decode (mB 162) 104 = .ok (.aload_n 0, 1) := by decide +kernel
theorem s_162_104 {d : Nat} {Q : wQ} {L : List (Option Value)} {st : List Value} {w : aw} {cn sn : Nat} {v : Nat} : wp d 162 Q 104 (some (.ref v) :: L) st w cn sn = wp d 162 Q 105 (some (.ref v) :: L) (.ref v :: st) w cn sn := w_aload_n d_162_104 rfl
theorem d_162_105 : decode (mB 162) 105 = .ok (.getfield 257, 3) := by decide +kernel
theorem s_162_105 {d : Nat} {Q : wQ} {L : List (Option Value)} {st : List Value} {w : aw} {cn sn : Nat} {a : Nat} : wp d 162 Q 105 L (.ref a :: st) w cn sn = (kd w a = 9 ∧ wp d 162 Q 108 L (fd w 558 a :: st) w cn sn) := w_getfield d_162_105 (by decide +kernel : fT (mO 162) 257 = some (8, 46))
theorem d_162_108 : decode (mB 162) 108 = .ok (.ifCond .ne 5, 3) := by decide +kernel
theorem s_162_108 {d : Nat} {Q : wQ} {L : List (Option Value)} {st : List Value} {w : aw} {cn sn : Nat} {x : Int32} : wp d 162 Q 108 L (.int x :: st) w cn sn = ((¬ x = 0 → wp d 162 Q 113 L st w cn sn) ∧ (x = 0 → wp d 162 Q 111 L st w cn sn)) := w_ifne d_162_108 (by decide)
theorem d_162_111 : decode (mB 162) 111 = .ok (.iconst 2, 1) := by decide +kernel
theorem s_162_111 {d : Nat} {Q : wQ} {L : List (Option Value)} {st : List Value} {w : aw} {cn sn : Nat}  : wp d 162 Q 111 L st w cn sn = wp d 162 Q 112 L (.int 2 :: st) w cn sn := w_iconst d_162_111 (by decide)
theorem d_162_112 : decode (mB 162) 112 = .ok (.ireturn, 1) := by decide +kernel
theorem s_162_112 {d : Nat} {Q : wQ} {L : List (Option Value)} {w : aw} {cn sn : Nat} {v : Int32} : wp d 162 Q 112 L [.int v] w cn sn = Q (some (.int v)) w := w_ireturn d_162_112 rfl
theorem d_162_113 : decode (mB 162) 113 = .ok (.aload_n 0, 1) := by decide +kernel
theorem s_162_113 {d : Nat} {Q : wQ} {L : List (Option Value)} {st : List Value} {w : aw} {cn sn : Nat} {v : Nat} : wp d 162 Q 113 (some (.ref v) :: L) st w cn sn = wp d 162 Q 114 (some (.ref v) :: L) (.ref v :: st) w cn sn := w_aload_n d_162_113 rfl
theorem d_162_114 : decode (mB 162) 114 = .ok (.aload_n 0, 1) := by decide +kernel
theorem s_162_114 {d : Nat} {Q : wQ} {L : List (Option Value)} {st : List Value} {w : aw} {cn sn : Nat} {v : Nat} : wp d 162 Q 114 (some (.ref v) :: L) st w cn sn = wp d 162 Q 115 (some (.ref v) :: L) (.ref v :: st) w cn sn := w_aload_n d_162_114 rfl
theorem d_162_115 : decode (mB 162) 115 = .ok (.getfield 261, 3) := by decide +kernel
theorem s_162_115 {d : Nat} {Q : wQ} {L : List (Option Value)} {st : List Value} {w : aw} {cn sn : Nat} {a : Nat} : wp d 162 Q 115 L (.ref a :: st) w cn sn = (kd w a = 9 ∧ wp d 162 Q 118 L (fd w 557 a :: st) w cn sn) := w_getfield d_162_115 (by decide +kernel : fT (mO 162) 261 = some (8, 45))
theorem d_162_118 : decode (mB 162) 118 = .ok (.putfield 254, 3) := by decide +kernel
theorem s_162_118 {d : Nat} {Q : wQ} {L : List (Option Value)} {st : List Value} {w : aw} {cn sn : Nat} {x : Int32} {a : Nat} : wp d 162 Q 118 L (.int x :: .ref a :: st) w cn sn = (kd w a = 9 ∧ wp d 162 Q 121 L st (uF w 554 a (.int x)) cn sn) := w_putfield d_162_118 (by decide +kernel : fT (mO 162) 254 = some (8, 42)) (by decide +kernel) ok_int
theorem d_162_121 : decode (mB 162) 121 = .ok (.iconst 0, 1) := by decide +kernel
theorem s_162_121 {d : Nat} {Q : wQ} {L : List (Option Value)} {st : List Value} {w : aw} {cn sn : Nat}  : wp d 162 Q 121 L st w cn sn = wp d 162 Q 122 L (.int 0 :: st) w cn sn := w_iconst d_162_121 (by decide)
theorem d_162_122 : decode (mB 162) 122 = .ok (.ireturn, 1) := by decide +kernel
theorem s_162_122 {d : Nat} {Q : wQ} {L : List (Option Value)} {w : aw} {cn sn : Nat} {v : Int32} : wp d 162 Q 122 L [.int v] w cn sn = Q (some (.int v)) w := w_ireturn d_162_122 rfl
theorem d_162_123 : decode (mB 162) 123 = .ok (.aload_n 0, 1) := by decide +kernel
theorem s_162_123 {d : Nat} {Q : wQ} {L : List (Option Value)} {st : List Value} {w : aw} {cn sn : Nat} {v : Nat} : wp d 162 Q 123 (some (.ref v) :: L) st w cn sn = wp d 162 Q 124 (some (.ref v) :: L) (.ref v :: st) w cn sn := w_aload_n d_162_123 rfl
theorem d_162_124 : decode (mB 162) 124 = .ok (.invokevirtual 280, 3) := by decide +kernel
theorem s_162_124 {d : Nat} {Q : wQ} {L : List (Option Value)} {st : List Value} {w : aw} {cn sn : Nat} {b : Nat} : wp d 162 Q 124 L (.ref b :: st) w cn sn = (kd w b = 9 ∧ catS st ≤ 8 ∧ wpD d 153 [.ref b] w (fun v w' => wp d 162 Q 127 L (v.toList ++ st) w' cn sn)) := w_virtual (As := []) d_162_124 (by decide +kernel : cT (mO 162) 280 = some (0, 153)) rfl (by decide +kernel) rfl (by decide +kernel) rfl
theorem d_162_127 : decode (mB 162) 127 = .ok (.ifCond .eq 57, 3) := by decide +kernel
theorem s_162_127 {d : Nat} {Q : wQ} {L : List (Option Value)} {st : List Value} {w : aw} {cn sn : Nat} {x : Int32} : wp d 162 Q 127 L (.int x :: st) w cn sn = ((x = 0 → wp d 162 Q 184 L st w cn sn) ∧ (¬ x = 0 → wp d 162 Q 130 L st w cn sn)) := w_ifeq d_162_127 (by decide)
theorem d_162_130 : decode (mB 162) 130 = .ok (.aload_n 0, 1) := by decide +kernel
theorem s_162_130 {d : Nat} {Q : wQ} {L : List (Option Value)} {st : List Value} {w : aw} {cn sn : Nat} {v : Nat} : wp d 162 Q 130 (some (.ref v) :: L) st w cn sn = wp d 162 Q 131 (some (.ref v) :: L) (.ref v :: st) w cn sn := w_aload_n d_162_130 rfl
theorem d_162_131 : decode (mB 162) 131 = .ok (.aload_n 0, 1) := by decide +kernel
theorem s_162_131 {d : Nat} {Q : wQ} {L : List (Option Value)} {st : List Value} {w : aw} {cn sn : Nat} {v : Nat} : wp d 162 Q 131 (some (.ref v) :: L) st w cn sn = wp d 162 Q 132 (some (.ref v) :: L) (.ref v :: st) w cn sn := w_aload_n d_162_131 rfl
theorem d_162_132 : decode (mB 162) 132 = .ok (.getfield 231, 3) := by decide +kernel
theorem s_162_132 {d : Nat} {Q : wQ} {L : List (Option Value)} {st : List Value} {w : aw} {cn sn : Nat} {a : Nat} : wp d 162 Q 132 L (.ref a :: st) w cn sn = (kd w a = 9 ∧ wp d 162 Q 135 L (fd w 555 a :: st) w cn sn) := w_getfield d_162_132 (by decide +kernel : fT (mO 162) 231 = some (8, 43))
theorem d_162_135 : decode (mB 162) 135 = .ok (.invokevirtual 246, 3) := by decide +kernel
theorem s_162_135 {d : Nat} {Q : wQ} {L : List (Option Value)} {st : List Value} {w : aw} {cn sn : Nat} {v0 : Value} {b : Nat} : wp d 162 Q 135 L (v0 :: .ref b :: st) w cn sn = (kd w b = 9 ∧ catS st ≤ 8 ∧ wpD d 149 [.ref b, v0] w (fun v w' => wp d 162 Q 138 L (v.toList ++ st) w' cn sn)) := w_virtual (As := [v0]) d_162_135 (by decide +kernel : cT (mO 162) 246 = some (0, 149)) rfl (by decide +kernel) rfl (by decide +kernel) rfl
theorem d_162_138 : decode (mB 162) 138 = .ok (.lstore_n 2, 1) := by decide +kernel
theorem s_162_138 {d : Nat} {Q : wQ} {L : List (Option Value)} {st : List Value} {w : aw} {cn sn : Nat} {a0 a1 a2 a3 : Option Value} {v : Int64} : wp d 162 Q 138 (a0 :: a1 :: a2 :: a3 :: L) (.long v :: st) w cn sn = wp d 162 Q 139 (a0 :: clr a1 :: some (.long v) :: none :: L) st w cn sn := w_lstore_n d_162_138 (Nat.le_add_left 4 _) rfl
theorem d_162_139 : decode (mB 162) 139 = .ok (.aload_n 0, 1) := by decide +kernel
theorem s_162_139 {d : Nat} {Q : wQ} {L : List (Option Value)} {st : List Value} {w : aw} {cn sn : Nat} {v : Nat} : wp d 162 Q 139 (some (.ref v) :: L) st w cn sn = wp d 162 Q 140 (some (.ref v) :: L) (.ref v :: st) w cn sn := w_aload_n d_162_139 rfl
theorem d_162_140 : decode (mB 162) 140 = .ok (.aload_n 0, 1) := by decide +kernel
theorem s_162_140 {d : Nat} {Q : wQ} {L : List (Option Value)} {st : List Value} {w : aw} {cn sn : Nat} {v : Nat} : wp d 162 Q 140 (some (.ref v) :: L) st w cn sn = wp d 162 Q 141 (some (.ref v) :: L) (.ref v :: st) w cn sn := w_aload_n d_162_140 rfl
theorem d_162_141 : decode (mB 162) 141 = .ok (.aload_n 0, 1) := by decide +kernel
theorem s_162_141 {d : Nat} {Q : wQ} {L : List (Option Value)} {st : List Value} {w : aw} {cn sn : Nat} {v : Nat} : wp d 162 Q 141 (some (.ref v) :: L) st w cn sn = wp d 162 Q 142 (some (.ref v) :: L) (.ref v :: st) w cn sn := w_aload_n d_162_141 rfl
theorem d_162_142 : decode (mB 162) 142 = .ok (.getfield 231, 3) := by decide +kernel
theorem s_162_142 {d : Nat} {Q : wQ} {L : List (Option Value)} {st : List Value} {w : aw} {cn sn : Nat} {a : Nat} : wp d 162 Q 142 L (.ref a :: st) w cn sn = (kd w a = 9 ∧ wp d 162 Q 145 L (fd w 555 a :: st) w cn sn) := w_getfield d_162_142 (by decide +kernel : fT (mO 162) 231 = some (8, 43))
theorem d_162_145 : decode (mB 162) 145 = .ok (.invokevirtual 240, 3) := by decide +kernel
theorem s_162_145 {d : Nat} {Q : wQ} {L : List (Option Value)} {st : List Value} {w : aw} {cn sn : Nat} {v0 : Value} {b : Nat} : wp d 162 Q 145 L (v0 :: .ref b :: st) w cn sn = (kd w b = 9 ∧ catS st ≤ 8 ∧ wpD d 147 [.ref b, v0] w (fun v w' => wp d 162 Q 148 L (v.toList ++ st) w' cn sn)) := w_virtual (As := [v0]) d_162_145 (by decide +kernel : cT (mO 162) 240 = some (0, 147)) rfl (by decide +kernel) rfl (by decide +kernel) rfl
theorem d_162_148 : decode (mB 162) 148 = .ok (.iconst 1, 1) := by decide +kernel
theorem s_162_148 {d : Nat} {Q : wQ} {L : List (Option Value)} {st : List Value} {w : aw} {cn sn : Nat}  : wp d 162 Q 148 L st w cn sn = wp d 162 Q 149 L (.int 1 :: st) w cn sn := w_iconst d_162_148 (by decide)
theorem d_162_149 : decode (mB 162) 149 = .ok (.iadd, 1) := by decide +kernel
theorem s_162_149 {d : Nat} {Q : wQ} {L : List (Option Value)} {st : List Value} {w : aw} {cn sn : Nat} {a b : Int32} : wp d 162 Q 149 L (.int b :: .int a :: st) w cn sn = wp d 162 Q 150 L (.int (a + b) :: st) w cn sn := wp_row d_162_149 _ _ _ _ _
theorem d_162_150 : decode (mB 162) 150 = .ok (.putfield 231, 3) := by decide +kernel
theorem s_162_150 {d : Nat} {Q : wQ} {L : List (Option Value)} {st : List Value} {w : aw} {cn sn : Nat} {x : Int32} {a : Nat} : wp d 162 Q 150 L (.int x :: .ref a :: st) w cn sn = (kd w a = 9 ∧ wp d 162 Q 153 L st (uF w 555 a (.int x)) cn sn) := w_putfield d_162_150 (by decide +kernel : fT (mO 162) 231 = some (8, 43)) (by decide +kernel) ok_int
theorem d_162_153 : decode (mB 162) 153 = .ok (.aload_n 0, 1) := by decide +kernel
theorem s_162_153 {d : Nat} {Q : wQ} {L : List (Option Value)} {st : List Value} {w : aw} {cn sn : Nat} {v : Nat} : wp d 162 Q 153 (some (.ref v) :: L) st w cn sn = wp d 162 Q 154 (some (.ref v) :: L) (.ref v :: st) w cn sn := w_aload_n d_162_153 rfl
theorem d_162_154 : decode (mB 162) 154 = .ok (.invokevirtual 267, 3) := by decide +kernel
theorem s_162_154 {d : Nat} {Q : wQ} {L : List (Option Value)} {st : List Value} {w : aw} {cn sn : Nat} {b : Nat} : wp d 162 Q 154 L (.ref b :: st) w cn sn = (kd w b = 9 ∧ catS st ≤ 8 ∧ wpD d 146 [.ref b] w (fun v w' => wp d 162 Q 157 L (v.toList ++ st) w' cn sn)) := w_virtual (As := []) d_162_154 (by decide +kernel : cT (mO 162) 267 = some (0, 146)) rfl (by decide +kernel) rfl (by decide +kernel) rfl
theorem d_162_157 : decode (mB 162) 157 = .ok (.aload_n 0, 1) := by decide +kernel
theorem s_162_157 {d : Nat} {Q : wQ} {L : List (Option Value)} {st : List Value} {w : aw} {cn sn : Nat} {v : Nat} : wp d 162 Q 157 (some (.ref v) :: L) st w cn sn = wp d 162 Q 158 (some (.ref v) :: L) (.ref v :: st) w cn sn := w_aload_n d_162_157 rfl
theorem d_162_158 : decode (mB 162) 158 = .ok (.invokevirtual 274, 3) := by decide +kernel
theorem s_162_158 {d : Nat} {Q : wQ} {L : List (Option Value)} {st : List Value} {w : aw} {cn sn : Nat} {b : Nat} : wp d 162 Q 158 L (.ref b :: st) w cn sn = (kd w b = 9 ∧ catS st ≤ 8 ∧ wpD d 156 [.ref b] w (fun v w' => wp d 162 Q 161 L (v.toList ++ st) w' cn sn)) := w_virtual (As := []) d_162_158 (by decide +kernel : cT (mO 162) 274 = some (0, 156)) rfl (by decide +kernel) rfl (by decide +kernel) rfl
theorem d_162_161 : decode (mB 162) 161 = .ok (.istore 4, 2) := by decide +kernel
theorem s_162_161 {d : Nat} {Q : wQ} {L : List (Option Value)} {st : List Value} {w : aw} {cn sn : Nat} {a0 a1 a2 a3 a4 : Option Value} {v : Int32} : wp d 162 Q 161 (a0 :: a1 :: a2 :: a3 :: a4 :: L) (.int v :: st) w cn sn = wp d 162 Q 163 (a0 :: a1 :: a2 :: clr a3 :: some (.int v) :: L) st w cn sn := w_istore d_162_161 (Nat.le_add_left 5 _) rfl
theorem d_162_163 : decode (mB 162) 163 = .ok (.aload_n 0, 1) := by decide +kernel
theorem s_162_163 {d : Nat} {Q : wQ} {L : List (Option Value)} {st : List Value} {w : aw} {cn sn : Nat} {v : Nat} : wp d 162 Q 163 (some (.ref v) :: L) st w cn sn = wp d 162 Q 164 (some (.ref v) :: L) (.ref v :: st) w cn sn := w_aload_n d_162_163 rfl
theorem d_162_164 : decode (mB 162) 164 = .ok (.getfield 257, 3) := by decide +kernel
theorem s_162_164 {d : Nat} {Q : wQ} {L : List (Option Value)} {st : List Value} {w : aw} {cn sn : Nat} {a : Nat} : wp d 162 Q 164 L (.ref a :: st) w cn sn = (kd w a = 9 ∧ wp d 162 Q 167 L (fd w 558 a :: st) w cn sn) := w_getfield d_162_164 (by decide +kernel : fT (mO 162) 257 = some (8, 46))
theorem d_162_167 : decode (mB 162) 167 = .ok (.ifCond .eq 15, 3) := by decide +kernel
theorem s_162_167 {d : Nat} {Q : wQ} {L : List (Option Value)} {st : List Value} {w : aw} {cn sn : Nat} {x : Int32} : wp d 162 Q 167 L (.int x :: st) w cn sn = ((x = 0 → wp d 162 Q 182 L st w cn sn) ∧ (¬ x = 0 → wp d 162 Q 170 L st w cn sn)) := w_ifeq d_162_167 (by decide)
theorem d_162_170 : decode (mB 162) 170 = .ok (.aload_n 0, 1) := by decide +kernel
theorem s_162_170 {d : Nat} {Q : wQ} {L : List (Option Value)} {st : List Value} {w : aw} {cn sn : Nat} {v : Nat} : wp d 162 Q 170 (some (.ref v) :: L) st w cn sn = wp d 162 Q 171 (some (.ref v) :: L) (.ref v :: st) w cn sn := w_aload_n d_162_170 rfl
theorem d_162_171 : decode (mB 162) 171 = .ok (.lload_n 2, 1) := by decide +kernel
theorem s_162_171 {d : Nat} {Q : wQ} {L : List (Option Value)} {st : List Value} {w : aw} {cn sn : Nat} {a0 a1 : Option Value} {v : Int64} : wp d 162 Q 171 (a0 :: a1 :: some (.long v) :: L) st w cn sn = wp d 162 Q 172 (a0 :: a1 :: some (.long v) :: L) (.long v :: st) w cn sn := w_lload_n d_162_171 rfl
theorem d_162_172 : decode (mB 162) 172 = .ok (.aload_n 0, 1) := by decide +kernel
theorem s_162_172 {d : Nat} {Q : wQ} {L : List (Option Value)} {st : List Value} {w : aw} {cn sn : Nat} {v : Nat} : wp d 162 Q 172 (some (.ref v) :: L) st w cn sn = wp d 162 Q 173 (some (.ref v) :: L) (.ref v :: st) w cn sn := w_aload_n d_162_172 rfl
theorem d_162_173 : decode (mB 162) 173 = .ok (.getfield 261, 3) := by decide +kernel
theorem s_162_173 {d : Nat} {Q : wQ} {L : List (Option Value)} {st : List Value} {w : aw} {cn sn : Nat} {a : Nat} : wp d 162 Q 173 L (.ref a :: st) w cn sn = (kd w a = 9 ∧ wp d 162 Q 176 L (fd w 557 a :: st) w cn sn) := w_getfield d_162_173 (by decide +kernel : fT (mO 162) 261 = some (8, 45))
theorem d_162_176 : decode (mB 162) 176 = .ok (.invokevirtual 295, 3) := by decide +kernel
theorem s_162_176 {d : Nat} {Q : wQ} {L : List (Option Value)} {st : List Value} {w : aw} {cn sn : Nat} {v0 v1 : Value} {b : Nat} : wp d 162 Q 176 L (v1 :: v0 :: .ref b :: st) w cn sn = (kd w b = 9 ∧ catS st ≤ 8 ∧ wpD d 161 [.ref b, v0, v1] w (fun v w' => wp d 162 Q 179 L (v.toList ++ st) w' cn sn)) := w_virtual (As := [v0, v1]) d_162_176 (by decide +kernel : cT (mO 162) 295 = some (0, 161)) rfl (by decide +kernel) rfl (by decide +kernel) rfl
theorem d_162_179 : decode (mB 162) 179 = .ok (.goto 4, 3) := by decide +kernel
theorem s_162_179 {d : Nat} {Q : wQ} {L : List (Option Value)} {st : List Value} {w : aw} {cn sn : Nat}  : wp d 162 Q 179 L st w cn sn = wp d 162 Q 183 L st w cn sn := w_goto d_162_179 (by decide)
theorem d_162_182 : decode (mB 162) 182 = .ok (.iconst 2, 1) := by decide +kernel
theorem s_162_182 {d : Nat} {Q : wQ} {L : List (Option Value)} {st : List Value} {w : aw} {cn sn : Nat}  : wp d 162 Q 182 L st w cn sn = wp d 162 Q 183 L (.int 2 :: st) w cn sn := w_iconst d_162_182 (by decide)
theorem d_162_183 : decode (mB 162) 183 = .ok (.ireturn, 1) := by decide +kernel
theorem s_162_183 {d : Nat} {Q : wQ} {L : List (Option Value)} {w : aw} {cn sn : Nat} {v : Int32} : wp d 162 Q 183 L [.int v] w cn sn = Q (some (.int v)) w := w_ireturn d_162_183 rfl
theorem d_162_184 : decode (mB 162) 184 = .ok (.aload_n 0, 1) := by decide +kernel
theorem s_162_184 {d : Nat} {Q : wQ} {L : List (Option Value)} {st : List Value} {w : aw} {cn sn : Nat} {v : Nat} : wp d 162 Q 184 (some (.ref v) :: L) st w cn sn = wp d 162 Q 185 (some (.ref v) :: L) (.ref v :: st) w cn sn := w_aload_n d_162_184 rfl
theorem d_162_185 : decode (mB 162) 185 = .ok (.aload_n 0, 1) := by decide +kernel
theorem s_162_185 {d : Nat} {Q : wQ} {L : List (Option Value)} {st : List Value} {w : aw} {cn sn : Nat} {v : Nat} : wp d 162 Q 185 (some (.ref v) :: L) st w cn sn = wp d 162 Q 186 (some (.ref v) :: L) (.ref v :: st) w cn sn := w_aload_n d_162_185 rfl
theorem d_162_186 : decode (mB 162) 186 = .ok (.getfield 254, 3) := by decide +kernel
theorem s_162_186 {d : Nat} {Q : wQ} {L : List (Option Value)} {st : List Value} {w : aw} {cn sn : Nat} {a : Nat} : wp d 162 Q 186 L (.ref a :: st) w cn sn = (kd w a = 9 ∧ wp d 162 Q 189 L (fd w 554 a :: st) w cn sn) := w_getfield d_162_186 (by decide +kernel : fT (mO 162) 254 = some (8, 42))
theorem d_162_189 : decode (mB 162) 189 = .ok (.iconst 1, 1) := by decide +kernel
theorem s_162_189 {d : Nat} {Q : wQ} {L : List (Option Value)} {st : List Value} {w : aw} {cn sn : Nat}  : wp d 162 Q 189 L st w cn sn = wp d 162 Q 190 L (.int 1 :: st) w cn sn := w_iconst d_162_189 (by decide)
theorem d_162_190 : decode (mB 162) 190 = .ok (.iadd, 1) := by decide +kernel
theorem s_162_190 {d : Nat} {Q : wQ} {L : List (Option Value)} {st : List Value} {w : aw} {cn sn : Nat} {a b : Int32} : wp d 162 Q 190 L (.int b :: .int a :: st) w cn sn = wp d 162 Q 191 L (.int (a + b) :: st) w cn sn := wp_row d_162_190 _ _ _ _ _
theorem d_162_191 : decode (mB 162) 191 = .ok (.sipush 4095, 3) := by decide +kernel
theorem s_162_191 {d : Nat} {Q : wQ} {L : List (Option Value)} {st : List Value} {w : aw} {cn sn : Nat}  : wp d 162 Q 191 L st w cn sn = wp d 162 Q 194 L (.int 4095 :: st) w cn sn := w_sipush d_162_191 (by decide)
theorem d_162_194 : decode (mB 162) 194 = .ok (.iand, 1) := by decide +kernel
theorem s_162_194 {d : Nat} {Q : wQ} {L : List (Option Value)} {st : List Value} {w : aw} {cn sn : Nat} {a b : Int32} : wp d 162 Q 194 L (.int b :: .int a :: st) w cn sn = wp d 162 Q 195 L (.int (a &&& b) :: st) w cn sn := wp_row d_162_194 _ _ _ _ _
theorem d_162_195 : decode (mB 162) 195 = .ok (.putfield 254, 3) := by decide +kernel
theorem s_162_195 {d : Nat} {Q : wQ} {L : List (Option Value)} {st : List Value} {w : aw} {cn sn : Nat} {x : Int32} {a : Nat} : wp d 162 Q 195 L (.int x :: .ref a :: st) w cn sn = (kd w a = 9 ∧ wp d 162 Q 198 L st (uF w 554 a (.int x)) cn sn) := w_putfield d_162_195 (by decide +kernel : fT (mO 162) 254 = some (8, 42)) (by decide +kernel) ok_int
theorem d_162_198 : decode (mB 162) 198 = .ok (.iconst 0, 1) := by decide +kernel
theorem s_162_198 {d : Nat} {Q : wQ} {L : List (Option Value)} {st : List Value} {w : aw} {cn sn : Nat}  : wp d 162 Q 198 L st w cn sn = wp d 162 Q 199 L (.int 0 :: st) w cn sn := w_iconst d_162_198 (by decide)
theorem d_162_199 : decode (mB 162) 199 = .ok (.ireturn, 1) := by decide +kernel
theorem s_162_199 {d : Nat} {Q : wQ} {L : List (Option Value)} {w : aw} {cn sn : Nat} {v : Int32} : wp d 162 Q 199 L [.int v] w cn sn = Q (some (.int v)) w := w_ireturn d_162_199 rfl
theorem d_163_0 : decode (mB 163) 0 = .ok (.aload_n 0, 1) := by decide +kernel
theorem s_163_0 {d : Nat} {Q : wQ} {L : List (Option Value)} {st : List Value} {w : aw} {cn sn : Nat} {v : Nat} : wp d 163 Q 0 (some (.ref v) :: L) st w cn sn = wp d 163 Q 1 (some (.ref v) :: L) (.ref v :: st) w cn sn := w_aload_n d_163_0 rfl
theorem d_163_1 : decode (mB 163) 1 = .ok (.getfield 82, 3) := by decide +kernel
theorem s_163_1 {d : Nat} {Q : wQ} {L : List (Option Value)} {st : List Value} {w : aw} {cn sn : Nat} {a : Nat} : wp d 163 Q 1 L (.ref a :: st) w cn sn = (kd w a = 9 ∧ wp d 163 Q 4 L (fd w 550 a :: st) w cn sn) := w_getfield d_163_1 (by decide +kernel : fT (mO 163) 82 = some (8, 38))
theorem d_163_4 : decode (mB 163) 4 = .ok (.iload_n 1, 1) := by decide +kernel
theorem s_163_4 {d : Nat} {Q : wQ} {L : List (Option Value)} {st : List Value} {w : aw} {cn sn : Nat} {a0 : Option Value} {v : Int32} : wp d 163 Q 4 (a0 :: some (.int v) :: L) st w cn sn = wp d 163 Q 5 (a0 :: some (.int v) :: L) (.int v :: st) w cn sn := w_iload_n d_163_4 rfl
theorem d_163_5 : decode (mB 163) 5 = .ok (.iaload, 1) := by decide +kernel
theorem s_163_5 {d : Nat} {Q : wQ} {L : List (Option Value)} {st : List Value} {w : aw} {cn sn : Nat} {a : Nat} {i : Int32} : wp d 163 Q 5 L (.int i :: .ref a :: st) w cn sn = ((kd w a = 20 ∨ kd w a = 30) ∧ inR i (ln w a) ∧ wp d 163 Q 6 L (.int (ai w a i.toNatClampNeg) :: st) w cn sn) := wp_row d_163_5 _ _ _ _ _
theorem d_163_6 : decode (mB 163) 6 = .ok (.ifCond .lt 5, 3) := by decide +kernel
theorem s_163_6 {d : Nat} {Q : wQ} {L : List (Option Value)} {st : List Value} {w : aw} {cn sn : Nat} {x : Int32} : wp d 163 Q 6 L (.int x :: st) w cn sn = ((x < 0 → wp d 163 Q 11 L st w cn sn) ∧ (¬ x < 0 → wp d 163 Q 9 L st w cn sn)) := w_iflt d_163_6 (by decide)
theorem d_163_9 : decode (mB 163) 9 = .ok (.iconst 5, 1) := by decide +kernel
theorem s_163_9 {d : Nat} {Q : wQ} {L : List (Option Value)} {st : List Value} {w : aw} {cn sn : Nat}  : wp d 163 Q 9 L st w cn sn = wp d 163 Q 10 L (.int 5 :: st) w cn sn := w_iconst d_163_9 (by decide)
theorem d_163_10 : decode (mB 163) 10 = .ok (.ireturn, 1) := by decide +kernel
theorem s_163_10 {d : Nat} {Q : wQ} {L : List (Option Value)} {w : aw} {cn sn : Nat} {v : Int32} : wp d 163 Q 10 L [.int v] w cn sn = Q (some (.int v)) w := w_ireturn d_163_10 rfl
theorem d_163_11 : decode (mB 163) 11 = .ok (.aload_n 0, 1) := by decide +kernel
theorem s_163_11 {d : Nat} {Q : wQ} {L : List (Option Value)} {st : List Value} {w : aw} {cn sn : Nat} {v : Nat} : wp d 163 Q 11 (some (.ref v) :: L) st w cn sn = wp d 163 Q 12 (some (.ref v) :: L) (.ref v :: st) w cn sn := w_aload_n d_163_11 rfl
theorem d_163_12 : decode (mB 163) 12 = .ok (.getfield 82, 3) := by decide +kernel
theorem s_163_12 {d : Nat} {Q : wQ} {L : List (Option Value)} {st : List Value} {w : aw} {cn sn : Nat} {a : Nat} : wp d 163 Q 12 L (.ref a :: st) w cn sn = (kd w a = 9 ∧ wp d 163 Q 15 L (fd w 550 a :: st) w cn sn) := w_getfield d_163_12 (by decide +kernel : fT (mO 163) 82 = some (8, 38))
theorem d_163_15 : decode (mB 163) 15 = .ok (.iload_n 1, 1) := by decide +kernel
theorem s_163_15 {d : Nat} {Q : wQ} {L : List (Option Value)} {st : List Value} {w : aw} {cn sn : Nat} {a0 : Option Value} {v : Int32} : wp d 163 Q 15 (a0 :: some (.int v) :: L) st w cn sn = wp d 163 Q 16 (a0 :: some (.int v) :: L) (.int v :: st) w cn sn := w_iload_n d_163_15 rfl
theorem d_163_16 : decode (mB 163) 16 = .ok (.iload_n 2, 1) := by decide +kernel
theorem s_163_16 {d : Nat} {Q : wQ} {L : List (Option Value)} {st : List Value} {w : aw} {cn sn : Nat} {a0 a1 : Option Value} {v : Int32} : wp d 163 Q 16 (a0 :: a1 :: some (.int v) :: L) st w cn sn = wp d 163 Q 17 (a0 :: a1 :: some (.int v) :: L) (.int v :: st) w cn sn := w_iload_n d_163_16 rfl
theorem d_163_17 : decode (mB 163) 17 = .ok (.sipush 4095, 3) := by decide +kernel
theorem s_163_17 {d : Nat} {Q : wQ} {L : List (Option Value)} {st : List Value} {w : aw} {cn sn : Nat}  : wp d 163 Q 17 L st w cn sn = wp d 163 Q 20 L (.int 4095 :: st) w cn sn := w_sipush d_163_17 (by decide)
theorem d_163_20 : decode (mB 163) 20 = .ok (.iand, 1) := by decide +kernel
theorem s_163_20 {d : Nat} {Q : wQ} {L : List (Option Value)} {st : List Value} {w : aw} {cn sn : Nat} {a b : Int32} : wp d 163 Q 20 L (.int b :: .int a :: st) w cn sn = wp d 163 Q 21 L (.int (a &&& b) :: st) w cn sn := wp_row d_163_20 _ _ _ _ _
theorem d_163_21 : decode (mB 163) 21 = .ok (.iastore, 1) := by decide +kernel
theorem s_163_21 {d : Nat} {Q : wQ} {L : List (Option Value)} {st : List Value} {w : aw} {cn sn : Nat} {a : Nat} {i x : Int32} : wp d 163 Q 21 L (.int x :: .int i :: .ref a :: st) w cn sn = (kd w a = 20 ∧ inR i (ln w a) ∧ wp d 163 Q 22 L st (uA w a i.toNatClampNeg x) cn sn) := wp_row d_163_21 _ _ _ _ _
theorem d_163_22 : decode (mB 163) 22 = .ok (.aload_n 0, 1) := by decide +kernel
theorem s_163_22 {d : Nat} {Q : wQ} {L : List (Option Value)} {st : List Value} {w : aw} {cn sn : Nat} {v : Nat} : wp d 163 Q 22 (some (.ref v) :: L) st w cn sn = wp d 163 Q 23 (some (.ref v) :: L) (.ref v :: st) w cn sn := w_aload_n d_163_22 rfl
theorem d_163_23 : decode (mB 163) 23 = .ok (.getfield 85, 3) := by decide +kernel
theorem s_163_23 {d : Nat} {Q : wQ} {L : List (Option Value)} {st : List Value} {w : aw} {cn sn : Nat} {a : Nat} : wp d 163 Q 23 L (.ref a :: st) w cn sn = (kd w a = 9 ∧ wp d 163 Q 26 L (fd w 551 a :: st) w cn sn) := w_getfield d_163_23 (by decide +kernel : fT (mO 163) 85 = some (8, 39))
theorem d_163_26 : decode (mB 163) 26 = .ok (.iload_n 1, 1) := by decide +kernel
theorem s_163_26 {d : Nat} {Q : wQ} {L : List (Option Value)} {st : List Value} {w : aw} {cn sn : Nat} {a0 : Option Value} {v : Int32} : wp d 163 Q 26 (a0 :: some (.int v) :: L) st w cn sn = wp d 163 Q 27 (a0 :: some (.int v) :: L) (.int v :: st) w cn sn := w_iload_n d_163_26 rfl
theorem d_163_27 : decode (mB 163) 27 = .ok (.iload_n 3, 1) := by decide +kernel
theorem s_163_27 {d : Nat} {Q : wQ} {L : List (Option Value)} {st : List Value} {w : aw} {cn sn : Nat} {a0 a1 a2 : Option Value} {v : Int32} : wp d 163 Q 27 (a0 :: a1 :: a2 :: some (.int v) :: L) st w cn sn = wp d 163 Q 28 (a0 :: a1 :: a2 :: some (.int v) :: L) (.int v :: st) w cn sn := w_iload_n d_163_27 rfl
theorem d_163_28 : decode (mB 163) 28 = .ok (.bastore, 1) := by decide +kernel
theorem s_163_28 {d : Nat} {Q : wQ} {L : List (Option Value)} {st : List Value} {w : aw} {cn sn : Nat} {a : Nat} {i x : Int32} : wp d 163 Q 28 L (.int x :: .int i :: .ref a :: st) w cn sn = (inR i (ln w a) ∧ ((kd w a = 21 ∧ wp d 163 Q 29 L st (uA w a i.toNatClampNeg (vp_nar .byte x)) cn sn) ∨ (kd w a = 23 ∧ wp d 163 Q 29 L st (uA w a i.toNatClampNeg (vp_nar .boolean x)) cn sn))) := wp_row d_163_28 _ _ _ _ _
theorem d_163_29 : decode (mB 163) 29 = .ok (.aload_n 0, 1) := by decide +kernel
theorem s_163_29 {d : Nat} {Q : wQ} {L : List (Option Value)} {st : List Value} {w : aw} {cn sn : Nat} {v : Nat} : wp d 163 Q 29 (some (.ref v) :: L) st w cn sn = wp d 163 Q 30 (some (.ref v) :: L) (.ref v :: st) w cn sn := w_aload_n d_163_29 rfl
theorem d_163_30 : decode (mB 163) 30 = .ok (.dup, 1) := by decide +kernel
theorem s_163_30 {d : Nat} {Q : wQ} {L : List (Option Value)} {st : List Value} {w : aw} {cn sn : Nat} {v : Value} : wp d 163 Q 30 L (v :: st) w cn sn = (v.category = 1 ∧ wp d 163 Q 31 L (v :: v :: st) w cn sn) := wp_row d_163_30 _ _ _ _ _
theorem d_163_31 : decode (mB 163) 31 = .ok (.getfield 299, 3) := by decide +kernel
theorem s_163_31 {d : Nat} {Q : wQ} {L : List (Option Value)} {st : List Value} {w : aw} {cn sn : Nat} {a : Nat} : wp d 163 Q 31 L (.ref a :: st) w cn sn = (kd w a = 9 ∧ wp d 163 Q 34 L (fd w 553 a :: st) w cn sn) := w_getfield d_163_31 (by decide +kernel : fT (mO 163) 299 = some (8, 41))
theorem d_163_34 : decode (mB 163) 34 = .ok (.iconst 1, 1) := by decide +kernel
theorem s_163_34 {d : Nat} {Q : wQ} {L : List (Option Value)} {st : List Value} {w : aw} {cn sn : Nat}  : wp d 163 Q 34 L st w cn sn = wp d 163 Q 35 L (.int 1 :: st) w cn sn := w_iconst d_163_34 (by decide)
theorem d_163_35 : decode (mB 163) 35 = .ok (.iadd, 1) := by decide +kernel
theorem s_163_35 {d : Nat} {Q : wQ} {L : List (Option Value)} {st : List Value} {w : aw} {cn sn : Nat} {a b : Int32} : wp d 163 Q 35 L (.int b :: .int a :: st) w cn sn = wp d 163 Q 36 L (.int (a + b) :: st) w cn sn := wp_row d_163_35 _ _ _ _ _
theorem d_163_36 : decode (mB 163) 36 = .ok (.putfield 299, 3) := by decide +kernel
theorem s_163_36 {d : Nat} {Q : wQ} {L : List (Option Value)} {st : List Value} {w : aw} {cn sn : Nat} {x : Int32} {a : Nat} : wp d 163 Q 36 L (.int x :: .ref a :: st) w cn sn = (kd w a = 9 ∧ wp d 163 Q 39 L st (uF w 553 a (.int x)) cn sn) := w_putfield d_163_36 (by decide +kernel : fT (mO 163) 299 = some (8, 41)) (by decide +kernel) ok_int
theorem d_163_39 : decode (mB 163) 39 = .ok (.iconst 0, 1) := by decide +kernel
theorem s_163_39 {d : Nat} {Q : wQ} {L : List (Option Value)} {st : List Value} {w : aw} {cn sn : Nat}  : wp d 163 Q 39 L st w cn sn = wp d 163 Q 40 L (.int 0 :: st) w cn sn := w_iconst d_163_39 (by decide)
theorem d_163_40 : decode (mB 163) 40 = .ok (.ireturn, 1) := by decide +kernel
theorem s_163_40 {d : Nat} {Q : wQ} {L : List (Option Value)} {w : aw} {cn sn : Nat} {v : Int32} : wp d 163 Q 40 L [.int v] w cn sn = Q (some (.int v)) w := w_ireturn d_163_40 rfl
theorem d_164_0 : decode (mB 164) 0 = .ok (.aload_n 0, 1) := by decide +kernel
theorem s_164_0 {d : Nat} {Q : wQ} {L : List (Option Value)} {st : List Value} {w : aw} {cn sn : Nat} {v : Nat} : wp d 164 Q 0 (some (.ref v) :: L) st w cn sn = wp d 164 Q 1 (some (.ref v) :: L) (.ref v :: st) w cn sn := w_aload_n d_164_0 rfl
theorem d_164_1 : decode (mB 164) 1 = .ok (.getfield 254, 3) := by decide +kernel
theorem s_164_1 {d : Nat} {Q : wQ} {L : List (Option Value)} {st : List Value} {w : aw} {cn sn : Nat} {a : Nat} : wp d 164 Q 1 L (.ref a :: st) w cn sn = (kd w a = 9 ∧ wp d 164 Q 4 L (fd w 554 a :: st) w cn sn) := w_getfield d_164_1 (by decide +kernel : fT (mO 164) 254 = some (8, 42))
theorem d_164_4 : decode (mB 164) 4 = .ok (.sipush 3968, 3) := by decide +kernel
theorem s_164_4 {d : Nat} {Q : wQ} {L : List (Option Value)} {st : List Value} {w : aw} {cn sn : Nat}  : wp d 164 Q 4 L st w cn sn = wp d 164 Q 7 L (.int 3968 :: st) w cn sn := w_sipush d_164_4 (by decide)
theorem d_164_7 : decode (mB 164) 7 = .ok (.iand, 1) := by decide +kernel
theorem s_164_7 {d : Nat} {Q : wQ} {L : List (Option Value)} {st : List Value} {w : aw} {cn sn : Nat} {a b : Int32} : wp d 164 Q 7 L (.int b :: .int a :: st) w cn sn = wp d 164 Q 8 L (.int (a &&& b) :: st) w cn sn := wp_row d_164_7 _ _ _ _ _
theorem d_164_8 : decode (mB 164) 8 = .ok (.istore_n 2, 1) := by decide +kernel
theorem s_164_8 {d : Nat} {Q : wQ} {L : List (Option Value)} {st : List Value} {w : aw} {cn sn : Nat} {a0 a1 a2 : Option Value} {v : Int32} : wp d 164 Q 8 (a0 :: a1 :: a2 :: L) (.int v :: st) w cn sn = wp d 164 Q 9 (a0 :: clr a1 :: some (.int v) :: L) st w cn sn := w_istore_n d_164_8 (Nat.le_add_left 3 _) rfl
theorem d_164_9 : decode (mB 164) 9 = .ok (.iload_n 2, 1) := by decide +kernel
theorem s_164_9 {d : Nat} {Q : wQ} {L : List (Option Value)} {st : List Value} {w : aw} {cn sn : Nat} {a0 a1 : Option Value} {v : Int32} : wp d 164 Q 9 (a0 :: a1 :: some (.int v) :: L) st w cn sn = wp d 164 Q 10 (a0 :: a1 :: some (.int v) :: L) (.int v :: st) w cn sn := w_iload_n d_164_9 rfl
theorem d_164_10 : decode (mB 164) 10 = .ok (.istore_n 3, 1) := by decide +kernel
theorem s_164_10 {d : Nat} {Q : wQ} {L : List (Option Value)} {st : List Value} {w : aw} {cn sn : Nat} {a0 a1 a2 a3 : Option Value} {v : Int32} : wp d 164 Q 10 (a0 :: a1 :: a2 :: a3 :: L) (.int v :: st) w cn sn = wp d 164 Q 11 (a0 :: a1 :: clr a2 :: some (.int v) :: L) st w cn sn := w_istore_n d_164_10 (Nat.le_add_left 4 _) rfl
theorem d_164_11 : decode (mB 164) 11 = .ok (.iload_n 3, 1) := by decide +kernel
theorem s_164_11 {d : Nat} {Q : wQ} {L : List (Option Value)} {st : List Value} {w : aw} {cn sn : Nat} {a0 a1 a2 : Option Value} {v : Int32} : wp d 164 Q 11 (a0 :: a1 :: a2 :: some (.int v) :: L) st w cn sn = wp d 164 Q 12 (a0 :: a1 :: a2 :: some (.int v) :: L) (.int v :: st) w cn sn := w_iload_n d_164_11 rfl
theorem d_164_12 : decode (mB 164) 12 = .ok (.iload_n 2, 1) := by decide +kernel
theorem s_164_12 {d : Nat} {Q : wQ} {L : List (Option Value)} {st : List Value} {w : aw} {cn sn : Nat} {a0 a1 : Option Value} {v : Int32} : wp d 164 Q 12 (a0 :: a1 :: some (.int v) :: L) st w cn sn = wp d 164 Q 13 (a0 :: a1 :: some (.int v) :: L) (.int v :: st) w cn sn := w_iload_n d_164_12 rfl
theorem d_164_13 : decode (mB 164) 13 = .ok (.sipush 128, 3) := by decide +kernel
theorem s_164_13 {d : Nat} {Q : wQ} {L : List (Option Value)} {st : List Value} {w : aw} {cn sn : Nat}  : wp d 164 Q 13 L st w cn sn = wp d 164 Q 16 L (.int 128 :: st) w cn sn := w_sipush d_164_13 (by decide)
theorem d_164_16 : decode (mB 164) 16 = .ok (.iadd, 1) := by decide +kernel
theorem s_164_16 {d : Nat} {Q : wQ} {L : List (Option Value)} {st : List Value} {w : aw} {cn sn : Nat} {a b : Int32} : wp d 164 Q 16 L (.int b :: .int a :: st) w cn sn = wp d 164 Q 17 L (.int (a + b) :: st) w cn sn := wp_row d_164_16 _ _ _ _ _
theorem d_164_17 : decode (mB 164) 17 = .ok (.if_icmp .ge 30, 3) := by decide +kernel
theorem s_164_17 {d : Nat} {Q : wQ} {L : List (Option Value)} {st : List Value} {w : aw} {cn sn : Nat} {a b : Int32} : wp d 164 Q 17 L (.int b :: .int a :: st) w cn sn = ((b ≤ a → wp d 164 Q 47 L st w cn sn) ∧ (¬ b ≤ a → wp d 164 Q 20 L st w cn sn)) := w_icge d_164_17 (by decide)
theorem d_164_20 : decode (mB 164) 20 = .ok (.aload_n 0, 1) := by decide +kernel
theorem s_164_20 {d : Nat} {Q : wQ} {L : List (Option Value)} {st : List Value} {w : aw} {cn sn : Nat} {v : Nat} : wp d 164 Q 20 (some (.ref v) :: L) st w cn sn = wp d 164 Q 21 (some (.ref v) :: L) (.ref v :: st) w cn sn := w_aload_n d_164_20 rfl
theorem d_164_21 : decode (mB 164) 21 = .ok (.getfield 82, 3) := by decide +kernel
theorem s_164_21 {d : Nat} {Q : wQ} {L : List (Option Value)} {st : List Value} {w : aw} {cn sn : Nat} {a : Nat} : wp d 164 Q 21 L (.ref a :: st) w cn sn = (kd w a = 9 ∧ wp d 164 Q 24 L (fd w 550 a :: st) w cn sn) := w_getfield d_164_21 (by decide +kernel : fT (mO 164) 82 = some (8, 38))
theorem d_164_24 : decode (mB 164) 24 = .ok (.iload_n 3, 1) := by decide +kernel
theorem s_164_24 {d : Nat} {Q : wQ} {L : List (Option Value)} {st : List Value} {w : aw} {cn sn : Nat} {a0 a1 a2 : Option Value} {v : Int32} : wp d 164 Q 24 (a0 :: a1 :: a2 :: some (.int v) :: L) st w cn sn = wp d 164 Q 25 (a0 :: a1 :: a2 :: some (.int v) :: L) (.int v :: st) w cn sn := w_iload_n d_164_24 rfl
theorem d_164_25 : decode (mB 164) 25 = .ok (.iaload, 1) := by decide +kernel
theorem s_164_25 {d : Nat} {Q : wQ} {L : List (Option Value)} {st : List Value} {w : aw} {cn sn : Nat} {a : Nat} {i : Int32} : wp d 164 Q 25 L (.int i :: .ref a :: st) w cn sn = ((kd w a = 20 ∨ kd w a = 30) ∧ inR i (ln w a) ∧ wp d 164 Q 26 L (.int (ai w a i.toNatClampNeg) :: st) w cn sn) := wp_row d_164_25 _ _ _ _ _
theorem d_164_26 : decode (mB 164) 26 = .ok (.iload_n 1, 1) := by decide +kernel
theorem s_164_26 {d : Nat} {Q : wQ} {L : List (Option Value)} {st : List Value} {w : aw} {cn sn : Nat} {a0 : Option Value} {v : Int32} : wp d 164 Q 26 (a0 :: some (.int v) :: L) st w cn sn = wp d 164 Q 27 (a0 :: some (.int v) :: L) (.int v :: st) w cn sn := w_iload_n d_164_26 rfl
theorem d_164_27 : decode (mB 164) 27 = .ok (.if_icmp .ne 14, 3) := by decide +kernel
theorem s_164_27 {d : Nat} {Q : wQ} {L : List (Option Value)} {st : List Value} {w : aw} {cn sn : Nat} {a b : Int32} : wp d 164 Q 27 L (.int b :: .int a :: st) w cn sn = ((¬ a = b → wp d 164 Q 41 L st w cn sn) ∧ (a = b → wp d 164 Q 30 L st w cn sn)) := w_icne d_164_27 (by decide)
theorem d_164_30 : decode (mB 164) 30 = .ok (.aload_n 0, 1) := by decide +kernel
theorem s_164_30 {d : Nat} {Q : wQ} {L : List (Option Value)} {st : List Value} {w : aw} {cn sn : Nat} {v : Nat} : wp d 164 Q 30 (some (.ref v) :: L) st w cn sn = wp d 164 Q 31 (some (.ref v) :: L) (.ref v :: st) w cn sn := w_aload_n d_164_30 rfl
theorem d_164_31 : decode (mB 164) 31 = .ok (.getfield 85, 3) := by decide +kernel
theorem s_164_31 {d : Nat} {Q : wQ} {L : List (Option Value)} {st : List Value} {w : aw} {cn sn : Nat} {a : Nat} : wp d 164 Q 31 L (.ref a :: st) w cn sn = (kd w a = 9 ∧ wp d 164 Q 34 L (fd w 551 a :: st) w cn sn) := w_getfield d_164_31 (by decide +kernel : fT (mO 164) 85 = some (8, 39))
theorem d_164_34 : decode (mB 164) 34 = .ok (.iload_n 3, 1) := by decide +kernel
theorem s_164_34 {d : Nat} {Q : wQ} {L : List (Option Value)} {st : List Value} {w : aw} {cn sn : Nat} {a0 a1 a2 : Option Value} {v : Int32} : wp d 164 Q 34 (a0 :: a1 :: a2 :: some (.int v) :: L) st w cn sn = wp d 164 Q 35 (a0 :: a1 :: a2 :: some (.int v) :: L) (.int v :: st) w cn sn := w_iload_n d_164_34 rfl
theorem d_164_35 : decode (mB 164) 35 = .ok (.baload, 1) := by decide +kernel
theorem s_164_35 {d : Nat} {Q : wQ} {L : List (Option Value)} {st : List Value} {w : aw} {cn sn : Nat} {a : Nat} {i : Int32} : wp d 164 Q 35 L (.int i :: .ref a :: st) w cn sn = ((kd w a = 21 ∨ kd w a = 23) ∧ inR i (ln w a) ∧ wp d 164 Q 36 L (.int (ai w a i.toNatClampNeg) :: st) w cn sn) := wp_row d_164_35 _ _ _ _ _
theorem d_164_36 : decode (mB 164) 36 = .ok (.ifCond .eq 5, 3) := by decide +kernel
theorem s_164_36 {d : Nat} {Q : wQ} {L : List (Option Value)} {st : List Value} {w : aw} {cn sn : Nat} {x : Int32} : wp d 164 Q 36 L (.int x :: st) w cn sn = ((x = 0 → wp d 164 Q 41 L st w cn sn) ∧ (¬ x = 0 → wp d 164 Q 39 L st w cn sn)) := w_ifeq d_164_36 (by decide)
theorem d_164_39 : decode (mB 164) 39 = .ok (.iload_n 3, 1) := by decide +kernel
theorem s_164_39 {d : Nat} {Q : wQ} {L : List (Option Value)} {st : List Value} {w : aw} {cn sn : Nat} {a0 a1 a2 : Option Value} {v : Int32} : wp d 164 Q 39 (a0 :: a1 :: a2 :: some (.int v) :: L) st w cn sn = wp d 164 Q 40 (a0 :: a1 :: a2 :: some (.int v) :: L) (.int v :: st) w cn sn := w_iload_n d_164_39 rfl
theorem d_164_40 : decode (mB 164) 40 = .ok (.ireturn, 1) := by decide +kernel
theorem s_164_40 {d : Nat} {Q : wQ} {L : List (Option Value)} {w : aw} {cn sn : Nat} {v : Int32} : wp d 164 Q 40 L [.int v] w cn sn = Q (some (.int v)) w := w_ireturn d_164_40 rfl
theorem d_164_41 : decode (mB 164) 41 = .ok (.iinc 3 1, 3) := by decide +kernel
theorem s_164_41 {d : Nat} {Q : wQ} {L : List (Option Value)} {st : List Value} {w : aw} {cn sn : Nat} {a0 a1 a2 : Option Value} {v : Int32} : wp d 164 Q 41 (a0 :: a1 :: a2 :: some (.int v) :: L) st w cn sn = wp d 164 Q 44 (a0 :: a1 :: clr a2 :: some (.int (v + 1)) :: L) st w cn sn := w_iinc d_164_41 rfl (by decide) rfl
theorem d_164_44 : decode (mB 164) 44 = .ok (.goto (-33), 3) := by decide +kernel
theorem s_164_44 {d : Nat} {Q : wQ} {L : List (Option Value)} {st : List Value} {w : aw} {cn sn : Nat}  : wp d 164 Q 44 L st w cn sn = wp d 164 Q 11 L st w cn sn := w_goto d_164_44 (by decide)
theorem d_164_47 : decode (mB 164) 47 = .ok (.iload_n 2, 1) := by decide +kernel
theorem s_164_47 {d : Nat} {Q : wQ} {L : List (Option Value)} {st : List Value} {w : aw} {cn sn : Nat} {a0 a1 : Option Value} {v : Int32} : wp d 164 Q 47 (a0 :: a1 :: some (.int v) :: L) st w cn sn = wp d 164 Q 48 (a0 :: a1 :: some (.int v) :: L) (.int v :: st) w cn sn := w_iload_n d_164_47 rfl
theorem d_164_48 : decode (mB 164) 48 = .ok (.aload_n 0, 1) := by decide +kernel
theorem s_164_48 {d : Nat} {Q : wQ} {L : List (Option Value)} {st : List Value} {w : aw} {cn sn : Nat} {v : Nat} : wp d 164 Q 48 (some (.ref v) :: L) st w cn sn = wp d 164 Q 49 (some (.ref v) :: L) (.ref v :: st) w cn sn := w_aload_n d_164_48 rfl
theorem d_164_49 : decode (mB 164) 49 = .ok (.getfield 89, 3) := by decide +kernel
theorem s_164_49 {d : Nat} {Q : wQ} {L : List (Option Value)} {st : List Value} {w : aw} {cn sn : Nat} {a : Nat} : wp d 164 Q 49 L (.ref a :: st) w cn sn = (kd w a = 9 ∧ wp d 164 Q 52 L (fd w 552 a :: st) w cn sn) := w_getfield d_164_49 (by decide +kernel : fT (mO 164) 89 = some (8, 40))
theorem d_164_52 : decode (mB 164) 52 = .ok (.iload_n 2, 1) := by decide +kernel
theorem s_164_52 {d : Nat} {Q : wQ} {L : List (Option Value)} {st : List Value} {w : aw} {cn sn : Nat} {a0 a1 : Option Value} {v : Int32} : wp d 164 Q 52 (a0 :: a1 :: some (.int v) :: L) st w cn sn = wp d 164 Q 53 (a0 :: a1 :: some (.int v) :: L) (.int v :: st) w cn sn := w_iload_n d_164_52 rfl
theorem d_164_53 : decode (mB 164) 53 = .ok (.sipush 128, 3) := by decide +kernel
theorem s_164_53 {d : Nat} {Q : wQ} {L : List (Option Value)} {st : List Value} {w : aw} {cn sn : Nat}  : wp d 164 Q 53 L st w cn sn = wp d 164 Q 56 L (.int 128 :: st) w cn sn := w_sipush d_164_53 (by decide)
theorem d_164_56 : decode (mB 164) 56 = .ok (.idiv, 1) := by decide +kernel
theorem s_164_56 {d : Nat} {Q : wQ} {L : List (Option Value)} {st : List Value} {w : aw} {cn sn : Nat} {a b : Int32} : wp d 164 Q 56 L (.int b :: .int a :: st) w cn sn = (¬ b = 0 ∧ wp d 164 Q 57 L (.int (a / b) :: st) w cn sn) := wp_row d_164_56 _ _ _ _ _
theorem d_164_57 : decode (mB 164) 57 = .ok (.iaload, 1) := by decide +kernel
theorem s_164_57 {d : Nat} {Q : wQ} {L : List (Option Value)} {st : List Value} {w : aw} {cn sn : Nat} {a : Nat} {i : Int32} : wp d 164 Q 57 L (.int i :: .ref a :: st) w cn sn = ((kd w a = 20 ∨ kd w a = 30) ∧ inR i (ln w a) ∧ wp d 164 Q 58 L (.int (ai w a i.toNatClampNeg) :: st) w cn sn) := wp_row d_164_57 _ _ _ _ _
theorem d_164_58 : decode (mB 164) 58 = .ok (.iadd, 1) := by decide +kernel
theorem s_164_58 {d : Nat} {Q : wQ} {L : List (Option Value)} {st : List Value} {w : aw} {cn sn : Nat} {a b : Int32} : wp d 164 Q 58 L (.int b :: .int a :: st) w cn sn = wp d 164 Q 59 L (.int (a + b) :: st) w cn sn := wp_row d_164_58 _ _ _ _ _
theorem d_164_59 : decode (mB 164) 59 = .ok (.istore_n 3, 1) := by decide +kernel
theorem s_164_59 {d : Nat} {Q : wQ} {L : List (Option Value)} {st : List Value} {w : aw} {cn sn : Nat} {a0 a1 a2 a3 : Option Value} {v : Int32} : wp d 164 Q 59 (a0 :: a1 :: a2 :: a3 :: L) (.int v :: st) w cn sn = wp d 164 Q 60 (a0 :: a1 :: clr a2 :: some (.int v) :: L) st w cn sn := w_istore_n d_164_59 (Nat.le_add_left 4 _) rfl
theorem d_164_60 : decode (mB 164) 60 = .ok (.aload_n 0, 1) := by decide +kernel
theorem s_164_60 {d : Nat} {Q : wQ} {L : List (Option Value)} {st : List Value} {w : aw} {cn sn : Nat} {v : Nat} : wp d 164 Q 60 (some (.ref v) :: L) st w cn sn = wp d 164 Q 61 (some (.ref v) :: L) (.ref v :: st) w cn sn := w_aload_n d_164_60 rfl
theorem d_164_61 : decode (mB 164) 61 = .ok (.getfield 89, 3) := by decide +kernel
theorem s_164_61 {d : Nat} {Q : wQ} {L : List (Option Value)} {st : List Value} {w : aw} {cn sn : Nat} {a : Nat} : wp d 164 Q 61 L (.ref a :: st) w cn sn = (kd w a = 9 ∧ wp d 164 Q 64 L (fd w 552 a :: st) w cn sn) := w_getfield d_164_61 (by decide +kernel : fT (mO 164) 89 = some (8, 40))
theorem d_164_64 : decode (mB 164) 64 = .ok (.iload_n 2, 1) := by decide +kernel
theorem s_164_64 {d : Nat} {Q : wQ} {L : List (Option Value)} {st : List Value} {w : aw} {cn sn : Nat} {a0 a1 : Option Value} {v : Int32} : wp d 164 Q 64 (a0 :: a1 :: some (.int v) :: L) st w cn sn = wp d 164 Q 65 (a0 :: a1 :: some (.int v) :: L) (.int v :: st) w cn sn := w_iload_n d_164_64 rfl
theorem d_164_65 : decode (mB 164) 65 = .ok (.sipush 128, 3) := by decide +kernel
theorem s_164_65 {d : Nat} {Q : wQ} {L : List (Option Value)} {st : List Value} {w : aw} {cn sn : Nat}  : wp d 164 Q 65 L st w cn sn = wp d 164 Q 68 L (.int 128 :: st) w cn sn := w_sipush d_164_65 (by decide)
theorem d_164_68 : decode (mB 164) 68 = .ok (.idiv, 1) := by decide +kernel
theorem s_164_68 {d : Nat} {Q : wQ} {L : List (Option Value)} {st : List Value} {w : aw} {cn sn : Nat} {a b : Int32} : wp d 164 Q 68 L (.int b :: .int a :: st) w cn sn = (¬ b = 0 ∧ wp d 164 Q 69 L (.int (a / b) :: st) w cn sn) := wp_row d_164_68 _ _ _ _ _
theorem d_164_69 : decode (mB 164) 69 = .ok (.iaload, 1) := by decide +kernel
theorem s_164_69 {d : Nat} {Q : wQ} {L : List (Option Value)} {st : List Value} {w : aw} {cn sn : Nat} {a : Nat} {i : Int32} : wp d 164 Q 69 L (.int i :: .ref a :: st) w cn sn = ((kd w a = 20 ∨ kd w a = 30) ∧ inR i (ln w a) ∧ wp d 164 Q 70 L (.int (ai w a i.toNatClampNeg) :: st) w cn sn) := wp_row d_164_69 _ _ _ _ _
theorem d_164_70 : decode (mB 164) 70 = .ok (.ifCond .lt 13, 3) := by decide +kernel
theorem s_164_70 {d : Nat} {Q : wQ} {L : List (Option Value)} {st : List Value} {w : aw} {cn sn : Nat} {x : Int32} : wp d 164 Q 70 L (.int x :: st) w cn sn = ((x < 0 → wp d 164 Q 83 L st w cn sn) ∧ (¬ x < 0 → wp d 164 Q 73 L st w cn sn)) := w_iflt d_164_70 (by decide)
theorem d_164_73 : decode (mB 164) 73 = .ok (.aload_n 0, 1) := by decide +kernel
theorem s_164_73 {d : Nat} {Q : wQ} {L : List (Option Value)} {st : List Value} {w : aw} {cn sn : Nat} {v : Nat} : wp d 164 Q 73 (some (.ref v) :: L) st w cn sn = wp d 164 Q 74 (some (.ref v) :: L) (.ref v :: st) w cn sn := w_aload_n d_164_73 rfl
theorem d_164_74 : decode (mB 164) 74 = .ok (.iload_n 3, 1) := by decide +kernel
theorem s_164_74 {d : Nat} {Q : wQ} {L : List (Option Value)} {st : List Value} {w : aw} {cn sn : Nat} {a0 a1 a2 : Option Value} {v : Int32} : wp d 164 Q 74 (a0 :: a1 :: a2 :: some (.int v) :: L) st w cn sn = wp d 164 Q 75 (a0 :: a1 :: a2 :: some (.int v) :: L) (.int v :: st) w cn sn := w_iload_n d_164_74 rfl
theorem d_164_75 : decode (mB 164) 75 = .ok (.iload_n 1, 1) := by decide +kernel
theorem s_164_75 {d : Nat} {Q : wQ} {L : List (Option Value)} {st : List Value} {w : aw} {cn sn : Nat} {a0 : Option Value} {v : Int32} : wp d 164 Q 75 (a0 :: some (.int v) :: L) st w cn sn = wp d 164 Q 76 (a0 :: some (.int v) :: L) (.int v :: st) w cn sn := w_iload_n d_164_75 rfl
theorem d_164_76 : decode (mB 164) 76 = .ok (.iconst 1, 1) := by decide +kernel
theorem s_164_76 {d : Nat} {Q : wQ} {L : List (Option Value)} {st : List Value} {w : aw} {cn sn : Nat}  : wp d 164 Q 76 L st w cn sn = wp d 164 Q 77 L (.int 1 :: st) w cn sn := w_iconst d_164_76 (by decide)
theorem d_164_77 : decode (mB 164) 77 = .ok (.invokevirtual 302, 3) := by decide +kernel
theorem s_164_77 {d : Nat} {Q : wQ} {L : List (Option Value)} {st : List Value} {w : aw} {cn sn : Nat} {v0 v1 v2 : Value} {b : Nat} : wp d 164 Q 77 L (v2 :: v1 :: v0 :: .ref b :: st) w cn sn = (kd w b = 9 ∧ catS st ≤ 8 ∧ wpD d 163 [.ref b, v0, v1, v2] w (fun v w' => wp d 164 Q 80 L (v.toList ++ st) w' cn sn)) := w_virtual (As := [v0, v1, v2]) d_164_77 (by decide +kernel : cT (mO 164) 302 = some (0, 163)) rfl (by decide +kernel) rfl (by decide +kernel) rfl
theorem d_164_80 : decode (mB 164) 80 = .ok (.ifCond .le 6, 3) := by decide +kernel
theorem s_164_80 {d : Nat} {Q : wQ} {L : List (Option Value)} {st : List Value} {w : aw} {cn sn : Nat} {x : Int32} : wp d 164 Q 80 L (.int x :: st) w cn sn = ((x ≤ 0 → wp d 164 Q 86 L st w cn sn) ∧ (¬ x ≤ 0 → wp d 164 Q 83 L st w cn sn)) := w_ifle d_164_80 (by decide)
theorem d_164_83 : decode (mB 164) 83 = .ok (.bipush (-5), 2) := by decide +kernel
theorem s_164_83 {d : Nat} {Q : wQ} {L : List (Option Value)} {st : List Value} {w : aw} {cn sn : Nat}  : wp d 164 Q 83 L st w cn sn = wp d 164 Q 85 L (.int (-5) :: st) w cn sn := w_bipush d_164_83 (by decide)
theorem d_164_85 : decode (mB 164) 85 = .ok (.ireturn, 1) := by decide +kernel
theorem s_164_85 {d : Nat} {Q : wQ} {L : List (Option Value)} {w : aw} {cn sn : Nat} {v : Int32} : wp d 164 Q 85 L [.int v] w cn sn = Q (some (.int v)) w := w_ireturn d_164_85 rfl
theorem d_164_86 : decode (mB 164) 86 = .ok (.aload_n 0, 1) := by decide +kernel
theorem s_164_86 {d : Nat} {Q : wQ} {L : List (Option Value)} {st : List Value} {w : aw} {cn sn : Nat} {v : Nat} : wp d 164 Q 86 (some (.ref v) :: L) st w cn sn = wp d 164 Q 87 (some (.ref v) :: L) (.ref v :: st) w cn sn := w_aload_n d_164_86 rfl
theorem d_164_87 : decode (mB 164) 87 = .ok (.getfield 89, 3) := by decide +kernel
theorem s_164_87 {d : Nat} {Q : wQ} {L : List (Option Value)} {st : List Value} {w : aw} {cn sn : Nat} {a : Nat} : wp d 164 Q 87 L (.ref a :: st) w cn sn = (kd w a = 9 ∧ wp d 164 Q 90 L (fd w 552 a :: st) w cn sn) := w_getfield d_164_87 (by decide +kernel : fT (mO 164) 89 = some (8, 40))
theorem d_164_90 : decode (mB 164) 90 = .ok (.iload_n 2, 1) := by decide +kernel
theorem s_164_90 {d : Nat} {Q : wQ} {L : List (Option Value)} {st : List Value} {w : aw} {cn sn : Nat} {a0 a1 : Option Value} {v : Int32} : wp d 164 Q 90 (a0 :: a1 :: some (.int v) :: L) st w cn sn = wp d 164 Q 91 (a0 :: a1 :: some (.int v) :: L) (.int v :: st) w cn sn := w_iload_n d_164_90 rfl
theorem d_164_91 : decode (mB 164) 91 = .ok (.sipush 128, 3) := by decide +kernel
theorem s_164_91 {d : Nat} {Q : wQ} {L : List (Option Value)} {st : List Value} {w : aw} {cn sn : Nat}  : wp d 164 Q 91 L st w cn sn = wp d 164 Q 94 L (.int 128 :: st) w cn sn := w_sipush d_164_91 (by decide)
theorem d_164_94 : decode (mB 164) 94 = .ok (.idiv, 1) := by decide +kernel
theorem s_164_94 {d : Nat} {Q : wQ} {L : List (Option Value)} {st : List Value} {w : aw} {cn sn : Nat} {a b : Int32} : wp d 164 Q 94 L (.int b :: .int a :: st) w cn sn = (¬ b = 0 ∧ wp d 164 Q 95 L (.int (a / b) :: st) w cn sn) := wp_row d_164_94 _ _ _ _ _
theorem d_164_95 : decode (mB 164) 95 = .ok (.dup2, 1) := by decide +kernel
theorem s_164_95 {d : Nat} {Q : wQ} {L : List (Option Value)} {st : List Value} {w : aw} {cn sn : Nat} {a b : Value} : wp d 164 Q 95 L (a :: b :: st) w cn sn = (a.category = 1 ∧ b.category = 1 ∧ wp d 164 Q 96 L (a :: b :: a :: b :: st) w cn sn) := wp_row d_164_95 _ _ _ _ _
theorem d_164_96 : decode (mB 164) 96 = .ok (.iaload, 1) := by decide +kernel
theorem s_164_96 {d : Nat} {Q : wQ} {L : List (Option Value)} {st : List Value} {w : aw} {cn sn : Nat} {a : Nat} {i : Int32} : wp d 164 Q 96 L (.int i :: .ref a :: st) w cn sn = ((kd w a = 20 ∨ kd w a = 30) ∧ inR i (ln w a) ∧ wp d 164 Q 97 L (.int (ai w a i.toNatClampNeg) :: st) w cn sn) := wp_row d_164_96 _ _ _ _ _
theorem d_164_97 : decode (mB 164) 97 = .ok (.iconst 1, 1) := by decide +kernel
theorem s_164_97 {d : Nat} {Q : wQ} {L : List (Option Value)} {st : List Value} {w : aw} {cn sn : Nat}  : wp d 164 Q 97 L st w cn sn = wp d 164 Q 98 L (.int 1 :: st) w cn sn := w_iconst d_164_97 (by decide)
theorem d_164_98 : decode (mB 164) 98 = .ok (.isub, 1) := by decide +kernel
theorem s_164_98 {d : Nat} {Q : wQ} {L : List (Option Value)} {st : List Value} {w : aw} {cn sn : Nat} {a b : Int32} : wp d 164 Q 98 L (.int b :: .int a :: st) w cn sn = wp d 164 Q 99 L (.int (a - b) :: st) w cn sn := wp_row d_164_98 _ _ _ _ _
theorem d_164_99 : decode (mB 164) 99 = .ok (.iastore, 1) := by decide +kernel
theorem s_164_99 {d : Nat} {Q : wQ} {L : List (Option Value)} {st : List Value} {w : aw} {cn sn : Nat} {a : Nat} {i x : Int32} : wp d 164 Q 99 L (.int x :: .int i :: .ref a :: st) w cn sn = (kd w a = 20 ∧ inR i (ln w a) ∧ wp d 164 Q 100 L st (uA w a i.toNatClampNeg x) cn sn) := wp_row d_164_99 _ _ _ _ _
theorem d_164_100 : decode (mB 164) 100 = .ok (.iload_n 3, 1) := by decide +kernel
theorem s_164_100 {d : Nat} {Q : wQ} {L : List (Option Value)} {st : List Value} {w : aw} {cn sn : Nat} {a0 a1 a2 : Option Value} {v : Int32} : wp d 164 Q 100 (a0 :: a1 :: a2 :: some (.int v) :: L) st w cn sn = wp d 164 Q 101 (a0 :: a1 :: a2 :: some (.int v) :: L) (.int v :: st) w cn sn := w_iload_n d_164_100 rfl
theorem d_164_101 : decode (mB 164) 101 = .ok (.ireturn, 1) := by decide +kernel
theorem s_164_101 {d : Nat} {Q : wQ} {L : List (Option Value)} {w : aw} {cn sn : Nat} {v : Int32} : wp d 164 Q 101 L [.int v] w cn sn = Q (some (.int v)) w := w_ireturn d_164_101 rfl
theorem d_165_0 : decode (mB 165) 0 = .ok (.aload_n 0, 1) := by decide +kernel
theorem s_165_0 {d : Nat} {Q : wQ} {L : List (Option Value)} {st : List Value} {w : aw} {cn sn : Nat} {v : Nat} : wp d 165 Q 0 (some (.ref v) :: L) st w cn sn = wp d 165 Q 1 (some (.ref v) :: L) (.ref v :: st) w cn sn := w_aload_n d_165_0 rfl
theorem d_165_1 : decode (mB 165) 1 = .ok (.invokevirtual 267, 3) := by decide +kernel
theorem s_165_1 {d : Nat} {Q : wQ} {L : List (Option Value)} {st : List Value} {w : aw} {cn sn : Nat} {b : Nat} : wp d 165 Q 1 L (.ref b :: st) w cn sn = (kd w b = 9 ∧ catS st ≤ 8 ∧ wpD d 146 [.ref b] w (fun v w' => wp d 165 Q 4 L (v.toList ++ st) w' cn sn)) := w_virtual (As := []) d_165_1 (by decide +kernel : cT (mO 165) 267 = some (0, 146)) rfl (by decide +kernel) rfl (by decide +kernel) rfl
theorem d_165_4 : decode (mB 165) 4 = .ok (.aload_n 0, 1) := by decide +kernel
theorem s_165_4 {d : Nat} {Q : wQ} {L : List (Option Value)} {st : List Value} {w : aw} {cn sn : Nat} {v : Nat} : wp d 165 Q 4 (some (.ref v) :: L) st w cn sn = wp d 165 Q 5 (some (.ref v) :: L) (.ref v :: st) w cn sn := w_aload_n d_165_4 rfl
theorem d_165_5 : decode (mB 165) 5 = .ok (.invokevirtual 270, 3) := by decide +kernel
theorem s_165_5 {d : Nat} {Q : wQ} {L : List (Option Value)} {st : List Value} {w : aw} {cn sn : Nat} {b : Nat} : wp d 165 Q 5 L (.ref b :: st) w cn sn = (kd w b = 9 ∧ catS st ≤ 8 ∧ wpD d 152 [.ref b] w (fun v w' => wp d 165 Q 8 L (v.toList ++ st) w' cn sn)) := w_virtual (As := []) d_165_5 (by decide +kernel : cT (mO 165) 270 = some (0, 152)) rfl (by decide +kernel) rfl (by decide +kernel) rfl
theorem d_165_8 : decode (mB 165) 8 = .ok (.ifCond .eq 24, 3) := by decide +kernel
theorem s_165_8 {d : Nat} {Q : wQ} {L : List (Option Value)} {st : List Value} {w : aw} {cn sn : Nat} {x : Int32} : wp d 165 Q 8 L (.int x :: st) w cn sn = ((x = 0 → wp d 165 Q 32 L st w cn sn) ∧ (¬ x = 0 → wp d 165 Q 11 L st w cn sn)) := w_ifeq d_165_8 (by decide)
theorem d_165_11 : decode (mB 165) 11 = .ok (.aload_n 0, 1) := by decide +kernel
theorem s_165_11 {d : Nat} {Q : wQ} {L : List (Option Value)} {st : List Value} {w : aw} {cn sn : Nat} {v : Nat} : wp d 165 Q 11 (some (.ref v) :: L) st w cn sn = wp d 165 Q 12 (some (.ref v) :: L) (.ref v :: st) w cn sn := w_aload_n d_165_11 rfl
theorem d_165_12 : decode (mB 165) 12 = .ok (.aload_n 0, 1) := by decide +kernel
theorem s_165_12 {d : Nat} {Q : wQ} {L : List (Option Value)} {st : List Value} {w : aw} {cn sn : Nat} {v : Nat} : wp d 165 Q 12 (some (.ref v) :: L) st w cn sn = wp d 165 Q 13 (some (.ref v) :: L) (.ref v :: st) w cn sn := w_aload_n d_165_12 rfl
theorem d_165_13 : decode (mB 165) 13 = .ok (.aload_n 0, 1) := by decide +kernel
theorem s_165_13 {d : Nat} {Q : wQ} {L : List (Option Value)} {st : List Value} {w : aw} {cn sn : Nat} {v : Nat} : wp d 165 Q 13 (some (.ref v) :: L) st w cn sn = wp d 165 Q 14 (some (.ref v) :: L) (.ref v :: st) w cn sn := w_aload_n d_165_13 rfl
theorem d_165_14 : decode (mB 165) 14 = .ok (.getfield 231, 3) := by decide +kernel
theorem s_165_14 {d : Nat} {Q : wQ} {L : List (Option Value)} {st : List Value} {w : aw} {cn sn : Nat} {a : Nat} : wp d 165 Q 14 L (.ref a :: st) w cn sn = (kd w a = 9 ∧ wp d 165 Q 17 L (fd w 555 a :: st) w cn sn) := w_getfield d_165_14 (by decide +kernel : fT (mO 165) 231 = some (8, 43))
theorem d_165_17 : decode (mB 165) 17 = .ok (.invokevirtual 240, 3) := by decide +kernel
theorem s_165_17 {d : Nat} {Q : wQ} {L : List (Option Value)} {st : List Value} {w : aw} {cn sn : Nat} {v0 : Value} {b : Nat} : wp d 165 Q 17 L (v0 :: .ref b :: st) w cn sn = (kd w b = 9 ∧ catS st ≤ 8 ∧ wpD d 147 [.ref b, v0] w (fun v w' => wp d 165 Q 20 L (v.toList ++ st) w' cn sn)) := w_virtual (As := [v0]) d_165_17 (by decide +kernel : cT (mO 165) 240 = some (0, 147)) rfl (by decide +kernel) rfl (by decide +kernel) rfl
theorem d_165_20 : decode (mB 165) 20 = .ok (.iconst 1, 1) := by decide +kernel
theorem s_165_20 {d : Nat} {Q : wQ} {L : List (Option Value)} {st : List Value} {w : aw} {cn sn : Nat}  : wp d 165 Q 20 L st w cn sn = wp d 165 Q 21 L (.int 1 :: st) w cn sn := w_iconst d_165_20 (by decide)
theorem d_165_21 : decode (mB 165) 21 = .ok (.iadd, 1) := by decide +kernel
theorem s_165_21 {d : Nat} {Q : wQ} {L : List (Option Value)} {st : List Value} {w : aw} {cn sn : Nat} {a b : Int32} : wp d 165 Q 21 L (.int b :: .int a :: st) w cn sn = wp d 165 Q 22 L (.int (a + b) :: st) w cn sn := wp_row d_165_21 _ _ _ _ _
theorem d_165_22 : decode (mB 165) 22 = .ok (.putfield 231, 3) := by decide +kernel
theorem s_165_22 {d : Nat} {Q : wQ} {L : List (Option Value)} {st : List Value} {w : aw} {cn sn : Nat} {x : Int32} {a : Nat} : wp d 165 Q 22 L (.int x :: .ref a :: st) w cn sn = (kd w a = 9 ∧ wp d 165 Q 25 L st (uF w 555 a (.int x)) cn sn) := w_putfield d_165_22 (by decide +kernel : fT (mO 165) 231 = some (8, 43)) (by decide +kernel) ok_int
theorem d_165_25 : decode (mB 165) 25 = .ok (.aload_n 0, 1) := by decide +kernel
theorem s_165_25 {d : Nat} {Q : wQ} {L : List (Option Value)} {st : List Value} {w : aw} {cn sn : Nat} {v : Nat} : wp d 165 Q 25 (some (.ref v) :: L) st w cn sn = wp d 165 Q 26 (some (.ref v) :: L) (.ref v :: st) w cn sn := w_aload_n d_165_25 rfl
theorem d_165_26 : decode (mB 165) 26 = .ok (.invokevirtual 267, 3) := by decide +kernel
theorem s_165_26 {d : Nat} {Q : wQ} {L : List (Option Value)} {st : List Value} {w : aw} {cn sn : Nat} {b : Nat} : wp d 165 Q 26 L (.ref b :: st) w cn sn = (kd w b = 9 ∧ catS st ≤ 8 ∧ wpD d 146 [.ref b] w (fun v w' => wp d 165 Q 29 L (v.toList ++ st) w' cn sn)) := w_virtual (As := []) d_165_26 (by decide +kernel : cT (mO 165) 267 = some (0, 146)) rfl (by decide +kernel) rfl (by decide +kernel) rfl
theorem d_165_29 : decode (mB 165) 29 = .ok (.goto (-25), 3) := by decide +kernel
theorem s_165_29 {d : Nat} {Q : wQ} {L : List (Option Value)} {st : List Value} {w : aw} {cn sn : Nat}  : wp d 165 Q 29 L st w cn sn = wp d 165 Q 4 L st w cn sn := w_goto d_165_29 (by decide)
theorem d_165_32 : decode (mB 165) 32 = .ok (.aload_n 0, 1) := by decide +kernel
theorem s_165_32 {d : Nat} {Q : wQ} {L : List (Option Value)} {st : List Value} {w : aw} {cn sn : Nat} {v : Nat} : wp d 165 Q 32 (some (.ref v) :: L) st w cn sn = wp d 165 Q 33 (some (.ref v) :: L) (.ref v :: st) w cn sn := w_aload_n d_165_32 rfl
theorem d_165_33 : decode (mB 165) 33 = .ok (.getfield 231, 3) := by decide +kernel
theorem s_165_33 {d : Nat} {Q : wQ} {L : List (Option Value)} {st : List Value} {w : aw} {cn sn : Nat} {a : Nat} : wp d 165 Q 33 L (.ref a :: st) w cn sn = (kd w a = 9 ∧ wp d 165 Q 36 L (fd w 555 a :: st) w cn sn) := w_getfield d_165_33 (by decide +kernel : fT (mO 165) 231 = some (8, 43))
theorem d_165_36 : decode (mB 165) 36 = .ok (.aload_n 0, 1) := by decide +kernel
theorem s_165_36 {d : Nat} {Q : wQ} {L : List (Option Value)} {st : List Value} {w : aw} {cn sn : Nat} {v : Nat} : wp d 165 Q 36 (some (.ref v) :: L) st w cn sn = wp d 165 Q 37 (some (.ref v) :: L) (.ref v :: st) w cn sn := w_aload_n d_165_36 rfl
theorem d_165_37 : decode (mB 165) 37 = .ok (.getfield 228, 3) := by decide +kernel
theorem s_165_37 {d : Nat} {Q : wQ} {L : List (Option Value)} {st : List Value} {w : aw} {cn sn : Nat} {a : Nat} : wp d 165 Q 37 L (.ref a :: st) w cn sn = (kd w a = 9 ∧ wp d 165 Q 40 L (fd w 556 a :: st) w cn sn) := w_getfield d_165_37 (by decide +kernel : fT (mO 165) 228 = some (8, 44))
theorem d_165_40 : decode (mB 165) 40 = .ok (.if_icmp .ge 10, 3) := by decide +kernel
theorem s_165_40 {d : Nat} {Q : wQ} {L : List (Option Value)} {st : List Value} {w : aw} {cn sn : Nat} {a b : Int32} : wp d 165 Q 40 L (.int b :: .int a :: st) w cn sn = ((b ≤ a → wp d 165 Q 50 L st w cn sn) ∧ (¬ b ≤ a → wp d 165 Q 43 L st w cn sn)) := w_icge d_165_40 (by decide)
theorem d_165_43 : decode (mB 165) 43 = .ok (.aload_n 0, 1) := by decide +kernel
theorem s_165_43 {d : Nat} {Q : wQ} {L : List (Option Value)} {st : List Value} {w : aw} {cn sn : Nat} {v : Nat} : wp d 165 Q 43 (some (.ref v) :: L) st w cn sn = wp d 165 Q 44 (some (.ref v) :: L) (.ref v :: st) w cn sn := w_aload_n d_165_43 rfl
theorem d_165_44 : decode (mB 165) 44 = .ok (.invokevirtual 280, 3) := by decide +kernel
theorem s_165_44 {d : Nat} {Q : wQ} {L : List (Option Value)} {st : List Value} {w : aw} {cn sn : Nat} {b : Nat} : wp d 165 Q 44 L (.ref b :: st) w cn sn = (kd w b = 9 ∧ catS st ≤ 8 ∧ wpD d 153 [.ref b] w (fun v w' => wp d 165 Q 47 L (v.toList ++ st) w' cn sn)) := w_virtual (As := []) d_165_44 (by decide +kernel : cT (mO 165) 280 = some (0, 153)) rfl (by decide +kernel) rfl (by decide +kernel) rfl
theorem d_165_47 : decode (mB 165) 47 = .ok (.ifCond .eq 5, 3) := by decide +kernel
theorem s_165_47 {d : Nat} {Q : wQ} {L : List (Option Value)} {st : List Value} {w : aw} {cn sn : Nat} {x : Int32} : wp d 165 Q 47 L (.int x :: st) w cn sn = ((x = 0 → wp d 165 Q 52 L st w cn sn) ∧ (¬ x = 0 → wp d 165 Q 50 L st w cn sn)) := w_ifeq d_165_47 (by decide)
theorem d_165_50 : decode (mB 165) 50 = .ok (.iconst 0, 1) := by decide +kernel
theorem s_165_50 {d : Nat} {Q : wQ} {L : List (Option Value)} {st : List Value} {w : aw} {cn sn : Nat}  : wp d 165 Q 50 L st w cn sn = wp d 165 Q 51 L (.int 0 :: st) w cn sn := w_iconst d_165_50 (by decide)
theorem d_165_51 : decode (mB 165) 51 = .ok (.ireturn, 1) := by decide +kernel
theorem s_165_51 {d : Nat} {Q : wQ} {L : List (Option Value)} {w : aw} {cn sn : Nat} {v : Int32} : wp d 165 Q 51 L [.int v] w cn sn = Q (some (.int v)) w := w_ireturn d_165_51 rfl
theorem d_165_52 : decode (mB 165) 52 = .ok (.aload_n 0, 1) := by decide +kernel
theorem s_165_52 {d : Nat} {Q : wQ} {L : List (Option Value)} {st : List Value} {w : aw} {cn sn : Nat} {v : Nat} : wp d 165 Q 52 (some (.ref v) :: L) st w cn sn = wp d 165 Q 53 (some (.ref v) :: L) (.ref v :: st) w cn sn := w_aload_n d_165_52 rfl
theorem d_165_53 : decode (mB 165) 53 = .ok (.aload_n 0, 1) := by decide +kernel
theorem s_165_53 {d : Nat} {Q : wQ} {L : List (Option Value)} {st : List Value} {w : aw} {cn sn : Nat} {v : Nat} : wp d 165 Q 53 (some (.ref v) :: L) st w cn sn = wp d 165 Q 54 (some (.ref v) :: L) (.ref v :: st) w cn sn := w_aload_n d_165_53 rfl
theorem d_165_54 : decode (mB 165) 54 = .ok (.getfield 231, 3) := by decide +kernel
theorem s_165_54 {d : Nat} {Q : wQ} {L : List (Option Value)} {st : List Value} {w : aw} {cn sn : Nat} {a : Nat} : wp d 165 Q 54 L (.ref a :: st) w cn sn = (kd w a = 9 ∧ wp d 165 Q 57 L (fd w 555 a :: st) w cn sn) := w_getfield d_165_54 (by decide +kernel : fT (mO 165) 231 = some (8, 43))
theorem d_165_57 : decode (mB 165) 57 = .ok (.invokevirtual 237, 3) := by decide +kernel
theorem s_165_57 {d : Nat} {Q : wQ} {L : List (Option Value)} {st : List Value} {w : aw} {cn sn : Nat} {v0 : Value} {b : Nat} : wp d 165 Q 57 L (v0 :: .ref b :: st) w cn sn = (kd w b = 9 ∧ catS st ≤ 8 ∧ wpD d 145 [.ref b, v0] w (fun v w' => wp d 165 Q 60 L (v.toList ++ st) w' cn sn)) := w_virtual (As := [v0]) d_165_57 (by decide +kernel : cT (mO 165) 237 = some (0, 145)) rfl (by decide +kernel) rfl (by decide +kernel) rfl
theorem d_165_60 : decode (mB 165) 60 = .ok (.bipush 42, 2) := by decide +kernel
theorem s_165_60 {d : Nat} {Q : wQ} {L : List (Option Value)} {st : List Value} {w : aw} {cn sn : Nat}  : wp d 165 Q 60 L st w cn sn = wp d 165 Q 62 L (.int 42 :: st) w cn sn := w_bipush d_165_60 (by decide)
theorem d_165_62 : decode (mB 165) 62 = .ok (.if_icmp .ne 32, 3) := by decide +kernel
theorem s_165_62 {d : Nat} {Q : wQ} {L : List (Option Value)} {st : List Value} {w : aw} {cn sn : Nat} {a b : Int32} : wp d 165 Q 62 L (.int b :: .int a :: st) w cn sn = ((¬ a = b → wp d 165 Q 94 L st w cn sn) ∧ (a = b → wp d 165 Q 65 L st w cn sn)) := w_icne d_165_62 (by decide)
theorem d_165_65 : decode (mB 165) 65 = .ok (.aload_n 0, 1) := by decide +kernel
theorem s_165_65 {d : Nat} {Q : wQ} {L : List (Option Value)} {st : List Value} {w : aw} {cn sn : Nat} {v : Nat} : wp d 165 Q 65 (some (.ref v) :: L) st w cn sn = wp d 165 Q 66 (some (.ref v) :: L) (.ref v :: st) w cn sn := w_aload_n d_165_65 rfl
theorem d_165_66 : decode (mB 165) 66 = .ok (.dup, 1) := by decide +kernel
theorem s_165_66 {d : Nat} {Q : wQ} {L : List (Option Value)} {st : List Value} {w : aw} {cn sn : Nat} {v : Value} : wp d 165 Q 66 L (v :: st) w cn sn = (v.category = 1 ∧ wp d 165 Q 67 L (v :: v :: st) w cn sn) := wp_row d_165_66 _ _ _ _ _
theorem d_165_67 : decode (mB 165) 67 = .ok (.getfield 231, 3) := by decide +kernel
theorem s_165_67 {d : Nat} {Q : wQ} {L : List (Option Value)} {st : List Value} {w : aw} {cn sn : Nat} {a : Nat} : wp d 165 Q 67 L (.ref a :: st) w cn sn = (kd w a = 9 ∧ wp d 165 Q 70 L (fd w 555 a :: st) w cn sn) := w_getfield d_165_67 (by decide +kernel : fT (mO 165) 231 = some (8, 43))
theorem d_165_70 : decode (mB 165) 70 = .ok (.iconst 1, 1) := by decide +kernel
theorem s_165_70 {d : Nat} {Q : wQ} {L : List (Option Value)} {st : List Value} {w : aw} {cn sn : Nat}  : wp d 165 Q 70 L st w cn sn = wp d 165 Q 71 L (.int 1 :: st) w cn sn := w_iconst d_165_70 (by decide)
theorem d_165_71 : decode (mB 165) 71 = .ok (.iadd, 1) := by decide +kernel
theorem s_165_71 {d : Nat} {Q : wQ} {L : List (Option Value)} {st : List Value} {w : aw} {cn sn : Nat} {a b : Int32} : wp d 165 Q 71 L (.int b :: .int a :: st) w cn sn = wp d 165 Q 72 L (.int (a + b) :: st) w cn sn := wp_row d_165_71 _ _ _ _ _
theorem d_165_72 : decode (mB 165) 72 = .ok (.putfield 231, 3) := by decide +kernel
theorem s_165_72 {d : Nat} {Q : wQ} {L : List (Option Value)} {st : List Value} {w : aw} {cn sn : Nat} {x : Int32} {a : Nat} : wp d 165 Q 72 L (.int x :: .ref a :: st) w cn sn = (kd w a = 9 ∧ wp d 165 Q 75 L st (uF w 555 a (.int x)) cn sn) := w_putfield d_165_72 (by decide +kernel : fT (mO 165) 231 = some (8, 43)) (by decide +kernel) ok_int
theorem d_165_75 : decode (mB 165) 75 = .ok (.aload_n 0, 1) := by decide +kernel
theorem s_165_75 {d : Nat} {Q : wQ} {L : List (Option Value)} {st : List Value} {w : aw} {cn sn : Nat} {v : Nat} : wp d 165 Q 75 (some (.ref v) :: L) st w cn sn = wp d 165 Q 76 (some (.ref v) :: L) (.ref v :: st) w cn sn := w_aload_n d_165_75 rfl
theorem d_165_76 : decode (mB 165) 76 = .ok (.invokevirtual 267, 3) := by decide +kernel
theorem s_165_76 {d : Nat} {Q : wQ} {L : List (Option Value)} {st : List Value} {w : aw} {cn sn : Nat} {b : Nat} : wp d 165 Q 76 L (.ref b :: st) w cn sn = (kd w b = 9 ∧ catS st ≤ 8 ∧ wpD d 146 [.ref b] w (fun v w' => wp d 165 Q 79 L (v.toList ++ st) w' cn sn)) := w_virtual (As := []) d_165_76 (by decide +kernel : cT (mO 165) 267 = some (0, 146)) rfl (by decide +kernel) rfl (by decide +kernel) rfl
theorem d_165_79 : decode (mB 165) 79 = .ok (.aload_n 0, 1) := by decide +kernel
theorem s_165_79 {d : Nat} {Q : wQ} {L : List (Option Value)} {st : List Value} {w : aw} {cn sn : Nat} {v : Nat} : wp d 165 Q 79 (some (.ref v) :: L) st w cn sn = wp d 165 Q 80 (some (.ref v) :: L) (.ref v :: st) w cn sn := w_aload_n d_165_79 rfl
theorem d_165_80 : decode (mB 165) 80 = .ok (.invokevirtual 274, 3) := by decide +kernel
theorem s_165_80 {d : Nat} {Q : wQ} {L : List (Option Value)} {st : List Value} {w : aw} {cn sn : Nat} {b : Nat} : wp d 165 Q 80 L (.ref b :: st) w cn sn = (kd w b = 9 ∧ catS st ≤ 8 ∧ wpD d 156 [.ref b] w (fun v w' => wp d 165 Q 83 L (v.toList ++ st) w' cn sn)) := w_virtual (As := []) d_165_80 (by decide +kernel : cT (mO 165) 274 = some (0, 156)) rfl (by decide +kernel) rfl (by decide +kernel) rfl
theorem d_165_83 : decode (mB 165) 83 = .ok (.istore_n 1, 1) := by decide +kernel
theorem s_165_83 {d : Nat} {Q : wQ} {L : List (Option Value)} {st : List Value} {w : aw} {cn sn : Nat} {a0 a1 : Option Value} {v : Int32} : wp d 165 Q 83 (a0 :: a1 :: L) (.int v :: st) w cn sn = wp d 165 Q 84 (clr a0 :: some (.int v) :: L) st w cn sn := w_istore_n d_165_83 (Nat.le_add_left 2 _) rfl
theorem d_165_84 : decode (mB 165) 84 = .ok (.aload_n 0, 1) := by decide +kernel
theorem s_165_84 {d : Nat} {Q : wQ} {L : List (Option Value)} {st : List Value} {w : aw} {cn sn : Nat} {v : Nat} : wp d 165 Q 84 (some (.ref v) :: L) st w cn sn = wp d 165 Q 85 (some (.ref v) :: L) (.ref v :: st) w cn sn := w_aload_n d_165_84 rfl
theorem d_165_85 : decode (mB 165) 85 = .ok (.aload_n 0, 1) := by decide +kernel
theorem s_165_85 {d : Nat} {Q : wQ} {L : List (Option Value)} {st : List Value} {w : aw} {cn sn : Nat} {v : Nat} : wp d 165 Q 85 (some (.ref v) :: L) st w cn sn = wp d 165 Q 86 (some (.ref v) :: L) (.ref v :: st) w cn sn := w_aload_n d_165_85 rfl
theorem d_165_86 : decode (mB 165) 86 = .ok (.getfield 261, 3) := by decide +kernel
theorem s_165_86 {d : Nat} {Q : wQ} {L : List (Option Value)} {st : List Value} {w : aw} {cn sn : Nat} {a : Nat} : wp d 165 Q 86 L (.ref a :: st) w cn sn = (kd w a = 9 ∧ wp d 165 Q 89 L (fd w 557 a :: st) w cn sn) := w_getfield d_165_86 (by decide +kernel : fT (mO 165) 261 = some (8, 45))
theorem d_165_89 : decode (mB 165) 89 = .ok (.putfield 254, 3) := by decide +kernel
theorem s_165_89 {d : Nat} {Q : wQ} {L : List (Option Value)} {st : List Value} {w : aw} {cn sn : Nat} {x : Int32} {a : Nat} : wp d 165 Q 89 L (.int x :: .ref a :: st) w cn sn = (kd w a = 9 ∧ wp d 165 Q 92 L st (uF w 554 a (.int x)) cn sn) := w_putfield d_165_89 (by decide +kernel : fT (mO 165) 254 = some (8, 42)) (by decide +kernel) ok_int
theorem d_165_92 : decode (mB 165) 92 = .ok (.iconst 0, 1) := by decide +kernel
theorem s_165_92 {d : Nat} {Q : wQ} {L : List (Option Value)} {st : List Value} {w : aw} {cn sn : Nat}  : wp d 165 Q 92 L st w cn sn = wp d 165 Q 93 L (.int 0 :: st) w cn sn := w_iconst d_165_92 (by decide)
theorem d_165_93 : decode (mB 165) 93 = .ok (.ireturn, 1) := by decide +kernel
theorem s_165_93 {d : Nat} {Q : wQ} {L : List (Option Value)} {w : aw} {cn sn : Nat} {v : Int32} : wp d 165 Q 93 L [.int v] w cn sn = Q (some (.int v)) w := w_ireturn d_165_93 rfl
theorem d_165_94 : decode (mB 165) 94 = .ok (.aload_n 0, 1) := by decide +kernel
theorem s_165_94 {d : Nat} {Q : wQ} {L : List (Option Value)} {st : List Value} {w : aw} {cn sn : Nat} {v : Nat} : wp d 165 Q 94 (some (.ref v) :: L) st w cn sn = wp d 165 Q 95 (some (.ref v) :: L) (.ref v :: st) w cn sn := w_aload_n d_165_94 rfl
theorem d_165_95 : decode (mB 165) 95 = .ok (.aload_n 0, 1) := by decide +kernel
theorem s_165_95 {d : Nat} {Q : wQ} {L : List (Option Value)} {st : List Value} {w : aw} {cn sn : Nat} {v : Nat} : wp d 165 Q 95 (some (.ref v) :: L) st w cn sn = wp d 165 Q 96 (some (.ref v) :: L) (.ref v :: st) w cn sn := w_aload_n d_165_95 rfl
theorem d_165_96 : decode (mB 165) 96 = .ok (.getfield 231, 3) := by decide +kernel
theorem s_165_96 {d : Nat} {Q : wQ} {L : List (Option Value)} {st : List Value} {w : aw} {cn sn : Nat} {a : Nat} : wp d 165 Q 96 L (.ref a :: st) w cn sn = (kd w a = 9 ∧ wp d 165 Q 99 L (fd w 555 a :: st) w cn sn) := w_getfield d_165_96 (by decide +kernel : fT (mO 165) 231 = some (8, 43))
theorem d_165_99 : decode (mB 165) 99 = .ok (.invokevirtual 283, 3) := by decide +kernel
theorem s_165_99 {d : Nat} {Q : wQ} {L : List (Option Value)} {st : List Value} {w : aw} {cn sn : Nat} {v0 : Value} {b : Nat} : wp d 165 Q 99 L (v0 :: .ref b :: st) w cn sn = (kd w b = 9 ∧ catS st ≤ 8 ∧ wpD d 151 [.ref b, v0] w (fun v w' => wp d 165 Q 102 L (v.toList ++ st) w' cn sn)) := w_virtual (As := [v0]) d_165_99 (by decide +kernel : cT (mO 165) 283 = some (0, 151)) rfl (by decide +kernel) rfl (by decide +kernel) rfl
theorem d_165_102 : decode (mB 165) 102 = .ok (.istore_n 1, 1) := by decide +kernel
theorem s_165_102 {d : Nat} {Q : wQ} {L : List (Option Value)} {st : List Value} {w : aw} {cn sn : Nat} {a0 a1 : Option Value} {v : Int32} : wp d 165 Q 102 (a0 :: a1 :: L) (.int v :: st) w cn sn = wp d 165 Q 103 (clr a0 :: some (.int v) :: L) st w cn sn := w_istore_n d_165_102 (Nat.le_add_left 2 _) rfl
theorem d_165_103 : decode (mB 165) 103 = .ok (.iload_n 1, 1) := by decide +kernel
theorem s_165_103 {d : Nat} {Q : wQ} {L : List (Option Value)} {st : List Value} {w : aw} {cn sn : Nat} {a0 : Option Value} {v : Int32} : wp d 165 Q 103 (a0 :: some (.int v) :: L) st w cn sn = wp d 165 Q 104 (a0 :: some (.int v) :: L) (.int v :: st) w cn sn := w_iload_n d_165_103 rfl
theorem d_165_104 : decode (mB 165) 104 = .ok (.ifCond .lt 11, 3) := by decide +kernel
theorem s_165_104 {d : Nat} {Q : wQ} {L : List (Option Value)} {st : List Value} {w : aw} {cn sn : Nat} {x : Int32} : wp d 165 Q 104 L (.int x :: st) w cn sn = ((x < 0 → wp d 165 Q 115 L st w cn sn) ∧ (¬ x < 0 → wp d 165 Q 107 L st w cn sn)) := w_iflt d_165_104 (by decide)
theorem d_165_107 : decode (mB 165) 107 = .ok (.aload_n 0, 1) := by decide +kernel
theorem s_165_107 {d : Nat} {Q : wQ} {L : List (Option Value)} {st : List Value} {w : aw} {cn sn : Nat} {v : Nat} : wp d 165 Q 107 (some (.ref v) :: L) st w cn sn = wp d 165 Q 108 (some (.ref v) :: L) (.ref v :: st) w cn sn := w_aload_n d_165_107 rfl
theorem d_165_108 : decode (mB 165) 108 = .ok (.iload_n 1, 1) := by decide +kernel
theorem s_165_108 {d : Nat} {Q : wQ} {L : List (Option Value)} {st : List Value} {w : aw} {cn sn : Nat} {a0 : Option Value} {v : Int32} : wp d 165 Q 108 (a0 :: some (.int v) :: L) st w cn sn = wp d 165 Q 109 (a0 :: some (.int v) :: L) (.int v :: st) w cn sn := w_iload_n d_165_108 rfl
theorem d_165_109 : decode (mB 165) 109 = .ok (.invokevirtual 306, 3) := by decide +kernel
theorem s_165_109 {d : Nat} {Q : wQ} {L : List (Option Value)} {st : List Value} {w : aw} {cn sn : Nat} {v0 : Value} {b : Nat} : wp d 165 Q 109 L (v0 :: .ref b :: st) w cn sn = (kd w b = 9 ∧ catS st ≤ 8 ∧ wpD d 166 [.ref b, v0] w (fun v w' => wp d 165 Q 112 L (v.toList ++ st) w' cn sn)) := w_virtual (As := [v0]) d_165_109 (by decide +kernel : cT (mO 165) 306 = some (0, 166)) rfl (by decide +kernel) rfl (by decide +kernel) rfl
theorem d_165_112 : decode (mB 165) 112 = .ok (.goto 7, 3) := by decide +kernel
theorem s_165_112 {d : Nat} {Q : wQ} {L : List (Option Value)} {st : List Value} {w : aw} {cn sn : Nat}  : wp d 165 Q 112 L st w cn sn = wp d 165 Q 119 L st w cn sn := w_goto d_165_112 (by decide)
theorem d_165_115 : decode (mB 165) 115 = .ok (.aload_n 0, 1) := by decide +kernel
theorem s_165_115 {d : Nat} {Q : wQ} {L : List (Option Value)} {st : List Value} {w : aw} {cn sn : Nat} {v : Nat} : wp d 165 Q 115 (some (.ref v) :: L) st w cn sn = wp d 165 Q 116 (some (.ref v) :: L) (.ref v :: st) w cn sn := w_aload_n d_165_115 rfl
theorem d_165_116 : decode (mB 165) 116 = .ok (.invokevirtual 309, 3) := by decide +kernel
theorem s_165_116 {d : Nat} {Q : wQ} {L : List (Option Value)} {st : List Value} {w : aw} {cn sn : Nat} {b : Nat} : wp d 165 Q 116 L (.ref b :: st) w cn sn = (kd w b = 9 ∧ catS st ≤ 8 ∧ wpD d 167 [.ref b] w (fun v w' => wp d 165 Q 119 L (v.toList ++ st) w' cn sn)) := w_virtual (As := []) d_165_116 (by decide +kernel : cT (mO 165) 309 = some (0, 167)) rfl (by decide +kernel) rfl (by decide +kernel) rfl
theorem d_165_119 : decode (mB 165) 119 = .ok (.ireturn, 1) := by decide +kernel
theorem s_165_119 {d : Nat} {Q : wQ} {L : List (Option Value)} {w : aw} {cn sn : Nat} {v : Int32} : wp d 165 Q 119 L [.int v] w cn sn = Q (some (.int v)) w := w_ireturn d_165_119 rfl
