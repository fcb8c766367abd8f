theorem d_161_0 : decode (mB 161) 0 = .ok (.aload_n 0, 1) := by decide +kernel
theorem s_161_0 {d : Nat} {Q : wQ} {L : List (Option Value)} {st : List Value} {w : aw} {cn sn : Nat} {v : Nat} : wp d 161 Q 0 (some (.ref v) :: L) st w cn sn = wp d 161 Q 1 (some (.ref v) :: L) (.ref v :: st) w cn sn := w_aload_n d_161_0 rfl
theorem d_161_1 : decode (mB 161) 1 = .ok (.aload_n 0, 1) := by decide +kernel
theorem s_161_1 {d : Nat} {Q : wQ} {L : List (Option Value)} {st : List Value} {w : aw} {cn sn : Nat} {v : Nat} : wp d 161 Q 1 (some (.ref v) :: L) st w cn sn = wp d 161 Q 2 (some (.ref v) :: L) (.ref v :: st) w cn sn := w_aload_n d_161_1 rfl
theorem d_161_2 : decode (mB 161) 2 = .ok (.aload_n 0, 1) := by decide +kernel
theorem s_161_2 {d : Nat} {Q : wQ} {L : List (Option Value)} {st : List Value} {w : aw} {cn sn : Nat} {v : Nat} : wp d 161 Q 2 (some (.ref v) :: L) st w cn sn = wp d 161 Q 3 (some (.ref v) :: L) (.ref v :: st) w cn sn := w_aload_n d_161_2 rfl
theorem d_161_3 : decode (mB 161) 3 = .ok (.getfield 231, 3) := by decide +kernel
theorem s_161_3 {d : Nat} {Q : wQ} {L : List (Option Value)} {st : List Value} {w : aw} {cn sn : Nat} {a : Nat} : wp d 161 Q 3 L (.ref a :: st) w cn sn = (kd w a = 9 ∧ wp d 161 Q 6 L (fd w 555 a :: st) w cn sn) := w_getfield d_161_3 (by decide +kernel : fT (mO 161) 231 = some (8, 43))
theorem d_161_6 : decode (mB 161) 6 = .ok (.invokevirtual 240, 3) := by decide +kernel
theorem s_161_6 {d : Nat} {Q : wQ} {L : List (Option Value)} {st : List Value} {w : aw} {cn sn : Nat} {v0 : Value} {b : Nat} : wp d 161 Q 6 L (v0 :: .ref b :: st) w cn sn = (kd w b = 9 ∧ catS st ≤ 8 ∧ wpD d 149 [.ref b, v0] w (fun v w' => wp d 161 Q 9 L (v.toList ++ st) w' cn sn)) := w_virtual (As := [v0]) d_161_6 (by decide +kernel : cT (mO 161) 240 = some (0, 149)) rfl (by decide +kernel) rfl (by decide +kernel) rfl
theorem d_161_9 : decode (mB 161) 9 = .ok (.putfield 231, 3) := by decide +kernel
theorem s_161_9 {d : Nat} {Q : wQ} {L : List (Option Value)} {st : List Value} {w : aw} {cn sn : Nat} {x : Int32} {a : Nat} : wp d 161 Q 9 L (.int x :: .ref a :: st) w cn sn = (kd w a = 9 ∧ wp d 161 Q 12 L st (uF w 555 a (.int x)) cn sn) := w_putfield d_161_9 (by decide +kernel : fT (mO 161) 231 = some (8, 43)) (by decide +kernel) ok_int
theorem d_161_12 : decode (mB 161) 12 = .ok (.aload_n 0, 1) := by decide +kernel
theorem s_161_12 {d : Nat} {Q : wQ} {L : List (Option Value)} {st : List Value} {w : aw} {cn sn : Nat} {v : Nat} : wp d 161 Q 12 (some (.ref v) :: L) st w cn sn = wp d 161 Q 13 (some (.ref v) :: L) (.ref v :: st) w cn sn := w_aload_n d_161_12 rfl
theorem d_161_13 : decode (mB 161) 13 = .ok (.invokevirtual 267, 3) := by decide +kernel
theorem s_161_13 {d : Nat} {Q : wQ} {L : List (Option Value)} {st : List Value} {w : aw} {cn sn : Nat} {b : Nat} : wp d 161 Q 13 L (.ref b :: st) w cn sn = (kd w b = 9 ∧ catS st ≤ 8 ∧ wpD d 148 [.ref b] w (fun v w' => wp d 161 Q 16 L (v.toList ++ st) w' cn sn)) := w_virtual (As := []) d_161_13 (by decide +kernel : cT (mO 161) 267 = some (0, 148)) rfl (by decide +kernel) rfl (by decide +kernel) rfl
theorem d_161_16 : decode (mB 161) 16 = .ok (.aload_n 0, 1) := by decide +kernel
theorem s_161_16 {d : Nat} {Q : wQ} {L : List (Option Value)} {st : List Value} {w : aw} {cn sn : Nat} {v : Nat} : wp d 161 Q 16 (some (.ref v) :: L) st w cn sn = wp d 161 Q 17 (some (.ref v) :: L) (.ref v :: st) w cn sn := w_aload_n d_161_16 rfl
theorem d_161_17 : decode (mB 161) 17 = .ok (.invokevirtual 292, 3) := by decide +kernel
theorem s_161_17 {d : Nat} {Q : wQ} {L : List (Option Value)} {st : List Value} {w : aw} {cn sn : Nat} {b : Nat} : wp d 161 Q 17 L (.ref b :: st) w cn sn = (kd w b = 9 ∧ catS st ≤ 8 ∧ wpD d 156 [.ref b] w (fun v w' => wp d 161 Q 20 L (v.toList ++ st) w' cn sn)) := w_virtual (As := []) d_161_17 (by decide +kernel : cT (mO 161) 292 = some (0, 156)) rfl (by decide +kernel) rfl (by decide +kernel) rfl
theorem d_161_20 : decode (mB 161) 20 = .ok (.ifCond .eq 17, 3) := by decide +kernel
theorem s_161_20 {d : Nat} {Q : wQ} {L : List (Option Value)} {st : List Value} {w : aw} {cn sn : Nat} {x : Int32} : wp d 161 Q 20 L (.int x :: st) w cn sn = ((x = 0 → wp d 161 Q 37 L st w cn sn) ∧ (¬ x = 0 → wp d 161 Q 23 L st w cn sn)) := w_ifeq d_161_20 (by decide)
theorem d_161_23 : decode (mB 161) 23 = .ok (.aload_n 0, 1) := by decide +kernel
theorem s_161_23 {d : Nat} {Q : wQ} {L : List (Option Value)} {st : List Value} {w : aw} {cn sn : Nat} {v : Nat} : wp d 161 Q 23 (some (.ref v) :: L) st w cn sn = wp d 161 Q 24 (some (.ref v) :: L) (.ref v :: st) w cn sn := w_aload_n d_161_23 rfl
theorem d_161_24 : decode (mB 161) 24 = .ok (.dup, 1) := by decide +kernel
theorem s_161_24 {d : Nat} {Q : wQ} {L : List (Option Value)} {st : List Value} {w : aw} {cn sn : Nat} {v : Value} : wp d 161 Q 24 L (v :: st) w cn sn = (v.category = 1 ∧ wp d 161 Q 25 L (v :: v :: st) w cn sn) := wp_row d_161_24 _ _ _ _ _
theorem d_161_25 : decode (mB 161) 25 = .ok (.getfield 231, 3) := by decide +kernel
theorem s_161_25 {d : Nat} {Q : wQ} {L : List (Option Value)} {st : List Value} {w : aw} {cn sn : Nat} {a : Nat} : wp d 161 Q 25 L (.ref a :: st) w cn sn = (kd w a = 9 ∧ wp d 161 Q 28 L (fd w 555 a :: st) w cn sn) := w_getfield d_161_25 (by decide +kernel : fT (mO 161) 231 = some (8, 43))
theorem d_161_28 : decode (mB 161) 28 = .ok (.iconst 1, 1) := by decide +kernel
theorem s_161_28 {d : Nat} {Q : wQ} {L : List (Option Value)} {st : List Value} {w : aw} {cn sn : Nat}  : wp d 161 Q 28 L st w cn sn = wp d 161 Q 29 L (.int 1 :: st) w cn sn := w_iconst d_161_28 (by decide)
theorem d_161_29 : decode (mB 161) 29 = .ok (.iadd, 1) := by decide +kernel
theorem s_161_29 {d : Nat} {Q : wQ} {L : List (Option Value)} {st : List Value} {w : aw} {cn sn : Nat} {a b : Int32} : wp d 161 Q 29 L (.int b :: .int a :: st) w cn sn = wp d 161 Q 30 L (.int (a + b) :: st) w cn sn := wp_row d_161_29 _ _ _ _ _
theorem d_161_30 : decode (mB 161) 30 = .ok (.putfield 231, 3) := by decide +kernel
theorem s_161_30 {d : Nat} {Q : wQ} {L : List (Option Value)} {st : List Value} {w : aw} {cn sn : Nat} {x : Int32} {a : Nat} : wp d 161 Q 30 L (.int x :: .ref a :: st) w cn sn = (kd w a = 9 ∧ wp d 161 Q 33 L st (uF w 555 a (.int x)) cn sn) := w_putfield d_161_30 (by decide +kernel : fT (mO 161) 231 = some (8, 43)) (by decide +kernel) ok_int
theorem d_161_33 : decode (mB 161) 33 = .ok (.aload_n 0, 1) := by decide +kernel
theorem s_161_33 {d : Nat} {Q : wQ} {L : List (Option Value)} {st : List Value} {w : aw} {cn sn : Nat} {v : Nat} : wp d 161 Q 33 (some (.ref v) :: L) st w cn sn = wp d 161 Q 34 (some (.ref v) :: L) (.ref v :: st) w cn sn := w_aload_n d_161_33 rfl
theorem d_161_34 : decode (mB 161) 34 = .ok (.invokevirtual 267, 3) := by decide +kernel
theorem s_161_34 {d : Nat} {Q : wQ} {L : List (Option Value)} {st : List Value} {w : aw} {cn sn : Nat} {b : Nat} : wp d 161 Q 34 L (.ref b :: st) w cn sn = (kd w b = 9 ∧ catS st ≤ 8 ∧ wpD d 148 [.ref b] w (fun v w' => wp d 161 Q 37 L (v.toList ++ st) w' cn sn)) := w_virtual (As := []) d_161_34 (by decide +kernel : cT (mO 161) 267 = some (0, 148)) rfl (by decide +kernel) rfl (by decide +kernel) rfl
theorem d_161_37 : decode (mB 161) 37 = .ok (.aload_n 0, 1) := by decide +kernel
theorem s_161_37 {d : Nat} {Q : wQ} {L : List (Option Value)} {st : List Value} {w : aw} {cn sn : Nat} {v : Nat} : wp d 161 Q 37 (some (.ref v) :: L) st w cn sn = wp d 161 Q 38 (some (.ref v) :: L) (.ref v :: st) w cn sn := w_aload_n d_161_37 rfl
theorem d_161_38 : decode (mB 161) 38 = .ok (.aload_n 0, 1) := by decide +kernel
theorem s_161_38 {d : Nat} {Q : wQ} {L : List (Option Value)} {st : List Value} {w : aw} {cn sn : Nat} {v : Nat} : wp d 161 Q 38 (some (.ref v) :: L) st w cn sn = wp d 161 Q 39 (some (.ref v) :: L) (.ref v :: st) w cn sn := w_aload_n d_161_38 rfl
theorem d_161_39 : decode (mB 161) 39 = .ok (.getfield 231, 3) := by decide +kernel
theorem s_161_39 {d : Nat} {Q : wQ} {L : List (Option Value)} {st : List Value} {w : aw} {cn sn : Nat} {a : Nat} : wp d 161 Q 39 L (.ref a :: st) w cn sn = (kd w a = 9 ∧ wp d 161 Q 42 L (fd w 555 a :: st) w cn sn) := w_getfield d_161_39 (by decide +kernel : fT (mO 161) 231 = some (8, 43))
theorem d_161_42 : decode (mB 161) 42 = .ok (.invokevirtual 237, 3) := by decide +kernel
theorem s_161_42 {d : Nat} {Q : wQ} {L : List (Option Value)} {st : List Value} {w : aw} {cn sn : Nat} {v0 : Value} {b : Nat} : wp d 161 Q 42 L (v0 :: .ref b :: st) w cn sn = (kd w b = 9 ∧ catS st ≤ 8 ∧ wpD d 147 [.ref b, v0] w (fun v w' => wp d 161 Q 45 L (v.toList ++ st) w' cn sn)) := w_virtual (As := [v0]) d_161_42 (by decide +kernel : cT (mO 161) 237 = some (0, 147)) rfl (by decide +kernel) rfl (by decide +kernel) rfl
theorem d_161_45 : decode (mB 161) 45 = .ok (.bipush 40, 2) := by decide +kernel
theorem s_161_45 {d : Nat} {Q : wQ} {L : List (Option Value)} {st : List Value} {w : aw} {cn sn : Nat}  : wp d 161 Q 45 L st w cn sn = wp d 161 Q 47 L (.int 40 :: st) w cn sn := w_bipush d_161_45 (by decide)
theorem d_161_47 : decode (mB 161) 47 = .ok (.if_icmp .ne 14, 3) := by decide +kernel
theorem s_161_47 {d : Nat} {Q : wQ} {L : List (Option Value)} {st : List Value} {w : aw} {cn sn : Nat} {a b : Int32} : wp d 161 Q 47 L (.int b :: .int a :: st) w cn sn = ((¬ a = b → wp d 161 Q 61 L st w cn sn) ∧ (a = b → wp d 161 Q 50 L st w cn sn)) := w_icne d_161_47 (by decide)
theorem d_161_50 : decode (mB 161) 50 = .ok (.aload_n 0, 1) := by decide +kernel
theorem s_161_50 {d : Nat} {Q : wQ} {L : List (Option Value)} {st : List Value} {w : aw} {cn sn : Nat} {v : Nat} : wp d 161 Q 50 (some (.ref v) :: L) st w cn sn = wp d 161 Q 51 (some (.ref v) :: L) (.ref v :: st) w cn sn := w_aload_n d_161_50 rfl
theorem d_161_51 : decode (mB 161) 51 = .ok (.getfield 231, 3) := by decide +kernel
theorem s_161_51 {d : Nat} {Q : wQ} {L : List (Option Value)} {st : List Value} {w : aw} {cn sn : Nat} {a : Nat} : wp d 161 Q 51 L (.ref a :: st) w cn sn = (kd w a = 9 ∧ wp d 161 Q 54 L (fd w 555 a :: st) w cn sn) := w_getfield d_161_51 (by decide +kernel : fT (mO 161) 231 = some (8, 43))
theorem d_161_54 : decode (mB 161) 54 = .ok (.aload_n 0, 1) := by decide +kernel
theorem s_161_54 {d : Nat} {Q : wQ} {L : List (Option Value)} {st : List Value} {w : aw} {cn sn : Nat} {v : Nat} : wp d 161 Q 54 (some (.ref v) :: L) st w cn sn = wp d 161 Q 55 (some (.ref v) :: L) (.ref v :: st) w cn sn := w_aload_n d_161_54 rfl
theorem d_161_55 : decode (mB 161) 55 = .ok (.getfield 228, 3) := by decide +kernel
theorem s_161_55 {d : Nat} {Q : wQ} {L : List (Option Value)} {st : List Value} {w : aw} {cn sn : Nat} {a : Nat} : wp d 161 Q 55 L (.ref a :: st) w cn sn = (kd w a = 9 ∧ wp d 161 Q 58 L (fd w 556 a :: st) w cn sn) := w_getfield d_161_55 (by decide +kernel : fT (mO 161) 228 = some (8, 44))
theorem d_161_58 : decode (mB 161) 58 = .ok (.if_icmp .lt 23, 3) := by decide +kernel
theorem s_161_58 {d : Nat} {Q : wQ} {L : List (Option Value)} {st : List Value} {w : aw} {cn sn : Nat} {a b : Int32} : wp d 161 Q 58 L (.int b :: .int a :: st) w cn sn = ((a < b → wp d 161 Q 81 L st w cn sn) ∧ (¬ a < b → wp d 161 Q 61 L st w cn sn)) := w_iclt d_161_58 (by decide)
theorem d_161_61 : decode (mB 161) 61 = .ok (.aload_n 0, 1) := by decide +kernel
theorem s_161_61 {d : Nat} {Q : wQ} {L : List (Option Value)} {st : List Value} {w : aw} {cn sn : Nat} {v : Nat} : wp d 161 Q 61 (some (.ref v) :: L) st w cn sn = wp d 161 Q 62 (some (.ref v) :: L) (.ref v :: st) w cn sn := w_aload_n d_161_61 rfl
theorem d_161_62 : decode (mB 161) 62 = .ok (.invokevirtual 274, 3) := by decide +kernel
theorem s_161_62 {d : Nat} {Q : wQ} {L : List (Option Value)} {st : List Value} {w : aw} {cn sn : Nat} {b : Nat} : wp d 161 Q 62 L (.ref b :: st) w cn sn = (kd w b = 9 ∧ catS st ≤ 8 ∧ wpD d 158 [.ref b] w (fun v w' => wp d 161 Q 65 L (v.toList ++ st) w' cn sn)) := w_virtual (As := []) d_161_62 (by decide +kernel : cT (mO 161) 274 = some (0, 158)) rfl (by decide +kernel) rfl (by decide +kernel) rfl
theorem d_161_65 : decode (mB 161) 65 = .ok (.ifCond .eq 14, 3) := by decide +kernel
theorem s_161_65 {d : Nat} {Q : wQ} {L : List (Option Value)} {st : List Value} {w : aw} {cn sn : Nat} {x : Int32} : wp d 161 Q 65 L (.int x :: st) w cn sn = ((x = 0 → wp d 161 Q 79 L st w cn sn) ∧ (¬ x = 0 → wp d 161 Q 68 L st w cn sn)) := w_ifeq d_161_65 (by decide)
theorem d_161_68 : decode (mB 161) 68 = .ok (.aload_n 0, 1) := by decide +kernel
theorem s_161_68 {d : Nat} {Q : wQ} {L : List (Option Value)} {st : List Value} {w : aw} {cn sn : Nat} {v : Nat} : wp d 161 Q 68 (some (.ref v) :: L) st w cn sn = wp d 161 Q 69 (some (.ref v) :: L) (.ref v :: st) w cn sn := w_aload_n d_161_68 rfl
theorem d_161_69 : decode (mB 161) 69 = .ok (.invokevirtual 277, 3) := by decide +kernel
theorem s_161_69 {d : Nat} {Q : wQ} {L : List (Option Value)} {st : List Value} {w : aw} {cn sn : Nat} {b : Nat} : wp d 161 Q 69 L (.ref b :: st) w cn sn = (kd w b = 9 ∧ catS st ≤ 8 ∧ wpD d 159 [.ref b] w (fun v w' => wp d 161 Q 72 L (v.toList ++ st) w' cn sn)) := w_virtual (As := []) d_161_69 (by decide +kernel : cT (mO 161) 277 = some (0, 159)) rfl (by decide +kernel) rfl (by decide +kernel) rfl
theorem d_161_72 : decode (mB 161) 72 = .ok (.ifCond .eq 7, 3) := by decide +kernel
theorem s_161_72 {d : Nat} {Q : wQ} {L : List (Option Value)} {st : List Value} {w : aw} {cn sn : Nat} {x : Int32} : wp d 161 Q 72 L (.int x :: st) w cn sn = ((x = 0 → wp d 161 Q 79 L st w cn sn) ∧ (¬ x = 0 → wp d 161 Q 75 L st w cn sn)) := w_ifeq d_161_72 (by decide)
theorem d_161_75 : decode (mB 161) 75 = .ok (.iconst 1, 1) := by decide +kernel
theorem s_161_75 {d : Nat} {Q : wQ} {L : List (Option Value)} {st : List Value} {w : aw} {cn sn : Nat}  : wp d 161 Q 75 L st w cn sn = wp d 161 Q 76 L (.int 1 :: st) w cn sn := w_iconst d_161_75 (by decide)
theorem d_161_76 : decode (mB 161) 76 = .ok (.goto 4, 3) := by decide +kernel
theorem s_161_76 {d : Nat} {Q : wQ} {L : List (Option Value)} {st : List Value} {w : aw} {cn sn : Nat}  : wp d 161 Q 76 L st w cn sn = wp d 161 Q 80 L st w cn sn := w_goto d_161_76 (by decide)
theorem d_161_79 : decode (mB 161) 79 = .ok (.iconst 0, 1) := by decide +kernel
theorem s_161_79 {d : Nat} {Q : wQ} {L : List (Option Value)} {st : List Value} {w : aw} {cn sn : Nat}  : wp d 161 Q 79 L st w cn sn = wp d 161 Q 80 L (.int 0 :: st) w cn sn := w_iconst d_161_79 (by decide)
theorem d_161_80 : decode (mB 161) 80 = .ok (.ireturn, 1) := by decide +kernel
theorem s_161_80 {d : Nat} {Q : wQ} {L : List (Option Value)} {w : aw} {cn sn : Nat} {v : Int32} : wp d 161 Q 80 L [.int v] w cn sn = (narrow .boolean (.int v) = .int v ∧ Q (some (.int v)) w) := w_zreturn d_161_80 rfl
theorem d_161_81 : decode (mB 161) 81 = .ok (.aload_n 0, 1) := by decide +kernel
theorem s_161_81 {d : Nat} {Q : wQ} {L : List (Option Value)} {st : List Value} {w : aw} {cn sn : Nat} {v : Nat} : wp d 161 Q 81 (some (.ref v) :: L) st w cn sn = wp d 161 Q 82 (some (.ref v) :: L) (.ref v :: st) w cn sn := w_aload_n d_161_81 rfl
theorem d_161_82 : decode (mB 161) 82 = .ok (.dup, 1) := by decide +kernel
theorem s_161_82 {d : Nat} {Q : wQ} {L : List (Option Value)} {st : List Value} {w : aw} {cn sn : Nat} {v : Value} : wp d 161 Q 82 L (v :: st) w cn sn = (v.category = 1 ∧ wp d 161 Q 83 L (v :: v :: st) w cn sn) := wp_row d_161_82 _ _ _ _ _
theorem d_161_83 : decode (mB 161) 83 = .ok (.getfield 231, 3) := by decide +kernel
theorem s_161_83 {d : Nat} {Q : wQ} {L : List (Option Value)} {st : List Value} {w : aw} {cn sn : Nat} {a : Nat} : wp d 161 Q 83 L (.ref a :: st) w cn sn = (kd w a = 9 ∧ wp d 161 Q 86 L (fd w 555 a :: st) w cn sn) := w_getfield d_161_83 (by decide +kernel : fT (mO 161) 231 = some (8, 43))
theorem d_161_86 : decode (mB 161) 86 = .ok (.iconst 1, 1) := by decide +kernel
theorem s_161_86 {d : Nat} {Q : wQ} {L : List (Option Value)} {st : List Value} {w : aw} {cn sn : Nat}  : wp d 161 Q 86 L st w cn sn = wp d 161 Q 87 L (.int 1 :: st) w cn sn := w_iconst d_161_86 (by decide)
theorem d_161_87 : decode (mB 161) 87 = .ok (.iadd, 1) := by decide +kernel
theorem s_161_87 {d : Nat} {Q : wQ} {L : List (Option Value)} {st : List Value} {w : aw} {cn sn : Nat} {a b : Int32} : wp d 161 Q 87 L (.int b :: .int a :: st) w cn sn = wp d 161 Q 88 L (.int (a + b) :: st) w cn sn := wp_row d_161_87 _ _ _ _ _
theorem d_161_88 : decode (mB 161) 88 = .ok (.putfield 231, 3) := by decide +kernel
theorem s_161_88 {d : Nat} {Q : wQ} {L : List (Option Value)} {st : List Value} {w : aw} {cn sn : Nat} {x : Int32} {a : Nat} : wp d 161 Q 88 L (.int x :: .ref a :: st) w cn sn = (kd w a = 9 ∧ wp d 161 Q 91 L st (uF w 555 a (.int x)) cn sn) := w_putfield d_161_88 (by decide +kernel : fT (mO 161) 231 = some (8, 43)) (by decide +kernel) ok_int
theorem d_161_91 : decode (mB 161) 91 = .ok (.aload_n 0, 1) := by decide +kernel
theorem s_161_91 {d : Nat} {Q : wQ} {L : List (Option Value)} {st : List Value} {w : aw} {cn sn : Nat} {v : Nat} : wp d 161 Q 91 (some (.ref v) :: L) st w cn sn = wp d 161 Q 92 (some (.ref v) :: L) (.ref v :: st) w cn sn := w_aload_n d_161_91 rfl
theorem d_161_92 : decode (mB 161) 92 = .ok (.invokevirtual 267, 3) := by decide +kernel
theorem s_161_92 {d : Nat} {Q : wQ} {L : List (Option Value)} {st : List Value} {w : aw} {cn sn : Nat} {b : Nat} : wp d 161 Q 92 L (.ref b :: st) w cn sn = (kd w b = 9 ∧ catS st ≤ 8 ∧ wpD d 148 [.ref b] w (fun v w' => wp d 161 Q 95 L (v.toList ++ st) w' cn sn)) := w_virtual (As := []) d_161_92 (by decide +kernel : cT (mO 161) 267 = some (0, 148)) rfl (by decide +kernel) rfl (by decide +kernel) rfl
theorem d_161_95 : decode (mB 161) 95 = .ok (.aload_n 0, 1) := by decide +kernel
theorem s_161_95 {d : Nat} {Q : wQ} {L : List (Option Value)} {st : List Value} {w : aw} {cn sn : Nat} {v : Nat} : wp d 161 Q 95 (some (.ref v) :: L) st w cn sn = wp d 161 Q 96 (some (.ref v) :: L) (.ref v :: st) w cn sn := w_aload_n d_161_95 rfl
theorem d_161_96 : decode (mB 161) 96 = .ok (.invokevirtual 274, 3) := by decide +kernel
theorem s_161_96 {d : Nat} {Q : wQ} {L : List (Option Value)} {st : List Value} {w : aw} {cn sn : Nat} {b : Nat} : wp d 161 Q 96 L (.ref b :: st) w cn sn = (kd w b = 9 ∧ catS st ≤ 8 ∧ wpD d 158 [.ref b] w (fun v w' => wp d 161 Q 99 L (v.toList ++ st) w' cn sn)) := w_virtual (As := []) d_161_96 (by decide +kernel : cT (mO 161) 274 = some (0, 158)) rfl (by decide +kernel) rfl (by decide +kernel) rfl
theorem d_161_99 : decode (mB 161) 99 = .ok (.ifCond .ne 5, 3) := by decide +kernel
theorem s_161_99 {d : Nat} {Q : wQ} {L : List (Option Value)} {st : List Value} {w : aw} {cn sn : Nat} {x : Int32} : wp d 161 Q 99 L (.int x :: st) w cn sn = ((¬ x = 0 → wp d 161 Q 104 L st w cn sn) ∧ (x = 0 → wp d 161 Q 102 L st w cn sn)) := w_ifne d_161_99 (by decide)
theorem d_161_102 : decode (mB 161) 102 = .ok (.iconst 0, 1) := by decide +kernel
theorem s_161_102 {d : Nat} {Q : wQ} {L : List (Option Value)} {st : List Value} {w : aw} {cn sn : Nat}  : wp d 161 Q 102 L st w cn sn = wp d 161 Q 103 L (.int 0 :: st) w cn sn := w_iconst d_161_102 (by decide)
theorem d_161_103 : decode (mB 161) 103 = .ok (.ireturn, 1) := by decide +kernel
theorem s_161_103 {d : Nat} {Q : wQ} {L : List (Option Value)} {w : aw} {cn sn : Nat} {v : Int32} : wp d 161 Q 103 L [.int v] w cn sn = (narrow .boolean (.int v) = .int v ∧ Q (some (.int v)) w) := w_zreturn d_161_103 rfl
theorem d_161_104 : decode (mB 161) 104 = .ok (.aload_n 0, 1) := by decide +kernel
theorem s_161_104 {d : Nat} {Q : wQ} {L : List (Option Value)} {st : List Value} {w : aw} {cn sn : Nat} {v : Nat} : wp d 161 Q 104 (some (.ref v) :: L) st w cn sn = wp d 161 Q 105 (some (.ref v) :: L) (.ref v :: st) w cn sn := w_aload_n d_161_104 rfl
theorem d_161_105 : decode (mB 161) 105 = .ok (.invokevirtual 267, 3) := by decide +kernel
theorem s_161_105 {d : Nat} {Q : wQ} {L : List (Option Value)} {st : List Value} {w : aw} {cn sn : Nat} {b : Nat} : wp d 161 Q 105 L (.ref b :: st) w cn sn = (kd w b = 9 ∧ catS st ≤ 8 ∧ wpD d 148 [.ref b] w (fun v w' => wp d 161 Q 108 L (v.toList ++ st) w' cn sn)) := w_virtual (As := []) d_161_105 (by decide +kernel : cT (mO 161) 267 = some (0, 148)) rfl (by decide +kernel) rfl (by decide +kernel) rfl
theorem d_161_108 : decode (mB 161) 108 = .ok (.aload_n 0, 1) := by decide +kernel
theorem s_161_108 {d : Nat} {Q : wQ} {L : List (Option Value)} {st : List Value} {w : aw} {cn sn : Nat} {v : Nat} : wp d 161 Q 108 (some (.ref v) :: L) st w cn sn = wp d 161 Q 109 (some (.ref v) :: L) (.ref v :: st) w cn sn := w_aload_n d_161_108 rfl
theorem d_161_109 : decode (mB 161) 109 = .ok (.aload_n 0, 1) := by decide +kernel
theorem s_161_109 {d : Nat} {Q : wQ} {L : List (Option Value)} {st : List Value} {w : aw} {cn sn : Nat} {v : Nat} : wp d 161 Q 109 (some (.ref v) :: L) st w cn sn = wp d 161 Q 110 (some (.ref v) :: L) (.ref v :: st) w cn sn := w_aload_n d_161_109 rfl
theorem d_161_110 : decode (mB 161) 110 = .ok (.getfield 231, 3) := by decide +kernel
theorem s_161_110 {d : Nat} {Q : wQ} {L : List (Option Value)} {st : List Value} {w : aw} {cn sn : Nat} {a : Nat} : wp d 161 Q 110 L (.ref a :: st) w cn sn = (kd w a = 9 ∧ wp d 161 Q 113 L (fd w 555 a :: st) w cn sn) := w_getfield d_161_110 (by decide +kernel : fT (mO 161) 231 = some (8, 43))
theorem d_161_113 : decode (mB 161) 113 = .ok (.invokevirtual 237, 3) := by decide +kernel
theorem s_161_113 {d : Nat} {Q : wQ} {L : List (Option Value)} {st : List Value} {w : aw} {cn sn : Nat} {v0 : Value} {b : Nat} : wp d 161 Q 113 L (v0 :: .ref b :: st) w cn sn = (kd w b = 9 ∧ catS st ≤ 8 ∧ wpD d 147 [.ref b, v0] w (fun v w' => wp d 161 Q 116 L (v.toList ++ st) w' cn sn)) := w_virtual (As := [v0]) d_161_113 (by decide +kernel : cT (mO 161) 237 = some (0, 147)) rfl (by decide +kernel) rfl (by decide +kernel) rfl
theorem d_161_116 : decode (mB 161) 116 = .ok (.bipush 41, 2) := by decide +kernel
theorem s_161_116 {d : Nat} {Q : wQ} {L : List (Option Value)} {st : List Value} {w : aw} {cn sn : Nat}  : wp d 161 Q 116 L st w cn sn = wp d 161 Q 118 L (.int 41 :: st) w cn sn := w_bipush d_161_116 (by decide)
theorem d_161_118 : decode (mB 161) 118 = .ok (.if_icmp .ne 13, 3) := by decide +kernel
theorem s_161_118 {d : Nat} {Q : wQ} {L : List (Option Value)} {st : List Value} {w : aw} {cn sn : Nat} {a b : Int32} : wp d 161 Q 118 L (.int b :: .int a :: st) w cn sn = ((¬ a = b → wp d 161 Q 131 L st w cn sn) ∧ (a = b → wp d 161 Q 121 L st w cn sn)) := w_icne d_161_118 (by decide)
theorem d_161_121 : decode (mB 161) 121 = .ok (.aload_n 0, 1) := by decide +kernel
theorem s_161_121 {d : Nat} {Q : wQ} {L : List (Option Value)} {st : List Value} {w : aw} {cn sn : Nat} {v : Nat} : wp d 161 Q 121 (some (.ref v) :: L) st w cn sn = wp d 161 Q 122 (some (.ref v) :: L) (.ref v :: st) w cn sn := w_aload_n d_161_121 rfl
theorem d_161_122 : decode (mB 161) 122 = .ok (.dup, 1) := by decide +kernel
theorem s_161_122 {d : Nat} {Q : wQ} {L : List (Option Value)} {st : List Value} {w : aw} {cn sn : Nat} {v : Value} : wp d 161 Q 122 L (v :: st) w cn sn = (v.category = 1 ∧ wp d 161 Q 123 L (v :: v :: st) w cn sn) := wp_row d_161_122 _ _ _ _ _
theorem d_161_123 : decode (mB 161) 123 = .ok (.getfield 231, 3) := by decide +kernel
theorem s_161_123 {d : Nat} {Q : wQ} {L : List (Option Value)} {st : List Value} {w : aw} {cn sn : Nat} {a : Nat} : wp d 161 Q 123 L (.ref a :: st) w cn sn = (kd w a = 9 ∧ wp d 161 Q 126 L (fd w 555 a :: st) w cn sn) := w_getfield d_161_123 (by decide +kernel : fT (mO 161) 231 = some (8, 43))
theorem d_161_126 : decode (mB 161) 126 = .ok (.iconst 1, 1) := by decide +kernel
theorem s_161_126 {d : Nat} {Q : wQ} {L : List (Option Value)} {st : List Value} {w : aw} {cn sn : Nat}  : wp d 161 Q 126 L st w cn sn = wp d 161 Q 127 L (.int 1 :: st) w cn sn := w_iconst d_161_126 (by decide)
theorem d_161_127 : decode (mB 161) 127 = .ok (.iadd, 1) := by decide +kernel
theorem s_161_127 {d : Nat} {Q : wQ} {L : List (Option Value)} {st : List Value} {w : aw} {cn sn : Nat} {a b : Int32} : wp d 161 Q 127 L (.int b :: .int a :: st) w cn sn = wp d 161 Q 128 L (.int (a + b) :: st) w cn sn := wp_row d_161_127 _ _ _ _ _
theorem d_161_128 : decode (mB 161) 128 = .ok (.putfield 231, 3) := by decide +kernel
theorem s_161_128 {d : Nat} {Q : wQ} {L : List (Option Value)} {st : List Value} {w : aw} {cn sn : Nat} {x : Int32} {a : Nat} : wp d 161 Q 128 L (.int x :: .ref a :: st) w cn sn = (kd w a = 9 ∧ wp d 161 Q 131 L st (uF w 555 a (.int x)) cn sn) := w_putfield d_161_128 (by decide +kernel : fT (mO 161) 231 = some (8, 43)) (by decide +kernel) ok_int
theorem d_161_131 : decode (mB 161) 131 = .ok (.aload_n 0, 1) := by decide +kernel
theorem s_161_131 {d : Nat} {Q : wQ} {L : List (Option Value)} {st : List Value} {w : aw} {cn sn : Nat} {v : Nat} : wp d 161 Q 131 (some (.ref v) :: L) st w cn sn = wp d 161 Q 132 (some (.ref v) :: L) (.ref v :: st) w cn sn := w_aload_n d_161_131 rfl
theorem d_161_132 : decode (mB 161) 132 = .ok (.invokevirtual 277, 3) := by decide +kernel
theorem s_161_132 {d : Nat} {Q : wQ} {L : List (Option Value)} {st : List Value} {w : aw} {cn sn : Nat} {b : Nat} : wp d 161 Q 132 L (.ref b :: st) w cn sn = (kd w b = 9 ∧ catS st ≤ 8 ∧ wpD d 159 [.ref b] w (fun v w' => wp d 161 Q 135 L (v.toList ++ st) w' cn sn)) := w_virtual (As := []) d_161_132 (by decide +kernel : cT (mO 161) 277 = some (0, 159)) rfl (by decide +kernel) rfl (by decide +kernel) rfl
theorem d_161_135 : decode (mB 161) 135 = .ok (.ireturn, 1) := by decide +kernel
theorem s_161_135 {d : Nat} {Q : wQ} {L : List (Option Value)} {w : aw} {cn sn : Nat} {v : Int32} : wp d 161 Q 135 L [.int v] w cn sn = (narrow .boolean (.int v) = .int v ∧ Q (some (.int v)) w) := w_zreturn d_161_135 rfl
theorem d_162_0 : decode (mB 162) 0 = .ok (.iconst 1, 1) := by decide +kernel
theorem s_162_0 {d : Nat} {Q : wQ} {L : List (Option Value)} {st : List Value} {w : aw} {cn sn : Nat}  : wp d 162 Q 0 L st w cn sn = wp d 162 Q 1 L (.int 1 :: st) w cn sn := w_iconst d_162_0 (by decide)
theorem d_162_1 : decode (mB 162) 1 = .ok (.istore_n 1, 1) := by decide +kernel
theorem s_162_1 {d : Nat} {Q : wQ} {L : List (Option Value)} {st : List Value} {w : aw} {cn sn : Nat} {a0 a1 : Option Value} {v : Int32} : wp d 162 Q 1 (a0 :: a1 :: L) (.int v :: st) w cn sn = wp d 162 Q 2 (clr a0 :: some (.int v) :: L) st w cn sn := w_istore_n d_162_1 (Nat.le_add_left 2 _) rfl
theorem d_162_2 : decode (mB 162) 2 = .ok (.iload_n 1, 1) := by decide +kernel
theorem s_162_2 {d : Nat} {Q : wQ} {L : List (Option Value)} {st : List Value} {w : aw} {cn sn : Nat} {a0 : Option Value} {v : Int32} : wp d 162 Q 2 (a0 :: some (.int v) :: L) st w cn sn = wp d 162 Q 3 (a0 :: some (.int v) :: L) (.int v :: st) w cn sn := w_iload_n d_162_2 rfl
theorem d_162_3 : decode (mB 162) 3 = .ok (.ifCond .eq 60, 3) := by decide +kernel
theorem s_162_3 {d : Nat} {Q : wQ} {L : List (Option Value)} {st : List Value} {w : aw} {cn sn : Nat} {x : Int32} : wp d 162 Q 3 L (.int x :: st) w cn sn = ((x = 0 → wp d 162 Q 63 L st w cn sn) ∧ (¬ x = 0 → wp d 162 Q 6 L st w cn sn)) := w_ifeq d_162_3 (by decide)
theorem d_162_6 : decode (mB 162) 6 = .ok (.aload_n 0, 1) := by decide +kernel
theorem s_162_6 {d : Nat} {Q : wQ} {L : List (Option Value)} {st : List Value} {w : aw} {cn sn : Nat} {v : Nat} : wp d 162 Q 6 (some (.ref v) :: L) st w cn sn = wp d 162 Q 7 (some (.ref v) :: L) (.ref v :: st) w cn sn := w_aload_n d_162_6 rfl
theorem d_162_7 : decode (mB 162) 7 = .ok (.getfield 231, 3) := by decide +kernel
theorem s_162_7 {d : Nat} {Q : wQ} {L : List (Option Value)} {st : List Value} {w : aw} {cn sn : Nat} {a : Nat} : wp d 162 Q 7 L (.ref a :: st) w cn sn = (kd w a = 9 ∧ wp d 162 Q 10 L (fd w 555 a :: st) w cn sn) := w_getfield d_162_7 (by decide +kernel : fT (mO 162) 231 = some (8, 43))
theorem d_162_10 : decode (mB 162) 10 = .ok (.aload_n 0, 1) := by decide +kernel
theorem s_162_10 {d : Nat} {Q : wQ} {L : List (Option Value)} {st : List Value} {w : aw} {cn sn : Nat} {v : Nat} : wp d 162 Q 10 (some (.ref v) :: L) st w cn sn = wp d 162 Q 11 (some (.ref v) :: L) (.ref v :: st) w cn sn := w_aload_n d_162_10 rfl
theorem d_162_11 : decode (mB 162) 11 = .ok (.getfield 228, 3) := by decide +kernel
theorem s_162_11 {d : Nat} {Q : wQ} {L : List (Option Value)} {st : List Value} {w : aw} {cn sn : Nat} {a : Nat} : wp d 162 Q 11 L (.ref a :: st) w cn sn = (kd w a = 9 ∧ wp d 162 Q 14 L (fd w 556 a :: st) w cn sn) := w_getfield d_162_11 (by decide +kernel : fT (mO 162) 228 = some (8, 44))
theorem d_162_14 : decode (mB 162) 14 = .ok (.if_icmp .ge 49, 3) := by decide +kernel
theorem s_162_14 {d : Nat} {Q : wQ} {L : List (Option Value)} {st : List Value} {w : aw} {cn sn : Nat} {a b : Int32} : wp d 162 Q 14 L (.int b :: .int a :: st) w cn sn = ((b ≤ a → wp d 162 Q 63 L st w cn sn) ∧ (¬ b ≤ a → wp d 162 Q 17 L st w cn sn)) := w_icge d_162_14 (by decide)
theorem d_162_17 : decode (mB 162) 17 = .ok (.aload_n 0, 1) := by decide +kernel
theorem s_162_17 {d : Nat} {Q : wQ} {L : List (Option Value)} {st : List Value} {w : aw} {cn sn : Nat} {v : Nat} : wp d 162 Q 17 (some (.ref v) :: L) st w cn sn = wp d 162 Q 18 (some (.ref v) :: L) (.ref v :: st) w cn sn := w_aload_n d_162_17 rfl
theorem d_162_18 : decode (mB 162) 18 = .ok (.invokevirtual 274, 3) := by decide +kernel
theorem s_162_18 {d : Nat} {Q : wQ} {L : List (Option Value)} {st : List Value} {w : aw} {cn sn : Nat} {b : Nat} : wp d 162 Q 18 L (.ref b :: st) w cn sn = (kd w b = 9 ∧ catS st ≤ 8 ∧ wpD d 158 [.ref b] w (fun v w' => wp d 162 Q 21 L (v.toList ++ st) w' cn sn)) := w_virtual (As := []) d_162_18 (by decide +kernel : cT (mO 162) 274 = some (0, 158)) rfl (by decide +kernel) rfl (by decide +kernel) rfl
theorem d_162_21 : decode (mB 162) 21 = .ok (.istore_n 1, 1) := by decide +kernel
theorem s_162_21 {d : Nat} {Q : wQ} {L : List (Option Value)} {st : List Value} {w : aw} {cn sn : Nat} {a0 a1 : Option Value} {v : Int32} : wp d 162 Q 21 (a0 :: a1 :: L) (.int v :: st) w cn sn = wp d 162 Q 22 (clr a0 :: some (.int v) :: L) st w cn sn := w_istore_n d_162_21 (Nat.le_add_left 2 _) rfl
theorem d_162_22 : decode (mB 162) 22 = .ok (.aload_n 0, 1) := by decide +kernel
theorem s_162_22 {d : Nat} {Q : wQ} {L : List (Option Value)} {st : List Value} {w : aw} {cn sn : Nat} {v : Nat} : wp d 162 Q 22 (some (.ref v) :: L) st w cn sn = wp d 162 Q 23 (some (.ref v) :: L) (.ref v :: st) w cn sn := w_aload_n d_162_22 rfl
theorem d_162_23 : decode (mB 162) 23 = .ok (.getfield 231, 3) := by decide +kernel
theorem s_162_23 {d : Nat} {Q : wQ} {L : List (Option Value)} {st : List Value} {w : aw} {cn sn : Nat} {a : Nat} : wp d 162 Q 23 L (.ref a :: st) w cn sn = (kd w a = 9 ∧ wp d 162 Q 26 L (fd w 555 a :: st) w cn sn) := w_getfield d_162_23 (by decide +kernel : fT (mO 162) 231 = some (8, 43))
theorem d_162_26 : decode (mB 162) 26 = .ok (.istore_n 2, 1) := by decide +kernel
theorem s_162_26 {d : Nat} {Q : wQ} {L : List (Option Value)} {st : List Value} {w : aw} {cn sn : Nat} {a0 a1 a2 : Option Value} {v : Int32} : wp d 162 Q 26 (a0 :: a1 :: a2 :: L) (.int v :: st) w cn sn = wp d 162 Q 27 (a0 :: clr a1 :: some (.int v) :: L) st w cn sn := w_istore_n d_162_26 (Nat.le_add_left 3 _) rfl
theorem d_162_27 : decode (mB 162) 27 = .ok (.aload_n 0, 1) := by decide +kernel
theorem s_162_27 {d : Nat} {Q : wQ} {L : List (Option Value)} {st : List Value} {w : aw} {cn sn : Nat} {v : Nat} : wp d 162 Q 27 (some (.ref v) :: L) st w cn sn = wp d 162 Q 28 (some (.ref v) :: L) (.ref v :: st) w cn sn := w_aload_n d_162_27 rfl
theorem d_162_28 : decode (mB 162) 28 = .ok (.invokevirtual 267, 3) := by decide +kernel
theorem s_162_28 {d : Nat} {Q : wQ} {L : List (Option Value)} {st : List Value} {w : aw} {cn sn : Nat} {b : Nat} : wp d 162 Q 28 L (.ref b :: st) w cn sn = (kd w b = 9 ∧ catS st ≤ 8 ∧ wpD d 148 [.ref b] w (fun v w' => wp d 162 Q 31 L (v.toList ++ st) w' cn sn)) := w_virtual (As := []) d_162_28 (by decide +kernel : cT (mO 162) 267 = some (0, 148)) rfl (by decide +kernel) rfl (by decide +kernel) rfl
theorem d_162_31 : decode (mB 162) 31 = .ok (.iload_n 1, 1) := by decide +kernel
theorem s_162_31 {d : Nat} {Q : wQ} {L : List (Option Value)} {st : List Value} {w : aw} {cn sn : Nat} {a0 : Option Value} {v : Int32} : wp d 162 Q 31 (a0 :: some (.int v) :: L) st w cn sn = wp d 162 Q 32 (a0 :: some (.int v) :: L) (.int v :: st) w cn sn := w_iload_n d_162_31 rfl
theorem d_162_32 : decode (mB 162) 32 = .ok (.ifCond .eq 26, 3) := by decide +kernel
theorem s_162_32 {d : Nat} {Q : wQ} {L : List (Option Value)} {st : List Value} {w : aw} {cn sn : Nat} {x : Int32} : wp d 162 Q 32 L (.int x :: st) w cn sn = ((x = 0 → wp d 162 Q 58 L st w cn sn) ∧ (¬ x = 0 → wp d 162 Q 35 L st w cn sn)) := w_ifeq d_162_32 (by decide)
theorem d_162_35 : decode (mB 162) 35 = .ok (.aload_n 0, 1) := by decide +kernel
theorem s_162_35 {d : Nat} {Q : wQ} {L : List (Option Value)} {st : List Value} {w : aw} {cn sn : Nat} {v : Nat} : wp d 162 Q 35 (some (.ref v) :: L) st w cn sn = wp d 162 Q 36 (some (.ref v) :: L) (.ref v :: st) w cn sn := w_aload_n d_162_35 rfl
theorem d_162_36 : decode (mB 162) 36 = .ok (.getfield 231, 3) := by decide +kernel
theorem s_162_36 {d : Nat} {Q : wQ} {L : List (Option Value)} {st : List Value} {w : aw} {cn sn : Nat} {a : Nat} : wp d 162 Q 36 L (.ref a :: st) w cn sn = (kd w a = 9 ∧ wp d 162 Q 39 L (fd w 555 a :: st) w cn sn) := w_getfield d_162_36 (by decide +kernel : fT (mO 162) 231 = some (8, 43))
theorem d_162_39 : decode (mB 162) 39 = .ok (.iload_n 2, 1) := by decide +kernel
theorem s_162_39 {d : Nat} {Q : wQ} {L : List (Option Value)} {st : List Value} {w : aw} {cn sn : Nat} {a0 a1 : Option Value} {v : Int32} : wp d 162 Q 39 (a0 :: a1 :: some (.int v) :: L) st w cn sn = wp d 162 Q 40 (a0 :: a1 :: some (.int v) :: L) (.int v :: st) w cn sn := w_iload_n d_162_39 rfl
theorem d_162_40 : decode (mB 162) 40 = .ok (.if_icmp .gt 14, 3) := by decide +kernel
theorem s_162_40 {d : Nat} {Q : wQ} {L : List (Option Value)} {st : List Value} {w : aw} {cn sn : Nat} {a b : Int32} : wp d 162 Q 40 L (.int b :: .int a :: st) w cn sn = ((b < a → wp d 162 Q 54 L st w cn sn) ∧ (¬ b < a → wp d 162 Q 43 L st w cn sn)) := w_icgt d_162_40 (by decide)
theorem d_162_43 : decode (mB 162) 43 = .ok (.aload_n 0, 1) := by decide +kernel
theorem s_162_43 {d : Nat} {Q : wQ} {L : List (Option Value)} {st : List Value} {w : aw} {cn sn : Nat} {v : Nat} : wp d 162 Q 43 (some (.ref v) :: L) st w cn sn = wp d 162 Q 44 (some (.ref v) :: L) (.ref v :: st) w cn sn := w_aload_n d_162_43 rfl
theorem d_162_44 : decode (mB 162) 44 = .ok (.getfield 231, 3) := by decide +kernel
theorem s_162_44 {d : Nat} {Q : wQ} {L : List (Option Value)} {st : List Value} {w : aw} {cn sn : Nat} {a : Nat} : wp d 162 Q 44 L (.ref a :: st) w cn sn = (kd w a = 9 ∧ wp d 162 Q 47 L (fd w 555 a :: st) w cn sn) := w_getfield d_162_44 (by decide +kernel : fT (mO 162) 231 = some (8, 43))
theorem d_162_47 : decode (mB 162) 47 = .ok (.aload_n 0, 1) := by decide +kernel
theorem s_162_47 {d : Nat} {Q : wQ} {L : List (Option Value)} {st : List Value} {w : aw} {cn sn : Nat} {v : Nat} : wp d 162 Q 47 (some (.ref v) :: L) st w cn sn = wp d 162 Q 48 (some (.ref v) :: L) (.ref v :: st) w cn sn := w_aload_n d_162_47 rfl
theorem d_162_48 : decode (mB 162) 48 = .ok (.getfield 228, 3) := by decide +kernel
theorem s_162_48 {d : Nat} {Q : wQ} {L : List (Option Value)} {st : List Value} {w : aw} {cn sn : Nat} {a : Nat} : wp d 162 Q 48 L (.ref a :: st) w cn sn = (kd w a = 9 ∧ wp d 162 Q 51 L (fd w 556 a :: st) w cn sn) := w_getfield d_162_48 (by decide +kernel : fT (mO 162) 228 = some (8, 44))
theorem d_162_51 : decode (mB 162) 51 = .ok (.if_icmp .lt 7, 3) := by decide +kernel
theorem s_162_51 {d : Nat} {Q : wQ} {L : List (Option Value)} {st : List Value} {w : aw} {cn sn : Nat} {a b : Int32} : wp d 162 Q 51 L (.int b :: .int a :: st) w cn sn = ((a < b → wp d 162 Q 58 L st w cn sn) ∧ (¬ a < b → wp d 162 Q 54 L st w cn sn)) := w_iclt d_162_51 (by decide)
theorem d_162_54 : decode (mB 162) 54 = .ok (.iconst 1, 1) := by decide +kernel
theorem s_162_54 {d : Nat} {Q : wQ} {L : List (Option Value)} {st : List Value} {w : aw} {cn sn : Nat}  : wp d 162 Q 54 L st w cn sn = wp d 162 Q 55 L (.int 1 :: st) w cn sn := w_iconst d_162_54 (by decide)
theorem d_162_55 : decode (mB 162) 55 = .ok (.goto 4, 3) := by decide +kernel
theorem s_162_55 {d : Nat} {Q : wQ} {L : List (Option Value)} {st : List Value} {w : aw} {cn sn : Nat}  : wp d 162 Q 55 L st w cn sn = wp d 162 Q 59 L st w cn sn := w_goto d_162_55 (by decide)
theorem d_162_58 : decode (mB 162) 58 = .ok (.iconst 0, 1) := by decide +kernel
theorem s_162_58 {d : Nat} {Q : wQ} {L : List (Option Value)} {st : List Value} {w : aw} {cn sn : Nat}  : wp d 162 Q 58 L st w cn sn = wp d 162 Q 59 L (.int 0 :: st) w cn sn := w_iconst d_162_58 (by decide)
theorem d_162_59 : decode (mB 162) 59 = .ok (.istore_n 1, 1) := by decide +kernel
theorem s_162_59 {d : Nat} {Q : wQ} {L : List (Option Value)} {st : List Value} {w : aw} {cn sn : Nat} {a0 a1 : Option Value} {v : Int32} : wp d 162 Q 59 (a0 :: a1 :: L) (.int v :: st) w cn sn = wp d 162 Q 60 (clr a0 :: some (.int v) :: L) st w cn sn := w_istore_n d_162_59 (Nat.le_add_left 2 _) rfl
theorem d_162_60 : decode (mB 162) 60 = .ok (.goto (-58), 3) := by decide +kernel
theorem s_162_60 {d : Nat} {Q : wQ} {L : List (Option Value)} {st : List Value} {w : aw} {cn sn : Nat}  : wp d 162 Q 60 L st w cn sn = wp d 162 Q 2 L st w cn sn := w_goto d_162_60 (by decide)
theorem d_162_63 : decode (mB 162) 63 = .ok (.iload_n 1, 1) := by decide +kernel
theorem s_162_63 {d : Nat} {Q : wQ} {L : List (Option Value)} {st : List Value} {w : aw} {cn sn : Nat} {a0 : Option Value} {v : Int32} : wp d 162 Q 63 (a0 :: some (.int v) :: L) st w cn sn = wp d 162 Q 64 (a0 :: some (.int v) :: L) (.int v :: st) w cn sn := w_iload_n d_162_63 rfl
theorem d_162_64 : decode (mB 162) 64 = .ok (.ireturn, 1) := by decide +kernel
theorem s_162_64 {d : Nat} {Q : wQ} {L : List (Option Value)} {w : aw} {cn sn : Nat} {v : Int32} : wp d 162 Q 64 L [.int v] w cn sn = (narrow .boolean (.int v) = .int v ∧ Q (some (.int v)) w) := w_zreturn d_162_64 rfl
theorem d_163_0 : decode (mB 163) 0 = .ok (.aload_n 0, 1) := by decide +kernel
theorem s_163_0 {d : Nat} {Q : wQ} {L : List (Option Value)} {st : List Value} {w : aw} {cn sn : Nat} {v : Nat} : wp d 163 Q 0 (some (.ref v) :: L) st w cn sn = wp d 163 Q 1 (some (.ref v) :: L) (.ref v :: st) w cn sn := w_aload_n d_163_0 rfl
theorem d_163_1 : decode (mB 163) 1 = .ok (.lload_n 1, 1) := by decide +kernel
theorem s_163_1 {d : Nat} {Q : wQ} {L : List (Option Value)} {st : List Value} {w : aw} {cn sn : Nat} {a0 : Option Value} {v : Int64} : wp d 163 Q 1 (a0 :: some (.long v) :: L) st w cn sn = wp d 163 Q 2 (a0 :: some (.long v) :: L) (.long v :: st) w cn sn := w_lload_n d_163_1 rfl
theorem d_163_2 : decode (mB 163) 2 = .ok (.invokevirtual 250, 3) := by decide +kernel
theorem s_163_2 {d : Nat} {Q : wQ} {L : List (Option Value)} {st : List Value} {w : aw} {cn sn : Nat} {v0 : Value} {b : Nat} : wp d 163 Q 2 L (v0 :: .ref b :: st) w cn sn = (kd w b = 9 ∧ catS st ≤ 8 ∧ wpD d 152 [.ref b, v0] w (fun v w' => wp d 163 Q 5 L (v.toList ++ st) w' cn sn)) := w_virtual (As := [v0]) d_163_2 (by decide +kernel : cT (mO 163) 250 = some (0, 152)) rfl (by decide +kernel) rfl (by decide +kernel) rfl
theorem d_163_5 : decode (mB 163) 5 = .ok (.ifCond .lt 5, 3) := by decide +kernel
theorem s_163_5 {d : Nat} {Q : wQ} {L : List (Option Value)} {st : List Value} {w : aw} {cn sn : Nat} {x : Int32} : wp d 163 Q 5 L (.int x :: st) w cn sn = ((x < 0 → wp d 163 Q 10 L st w cn sn) ∧ (¬ x < 0 → wp d 163 Q 8 L st w cn sn)) := w_iflt d_163_5 (by decide)
theorem d_163_8 : decode (mB 163) 8 = .ok (.iconst 3, 1) := by decide +kernel
theorem s_163_8 {d : Nat} {Q : wQ} {L : List (Option Value)} {st : List Value} {w : aw} {cn sn : Nat}  : wp d 163 Q 8 L st w cn sn = wp d 163 Q 9 L (.int 3 :: st) w cn sn := w_iconst d_163_8 (by decide)
theorem d_163_9 : decode (mB 163) 9 = .ok (.ireturn, 1) := by decide +kernel
theorem s_163_9 {d : Nat} {Q : wQ} {L : List (Option Value)} {w : aw} {cn sn : Nat} {v : Int32} : wp d 163 Q 9 L [.int v] w cn sn = Q (some (.int v)) w := w_ireturn d_163_9 rfl
theorem d_163_10 : decode (mB 163) 10 = .ok (.aload_n 0, 1) := by decide +kernel
theorem s_163_10 {d : Nat} {Q : wQ} {L : List (Option Value)} {st : List Value} {w : aw} {cn sn : Nat} {v : Nat} : wp d 163 Q 10 (some (.ref v) :: L) st w cn sn = wp d 163 Q 11 (some (.ref v) :: L) (.ref v :: st) w cn sn := w_aload_n d_163_10 rfl
theorem d_163_11 : decode (mB 163) 11 = .ok (.getfield 96, 3) := by decide +kernel
theorem s_163_11 {d : Nat} {Q : wQ} {L : List (Option Value)} {st : List Value} {w : aw} {cn sn : Nat} {a : Nat} : wp d 163 Q 11 L (.ref a :: st) w cn sn = (kd w a = 9 ∧ wp d 163 Q 14 L (fd w 548 a :: st) w cn sn) := w_getfield d_163_11 (by decide +kernel : fT (mO 163) 96 = some (8, 36))
theorem d_163_14 : decode (mB 163) 14 = .ok (.aload_n 0, 1) := by decide +kernel
theorem s_163_14 {d : Nat} {Q : wQ} {L : List (Option Value)} {st : List Value} {w : aw} {cn sn : Nat} {v : Nat} : wp d 163 Q 14 (some (.ref v) :: L) st w cn sn = wp d 163 Q 15 (some (.ref v) :: L) (.ref v :: st) w cn sn := w_aload_n d_163_14 rfl
theorem d_163_15 : decode (mB 163) 15 = .ok (.getfield 103, 3) := by decide +kernel
theorem s_163_15 {d : Nat} {Q : wQ} {L : List (Option Value)} {st : List Value} {w : aw} {cn sn : Nat} {a : Nat} : wp d 163 Q 15 L (.ref a :: st) w cn sn = (kd w a = 9 ∧ wp d 163 Q 18 L (fd w 549 a :: st) w cn sn) := w_getfield d_163_15 (by decide +kernel : fT (mO 163) 103 = some (8, 37))
theorem d_163_18 : decode (mB 163) 18 = .ok (.isub, 1) := by decide +kernel
theorem s_163_18 {d : Nat} {Q : wQ} {L : List (Option Value)} {st : List Value} {w : aw} {cn sn : Nat} {a b : Int32} : wp d 163 Q 18 L (.int b :: .int a :: st) w cn sn = wp d 163 Q 19 L (.int (a - b) :: st) w cn sn := wp_row d_163_18 _ _ _ _ _
theorem d_163_19 : decode (mB 163) 19 = .ok (.sipush 200, 3) := by decide +kernel
theorem s_163_19 {d : Nat} {Q : wQ} {L : List (Option Value)} {st : List Value} {w : aw} {cn sn : Nat}  : wp d 163 Q 19 L st w cn sn = wp d 163 Q 22 L (.int 200 :: st) w cn sn := w_sipush d_163_19 (by decide)
theorem d_163_22 : decode (mB 163) 22 = .ok (.if_icmp .ne 6, 3) := by decide +kernel
theorem s_163_22 {d : Nat} {Q : wQ} {L : List (Option Value)} {st : List Value} {w : aw} {cn sn : Nat} {a b : Int32} : wp d 163 Q 22 L (.int b :: .int a :: st) w cn sn = ((¬ a = b → wp d 163 Q 28 L st w cn sn) ∧ (a = b → wp d 163 Q 25 L st w cn sn)) := w_icne d_163_22 (by decide)
theorem d_163_25 : decode (mB 163) 25 = .ok (.bipush 6, 2) := by decide +kernel
theorem s_163_25 {d : Nat} {Q : wQ} {L : List (Option Value)} {st : List Value} {w : aw} {cn sn : Nat}  : wp d 163 Q 25 L st w cn sn = wp d 163 Q 27 L (.int 6 :: st) w cn sn := w_bipush d_163_25 (by decide)
theorem d_163_27 : decode (mB 163) 27 = .ok (.ireturn, 1) := by decide +kernel
theorem s_163_27 {d : Nat} {Q : wQ} {L : List (Option Value)} {w : aw} {cn sn : Nat} {v : Int32} : wp d 163 Q 27 L [.int v] w cn sn = Q (some (.int v)) w := w_ireturn d_163_27 rfl
theorem d_163_28 : decode (mB 163) 28 = .ok (.aload_n 0, 1) := by decide +kernel
theorem s_163_28 {d : Nat} {Q : wQ} {L : List (Option Value)} {st : List Value} {w : aw} {cn sn : Nat} {v : Nat} : wp d 163 Q 28 (some (.ref v) :: L) st w cn sn = wp d 163 Q 29 (some (.ref v) :: L) (.ref v :: st) w cn sn := w_aload_n d_163_28 rfl
theorem d_163_29 : decode (mB 163) 29 = .ok (.getfield 75, 3) := by decide +kernel
theorem s_163_29 {d : Nat} {Q : wQ} {L : List (Option Value)} {st : List Value} {w : aw} {cn sn : Nat} {a : Nat} : wp d 163 Q 29 L (.ref a :: st) w cn sn = (kd w a = 9 ∧ wp d 163 Q 32 L (fd w 546 a :: st) w cn sn) := w_getfield d_163_29 (by decide +kernel : fT (mO 163) 75 = some (8, 34))
theorem d_163_32 : decode (mB 163) 32 = .ok (.aload_n 0, 1) := by decide +kernel
theorem s_163_32 {d : Nat} {Q : wQ} {L : List (Option Value)} {st : List Value} {w : aw} {cn sn : Nat} {v : Nat} : wp d 163 Q 32 (some (.ref v) :: L) st w cn sn = wp d 163 Q 33 (some (.ref v) :: L) (.ref v :: st) w cn sn := w_aload_n d_163_32 rfl
theorem d_163_33 : decode (mB 163) 33 = .ok (.getfield 96, 3) := by decide +kernel
theorem s_163_33 {d : Nat} {Q : wQ} {L : List (Option Value)} {st : List Value} {w : aw} {cn sn : Nat} {a : Nat} : wp d 163 Q 33 L (.ref a :: st) w cn sn = (kd w a = 9 ∧ wp d 163 Q 36 L (fd w 548 a :: st) w cn sn) := w_getfield d_163_33 (by decide +kernel : fT (mO 163) 96 = some (8, 36))
theorem d_163_36 : decode (mB 163) 36 = .ok (.lload_n 1, 1) := by decide +kernel
theorem s_163_36 {d : Nat} {Q : wQ} {L : List (Option Value)} {st : List Value} {w : aw} {cn sn : Nat} {a0 : Option Value} {v : Int64} : wp d 163 Q 36 (a0 :: some (.long v) :: L) st w cn sn = wp d 163 Q 37 (a0 :: some (.long v) :: L) (.long v :: st) w cn sn := w_lload_n d_163_36 rfl
theorem d_163_37 : decode (mB 163) 37 = .ok (.lastore, 1) := by decide +kernel
theorem s_163_37 {d : Nat} {Q : wQ} {L : List (Option Value)} {st : List Value} {w : aw} {cn sn : Nat} {a : Nat} {i : Int32} {x : Int64} : wp d 163 Q 37 L (.long x :: .int i :: .ref a :: st) w cn sn = (kd w a = 22 ∧ inR i (ln w a) ∧ wp d 163 Q 38 L st (uL w a i.toNatClampNeg x) cn sn) := wp_row d_163_37 _ _ _ _ _
theorem d_163_38 : decode (mB 163) 38 = .ok (.aload_n 0, 1) := by decide +kernel
theorem s_163_38 {d : Nat} {Q : wQ} {L : List (Option Value)} {st : List Value} {w : aw} {cn sn : Nat} {v : Nat} : wp d 163 Q 38 (some (.ref v) :: L) st w cn sn = wp d 163 Q 39 (some (.ref v) :: L) (.ref v :: st) w cn sn := w_aload_n d_163_38 rfl
theorem d_163_39 : decode (mB 163) 39 = .ok (.getfield 79, 3) := by decide +kernel
theorem s_163_39 {d : Nat} {Q : wQ} {L : List (Option Value)} {st : List Value} {w : aw} {cn sn : Nat} {a : Nat} : wp d 163 Q 39 L (.ref a :: st) w cn sn = (kd w a = 9 ∧ wp d 163 Q 42 L (fd w 547 a :: st) w cn sn) := w_getfield d_163_39 (by decide +kernel : fT (mO 163) 79 = some (8, 35))
theorem d_163_42 : decode (mB 163) 42 = .ok (.aload_n 0, 1) := by decide +kernel
theorem s_163_42 {d : Nat} {Q : wQ} {L : List (Option Value)} {st : List Value} {w : aw} {cn sn : Nat} {v : Nat} : wp d 163 Q 42 (some (.ref v) :: L) st w cn sn = wp d 163 Q 43 (some (.ref v) :: L) (.ref v :: st) w cn sn := w_aload_n d_163_42 rfl
theorem d_163_43 : decode (mB 163) 43 = .ok (.getfield 96, 3) := by decide +kernel
theorem s_163_43 {d : Nat} {Q : wQ} {L : List (Option Value)} {st : List Value} {w : aw} {cn sn : Nat} {a : Nat} : wp d 163 Q 43 L (.ref a :: st) w cn sn = (kd w a = 9 ∧ wp d 163 Q 46 L (fd w 548 a :: st) w cn sn) := w_getfield d_163_43 (by decide +kernel : fT (mO 163) 96 = some (8, 36))
theorem d_163_46 : decode (mB 163) 46 = .ok (.iload_n 3, 1) := by decide +kernel
theorem s_163_46 {d : Nat} {Q : wQ} {L : List (Option Value)} {st : List Value} {w : aw} {cn sn : Nat} {a0 a1 a2 : Option Value} {v : Int32} : wp d 163 Q 46 (a0 :: a1 :: a2 :: some (.int v) :: L) st w cn sn = wp d 163 Q 47 (a0 :: a1 :: a2 :: some (.int v) :: L) (.int v :: st) w cn sn := w_iload_n d_163_46 rfl
theorem d_163_47 : decode (mB 163) 47 = .ok (.iastore, 1) := by decide +kernel
theorem s_163_47 {d : Nat} {Q : wQ} {L : List (Option Value)} {st : List Value} {w : aw} {cn sn : Nat} {a : Nat} {i x : Int32} : wp d 163 Q 47 L (.int x :: .int i :: .ref a :: st) w cn sn = (kd w a = 20 ∧ inR i (ln w a) ∧ wp d 163 Q 48 L st (uA w a i.toNatClampNeg x) cn sn) := wp_row d_163_47 _ _ _ _ _
theorem d_163_48 : decode (mB 163) 48 = .ok (.aload_n 0, 1) := by decide +kernel
theorem s_163_48 {d : Nat} {Q : wQ} {L : List (Option Value)} {st : List Value} {w : aw} {cn sn : Nat} {v : Nat} : wp d 163 Q 48 (some (.ref v) :: L) st w cn sn = wp d 163 Q 49 (some (.ref v) :: L) (.ref v :: st) w cn sn := w_aload_n d_163_48 rfl
theorem d_163_49 : decode (mB 163) 49 = .ok (.dup, 1) := by decide +kernel
theorem s_163_49 {d : Nat} {Q : wQ} {L : List (Option Value)} {st : List Value} {w : aw} {cn sn : Nat} {v : Value} : wp d 163 Q 49 L (v :: st) w cn sn = (v.category = 1 ∧ wp d 163 Q 50 L (v :: v :: st) w cn sn) := wp_row d_163_49 _ _ _ _ _
theorem d_163_50 : decode (mB 163) 50 = .ok (.getfield 96, 3) := by decide +kernel
theorem s_163_50 {d : Nat} {Q : wQ} {L : List (Option Value)} {st : List Value} {w : aw} {cn sn : Nat} {a : Nat} : wp d 163 Q 50 L (.ref a :: st) w cn sn = (kd w a = 9 ∧ wp d 163 Q 53 L (fd w 548 a :: st) w cn sn) := w_getfield d_163_50 (by decide +kernel : fT (mO 163) 96 = some (8, 36))
theorem d_163_53 : decode (mB 163) 53 = .ok (.iconst 1, 1) := by decide +kernel
theorem s_163_53 {d : Nat} {Q : wQ} {L : List (Option Value)} {st : List Value} {w : aw} {cn sn : Nat}  : wp d 163 Q 53 L st w cn sn = wp d 163 Q 54 L (.int 1 :: st) w cn sn := w_iconst d_163_53 (by decide)
theorem d_163_54 : decode (mB 163) 54 = .ok (.iadd, 1) := by decide +kernel
theorem s_163_54 {d : Nat} {Q : wQ} {L : List (Option Value)} {st : List Value} {w : aw} {cn sn : Nat} {a b : Int32} : wp d 163 Q 54 L (.int b :: .int a :: st) w cn sn = wp d 163 Q 55 L (.int (a + b) :: st) w cn sn := wp_row d_163_54 _ _ _ _ _
theorem d_163_55 : decode (mB 163) 55 = .ok (.putfield 96, 3) := by decide +kernel
theorem s_163_55 {d : Nat} {Q : wQ} {L : List (Option Value)} {st : List Value} {w : aw} {cn sn : Nat} {x : Int32} {a : Nat} : wp d 163 Q 55 L (.int x :: .ref a :: st) w cn sn = (kd w a = 9 ∧ wp d 163 Q 58 L st (uF w 548 a (.int x)) cn sn) := w_putfield d_163_55 (by decide +kernel : fT (mO 163) 96 = some (8, 36)) (by decide +kernel) ok_int
theorem d_163_58 : decode (mB 163) 58 = .ok (.iconst 0, 1) := by decide +kernel
theorem s_163_58 {d : Nat} {Q : wQ} {L : List (Option Value)} {st : List Value} {w : aw} {cn sn : Nat}  : wp d 163 Q 58 L st w cn sn = wp d 163 Q 59 L (.int 0 :: st) w cn sn := w_iconst d_163_58 (by decide)
theorem d_163_59 : decode (mB 163) 59 = .ok (.ireturn, 1) := by decide +kernel
theorem s_163_59 {d : Nat} {Q : wQ} {L : List (Option Value)} {w : aw} {cn sn : Nat} {v : Int32} : wp d 163 Q 59 L [.int v] w cn sn = Q (some (.int v)) w := w_ireturn d_163_59 rfl
theorem d_164_0 : decode (mB 164) 0 = .ok (.aload_n 0, 1) := by decide +kernel
theorem s_164_0 {d : Nat} {Q : wQ} {L : List (Option Value)} {st : List Value} {w : aw} {cn sn : Nat} {v : Nat} : wp d 164 Q 0 (some (.ref v) :: L) st w cn sn = wp d 164 Q 1 (some (.ref v) :: L) (.ref v :: st) w cn sn := w_aload_n d_164_0 rfl
theorem d_164_1 : decode (mB 164) 1 = .ok (.invokevirtual 267, 3) := by decide +kernel
theorem s_164_1 {d : Nat} {Q : wQ} {L : List (Option Value)} {st : List Value} {w : aw} {cn sn : Nat} {b : Nat} : wp d 164 Q 1 L (.ref b :: st) w cn sn = (kd w b = 9 ∧ catS st ≤ 8 ∧ wpD d 148 [.ref b] w (fun v w' => wp d 164 Q 4 L (v.toList ++ st) w' cn sn)) := w_virtual (As := []) d_164_1 (by decide +kernel : cT (mO 164) 267 = some (0, 148)) rfl (by decide +kernel) rfl (by decide +kernel) rfl
theorem d_164_4 : decode (mB 164) 4 = .ok (.iconst 0, 1) := by decide +kernel
theorem s_164_4 {d : Nat} {Q : wQ} {L : List (Option Value)} {st : List Value} {w : aw} {cn sn : Nat}  : wp d 164 Q 4 L st w cn sn = wp d 164 Q 5 L (.int 0 :: st) w cn sn := w_iconst d_164_4 (by decide)
theorem d_164_5 : decode (mB 164) 5 = .ok (.istore_n 1, 1) := by decide +kernel
theorem s_164_5 {d : Nat} {Q : wQ} {L : List (Option Value)} {st : List Value} {w : aw} {cn sn : Nat} {a0 a1 : Option Value} {v : Int32} : wp d 164 Q 5 (a0 :: a1 :: L) (.int v :: st) w cn sn = wp d 164 Q 6 (clr a0 :: some (.int v) :: L) st w cn sn := w_istore_n d_164_5 (Nat.le_add_left 2 _) rfl
theorem d_164_6 : decode (mB 164) 6 = .ok (.iload_n 1, 1) := by decide +kernel
theorem s_164_6 {d : Nat} {Q : wQ} {L : List (Option Value)} {st : List Value} {w : aw} {cn sn : Nat} {a0 : Option Value} {v : Int32} : wp d 164 Q 6 (a0 :: some (.int v) :: L) st w cn sn = wp d 164 Q 7 (a0 :: some (.int v) :: L) (.int v :: st) w cn sn := w_iload_n d_164_6 rfl
theorem d_164_7 : decode (mB 164) 7 = .ok (.ifCond .ne 48, 3) := by decide +kernel
theorem s_164_7 {d : Nat} {Q : wQ} {L : List (Option Value)} {st : List Value} {w : aw} {cn sn : Nat} {x : Int32} : wp d 164 Q 7 L (.int x :: st) w cn sn = ((¬ x = 0 → wp d 164 Q 55 L st w cn sn) ∧ (x = 0 → wp d 164 Q 10 L st w cn sn)) := w_ifne d_164_7 (by decide)
theorem d_164_10 : decode (mB 164) 10 = .ok (.aload_n 0, 1) := by decide +kernel
theorem s_164_10 {d : Nat} {Q : wQ} {L : List (Option Value)} {st : List Value} {w : aw} {cn sn : Nat} {v : Nat} : wp d 164 Q 10 (some (.ref v) :: L) st w cn sn = wp d 164 Q 11 (some (.ref v) :: L) (.ref v :: st) w cn sn := w_aload_n d_164_10 rfl
theorem d_164_11 : decode (mB 164) 11 = .ok (.invokevirtual 270, 3) := by decide +kernel
theorem s_164_11 {d : Nat} {Q : wQ} {L : List (Option Value)} {st : List Value} {w : aw} {cn sn : Nat} {b : Nat} : wp d 164 Q 11 L (.ref b :: st) w cn sn = (kd w b = 9 ∧ catS st ≤ 8 ∧ wpD d 154 [.ref b] w (fun v w' => wp d 164 Q 14 L (v.toList ++ st) w' cn sn)) := w_virtual (As := []) d_164_11 (by decide +kernel : cT (mO 164) 270 = some (0, 154)) rfl (by decide +kernel) rfl (by decide +kernel) rfl
theorem d_164_14 : decode (mB 164) 14 = .ok (.ifCond .eq 41, 3) := by decide +kernel
theorem s_164_14 {d : Nat} {Q : wQ} {L : List (Option Value)} {st : List Value} {w : aw} {cn sn : Nat} {x : Int32} : wp d 164 Q 14 L (.int x :: st) w cn sn = ((x = 0 → wp d 164 Q 55 L st w cn sn) ∧ (¬ x = 0 → wp d 164 Q 17 L st w cn sn)) := w_ifeq d_164_14 (by decide)
theorem d_164_17 : decode (mB 164) 17 = .ok (.aload_n 0, 1) := by decide +kernel
theorem s_164_17 {d : Nat} {Q : wQ} {L : List (Option Value)} {st : List Value} {w : aw} {cn sn : Nat} {v : Nat} : wp d 164 Q 17 (some (.ref v) :: L) st w cn sn = wp d 164 Q 18 (some (.ref v) :: L) (.ref v :: st) w cn sn := w_aload_n d_164_17 rfl
theorem d_164_18 : decode (mB 164) 18 = .ok (.aload_n 0, 1) := by decide +kernel
theorem s_164_18 {d : Nat} {Q : wQ} {L : List (Option Value)} {st : List Value} {w : aw} {cn sn : Nat} {v : Nat} : wp d 164 Q 18 (some (.ref v) :: L) st w cn sn = wp d 164 Q 19 (some (.ref v) :: L) (.ref v :: st) w cn sn := w_aload_n d_164_18 rfl
theorem d_164_19 : decode (mB 164) 19 = .ok (.aload_n 0, 1) := by decide +kernel
theorem s_164_19 {d : Nat} {Q : wQ} {L : List (Option Value)} {st : List Value} {w : aw} {cn sn : Nat} {v : Nat} : wp d 164 Q 19 (some (.ref v) :: L) st w cn sn = wp d 164 Q 20 (some (.ref v) :: L) (.ref v :: st) w cn sn := w_aload_n d_164_19 rfl
theorem d_164_20 : decode (mB 164) 20 = .ok (.getfield 231, 3) := by decide +kernel
theorem s_164_20 {d : Nat} {Q : wQ} {L : List (Option Value)} {st : List Value} {w : aw} {cn sn : Nat} {a : Nat} : wp d 164 Q 20 L (.ref a :: st) w cn sn = (kd w a = 9 ∧ wp d 164 Q 23 L (fd w 555 a :: st) w cn sn) := w_getfield d_164_20 (by decide +kernel : fT (mO 164) 231 = some (8, 43))
theorem d_164_23 : decode (mB 164) 23 = .ok (.invokevirtual 246, 3) := by decide +kernel
theorem s_164_23 {d : Nat} {Q : wQ} {L : List (Option Value)} {st : List Value} {w : aw} {cn sn : Nat} {v0 : Value} {b : Nat} : wp d 164 Q 23 L (v0 :: .ref b :: st) w cn sn = (kd w b = 9 ∧ catS st ≤ 8 ∧ wpD d 151 [.ref b, v0] w (fun v w' => wp d 164 Q 26 L (v.toList ++ st) w' cn sn)) := w_virtual (As := [v0]) d_164_23 (by decide +kernel : cT (mO 164) 246 = some (0, 151)) rfl (by decide +kernel) rfl (by decide +kernel) rfl
theorem d_164_26 : decode (mB 164) 26 = .ok (.aload_n 0, 1) := by decide +kernel
theorem s_164_26 {d : Nat} {Q : wQ} {L : List (Option Value)} {st : List Value} {w : aw} {cn sn : Nat} {v : Nat} : wp d 164 Q 26 (some (.ref v) :: L) st w cn sn = wp d 164 Q 27 (some (.ref v) :: L) (.ref v :: st) w cn sn := w_aload_n d_164_26 rfl
theorem d_164_27 : decode (mB 164) 27 = .ok (.getfield 254, 3) := by decide +kernel
theorem s_164_27 {d : Nat} {Q : wQ} {L : List (Option Value)} {st : List Value} {w : aw} {cn sn : Nat} {a : Nat} : wp d 164 Q 27 L (.ref a :: st) w cn sn = (kd w a = 9 ∧ wp d 164 Q 30 L (fd w 554 a :: st) w cn sn) := w_getfield d_164_27 (by decide +kernel : fT (mO 164) 254 = some (8, 42))
theorem d_164_30 : decode (mB 164) 30 = .ok (.invokevirtual 295, 3) := by decide +kernel
theorem s_164_30 {d : Nat} {Q : wQ} {L : List (Option Value)} {st : List Value} {w : aw} {cn sn : Nat} {v0 v1 : Value} {b : Nat} : wp d 164 Q 30 L (v1 :: v0 :: .ref b :: st) w cn sn = (kd w b = 9 ∧ catS st ≤ 8 ∧ wpD d 163 [.ref b, v0, v1] w (fun v w' => wp d 164 Q 33 L (v.toList ++ st) w' cn sn)) := w_virtual (As := [v0, v1]) d_164_30 (by decide +kernel : cT (mO 164) 295 = some (0, 163)) rfl (by decide +kernel) rfl (by decide +kernel) rfl
theorem d_164_33 : decode (mB 164) 33 = .ok (.istore_n 1, 1) := by decide +kernel
theorem s_164_33 {d : Nat} {Q : wQ} {L : List (Option Value)} {st : List Value} {w : aw} {cn sn : Nat} {a0 a1 : Option Value} {v : Int32} : wp d 164 Q 33 (a0 :: a1 :: L) (.int v :: st) w cn sn = wp d 164 Q 34 (clr a0 :: some (.int v) :: L) st w cn sn := w_istore_n d_164_33 (Nat.le_add_left 2 _) rfl
theorem d_164_34 : decode (mB 164) 34 = .ok (.aload_n 0, 1) := by decide +kernel
theorem s_164_34 {d : Nat} {Q : wQ} {L : List (Option Value)} {st : List Value} {w : aw} {cn sn : Nat} {v : Nat} : wp d 164 Q 34 (some (.ref v) :: L) st w cn sn = wp d 164 Q 35 (some (.ref v) :: L) (.ref v :: st) w cn sn := w_aload_n d_164_34 rfl
theorem d_164_35 : decode (mB 164) 35 = .ok (.aload_n 0, 1) := by decide +kernel
theorem s_164_35 {d : Nat} {Q : wQ} {L : List (Option Value)} {st : List Value} {w : aw} {cn sn : Nat} {v : Nat} : wp d 164 Q 35 (some (.ref v) :: L) st w cn sn = wp d 164 Q 36 (some (.ref v) :: L) (.ref v :: st) w cn sn := w_aload_n d_164_35 rfl
theorem d_164_36 : decode (mB 164) 36 = .ok (.aload_n 0, 1) := by decide +kernel
theorem s_164_36 {d : Nat} {Q : wQ} {L : List (Option Value)} {st : List Value} {w : aw} {cn sn : Nat} {v : Nat} : wp d 164 Q 36 (some (.ref v) :: L) st w cn sn = wp d 164 Q 37 (some (.ref v) :: L) (.ref v :: st) w cn sn := w_aload_n d_164_36 rfl
theorem d_164_37 : decode (mB 164) 37 = .ok (.getfield 231, 3) := by decide +kernel
theorem s_164_37 {d : Nat} {Q : wQ} {L : List (Option Value)} {st : List Value} {w : aw} {cn sn : Nat} {a : Nat} : wp d 164 Q 37 L (.ref a :: st) w cn sn = (kd w a = 9 ∧ wp d 164 Q 40 L (fd w 555 a :: st) w cn sn) := w_getfield d_164_37 (by decide +kernel : fT (mO 164) 231 = some (8, 43))
theorem d_164_40 : decode (mB 164) 40 = .ok (.invokevirtual 240, 3) := by decide +kernel
theorem s_164_40 {d : Nat} {Q : wQ} {L : List (Option Value)} {st : List Value} {w : aw} {cn sn : Nat} {v0 : Value} {b : Nat} : wp d 164 Q 40 L (v0 :: .ref b :: st) w cn sn = (kd w b = 9 ∧ catS st ≤ 8 ∧ wpD d 149 [.ref b, v0] w (fun v w' => wp d 164 Q 43 L (v.toList ++ st) w' cn sn)) := w_virtual (As := [v0]) d_164_40 (by decide +kernel : cT (mO 164) 240 = some (0, 149)) rfl (by decide +kernel) rfl (by decide +kernel) rfl
theorem d_164_43 : decode (mB 164) 43 = .ok (.iconst 1, 1) := by decide +kernel
theorem s_164_43 {d : Nat} {Q : wQ} {L : List (Option Value)} {st : List Value} {w : aw} {cn sn : Nat}  : wp d 164 Q 43 L st w cn sn = wp d 164 Q 44 L (.int 1 :: st) w cn sn := w_iconst d_164_43 (by decide)
theorem d_164_44 : decode (mB 164) 44 = .ok (.iadd, 1) := by decide +kernel
theorem s_164_44 {d : Nat} {Q : wQ} {L : List (Option Value)} {st : List Value} {w : aw} {cn sn : Nat} {a b : Int32} : wp d 164 Q 44 L (.int b :: .int a :: st) w cn sn = wp d 164 Q 45 L (.int (a + b) :: st) w cn sn := wp_row d_164_44 _ _ _ _ _
theorem d_164_45 : decode (mB 164) 45 = .ok (.putfield 231, 3) := by decide +kernel
theorem s_164_45 {d : Nat} {Q : wQ} {L : List (Option Value)} {st : List Value} {w : aw} {cn sn : Nat} {x : Int32} {a : Nat} : wp d 164 Q 45 L (.int x :: .ref a :: st) w cn sn = (kd w a = 9 ∧ wp d 164 Q 48 L st (uF w 555 a (.int x)) cn sn) := w_putfield d_164_45 (by decide +kernel : fT (mO 164) 231 = some (8, 43)) (by decide +kernel) ok_int
theorem d_164_48 : decode (mB 164) 48 = .ok (.aload_n 0, 1) := by decide +kernel
theorem s_164_48 {d : Nat} {Q : wQ} {L : List (Option Value)} {st : List Value} {w : aw} {cn sn : Nat} {v : Nat} : wp d 164 Q 48 (some (.ref v) :: L) st w cn sn = wp d 164 Q 49 (some (.ref v) :: L) (.ref v :: st) w cn sn := w_aload_n d_164_48 rfl
theorem d_164_49 : decode (mB 164) 49 = .ok (.invokevirtual 267, 3) := by decide +kernel
theorem s_164_49 {d : Nat} {Q : wQ} {L : List (Option Value)} {st : List Value} {w : aw} {cn sn : Nat} {b : Nat} : wp d 164 Q 49 L (.ref b :: st) w cn sn = (kd w b = 9 ∧ catS st ≤ 8 ∧ wpD d 148 [.ref b] w (fun v w' => wp d 164 Q 52 L (v.toList ++ st) w' cn sn)) := w_virtual (As := []) d_164_49 (by decide +kernel : cT (mO 164) 267 = some (0, 148)) rfl (by decide +kernel) rfl (by decide +kernel) rfl
theorem d_164_52 : decode (mB 164) 52 = .ok (.goto (-46), 3) := by decide +kernel
theorem s_164_52 {d : Nat} {Q : wQ} {L : List (Option Value)} {st : List Value} {w : aw} {cn sn : Nat}  : wp d 164 Q 52 L st w cn sn = wp d 164 Q 6 L st w cn sn := w_goto d_164_52 (by decide)
theorem d_164_55 : decode (mB 164) 55 = .ok (.iload_n 1, 1) := by decide +kernel
theorem s_164_55 {d : Nat} {Q : wQ} {L : List (Option Value)} {st : List Value} {w : aw} {cn sn : Nat} {a0 : Option Value} {v : Int32} : wp d 164 Q 55 (a0 :: some (.int v) :: L) st w cn sn = wp d 164 Q 56 (a0 :: some (.int v) :: L) (.int v :: st) w cn sn := w_iload_n d_164_55 rfl
theorem d_164_56 : decode (mB 164) 56 = .ok (.ifCond .gt 14, 3) := by decide +kernel
theorem s_164_56 {d : Nat} {Q : wQ} {L : List (Option Value)} {st : List Value} {w : aw} {cn sn : Nat} {x : Int32} : wp d 164 Q 56 L (.int x :: st) w cn sn = ((0 < x → wp d 164 Q 70 L st w cn sn) ∧ (¬ 0 < x → wp d 164 Q 59 L st w cn sn)) := w_ifgt d_164_56 (by decide)
theorem d_164_59 : decode (mB 164) 59 = .ok (.aload_n 0, 1) := by decide +kernel
theorem s_164_59 {d : Nat} {Q : wQ} {L : List (Option Value)} {st : List Value} {w : aw} {cn sn : Nat} {v : Nat} : wp d 164 Q 59 (some (.ref v) :: L) st w cn sn = wp d 164 Q 60 (some (.ref v) :: L) (.ref v :: st) w cn sn := w_aload_n d_164_59 rfl
theorem d_164_60 : decode (mB 164) 60 = .ok (.getfield 231, 3) := by decide +kernel
theorem s_164_60 {d : Nat} {Q : wQ} {L : List (Option Value)} {st : List Value} {w : aw} {cn sn : Nat} {a : Nat} : wp d 164 Q 60 L (.ref a :: st) w cn sn = (kd w a = 9 ∧ wp d 164 Q 63 L (fd w 555 a :: st) w cn sn) := w_getfield d_164_60 (by decide +kernel : fT (mO 164) 231 = some (8, 43))
theorem d_164_63 : decode (mB 164) 63 = .ok (.aload_n 0, 1) := by decide +kernel
theorem s_164_63 {d : Nat} {Q : wQ} {L : List (Option Value)} {st : List Value} {w : aw} {cn sn : Nat} {v : Nat} : wp d 164 Q 63 (some (.ref v) :: L) st w cn sn = wp d 164 Q 64 (some (.ref v) :: L) (.ref v :: st) w cn sn := w_aload_n d_164_63 rfl
theorem d_164_64 : decode (mB 164) 64 = .ok (.getfield 228, 3) := by decide +kernel
theorem s_164_64 {d : Nat} {Q : wQ} {L : List (Option Value)} {st : List Value} {w : aw} {cn sn : Nat} {a : Nat} : wp d 164 Q 64 L (.ref a :: st) w cn sn = (kd w a = 9 ∧ wp d 164 Q 67 L (fd w 556 a :: st) w cn sn) := w_getfield d_164_64 (by decide +kernel : fT (mO 164) 228 = some (8, 44))
theorem d_164_67 : decode (mB 164) 67 = .ok (.if_icmp .lt 5, 3) := by decide +kernel
theorem s_164_67 {d : Nat} {Q : wQ} {L : List (Option Value)} {st : List Value} {w : aw} {cn sn : Nat} {a b : Int32} : wp d 164 Q 67 L (.int b :: .int a :: st) w cn sn = ((a < b → wp d 164 Q 72 L st w cn sn) ∧ (¬ a < b → wp d 164 Q 70 L st w cn sn)) := w_iclt d_164_67 (by decide)
theorem d_164_70 : decode (mB 164) 70 = .ok (.iload_n 1, 1) := by decide +kernel
theorem s_164_70 {d : Nat} {Q : wQ} {L : List (Option Value)} {st : List Value} {w : aw} {cn sn : Nat} {a0 : Option Value} {v : Int32} : wp d 164 Q 70 (a0 :: some (.int v) :: L) st w cn sn = wp d 164 Q 71 (a0 :: some (.int v) :: L) (.int v :: st) w cn sn := w_iload_n d_164_70 rfl
theorem d_164_71 : decode (mB 164) 71 = .ok (.ireturn, 1) := by decide +kernel
theorem s_164_71 {d : Nat} {Q : wQ} {L : List (Option Value)} {w : aw} {cn sn : Nat} {v : Int32} : wp d 164 Q 71 L [.int v] w cn sn = Q (some (.int v)) w := w_ireturn d_164_71 rfl
theorem d_164_72 : decode (mB 164) 72 = .ok (.aload_n 0, 1) := by decide +kernel
theorem s_164_72 {d : Nat} {Q : wQ} {L : List (Option Value)} {st : List Value} {w : aw} {cn sn : Nat} {v : Nat} : wp d 164 Q 72 (some (.ref v) :: L) st w cn sn = wp d 164 Q 73 (some (.ref v) :: L) (.ref v :: st) w cn sn := w_aload_n d_164_72 rfl
theorem d_164_73 : decode (mB 164) 73 = .ok (.aload_n 0, 1) := by decide +kernel
theorem s_164_73 {d : Nat} {Q : wQ} {L : List (Option Value)} {st : List Value} {w : aw} {cn sn : Nat} {v : Nat} : wp d 164 Q 73 (some (.ref v) :: L) st w cn sn = wp d 164 Q 74 (some (.ref v) :: L) (.ref v :: st) w cn sn := w_aload_n d_164_73 rfl
theorem d_164_74 : decode (mB 164) 74 = .ok (.getfield 231, 3) := by decide +kernel
theorem s_164_74 {d : Nat} {Q : wQ} {L : List (Option Value)} {st : List Value} {w : aw} {cn sn : Nat} {a : Nat} : wp d 164 Q 74 L (.ref a :: st) w cn sn = (kd w a = 9 ∧ wp d 164 Q 77 L (fd w 555 a :: st) w cn sn) := w_getfield d_164_74 (by decide +kernel : fT (mO 164) 231 = some (8, 43))
theorem d_164_77 : decode (mB 164) 77 = .ok (.invokevirtual 237, 3) := by decide +kernel
theorem s_164_77 {d : Nat} {Q : wQ} {L : List (Option Value)} {st : List Value} {w : aw} {cn sn : Nat} {v0 : Value} {b : Nat} : wp d 164 Q 77 L (v0 :: .ref b :: st) w cn sn = (kd w b = 9 ∧ catS st ≤ 8 ∧ wpD d 147 [.ref b, v0] w (fun v w' => wp d 164 Q 80 L (v.toList ++ st) w' cn sn)) := w_virtual (As := [v0]) d_164_77 (by decide +kernel : cT (mO 164) 237 = some (0, 147)) rfl (by decide +kernel) rfl (by decide +kernel) rfl
theorem d_164_80 : decode (mB 164) 80 = .ok (.bipush 42, 2) := by decide +kernel
theorem s_164_80 {d : Nat} {Q : wQ} {L : List (Option Value)} {st : List Value} {w : aw} {cn sn : Nat}  : wp d 164 Q 80 L st w cn sn = wp d 164 Q 82 L (.int 42 :: st) w cn sn := w_bipush d_164_80 (by decide)
theorem d_164_82 : decode (mB 164) 82 = .ok (.if_icmp .ne 41, 3) := by decide +kernel
theorem s_164_82 {d : Nat} {Q : wQ} {L : List (Option Value)} {st : List Value} {w : aw} {cn sn : Nat} {a b : Int32} : wp d 164 Q 82 L (.int b :: .int a :: st) w cn sn = ((¬ a = b → wp d 164 Q 123 L st w cn sn) ∧ (a = b → wp d 164 Q 85 L st w cn sn)) := w_icne d_164_82 (by decide)
theorem d_164_85 : decode (mB 164) 85 = .ok (.aload_n 0, 1) := by decide +kernel
theorem s_164_85 {d : Nat} {Q : wQ} {L : List (Option Value)} {st : List Value} {w : aw} {cn sn : Nat} {v : Nat} : wp d 164 Q 85 (some (.ref v) :: L) st w cn sn = wp d 164 Q 86 (some (.ref v) :: L) (.ref v :: st) w cn sn := w_aload_n d_164_85 rfl
theorem d_164_86 : decode (mB 164) 86 = .ok (.dup, 1) := by decide +kernel
theorem s_164_86 {d : Nat} {Q : wQ} {L : List (Option Value)} {st : List Value} {w : aw} {cn sn : Nat} {v : Value} : wp d 164 Q 86 L (v :: st) w cn sn = (v.category = 1 ∧ wp d 164 Q 87 L (v :: v :: st) w cn sn) := wp_row d_164_86 _ _ _ _ _
theorem d_164_87 : decode (mB 164) 87 = .ok (.getfield 231, 3) := by decide +kernel
theorem s_164_87 {d : Nat} {Q : wQ} {L : List (Option Value)} {st : List Value} {w : aw} {cn sn : Nat} {a : Nat} : wp d 164 Q 87 L (.ref a :: st) w cn sn = (kd w a = 9 ∧ wp d 164 Q 90 L (fd w 555 a :: st) w cn sn) := w_getfield d_164_87 (by decide +kernel : fT (mO 164) 231 = some (8, 43))
theorem d_164_90 : decode (mB 164) 90 = .ok (.iconst 1, 1) := by decide +kernel
theorem s_164_90 {d : Nat} {Q : wQ} {L : List (Option Value)} {st : List Value} {w : aw} {cn sn : Nat}  : wp d 164 Q 90 L st w cn sn = wp d 164 Q 91 L (.int 1 :: st) w cn sn := w_iconst d_164_90 (by decide)
theorem d_164_91 : decode (mB 164) 91 = .ok (.iadd, 1) := by decide +kernel
theorem s_164_91 {d : Nat} {Q : wQ} {L : List (Option Value)} {st : List Value} {w : aw} {cn sn : Nat} {a b : Int32} : wp d 164 Q 91 L (.int b :: .int a :: st) w cn sn = wp d 164 Q 92 L (.int (a + b) :: st) w cn sn := wp_row d_164_91 _ _ _ _ _
theorem d_164_92 : decode (mB 164) 92 = .ok (.putfield 231, 3) := by decide +kernel
theorem s_164_92 {d : Nat} {Q : wQ} {L : List (Option Value)} {st : List Value} {w : aw} {cn sn : Nat} {x : Int32} {a : Nat} : wp d 164 Q 92 L (.int x :: .ref a :: st) w cn sn = (kd w a = 9 ∧ wp d 164 Q 95 L st (uF w 555 a (.int x)) cn sn) := w_putfield d_164_92 (by decide +kernel : fT (mO 164) 231 = some (8, 43)) (by decide +kernel) ok_int
theorem d_164_95 : decode (mB 164) 95 = .ok (.aload_n 0, 1) := by decide +kernel
theorem s_164_95 {d : Nat} {Q : wQ} {L : List (Option Value)} {st : List Value} {w : aw} {cn sn : Nat} {v : Nat} : wp d 164 Q 95 (some (.ref v) :: L) st w cn sn = wp d 164 Q 96 (some (.ref v) :: L) (.ref v :: st) w cn sn := w_aload_n d_164_95 rfl
theorem d_164_96 : decode (mB 164) 96 = .ok (.invokevirtual 267, 3) := by decide +kernel
theorem s_164_96 {d : Nat} {Q : wQ} {L : List (Option Value)} {st : List Value} {w : aw} {cn sn : Nat} {b : Nat} : wp d 164 Q 96 L (.ref b :: st) w cn sn = (kd w b = 9 ∧ catS st ≤ 8 ∧ wpD d 148 [.ref b] w (fun v w' => wp d 164 Q 99 L (v.toList ++ st) w' cn sn)) := w_virtual (As := []) d_164_96 (by decide +kernel : cT (mO 164) 267 = some (0, 148)) rfl (by decide +kernel) rfl (by decide +kernel) rfl
theorem d_164_99 : decode (mB 164) 99 = .ok (.aload_n 0, 1) := by decide +kernel
theorem s_164_99 {d : Nat} {Q : wQ} {L : List (Option Value)} {st : List Value} {w : aw} {cn sn : Nat} {v : Nat} : wp d 164 Q 99 (some (.ref v) :: L) st w cn sn = wp d 164 Q 100 (some (.ref v) :: L) (.ref v :: st) w cn sn := w_aload_n d_164_99 rfl
theorem d_164_100 : decode (mB 164) 100 = .ok (.invokevirtual 274, 3) := by decide +kernel
theorem s_164_100 {d : Nat} {Q : wQ} {L : List (Option Value)} {st : List Value} {w : aw} {cn sn : Nat} {b : Nat} : wp d 164 Q 100 L (.ref b :: st) w cn sn = (kd w b = 9 ∧ catS st ≤ 8 ∧ wpD d 158 [.ref b] w (fun v w' => wp d 164 Q 103 L (v.toList ++ st) w' cn sn)) := w_virtual (As := []) d_164_100 (by decide +kernel : cT (mO 164) 274 = some (0, 158)) rfl (by decide +kernel) rfl (by decide +kernel) rfl
theorem d_164_103 : decode (mB 164) 103 = .ok (.istore_n 2, 1) := by decide +kernel
theorem s_164_103 {d : Nat} {Q : wQ} {L : List (Option Value)} {st : List Value} {w : aw} {cn sn : Nat} {a0 a1 a2 : Option Value} {v : Int32} : wp d 164 Q 103 (a0 :: a1 :: a2 :: L) (.int v :: st) w cn sn = wp d 164 Q 104 (a0 :: clr a1 :: some (.int v) :: L) st w cn sn := w_istore_n d_164_103 (Nat.le_add_left 3 _) rfl
theorem d_164_104 : decode (mB 164) 104 = .ok (.aload_n 0, 1) := by decide +kernel
theorem s_164_104 {d : Nat} {Q : wQ} {L : List (Option Value)} {st : List Value} {w : aw} {cn sn : Nat} {v : Nat} : wp d 164 Q 104 (some (.ref v) :: L) st w cn sn = wp d 164 Q 105 (some (.ref v) :: L) (.ref v :: st) w cn sn := w_aload_n d_164_104 rfl
theorem d_164_105 : decode (mB 164) 105 = .ok (.getfield 257, 3) := by decide +kernel
theorem s_164_105 {d : Nat} {Q : wQ} {L : List (Option Value)} {st : List Value} {w : aw} {cn sn : Nat} {a : Nat} : wp d 164 Q 105 L (.ref a :: st) w cn sn = (kd w a = 9 ∧ wp d 164 Q 108 L (fd w 558 a :: st) w cn sn) := w_getfield d_164_105 (by decide +kernel : fT (mO 164) 257 = some (8, 46))
theorem d_164_108 : decode (mB 164) 108 = .ok (.ifCond .ne 5, 3) := by decide +kernel
theorem s_164_108 {d : Nat} {Q : wQ} {L : List (Option Value)} {st : List Value} {w : aw} {cn sn : Nat} {x : Int32} : wp d 164 Q 108 L (.int x :: st) w cn sn = ((¬ x = 0 → wp d 164 Q 113 L st w cn sn) ∧ (x = 0 → wp d 164 Q 111 L st w cn sn)) := w_ifne d_164_108 (by decide)
theorem d_164_111 : decode (mB 164) 111 = .ok (.iconst 2, 1) := by decide +kernel
theorem s_164_111 {d : Nat} {Q : wQ} {L : List (Option Value)} {st : List Value} {w : aw} {cn sn : Nat}  : wp d 164 Q 111 L st w cn sn = wp d 164 Q 112 L (.int 2 :: st) w cn sn := w_iconst d_164_111 (by decide)
theorem d_164_112 : decode (mB 164) 112 = .ok (.ireturn, 1) := by decide +kernel
theorem s_164_112 {d : Nat} {Q : wQ} {L : List (Option Value)} {w : aw} {cn sn : Nat} {v : Int32} : wp d 164 Q 112 L [.int v] w cn sn = Q (some (.int v)) w := w_ireturn d_164_112 rfl
theorem d_164_113 : decode (mB 164) 113 = .ok (.aload_n 0, 1) := by decide +kernel
theorem s_164_113 {d : Nat} {Q : wQ} {L : List (Option Value)} {st : List Value} {w : aw} {cn sn : Nat} {v : Nat} : wp d 164 Q 113 (some (.ref v) :: L) st w cn sn = wp d 164 Q 114 (some (.ref v) :: L) (.ref v :: st) w cn sn := w_aload_n d_164_113 rfl
theorem d_164_114 : decode (mB 164) 114 = .ok (.aload_n 0, 1) := by decide +kernel
theorem s_164_114 {d : Nat} {Q : wQ} {L : List (Option Value)} {st : List Value} {w : aw} {cn sn : Nat} {v : Nat} : wp d 164 Q 114 (some (.ref v) :: L) st w cn sn = wp d 164 Q 115 (some (.ref v) :: L) (.ref v :: st) w cn sn := w_aload_n d_164_114 rfl
theorem d_164_115 : decode (mB 164) 115 = .ok (.getfield 261, 3) := by decide +kernel
theorem s_164_115 {d : Nat} {Q : wQ} {L : List (Option Value)} {st : List Value} {w : aw} {cn sn : Nat} {a : Nat} : wp d 164 Q 115 L (.ref a :: st) w cn sn = (kd w a = 9 ∧ wp d 164 Q 118 L (fd w 557 a :: st) w cn sn) := w_getfield d_164_115 (by decide +kernel : fT (mO 164) 261 = some (8, 45))
theorem d_164_118 : decode (mB 164) 118 = .ok (.putfield 254, 3) := by decide +kernel
theorem s_164_118 {d : Nat} {Q : wQ} {L : List (Option Value)} {st : List Value} {w : aw} {cn sn : Nat} {x : Int32} {a : Nat} : wp d 164 Q 118 L (.int x :: .ref a :: st) w cn sn = (kd w a = 9 ∧ wp d 164 Q 121 L st (uF w 554 a (.int x)) cn sn) := w_putfield d_164_118 (by decide +kernel : fT (mO 164) 254 = some (8, 42)) (by decide +kernel) ok_int
theorem d_164_121 : decode (mB 164) 121 = .ok (.iconst 0, 1) := by decide +kernel
theorem s_164_121 {d : Nat} {Q : wQ} {L : List (Option Value)} {st : List Value} {w : aw} {cn sn : Nat}  : wp d 164 Q 121 L st w cn sn = wp d 164 Q 122 L (.int 0 :: st) w cn sn := w_iconst d_164_121 (by decide)
theorem d_164_122 : decode (mB 164) 122 = .ok (.ireturn, 1) := by decide +kernel
theorem s_164_122 {d : Nat} {Q : wQ} {L : List (Option Value)} {w : aw} {cn sn : Nat} {v : Int32} : wp d 164 Q 122 L [.int v] w cn sn = Q (some (.int v)) w := w_ireturn d_164_122 rfl
theorem d_164_123 : decode (mB 164) 123 = .ok (.aload_n 0, 1) := by decide +kernel
theorem s_164_123 {d : Nat} {Q : wQ} {L : List (Option Value)} {st : List Value} {w : aw} {cn sn : Nat} {v : Nat} : wp d 164 Q 123 (some (.ref v) :: L) st w cn sn = wp d 164 Q 124 (some (.ref v) :: L) (.ref v :: st) w cn sn := w_aload_n d_164_123 rfl
theorem d_164_124 : decode (mB 164) 124 = .ok (.invokevirtual 280, 3) := by decide +kernel
theorem s_164_124 {d : Nat} {Q : wQ} {L : List (Option Value)} {st : List Value} {w : aw} {cn sn : Nat} {b : Nat} : wp d 164 Q 124 L (.ref b :: st) w cn sn = (kd w b = 9 ∧ catS st ≤ 8 ∧ wpD d 155 [.ref b] w (fun v w' => wp d 164 Q 127 L (v.toList ++ st) w' cn sn)) := w_virtual (As := []) d_164_124 (by decide +kernel : cT (mO 164) 280 = some (0, 155)) rfl (by decide +kernel) rfl (by decide +kernel) rfl
theorem d_164_127 : decode (mB 164) 127 = .ok (.ifCond .eq 57, 3) := by decide +kernel
theorem s_164_127 {d : Nat} {Q : wQ} {L : List (Option Value)} {st : List Value} {w : aw} {cn sn : Nat} {x : Int32} : wp d 164 Q 127 L (.int x :: st) w cn sn = ((x = 0 → wp d 164 Q 184 L st w cn sn) ∧ (¬ x = 0 → wp d 164 Q 130 L st w cn sn)) := w_ifeq d_164_127 (by decide)
theorem d_164_130 : decode (mB 164) 130 = .ok (.aload_n 0, 1) := by decide +kernel
theorem s_164_130 {d : Nat} {Q : wQ} {L : List (Option Value)} {st : List Value} {w : aw} {cn sn : Nat} {v : Nat} : wp d 164 Q 130 (some (.ref v) :: L) st w cn sn = wp d 164 Q 131 (some (.ref v) :: L) (.ref v :: st) w cn sn := w_aload_n d_164_130 rfl
theorem d_164_131 : decode (mB 164) 131 = .ok (.aload_n 0, 1) := by decide +kernel
theorem s_164_131 {d : Nat} {Q : wQ} {L : List (Option Value)} {st : List Value} {w : aw} {cn sn : Nat} {v : Nat} : wp d 164 Q 131 (some (.ref v) :: L) st w cn sn = wp d 164 Q 132 (some (.ref v) :: L) (.ref v :: st) w cn sn := w_aload_n d_164_131 rfl
theorem d_164_132 : decode (mB 164) 132 = .ok (.getfield 231, 3) := by decide +kernel
theorem s_164_132 {d : Nat} {Q : wQ} {L : List (Option Value)} {st : List Value} {w : aw} {cn sn : Nat} {a : Nat} : wp d 164 Q 132 L (.ref a :: st) w cn sn = (kd w a = 9 ∧ wp d 164 Q 135 L (fd w 555 a :: st) w cn sn) := w_getfield d_164_132 (by decide +kernel : fT (mO 164) 231 = some (8, 43))
theorem d_164_135 : decode (mB 164) 135 = .ok (.invokevirtual 246, 3) := by decide +kernel
theorem s_164_135 {d : Nat} {Q : wQ} {L : List (Option Value)} {st : List Value} {w : aw} {cn sn : Nat} {v0 : Value} {b : Nat} : wp d 164 Q 135 L (v0 :: .ref b :: st) w cn sn = (kd w b = 9 ∧ catS st ≤ 8 ∧ wpD d 151 [.ref b, v0] w (fun v w' => wp d 164 Q 138 L (v.toList ++ st) w' cn sn)) := w_virtual (As := [v0]) d_164_135 (by decide +kernel : cT (mO 164) 246 = some (0, 151)) rfl (by decide +kernel) rfl (by decide +kernel) rfl
theorem d_164_138 : decode (mB 164) 138 = .ok (.lstore_n 2, 1) := by decide +kernel
theorem s_164_138 {d : Nat} {Q : wQ} {L : List (Option Value)} {st : List Value} {w : aw} {cn sn : Nat} {a0 a1 a2 a3 : Option Value} {v : Int64} : wp d 164 Q 138 (a0 :: a1 :: a2 :: a3 :: L) (.long v :: st) w cn sn = wp d 164 Q 139 (a0 :: clr a1 :: some (.long v) :: none :: L) st w cn sn := w_lstore_n d_164_138 (Nat.le_add_left 4 _) rfl
theorem d_164_139 : decode (mB 164) 139 = .ok (.aload_n 0, 1) := by decide +kernel
theorem s_164_139 {d : Nat} {Q : wQ} {L : List (Option Value)} {st : List Value} {w : aw} {cn sn : Nat} {v : Nat} : wp d 164 Q 139 (some (.ref v) :: L) st w cn sn = wp d 164 Q 140 (some (.ref v) :: L) (.ref v :: st) w cn sn := w_aload_n d_164_139 rfl
theorem d_164_140 : decode (mB 164) 140 = .ok (.aload_n 0, 1) := by decide +kernel
theorem s_164_140 {d : Nat} {Q : wQ} {L : List (Option Value)} {st : List Value} {w : aw} {cn sn : Nat} {v : Nat} : wp d 164 Q 140 (some (.ref v) :: L) st w cn sn = wp d 164 Q 141 (some (.ref v) :: L) (.ref v :: st) w cn sn := w_aload_n d_164_140 rfl
theorem d_164_141 : decode (mB 164) 141 = .ok (.aload_n 0, 1) := by decide +kernel
theorem s_164_141 {d : Nat} {Q : wQ} {L : List (Option Value)} {st : List Value} {w : aw} {cn sn : Nat} {v : Nat} : wp d 164 Q 141 (some (.ref v) :: L) st w cn sn = wp d 164 Q 142 (some (.ref v) :: L) (.ref v :: st) w cn sn := w_aload_n d_164_141 rfl
theorem d_164_142 : decode (mB 164) 142 = .ok (.getfield 231, 3) := by decide +kernel
theorem s_164_142 {d : Nat} {Q : wQ} {L : List (Option Value)} {st : List Value} {w : aw} {cn sn : Nat} {a : Nat} : wp d 164 Q 142 L (.ref a :: st) w cn sn = (kd w a = 9 ∧ wp d 164 Q 145 L (fd w 555 a :: st) w cn sn) := w_getfield d_164_142 (by decide +kernel : fT (mO 164) 231 = some (8, 43))
theorem d_164_145 : decode (mB 164) 145 = .ok (.invokevirtual 240, 3) := by decide +kernel
theorem s_164_145 {d : Nat} {Q : wQ} {L : List (Option Value)} {st : List Value} {w : aw} {cn sn : Nat} {v0 : Value} {b : Nat} : wp d 164 Q 145 L (v0 :: .ref b :: st) w cn sn = (kd w b = 9 ∧ catS st ≤ 8 ∧ wpD d 149 [.ref b, v0] w (fun v w' => wp d 164 Q 148 L (v.toList ++ st) w' cn sn)) := w_virtual (As := [v0]) d_164_145 (by decide +kernel : cT (mO 164) 240 = some (0, 149)) rfl (by decide +kernel) rfl (by decide +kernel) rfl
theorem d_164_148 : decode (mB 164) 148 = .ok (.iconst 1, 1) := by decide +kernel
theorem s_164_148 {d : Nat} {Q : wQ} {L : List (Option Value)} {st : List Value} {w : aw} {cn sn : Nat}  : wp d 164 Q 148 L st w cn sn = wp d 164 Q 149 L (.int 1 :: st) w cn sn := w_iconst d_164_148 (by decide)
theorem d_164_149 : decode (mB 164) 149 = .ok (.iadd, 1) := by decide +kernel
theorem s_164_149 {d : Nat} {Q : wQ} {L : List (Option Value)} {st : List Value} {w : aw} {cn sn : Nat} {a b : Int32} : wp d 164 Q 149 L (.int b :: .int a :: st) w cn sn = wp d 164 Q 150 L (.int (a + b) :: st) w cn sn := wp_row d_164_149 _ _ _ _ _
theorem d_164_150 : decode (mB 164) 150 = .ok (.putfield 231, 3) := by decide +kernel
theorem s_164_150 {d : Nat} {Q : wQ} {L : List (Option Value)} {st : List Value} {w : aw} {cn sn : Nat} {x : Int32} {a : Nat} : wp d 164 Q 150 L (.int x :: .ref a :: st) w cn sn = (kd w a = 9 ∧ wp d 164 Q 153 L st (uF w 555 a (.int x)) cn sn) := w_putfield d_164_150 (by decide +kernel : fT (mO 164) 231 = some (8, 43)) (by decide +kernel) ok_int
theorem d_164_153 : decode (mB 164) 153 = .ok (.aload_n 0, 1) := by decide +kernel
theorem s_164_153 {d : Nat} {Q : wQ} {L : List (Option Value)} {st : List Value} {w : aw} {cn sn : Nat} {v : Nat} : wp d 164 Q 153 (some (.ref v) :: L) st w cn sn = wp d 164 Q 154 (some (.ref v) :: L) (.ref v :: st) w cn sn := w_aload_n d_164_153 rfl
theorem d_164_154 : decode (mB 164) 154 = .ok (.invokevirtual 267, 3) := by decide +kernel
theorem s_164_154 {d : Nat} {Q : wQ} {L : List (Option Value)} {st : List Value} {w : aw} {cn sn : Nat} {b : Nat} : wp d 164 Q 154 L (.ref b :: st) w cn sn = (kd w b = 9 ∧ catS st ≤ 8 ∧ wpD d 148 [.ref b] w (fun v w' => wp d 164 Q 157 L (v.toList ++ st) w' cn sn)) := w_virtual (As := []) d_164_154 (by decide +kernel : cT (mO 164) 267 = some (0, 148)) rfl (by decide +kernel) rfl (by decide +kernel) rfl
theorem d_164_157 : decode (mB 164) 157 = .ok (.aload_n 0, 1) := by decide +kernel
theorem s_164_157 {d : Nat} {Q : wQ} {L : List (Option Value)} {st : List Value} {w : aw} {cn sn : Nat} {v : Nat} : wp d 164 Q 157 (some (.ref v) :: L) st w cn sn = wp d 164 Q 158 (some (.ref v) :: L) (.ref v :: st) w cn sn := w_aload_n d_164_157 rfl
theorem d_164_158 : decode (mB 164) 158 = .ok (.invokevirtual 274, 3) := by decide +kernel
theorem s_164_158 {d : Nat} {Q : wQ} {L : List (Option Value)} {st : List Value} {w : aw} {cn sn : Nat} {b : Nat} : wp d 164 Q 158 L (.ref b :: st) w cn sn = (kd w b = 9 ∧ catS st ≤ 8 ∧ wpD d 158 [.ref b] w (fun v w' => wp d 164 Q 161 L (v.toList ++ st) w' cn sn)) := w_virtual (As := []) d_164_158 (by decide +kernel : cT (mO 164) 274 = some (0, 158)) rfl (by decide +kernel) rfl (by decide +kernel) rfl
theorem d_164_161 : decode (mB 164) 161 = .ok (.istore 4, 2) := by decide +kernel
theorem s_164_161 {d : Nat} {Q : wQ} {L : List (Option Value)} {st : List Value} {w : aw} {cn sn : Nat} {a0 a1 a2 a3 a4 : Option Value} {v : Int32} : wp d 164 Q 161 (a0 :: a1 :: a2 :: a3 :: a4 :: L) (.int v :: st) w cn sn = wp d 164 Q 163 (a0 :: a1 :: a2 :: clr a3 :: some (.int v) :: L) st w cn sn := w_istore d_164_161 (Nat.le_add_left 5 _) rfl
theorem d_164_163 : decode (mB 164) 163 = .ok (.aload_n 0, 1) := by decide +kernel
theorem s_164_163 {d : Nat} {Q : wQ} {L : List (Option Value)} {st : List Value} {w : aw} {cn sn : Nat} {v : Nat} : wp d 164 Q 163 (some (.ref v) :: L) st w cn sn = wp d 164 Q 164 (some (.ref v) :: L) (.ref v :: st) w cn sn := w_aload_n d_164_163 rfl
theorem d_164_164 : decode (mB 164) 164 = .ok (.getfield 257, 3) := by decide +kernel
theorem s_164_164 {d : Nat} {Q : wQ} {L : List (Option Value)} {st : List Value} {w : aw} {cn sn : Nat} {a : Nat} : wp d 164 Q 164 L (.ref a :: st) w cn sn = (kd w a = 9 ∧ wp d 164 Q 167 L (fd w 558 a :: st) w cn sn) := w_getfield d_164_164 (by decide +kernel : fT (mO 164) 257 = some (8, 46))
theorem d_164_167 : decode (mB 164) 167 = .ok (.ifCond .eq 15, 3) := by decide +kernel
theorem s_164_167 {d : Nat} {Q : wQ} {L : List (Option Value)} {st : List Value} {w : aw} {cn sn : Nat} {x : Int32} : wp d 164 Q 167 L (.int x :: st) w cn sn = ((x = 0 → wp d 164 Q 182 L st w cn sn) ∧ (¬ x = 0 → wp d 164 Q 170 L st w cn sn)) := w_ifeq d_164_167 (by decide)
theorem d_164_170 : decode (mB 164) 170 = .ok (.aload_n 0, 1) := by decide +kernel
theorem s_164_170 {d : Nat} {Q : wQ} {L : List (Option Value)} {st : List Value} {w : aw} {cn sn : Nat} {v : Nat} : wp d 164 Q 170 (some (.ref v) :: L) st w cn sn = wp d 164 Q 171 (some (.ref v) :: L) (.ref v :: st) w cn sn := w_aload_n d_164_170 rfl
theorem d_164_171 : decode (mB 164) 171 = .ok (.lload_n 2, 1) := by decide +kernel
theorem s_164_171 {d : Nat} {Q : wQ} {L : List (Option Value)} {st : List Value} {w : aw} {cn sn : Nat} {a0 a1 : Option Value} {v : Int64} : wp d 164 Q 171 (a0 :: a1 :: some (.long v) :: L) st w cn sn = wp d 164 Q 172 (a0 :: a1 :: some (.long v) :: L) (.long v :: st) w cn sn := w_lload_n d_164_171 rfl
theorem d_164_172 : decode (mB 164) 172 = .ok (.aload_n 0, 1) := by decide +kernel
theorem s_164_172 {d : Nat} {Q : wQ} {L : List (Option Value)} {st : List Value} {w : aw} {cn sn : Nat} {v : Nat} : wp d 164 Q 172 (some (.ref v) :: L) st w cn sn = wp d 164 Q 173 (some (.ref v) :: L) (.ref v :: st) w cn sn := w_aload_n d_164_172 rfl
theorem d_164_173 : decode (mB 164) 173 = .ok (.getfield 261, 3) := by decide +kernel
theorem s_164_173 {d : Nat} {Q : wQ} {L : List (Option Value)} {st : List Value} {w : aw} {cn sn : Nat} {a : Nat} : wp d 164 Q 173 L (.ref a :: st) w cn sn = (kd w a = 9 ∧ wp d 164 Q 176 L (fd w 557 a :: st) w cn sn) := w_getfield d_164_173 (by decide +kernel : fT (mO 164) 261 = some (8, 45))
theorem d_164_176 : decode (mB 164) 176 = .ok (.invokevirtual 295, 3) := by decide +kernel
theorem s_164_176 {d : Nat} {Q : wQ} {L : List (Option Value)} {st : List Value} {w : aw} {cn sn : Nat} {v0 v1 : Value} {b : Nat} : wp d 164 Q 176 L (v1 :: v0 :: .ref b :: st) w cn sn = (kd w b = 9 ∧ catS st ≤ 8 ∧ wpD d 163 [.ref b, v0, v1] w (fun v w' => wp d 164 Q 179 L (v.toList ++ st) w' cn sn)) := w_virtual (As := [v0, v1]) d_164_176 (by decide +kernel : cT (mO 164) 295 = some (0, 163)) rfl (by decide +kernel) rfl (by decide +kernel) rfl
theorem d_164_179 : decode (mB 164) 179 = .ok (.goto 4, 3) := by decide +kernel
theorem s_164_179 {d : Nat} {Q : wQ} {L : List (Option Value)} {st : List Value} {w : aw} {cn sn : Nat}  : wp d 164 Q 179 L st w cn sn = wp d 164 Q 183 L st w cn sn := w_goto d_164_179 (by decide)
theorem d_164_182 : decode (mB 164) 182 = .ok (.iconst 2, 1) := by decide +kernel
theorem s_164_182 {d : Nat} {Q : wQ} {L : List (Option Value)} {st : List Value} {w : aw} {cn sn : Nat}  : wp d 164 Q 182 L st w cn sn = wp d 164 Q 183 L (.int 2 :: st) w cn sn := w_iconst d_164_182 (by decide)
theorem d_164_183 : decode (mB 164) 183 = .ok (.ireturn, 1) := by decide +kernel
theorem s_164_183 {d : Nat} {Q : wQ} {L : List (Option Value)} {w : aw} {cn sn : Nat} {v : Int32} : wp d 164 Q 183 L [.int v] w cn sn = Q (some (.int v)) w := w_ireturn d_164_183 rfl
theorem d_164_184 : decode (mB 164) 184 = .ok (.aload_n 0, 1) := by decide +kernel
theorem s_164_184 {d : Nat} {Q : wQ} {L : List (Option Value)} {st : List Value} {w : aw} {cn sn : Nat} {v : Nat} : wp d 164 Q 184 (some (.ref v) :: L) st w cn sn = wp d 164 Q 185 (some (.ref v) :: L) (.ref v :: st) w cn sn := w_aload_n d_164_184 rfl
theorem d_164_185 : decode (mB 164) 185 = .ok (.aload_n 0, 1) := by decide +kernel
theorem s_164_185 {d : Nat} {Q : wQ} {L : List (Option Value)} {st : List Value} {w : aw} {cn sn : Nat} {v : Nat} : wp d 164 Q 185 (some (.ref v) :: L) st w cn sn = wp d 164 Q 186 (some (.ref v) :: L) (.ref v :: st) w cn sn := w_aload_n d_164_185 rfl
theorem d_164_186 : decode (mB 164) 186 = .ok (.getfield 254, 3) := by decide +kernel
theorem s_164_186 {d : Nat} {Q : wQ} {L : List (Option Value)} {st : List Value} {w : aw} {cn sn : Nat} {a : Nat} : wp d 164 Q 186 L (.ref a :: st) w cn sn = (kd w a = 9 ∧ wp d 164 Q 189 L (fd w 554 a :: st) w cn sn) := w_getfield d_164_186 (by decide +kernel : fT (mO 164) 254 = some (8, 42))
theorem d_164_189 : decode (mB 164) 189 = .ok (.iconst 1, 1) := by decide +kernel
theorem s_164_189 {d : Nat} {Q : wQ} {L : List (Option Value)} {st : List Value} {w : aw} {cn sn : Nat}  : wp d 164 Q 189 L st w cn sn = wp d 164 Q 190 L (.int 1 :: st) w cn sn := w_iconst d_164_189 (by decide)
theorem d_164_190 : decode (mB 164) 190 = .ok (.iadd, 1) := by decide +kernel
theorem s_164_190 {d : Nat} {Q : wQ} {L : List (Option Value)} {st : List Value} {w : aw} {cn sn : Nat} {a b : Int32} : wp d 164 Q 190 L (.int b :: .int a :: st) w cn sn = wp d 164 Q 191 L (.int (a + b) :: st) w cn sn := wp_row d_164_190 _ _ _ _ _
theorem d_164_191 : decode (mB 164) 191 = .ok (.sipush 4095, 3) := by decide +kernel
theorem s_164_191 {d : Nat} {Q : wQ} {L : List (Option Value)} {st : List Value} {w : aw} {cn sn : Nat}  : wp d 164 Q 191 L st w cn sn = wp d 164 Q 194 L (.int 4095 :: st) w cn sn := w_sipush d_164_191 (by decide)
theorem d_164_194 : decode (mB 164) 194 = .ok (.iand, 1) := by decide +kernel
theorem s_164_194 {d : Nat} {Q : wQ} {L : List (Option Value)} {st : List Value} {w : aw} {cn sn : Nat} {a b : Int32} : wp d 164 Q 194 L (.int b :: .int a :: st) w cn sn = wp d 164 Q 195 L (.int (a &&& b) :: st) w cn sn := wp_row d_164_194 _ _ _ _ _
theorem d_164_195 : decode (mB 164) 195 = .ok (.putfield 254, 3) := by decide +kernel
theorem s_164_195 {d : Nat} {Q : wQ} {L : List (Option Value)} {st : List Value} {w : aw} {cn sn : Nat} {x : Int32} {a : Nat} : wp d 164 Q 195 L (.int x :: .ref a :: st) w cn sn = (kd w a = 9 ∧ wp d 164 Q 198 L st (uF w 554 a (.int x)) cn sn) := w_putfield d_164_195 (by decide +kernel : fT (mO 164) 254 = some (8, 42)) (by decide +kernel) ok_int
theorem d_164_198 : decode (mB 164) 198 = .ok (.iconst 0, 1) := by decide +kernel
theorem s_164_198 {d : Nat} {Q : wQ} {L : List (Option Value)} {st : List Value} {w : aw} {cn sn : Nat}  : wp d 164 Q 198 L st w cn sn = wp d 164 Q 199 L (.int 0 :: st) w cn sn := w_iconst d_164_198 (by decide)
theorem d_164_199 : decode (mB 164) 199 = .ok (.ireturn, 1) := by decide +kernel
theorem s_164_199 {d : Nat} {Q : wQ} {L : List (Option Value)} {w : aw} {cn sn : Nat} {v : Int32} : wp d 164 Q 199 L [.int v] w cn sn = Q (some (.int v)) w := w_ireturn d_164_199 rfl
theorem d_165_0 : decode (mB 165) 0 = .ok (.aload_n 0, 1) := by decide +kernel
theorem s_165_0 {d : Nat} {Q : wQ} {L : List (Option Value)} {st : List Value} {w : aw} {cn sn : Nat} {v : Nat} : wp d 165 Q 0 (some (.ref v) :: L) st w cn sn = wp d 165 Q 1 (some (.ref v) :: L) (.ref v :: st) w cn sn := w_aload_n d_165_0 rfl
theorem d_165_1 : decode (mB 165) 1 = .ok (.getfield 82, 3) := by decide +kernel
theorem s_165_1 {d : Nat} {Q : wQ} {L : List (Option Value)} {st : List Value} {w : aw} {cn sn : Nat} {a : Nat} : wp d 165 Q 1 L (.ref a :: st) w cn sn = (kd w a = 9 ∧ wp d 165 Q 4 L (fd w 550 a :: st) w cn sn) := w_getfield d_165_1 (by decide +kernel : fT (mO 165) 82 = some (8, 38))
theorem d_165_4 : decode (mB 165) 4 = .ok (.iload_n 1, 1) := by decide +kernel
theorem s_165_4 {d : Nat} {Q : wQ} {L : List (Option Value)} {st : List Value} {w : aw} {cn sn : Nat} {a0 : Option Value} {v : Int32} : wp d 165 Q 4 (a0 :: some (.int v) :: L) st w cn sn = wp d 165 Q 5 (a0 :: some (.int v) :: L) (.int v :: st) w cn sn := w_iload_n d_165_4 rfl
theorem d_165_5 : decode (mB 165) 5 = .ok (.iaload, 1) := by decide +kernel
theorem s_165_5 {d : Nat} {Q : wQ} {L : List (Option Value)} {st : List Value} {w : aw} {cn sn : Nat} {a : Nat} {i : Int32} : wp d 165 Q 5 L (.int i :: .ref a :: st) w cn sn = ((kd w a = 20 ∨ kd w a = 30) ∧ inR i (ln w a) ∧ wp d 165 Q 6 L (.int (ai w a i.toNatClampNeg) :: st) w cn sn) := wp_row d_165_5 _ _ _ _ _
theorem d_165_6 : decode (mB 165) 6 = .ok (.ifCond .lt 5, 3) := by decide +kernel
theorem s_165_6 {d : Nat} {Q : wQ} {L : List (Option Value)} {st : List Value} {w : aw} {cn sn : Nat} {x : Int32} : wp d 165 Q 6 L (.int x :: st) w cn sn = ((x < 0 → wp d 165 Q 11 L st w cn sn) ∧ (¬ x < 0 → wp d 165 Q 9 L st w cn sn)) := w_iflt d_165_6 (by decide)
theorem d_165_9 : decode (mB 165) 9 = .ok (.iconst 5, 1) := by decide +kernel
theorem s_165_9 {d : Nat} {Q : wQ} {L : List (Option Value)} {st : List Value} {w : aw} {cn sn : Nat}  : wp d 165 Q 9 L st w cn sn = wp d 165 Q 10 L (.int 5 :: st) w cn sn := w_iconst d_165_9 (by decide)
theorem d_165_10 : decode (mB 165) 10 = .ok (.ireturn, 1) := by decide +kernel
theorem s_165_10 {d : Nat} {Q : wQ} {L : List (Option Value)} {w : aw} {cn sn : Nat} {v : Int32} : wp d 165 Q 10 L [.int v] w cn sn = Q (some (.int v)) w := w_ireturn d_165_10 rfl
theorem d_165_11 : decode (mB 165) 11 = .ok (.aload_n 0, 1) := by decide +kernel
theorem s_165_11 {d : Nat} {Q : wQ} {L : List (Option Value)} {st : List Value} {w : aw} {cn sn : Nat} {v : Nat} : wp d 165 Q 11 (some (.ref v) :: L) st w cn sn = wp d 165 Q 12 (some (.ref v) :: L) (.ref v :: st) w cn sn := w_aload_n d_165_11 rfl
theorem d_165_12 : decode (mB 165) 12 = .ok (.getfield 82, 3) := by decide +kernel
theorem s_165_12 {d : Nat} {Q : wQ} {L : List (Option Value)} {st : List Value} {w : aw} {cn sn : Nat} {a : Nat} : wp d 165 Q 12 L (.ref a :: st) w cn sn = (kd w a = 9 ∧ wp d 165 Q 15 L (fd w 550 a :: st) w cn sn) := w_getfield d_165_12 (by decide +kernel : fT (mO 165) 82 = some (8, 38))
theorem d_165_15 : decode (mB 165) 15 = .ok (.iload_n 1, 1) := by decide +kernel
theorem s_165_15 {d : Nat} {Q : wQ} {L : List (Option Value)} {st : List Value} {w : aw} {cn sn : Nat} {a0 : Option Value} {v : Int32} : wp d 165 Q 15 (a0 :: some (.int v) :: L) st w cn sn = wp d 165 Q 16 (a0 :: some (.int v) :: L) (.int v :: st) w cn sn := w_iload_n d_165_15 rfl
theorem d_165_16 : decode (mB 165) 16 = .ok (.iload_n 2, 1) := by decide +kernel
theorem s_165_16 {d : Nat} {Q : wQ} {L : List (Option Value)} {st : List Value} {w : aw} {cn sn : Nat} {a0 a1 : Option Value} {v : Int32} : wp d 165 Q 16 (a0 :: a1 :: some (.int v) :: L) st w cn sn = wp d 165 Q 17 (a0 :: a1 :: some (.int v) :: L) (.int v :: st) w cn sn := w_iload_n d_165_16 rfl
theorem d_165_17 : decode (mB 165) 17 = .ok (.sipush 4095, 3) := by decide +kernel
theorem s_165_17 {d : Nat} {Q : wQ} {L : List (Option Value)} {st : List Value} {w : aw} {cn sn : Nat}  : wp d 165 Q 17 L st w cn sn = wp d 165 Q 20 L (.int 4095 :: st) w cn sn := w_sipush d_165_17 (by decide)
theorem d_165_20 : decode (mB 165) 20 = .ok (.iand, 1) := by decide +kernel
theorem s_165_20 {d : Nat} {Q : wQ} {L : List (Option Value)} {st : List Value} {w : aw} {cn sn : Nat} {a b : Int32} : wp d 165 Q 20 L (.int b :: .int a :: st) w cn sn = wp d 165 Q 21 L (.int (a &&& b) :: st) w cn sn := wp_row d_165_20 _ _ _ _ _
theorem d_165_21 : decode (mB 165) 21 = .ok (.iastore, 1) := by decide +kernel
theorem s_165_21 {d : Nat} {Q : wQ} {L : List (Option Value)} {st : List Value} {w : aw} {cn sn : Nat} {a : Nat} {i x : Int32} : wp d 165 Q 21 L (.int x :: .int i :: .ref a :: st) w cn sn = (kd w a = 20 ∧ inR i (ln w a) ∧ wp d 165 Q 22 L st (uA w a i.toNatClampNeg x) cn sn) := wp_row d_165_21 _ _ _ _ _
theorem d_165_22 : decode (mB 165) 22 = .ok (.aload_n 0, 1) := by decide +kernel
theorem s_165_22 {d : Nat} {Q : wQ} {L : List (Option Value)} {st : List Value} {w : aw} {cn sn : Nat} {v : Nat} : wp d 165 Q 22 (some (.ref v) :: L) st w cn sn = wp d 165 Q 23 (some (.ref v) :: L) (.ref v :: st) w cn sn := w_aload_n d_165_22 rfl
theorem d_165_23 : decode (mB 165) 23 = .ok (.getfield 85, 3) := by decide +kernel
theorem s_165_23 {d : Nat} {Q : wQ} {L : List (Option Value)} {st : List Value} {w : aw} {cn sn : Nat} {a : Nat} : wp d 165 Q 23 L (.ref a :: st) w cn sn = (kd w a = 9 ∧ wp d 165 Q 26 L (fd w 551 a :: st) w cn sn) := w_getfield d_165_23 (by decide +kernel : fT (mO 165) 85 = some (8, 39))
theorem d_165_26 : decode (mB 165) 26 = .ok (.iload_n 1, 1) := by decide +kernel
theorem s_165_26 {d : Nat} {Q : wQ} {L : List (Option Value)} {st : List Value} {w : aw} {cn sn : Nat} {a0 : Option Value} {v : Int32} : wp d 165 Q 26 (a0 :: some (.int v) :: L) st w cn sn = wp d 165 Q 27 (a0 :: some (.int v) :: L) (.int v :: st) w cn sn := w_iload_n d_165_26 rfl
theorem d_165_27 : decode (mB 165) 27 = .ok (.iload_n 3, 1) := by decide +kernel
theorem s_165_27 {d : Nat} {Q : wQ} {L : List (Option Value)} {st : List Value} {w : aw} {cn sn : Nat} {a0 a1 a2 : Option Value} {v : Int32} : wp d 165 Q 27 (a0 :: a1 :: a2 :: some (.int v) :: L) st w cn sn = wp d 165 Q 28 (a0 :: a1 :: a2 :: some (.int v) :: L) (.int v :: st) w cn sn := w_iload_n d_165_27 rfl
theorem d_165_28 : decode (mB 165) 28 = .ok (.bastore, 1) := by decide +kernel
theorem s_165_28 {d : Nat} {Q : wQ} {L : List (Option Value)} {st : List Value} {w : aw} {cn sn : Nat} {a : Nat} {i x : Int32} : wp d 165 Q 28 L (.int x :: .int i :: .ref a :: st) w cn sn = (inR i (ln w a) ∧ ((kd w a = 21 ∧ wp d 165 Q 29 L st (uA w a i.toNatClampNeg (vp_nar .byte x)) cn sn) ∨ (kd w a = 23 ∧ wp d 165 Q 29 L st (uA w a i.toNatClampNeg (vp_nar .boolean x)) cn sn))) := wp_row d_165_28 _ _ _ _ _
theorem d_165_29 : decode (mB 165) 29 = .ok (.aload_n 0, 1) := by decide +kernel
theorem s_165_29 {d : Nat} {Q : wQ} {L : List (Option Value)} {st : List Value} {w : aw} {cn sn : Nat} {v : Nat} : wp d 165 Q 29 (some (.ref v) :: L) st w cn sn = wp d 165 Q 30 (some (.ref v) :: L) (.ref v :: st) w cn sn := w_aload_n d_165_29 rfl
theorem d_165_30 : decode (mB 165) 30 = .ok (.dup, 1) := by decide +kernel
theorem s_165_30 {d : Nat} {Q : wQ} {L : List (Option Value)} {st : List Value} {w : aw} {cn sn : Nat} {v : Value} : wp d 165 Q 30 L (v :: st) w cn sn = (v.category = 1 ∧ wp d 165 Q 31 L (v :: v :: st) w cn sn) := wp_row d_165_30 _ _ _ _ _
theorem d_165_31 : decode (mB 165) 31 = .ok (.getfield 299, 3) := by decide +kernel
theorem s_165_31 {d : Nat} {Q : wQ} {L : List (Option Value)} {st : List Value} {w : aw} {cn sn : Nat} {a : Nat} : wp d 165 Q 31 L (.ref a :: st) w cn sn = (kd w a = 9 ∧ wp d 165 Q 34 L (fd w 553 a :: st) w cn sn) := w_getfield d_165_31 (by decide +kernel : fT (mO 165) 299 = some (8, 41))
theorem d_165_34 : decode (mB 165) 34 = .ok (.iconst 1, 1) := by decide +kernel
theorem s_165_34 {d : Nat} {Q : wQ} {L : List (Option Value)} {st : List Value} {w : aw} {cn sn : Nat}  : wp d 165 Q 34 L st w cn sn = wp d 165 Q 35 L (.int 1 :: st) w cn sn := w_iconst d_165_34 (by decide)
theorem d_165_35 : decode (mB 165) 35 = .ok (.iadd, 1) := by decide +kernel
theorem s_165_35 {d : Nat} {Q : wQ} {L : List (Option Value)} {st : List Value} {w : aw} {cn sn : Nat} {a b : Int32} : wp d 165 Q 35 L (.int b :: .int a :: st) w cn sn = wp d 165 Q 36 L (.int (a + b) :: st) w cn sn := wp_row d_165_35 _ _ _ _ _
theorem d_165_36 : decode (mB 165) 36 = .ok (.putfield 299, 3) := by decide +kernel
theorem s_165_36 {d : Nat} {Q : wQ} {L : List (Option Value)} {st : List Value} {w : aw} {cn sn : Nat} {x : Int32} {a : Nat} : wp d 165 Q 36 L (.int x :: .ref a :: st) w cn sn = (kd w a = 9 ∧ wp d 165 Q 39 L st (uF w 553 a (.int x)) cn sn) := w_putfield d_165_36 (by decide +kernel : fT (mO 165) 299 = some (8, 41)) (by decide +kernel) ok_int
theorem d_165_39 : decode (mB 165) 39 = .ok (.iconst 0, 1) := by decide +kernel
theorem s_165_39 {d : Nat} {Q : wQ} {L : List (Option Value)} {st : List Value} {w : aw} {cn sn : Nat}  : wp d 165 Q 39 L st w cn sn = wp d 165 Q 40 L (.int 0 :: st) w cn sn := w_iconst d_165_39 (by decide)
theorem d_165_40 : decode (mB 165) 40 = .ok (.ireturn, 1) := by decide +kernel
theorem s_165_40 {d : Nat} {Q : wQ} {L : List (Option Value)} {w : aw} {cn sn : Nat} {v : Int32} : wp d 165 Q 40 L [.int v] w cn sn = Q (some (.int v)) w := w_ireturn d_165_40 rfl
theorem d_166_0 : decode (mB 166) 0 = .ok (.aload_n 0, 1) := by decide +kernel
theorem s_166_0 {d : Nat} {Q : wQ} {L : List (Option Value)} {st : List Value} {w : aw} {cn sn : Nat} {v : Nat} : wp d 166 Q 0 (some (.ref v) :: L) st w cn sn = wp d 166 Q 1 (some (.ref v) :: L) (.ref v :: st) w cn sn := w_aload_n d_166_0 rfl
theorem d_166_1 : decode (mB 166) 1 = .ok (.getfield 254, 3) := by decide +kernel
theorem s_166_1 {d : Nat} {Q : wQ} {L : List (Option Value)} {st : List Value} {w : aw} {cn sn : Nat} {a : Nat} : wp d 166 Q 1 L (.ref a :: st) w cn sn = (kd w a = 9 ∧ wp d 166 Q 4 L (fd w 554 a :: st) w cn sn) := w_getfield d_166_1 (by decide +kernel : fT (mO 166) 254 = some (8, 42))
theorem d_166_4 : decode (mB 166) 4 = .ok (.sipush 3968, 3) := by decide +kernel
theorem s_166_4 {d : Nat} {Q : wQ} {L : List (Option Value)} {st : List Value} {w : aw} {cn sn : Nat}  : wp d 166 Q 4 L st w cn sn = wp d 166 Q 7 L (.int 3968 :: st) w cn sn := w_sipush d_166_4 (by decide)
theorem d_166_7 : decode (mB 166) 7 = .ok (.iand, 1) := by decide +kernel
theorem s_166_7 {d : Nat} {Q : wQ} {L : List (Option Value)} {st : List Value} {w : aw} {cn sn : Nat} {a b : Int32} : wp d 166 Q 7 L (.int b :: .int a :: st) w cn sn = wp d 166 Q 8 L (.int (a &&& b) :: st) w cn sn := wp_row d_166_7 _ _ _ _ _
theorem d_166_8 : decode (mB 166) 8 = .ok (.istore_n 2, 1) := by decide +kernel
theorem s_166_8 {d : Nat} {Q : wQ} {L : List (Option Value)} {st : List Value} {w : aw} {cn sn : Nat} {a0 a1 a2 : Option Value} {v : Int32} : wp d 166 Q 8 (a0 :: a1 :: a2 :: L) (.int v :: st) w cn sn = wp d 166 Q 9 (a0 :: clr a1 :: some (.int v) :: L) st w cn sn := w_istore_n d_166_8 (Nat.le_add_left 3 _) rfl
theorem d_166_9 : decode (mB 166) 9 = .ok (.iload_n 2, 1) := by decide +kernel
theorem s_166_9 {d : Nat} {Q : wQ} {L : List (Option Value)} {st : List Value} {w : aw} {cn sn : Nat} {a0 a1 : Option Value} {v : Int32} : wp d 166 Q 9 (a0 :: a1 :: some (.int v) :: L) st w cn sn = wp d 166 Q 10 (a0 :: a1 :: some (.int v) :: L) (.int v :: st) w cn sn := w_iload_n d_166_9 rfl
theorem d_166_10 : decode (mB 166) 10 = .ok (.istore_n 3, 1) := by decide +kernel
theorem s_166_10 {d : Nat} {Q : wQ} {L : List (Option Value)} {st : List Value} {w : aw} {cn sn : Nat} {a0 a1 a2 a3 : Option Value} {v : Int32} : wp d 166 Q 10 (a0 :: a1 :: a2 :: a3 :: L) (.int v :: st) w cn sn = wp d 166 Q 11 (a0 :: a1 :: clr a2 :: some (.int v) :: L) st w cn sn := w_istore_n d_166_10 (Nat.le_add_left 4 _) rfl
theorem d_166_11 : decode (mB 166) 11 = .ok (.iload_n 3, 1) := by decide +kernel
theorem s_166_11 {d : Nat} {Q : wQ} {L : List (Option Value)} {st : List Value} {w : aw} {cn sn : Nat} {a0 a1 a2 : Option Value} {v : Int32} : wp d 166 Q 11 (a0 :: a1 :: a2 :: some (.int v) :: L) st w cn sn = wp d 166 Q 12 (a0 :: a1 :: a2 :: some (.int v) :: L) (.int v :: st) w cn sn := w_iload_n d_166_11 rfl
theorem d_166_12 : decode (mB 166) 12 = .ok (.iload_n 2, 1) := by decide +kernel
theorem s_166_12 {d : Nat} {Q : wQ} {L : List (Option Value)} {st : List Value} {w : aw} {cn sn : Nat} {a0 a1 : Option Value} {v : Int32} : wp d 166 Q 12 (a0 :: a1 :: some (.int v) :: L) st w cn sn = wp d 166 Q 13 (a0 :: a1 :: some (.int v) :: L) (.int v :: st) w cn sn := w_iload_n d_166_12 rfl
theorem d_166_13 : decode (mB 166) 13 = .ok (.sipush 128, 3) := by decide +kernel
theorem s_166_13 {d : Nat} {Q : wQ} {L : List (Option Value)} {st : List Value} {w : aw} {cn sn : Nat}  : wp d 166 Q 13 L st w cn sn = wp d 166 Q 16 L (.int 128 :: st) w cn sn := w_sipush d_166_13 (by decide)
theorem d_166_16 : decode (mB 166) 16 = .ok (.iadd, 1) := by decide +kernel
theorem s_166_16 {d : Nat} {Q : wQ} {L : List (Option Value)} {st : List Value} {w : aw} {cn sn : Nat} {a b : Int32} : wp d 166 Q 16 L (.int b :: .int a :: st) w cn sn = wp d 166 Q 17 L (.int (a + b) :: st) w cn sn := wp_row d_166_16 _ _ _ _ _
theorem d_166_17 : decode (mB 166) 17 = .ok (.if_icmp .ge 30, 3) := by decide +kernel
theorem s_166_17 {d : Nat} {Q : wQ} {L : List (Option Value)} {st : List Value} {w : aw} {cn sn : Nat} {a b : Int32} : wp d 166 Q 17 L (.int b :: .int a :: st) w cn sn = ((b ≤ a → wp d 166 Q 47 L st w cn sn) ∧ (¬ b ≤ a → wp d 166 Q 20 L st w cn sn)) := w_icge d_166_17 (by decide)
theorem d_166_20 : decode (mB 166) 20 = .ok (.aload_n 0, 1) := by decide +kernel
theorem s_166_20 {d : Nat} {Q : wQ} {L : List (Option Value)} {st : List Value} {w : aw} {cn sn : Nat} {v : Nat} : wp d 166 Q 20 (some (.ref v) :: L) st w cn sn = wp d 166 Q 21 (some (.ref v) :: L) (.ref v :: st) w cn sn := w_aload_n d_166_20 rfl
theorem d_166_21 : decode (mB 166) 21 = .ok (.getfield 82, 3) := by decide +kernel
theorem s_166_21 {d : Nat} {Q : wQ} {L : List (Option Value)} {st : List Value} {w : aw} {cn sn : Nat} {a : Nat} : wp d 166 Q 21 L (.ref a :: st) w cn sn = (kd w a = 9 ∧ wp d 166 Q 24 L (fd w 550 a :: st) w cn sn) := w_getfield d_166_21 (by decide +kernel : fT (mO 166) 82 = some (8, 38))
theorem d_166_24 : decode (mB 166) 24 = .ok (.iload_n 3, 1) := by decide +kernel
theorem s_166_24 {d : Nat} {Q : wQ} {L : List (Option Value)} {st : List Value} {w : aw} {cn sn : Nat} {a0 a1 a2 : Option Value} {v : Int32} : wp d 166 Q 24 (a0 :: a1 :: a2 :: some (.int v) :: L) st w cn sn = wp d 166 Q 25 (a0 :: a1 :: a2 :: some (.int v) :: L) (.int v :: st) w cn sn := w_iload_n d_166_24 rfl
theorem d_166_25 : decode (mB 166) 25 = .ok (.iaload, 1) := by decide +kernel
theorem s_166_25 {d : Nat} {Q : wQ} {L : List (Option Value)} {st : List Value} {w : aw} {cn sn : Nat} {a : Nat} {i : Int32} : wp d 166 Q 25 L (.int i :: .ref a :: st) w cn sn = ((kd w a = 20 ∨ kd w a = 30) ∧ inR i (ln w a) ∧ wp d 166 Q 26 L (.int (ai w a i.toNatClampNeg) :: st) w cn sn) := wp_row d_166_25 _ _ _ _ _
theorem d_166_26 : decode (mB 166) 26 = .ok (.iload_n 1, 1) := by decide +kernel
theorem s_166_26 {d : Nat} {Q : wQ} {L : List (Option Value)} {st : List Value} {w : aw} {cn sn : Nat} {a0 : Option Value} {v : Int32} : wp d 166 Q 26 (a0 :: some (.int v) :: L) st w cn sn = wp d 166 Q 27 (a0 :: some (.int v) :: L) (.int v :: st) w cn sn := w_iload_n d_166_26 rfl
theorem d_166_27 : decode (mB 166) 27 = .ok (.if_icmp .ne 14, 3) := by decide +kernel
theorem s_166_27 {d : Nat} {Q : wQ} {L : List (Option Value)} {st : List Value} {w : aw} {cn sn : Nat} {a b : Int32} : wp d 166 Q 27 L (.int b :: .int a :: st) w cn sn = ((¬ a = b → wp d 166 Q 41 L st w cn sn) ∧ (a = b → wp d 166 Q 30 L st w cn sn)) := w_icne d_166_27 (by decide)
theorem d_166_30 : decode (mB 166) 30 = .ok (.aload_n 0, 1) := by decide +kernel
theorem s_166_30 {d : Nat} {Q : wQ} {L : List (Option Value)} {st : List Value} {w : aw} {cn sn : Nat} {v : Nat} : wp d 166 Q 30 (some (.ref v) :: L) st w cn sn = wp d 166 Q 31 (some (.ref v) :: L) (.ref v :: st) w cn sn := w_aload_n d_166_30 rfl
theorem d_166_31 : decode (mB 166) 31 = .ok (.getfield 85, 3) := by decide +kernel
theorem s_166_31 {d : Nat} {Q : wQ} {L : List (Option Value)} {st : List Value} {w : aw} {cn sn : Nat} {a : Nat} : wp d 166 Q 31 L (.ref a :: st) w cn sn = (kd w a = 9 ∧ wp d 166 Q 34 L (fd w 551 a :: st) w cn sn) := w_getfield d_166_31 (by decide +kernel : fT (mO 166) 85 = some (8, 39))
theorem d_166_34 : decode (mB 166) 34 = .ok (.iload_n 3, 1) := by decide +kernel
theorem s_166_34 {d : Nat} {Q : wQ} {L : List (Option Value)} {st : List Value} {w : aw} {cn sn : Nat} {a0 a1 a2 : Option Value} {v : Int32} : wp d 166 Q 34 (a0 :: a1 :: a2 :: some (.int v) :: L) st w cn sn = wp d 166 Q 35 (a0 :: a1 :: a2 :: some (.int v) :: L) (.int v :: st) w cn sn := w_iload_n d_166_34 rfl
theorem d_166_35 : decode (mB 166) 35 = .ok (.baload, 1) := by decide +kernel
theorem s_166_35 {d : Nat} {Q : wQ} {L : List (Option Value)} {st : List Value} {w : aw} {cn sn : Nat} {a : Nat} {i : Int32} : wp d 166 Q 35 L (.int i :: .ref a :: st) w cn sn = ((kd w a = 21 ∨ kd w a = 23 ∨ kd w a = 31) ∧ inR i (ln w a) ∧ wp d 166 Q 36 L (.int (ai w a i.toNatClampNeg) :: st) w cn sn) := wp_row d_166_35 _ _ _ _ _
theorem d_166_36 : decode (mB 166) 36 = .ok (.ifCond .eq 5, 3) := by decide +kernel
theorem s_166_36 {d : Nat} {Q : wQ} {L : List (Option Value)} {st : List Value} {w : aw} {cn sn : Nat} {x : Int32} : wp d 166 Q 36 L (.int x :: st) w cn sn = ((x = 0 → wp d 166 Q 41 L st w cn sn) ∧ (¬ x = 0 → wp d 166 Q 39 L st w cn sn)) := w_ifeq d_166_36 (by decide)
theorem d_166_39 : decode (mB 166) 39 = .ok (.iload_n 3, 1) := by decide +kernel
theorem s_166_39 {d : Nat} {Q : wQ} {L : List (Option Value)} {st : List Value} {w : aw} {cn sn : Nat} {a0 a1 a2 : Option Value} {v : Int32} : wp d 166 Q 39 (a0 :: a1 :: a2 :: some (.int v) :: L) st w cn sn = wp d 166 Q 40 (a0 :: a1 :: a2 :: some (.int v) :: L) (.int v :: st) w cn sn := w_iload_n d_166_39 rfl
theorem d_166_40 : decode (mB 166) 40 = .ok (.ireturn, 1) := by decide +kernel
theorem s_166_40 {d : Nat} {Q : wQ} {L : List (Option Value)} {w : aw} {cn sn : Nat} {v : Int32} : wp d 166 Q 40 L [.int v] w cn sn = Q (some (.int v)) w := w_ireturn d_166_40 rfl
theorem d_166_41 : decode (mB 166) 41 = .ok (.iinc 3 1, 3) := by decide +kernel
theorem s_166_41 {d : Nat} {Q : wQ} {L : List (Option Value)} {st : List Value} {w : aw} {cn sn : Nat} {a0 a1 a2 : Option Value} {v : Int32} : wp d 166 Q 41 (a0 :: a1 :: a2 :: some (.int v) :: L) st w cn sn = wp d 166 Q 44 (a0 :: a1 :: clr a2 :: some (.int (v + 1)) :: L) st w cn sn := w_iinc d_166_41 rfl (by decide) rfl
theorem d_166_44 : decode (mB 166) 44 = .ok (.goto (-33), 3) := by decide +kernel
theorem s_166_44 {d : Nat} {Q : wQ} {L : List (Option Value)} {st : List Value} {w : aw} {cn sn : Nat}  : wp d 166 Q 44 L st w cn sn = wp d 166 Q 11 L st w cn sn := w_goto d_166_44 (by decide)
theorem d_166_47 : decode (mB 166) 47 = .ok (.iload_n 2, 1) := by decide +kernel
theorem s_166_47 {d : Nat} {Q : wQ} {L : List (Option Value)} {st : List Value} {w : aw} {cn sn : Nat} {a0 a1 : Option Value} {v : Int32} : wp d 166 Q 47 (a0 :: a1 :: some (.int v) :: L) st w cn sn = wp d 166 Q 48 (a0 :: a1 :: some (.int v) :: L) (.int v :: st) w cn sn := w_iload_n d_166_47 rfl
theorem d_166_48 : decode (mB 166) 48 = .ok (.aload_n 0, 1) := by decide +kernel
theorem s_166_48 {d : Nat} {Q : wQ} {L : List (Option Value)} {st : List Value} {w : aw} {cn sn : Nat} {v : Nat} : wp d 166 Q 48 (some (.ref v) :: L) st w cn sn = wp d 166 Q 49 (some (.ref v) :: L) (.ref v :: st) w cn sn := w_aload_n d_166_48 rfl
theorem d_166_49 : decode (mB 166) 49 = .ok (.getfield 89, 3) := by decide +kernel
theorem s_166_49 {d : Nat} {Q : wQ} {L : List (Option Value)} {st : List Value} {w : aw} {cn sn : Nat} {a : Nat} : wp d 166 Q 49 L (.ref a :: st) w cn sn = (kd w a = 9 ∧ wp d 166 Q 52 L (fd w 552 a :: st) w cn sn) := w_getfield d_166_49 (by decide +kernel : fT (mO 166) 89 = some (8, 40))
theorem d_166_52 : decode (mB 166) 52 = .ok (.iload_n 2, 1) := by decide +kernel
theorem s_166_52 {d : Nat} {Q : wQ} {L : List (Option Value)} {st : List Value} {w : aw} {cn sn : Nat} {a0 a1 : Option Value} {v : Int32} : wp d 166 Q 52 (a0 :: a1 :: some (.int v) :: L) st w cn sn = wp d 166 Q 53 (a0 :: a1 :: some (.int v) :: L) (.int v :: st) w cn sn := w_iload_n d_166_52 rfl
theorem d_166_53 : decode (mB 166) 53 = .ok (.sipush 128, 3) := by decide +kernel
theorem s_166_53 {d : Nat} {Q : wQ} {L : List (Option Value)} {st : List Value} {w : aw} {cn sn : Nat}  : wp d 166 Q 53 L st w cn sn = wp d 166 Q 56 L (.int 128 :: st) w cn sn := w_sipush d_166_53 (by decide)
theorem d_166_56 : decode (mB 166) 56 = .ok (.idiv, 1) := by decide +kernel
theorem s_166_56 {d : Nat} {Q : wQ} {L : List (Option Value)} {st : List Value} {w : aw} {cn sn : Nat} {a b : Int32} : wp d 166 Q 56 L (.int b :: .int a :: st) w cn sn = (¬ b = 0 ∧ wp d 166 Q 57 L (.int (a / b) :: st) w cn sn) := wp_row d_166_56 _ _ _ _ _
theorem d_166_57 : decode (mB 166) 57 = .ok (.iaload, 1) := by decide +kernel
theorem s_166_57 {d : Nat} {Q : wQ} {L : List (Option Value)} {st : List Value} {w : aw} {cn sn : Nat} {a : Nat} {i : Int32} : wp d 166 Q 57 L (.int i :: .ref a :: st) w cn sn = ((kd w a = 20 ∨ kd w a = 30) ∧ inR i (ln w a) ∧ wp d 166 Q 58 L (.int (ai w a i.toNatClampNeg) :: st) w cn sn) := wp_row d_166_57 _ _ _ _ _
theorem d_166_58 : decode (mB 166) 58 = .ok (.iadd, 1) := by decide +kernel
theorem s_166_58 {d : Nat} {Q : wQ} {L : List (Option Value)} {st : List Value} {w : aw} {cn sn : Nat} {a b : Int32} : wp d 166 Q 58 L (.int b :: .int a :: st) w cn sn = wp d 166 Q 59 L (.int (a + b) :: st) w cn sn := wp_row d_166_58 _ _ _ _ _
theorem d_166_59 : decode (mB 166) 59 = .ok (.istore_n 3, 1) := by decide +kernel
theorem s_166_59 {d : Nat} {Q : wQ} {L : List (Option Value)} {st : List Value} {w : aw} {cn sn : Nat} {a0 a1 a2 a3 : Option Value} {v : Int32} : wp d 166 Q 59 (a0 :: a1 :: a2 :: a3 :: L) (.int v :: st) w cn sn = wp d 166 Q 60 (a0 :: a1 :: clr a2 :: some (.int v) :: L) st w cn sn := w_istore_n d_166_59 (Nat.le_add_left 4 _) rfl
theorem d_166_60 : decode (mB 166) 60 = .ok (.aload_n 0, 1) := by decide +kernel
theorem s_166_60 {d : Nat} {Q : wQ} {L : List (Option Value)} {st : List Value} {w : aw} {cn sn : Nat} {v : Nat} : wp d 166 Q 60 (some (.ref v) :: L) st w cn sn = wp d 166 Q 61 (some (.ref v) :: L) (.ref v :: st) w cn sn := w_aload_n d_166_60 rfl
theorem d_166_61 : decode (mB 166) 61 = .ok (.getfield 89, 3) := by decide +kernel
theorem s_166_61 {d : Nat} {Q : wQ} {L : List (Option Value)} {st : List Value} {w : aw} {cn sn : Nat} {a : Nat} : wp d 166 Q 61 L (.ref a :: st) w cn sn = (kd w a = 9 ∧ wp d 166 Q 64 L (fd w 552 a :: st) w cn sn) := w_getfield d_166_61 (by decide +kernel : fT (mO 166) 89 = some (8, 40))
theorem d_166_64 : decode (mB 166) 64 = .ok (.iload_n 2, 1) := by decide +kernel
theorem s_166_64 {d : Nat} {Q : wQ} {L : List (Option Value)} {st : List Value} {w : aw} {cn sn : Nat} {a0 a1 : Option Value} {v : Int32} : wp d 166 Q 64 (a0 :: a1 :: some (.int v) :: L) st w cn sn = wp d 166 Q 65 (a0 :: a1 :: some (.int v) :: L) (.int v :: st) w cn sn := w_iload_n d_166_64 rfl
theorem d_166_65 : decode (mB 166) 65 = .ok (.sipush 128, 3) := by decide +kernel
theorem s_166_65 {d : Nat} {Q : wQ} {L : List (Option Value)} {st : List Value} {w : aw} {cn sn : Nat}  : wp d 166 Q 65 L st w cn sn = wp d 166 Q 68 L (.int 128 :: st) w cn sn := w_sipush d_166_65 (by decide)
theorem d_166_68 : decode (mB 166) 68 = .ok (.idiv, 1) := by decide +kernel
theorem s_166_68 {d : Nat} {Q : wQ} {L : List (Option Value)} {st : List Value} {w : aw} {cn sn : Nat} {a b : Int32} : wp d 166 Q 68 L (.int b :: .int a :: st) w cn sn = (¬ b = 0 ∧ wp d 166 Q 69 L (.int (a / b) :: st) w cn sn) := wp_row d_166_68 _ _ _ _ _
theorem d_166_69 : decode (mB 166) 69 = .ok (.iaload, 1) := by decide +kernel
theorem s_166_69 {d : Nat} {Q : wQ} {L : List (Option Value)} {st : List Value} {w : aw} {cn sn : Nat} {a : Nat} {i : Int32} : wp d 166 Q 69 L (.int i :: .ref a :: st) w cn sn = ((kd w a = 20 ∨ kd w a = 30) ∧ inR i (ln w a) ∧ wp d 166 Q 70 L (.int (ai w a i.toNatClampNeg) :: st) w cn sn) := wp_row d_166_69 _ _ _ _ _
theorem d_166_70 : decode (mB 166) 70 = .ok (.ifCond .lt 13, 3) := by decide +kernel
theorem s_166_70 {d : Nat} {Q : wQ} {L : List (Option Value)} {st : List Value} {w : aw} {cn sn : Nat} {x : Int32} : wp d 166 Q 70 L (.int x :: st) w cn sn = ((x < 0 → wp d 166 Q 83 L st w cn sn) ∧ (¬ x < 0 → wp d 166 Q 73 L st w cn sn)) := w_iflt d_166_70 (by decide)
theorem d_166_73 : decode (mB 166) 73 = .ok (.aload_n 0, 1) := by decide +kernel
theorem s_166_73 {d : Nat} {Q : wQ} {L : List (Option Value)} {st : List Value} {w : aw} {cn sn : Nat} {v : Nat} : wp d 166 Q 73 (some (.ref v) :: L) st w cn sn = wp d 166 Q 74 (some (.ref v) :: L) (.ref v :: st) w cn sn := w_aload_n d_166_73 rfl
theorem d_166_74 : decode (mB 166) 74 = .ok (.iload_n 3, 1) := by decide +kernel
theorem s_166_74 {d : Nat} {Q : wQ} {L : List (Option Value)} {st : List Value} {w : aw} {cn sn : Nat} {a0 a1 a2 : Option Value} {v : Int32} : wp d 166 Q 74 (a0 :: a1 :: a2 :: some (.int v) :: L) st w cn sn = wp d 166 Q 75 (a0 :: a1 :: a2 :: some (.int v) :: L) (.int v :: st) w cn sn := w_iload_n d_166_74 rfl
theorem d_166_75 : decode (mB 166) 75 = .ok (.iload_n 1, 1) := by decide +kernel
theorem s_166_75 {d : Nat} {Q : wQ} {L : List (Option Value)} {st : List Value} {w : aw} {cn sn : Nat} {a0 : Option Value} {v : Int32} : wp d 166 Q 75 (a0 :: some (.int v) :: L) st w cn sn = wp d 166 Q 76 (a0 :: some (.int v) :: L) (.int v :: st) w cn sn := w_iload_n d_166_75 rfl
theorem d_166_76 : decode (mB 166) 76 = .ok (.iconst 1, 1) := by decide +kernel
theorem s_166_76 {d : Nat} {Q : wQ} {L : List (Option Value)} {st : List Value} {w : aw} {cn sn : Nat}  : wp d 166 Q 76 L st w cn sn = wp d 166 Q 77 L (.int 1 :: st) w cn sn := w_iconst d_166_76 (by decide)
theorem d_166_77 : decode (mB 166) 77 = .ok (.invokevirtual 302, 3) := by decide +kernel
theorem s_166_77 {d : Nat} {Q : wQ} {L : List (Option Value)} {st : List Value} {w : aw} {cn sn : Nat} {v0 v1 v2 : Value} {b : Nat} : wp d 166 Q 77 L (v2 :: v1 :: v0 :: .ref b :: st) w cn sn = (kd w b = 9 ∧ catS st ≤ 8 ∧ wpD d 165 [.ref b, v0, v1, v2] w (fun v w' => wp d 166 Q 80 L (v.toList ++ st) w' cn sn)) := w_virtual (As := [v0, v1, v2]) d_166_77 (by decide +kernel : cT (mO 166) 302 = some (0, 165)) rfl (by decide +kernel) rfl (by decide +kernel) rfl
theorem d_166_80 : decode (mB 166) 80 = .ok (.ifCond .le 6, 3) := by decide +kernel
theorem s_166_80 {d : Nat} {Q : wQ} {L : List (Option Value)} {st : List Value} {w : aw} {cn sn : Nat} {x : Int32} : wp d 166 Q 80 L (.int x :: st) w cn sn = ((x ≤ 0 → wp d 166 Q 86 L st w cn sn) ∧ (¬ x ≤ 0 → wp d 166 Q 83 L st w cn sn)) := w_ifle d_166_80 (by decide)
theorem d_166_83 : decode (mB 166) 83 = .ok (.bipush (-5), 2) := by decide +kernel
theorem s_166_83 {d : Nat} {Q : wQ} {L : List (Option Value)} {st : List Value} {w : aw} {cn sn : Nat}  : wp d 166 Q 83 L st w cn sn = wp d 166 Q 85 L (.int (-5) :: st) w cn sn := w_bipush d_166_83 (by decide)
theorem d_166_85 : decode (mB 166) 85 = .ok (.ireturn, 1) := by decide +kernel
theorem s_166_85 {d : Nat} {Q : wQ} {L : List (Option Value)} {w : aw} {cn sn : Nat} {v : Int32} : wp d 166 Q 85 L [.int v] w cn sn = Q (some (.int v)) w := w_ireturn d_166_85 rfl
theorem d_166_86 : decode (mB 166) 86 = .ok (.aload_n 0, 1) := by decide +kernel
theorem s_166_86 {d : Nat} {Q : wQ} {L : List (Option Value)} {st : List Value} {w : aw} {cn sn : Nat} {v : Nat} : wp d 166 Q 86 (some (.ref v) :: L) st w cn sn = wp d 166 Q 87 (some (.ref v) :: L) (.ref v :: st) w cn sn := w_aload_n d_166_86 rfl
theorem d_166_87 : decode (mB 166) 87 = .ok (.getfield 89, 3) := by decide +kernel
theorem s_166_87 {d : Nat} {Q : wQ} {L : List (Option Value)} {st : List Value} {w : aw} {cn sn : Nat} {a : Nat} : wp d 166 Q 87 L (.ref a :: st) w cn sn = (kd w a = 9 ∧ wp d 166 Q 90 L (fd w 552 a :: st) w cn sn) := w_getfield d_166_87 (by decide +kernel : fT (mO 166) 89 = some (8, 40))
theorem d_166_90 : decode (mB 166) 90 = .ok (.iload_n 2, 1) := by decide +kernel
theorem s_166_90 {d : Nat} {Q : wQ} {L : List (Option Value)} {st : List Value} {w : aw} {cn sn : Nat} {a0 a1 : Option Value} {v : Int32} : wp d 166 Q 90 (a0 :: a1 :: some (.int v) :: L) st w cn sn = wp d 166 Q 91 (a0 :: a1 :: some (.int v) :: L) (.int v :: st) w cn sn := w_iload_n d_166_90 rfl
theorem d_166_91 : decode (mB 166) 91 = .ok (.sipush 128, 3) := by decide +kernel
theorem s_166_91 {d : Nat} {Q : wQ} {L : List (Option Value)} {st : List Value} {w : aw} {cn sn : Nat}  : wp d 166 Q 91 L st w cn sn = wp d 166 Q 94 L (.int 128 :: st) w cn sn := w_sipush d_166_91 (by decide)
theorem d_166_94 : decode (mB 166) 94 = .ok (.idiv, 1) := by decide +kernel
theorem s_166_94 {d : Nat} {Q : wQ} {L : List (Option Value)} {st : List Value} {w : aw} {cn sn : Nat} {a b : Int32} : wp d 166 Q 94 L (.int b :: .int a :: st) w cn sn = (¬ b = 0 ∧ wp d 166 Q 95 L (.int (a / b) :: st) w cn sn) := wp_row d_166_94 _ _ _ _ _
theorem d_166_95 : decode (mB 166) 95 = .ok (.dup2, 1) := by decide +kernel
theorem s_166_95 {d : Nat} {Q : wQ} {L : List (Option Value)} {st : List Value} {w : aw} {cn sn : Nat} {a b : Value} : wp d 166 Q 95 L (a :: b :: st) w cn sn = (a.category = 1 ∧ b.category = 1 ∧ wp d 166 Q 96 L (a :: b :: a :: b :: st) w cn sn) := wp_row d_166_95 _ _ _ _ _
theorem d_166_96 : decode (mB 166) 96 = .ok (.iaload, 1) := by decide +kernel
theorem s_166_96 {d : Nat} {Q : wQ} {L : List (Option Value)} {st : List Value} {w : aw} {cn sn : Nat} {a : Nat} {i : Int32} : wp d 166 Q 96 L (.int i :: .ref a :: st) w cn sn = ((kd w a = 20 ∨ kd w a = 30) ∧ inR i (ln w a) ∧ wp d 166 Q 97 L (.int (ai w a i.toNatClampNeg) :: st) w cn sn) := wp_row d_166_96 _ _ _ _ _
theorem d_166_97 : decode (mB 166) 97 = .ok (.iconst 1, 1) := by decide +kernel
theorem s_166_97 {d : Nat} {Q : wQ} {L : List (Option Value)} {st : List Value} {w : aw} {cn sn : Nat}  : wp d 166 Q 97 L st w cn sn = wp d 166 Q 98 L (.int 1 :: st) w cn sn := w_iconst d_166_97 (by decide)
theorem d_166_98 : decode (mB 166) 98 = .ok (.isub, 1) := by decide +kernel
theorem s_166_98 {d : Nat} {Q : wQ} {L : List (Option Value)} {st : List Value} {w : aw} {cn sn : Nat} {a b : Int32} : wp d 166 Q 98 L (.int b :: .int a :: st) w cn sn = wp d 166 Q 99 L (.int (a - b) :: st) w cn sn := wp_row d_166_98 _ _ _ _ _
theorem d_166_99 : decode (mB 166) 99 = .ok (.iastore, 1) := by decide +kernel
theorem s_166_99 {d : Nat} {Q : wQ} {L : List (Option Value)} {st : List Value} {w : aw} {cn sn : Nat} {a : Nat} {i x : Int32} : wp d 166 Q 99 L (.int x :: .int i :: .ref a :: st) w cn sn = (kd w a = 20 ∧ inR i (ln w a) ∧ wp d 166 Q 100 L st (uA w a i.toNatClampNeg x) cn sn) := wp_row d_166_99 _ _ _ _ _
theorem d_166_100 : decode (mB 166) 100 = .ok (.iload_n 3, 1) := by decide +kernel
theorem s_166_100 {d : Nat} {Q : wQ} {L : List (Option Value)} {st : List Value} {w : aw} {cn sn : Nat} {a0 a1 a2 : Option Value} {v : Int32} : wp d 166 Q 100 (a0 :: a1 :: a2 :: some (.int v) :: L) st w cn sn = wp d 166 Q 101 (a0 :: a1 :: a2 :: some (.int v) :: L) (.int v :: st) w cn sn := w_iload_n d_166_100 rfl
theorem d_166_101 : decode (mB 166) 101 = .ok (.ireturn, 1) := by decide +kernel
theorem s_166_101 {d : Nat} {Q : wQ} {L : List (Option Value)} {w : aw} {cn sn : Nat} {v : Int32} : wp d 166 Q 101 L [.int v] w cn sn = Q (some (.int v)) w := w_ireturn d_166_101 rfl
theorem d_167_0 : decode (mB 167) 0 = .ok (.aload_n 0, 1) := by decide +kernel
theorem s_167_0 {d : Nat} {Q : wQ} {L : List (Option Value)} {st : List Value} {w : aw} {cn sn : Nat} {v : Nat} : wp d 167 Q 0 (some (.ref v) :: L) st w cn sn = wp d 167 Q 1 (some (.ref v) :: L) (.ref v :: st) w cn sn := w_aload_n d_167_0 rfl
theorem d_167_1 : decode (mB 167) 1 = .ok (.invokevirtual 267, 3) := by decide +kernel
theorem s_167_1 {d : Nat} {Q : wQ} {L : List (Option Value)} {st : List Value} {w : aw} {cn sn : Nat} {b : Nat} : wp d 167 Q 1 L (.ref b :: st) w cn sn = (kd w b = 9 ∧ catS st ≤ 8 ∧ wpD d 148 [.ref b] w (fun v w' => wp d 167 Q 4 L (v.toList ++ st) w' cn sn)) := w_virtual (As := []) d_167_1 (by decide +kernel : cT (mO 167) 267 = some (0, 148)) rfl (by decide +kernel) rfl (by decide +kernel) rfl
theorem d_167_4 : decode (mB 167) 4 = .ok (.aload_n 0, 1) := by decide +kernel
theorem s_167_4 {d : Nat} {Q : wQ} {L : List (Option Value)} {st : List Value} {w : aw} {cn sn : Nat} {v : Nat} : wp d 167 Q 4 (some (.ref v) :: L) st w cn sn = wp d 167 Q 5 (some (.ref v) :: L) (.ref v :: st) w cn sn := w_aload_n d_167_4 rfl
theorem d_167_5 : decode (mB 167) 5 = .ok (.invokevirtual 270, 3) := by decide +kernel
theorem s_167_5 {d : Nat} {Q : wQ} {L : List (Option Value)} {st : List Value} {w : aw} {cn sn : Nat} {b : Nat} : wp d 167 Q 5 L (.ref b :: st) w cn sn = (kd w b = 9 ∧ catS st ≤ 8 ∧ wpD d 154 [.ref b] w (fun v w' => wp d 167 Q 8 L (v.toList ++ st) w' cn sn)) := w_virtual (As := []) d_167_5 (by decide +kernel : cT (mO 167) 270 = some (0, 154)) rfl (by decide +kernel) rfl (by decide +kernel) rfl
theorem d_167_8 : decode (mB 167) 8 = .ok (.ifCond .eq 24, 3) := by decide +kernel
theorem s_167_8 {d : Nat} {Q : wQ} {L : List (Option Value)} {st : List Value} {w : aw} {cn sn : Nat} {x : Int32} : wp d 167 Q 8 L (.int x :: st) w cn sn = ((x = 0 → wp d 167 Q 32 L st w cn sn) ∧ (¬ x = 0 → wp d 167 Q 11 L st w cn sn)) := w_ifeq d_167_8 (by decide)
theorem d_167_11 : decode (mB 167) 11 = .ok (.aload_n 0, 1) := by decide +kernel
theorem s_167_11 {d : Nat} {Q : wQ} {L : List (Option Value)} {st : List Value} {w : aw} {cn sn : Nat} {v : Nat} : wp d 167 Q 11 (some (.ref v) :: L) st w cn sn = wp d 167 Q 12 (some (.ref v) :: L) (.ref v :: st) w cn sn := w_aload_n d_167_11 rfl
theorem d_167_12 : decode (mB 167) 12 = .ok (.aload_n 0, 1) := by decide +kernel
theorem s_167_12 {d : Nat} {Q : wQ} {L : List (Option Value)} {st : List Value} {w : aw} {cn sn : Nat} {v : Nat} : wp d 167 Q 12 (some (.ref v) :: L) st w cn sn = wp d 167 Q 13 (some (.ref v) :: L) (.ref v :: st) w cn sn := w_aload_n d_167_12 rfl
theorem d_167_13 : decode (mB 167) 13 = .ok (.aload_n 0, 1) := by decide +kernel
theorem s_167_13 {d : Nat} {Q : wQ} {L : List (Option Value)} {st : List Value} {w : aw} {cn sn : Nat} {v : Nat} : wp d 167 Q 13 (some (.ref v) :: L) st w cn sn = wp d 167 Q 14 (some (.ref v) :: L) (.ref v :: st) w cn sn := w_aload_n d_167_13 rfl
theorem d_167_14 : decode (mB 167) 14 = .ok (.getfield 231, 3) := by decide +kernel
theorem s_167_14 {d : Nat} {Q : wQ} {L : List (Option Value)} {st : List Value} {w : aw} {cn sn : Nat} {a : Nat} : wp d 167 Q 14 L (.ref a :: st) w cn sn = (kd w a = 9 ∧ wp d 167 Q 17 L (fd w 555 a :: st) w cn sn) := w_getfield d_167_14 (by decide +kernel : fT (mO 167) 231 = some (8, 43))
theorem d_167_17 : decode (mB 167) 17 = .ok (.invokevirtual 240, 3) := by decide +kernel
theorem s_167_17 {d : Nat} {Q : wQ} {L : List (Option Value)} {st : List Value} {w : aw} {cn sn : Nat} {v0 : Value} {b : Nat} : wp d 167 Q 17 L (v0 :: .ref b :: st) w cn sn = (kd w b = 9 ∧ catS st ≤ 8 ∧ wpD d 149 [.ref b, v0] w (fun v w' => wp d 167 Q 20 L (v.toList ++ st) w' cn sn)) := w_virtual (As := [v0]) d_167_17 (by decide +kernel : cT (mO 167) 240 = some (0, 149)) rfl (by decide +kernel) rfl (by decide +kernel) rfl
theorem d_167_20 : decode (mB 167) 20 = .ok (.iconst 1, 1) := by decide +kernel
theorem s_167_20 {d : Nat} {Q : wQ} {L : List (Option Value)} {st : List Value} {w : aw} {cn sn : Nat}  : wp d 167 Q 20 L st w cn sn = wp d 167 Q 21 L (.int 1 :: st) w cn sn := w_iconst d_167_20 (by decide)
theorem d_167_21 : decode (mB 167) 21 = .ok (.iadd, 1) := by decide +kernel
theorem s_167_21 {d : Nat} {Q : wQ} {L : List (Option Value)} {st : List Value} {w : aw} {cn sn : Nat} {a b : Int32} : wp d 167 Q 21 L (.int b :: .int a :: st) w cn sn = wp d 167 Q 22 L (.int (a + b) :: st) w cn sn := wp_row d_167_21 _ _ _ _ _
theorem d_167_22 : decode (mB 167) 22 = .ok (.putfield 231, 3) := by decide +kernel
theorem s_167_22 {d : Nat} {Q : wQ} {L : List (Option Value)} {st : List Value} {w : aw} {cn sn : Nat} {x : Int32} {a : Nat} : wp d 167 Q 22 L (.int x :: .ref a :: st) w cn sn = (kd w a = 9 ∧ wp d 167 Q 25 L st (uF w 555 a (.int x)) cn sn) := w_putfield d_167_22 (by decide +kernel : fT (mO 167) 231 = some (8, 43)) (by decide +kernel) ok_int
theorem d_167_25 : decode (mB 167) 25 = .ok (.aload_n 0, 1) := by decide +kernel
theorem s_167_25 {d : Nat} {Q : wQ} {L : List (Option Value)} {st : List Value} {w : aw} {cn sn : Nat} {v : Nat} : wp d 167 Q 25 (some (.ref v) :: L) st w cn sn = wp d 167 Q 26 (some (.ref v) :: L) (.ref v :: st) w cn sn := w_aload_n d_167_25 rfl
theorem d_167_26 : decode (mB 167) 26 = .ok (.invokevirtual 267, 3) := by decide +kernel
theorem s_167_26 {d : Nat} {Q : wQ} {L : List (Option Value)} {st : List Value} {w : aw} {cn sn : Nat} {b : Nat} : wp d 167 Q 26 L (.ref b :: st) w cn sn = (kd w b = 9 ∧ catS st ≤ 8 ∧ wpD d 148 [.ref b] w (fun v w' => wp d 167 Q 29 L (v.toList ++ st) w' cn sn)) := w_virtual (As := []) d_167_26 (by decide +kernel : cT (mO 167) 267 = some (0, 148)) rfl (by decide +kernel) rfl (by decide +kernel) rfl
theorem d_167_29 : decode (mB 167) 29 = .ok (.goto (-25), 3) := by decide +kernel
theorem s_167_29 {d : Nat} {Q : wQ} {L : List (Option Value)} {st : List Value} {w : aw} {cn sn : Nat}  : wp d 167 Q 29 L st w cn sn = wp d 167 Q 4 L st w cn sn := w_goto d_167_29 (by decide)
theorem d_167_32 : decode (mB 167) 32 = .ok (.aload_n 0, 1) := by decide +kernel
theorem s_167_32 {d : Nat} {Q : wQ} {L : List (Option Value)} {st : List Value} {w : aw} {cn sn : Nat} {v : Nat} : wp d 167 Q 32 (some (.ref v) :: L) st w cn sn = wp d 167 Q 33 (some (.ref v) :: L) (.ref v :: st) w cn sn := w_aload_n d_167_32 rfl
theorem d_167_33 : decode (mB 167) 33 = .ok (.getfield 231, 3) := by decide +kernel
theorem s_167_33 {d : Nat} {Q : wQ} {L : List (Option Value)} {st : List Value} {w : aw} {cn sn : Nat} {a : Nat} : wp d 167 Q 33 L (.ref a :: st) w cn sn = (kd w a = 9 ∧ wp d 167 Q 36 L (fd w 555 a :: st) w cn sn) := w_getfield d_167_33 (by decide +kernel : fT (mO 167) 231 = some (8, 43))
theorem d_167_36 : decode (mB 167) 36 = .ok (.aload_n 0, 1) := by decide +kernel
theorem s_167_36 {d : Nat} {Q : wQ} {L : List (Option Value)} {st : List Value} {w : aw} {cn sn : Nat} {v : Nat} : wp d 167 Q 36 (some (.ref v) :: L) st w cn sn = wp d 167 Q 37 (some (.ref v) :: L) (.ref v :: st) w cn sn := w_aload_n d_167_36 rfl
theorem d_167_37 : decode (mB 167) 37 = .ok (.getfield 228, 3) := by decide +kernel
theorem s_167_37 {d : Nat} {Q : wQ} {L : List (Option Value)} {st : List Value} {w : aw} {cn sn : Nat} {a : Nat} : wp d 167 Q 37 L (.ref a :: st) w cn sn = (kd w a = 9 ∧ wp d 167 Q 40 L (fd w 556 a :: st) w cn sn) := w_getfield d_167_37 (by decide +kernel : fT (mO 167) 228 = some (8, 44))
theorem d_167_40 : decode (mB 167) 40 = .ok (.if_icmp .ge 10, 3) := by decide +kernel
theorem s_167_40 {d : Nat} {Q : wQ} {L : List (Option Value)} {st : List Value} {w : aw} {cn sn : Nat} {a b : Int32} : wp d 167 Q 40 L (.int b :: .int a :: st) w cn sn = ((b ≤ a → wp d 167 Q 50 L st w cn sn) ∧ (¬ b ≤ a → wp d 167 Q 43 L st w cn sn)) := w_icge d_167_40 (by decide)
theorem d_167_43 : decode (mB 167) 43 = .ok (.aload_n 0, 1) := by decide +kernel
theorem s_167_43 {d : Nat} {Q : wQ} {L : List (Option Value)} {st : List Value} {w : aw} {cn sn : Nat} {v : Nat} : wp d 167 Q 43 (some (.ref v) :: L) st w cn sn = wp d 167 Q 44 (some (.ref v) :: L) (.ref v :: st) w cn sn := w_aload_n d_167_43 rfl
theorem d_167_44 : decode (mB 167) 44 = .ok (.invokevirtual 280, 3) := by decide +kernel
theorem s_167_44 {d : Nat} {Q : wQ} {L : List (Option Value)} {st : List Value} {w : aw} {cn sn : Nat} {b : Nat} : wp d 167 Q 44 L (.ref b :: st) w cn sn = (kd w b = 9 ∧ catS st ≤ 8 ∧ wpD d 155 [.ref b] w (fun v w' => wp d 167 Q 47 L (v.toList ++ st) w' cn sn)) := w_virtual (As := []) d_167_44 (by decide +kernel : cT (mO 167) 280 = some (0, 155)) rfl (by decide +kernel) rfl (by decide +kernel) rfl
theorem d_167_47 : decode (mB 167) 47 = .ok (.ifCond .eq 5, 3) := by decide +kernel
theorem s_167_47 {d : Nat} {Q : wQ} {L : List (Option Value)} {st : List Value} {w : aw} {cn sn : Nat} {x : Int32} : wp d 167 Q 47 L (.int x :: st) w cn sn = ((x = 0 → wp d 167 Q 52 L st w cn sn) ∧ (¬ x = 0 → wp d 167 Q 50 L st w cn sn)) := w_ifeq d_167_47 (by decide)
theorem d_167_50 : decode (mB 167) 50 = .ok (.iconst 0, 1) := by decide +kernel
theorem s_167_50 {d : Nat} {Q : wQ} {L : List (Option Value)} {st : List Value} {w : aw} {cn sn : Nat}  : wp d 167 Q 50 L st w cn sn = wp d 167 Q 51 L (.int 0 :: st) w cn sn := w_iconst d_167_50 (by decide)
theorem d_167_51 : decode (mB 167) 51 = .ok (.ireturn, 1) := by decide +kernel
theorem s_167_51 {d : Nat} {Q : wQ} {L : List (Option Value)} {w : aw} {cn sn : Nat} {v : Int32} : wp d 167 Q 51 L [.int v] w cn sn = Q (some (.int v)) w := w_ireturn d_167_51 rfl
theorem d_167_52 : decode (mB 167) 52 = .ok (.aload_n 0, 1) := by decide +kernel
theorem s_167_52 {d : Nat} {Q : wQ} {L : List (Option Value)} {st : List Value} {w : aw} {cn sn : Nat} {v : Nat} : wp d 167 Q 52 (some (.ref v) :: L) st w cn sn = wp d 167 Q 53 (some (.ref v) :: L) (.ref v :: st) w cn sn := w_aload_n d_167_52 rfl
theorem d_167_53 : decode (mB 167) 53 = .ok (.aload_n 0, 1) := by decide +kernel
theorem s_167_53 {d : Nat} {Q : wQ} {L : List (Option Value)} {st : List Value} {w : aw} {cn sn : Nat} {v : Nat} : wp d 167 Q 53 (some (.ref v) :: L) st w cn sn = wp d 167 Q 54 (some (.ref v) :: L) (.ref v :: st) w cn sn := w_aload_n d_167_53 rfl
theorem d_167_54 : decode (mB 167) 54 = .ok (.getfield 231, 3) := by decide +kernel
theorem s_167_54 {d : Nat} {Q : wQ} {L : List (Option Value)} {st : List Value} {w : aw} {cn sn : Nat} {a : Nat} : wp d 167 Q 54 L (.ref a :: st) w cn sn = (kd w a = 9 ∧ wp d 167 Q 57 L (fd w 555 a :: st) w cn sn) := w_getfield d_167_54 (by decide +kernel : fT (mO 167) 231 = some (8, 43))
theorem d_167_57 : decode (mB 167) 57 = .ok (.invokevirtual 237, 3) := by decide +kernel
theorem s_167_57 {d : Nat} {Q : wQ} {L : List (Option Value)} {st : List Value} {w : aw} {cn sn : Nat} {v0 : Value} {b : Nat} : wp d 167 Q 57 L (v0 :: .ref b :: st) w cn sn = (kd w b = 9 ∧ catS st ≤ 8 ∧ wpD d 147 [.ref b, v0] w (fun v w' => wp d 167 Q 60 L (v.toList ++ st) w' cn sn)) := w_virtual (As := [v0]) d_167_57 (by decide +kernel : cT (mO 167) 237 = some (0, 147)) rfl (by decide +kernel) rfl (by decide +kernel) rfl
theorem d_167_60 : decode (mB 167) 60 = .ok (.bipush 42, 2) := by decide +kernel
theorem s_167_60 {d : Nat} {Q : wQ} {L : List (Option Value)} {st : List Value} {w : aw} {cn sn : Nat}  : wp d 167 Q 60 L st w cn sn = wp d 167 Q 62 L (.int 42 :: st) w cn sn := w_bipush d_167_60 (by decide)
theorem d_167_62 : decode (mB 167) 62 = .ok (.if_icmp .ne 32, 3) := by decide +kernel
theorem s_167_62 {d : Nat} {Q : wQ} {L : List (Option Value)} {st : List Value} {w : aw} {cn sn : Nat} {a b : Int32} : wp d 167 Q 62 L (.int b :: .int a :: st) w cn sn = ((¬ a = b → wp d 167 Q 94 L st w cn sn) ∧ (a = b → wp d 167 Q 65 L st w cn sn)) := w_icne d_167_62 (by decide)
theorem d_167_65 : decode (mB 167) 65 = .ok (.aload_n 0, 1) := by decide +kernel
theorem s_167_65 {d : Nat} {Q : wQ} {L : List (Option Value)} {st : List Value} {w : aw} {cn sn : Nat} {v : Nat} : wp d 167 Q 65 (some (.ref v) :: L) st w cn sn = wp d 167 Q 66 (some (.ref v) :: L) (.ref v :: st) w cn sn := w_aload_n d_167_65 rfl
theorem d_167_66 : decode (mB 167) 66 = .ok (.dup, 1) := by decide +kernel
theorem s_167_66 {d : Nat} {Q : wQ} {L : List (Option Value)} {st : List Value} {w : aw} {cn sn : Nat} {v : Value} : wp d 167 Q 66 L (v :: st) w cn sn = (v.category = 1 ∧ wp d 167 Q 67 L (v :: v :: st) w cn sn) := wp_row d_167_66 _ _ _ _ _
theorem d_167_67 : decode (mB 167) 67 = .ok (.getfield 231, 3) := by decide +kernel
theorem s_167_67 {d : Nat} {Q : wQ} {L : List (Option Value)} {st : List Value} {w : aw} {cn sn : Nat} {a : Nat} : wp d 167 Q 67 L (.ref a :: st) w cn sn = (kd w a = 9 ∧ wp d 167 Q 70 L (fd w 555 a :: st) w cn sn) := w_getfield d_167_67 (by decide +kernel : fT (mO 167) 231 = some (8, 43))
theorem d_167_70 : decode (mB 167) 70 = .ok (.iconst 1, 1) := by decide +kernel
theorem s_167_70 {d : Nat} {Q : wQ} {L : List (Option Value)} {st : List Value} {w : aw} {cn sn : Nat}  : wp d 167 Q 70 L st w cn sn = wp d 167 Q 71 L (.int 1 :: st) w cn sn := w_iconst d_167_70 (by decide)
theorem d_167_71 : decode (mB 167) 71 = .ok (.iadd, 1) := by decide +kernel
theorem s_167_71 {d : Nat} {Q : wQ} {L : List (Option Value)} {st : List Value} {w : aw} {cn sn : Nat} {a b : Int32} : wp d 167 Q 71 L (.int b :: .int a :: st) w cn sn = wp d 167 Q 72 L (.int (a + b) :: st) w cn sn := wp_row d_167_71 _ _ _ _ _
theorem d_167_72 : decode (mB 167) 72 = .ok (.putfield 231, 3) := by decide +kernel
theorem s_167_72 {d : Nat} {Q : wQ} {L : List (Option Value)} {st : List Value} {w : aw} {cn sn : Nat} {x : Int32} {a : Nat} : wp d 167 Q 72 L (.int x :: .ref a :: st) w cn sn = (kd w a = 9 ∧ wp d 167 Q 75 L st (uF w 555 a (.int x)) cn sn) := w_putfield d_167_72 (by decide +kernel : fT (mO 167) 231 = some (8, 43)) (by decide +kernel) ok_int
theorem d_167_75 : decode (mB 167) 75 = .ok (.aload_n 0, 1) := by decide +kernel
theorem s_167_75 {d : Nat} {Q : wQ} {L : List (Option Value)} {st : List Value} {w : aw} {cn sn : Nat} {v : Nat} : wp d 167 Q 75 (some (.ref v) :: L) st w cn sn = wp d 167 Q 76 (some (.ref v) :: L) (.ref v :: st) w cn sn := w_aload_n d_167_75 rfl
theorem d_167_76 : decode (mB 167) 76 = .ok (.invokevirtual 267, 3) := by decide +kernel
theorem s_167_76 {d : Nat} {Q : wQ} {L : List (Option Value)} {st : List Value} {w : aw} {cn sn : Nat} {b : Nat} : wp d 167 Q 76 L (.ref b :: st) w cn sn = (kd w b = 9 ∧ catS st ≤ 8 ∧ wpD d 148 [.ref b] w (fun v w' => wp d 167 Q 79 L (v.toList ++ st) w' cn sn)) := w_virtual (As := []) d_167_76 (by decide +kernel : cT (mO 167) 267 = some (0, 148)) rfl (by decide +kernel) rfl (by decide +kernel) rfl
theorem d_167_79 : decode (mB 167) 79 = .ok (.aload_n 0, 1) := by decide +kernel
theorem s_167_79 {d : Nat} {Q : wQ} {L : List (Option Value)} {st : List Value} {w : aw} {cn sn : Nat} {v : Nat} : wp d 167 Q 79 (some (.ref v) :: L) st w cn sn = wp d 167 Q 80 (some (.ref v) :: L) (.ref v :: st) w cn sn := w_aload_n d_167_79 rfl
theorem d_167_80 : decode (mB 167) 80 = .ok (.invokevirtual 274, 3) := by decide +kernel
theorem s_167_80 {d : Nat} {Q : wQ} {L : List (Option Value)} {st : List Value} {w : aw} {cn sn : Nat} {b : Nat} : wp d 167 Q 80 L (.ref b :: st) w cn sn = (kd w b = 9 ∧ catS st ≤ 8 ∧ wpD d 158 [.ref b] w (fun v w' => wp d 167 Q 83 L (v.toList ++ st) w' cn sn)) := w_virtual (As := []) d_167_80 (by decide +kernel : cT (mO 167) 274 = some (0, 158)) rfl (by decide +kernel) rfl (by decide +kernel) rfl
theorem d_167_83 : decode (mB 167) 83 = .ok (.istore_n 1, 1) := by decide +kernel
theorem s_167_83 {d : Nat} {Q : wQ} {L : List (Option Value)} {st : List Value} {w : aw} {cn sn : Nat} {a0 a1 : Option Value} {v : Int32} : wp d 167 Q 83 (a0 :: a1 :: L) (.int v :: st) w cn sn = wp d 167 Q 84 (clr a0 :: some (.int v) :: L) st w cn sn := w_istore_n d_167_83 (Nat.le_add_left 2 _) rfl
theorem d_167_84 : decode (mB 167) 84 = .ok (.aload_n 0, 1) := by decide +kernel
theorem s_167_84 {d : Nat} {Q : wQ} {L : List (Option Value)} {st : List Value} {w : aw} {cn sn : Nat} {v : Nat} : wp d 167 Q 84 (some (.ref v) :: L) st w cn sn = wp d 167 Q 85 (some (.ref v) :: L) (.ref v :: st) w cn sn := w_aload_n d_167_84 rfl
theorem d_167_85 : decode (mB 167) 85 = .ok (.aload_n 0, 1) := by decide +kernel
theorem s_167_85 {d : Nat} {Q : wQ} {L : List (Option Value)} {st : List Value} {w : aw} {cn sn : Nat} {v : Nat} : wp d 167 Q 85 (some (.ref v) :: L) st w cn sn = wp d 167 Q 86 (some (.ref v) :: L) (.ref v :: st) w cn sn := w_aload_n d_167_85 rfl
theorem d_167_86 : decode (mB 167) 86 = .ok (.getfield 261, 3) := by decide +kernel
theorem s_167_86 {d : Nat} {Q : wQ} {L : List (Option Value)} {st : List Value} {w : aw} {cn sn : Nat} {a : Nat} : wp d 167 Q 86 L (.ref a :: st) w cn sn = (kd w a = 9 ∧ wp d 167 Q 89 L (fd w 557 a :: st) w cn sn) := w_getfield d_167_86 (by decide +kernel : fT (mO 167) 261 = some (8, 45))
theorem d_167_89 : decode (mB 167) 89 = .ok (.putfield 254, 3) := by decide +kernel
theorem s_167_89 {d : Nat} {Q : wQ} {L : List (Option Value)} {st : List Value} {w : aw} {cn sn : Nat} {x : Int32} {a : Nat} : wp d 167 Q 89 L (.int x :: .ref a :: st) w cn sn = (kd w a = 9 ∧ wp d 167 Q 92 L st (uF w 554 a (.int x)) cn sn) := w_putfield d_167_89 (by decide +kernel : fT (mO 167) 254 = some (8, 42)) (by decide +kernel) ok_int
theorem d_167_92 : decode (mB 167) 92 = .ok (.iconst 0, 1) := by decide +kernel
theorem s_167_92 {d : Nat} {Q : wQ} {L : List (Option Value)} {st : List Value} {w : aw} {cn sn : Nat}  : wp d 167 Q 92 L st w cn sn = wp d 167 Q 93 L (.int 0 :: st) w cn sn := w_iconst d_167_92 (by decide)
theorem d_167_93 : decode (mB 167) 93 = .ok (.ireturn, 1) := by decide +kernel
theorem s_167_93 {d : Nat} {Q : wQ} {L : List (Option Value)} {w : aw} {cn sn : Nat} {v : Int32} : wp d 167 Q 93 L [.int v] w cn sn = Q (some (.int v)) w := w_ireturn d_167_93 rfl
theorem d_167_94 : decode (mB 167) 94 = .ok (.aload_n 0, 1) := by decide +kernel
theorem s_167_94 {d : Nat} {Q : wQ} {L : List (Option Value)} {st : List Value} {w : aw} {cn sn : Nat} {v : Nat} : wp d 167 Q 94 (some (.ref v) :: L) st w cn sn = wp d 167 Q 95 (some (.ref v) :: L) (.ref v :: st) w cn sn := w_aload_n d_167_94 rfl
theorem d_167_95 : decode (mB 167) 95 = .ok (.aload_n 0, 1) := by decide +kernel
theorem s_167_95 {d : Nat} {Q : wQ} {L : List (Option Value)} {st : List Value} {w : aw} {cn sn : Nat} {v : Nat} : wp d 167 Q 95 (some (.ref v) :: L) st w cn sn = wp d 167 Q 96 (some (.ref v) :: L) (.ref v :: st) w cn sn := w_aload_n d_167_95 rfl
theorem d_167_96 : decode (mB 167) 96 = .ok (.getfield 231, 3) := by decide +kernel
theorem s_167_96 {d : Nat} {Q : wQ} {L : List (Option Value)} {st : List Value} {w : aw} {cn sn : Nat} {a : Nat} : wp d 167 Q 96 L (.ref a :: st) w cn sn = (kd w a = 9 ∧ wp d 167 Q 99 L (fd w 555 a :: st) w cn sn) := w_getfield d_167_96 (by decide +kernel : fT (mO 167) 231 = some (8, 43))
theorem d_167_99 : decode (mB 167) 99 = .ok (.invokevirtual 283, 3) := by decide +kernel
theorem s_167_99 {d : Nat} {Q : wQ} {L : List (Option Value)} {st : List Value} {w : aw} {cn sn : Nat} {v0 : Value} {b : Nat} : wp d 167 Q 99 L (v0 :: .ref b :: st) w cn sn = (kd w b = 9 ∧ catS st ≤ 8 ∧ wpD d 153 [.ref b, v0] w (fun v w' => wp d 167 Q 102 L (v.toList ++ st) w' cn sn)) := w_virtual (As := [v0]) d_167_99 (by decide +kernel : cT (mO 167) 283 = some (0, 153)) rfl (by decide +kernel) rfl (by decide +kernel) rfl
theorem d_167_102 : decode (mB 167) 102 = .ok (.istore_n 1, 1) := by decide +kernel
theorem s_167_102 {d : Nat} {Q : wQ} {L : List (Option Value)} {st : List Value} {w : aw} {cn sn : Nat} {a0 a1 : Option Value} {v : Int32} : wp d 167 Q 102 (a0 :: a1 :: L) (.int v :: st) w cn sn = wp d 167 Q 103 (clr a0 :: some (.int v) :: L) st w cn sn := w_istore_n d_167_102 (Nat.le_add_left 2 _) rfl
theorem d_167_103 : decode (mB 167) 103 = .ok (.iload_n 1, 1) := by decide +kernel
theorem s_167_103 {d : Nat} {Q : wQ} {L : List (Option Value)} {st : List Value} {w : aw} {cn sn : Nat} {a0 : Option Value} {v : Int32} : wp d 167 Q 103 (a0 :: some (.int v) :: L) st w cn sn = wp d 167 Q 104 (a0 :: some (.int v) :: L) (.int v :: st) w cn sn := w_iload_n d_167_103 rfl
theorem d_167_104 : decode (mB 167) 104 = .ok (.ifCond .lt 11, 3) := by decide +kernel
theorem s_167_104 {d : Nat} {Q : wQ} {L : List (Option Value)} {st : List Value} {w : aw} {cn sn : Nat} {x : Int32} : wp d 167 Q 104 L (.int x :: st) w cn sn = ((x < 0 → wp d 167 Q 115 L st w cn sn) ∧ (¬ x < 0 → wp d 167 Q 107 L st w cn sn)) := w_iflt d_167_104 (by decide)
theorem d_167_107 : decode (mB 167) 107 = .ok (.aload_n 0, 1) := by decide +kernel
theorem s_167_107 {d : Nat} {Q : wQ} {L : List (Option Value)} {st : List Value} {w : aw} {cn sn : Nat} {v : Nat} : wp d 167 Q 107 (some (.ref v) :: L) st w cn sn = wp d 167 Q 108 (some (.ref v) :: L) (.ref v :: st) w cn sn := w_aload_n d_167_107 rfl
theorem d_167_108 : decode (mB 167) 108 = .ok (.iload_n 1, 1) := by decide +kernel
theorem s_167_108 {d : Nat} {Q : wQ} {L : List (Option Value)} {st : List Value} {w : aw} {cn sn : Nat} {a0 : Option Value} {v : Int32} : wp d 167 Q 108 (a0 :: some (.int v) :: L) st w cn sn = wp d 167 Q 109 (a0 :: some (.int v) :: L) (.int v :: st) w cn sn := w_iload_n d_167_108 rfl
theorem d_167_109 : decode (mB 167) 109 = .ok (.invokevirtual 306, 3) := by decide +kernel
theorem s_167_109 {d : Nat} {Q : wQ} {L : List (Option Value)} {st : List Value} {w : aw} {cn sn : Nat} {v0 : Value} {b : Nat} : wp d 167 Q 109 L (v0 :: .ref b :: st) w cn sn = (kd w b = 9 ∧ catS st ≤ 8 ∧ wpD d 168 [.ref b, v0] w (fun v w' => wp d 167 Q 112 L (v.toList ++ st) w' cn sn)) := w_virtual (As := [v0]) d_167_109 (by decide +kernel : cT (mO 167) 306 = some (0, 168)) rfl (by decide +kernel) rfl (by decide +kernel) rfl
theorem d_167_112 : decode (mB 167) 112 = .ok (.goto 7, 3) := by decide +kernel
theorem s_167_112 {d : Nat} {Q : wQ} {L : List (Option Value)} {st : List Value} {w : aw} {cn sn : Nat}  : wp d 167 Q 112 L st w cn sn = wp d 167 Q 119 L st w cn sn := w_goto d_167_112 (by decide)
theorem d_167_115 : decode (mB 167) 115 = .ok (.aload_n 0, 1) := by decide +kernel
theorem s_167_115 {d : Nat} {Q : wQ} {L : List (Option Value)} {st : List Value} {w : aw} {cn sn : Nat} {v : Nat} : wp d 167 Q 115 (some (.ref v) :: L) st w cn sn = wp d 167 Q 116 (some (.ref v) :: L) (.ref v :: st) w cn sn := w_aload_n d_167_115 rfl
theorem d_167_116 : decode (mB 167) 116 = .ok (.invokevirtual 309, 3) := by decide +kernel
theorem s_167_116 {d : Nat} {Q : wQ} {L : List (Option Value)} {st : List Value} {w : aw} {cn sn : Nat} {b : Nat} : wp d 167 Q 116 L (.ref b :: st) w cn sn = (kd w b = 9 ∧ catS st ≤ 8 ∧ wpD d 169 [.ref b] w (fun v w' => wp d 167 Q 119 L (v.toList ++ st) w' cn sn)) := w_virtual (As := []) d_167_116 (by decide +kernel : cT (mO 167) 309 = some (0, 169)) rfl (by decide +kernel) rfl (by decide +kernel) rfl
theorem d_167_119 : decode (mB 167) 119 = .ok (.ireturn, 1) := by decide +kernel
theorem s_167_119 {d : Nat} {Q : wQ} {L : List (Option Value)} {w : aw} {cn sn : Nat} {v : Int32} : wp d 167 Q 119 L [.int v] w cn sn = Q (some (.int v)) w := w_ireturn d_167_119 rfl
