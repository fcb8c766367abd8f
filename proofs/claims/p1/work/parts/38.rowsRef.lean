theorem d_166_0 : decode (mB 166) 0 = .ok (.sipush 512, 3) := by decide +kernel
theorem s_166_0 {d : Nat} {Q : wQ} {L : List (Option Value)} {st : List Value} {w : aw} {cn sn : Nat}  : wp d 166 Q 0 L st w cn sn = wp d 166 Q 3 L (.int 512 :: st) w cn sn := w_sipush d_166_0 (by decide)
theorem d_166_3 : decode (mB 166) 3 = .ok (.iload_n 1, 1) := by decide +kernel
theorem s_166_3 {d : Nat} {Q : wQ} {L : List (Option Value)} {st : List Value} {w : aw} {cn sn : Nat} {a0 : Option Value} {v : Int32} : wp d 166 Q 3 (a0 :: some (.int v) :: L) st w cn sn = wp d 166 Q 4 (a0 :: some (.int v) :: L) (.int v :: st) w cn sn := w_iload_n d_166_3 rfl
theorem d_166_4 : decode (mB 166) 4 = .ok (.imul, 1) := by decide +kernel
theorem s_166_4 {d : Nat} {Q : wQ} {L : List (Option Value)} {st : List Value} {w : aw} {cn sn : Nat} {a b : Int32} : wp d 166 Q 4 L (.int b :: .int a :: st) w cn sn = wp d 166 Q 5 L (.int (a * b) :: st) w cn sn := wp_row d_166_4 _ _ _ _ _
theorem d_166_5 : decode (mB 166) 5 = .ok (.istore_n 2, 1) := by decide +kernel
theorem s_166_5 {d : Nat} {Q : wQ} {L : List (Option Value)} {st : List Value} {w : aw} {cn sn : Nat} {a0 a1 a2 : Option Value} {v : Int32} : wp d 166 Q 5 (a0 :: a1 :: a2 :: L) (.int v :: st) w cn sn = wp d 166 Q 6 (a0 :: clr a1 :: some (.int v) :: L) st w cn sn := w_istore_n d_166_5 (Nat.le_add_left 3 _) rfl
theorem d_166_6 : decode (mB 166) 6 = .ok (.aload_n 0, 1) := by decide +kernel
theorem s_166_6 {d : Nat} {Q : wQ} {L : List (Option Value)} {st : List Value} {w : aw} {cn sn : Nat} {v : Nat} : wp d 166 Q 6 (some (.ref v) :: L) st w cn sn = wp d 166 Q 7 (some (.ref v) :: L) (.ref v :: st) w cn sn := w_aload_n d_166_6 rfl
theorem d_166_7 : decode (mB 166) 7 = .ok (.aload_n 0, 1) := by decide +kernel
theorem s_166_7 {d : Nat} {Q : wQ} {L : List (Option Value)} {st : List Value} {w : aw} {cn sn : Nat} {v : Nat} : wp d 166 Q 7 (some (.ref v) :: L) st w cn sn = wp d 166 Q 8 (some (.ref v) :: L) (.ref v :: st) w cn sn := w_aload_n d_166_7 rfl
theorem d_166_8 : decode (mB 166) 8 = .ok (.aload_n 0, 1) := by decide +kernel
theorem s_166_8 {d : Nat} {Q : wQ} {L : List (Option Value)} {st : List Value} {w : aw} {cn sn : Nat} {v : Nat} : wp d 166 Q 8 (some (.ref v) :: L) st w cn sn = wp d 166 Q 9 (some (.ref v) :: L) (.ref v :: st) w cn sn := w_aload_n d_166_8 rfl
theorem d_166_9 : decode (mB 166) 9 = .ok (.getfield 231, 3) := by decide +kernel
theorem s_166_9 {d : Nat} {Q : wQ} {L : List (Option Value)} {st : List Value} {w : aw} {cn sn : Nat} {a : Nat} : wp d 166 Q 9 L (.ref a :: st) w cn sn = (kd w a = 9 ∧ wp d 166 Q 12 L (fd w 555 a :: st) w cn sn) := w_getfield d_166_9 (by decide +kernel : fT (mO 166) 231 = some (8, 43))
theorem d_166_12 : decode (mB 166) 12 = .ok (.invokevirtual 240, 3) := by decide +kernel
theorem s_166_12 {d : Nat} {Q : wQ} {L : List (Option Value)} {st : List Value} {w : aw} {cn sn : Nat} {v0 : Value} {b : Nat} : wp d 166 Q 12 L (v0 :: .ref b :: st) w cn sn = (kd w b = 9 ∧ catS st ≤ 8 ∧ wpD d 147 [.ref b, v0] w (fun v w' => wp d 166 Q 15 L (v.toList ++ st) w' cn sn)) := w_virtual (As := [v0]) d_166_12 (by decide +kernel : cT (mO 166) 240 = some (0, 147)) rfl (by decide +kernel) rfl (by decide +kernel) rfl
theorem d_166_15 : decode (mB 166) 15 = .ok (.putfield 231, 3) := by decide +kernel
theorem s_166_15 {d : Nat} {Q : wQ} {L : List (Option Value)} {st : List Value} {w : aw} {cn sn : Nat} {x : Int32} {a : Nat} : wp d 166 Q 15 L (.int x :: .ref a :: st) w cn sn = (kd w a = 9 ∧ wp d 166 Q 18 L st (uF w 555 a (.int x)) cn sn) := w_putfield d_166_15 (by decide +kernel : fT (mO 166) 231 = some (8, 43)) (by decide +kernel) ok_int
theorem d_166_18 : decode (mB 166) 18 = .ok (.aload_n 0, 1) := by decide +kernel
theorem s_166_18 {d : Nat} {Q : wQ} {L : List (Option Value)} {st : List Value} {w : aw} {cn sn : Nat} {v : Nat} : wp d 166 Q 18 (some (.ref v) :: L) st w cn sn = wp d 166 Q 19 (some (.ref v) :: L) (.ref v :: st) w cn sn := w_aload_n d_166_18 rfl
theorem d_166_19 : decode (mB 166) 19 = .ok (.invokevirtual 267, 3) := by decide +kernel
theorem s_166_19 {d : Nat} {Q : wQ} {L : List (Option Value)} {st : List Value} {w : aw} {cn sn : Nat} {b : Nat} : wp d 166 Q 19 L (.ref b :: st) w cn sn = (kd w b = 9 ∧ catS st ≤ 8 ∧ wpD d 146 [.ref b] w (fun v w' => wp d 166 Q 22 L (v.toList ++ st) w' cn sn)) := w_virtual (As := []) d_166_19 (by decide +kernel : cT (mO 166) 267 = some (0, 146)) rfl (by decide +kernel) rfl (by decide +kernel) rfl
theorem d_166_22 : decode (mB 166) 22 = .ok (.aload_n 0, 1) := by decide +kernel
theorem s_166_22 {d : Nat} {Q : wQ} {L : List (Option Value)} {st : List Value} {w : aw} {cn sn : Nat} {v : Nat} : wp d 166 Q 22 (some (.ref v) :: L) st w cn sn = wp d 166 Q 23 (some (.ref v) :: L) (.ref v :: st) w cn sn := w_aload_n d_166_22 rfl
theorem d_166_23 : decode (mB 166) 23 = .ok (.invokevirtual 292, 3) := by decide +kernel
theorem s_166_23 {d : Nat} {Q : wQ} {L : List (Option Value)} {st : List Value} {w : aw} {cn sn : Nat} {b : Nat} : wp d 166 Q 23 L (.ref b :: st) w cn sn = (kd w b = 9 ∧ catS st ≤ 8 ∧ wpD d 154 [.ref b] w (fun v w' => wp d 166 Q 26 L (v.toList ++ st) w' cn sn)) := w_virtual (As := []) d_166_23 (by decide +kernel : cT (mO 166) 292 = some (0, 154)) rfl (by decide +kernel) rfl (by decide +kernel) rfl
theorem d_166_26 : decode (mB 166) 26 = .ok (.ifCond .eq 23, 3) := by decide +kernel
theorem s_166_26 {d : Nat} {Q : wQ} {L : List (Option Value)} {st : List Value} {w : aw} {cn sn : Nat} {x : Int32} : wp d 166 Q 26 L (.int x :: st) w cn sn = ((x = 0 → wp d 166 Q 49 L st w cn sn) ∧ (¬ x = 0 → wp d 166 Q 29 L st w cn sn)) := w_ifeq d_166_26 (by decide)
theorem d_166_29 : decode (mB 166) 29 = .ok (.iload_n 2, 1) := by decide +kernel
theorem s_166_29 {d : Nat} {Q : wQ} {L : List (Option Value)} {st : List Value} {w : aw} {cn sn : Nat} {a0 a1 : Option Value} {v : Int32} : wp d 166 Q 29 (a0 :: a1 :: some (.int v) :: L) st w cn sn = wp d 166 Q 30 (a0 :: a1 :: some (.int v) :: L) (.int v :: st) w cn sn := w_iload_n d_166_29 rfl
theorem d_166_30 : decode (mB 166) 30 = .ok (.sipush 256, 3) := by decide +kernel
theorem s_166_30 {d : Nat} {Q : wQ} {L : List (Option Value)} {st : List Value} {w : aw} {cn sn : Nat}  : wp d 166 Q 30 L st w cn sn = wp d 166 Q 33 L (.int 256 :: st) w cn sn := w_sipush d_166_30 (by decide)
theorem d_166_33 : decode (mB 166) 33 = .ok (.ior, 1) := by decide +kernel
theorem s_166_33 {d : Nat} {Q : wQ} {L : List (Option Value)} {st : List Value} {w : aw} {cn sn : Nat} {a b : Int32} : wp d 166 Q 33 L (.int b :: .int a :: st) w cn sn = wp d 166 Q 34 L (.int (a ||| b) :: st) w cn sn := wp_row d_166_33 _ _ _ _ _
theorem d_166_34 : decode (mB 166) 34 = .ok (.istore_n 2, 1) := by decide +kernel
theorem s_166_34 {d : Nat} {Q : wQ} {L : List (Option Value)} {st : List Value} {w : aw} {cn sn : Nat} {a0 a1 a2 : Option Value} {v : Int32} : wp d 166 Q 34 (a0 :: a1 :: a2 :: L) (.int v :: st) w cn sn = wp d 166 Q 35 (a0 :: clr a1 :: some (.int v) :: L) st w cn sn := w_istore_n d_166_34 (Nat.le_add_left 3 _) rfl
theorem d_166_35 : decode (mB 166) 35 = .ok (.aload_n 0, 1) := by decide +kernel
theorem s_166_35 {d : Nat} {Q : wQ} {L : List (Option Value)} {st : List Value} {w : aw} {cn sn : Nat} {v : Nat} : wp d 166 Q 35 (some (.ref v) :: L) st w cn sn = wp d 166 Q 36 (some (.ref v) :: L) (.ref v :: st) w cn sn := w_aload_n d_166_35 rfl
theorem d_166_36 : decode (mB 166) 36 = .ok (.dup, 1) := by decide +kernel
theorem s_166_36 {d : Nat} {Q : wQ} {L : List (Option Value)} {st : List Value} {w : aw} {cn sn : Nat} {v : Value} : wp d 166 Q 36 L (v :: st) w cn sn = (v.category = 1 ∧ wp d 166 Q 37 L (v :: v :: st) w cn sn) := wp_row d_166_36 _ _ _ _ _
theorem d_166_37 : decode (mB 166) 37 = .ok (.getfield 231, 3) := by decide +kernel
theorem s_166_37 {d : Nat} {Q : wQ} {L : List (Option Value)} {st : List Value} {w : aw} {cn sn : Nat} {a : Nat} : wp d 166 Q 37 L (.ref a :: st) w cn sn = (kd w a = 9 ∧ wp d 166 Q 40 L (fd w 555 a :: st) w cn sn) := w_getfield d_166_37 (by decide +kernel : fT (mO 166) 231 = some (8, 43))
theorem d_166_40 : decode (mB 166) 40 = .ok (.iconst 1, 1) := by decide +kernel
theorem s_166_40 {d : Nat} {Q : wQ} {L : List (Option Value)} {st : List Value} {w : aw} {cn sn : Nat}  : wp d 166 Q 40 L st w cn sn = wp d 166 Q 41 L (.int 1 :: st) w cn sn := w_iconst d_166_40 (by decide)
theorem d_166_41 : decode (mB 166) 41 = .ok (.iadd, 1) := by decide +kernel
theorem s_166_41 {d : Nat} {Q : wQ} {L : List (Option Value)} {st : List Value} {w : aw} {cn sn : Nat} {a b : Int32} : wp d 166 Q 41 L (.int b :: .int a :: st) w cn sn = wp d 166 Q 42 L (.int (a + b) :: st) w cn sn := wp_row d_166_41 _ _ _ _ _
theorem d_166_42 : decode (mB 166) 42 = .ok (.putfield 231, 3) := by decide +kernel
theorem s_166_42 {d : Nat} {Q : wQ} {L : List (Option Value)} {st : List Value} {w : aw} {cn sn : Nat} {x : Int32} {a : Nat} : wp d 166 Q 42 L (.int x :: .ref a :: st) w cn sn = (kd w a = 9 ∧ wp d 166 Q 45 L st (uF w 555 a (.int x)) cn sn) := w_putfield d_166_42 (by decide +kernel : fT (mO 166) 231 = some (8, 43)) (by decide +kernel) ok_int
theorem d_166_45 : decode (mB 166) 45 = .ok (.aload_n 0, 1) := by decide +kernel
theorem s_166_45 {d : Nat} {Q : wQ} {L : List (Option Value)} {st : List Value} {w : aw} {cn sn : Nat} {v : Nat} : wp d 166 Q 45 (some (.ref v) :: L) st w cn sn = wp d 166 Q 46 (some (.ref v) :: L) (.ref v :: st) w cn sn := w_aload_n d_166_45 rfl
theorem d_166_46 : decode (mB 166) 46 = .ok (.invokevirtual 267, 3) := by decide +kernel
theorem s_166_46 {d : Nat} {Q : wQ} {L : List (Option Value)} {st : List Value} {w : aw} {cn sn : Nat} {b : Nat} : wp d 166 Q 46 L (.ref b :: st) w cn sn = (kd w b = 9 ∧ catS st ≤ 8 ∧ wpD d 146 [.ref b] w (fun v w' => wp d 166 Q 49 L (v.toList ++ st) w' cn sn)) := w_virtual (As := []) d_166_46 (by decide +kernel : cT (mO 166) 267 = some (0, 146)) rfl (by decide +kernel) rfl (by decide +kernel) rfl
theorem d_166_49 : decode (mB 166) 49 = .ok (.aload_n 0, 1) := by decide +kernel
theorem s_166_49 {d : Nat} {Q : wQ} {L : List (Option Value)} {st : List Value} {w : aw} {cn sn : Nat} {v : Nat} : wp d 166 Q 49 (some (.ref v) :: L) st w cn sn = wp d 166 Q 50 (some (.ref v) :: L) (.ref v :: st) w cn sn := w_aload_n d_166_49 rfl
theorem d_166_50 : decode (mB 166) 50 = .ok (.aload_n 0, 1) := by decide +kernel
theorem s_166_50 {d : Nat} {Q : wQ} {L : List (Option Value)} {st : List Value} {w : aw} {cn sn : Nat} {v : Nat} : wp d 166 Q 50 (some (.ref v) :: L) st w cn sn = wp d 166 Q 51 (some (.ref v) :: L) (.ref v :: st) w cn sn := w_aload_n d_166_50 rfl
theorem d_166_51 : decode (mB 166) 51 = .ok (.getfield 231, 3) := by decide +kernel
theorem s_166_51 {d : Nat} {Q : wQ} {L : List (Option Value)} {st : List Value} {w : aw} {cn sn : Nat} {a : Nat} : wp d 166 Q 51 L (.ref a :: st) w cn sn = (kd w a = 9 ∧ wp d 166 Q 54 L (fd w 555 a :: st) w cn sn) := w_getfield d_166_51 (by decide +kernel : fT (mO 166) 231 = some (8, 43))
theorem d_166_54 : decode (mB 166) 54 = .ok (.invokevirtual 237, 3) := by decide +kernel
theorem s_166_54 {d : Nat} {Q : wQ} {L : List (Option Value)} {st : List Value} {w : aw} {cn sn : Nat} {v0 : Value} {b : Nat} : wp d 166 Q 54 L (v0 :: .ref b :: st) w cn sn = (kd w b = 9 ∧ catS st ≤ 8 ∧ wpD d 145 [.ref b, v0] w (fun v w' => wp d 166 Q 57 L (v.toList ++ st) w' cn sn)) := w_virtual (As := [v0]) d_166_54 (by decide +kernel : cT (mO 166) 237 = some (0, 145)) rfl (by decide +kernel) rfl (by decide +kernel) rfl
theorem d_166_57 : decode (mB 166) 57 = .ok (.bipush 40, 2) := by decide +kernel
theorem s_166_57 {d : Nat} {Q : wQ} {L : List (Option Value)} {st : List Value} {w : aw} {cn sn : Nat}  : wp d 166 Q 57 L st w cn sn = wp d 166 Q 59 L (.int 40 :: st) w cn sn := w_bipush d_166_57 (by decide)
theorem d_166_59 : decode (mB 166) 59 = .ok (.if_icmp .ne 18, 3) := by decide +kernel
theorem s_166_59 {d : Nat} {Q : wQ} {L : List (Option Value)} {st : List Value} {w : aw} {cn sn : Nat} {a b : Int32} : wp d 166 Q 59 L (.int b :: .int a :: st) w cn sn = ((¬ a = b → wp d 166 Q 77 L st w cn sn) ∧ (a = b → wp d 166 Q 62 L st w cn sn)) := w_icne d_166_59 (by decide)
theorem d_166_62 : decode (mB 166) 62 = .ok (.aload_n 0, 1) := by decide +kernel
theorem s_166_62 {d : Nat} {Q : wQ} {L : List (Option Value)} {st : List Value} {w : aw} {cn sn : Nat} {v : Nat} : wp d 166 Q 62 (some (.ref v) :: L) st w cn sn = wp d 166 Q 63 (some (.ref v) :: L) (.ref v :: st) w cn sn := w_aload_n d_166_62 rfl
theorem d_166_63 : decode (mB 166) 63 = .ok (.getfield 231, 3) := by decide +kernel
theorem s_166_63 {d : Nat} {Q : wQ} {L : List (Option Value)} {st : List Value} {w : aw} {cn sn : Nat} {a : Nat} : wp d 166 Q 63 L (.ref a :: st) w cn sn = (kd w a = 9 ∧ wp d 166 Q 66 L (fd w 555 a :: st) w cn sn) := w_getfield d_166_63 (by decide +kernel : fT (mO 166) 231 = some (8, 43))
theorem d_166_66 : decode (mB 166) 66 = .ok (.aload_n 0, 1) := by decide +kernel
theorem s_166_66 {d : Nat} {Q : wQ} {L : List (Option Value)} {st : List Value} {w : aw} {cn sn : Nat} {v : Nat} : wp d 166 Q 66 (some (.ref v) :: L) st w cn sn = wp d 166 Q 67 (some (.ref v) :: L) (.ref v :: st) w cn sn := w_aload_n d_166_66 rfl
theorem d_166_67 : decode (mB 166) 67 = .ok (.getfield 228, 3) := by decide +kernel
theorem s_166_67 {d : Nat} {Q : wQ} {L : List (Option Value)} {st : List Value} {w : aw} {cn sn : Nat} {a : Nat} : wp d 166 Q 67 L (.ref a :: st) w cn sn = (kd w a = 9 ∧ wp d 166 Q 70 L (fd w 556 a :: st) w cn sn) := w_getfield d_166_67 (by decide +kernel : fT (mO 166) 228 = some (8, 44))
theorem d_166_70 : decode (mB 166) 70 = .ok (.if_icmp .ge 7, 3) := by decide +kernel
theorem s_166_70 {d : Nat} {Q : wQ} {L : List (Option Value)} {st : List Value} {w : aw} {cn sn : Nat} {a b : Int32} : wp d 166 Q 70 L (.int b :: .int a :: st) w cn sn = ((b ≤ a → wp d 166 Q 77 L st w cn sn) ∧ (¬ b ≤ a → wp d 166 Q 73 L st w cn sn)) := w_icge d_166_70 (by decide)
theorem d_166_73 : decode (mB 166) 73 = .ok (.iconst 1, 1) := by decide +kernel
theorem s_166_73 {d : Nat} {Q : wQ} {L : List (Option Value)} {st : List Value} {w : aw} {cn sn : Nat}  : wp d 166 Q 73 L st w cn sn = wp d 166 Q 74 L (.int 1 :: st) w cn sn := w_iconst d_166_73 (by decide)
theorem d_166_74 : decode (mB 166) 74 = .ok (.goto 4, 3) := by decide +kernel
theorem s_166_74 {d : Nat} {Q : wQ} {L : List (Option Value)} {st : List Value} {w : aw} {cn sn : Nat}  : wp d 166 Q 74 L st w cn sn = wp d 166 Q 78 L st w cn sn := w_goto d_166_74 (by decide)
theorem d_166_77 : decode (mB 166) 77 = .ok (.iconst 0, 1) := by decide +kernel
theorem s_166_77 {d : Nat} {Q : wQ} {L : List (Option Value)} {st : List Value} {w : aw} {cn sn : Nat}  : wp d 166 Q 77 L st w cn sn = wp d 166 Q 78 L (.int 0 :: st) w cn sn := w_iconst d_166_77 (by decide)
theorem d_166_78 : decode (mB 166) 78 = .ok (.istore_n 3, 1) := by decide +kernel
theorem s_166_78 {d : Nat} {Q : wQ} {L : List (Option Value)} {st : List Value} {w : aw} {cn sn : Nat} {a0 a1 a2 a3 : Option Value} {v : Int32} : wp d 166 Q 78 (a0 :: a1 :: a2 :: a3 :: L) (.int v :: st) w cn sn = wp d 166 Q 79 (a0 :: a1 :: clr a2 :: some (.int v) :: L) st w cn sn := w_istore_n d_166_78 (Nat.le_add_left 4 _) rfl
theorem d_166_79 : decode (mB 166) 79 = .ok (.iload_n 3, 1) := by decide +kernel
theorem s_166_79 {d : Nat} {Q : wQ} {L : List (Option Value)} {st : List Value} {w : aw} {cn sn : Nat} {a0 a1 a2 : Option Value} {v : Int32} : wp d 166 Q 79 (a0 :: a1 :: a2 :: some (.int v) :: L) st w cn sn = wp d 166 Q 80 (a0 :: a1 :: a2 :: some (.int v) :: L) (.int v :: st) w cn sn := w_iload_n d_166_79 rfl
theorem d_166_80 : decode (mB 166) 80 = .ok (.ifCond .eq 17, 3) := by decide +kernel
theorem s_166_80 {d : Nat} {Q : wQ} {L : List (Option Value)} {st : List Value} {w : aw} {cn sn : Nat} {x : Int32} : wp d 166 Q 80 L (.int x :: st) w cn sn = ((x = 0 → wp d 166 Q 97 L st w cn sn) ∧ (¬ x = 0 → wp d 166 Q 83 L st w cn sn)) := w_ifeq d_166_80 (by decide)
theorem d_166_83 : decode (mB 166) 83 = .ok (.aload_n 0, 1) := by decide +kernel
theorem s_166_83 {d : Nat} {Q : wQ} {L : List (Option Value)} {st : List Value} {w : aw} {cn sn : Nat} {v : Nat} : wp d 166 Q 83 (some (.ref v) :: L) st w cn sn = wp d 166 Q 84 (some (.ref v) :: L) (.ref v :: st) w cn sn := w_aload_n d_166_83 rfl
theorem d_166_84 : decode (mB 166) 84 = .ok (.dup, 1) := by decide +kernel
theorem s_166_84 {d : Nat} {Q : wQ} {L : List (Option Value)} {st : List Value} {w : aw} {cn sn : Nat} {v : Value} : wp d 166 Q 84 L (v :: st) w cn sn = (v.category = 1 ∧ wp d 166 Q 85 L (v :: v :: st) w cn sn) := wp_row d_166_84 _ _ _ _ _
theorem d_166_85 : decode (mB 166) 85 = .ok (.getfield 231, 3) := by decide +kernel
theorem s_166_85 {d : Nat} {Q : wQ} {L : List (Option Value)} {st : List Value} {w : aw} {cn sn : Nat} {a : Nat} : wp d 166 Q 85 L (.ref a :: st) w cn sn = (kd w a = 9 ∧ wp d 166 Q 88 L (fd w 555 a :: st) w cn sn) := w_getfield d_166_85 (by decide +kernel : fT (mO 166) 231 = some (8, 43))
theorem d_166_88 : decode (mB 166) 88 = .ok (.iconst 1, 1) := by decide +kernel
theorem s_166_88 {d : Nat} {Q : wQ} {L : List (Option Value)} {st : List Value} {w : aw} {cn sn : Nat}  : wp d 166 Q 88 L st w cn sn = wp d 166 Q 89 L (.int 1 :: st) w cn sn := w_iconst d_166_88 (by decide)
theorem d_166_89 : decode (mB 166) 89 = .ok (.iadd, 1) := by decide +kernel
theorem s_166_89 {d : Nat} {Q : wQ} {L : List (Option Value)} {st : List Value} {w : aw} {cn sn : Nat} {a b : Int32} : wp d 166 Q 89 L (.int b :: .int a :: st) w cn sn = wp d 166 Q 90 L (.int (a + b) :: st) w cn sn := wp_row d_166_89 _ _ _ _ _
theorem d_166_90 : decode (mB 166) 90 = .ok (.putfield 231, 3) := by decide +kernel
theorem s_166_90 {d : Nat} {Q : wQ} {L : List (Option Value)} {st : List Value} {w : aw} {cn sn : Nat} {x : Int32} {a : Nat} : wp d 166 Q 90 L (.int x :: .ref a :: st) w cn sn = (kd w a = 9 ∧ wp d 166 Q 93 L st (uF w 555 a (.int x)) cn sn) := w_putfield d_166_90 (by decide +kernel : fT (mO 166) 231 = some (8, 43)) (by decide +kernel) ok_int
theorem d_166_93 : decode (mB 166) 93 = .ok (.aload_n 0, 1) := by decide +kernel
theorem s_166_93 {d : Nat} {Q : wQ} {L : List (Option Value)} {st : List Value} {w : aw} {cn sn : Nat} {v : Nat} : wp d 166 Q 93 (some (.ref v) :: L) st w cn sn = wp d 166 Q 94 (some (.ref v) :: L) (.ref v :: st) w cn sn := w_aload_n d_166_93 rfl
theorem d_166_94 : decode (mB 166) 94 = .ok (.invokevirtual 267, 3) := by decide +kernel
theorem s_166_94 {d : Nat} {Q : wQ} {L : List (Option Value)} {st : List Value} {w : aw} {cn sn : Nat} {b : Nat} : wp d 166 Q 94 L (.ref b :: st) w cn sn = (kd w b = 9 ∧ catS st ≤ 8 ∧ wpD d 146 [.ref b] w (fun v w' => wp d 166 Q 97 L (v.toList ++ st) w' cn sn)) := w_virtual (As := []) d_166_94 (by decide +kernel : cT (mO 166) 267 = some (0, 146)) rfl (by decide +kernel) rfl (by decide +kernel) rfl
theorem d_166_97 : decode (mB 166) 97 = .ok (.aload_n 0, 1) := by decide +kernel
theorem s_166_97 {d : Nat} {Q : wQ} {L : List (Option Value)} {st : List Value} {w : aw} {cn sn : Nat} {v : Nat} : wp d 166 Q 97 (some (.ref v) :: L) st w cn sn = wp d 166 Q 98 (some (.ref v) :: L) (.ref v :: st) w cn sn := w_aload_n d_166_97 rfl
theorem d_166_98 : decode (mB 166) 98 = .ok (.invokevirtual 274, 3) := by decide +kernel
theorem s_166_98 {d : Nat} {Q : wQ} {L : List (Option Value)} {st : List Value} {w : aw} {cn sn : Nat} {b : Nat} : wp d 166 Q 98 L (.ref b :: st) w cn sn = (kd w b = 9 ∧ catS st ≤ 8 ∧ wpD d 156 [.ref b] w (fun v w' => wp d 166 Q 101 L (v.toList ++ st) w' cn sn)) := w_virtual (As := []) d_166_98 (by decide +kernel : cT (mO 166) 274 = some (0, 156)) rfl (by decide +kernel) rfl (by decide +kernel) rfl
theorem d_166_101 : decode (mB 166) 101 = .ok (.istore 4, 2) := by decide +kernel
theorem s_166_101 {d : Nat} {Q : wQ} {L : List (Option Value)} {st : List Value} {w : aw} {cn sn : Nat} {a0 a1 a2 a3 a4 : Option Value} {v : Int32} : wp d 166 Q 101 (a0 :: a1 :: a2 :: a3 :: a4 :: L) (.int v :: st) w cn sn = wp d 166 Q 103 (a0 :: a1 :: a2 :: clr a3 :: some (.int v) :: L) st w cn sn := w_istore d_166_101 (Nat.le_add_left 5 _) rfl
theorem d_166_103 : decode (mB 166) 103 = .ok (.aload_n 0, 1) := by decide +kernel
theorem s_166_103 {d : Nat} {Q : wQ} {L : List (Option Value)} {st : List Value} {w : aw} {cn sn : Nat} {v : Nat} : wp d 166 Q 103 (some (.ref v) :: L) st w cn sn = wp d 166 Q 104 (some (.ref v) :: L) (.ref v :: st) w cn sn := w_aload_n d_166_103 rfl
theorem d_166_104 : decode (mB 166) 104 = .ok (.getfield 257, 3) := by decide +kernel
theorem s_166_104 {d : Nat} {Q : wQ} {L : List (Option Value)} {st : List Value} {w : aw} {cn sn : Nat} {a : Nat} : wp d 166 Q 104 L (.ref a :: st) w cn sn = (kd w a = 9 ∧ wp d 166 Q 107 L (fd w 558 a :: st) w cn sn) := w_getfield d_166_104 (by decide +kernel : fT (mO 166) 257 = some (8, 46))
theorem d_166_107 : decode (mB 166) 107 = .ok (.ifCond .ne 5, 3) := by decide +kernel
theorem s_166_107 {d : Nat} {Q : wQ} {L : List (Option Value)} {st : List Value} {w : aw} {cn sn : Nat} {x : Int32} : wp d 166 Q 107 L (.int x :: st) w cn sn = ((¬ x = 0 → wp d 166 Q 112 L st w cn sn) ∧ (x = 0 → wp d 166 Q 110 L st w cn sn)) := w_ifne d_166_107 (by decide)
theorem d_166_110 : decode (mB 166) 110 = .ok (.iconst 2, 1) := by decide +kernel
theorem s_166_110 {d : Nat} {Q : wQ} {L : List (Option Value)} {st : List Value} {w : aw} {cn sn : Nat}  : wp d 166 Q 110 L st w cn sn = wp d 166 Q 111 L (.int 2 :: st) w cn sn := w_iconst d_166_110 (by decide)
theorem d_166_111 : decode (mB 166) 111 = .ok (.ireturn, 1) := by decide +kernel
theorem s_166_111 {d : Nat} {Q : wQ} {L : List (Option Value)} {w : aw} {cn sn : Nat} {v : Int32} : wp d 166 Q 111 L [.int v] w cn sn = Q (some (.int v)) w := w_ireturn d_166_111 rfl
theorem d_166_112 : decode (mB 166) 112 = .ok (.iload_n 3, 1) := by decide +kernel
theorem s_166_112 {d : Nat} {Q : wQ} {L : List (Option Value)} {st : List Value} {w : aw} {cn sn : Nat} {a0 a1 a2 : Option Value} {v : Int32} : wp d 166 Q 112 (a0 :: a1 :: a2 :: some (.int v) :: L) st w cn sn = wp d 166 Q 113 (a0 :: a1 :: a2 :: some (.int v) :: L) (.int v :: st) w cn sn := w_iload_n d_166_112 rfl
theorem d_166_113 : decode (mB 166) 113 = .ok (.ifCond .eq 14, 3) := by decide +kernel
theorem s_166_113 {d : Nat} {Q : wQ} {L : List (Option Value)} {st : List Value} {w : aw} {cn sn : Nat} {x : Int32} : wp d 166 Q 113 L (.int x :: st) w cn sn = ((x = 0 → wp d 166 Q 127 L st w cn sn) ∧ (¬ x = 0 → wp d 166 Q 116 L st w cn sn)) := w_ifeq d_166_113 (by decide)
theorem d_166_116 : decode (mB 166) 116 = .ok (.aload_n 0, 1) := by decide +kernel
theorem s_166_116 {d : Nat} {Q : wQ} {L : List (Option Value)} {st : List Value} {w : aw} {cn sn : Nat} {v : Nat} : wp d 166 Q 116 (some (.ref v) :: L) st w cn sn = wp d 166 Q 117 (some (.ref v) :: L) (.ref v :: st) w cn sn := w_aload_n d_166_116 rfl
theorem d_166_117 : decode (mB 166) 117 = .ok (.aload_n 0, 1) := by decide +kernel
theorem s_166_117 {d : Nat} {Q : wQ} {L : List (Option Value)} {st : List Value} {w : aw} {cn sn : Nat} {v : Nat} : wp d 166 Q 117 (some (.ref v) :: L) st w cn sn = wp d 166 Q 118 (some (.ref v) :: L) (.ref v :: st) w cn sn := w_aload_n d_166_117 rfl
theorem d_166_118 : decode (mB 166) 118 = .ok (.getfield 261, 3) := by decide +kernel
theorem s_166_118 {d : Nat} {Q : wQ} {L : List (Option Value)} {st : List Value} {w : aw} {cn sn : Nat} {a : Nat} : wp d 166 Q 118 L (.ref a :: st) w cn sn = (kd w a = 9 ∧ wp d 166 Q 121 L (fd w 557 a :: st) w cn sn) := w_getfield d_166_118 (by decide +kernel : fT (mO 166) 261 = some (8, 45))
theorem d_166_121 : decode (mB 166) 121 = .ok (.invokevirtual 313, 3) := by decide +kernel
theorem s_166_121 {d : Nat} {Q : wQ} {L : List (Option Value)} {st : List Value} {w : aw} {cn sn : Nat} {v0 : Value} {b : Nat} : wp d 166 Q 121 L (v0 :: .ref b :: st) w cn sn = (kd w b = 9 ∧ catS st ≤ 8 ∧ wpD d 164 [.ref b, v0] w (fun v w' => wp d 166 Q 124 L (v.toList ++ st) w' cn sn)) := w_virtual (As := [v0]) d_166_121 (by decide +kernel : cT (mO 166) 313 = some (0, 164)) rfl (by decide +kernel) rfl (by decide +kernel) rfl
theorem d_166_124 : decode (mB 166) 124 = .ok (.goto 7, 3) := by decide +kernel
theorem s_166_124 {d : Nat} {Q : wQ} {L : List (Option Value)} {st : List Value} {w : aw} {cn sn : Nat}  : wp d 166 Q 124 L st w cn sn = wp d 166 Q 131 L st w cn sn := w_goto d_166_124 (by decide)
theorem d_166_127 : decode (mB 166) 127 = .ok (.aload_n 0, 1) := by decide +kernel
theorem s_166_127 {d : Nat} {Q : wQ} {L : List (Option Value)} {st : List Value} {w : aw} {cn sn : Nat} {v : Nat} : wp d 166 Q 127 (some (.ref v) :: L) st w cn sn = wp d 166 Q 128 (some (.ref v) :: L) (.ref v :: st) w cn sn := w_aload_n d_166_127 rfl
theorem d_166_128 : decode (mB 166) 128 = .ok (.getfield 261, 3) := by decide +kernel
theorem s_166_128 {d : Nat} {Q : wQ} {L : List (Option Value)} {st : List Value} {w : aw} {cn sn : Nat} {a : Nat} : wp d 166 Q 128 L (.ref a :: st) w cn sn = (kd w a = 9 ∧ wp d 166 Q 131 L (fd w 557 a :: st) w cn sn) := w_getfield d_166_128 (by decide +kernel : fT (mO 166) 261 = some (8, 45))
theorem d_166_131 : decode (mB 166) 131 = .ok (.istore 5, 2) := by decide +kernel
theorem s_166_131 {d : Nat} {Q : wQ} {L : List (Option Value)} {st : List Value} {w : aw} {cn sn : Nat} {a0 a1 a2 a3 a4 a5 : Option Value} {v : Int32} : wp d 166 Q 131 (a0 :: a1 :: a2 :: a3 :: a4 :: a5 :: L) (.int v :: st) w cn sn = wp d 166 Q 133 (a0 :: a1 :: a2 :: a3 :: clr a4 :: some (.int v) :: L) st w cn sn := w_istore d_166_131 (Nat.le_add_left 6 _) rfl
theorem d_166_133 : decode (mB 166) 133 = .ok (.iload 5, 2) := by decide +kernel
theorem s_166_133 {d : Nat} {Q : wQ} {L : List (Option Value)} {st : List Value} {w : aw} {cn sn : Nat} {a0 a1 a2 a3 a4 : Option Value} {v : Int32} : wp d 166 Q 133 (a0 :: a1 :: a2 :: a3 :: a4 :: some (.int v) :: L) st w cn sn = wp d 166 Q 135 (a0 :: a1 :: a2 :: a3 :: a4 :: some (.int v) :: L) (.int v :: st) w cn sn := w_iload d_166_133 rfl
theorem d_166_135 : decode (mB 166) 135 = .ok (.ifCond .ge 5, 3) := by decide +kernel
theorem s_166_135 {d : Nat} {Q : wQ} {L : List (Option Value)} {st : List Value} {w : aw} {cn sn : Nat} {x : Int32} : wp d 166 Q 135 L (.int x :: st) w cn sn = ((0 ≤ x → wp d 166 Q 140 L st w cn sn) ∧ (¬ 0 ≤ x → wp d 166 Q 138 L st w cn sn)) := w_ifge d_166_135 (by decide)
theorem d_166_138 : decode (mB 166) 138 = .ok (.iconst 5, 1) := by decide +kernel
theorem s_166_138 {d : Nat} {Q : wQ} {L : List (Option Value)} {st : List Value} {w : aw} {cn sn : Nat}  : wp d 166 Q 138 L st w cn sn = wp d 166 Q 139 L (.int 5 :: st) w cn sn := w_iconst d_166_138 (by decide)
theorem d_166_139 : decode (mB 166) 139 = .ok (.ireturn, 1) := by decide +kernel
theorem s_166_139 {d : Nat} {Q : wQ} {L : List (Option Value)} {w : aw} {cn sn : Nat} {v : Int32} : wp d 166 Q 139 L [.int v] w cn sn = Q (some (.int v)) w := w_ireturn d_166_139 rfl
theorem d_166_140 : decode (mB 166) 140 = .ok (.iload 5, 2) := by decide +kernel
theorem s_166_140 {d : Nat} {Q : wQ} {L : List (Option Value)} {st : List Value} {w : aw} {cn sn : Nat} {a0 a1 a2 a3 a4 : Option Value} {v : Int32} : wp d 166 Q 140 (a0 :: a1 :: a2 :: a3 :: a4 :: some (.int v) :: L) st w cn sn = wp d 166 Q 142 (a0 :: a1 :: a2 :: a3 :: a4 :: some (.int v) :: L) (.int v :: st) w cn sn := w_iload d_166_140 rfl
theorem d_166_142 : decode (mB 166) 142 = .ok (.sipush 128, 3) := by decide +kernel
theorem s_166_142 {d : Nat} {Q : wQ} {L : List (Option Value)} {st : List Value} {w : aw} {cn sn : Nat}  : wp d 166 Q 142 L st w cn sn = wp d 166 Q 145 L (.int 128 :: st) w cn sn := w_sipush d_166_142 (by decide)
theorem d_166_145 : decode (mB 166) 145 = .ok (.if_icmp .lt 22, 3) := by decide +kernel
theorem s_166_145 {d : Nat} {Q : wQ} {L : List (Option Value)} {st : List Value} {w : aw} {cn sn : Nat} {a b : Int32} : wp d 166 Q 145 L (.int b :: .int a :: st) w cn sn = ((a < b → wp d 166 Q 167 L st w cn sn) ∧ (¬ a < b → wp d 166 Q 148 L st w cn sn)) := w_iclt d_166_145 (by decide)
theorem d_166_148 : decode (mB 166) 148 = .ok (.iload 5, 2) := by decide +kernel
theorem s_166_148 {d : Nat} {Q : wQ} {L : List (Option Value)} {st : List Value} {w : aw} {cn sn : Nat} {a0 a1 a2 a3 a4 : Option Value} {v : Int32} : wp d 166 Q 148 (a0 :: a1 :: a2 :: a3 :: a4 :: some (.int v) :: L) st w cn sn = wp d 166 Q 150 (a0 :: a1 :: a2 :: a3 :: a4 :: some (.int v) :: L) (.int v :: st) w cn sn := w_iload d_166_148 rfl
theorem d_166_150 : decode (mB 166) 150 = .ok (.sipush 3968, 3) := by decide +kernel
theorem s_166_150 {d : Nat} {Q : wQ} {L : List (Option Value)} {st : List Value} {w : aw} {cn sn : Nat}  : wp d 166 Q 150 L st w cn sn = wp d 166 Q 153 L (.int 3968 :: st) w cn sn := w_sipush d_166_150 (by decide)
theorem d_166_153 : decode (mB 166) 153 = .ok (.iand, 1) := by decide +kernel
theorem s_166_153 {d : Nat} {Q : wQ} {L : List (Option Value)} {st : List Value} {w : aw} {cn sn : Nat} {a b : Int32} : wp d 166 Q 153 L (.int b :: .int a :: st) w cn sn = wp d 166 Q 154 L (.int (a &&& b) :: st) w cn sn := wp_row d_166_153 _ _ _ _ _
theorem d_166_154 : decode (mB 166) 154 = .ok (.aload_n 0, 1) := by decide +kernel
theorem s_166_154 {d : Nat} {Q : wQ} {L : List (Option Value)} {st : List Value} {w : aw} {cn sn : Nat} {v : Nat} : wp d 166 Q 154 (some (.ref v) :: L) st w cn sn = wp d 166 Q 155 (some (.ref v) :: L) (.ref v :: st) w cn sn := w_aload_n d_166_154 rfl
theorem d_166_155 : decode (mB 166) 155 = .ok (.getfield 254, 3) := by decide +kernel
theorem s_166_155 {d : Nat} {Q : wQ} {L : List (Option Value)} {st : List Value} {w : aw} {cn sn : Nat} {a : Nat} : wp d 166 Q 155 L (.ref a :: st) w cn sn = (kd w a = 9 ∧ wp d 166 Q 158 L (fd w 554 a :: st) w cn sn) := w_getfield d_166_155 (by decide +kernel : fT (mO 166) 254 = some (8, 42))
theorem d_166_158 : decode (mB 166) 158 = .ok (.sipush 3968, 3) := by decide +kernel
theorem s_166_158 {d : Nat} {Q : wQ} {L : List (Option Value)} {st : List Value} {w : aw} {cn sn : Nat}  : wp d 166 Q 158 L st w cn sn = wp d 166 Q 161 L (.int 3968 :: st) w cn sn := w_sipush d_166_158 (by decide)
theorem d_166_161 : decode (mB 166) 161 = .ok (.iand, 1) := by decide +kernel
theorem s_166_161 {d : Nat} {Q : wQ} {L : List (Option Value)} {st : List Value} {w : aw} {cn sn : Nat} {a b : Int32} : wp d 166 Q 161 L (.int b :: .int a :: st) w cn sn = wp d 166 Q 162 L (.int (a &&& b) :: st) w cn sn := wp_row d_166_161 _ _ _ _ _
theorem d_166_162 : decode (mB 166) 162 = .ok (.if_icmp .eq 5, 3) := by decide +kernel
theorem s_166_162 {d : Nat} {Q : wQ} {L : List (Option Value)} {st : List Value} {w : aw} {cn sn : Nat} {a b : Int32} : wp d 166 Q 162 L (.int b :: .int a :: st) w cn sn = ((a = b → wp d 166 Q 167 L st w cn sn) ∧ (¬ a = b → wp d 166 Q 165 L st w cn sn)) := w_iceq d_166_162 (by decide)
theorem d_166_165 : decode (mB 166) 165 = .ok (.iconst 4, 1) := by decide +kernel
theorem s_166_165 {d : Nat} {Q : wQ} {L : List (Option Value)} {st : List Value} {w : aw} {cn sn : Nat}  : wp d 166 Q 165 L st w cn sn = wp d 166 Q 166 L (.int 4 :: st) w cn sn := w_iconst d_166_165 (by decide)
theorem d_166_166 : decode (mB 166) 166 = .ok (.ireturn, 1) := by decide +kernel
theorem s_166_166 {d : Nat} {Q : wQ} {L : List (Option Value)} {w : aw} {cn sn : Nat} {v : Int32} : wp d 166 Q 166 L [.int v] w cn sn = Q (some (.int v)) w := w_ireturn d_166_166 rfl
theorem d_166_167 : decode (mB 166) 167 = .ok (.aload_n 0, 1) := by decide +kernel
theorem s_166_167 {d : Nat} {Q : wQ} {L : List (Option Value)} {st : List Value} {w : aw} {cn sn : Nat} {v : Nat} : wp d 166 Q 167 (some (.ref v) :: L) st w cn sn = wp d 166 Q 168 (some (.ref v) :: L) (.ref v :: st) w cn sn := w_aload_n d_166_167 rfl
theorem d_166_168 : decode (mB 166) 168 = .ok (.aload_n 0, 1) := by decide +kernel
theorem s_166_168 {d : Nat} {Q : wQ} {L : List (Option Value)} {st : List Value} {w : aw} {cn sn : Nat} {v : Nat} : wp d 166 Q 168 (some (.ref v) :: L) st w cn sn = wp d 166 Q 169 (some (.ref v) :: L) (.ref v :: st) w cn sn := w_aload_n d_166_168 rfl
theorem d_166_169 : decode (mB 166) 169 = .ok (.getfield 254, 3) := by decide +kernel
theorem s_166_169 {d : Nat} {Q : wQ} {L : List (Option Value)} {st : List Value} {w : aw} {cn sn : Nat} {a : Nat} : wp d 166 Q 169 L (.ref a :: st) w cn sn = (kd w a = 9 ∧ wp d 166 Q 172 L (fd w 554 a :: st) w cn sn) := w_getfield d_166_169 (by decide +kernel : fT (mO 166) 254 = some (8, 42))
theorem d_166_172 : decode (mB 166) 172 = .ok (.iload_n 2, 1) := by decide +kernel
theorem s_166_172 {d : Nat} {Q : wQ} {L : List (Option Value)} {st : List Value} {w : aw} {cn sn : Nat} {a0 a1 : Option Value} {v : Int32} : wp d 166 Q 172 (a0 :: a1 :: some (.int v) :: L) st w cn sn = wp d 166 Q 173 (a0 :: a1 :: some (.int v) :: L) (.int v :: st) w cn sn := w_iload_n d_166_172 rfl
theorem d_166_173 : decode (mB 166) 173 = .ok (.iload 5, 2) := by decide +kernel
theorem s_166_173 {d : Nat} {Q : wQ} {L : List (Option Value)} {st : List Value} {w : aw} {cn sn : Nat} {a0 a1 a2 a3 a4 : Option Value} {v : Int32} : wp d 166 Q 173 (a0 :: a1 :: a2 :: a3 :: a4 :: some (.int v) :: L) st w cn sn = wp d 166 Q 175 (a0 :: a1 :: a2 :: a3 :: a4 :: some (.int v) :: L) (.int v :: st) w cn sn := w_iload d_166_173 rfl
theorem d_166_175 : decode (mB 166) 175 = .ok (.sipush 128, 3) := by decide +kernel
theorem s_166_175 {d : Nat} {Q : wQ} {L : List (Option Value)} {st : List Value} {w : aw} {cn sn : Nat}  : wp d 166 Q 175 L st w cn sn = wp d 166 Q 178 L (.int 128 :: st) w cn sn := w_sipush d_166_175 (by decide)
theorem d_166_178 : decode (mB 166) 178 = .ok (.if_icmp .ge 8, 3) := by decide +kernel
theorem s_166_178 {d : Nat} {Q : wQ} {L : List (Option Value)} {st : List Value} {w : aw} {cn sn : Nat} {a b : Int32} : wp d 166 Q 178 L (.int b :: .int a :: st) w cn sn = ((b ≤ a → wp d 166 Q 186 L st w cn sn) ∧ (¬ b ≤ a → wp d 166 Q 181 L st w cn sn)) := w_icge d_166_178 (by decide)
theorem d_166_181 : decode (mB 166) 181 = .ok (.iload 5, 2) := by decide +kernel
theorem s_166_181 {d : Nat} {Q : wQ} {L : List (Option Value)} {st : List Value} {w : aw} {cn sn : Nat} {a0 a1 a2 a3 a4 : Option Value} {v : Int32} : wp d 166 Q 181 (a0 :: a1 :: a2 :: a3 :: a4 :: some (.int v) :: L) st w cn sn = wp d 166 Q 183 (a0 :: a1 :: a2 :: a3 :: a4 :: some (.int v) :: L) (.int v :: st) w cn sn := w_iload d_166_181 rfl
theorem d_166_183 : decode (mB 166) 183 = .ok (.goto 12, 3) := by decide +kernel
theorem s_166_183 {d : Nat} {Q : wQ} {L : List (Option Value)} {st : List Value} {w : aw} {cn sn : Nat}  : wp d 166 Q 183 L st w cn sn = wp d 166 Q 195 L st w cn sn := w_goto d_166_183 (by decide)
theorem d_166_186 : decode (mB 166) 186 = .ok (.sipush 128, 3) := by decide +kernel
theorem s_166_186 {d : Nat} {Q : wQ} {L : List (Option Value)} {st : List Value} {w : aw} {cn sn : Nat}  : wp d 166 Q 186 L st w cn sn = wp d 166 Q 189 L (.int 128 :: st) w cn sn := w_sipush d_166_186 (by decide)
theorem d_166_189 : decode (mB 166) 189 = .ok (.iload 5, 2) := by decide +kernel
theorem s_166_189 {d : Nat} {Q : wQ} {L : List (Option Value)} {st : List Value} {w : aw} {cn sn : Nat} {a0 a1 a2 a3 a4 : Option Value} {v : Int32} : wp d 166 Q 189 (a0 :: a1 :: a2 :: a3 :: a4 :: some (.int v) :: L) st w cn sn = wp d 166 Q 191 (a0 :: a1 :: a2 :: a3 :: a4 :: some (.int v) :: L) (.int v :: st) w cn sn := w_iload d_166_189 rfl
theorem d_166_191 : decode (mB 166) 191 = .ok (.bipush 127, 2) := by decide +kernel
theorem s_166_191 {d : Nat} {Q : wQ} {L : List (Option Value)} {st : List Value} {w : aw} {cn sn : Nat}  : wp d 166 Q 191 L st w cn sn = wp d 166 Q 193 L (.int 127 :: st) w cn sn := w_bipush d_166_191 (by decide)
theorem d_166_193 : decode (mB 166) 193 = .ok (.iand, 1) := by decide +kernel
theorem s_166_193 {d : Nat} {Q : wQ} {L : List (Option Value)} {st : List Value} {w : aw} {cn sn : Nat} {a b : Int32} : wp d 166 Q 193 L (.int b :: .int a :: st) w cn sn = wp d 166 Q 194 L (.int (a &&& b) :: st) w cn sn := wp_row d_166_193 _ _ _ _ _
theorem d_166_194 : decode (mB 166) 194 = .ok (.ior, 1) := by decide +kernel
theorem s_166_194 {d : Nat} {Q : wQ} {L : List (Option Value)} {st : List Value} {w : aw} {cn sn : Nat} {a b : Int32} : wp d 166 Q 194 L (.int b :: .int a :: st) w cn sn = wp d 166 Q 195 L (.int (a ||| b) :: st) w cn sn := wp_row d_166_194 _ _ _ _ _
theorem d_166_195 : decode (mB 166) 195 = .ok (.ior, 1) := by decide +kernel
theorem s_166_195 {d : Nat} {Q : wQ} {L : List (Option Value)} {st : List Value} {w : aw} {cn sn : Nat} {a b : Int32} : wp d 166 Q 195 L (.int b :: .int a :: st) w cn sn = wp d 166 Q 196 L (.int (a ||| b) :: st) w cn sn := wp_row d_166_195 _ _ _ _ _
theorem d_166_196 : decode (mB 166) 196 = .ok (.iconst 0, 1) := by decide +kernel
theorem s_166_196 {d : Nat} {Q : wQ} {L : List (Option Value)} {st : List Value} {w : aw} {cn sn : Nat}  : wp d 166 Q 196 L st w cn sn = wp d 166 Q 197 L (.int 0 :: st) w cn sn := w_iconst d_166_196 (by decide)
theorem d_166_197 : decode (mB 166) 197 = .ok (.invokevirtual 302, 3) := by decide +kernel
theorem s_166_197 {d : Nat} {Q : wQ} {L : List (Option Value)} {st : List Value} {w : aw} {cn sn : Nat} {v0 v1 v2 : Value} {b : Nat} : wp d 166 Q 197 L (v2 :: v1 :: v0 :: .ref b :: st) w cn sn = (kd w b = 9 ∧ catS st ≤ 8 ∧ wpD d 163 [.ref b, v0, v1, v2] w (fun v w' => wp d 166 Q 200 L (v.toList ++ st) w' cn sn)) := w_virtual (As := [v0, v1, v2]) d_166_197 (by decide +kernel : cT (mO 166) 302 = some (0, 163)) rfl (by decide +kernel) rfl (by decide +kernel) rfl
theorem d_166_200 : decode (mB 166) 200 = .ok (.istore 6, 2) := by decide +kernel
theorem s_166_200 {d : Nat} {Q : wQ} {L : List (Option Value)} {st : List Value} {w : aw} {cn sn : Nat} {a0 a1 a2 a3 a4 a5 a6 : Option Value} {v : Int32} : wp d 166 Q 200 (a0 :: a1 :: a2 :: a3 :: a4 :: a5 :: a6 :: L) (.int v :: st) w cn sn = wp d 166 Q 202 (a0 :: a1 :: a2 :: a3 :: a4 :: clr a5 :: some (.int v) :: L) st w cn sn := w_istore d_166_200 (Nat.le_add_left 7 _) rfl
theorem d_166_202 : decode (mB 166) 202 = .ok (.aload_n 0, 1) := by decide +kernel
theorem s_166_202 {d : Nat} {Q : wQ} {L : List (Option Value)} {st : List Value} {w : aw} {cn sn : Nat} {v : Nat} : wp d 166 Q 202 (some (.ref v) :: L) st w cn sn = wp d 166 Q 203 (some (.ref v) :: L) (.ref v :: st) w cn sn := w_aload_n d_166_202 rfl
theorem d_166_203 : decode (mB 166) 203 = .ok (.aload_n 0, 1) := by decide +kernel
theorem s_166_203 {d : Nat} {Q : wQ} {L : List (Option Value)} {st : List Value} {w : aw} {cn sn : Nat} {v : Nat} : wp d 166 Q 203 (some (.ref v) :: L) st w cn sn = wp d 166 Q 204 (some (.ref v) :: L) (.ref v :: st) w cn sn := w_aload_n d_166_203 rfl
theorem d_166_204 : decode (mB 166) 204 = .ok (.getfield 254, 3) := by decide +kernel
theorem s_166_204 {d : Nat} {Q : wQ} {L : List (Option Value)} {st : List Value} {w : aw} {cn sn : Nat} {a : Nat} : wp d 166 Q 204 L (.ref a :: st) w cn sn = (kd w a = 9 ∧ wp d 166 Q 207 L (fd w 554 a :: st) w cn sn) := w_getfield d_166_204 (by decide +kernel : fT (mO 166) 254 = some (8, 42))
theorem d_166_207 : decode (mB 166) 207 = .ok (.iconst 1, 1) := by decide +kernel
theorem s_166_207 {d : Nat} {Q : wQ} {L : List (Option Value)} {st : List Value} {w : aw} {cn sn : Nat}  : wp d 166 Q 207 L st w cn sn = wp d 166 Q 208 L (.int 1 :: st) w cn sn := w_iconst d_166_207 (by decide)
theorem d_166_208 : decode (mB 166) 208 = .ok (.iadd, 1) := by decide +kernel
theorem s_166_208 {d : Nat} {Q : wQ} {L : List (Option Value)} {st : List Value} {w : aw} {cn sn : Nat} {a b : Int32} : wp d 166 Q 208 L (.int b :: .int a :: st) w cn sn = wp d 166 Q 209 L (.int (a + b) :: st) w cn sn := wp_row d_166_208 _ _ _ _ _
theorem d_166_209 : decode (mB 166) 209 = .ok (.sipush 4095, 3) := by decide +kernel
theorem s_166_209 {d : Nat} {Q : wQ} {L : List (Option Value)} {st : List Value} {w : aw} {cn sn : Nat}  : wp d 166 Q 209 L st w cn sn = wp d 166 Q 212 L (.int 4095 :: st) w cn sn := w_sipush d_166_209 (by decide)
theorem d_166_212 : decode (mB 166) 212 = .ok (.iand, 1) := by decide +kernel
theorem s_166_212 {d : Nat} {Q : wQ} {L : List (Option Value)} {st : List Value} {w : aw} {cn sn : Nat} {a b : Int32} : wp d 166 Q 212 L (.int b :: .int a :: st) w cn sn = wp d 166 Q 213 L (.int (a &&& b) :: st) w cn sn := wp_row d_166_212 _ _ _ _ _
theorem d_166_213 : decode (mB 166) 213 = .ok (.putfield 254, 3) := by decide +kernel
theorem s_166_213 {d : Nat} {Q : wQ} {L : List (Option Value)} {st : List Value} {w : aw} {cn sn : Nat} {x : Int32} {a : Nat} : wp d 166 Q 213 L (.int x :: .ref a :: st) w cn sn = (kd w a = 9 ∧ wp d 166 Q 216 L st (uF w 554 a (.int x)) cn sn) := w_putfield d_166_213 (by decide +kernel : fT (mO 166) 254 = some (8, 42)) (by decide +kernel) ok_int
theorem d_166_216 : decode (mB 166) 216 = .ok (.iload 6, 2) := by decide +kernel
theorem s_166_216 {d : Nat} {Q : wQ} {L : List (Option Value)} {st : List Value} {w : aw} {cn sn : Nat} {a0 a1 a2 a3 a4 a5 : Option Value} {v : Int32} : wp d 166 Q 216 (a0 :: a1 :: a2 :: a3 :: a4 :: a5 :: some (.int v) :: L) st w cn sn = wp d 166 Q 218 (a0 :: a1 :: a2 :: a3 :: a4 :: a5 :: some (.int v) :: L) (.int v :: st) w cn sn := w_iload d_166_216 rfl
theorem d_166_218 : decode (mB 166) 218 = .ok (.ireturn, 1) := by decide +kernel
theorem s_166_218 {d : Nat} {Q : wQ} {L : List (Option Value)} {w : aw} {cn sn : Nat} {v : Int32} : wp d 166 Q 218 L [.int v] w cn sn = Q (some (.int v)) w := w_ireturn d_166_218 rfl
theorem d_167_0 : decode (mB 167) 0 = .ok (.iconst 0, 1) := by decide +kernel
theorem s_167_0 {d : Nat} {Q : wQ} {L : List (Option Value)} {st : List Value} {w : aw} {cn sn : Nat}  : wp d 167 Q 0 L st w cn sn = wp d 167 Q 1 L (.int 0 :: st) w cn sn := w_iconst d_167_0 (by decide)
theorem d_167_1 : decode (mB 167) 1 = .ok (.istore_n 1, 1) := by decide +kernel
theorem s_167_1 {d : Nat} {Q : wQ} {L : List (Option Value)} {st : List Value} {w : aw} {cn sn : Nat} {a0 a1 : Option Value} {v : Int32} : wp d 167 Q 1 (a0 :: a1 :: L) (.int v :: st) w cn sn = wp d 167 Q 2 (clr a0 :: some (.int v) :: L) st w cn sn := w_istore_n d_167_1 (Nat.le_add_left 2 _) rfl
theorem d_167_2 : decode (mB 167) 2 = .ok (.iconst 1, 1) := by decide +kernel
theorem s_167_2 {d : Nat} {Q : wQ} {L : List (Option Value)} {st : List Value} {w : aw} {cn sn : Nat}  : wp d 167 Q 2 L st w cn sn = wp d 167 Q 3 L (.int 1 :: st) w cn sn := w_iconst d_167_2 (by decide)
theorem d_167_3 : decode (mB 167) 3 = .ok (.istore_n 2, 1) := by decide +kernel
theorem s_167_3 {d : Nat} {Q : wQ} {L : List (Option Value)} {st : List Value} {w : aw} {cn sn : Nat} {a0 a1 a2 : Option Value} {v : Int32} : wp d 167 Q 3 (a0 :: a1 :: a2 :: L) (.int v :: st) w cn sn = wp d 167 Q 4 (a0 :: clr a1 :: some (.int v) :: L) st w cn sn := w_istore_n d_167_3 (Nat.le_add_left 3 _) rfl
theorem d_167_4 : decode (mB 167) 4 = .ok (.aload_n 0, 1) := by decide +kernel
theorem s_167_4 {d : Nat} {Q : wQ} {L : List (Option Value)} {st : List Value} {w : aw} {cn sn : Nat} {v : Nat} : wp d 167 Q 4 (some (.ref v) :: L) st w cn sn = wp d 167 Q 5 (some (.ref v) :: L) (.ref v :: st) w cn sn := w_aload_n d_167_4 rfl
theorem d_167_5 : decode (mB 167) 5 = .ok (.getfield 231, 3) := by decide +kernel
theorem s_167_5 {d : Nat} {Q : wQ} {L : List (Option Value)} {st : List Value} {w : aw} {cn sn : Nat} {a : Nat} : wp d 167 Q 5 L (.ref a :: st) w cn sn = (kd w a = 9 ∧ wp d 167 Q 8 L (fd w 555 a :: st) w cn sn) := w_getfield d_167_5 (by decide +kernel : fT (mO 167) 231 = some (8, 43))
theorem d_167_8 : decode (mB 167) 8 = .ok (.aload_n 0, 1) := by decide +kernel
theorem s_167_8 {d : Nat} {Q : wQ} {L : List (Option Value)} {st : List Value} {w : aw} {cn sn : Nat} {v : Nat} : wp d 167 Q 8 (some (.ref v) :: L) st w cn sn = wp d 167 Q 9 (some (.ref v) :: L) (.ref v :: st) w cn sn := w_aload_n d_167_8 rfl
theorem d_167_9 : decode (mB 167) 9 = .ok (.getfield 228, 3) := by decide +kernel
theorem s_167_9 {d : Nat} {Q : wQ} {L : List (Option Value)} {st : List Value} {w : aw} {cn sn : Nat} {a : Nat} : wp d 167 Q 9 L (.ref a :: st) w cn sn = (kd w a = 9 ∧ wp d 167 Q 12 L (fd w 556 a :: st) w cn sn) := w_getfield d_167_9 (by decide +kernel : fT (mO 167) 228 = some (8, 44))
theorem d_167_12 : decode (mB 167) 12 = .ok (.if_icmp .ge 39, 3) := by decide +kernel
theorem s_167_12 {d : Nat} {Q : wQ} {L : List (Option Value)} {st : List Value} {w : aw} {cn sn : Nat} {a b : Int32} : wp d 167 Q 12 L (.int b :: .int a :: st) w cn sn = ((b ≤ a → wp d 167 Q 51 L st w cn sn) ∧ (¬ b ≤ a → wp d 167 Q 15 L st w cn sn)) := w_icge d_167_12 (by decide)
theorem d_167_15 : decode (mB 167) 15 = .ok (.aload_n 0, 1) := by decide +kernel
theorem s_167_15 {d : Nat} {Q : wQ} {L : List (Option Value)} {st : List Value} {w : aw} {cn sn : Nat} {v : Nat} : wp d 167 Q 15 (some (.ref v) :: L) st w cn sn = wp d 167 Q 16 (some (.ref v) :: L) (.ref v :: st) w cn sn := w_aload_n d_167_15 rfl
theorem d_167_16 : decode (mB 167) 16 = .ok (.invokevirtual 274, 3) := by decide +kernel
theorem s_167_16 {d : Nat} {Q : wQ} {L : List (Option Value)} {st : List Value} {w : aw} {cn sn : Nat} {b : Nat} : wp d 167 Q 16 L (.ref b :: st) w cn sn = (kd w b = 9 ∧ catS st ≤ 8 ∧ wpD d 156 [.ref b] w (fun v w' => wp d 167 Q 19 L (v.toList ++ st) w' cn sn)) := w_virtual (As := []) d_167_16 (by decide +kernel : cT (mO 167) 274 = some (0, 156)) rfl (by decide +kernel) rfl (by decide +kernel) rfl
theorem d_167_19 : decode (mB 167) 19 = .ok (.istore_n 3, 1) := by decide +kernel
theorem s_167_19 {d : Nat} {Q : wQ} {L : List (Option Value)} {st : List Value} {w : aw} {cn sn : Nat} {a0 a1 a2 a3 : Option Value} {v : Int32} : wp d 167 Q 19 (a0 :: a1 :: a2 :: a3 :: L) (.int v :: st) w cn sn = wp d 167 Q 20 (a0 :: a1 :: clr a2 :: some (.int v) :: L) st w cn sn := w_istore_n d_167_19 (Nat.le_add_left 4 _) rfl
theorem d_167_20 : decode (mB 167) 20 = .ok (.iload_n 2, 1) := by decide +kernel
theorem s_167_20 {d : Nat} {Q : wQ} {L : List (Option Value)} {st : List Value} {w : aw} {cn sn : Nat} {a0 a1 : Option Value} {v : Int32} : wp d 167 Q 20 (a0 :: a1 :: some (.int v) :: L) st w cn sn = wp d 167 Q 21 (a0 :: a1 :: some (.int v) :: L) (.int v :: st) w cn sn := w_iload_n d_167_20 rfl
theorem d_167_21 : decode (mB 167) 21 = .ok (.ifCond .eq 14, 3) := by decide +kernel
theorem s_167_21 {d : Nat} {Q : wQ} {L : List (Option Value)} {st : List Value} {w : aw} {cn sn : Nat} {x : Int32} : wp d 167 Q 21 L (.int x :: st) w cn sn = ((x = 0 → wp d 167 Q 35 L st w cn sn) ∧ (¬ x = 0 → wp d 167 Q 24 L st w cn sn)) := w_ifeq d_167_21 (by decide)
theorem d_167_24 : decode (mB 167) 24 = .ok (.aload_n 0, 1) := by decide +kernel
theorem s_167_24 {d : Nat} {Q : wQ} {L : List (Option Value)} {st : List Value} {w : aw} {cn sn : Nat} {v : Nat} : wp d 167 Q 24 (some (.ref v) :: L) st w cn sn = wp d 167 Q 25 (some (.ref v) :: L) (.ref v :: st) w cn sn := w_aload_n d_167_24 rfl
theorem d_167_25 : decode (mB 167) 25 = .ok (.getfield 257, 3) := by decide +kernel
theorem s_167_25 {d : Nat} {Q : wQ} {L : List (Option Value)} {st : List Value} {w : aw} {cn sn : Nat} {a : Nat} : wp d 167 Q 25 L (.ref a :: st) w cn sn = (kd w a = 9 ∧ wp d 167 Q 28 L (fd w 558 a :: st) w cn sn) := w_getfield d_167_25 (by decide +kernel : fT (mO 167) 257 = some (8, 46))
theorem d_167_28 : decode (mB 167) 28 = .ok (.ifCond .eq 7, 3) := by decide +kernel
theorem s_167_28 {d : Nat} {Q : wQ} {L : List (Option Value)} {st : List Value} {w : aw} {cn sn : Nat} {x : Int32} : wp d 167 Q 28 L (.int x :: st) w cn sn = ((x = 0 → wp d 167 Q 35 L st w cn sn) ∧ (¬ x = 0 → wp d 167 Q 31 L st w cn sn)) := w_ifeq d_167_28 (by decide)
theorem d_167_31 : decode (mB 167) 31 = .ok (.iconst 1, 1) := by decide +kernel
theorem s_167_31 {d : Nat} {Q : wQ} {L : List (Option Value)} {st : List Value} {w : aw} {cn sn : Nat}  : wp d 167 Q 31 L st w cn sn = wp d 167 Q 32 L (.int 1 :: st) w cn sn := w_iconst d_167_31 (by decide)
theorem d_167_32 : decode (mB 167) 32 = .ok (.goto 4, 3) := by decide +kernel
theorem s_167_32 {d : Nat} {Q : wQ} {L : List (Option Value)} {st : List Value} {w : aw} {cn sn : Nat}  : wp d 167 Q 32 L st w cn sn = wp d 167 Q 36 L st w cn sn := w_goto d_167_32 (by decide)
theorem d_167_35 : decode (mB 167) 35 = .ok (.iconst 0, 1) := by decide +kernel
theorem s_167_35 {d : Nat} {Q : wQ} {L : List (Option Value)} {st : List Value} {w : aw} {cn sn : Nat}  : wp d 167 Q 35 L st w cn sn = wp d 167 Q 36 L (.int 0 :: st) w cn sn := w_iconst d_167_35 (by decide)
theorem d_167_36 : decode (mB 167) 36 = .ok (.istore_n 2, 1) := by decide +kernel
theorem s_167_36 {d : Nat} {Q : wQ} {L : List (Option Value)} {st : List Value} {w : aw} {cn sn : Nat} {a0 a1 a2 : Option Value} {v : Int32} : wp d 167 Q 36 (a0 :: a1 :: a2 :: L) (.int v :: st) w cn sn = wp d 167 Q 37 (a0 :: clr a1 :: some (.int v) :: L) st w cn sn := w_istore_n d_167_36 (Nat.le_add_left 3 _) rfl
theorem d_167_37 : decode (mB 167) 37 = .ok (.iload_n 1, 1) := by decide +kernel
theorem s_167_37 {d : Nat} {Q : wQ} {L : List (Option Value)} {st : List Value} {w : aw} {cn sn : Nat} {a0 : Option Value} {v : Int32} : wp d 167 Q 37 (a0 :: some (.int v) :: L) st w cn sn = wp d 167 Q 38 (a0 :: some (.int v) :: L) (.int v :: st) w cn sn := w_iload_n d_167_37 rfl
theorem d_167_38 : decode (mB 167) 38 = .ok (.aload_n 0, 1) := by decide +kernel
theorem s_167_38 {d : Nat} {Q : wQ} {L : List (Option Value)} {st : List Value} {w : aw} {cn sn : Nat} {v : Nat} : wp d 167 Q 38 (some (.ref v) :: L) st w cn sn = wp d 167 Q 39 (some (.ref v) :: L) (.ref v :: st) w cn sn := w_aload_n d_167_38 rfl
theorem d_167_39 : decode (mB 167) 39 = .ok (.getfield 261, 3) := by decide +kernel
theorem s_167_39 {d : Nat} {Q : wQ} {L : List (Option Value)} {st : List Value} {w : aw} {cn sn : Nat} {a : Nat} : wp d 167 Q 39 L (.ref a :: st) w cn sn = (kd w a = 9 ∧ wp d 167 Q 42 L (fd w 557 a :: st) w cn sn) := w_getfield d_167_39 (by decide +kernel : fT (mO 167) 261 = some (8, 45))
theorem d_167_42 : decode (mB 167) 42 = .ok (.ior, 1) := by decide +kernel
theorem s_167_42 {d : Nat} {Q : wQ} {L : List (Option Value)} {st : List Value} {w : aw} {cn sn : Nat} {a b : Int32} : wp d 167 Q 42 L (.int b :: .int a :: st) w cn sn = wp d 167 Q 43 L (.int (a ||| b) :: st) w cn sn := wp_row d_167_42 _ _ _ _ _
theorem d_167_43 : decode (mB 167) 43 = .ok (.istore_n 1, 1) := by decide +kernel
theorem s_167_43 {d : Nat} {Q : wQ} {L : List (Option Value)} {st : List Value} {w : aw} {cn sn : Nat} {a0 a1 : Option Value} {v : Int32} : wp d 167 Q 43 (a0 :: a1 :: L) (.int v :: st) w cn sn = wp d 167 Q 44 (clr a0 :: some (.int v) :: L) st w cn sn := w_istore_n d_167_43 (Nat.le_add_left 2 _) rfl
theorem d_167_44 : decode (mB 167) 44 = .ok (.aload_n 0, 1) := by decide +kernel
theorem s_167_44 {d : Nat} {Q : wQ} {L : List (Option Value)} {st : List Value} {w : aw} {cn sn : Nat} {v : Nat} : wp d 167 Q 44 (some (.ref v) :: L) st w cn sn = wp d 167 Q 45 (some (.ref v) :: L) (.ref v :: st) w cn sn := w_aload_n d_167_44 rfl
theorem d_167_45 : decode (mB 167) 45 = .ok (.invokevirtual 267, 3) := by decide +kernel
theorem s_167_45 {d : Nat} {Q : wQ} {L : List (Option Value)} {st : List Value} {w : aw} {cn sn : Nat} {b : Nat} : wp d 167 Q 45 L (.ref b :: st) w cn sn = (kd w b = 9 ∧ catS st ≤ 8 ∧ wpD d 146 [.ref b] w (fun v w' => wp d 167 Q 48 L (v.toList ++ st) w' cn sn)) := w_virtual (As := []) d_167_45 (by decide +kernel : cT (mO 167) 267 = some (0, 146)) rfl (by decide +kernel) rfl (by decide +kernel) rfl
theorem d_167_48 : decode (mB 167) 48 = .ok (.goto (-44), 3) := by decide +kernel
theorem s_167_48 {d : Nat} {Q : wQ} {L : List (Option Value)} {st : List Value} {w : aw} {cn sn : Nat}  : wp d 167 Q 48 L st w cn sn = wp d 167 Q 4 L st w cn sn := w_goto d_167_48 (by decide)
theorem d_167_51 : decode (mB 167) 51 = .ok (.iload_n 2, 1) := by decide +kernel
theorem s_167_51 {d : Nat} {Q : wQ} {L : List (Option Value)} {st : List Value} {w : aw} {cn sn : Nat} {a0 a1 : Option Value} {v : Int32} : wp d 167 Q 51 (a0 :: a1 :: some (.int v) :: L) st w cn sn = wp d 167 Q 52 (a0 :: a1 :: some (.int v) :: L) (.int v :: st) w cn sn := w_iload_n d_167_51 rfl
theorem d_167_52 : decode (mB 167) 52 = .ok (.ifCond .ne 5, 3) := by decide +kernel
theorem s_167_52 {d : Nat} {Q : wQ} {L : List (Option Value)} {st : List Value} {w : aw} {cn sn : Nat} {x : Int32} : wp d 167 Q 52 L (.int x :: st) w cn sn = ((¬ x = 0 → wp d 167 Q 57 L st w cn sn) ∧ (x = 0 → wp d 167 Q 55 L st w cn sn)) := w_ifne d_167_52 (by decide)
theorem d_167_55 : decode (mB 167) 55 = .ok (.iconst 2, 1) := by decide +kernel
theorem s_167_55 {d : Nat} {Q : wQ} {L : List (Option Value)} {st : List Value} {w : aw} {cn sn : Nat}  : wp d 167 Q 55 L st w cn sn = wp d 167 Q 56 L (.int 2 :: st) w cn sn := w_iconst d_167_55 (by decide)
theorem d_167_56 : decode (mB 167) 56 = .ok (.ireturn, 1) := by decide +kernel
theorem s_167_56 {d : Nat} {Q : wQ} {L : List (Option Value)} {w : aw} {cn sn : Nat} {v : Int32} : wp d 167 Q 56 L [.int v] w cn sn = Q (some (.int v)) w := w_ireturn d_167_56 rfl
theorem d_167_57 : decode (mB 167) 57 = .ok (.aload_n 0, 1) := by decide +kernel
theorem s_167_57 {d : Nat} {Q : wQ} {L : List (Option Value)} {st : List Value} {w : aw} {cn sn : Nat} {v : Nat} : wp d 167 Q 57 (some (.ref v) :: L) st w cn sn = wp d 167 Q 58 (some (.ref v) :: L) (.ref v :: st) w cn sn := w_aload_n d_167_57 rfl
theorem d_167_58 : decode (mB 167) 58 = .ok (.aload_n 0, 1) := by decide +kernel
theorem s_167_58 {d : Nat} {Q : wQ} {L : List (Option Value)} {st : List Value} {w : aw} {cn sn : Nat} {v : Nat} : wp d 167 Q 58 (some (.ref v) :: L) st w cn sn = wp d 167 Q 59 (some (.ref v) :: L) (.ref v :: st) w cn sn := w_aload_n d_167_58 rfl
theorem d_167_59 : decode (mB 167) 59 = .ok (.getfield 254, 3) := by decide +kernel
theorem s_167_59 {d : Nat} {Q : wQ} {L : List (Option Value)} {st : List Value} {w : aw} {cn sn : Nat} {a : Nat} : wp d 167 Q 59 L (.ref a :: st) w cn sn = (kd w a = 9 ∧ wp d 167 Q 62 L (fd w 554 a :: st) w cn sn) := w_getfield d_167_59 (by decide +kernel : fT (mO 167) 254 = some (8, 42))
theorem d_167_62 : decode (mB 167) 62 = .ok (.iload_n 1, 1) := by decide +kernel
theorem s_167_62 {d : Nat} {Q : wQ} {L : List (Option Value)} {st : List Value} {w : aw} {cn sn : Nat} {a0 : Option Value} {v : Int32} : wp d 167 Q 62 (a0 :: some (.int v) :: L) st w cn sn = wp d 167 Q 63 (a0 :: some (.int v) :: L) (.int v :: st) w cn sn := w_iload_n d_167_62 rfl
theorem d_167_63 : decode (mB 167) 63 = .ok (.iconst 0, 1) := by decide +kernel
theorem s_167_63 {d : Nat} {Q : wQ} {L : List (Option Value)} {st : List Value} {w : aw} {cn sn : Nat}  : wp d 167 Q 63 L st w cn sn = wp d 167 Q 64 L (.int 0 :: st) w cn sn := w_iconst d_167_63 (by decide)
theorem d_167_64 : decode (mB 167) 64 = .ok (.invokevirtual 302, 3) := by decide +kernel
theorem s_167_64 {d : Nat} {Q : wQ} {L : List (Option Value)} {st : List Value} {w : aw} {cn sn : Nat} {v0 v1 v2 : Value} {b : Nat} : wp d 167 Q 64 L (v2 :: v1 :: v0 :: .ref b :: st) w cn sn = (kd w b = 9 ∧ catS st ≤ 8 ∧ wpD d 163 [.ref b, v0, v1, v2] w (fun v w' => wp d 167 Q 67 L (v.toList ++ st) w' cn sn)) := w_virtual (As := [v0, v1, v2]) d_167_64 (by decide +kernel : cT (mO 167) 302 = some (0, 163)) rfl (by decide +kernel) rfl (by decide +kernel) rfl
theorem d_167_67 : decode (mB 167) 67 = .ok (.istore_n 3, 1) := by decide +kernel
theorem s_167_67 {d : Nat} {Q : wQ} {L : List (Option Value)} {st : List Value} {w : aw} {cn sn : Nat} {a0 a1 a2 a3 : Option Value} {v : Int32} : wp d 167 Q 67 (a0 :: a1 :: a2 :: a3 :: L) (.int v :: st) w cn sn = wp d 167 Q 68 (a0 :: a1 :: clr a2 :: some (.int v) :: L) st w cn sn := w_istore_n d_167_67 (Nat.le_add_left 4 _) rfl
theorem d_167_68 : decode (mB 167) 68 = .ok (.aload_n 0, 1) := by decide +kernel
theorem s_167_68 {d : Nat} {Q : wQ} {L : List (Option Value)} {st : List Value} {w : aw} {cn sn : Nat} {v : Nat} : wp d 167 Q 68 (some (.ref v) :: L) st w cn sn = wp d 167 Q 69 (some (.ref v) :: L) (.ref v :: st) w cn sn := w_aload_n d_167_68 rfl
theorem d_167_69 : decode (mB 167) 69 = .ok (.aload_n 0, 1) := by decide +kernel
theorem s_167_69 {d : Nat} {Q : wQ} {L : List (Option Value)} {st : List Value} {w : aw} {cn sn : Nat} {v : Nat} : wp d 167 Q 69 (some (.ref v) :: L) st w cn sn = wp d 167 Q 70 (some (.ref v) :: L) (.ref v :: st) w cn sn := w_aload_n d_167_69 rfl
theorem d_167_70 : decode (mB 167) 70 = .ok (.getfield 254, 3) := by decide +kernel
theorem s_167_70 {d : Nat} {Q : wQ} {L : List (Option Value)} {st : List Value} {w : aw} {cn sn : Nat} {a : Nat} : wp d 167 Q 70 L (.ref a :: st) w cn sn = (kd w a = 9 ∧ wp d 167 Q 73 L (fd w 554 a :: st) w cn sn) := w_getfield d_167_70 (by decide +kernel : fT (mO 167) 254 = some (8, 42))
theorem d_167_73 : decode (mB 167) 73 = .ok (.iconst 1, 1) := by decide +kernel
theorem s_167_73 {d : Nat} {Q : wQ} {L : List (Option Value)} {st : List Value} {w : aw} {cn sn : Nat}  : wp d 167 Q 73 L st w cn sn = wp d 167 Q 74 L (.int 1 :: st) w cn sn := w_iconst d_167_73 (by decide)
theorem d_167_74 : decode (mB 167) 74 = .ok (.iadd, 1) := by decide +kernel
theorem s_167_74 {d : Nat} {Q : wQ} {L : List (Option Value)} {st : List Value} {w : aw} {cn sn : Nat} {a b : Int32} : wp d 167 Q 74 L (.int b :: .int a :: st) w cn sn = wp d 167 Q 75 L (.int (a + b) :: st) w cn sn := wp_row d_167_74 _ _ _ _ _
theorem d_167_75 : decode (mB 167) 75 = .ok (.sipush 4095, 3) := by decide +kernel
theorem s_167_75 {d : Nat} {Q : wQ} {L : List (Option Value)} {st : List Value} {w : aw} {cn sn : Nat}  : wp d 167 Q 75 L st w cn sn = wp d 167 Q 78 L (.int 4095 :: st) w cn sn := w_sipush d_167_75 (by decide)
theorem d_167_78 : decode (mB 167) 78 = .ok (.iand, 1) := by decide +kernel
theorem s_167_78 {d : Nat} {Q : wQ} {L : List (Option Value)} {st : List Value} {w : aw} {cn sn : Nat} {a b : Int32} : wp d 167 Q 78 L (.int b :: .int a :: st) w cn sn = wp d 167 Q 79 L (.int (a &&& b) :: st) w cn sn := wp_row d_167_78 _ _ _ _ _
theorem d_167_79 : decode (mB 167) 79 = .ok (.putfield 254, 3) := by decide +kernel
theorem s_167_79 {d : Nat} {Q : wQ} {L : List (Option Value)} {st : List Value} {w : aw} {cn sn : Nat} {x : Int32} {a : Nat} : wp d 167 Q 79 L (.int x :: .ref a :: st) w cn sn = (kd w a = 9 ∧ wp d 167 Q 82 L st (uF w 554 a (.int x)) cn sn) := w_putfield d_167_79 (by decide +kernel : fT (mO 167) 254 = some (8, 42)) (by decide +kernel) ok_int
theorem d_167_82 : decode (mB 167) 82 = .ok (.iload_n 3, 1) := by decide +kernel
theorem s_167_82 {d : Nat} {Q : wQ} {L : List (Option Value)} {st : List Value} {w : aw} {cn sn : Nat} {a0 a1 a2 : Option Value} {v : Int32} : wp d 167 Q 82 (a0 :: a1 :: a2 :: some (.int v) :: L) st w cn sn = wp d 167 Q 83 (a0 :: a1 :: a2 :: some (.int v) :: L) (.int v :: st) w cn sn := w_iload_n d_167_82 rfl
theorem d_167_83 : decode (mB 167) 83 = .ok (.ireturn, 1) := by decide +kernel
theorem s_167_83 {d : Nat} {Q : wQ} {L : List (Option Value)} {w : aw} {cn sn : Nat} {v : Int32} : wp d 167 Q 83 L [.int v] w cn sn = Q (some (.int v)) w := w_ireturn d_167_83 rfl
theorem d_168_0 : decode (mB 168) 0 = .ok (.aload_n 0, 1) := by decide +kernel
theorem s_168_0 {d : Nat} {Q : wQ} {L : List (Option Value)} {st : List Value} {w : aw} {cn sn : Nat} {v : Nat} : wp d 168 Q 0 (some (.ref v) :: L) st w cn sn = wp d 168 Q 1 (some (.ref v) :: L) (.ref v :: st) w cn sn := w_aload_n d_168_0 rfl
theorem d_168_1 : decode (mB 168) 1 = .ok (.iload_n 1, 1) := by decide +kernel
theorem s_168_1 {d : Nat} {Q : wQ} {L : List (Option Value)} {st : List Value} {w : aw} {cn sn : Nat} {a0 : Option Value} {v : Int32} : wp d 168 Q 1 (a0 :: some (.int v) :: L) st w cn sn = wp d 168 Q 2 (a0 :: some (.int v) :: L) (.int v :: st) w cn sn := w_iload_n d_168_1 rfl
theorem d_168_2 : decode (mB 168) 2 = .ok (.putfield 231, 3) := by decide +kernel
theorem s_168_2 {d : Nat} {Q : wQ} {L : List (Option Value)} {st : List Value} {w : aw} {cn sn : Nat} {x : Int32} {a : Nat} : wp d 168 Q 2 L (.int x :: .ref a :: st) w cn sn = (kd w a = 9 ∧ wp d 168 Q 5 L st (uF w 555 a (.int x)) cn sn) := w_putfield d_168_2 (by decide +kernel : fT (mO 168) 231 = some (8, 43)) (by decide +kernel) ok_int
theorem d_168_5 : decode (mB 168) 5 = .ok (.aload_n 0, 1) := by decide +kernel
theorem s_168_5 {d : Nat} {Q : wQ} {L : List (Option Value)} {st : List Value} {w : aw} {cn sn : Nat} {v : Nat} : wp d 168 Q 5 (some (.ref v) :: L) st w cn sn = wp d 168 Q 6 (some (.ref v) :: L) (.ref v :: st) w cn sn := w_aload_n d_168_5 rfl
theorem d_168_6 : decode (mB 168) 6 = .ok (.iload_n 2, 1) := by decide +kernel
theorem s_168_6 {d : Nat} {Q : wQ} {L : List (Option Value)} {st : List Value} {w : aw} {cn sn : Nat} {a0 a1 : Option Value} {v : Int32} : wp d 168 Q 6 (a0 :: a1 :: some (.int v) :: L) st w cn sn = wp d 168 Q 7 (a0 :: a1 :: some (.int v) :: L) (.int v :: st) w cn sn := w_iload_n d_168_6 rfl
theorem d_168_7 : decode (mB 168) 7 = .ok (.putfield 228, 3) := by decide +kernel
theorem s_168_7 {d : Nat} {Q : wQ} {L : List (Option Value)} {st : List Value} {w : aw} {cn sn : Nat} {x : Int32} {a : Nat} : wp d 168 Q 7 L (.int x :: .ref a :: st) w cn sn = (kd w a = 9 ∧ wp d 168 Q 10 L st (uF w 556 a (.int x)) cn sn) := w_putfield d_168_7 (by decide +kernel : fT (mO 168) 228 = some (8, 44)) (by decide +kernel) ok_int
theorem d_168_10 : decode (mB 168) 10 = .ok (.iload_n 3, 1) := by decide +kernel
theorem s_168_10 {d : Nat} {Q : wQ} {L : List (Option Value)} {st : List Value} {w : aw} {cn sn : Nat} {a0 a1 a2 : Option Value} {v : Int32} : wp d 168 Q 10 (a0 :: a1 :: a2 :: some (.int v) :: L) st w cn sn = wp d 168 Q 11 (a0 :: a1 :: a2 :: some (.int v) :: L) (.int v :: st) w cn sn := w_iload_n d_168_10 rfl
theorem d_168_11 : decode (mB 168) 11 = .ok (.iconst 2, 1) := by decide +kernel
theorem s_168_11 {d : Nat} {Q : wQ} {L : List (Option Value)} {st : List Value} {w : aw} {cn sn : Nat}  : wp d 168 Q 11 L st w cn sn = wp d 168 Q 12 L (.int 2 :: st) w cn sn := w_iconst d_168_11 (by decide)
theorem d_168_12 : decode (mB 168) 12 = .ok (.if_icmp .ne 8, 3) := by decide +kernel
theorem s_168_12 {d : Nat} {Q : wQ} {L : List (Option Value)} {st : List Value} {w : aw} {cn sn : Nat} {a b : Int32} : wp d 168 Q 12 L (.int b :: .int a :: st) w cn sn = ((¬ a = b → wp d 168 Q 20 L st w cn sn) ∧ (a = b → wp d 168 Q 15 L st w cn sn)) := w_icne d_168_12 (by decide)
theorem d_168_15 : decode (mB 168) 15 = .ok (.aload_n 0, 1) := by decide +kernel
theorem s_168_15 {d : Nat} {Q : wQ} {L : List (Option Value)} {st : List Value} {w : aw} {cn sn : Nat} {v : Nat} : wp d 168 Q 15 (some (.ref v) :: L) st w cn sn = wp d 168 Q 16 (some (.ref v) :: L) (.ref v :: st) w cn sn := w_aload_n d_168_15 rfl
theorem d_168_16 : decode (mB 168) 16 = .ok (.invokevirtual 316, 3) := by decide +kernel
theorem s_168_16 {d : Nat} {Q : wQ} {L : List (Option Value)} {st : List Value} {w : aw} {cn sn : Nat} {b : Nat} : wp d 168 Q 16 L (.ref b :: st) w cn sn = (kd w b = 9 ∧ catS st ≤ 8 ∧ wpD d 165 [.ref b] w (fun v w' => wp d 168 Q 19 L (v.toList ++ st) w' cn sn)) := w_virtual (As := []) d_168_16 (by decide +kernel : cT (mO 168) 316 = some (0, 165)) rfl (by decide +kernel) rfl (by decide +kernel) rfl
theorem d_168_19 : decode (mB 168) 19 = .ok (.ireturn, 1) := by decide +kernel
theorem s_168_19 {d : Nat} {Q : wQ} {L : List (Option Value)} {w : aw} {cn sn : Nat} {v : Int32} : wp d 168 Q 19 L [.int v] w cn sn = Q (some (.int v)) w := w_ireturn d_168_19 rfl
theorem d_168_20 : decode (mB 168) 20 = .ok (.aload_n 0, 1) := by decide +kernel
theorem s_168_20 {d : Nat} {Q : wQ} {L : List (Option Value)} {st : List Value} {w : aw} {cn sn : Nat} {v : Nat} : wp d 168 Q 20 (some (.ref v) :: L) st w cn sn = wp d 168 Q 21 (some (.ref v) :: L) (.ref v :: st) w cn sn := w_aload_n d_168_20 rfl
theorem d_168_21 : decode (mB 168) 21 = .ok (.invokevirtual 319, 3) := by decide +kernel
theorem s_168_21 {d : Nat} {Q : wQ} {L : List (Option Value)} {st : List Value} {w : aw} {cn sn : Nat} {b : Nat} : wp d 168 Q 21 L (.ref b :: st) w cn sn = (kd w b = 9 ∧ catS st ≤ 8 ∧ wpD d 158 [.ref b] w (fun v w' => wp d 168 Q 24 L (v.toList ++ st) w' cn sn)) := w_virtual (As := []) d_168_21 (by decide +kernel : cT (mO 168) 319 = some (0, 158)) rfl (by decide +kernel) rfl (by decide +kernel) rfl
theorem d_168_24 : decode (mB 168) 24 = .ok (.ifCond .ne 5, 3) := by decide +kernel
theorem s_168_24 {d : Nat} {Q : wQ} {L : List (Option Value)} {st : List Value} {w : aw} {cn sn : Nat} {x : Int32} : wp d 168 Q 24 L (.int x :: st) w cn sn = ((¬ x = 0 → wp d 168 Q 29 L st w cn sn) ∧ (x = 0 → wp d 168 Q 27 L st w cn sn)) := w_ifne d_168_24 (by decide)
theorem d_168_27 : decode (mB 168) 27 = .ok (.iconst 1, 1) := by decide +kernel
theorem s_168_27 {d : Nat} {Q : wQ} {L : List (Option Value)} {st : List Value} {w : aw} {cn sn : Nat}  : wp d 168 Q 27 L st w cn sn = wp d 168 Q 28 L (.int 1 :: st) w cn sn := w_iconst d_168_27 (by decide)
theorem d_168_28 : decode (mB 168) 28 = .ok (.ireturn, 1) := by decide +kernel
theorem s_168_28 {d : Nat} {Q : wQ} {L : List (Option Value)} {w : aw} {cn sn : Nat} {v : Int32} : wp d 168 Q 28 L [.int v] w cn sn = Q (some (.int v)) w := w_ireturn d_168_28 rfl
theorem d_168_29 : decode (mB 168) 29 = .ok (.aload_n 0, 1) := by decide +kernel
theorem s_168_29 {d : Nat} {Q : wQ} {L : List (Option Value)} {st : List Value} {w : aw} {cn sn : Nat} {v : Nat} : wp d 168 Q 29 (some (.ref v) :: L) st w cn sn = wp d 168 Q 30 (some (.ref v) :: L) (.ref v :: st) w cn sn := w_aload_n d_168_29 rfl
theorem d_168_30 : decode (mB 168) 30 = .ok (.iload_n 1, 1) := by decide +kernel
theorem s_168_30 {d : Nat} {Q : wQ} {L : List (Option Value)} {st : List Value} {w : aw} {cn sn : Nat} {a0 : Option Value} {v : Int32} : wp d 168 Q 30 (a0 :: some (.int v) :: L) st w cn sn = wp d 168 Q 31 (a0 :: some (.int v) :: L) (.int v :: st) w cn sn := w_iload_n d_168_30 rfl
theorem d_168_31 : decode (mB 168) 31 = .ok (.putfield 231, 3) := by decide +kernel
theorem s_168_31 {d : Nat} {Q : wQ} {L : List (Option Value)} {st : List Value} {w : aw} {cn sn : Nat} {x : Int32} {a : Nat} : wp d 168 Q 31 L (.int x :: .ref a :: st) w cn sn = (kd w a = 9 ∧ wp d 168 Q 34 L st (uF w 555 a (.int x)) cn sn) := w_putfield d_168_31 (by decide +kernel : fT (mO 168) 231 = some (8, 43)) (by decide +kernel) ok_int
theorem d_168_34 : decode (mB 168) 34 = .ok (.aload_n 0, 1) := by decide +kernel
theorem s_168_34 {d : Nat} {Q : wQ} {L : List (Option Value)} {st : List Value} {w : aw} {cn sn : Nat} {v : Nat} : wp d 168 Q 34 (some (.ref v) :: L) st w cn sn = wp d 168 Q 35 (some (.ref v) :: L) (.ref v :: st) w cn sn := w_aload_n d_168_34 rfl
theorem d_168_35 : decode (mB 168) 35 = .ok (.invokevirtual 322, 3) := by decide +kernel
theorem s_168_35 {d : Nat} {Q : wQ} {L : List (Option Value)} {st : List Value} {w : aw} {cn sn : Nat} {b : Nat} : wp d 168 Q 35 L (.ref b :: st) w cn sn = (kd w b = 9 ∧ catS st ≤ 8 ∧ wpD d 162 [.ref b] w (fun v w' => wp d 168 Q 38 L (v.toList ++ st) w' cn sn)) := w_virtual (As := []) d_168_35 (by decide +kernel : cT (mO 168) 322 = some (0, 162)) rfl (by decide +kernel) rfl (by decide +kernel) rfl
theorem d_168_38 : decode (mB 168) 38 = .ok (.ireturn, 1) := by decide +kernel
theorem s_168_38 {d : Nat} {Q : wQ} {L : List (Option Value)} {w : aw} {cn sn : Nat} {v : Int32} : wp d 168 Q 38 L [.int v] w cn sn = Q (some (.int v)) w := w_ireturn d_168_38 rfl
theorem d_169_0 : decode (mB 169) 0 = .ok (.iload_n 1, 1) := by decide +kernel
theorem s_169_0 {d : Nat} {Q : wQ} {L : List (Option Value)} {st : List Value} {w : aw} {cn sn : Nat} {a0 : Option Value} {v : Int32} : wp d 169 Q 0 (a0 :: some (.int v) :: L) st w cn sn = wp d 169 Q 1 (a0 :: some (.int v) :: L) (.int v :: st) w cn sn := w_iload_n d_169_0 rfl
theorem d_169_1 : decode (mB 169) 1 = .ok (.istore 4, 2) := by decide +kernel
theorem s_169_1 {d : Nat} {Q : wQ} {L : List (Option Value)} {st : List Value} {w : aw} {cn sn : Nat} {a0 a1 a2 a3 a4 : Option Value} {v : Int32} : wp d 169 Q 1 (a0 :: a1 :: a2 :: a3 :: a4 :: L) (.int v :: st) w cn sn = wp d 169 Q 3 (a0 :: a1 :: a2 :: clr a3 :: some (.int v) :: L) st w cn sn := w_istore d_169_1 (Nat.le_add_left 5 _) rfl
theorem d_169_3 : decode (mB 169) 3 = .ok (.iload 4, 2) := by decide +kernel
theorem s_169_3 {d : Nat} {Q : wQ} {L : List (Option Value)} {st : List Value} {w : aw} {cn sn : Nat} {a0 a1 a2 a3 : Option Value} {v : Int32} : wp d 169 Q 3 (a0 :: a1 :: a2 :: a3 :: some (.int v) :: L) st w cn sn = wp d 169 Q 5 (a0 :: a1 :: a2 :: a3 :: some (.int v) :: L) (.int v :: st) w cn sn := w_iload d_169_3 rfl
theorem d_169_5 : decode (mB 169) 5 = .ok (.iload_n 2, 1) := by decide +kernel
theorem s_169_5 {d : Nat} {Q : wQ} {L : List (Option Value)} {st : List Value} {w : aw} {cn sn : Nat} {a0 a1 : Option Value} {v : Int32} : wp d 169 Q 5 (a0 :: a1 :: some (.int v) :: L) st w cn sn = wp d 169 Q 6 (a0 :: a1 :: some (.int v) :: L) (.int v :: st) w cn sn := w_iload_n d_169_5 rfl
theorem d_169_6 : decode (mB 169) 6 = .ok (.if_icmp .ge 21, 3) := by decide +kernel
theorem s_169_6 {d : Nat} {Q : wQ} {L : List (Option Value)} {st : List Value} {w : aw} {cn sn : Nat} {a b : Int32} : wp d 169 Q 6 L (.int b :: .int a :: st) w cn sn = ((b ≤ a → wp d 169 Q 27 L st w cn sn) ∧ (¬ b ≤ a → wp d 169 Q 9 L st w cn sn)) := w_icge d_169_6 (by decide)
theorem d_169_9 : decode (mB 169) 9 = .ok (.aload_n 0, 1) := by decide +kernel
theorem s_169_9 {d : Nat} {Q : wQ} {L : List (Option Value)} {st : List Value} {w : aw} {cn sn : Nat} {v : Nat} : wp d 169 Q 9 (some (.ref v) :: L) st w cn sn = wp d 169 Q 10 (some (.ref v) :: L) (.ref v :: st) w cn sn := w_aload_n d_169_9 rfl
theorem d_169_10 : decode (mB 169) 10 = .ok (.getfield 72, 3) := by decide +kernel
theorem s_169_10 {d : Nat} {Q : wQ} {L : List (Option Value)} {st : List Value} {w : aw} {cn sn : Nat} {a : Nat} : wp d 169 Q 10 L (.ref a :: st) w cn sn = (kd w a = 9 ∧ wp d 169 Q 13 L (fd w 542 a :: st) w cn sn) := w_getfield d_169_10 (by decide +kernel : fT (mO 169) 72 = some (8, 30))
theorem d_169_13 : decode (mB 169) 13 = .ok (.iload 4, 2) := by decide +kernel
theorem s_169_13 {d : Nat} {Q : wQ} {L : List (Option Value)} {st : List Value} {w : aw} {cn sn : Nat} {a0 a1 a2 a3 : Option Value} {v : Int32} : wp d 169 Q 13 (a0 :: a1 :: a2 :: a3 :: some (.int v) :: L) st w cn sn = wp d 169 Q 15 (a0 :: a1 :: a2 :: a3 :: some (.int v) :: L) (.int v :: st) w cn sn := w_iload d_169_13 rfl
theorem d_169_15 : decode (mB 169) 15 = .ok (.iaload, 1) := by decide +kernel
theorem s_169_15 {d : Nat} {Q : wQ} {L : List (Option Value)} {st : List Value} {w : aw} {cn sn : Nat} {a : Nat} {i : Int32} : wp d 169 Q 15 L (.int i :: .ref a :: st) w cn sn = ((kd w a = 20 ∨ kd w a = 30) ∧ inR i (ln w a) ∧ wp d 169 Q 16 L (.int (ai w a i.toNatClampNeg) :: st) w cn sn) := wp_row d_169_15 _ _ _ _ _
theorem d_169_16 : decode (mB 169) 16 = .ok (.bipush 47, 2) := by decide +kernel
theorem s_169_16 {d : Nat} {Q : wQ} {L : List (Option Value)} {st : List Value} {w : aw} {cn sn : Nat}  : wp d 169 Q 16 L st w cn sn = wp d 169 Q 18 L (.int 47 :: st) w cn sn := w_bipush d_169_16 (by decide)
theorem d_169_18 : decode (mB 169) 18 = .ok (.if_icmp .eq 9, 3) := by decide +kernel
theorem s_169_18 {d : Nat} {Q : wQ} {L : List (Option Value)} {st : List Value} {w : aw} {cn sn : Nat} {a b : Int32} : wp d 169 Q 18 L (.int b :: .int a :: st) w cn sn = ((a = b → wp d 169 Q 27 L st w cn sn) ∧ (¬ a = b → wp d 169 Q 21 L st w cn sn)) := w_iceq d_169_18 (by decide)
theorem d_169_21 : decode (mB 169) 21 = .ok (.iinc 4 1, 3) := by decide +kernel
theorem s_169_21 {d : Nat} {Q : wQ} {L : List (Option Value)} {st : List Value} {w : aw} {cn sn : Nat} {a0 a1 a2 a3 : Option Value} {v : Int32} : wp d 169 Q 21 (a0 :: a1 :: a2 :: a3 :: some (.int v) :: L) st w cn sn = wp d 169 Q 24 (a0 :: a1 :: a2 :: clr a3 :: some (.int (v + 1)) :: L) st w cn sn := w_iinc d_169_21 rfl (by decide) rfl
theorem d_169_24 : decode (mB 169) 24 = .ok (.goto (-21), 3) := by decide +kernel
theorem s_169_24 {d : Nat} {Q : wQ} {L : List (Option Value)} {st : List Value} {w : aw} {cn sn : Nat}  : wp d 169 Q 24 L st w cn sn = wp d 169 Q 3 L st w cn sn := w_goto d_169_24 (by decide)
theorem d_169_27 : decode (mB 169) 27 = .ok (.iload_n 1, 1) := by decide +kernel
theorem s_169_27 {d : Nat} {Q : wQ} {L : List (Option Value)} {st : List Value} {w : aw} {cn sn : Nat} {a0 : Option Value} {v : Int32} : wp d 169 Q 27 (a0 :: some (.int v) :: L) st w cn sn = wp d 169 Q 28 (a0 :: some (.int v) :: L) (.int v :: st) w cn sn := w_iload_n d_169_27 rfl
theorem d_169_28 : decode (mB 169) 28 = .ok (.istore 5, 2) := by decide +kernel
theorem s_169_28 {d : Nat} {Q : wQ} {L : List (Option Value)} {st : List Value} {w : aw} {cn sn : Nat} {a0 a1 a2 a3 a4 a5 : Option Value} {v : Int32} : wp d 169 Q 28 (a0 :: a1 :: a2 :: a3 :: a4 :: a5 :: L) (.int v :: st) w cn sn = wp d 169 Q 30 (a0 :: a1 :: a2 :: a3 :: clr a4 :: some (.int v) :: L) st w cn sn := w_istore d_169_28 (Nat.le_add_left 6 _) rfl
theorem d_169_30 : decode (mB 169) 30 = .ok (.iconst 0, 1) := by decide +kernel
theorem s_169_30 {d : Nat} {Q : wQ} {L : List (Option Value)} {st : List Value} {w : aw} {cn sn : Nat}  : wp d 169 Q 30 L st w cn sn = wp d 169 Q 31 L (.int 0 :: st) w cn sn := w_iconst d_169_30 (by decide)
theorem d_169_31 : decode (mB 169) 31 = .ok (.istore 6, 2) := by decide +kernel
theorem s_169_31 {d : Nat} {Q : wQ} {L : List (Option Value)} {st : List Value} {w : aw} {cn sn : Nat} {a0 a1 a2 a3 a4 a5 a6 : Option Value} {v : Int32} : wp d 169 Q 31 (a0 :: a1 :: a2 :: a3 :: a4 :: a5 :: a6 :: L) (.int v :: st) w cn sn = wp d 169 Q 33 (a0 :: a1 :: a2 :: a3 :: a4 :: clr a5 :: some (.int v) :: L) st w cn sn := w_istore d_169_31 (Nat.le_add_left 7 _) rfl
theorem d_169_33 : decode (mB 169) 33 = .ok (.iload 6, 2) := by decide +kernel
theorem s_169_33 {d : Nat} {Q : wQ} {L : List (Option Value)} {st : List Value} {w : aw} {cn sn : Nat} {a0 a1 a2 a3 a4 a5 : Option Value} {v : Int32} : wp d 169 Q 33 (a0 :: a1 :: a2 :: a3 :: a4 :: a5 :: some (.int v) :: L) st w cn sn = wp d 169 Q 35 (a0 :: a1 :: a2 :: a3 :: a4 :: a5 :: some (.int v) :: L) (.int v :: st) w cn sn := w_iload d_169_33 rfl
theorem d_169_35 : decode (mB 169) 35 = .ok (.ifCond .ne 59, 3) := by decide +kernel
theorem s_169_35 {d : Nat} {Q : wQ} {L : List (Option Value)} {st : List Value} {w : aw} {cn sn : Nat} {x : Int32} : wp d 169 Q 35 L (.int x :: st) w cn sn = ((¬ x = 0 → wp d 169 Q 94 L st w cn sn) ∧ (x = 0 → wp d 169 Q 38 L st w cn sn)) := w_ifne d_169_35 (by decide)
theorem d_169_38 : decode (mB 169) 38 = .ok (.iload 5, 2) := by decide +kernel
theorem s_169_38 {d : Nat} {Q : wQ} {L : List (Option Value)} {st : List Value} {w : aw} {cn sn : Nat} {a0 a1 a2 a3 a4 : Option Value} {v : Int32} : wp d 169 Q 38 (a0 :: a1 :: a2 :: a3 :: a4 :: some (.int v) :: L) st w cn sn = wp d 169 Q 40 (a0 :: a1 :: a2 :: a3 :: a4 :: some (.int v) :: L) (.int v :: st) w cn sn := w_iload d_169_38 rfl
theorem d_169_40 : decode (mB 169) 40 = .ok (.iload 4, 2) := by decide +kernel
theorem s_169_40 {d : Nat} {Q : wQ} {L : List (Option Value)} {st : List Value} {w : aw} {cn sn : Nat} {a0 a1 a2 a3 : Option Value} {v : Int32} : wp d 169 Q 40 (a0 :: a1 :: a2 :: a3 :: some (.int v) :: L) st w cn sn = wp d 169 Q 42 (a0 :: a1 :: a2 :: a3 :: some (.int v) :: L) (.int v :: st) w cn sn := w_iload d_169_40 rfl
theorem d_169_42 : decode (mB 169) 42 = .ok (.if_icmp .gt 52, 3) := by decide +kernel
theorem s_169_42 {d : Nat} {Q : wQ} {L : List (Option Value)} {st : List Value} {w : aw} {cn sn : Nat} {a b : Int32} : wp d 169 Q 42 L (.int b :: .int a :: st) w cn sn = ((b < a → wp d 169 Q 94 L st w cn sn) ∧ (¬ b < a → wp d 169 Q 45 L st w cn sn)) := w_icgt d_169_42 (by decide)
theorem d_169_45 : decode (mB 169) 45 = .ok (.iload 5, 2) := by decide +kernel
theorem s_169_45 {d : Nat} {Q : wQ} {L : List (Option Value)} {st : List Value} {w : aw} {cn sn : Nat} {a0 a1 a2 a3 a4 : Option Value} {v : Int32} : wp d 169 Q 45 (a0 :: a1 :: a2 :: a3 :: a4 :: some (.int v) :: L) st w cn sn = wp d 169 Q 47 (a0 :: a1 :: a2 :: a3 :: a4 :: some (.int v) :: L) (.int v :: st) w cn sn := w_iload d_169_45 rfl
theorem d_169_47 : decode (mB 169) 47 = .ok (.istore 7, 2) := by decide +kernel
theorem s_169_47 {d : Nat} {Q : wQ} {L : List (Option Value)} {st : List Value} {w : aw} {cn sn : Nat} {a0 a1 a2 a3 a4 a5 a6 a7 : Option Value} {v : Int32} : wp d 169 Q 47 (a0 :: a1 :: a2 :: a3 :: a4 :: a5 :: a6 :: a7 :: L) (.int v :: st) w cn sn = wp d 169 Q 49 (a0 :: a1 :: a2 :: a3 :: a4 :: a5 :: clr a6 :: some (.int v) :: L) st w cn sn := w_istore d_169_47 (Nat.le_add_left 8 _) rfl
theorem d_169_49 : decode (mB 169) 49 = .ok (.iload 7, 2) := by decide +kernel
theorem s_169_49 {d : Nat} {Q : wQ} {L : List (Option Value)} {st : List Value} {w : aw} {cn sn : Nat} {a0 a1 a2 a3 a4 a5 a6 : Option Value} {v : Int32} : wp d 169 Q 49 (a0 :: a1 :: a2 :: a3 :: a4 :: a5 :: a6 :: some (.int v) :: L) st w cn sn = wp d 169 Q 51 (a0 :: a1 :: a2 :: a3 :: a4 :: a5 :: a6 :: some (.int v) :: L) (.int v :: st) w cn sn := w_iload d_169_49 rfl
theorem d_169_51 : decode (mB 169) 51 = .ok (.iload 4, 2) := by decide +kernel
theorem s_169_51 {d : Nat} {Q : wQ} {L : List (Option Value)} {st : List Value} {w : aw} {cn sn : Nat} {a0 a1 a2 a3 : Option Value} {v : Int32} : wp d 169 Q 51 (a0 :: a1 :: a2 :: a3 :: some (.int v) :: L) st w cn sn = wp d 169 Q 53 (a0 :: a1 :: a2 :: a3 :: some (.int v) :: L) (.int v :: st) w cn sn := w_iload d_169_51 rfl
theorem d_169_53 : decode (mB 169) 53 = .ok (.if_icmp .ge 21, 3) := by decide +kernel
theorem s_169_53 {d : Nat} {Q : wQ} {L : List (Option Value)} {st : List Value} {w : aw} {cn sn : Nat} {a b : Int32} : wp d 169 Q 53 L (.int b :: .int a :: st) w cn sn = ((b ≤ a → wp d 169 Q 74 L st w cn sn) ∧ (¬ b ≤ a → wp d 169 Q 56 L st w cn sn)) := w_icge d_169_53 (by decide)
theorem d_169_56 : decode (mB 169) 56 = .ok (.aload_n 0, 1) := by decide +kernel
theorem s_169_56 {d : Nat} {Q : wQ} {L : List (Option Value)} {st : List Value} {w : aw} {cn sn : Nat} {v : Nat} : wp d 169 Q 56 (some (.ref v) :: L) st w cn sn = wp d 169 Q 57 (some (.ref v) :: L) (.ref v :: st) w cn sn := w_aload_n d_169_56 rfl
theorem d_169_57 : decode (mB 169) 57 = .ok (.getfield 72, 3) := by decide +kernel
theorem s_169_57 {d : Nat} {Q : wQ} {L : List (Option Value)} {st : List Value} {w : aw} {cn sn : Nat} {a : Nat} : wp d 169 Q 57 L (.ref a :: st) w cn sn = (kd w a = 9 ∧ wp d 169 Q 60 L (fd w 542 a :: st) w cn sn) := w_getfield d_169_57 (by decide +kernel : fT (mO 169) 72 = some (8, 30))
theorem d_169_60 : decode (mB 169) 60 = .ok (.iload 7, 2) := by decide +kernel
theorem s_169_60 {d : Nat} {Q : wQ} {L : List (Option Value)} {st : List Value} {w : aw} {cn sn : Nat} {a0 a1 a2 a3 a4 a5 a6 : Option Value} {v : Int32} : wp d 169 Q 60 (a0 :: a1 :: a2 :: a3 :: a4 :: a5 :: a6 :: some (.int v) :: L) st w cn sn = wp d 169 Q 62 (a0 :: a1 :: a2 :: a3 :: a4 :: a5 :: a6 :: some (.int v) :: L) (.int v :: st) w cn sn := w_iload d_169_60 rfl
theorem d_169_62 : decode (mB 169) 62 = .ok (.iaload, 1) := by decide +kernel
theorem s_169_62 {d : Nat} {Q : wQ} {L : List (Option Value)} {st : List Value} {w : aw} {cn sn : Nat} {a : Nat} {i : Int32} : wp d 169 Q 62 L (.int i :: .ref a :: st) w cn sn = ((kd w a = 20 ∨ kd w a = 30) ∧ inR i (ln w a) ∧ wp d 169 Q 63 L (.int (ai w a i.toNatClampNeg) :: st) w cn sn) := wp_row d_169_62 _ _ _ _ _
theorem d_169_63 : decode (mB 169) 63 = .ok (.bipush 59, 2) := by decide +kernel
theorem s_169_63 {d : Nat} {Q : wQ} {L : List (Option Value)} {st : List Value} {w : aw} {cn sn : Nat}  : wp d 169 Q 63 L st w cn sn = wp d 169 Q 65 L (.int 59 :: st) w cn sn := w_bipush d_169_63 (by decide)
theorem d_169_65 : decode (mB 169) 65 = .ok (.if_icmp .eq 9, 3) := by decide +kernel
theorem s_169_65 {d : Nat} {Q : wQ} {L : List (Option Value)} {st : List Value} {w : aw} {cn sn : Nat} {a b : Int32} : wp d 169 Q 65 L (.int b :: .int a :: st) w cn sn = ((a = b → wp d 169 Q 74 L st w cn sn) ∧ (¬ a = b → wp d 169 Q 68 L st w cn sn)) := w_iceq d_169_65 (by decide)
theorem d_169_68 : decode (mB 169) 68 = .ok (.iinc 7 1, 3) := by decide +kernel
theorem s_169_68 {d : Nat} {Q : wQ} {L : List (Option Value)} {st : List Value} {w : aw} {cn sn : Nat} {a0 a1 a2 a3 a4 a5 a6 : Option Value} {v : Int32} : wp d 169 Q 68 (a0 :: a1 :: a2 :: a3 :: a4 :: a5 :: a6 :: some (.int v) :: L) st w cn sn = wp d 169 Q 71 (a0 :: a1 :: a2 :: a3 :: a4 :: a5 :: clr a6 :: some (.int (v + 1)) :: L) st w cn sn := w_iinc d_169_68 rfl (by decide) rfl
theorem d_169_71 : decode (mB 169) 71 = .ok (.goto (-22), 3) := by decide +kernel
theorem s_169_71 {d : Nat} {Q : wQ} {L : List (Option Value)} {st : List Value} {w : aw} {cn sn : Nat}  : wp d 169 Q 71 L st w cn sn = wp d 169 Q 49 L st w cn sn := w_goto d_169_71 (by decide)
theorem d_169_74 : decode (mB 169) 74 = .ok (.aload_n 0, 1) := by decide +kernel
theorem s_169_74 {d : Nat} {Q : wQ} {L : List (Option Value)} {st : List Value} {w : aw} {cn sn : Nat} {v : Nat} : wp d 169 Q 74 (some (.ref v) :: L) st w cn sn = wp d 169 Q 75 (some (.ref v) :: L) (.ref v :: st) w cn sn := w_aload_n d_169_74 rfl
theorem d_169_75 : decode (mB 169) 75 = .ok (.iload 5, 2) := by decide +kernel
theorem s_169_75 {d : Nat} {Q : wQ} {L : List (Option Value)} {st : List Value} {w : aw} {cn sn : Nat} {a0 a1 a2 a3 a4 : Option Value} {v : Int32} : wp d 169 Q 75 (a0 :: a1 :: a2 :: a3 :: a4 :: some (.int v) :: L) st w cn sn = wp d 169 Q 77 (a0 :: a1 :: a2 :: a3 :: a4 :: some (.int v) :: L) (.int v :: st) w cn sn := w_iload d_169_75 rfl
theorem d_169_77 : decode (mB 169) 77 = .ok (.iload 7, 2) := by decide +kernel
theorem s_169_77 {d : Nat} {Q : wQ} {L : List (Option Value)} {st : List Value} {w : aw} {cn sn : Nat} {a0 a1 a2 a3 a4 a5 a6 : Option Value} {v : Int32} : wp d 169 Q 77 (a0 :: a1 :: a2 :: a3 :: a4 :: a5 :: a6 :: some (.int v) :: L) st w cn sn = wp d 169 Q 79 (a0 :: a1 :: a2 :: a3 :: a4 :: a5 :: a6 :: some (.int v) :: L) (.int v :: st) w cn sn := w_iload d_169_77 rfl
theorem d_169_79 : decode (mB 169) 79 = .ok (.iload_n 3, 1) := by decide +kernel
theorem s_169_79 {d : Nat} {Q : wQ} {L : List (Option Value)} {st : List Value} {w : aw} {cn sn : Nat} {a0 a1 a2 : Option Value} {v : Int32} : wp d 169 Q 79 (a0 :: a1 :: a2 :: some (.int v) :: L) st w cn sn = wp d 169 Q 80 (a0 :: a1 :: a2 :: some (.int v) :: L) (.int v :: st) w cn sn := w_iload_n d_169_79 rfl
theorem d_169_80 : decode (mB 169) 80 = .ok (.invokevirtual 325, 3) := by decide +kernel
theorem s_169_80 {d : Nat} {Q : wQ} {L : List (Option Value)} {st : List Value} {w : aw} {cn sn : Nat} {v0 v1 v2 : Value} {b : Nat} : wp d 169 Q 80 L (v2 :: v1 :: v0 :: .ref b :: st) w cn sn = (kd w b = 9 ∧ catS st ≤ 8 ∧ wpD d 168 [.ref b, v0, v1, v2] w (fun v w' => wp d 169 Q 83 L (v.toList ++ st) w' cn sn)) := w_virtual (As := [v0, v1, v2]) d_169_80 (by decide +kernel : cT (mO 169) 325 = some (0, 168)) rfl (by decide +kernel) rfl (by decide +kernel) rfl
theorem d_169_83 : decode (mB 169) 83 = .ok (.istore 6, 2) := by decide +kernel
theorem s_169_83 {d : Nat} {Q : wQ} {L : List (Option Value)} {st : List Value} {w : aw} {cn sn : Nat} {a0 a1 a2 a3 a4 a5 a6 : Option Value} {v : Int32} : wp d 169 Q 83 (a0 :: a1 :: a2 :: a3 :: a4 :: a5 :: a6 :: L) (.int v :: st) w cn sn = wp d 169 Q 85 (a0 :: a1 :: a2 :: a3 :: a4 :: clr a5 :: some (.int v) :: L) st w cn sn := w_istore d_169_83 (Nat.le_add_left 7 _) rfl
theorem d_169_85 : decode (mB 169) 85 = .ok (.iload 7, 2) := by decide +kernel
theorem s_169_85 {d : Nat} {Q : wQ} {L : List (Option Value)} {st : List Value} {w : aw} {cn sn : Nat} {a0 a1 a2 a3 a4 a5 a6 : Option Value} {v : Int32} : wp d 169 Q 85 (a0 :: a1 :: a2 :: a3 :: a4 :: a5 :: a6 :: some (.int v) :: L) st w cn sn = wp d 169 Q 87 (a0 :: a1 :: a2 :: a3 :: a4 :: a5 :: a6 :: some (.int v) :: L) (.int v :: st) w cn sn := w_iload d_169_85 rfl
theorem d_169_87 : decode (mB 169) 87 = .ok (.iconst 1, 1) := by decide +kernel
theorem s_169_87 {d : Nat} {Q : wQ} {L : List (Option Value)} {st : List Value} {w : aw} {cn sn : Nat}  : wp d 169 Q 87 L st w cn sn = wp d 169 Q 88 L (.int 1 :: st) w cn sn := w_iconst d_169_87 (by decide)
theorem d_169_88 : decode (mB 169) 88 = .ok (.iadd, 1) := by decide +kernel
theorem s_169_88 {d : Nat} {Q : wQ} {L : List (Option Value)} {st : List Value} {w : aw} {cn sn : Nat} {a b : Int32} : wp d 169 Q 88 L (.int b :: .int a :: st) w cn sn = wp d 169 Q 89 L (.int (a + b) :: st) w cn sn := wp_row d_169_88 _ _ _ _ _
theorem d_169_89 : decode (mB 169) 89 = .ok (.istore 5, 2) := by decide +kernel
theorem s_169_89 {d : Nat} {Q : wQ} {L : List (Option Value)} {st : List Value} {w : aw} {cn sn : Nat} {a0 a1 a2 a3 a4 a5 : Option Value} {v : Int32} : wp d 169 Q 89 (a0 :: a1 :: a2 :: a3 :: a4 :: a5 :: L) (.int v :: st) w cn sn = wp d 169 Q 91 (a0 :: a1 :: a2 :: a3 :: clr a4 :: some (.int v) :: L) st w cn sn := w_istore d_169_89 (Nat.le_add_left 6 _) rfl
theorem d_169_91 : decode (mB 169) 91 = .ok (.goto (-58), 3) := by decide +kernel
theorem s_169_91 {d : Nat} {Q : wQ} {L : List (Option Value)} {st : List Value} {w : aw} {cn sn : Nat}  : wp d 169 Q 91 L st w cn sn = wp d 169 Q 33 L st w cn sn := w_goto d_169_91 (by decide)
theorem d_169_94 : decode (mB 169) 94 = .ok (.iload 6, 2) := by decide +kernel
theorem s_169_94 {d : Nat} {Q : wQ} {L : List (Option Value)} {st : List Value} {w : aw} {cn sn : Nat} {a0 a1 a2 a3 a4 a5 : Option Value} {v : Int32} : wp d 169 Q 94 (a0 :: a1 :: a2 :: a3 :: a4 :: a5 :: some (.int v) :: L) st w cn sn = wp d 169 Q 96 (a0 :: a1 :: a2 :: a3 :: a4 :: a5 :: some (.int v) :: L) (.int v :: st) w cn sn := w_iload d_169_94 rfl
theorem d_169_96 : decode (mB 169) 96 = .ok (.ireturn, 1) := by decide +kernel
theorem s_169_96 {d : Nat} {Q : wQ} {L : List (Option Value)} {w : aw} {cn sn : Nat} {v : Int32} : wp d 169 Q 96 L [.int v] w cn sn = Q (some (.int v)) w := w_ireturn d_169_96 rfl
theorem d_170_0 : decode (mB 170) 0 = .ok (.aload_n 0, 1) := by decide +kernel
theorem s_170_0 {d : Nat} {Q : wQ} {L : List (Option Value)} {st : List Value} {w : aw} {cn sn : Nat} {v : Nat} : wp d 170 Q 0 (some (.ref v) :: L) st w cn sn = wp d 170 Q 1 (some (.ref v) :: L) (.ref v :: st) w cn sn := w_aload_n d_170_0 rfl
theorem d_170_1 : decode (mB 170) 1 = .ok (.sipush 128, 3) := by decide +kernel
theorem s_170_1 {d : Nat} {Q : wQ} {L : List (Option Value)} {st : List Value} {w : aw} {cn sn : Nat}  : wp d 170 Q 1 L st w cn sn = wp d 170 Q 4 L (.int 128 :: st) w cn sn := w_sipush d_170_1 (by decide)
theorem d_170_4 : decode (mB 170) 4 = .ok (.putfield 254, 3) := by decide +kernel
theorem s_170_4 {d : Nat} {Q : wQ} {L : List (Option Value)} {st : List Value} {w : aw} {cn sn : Nat} {x : Int32} {a : Nat} : wp d 170 Q 4 L (.int x :: .ref a :: st) w cn sn = (kd w a = 9 ∧ wp d 170 Q 7 L st (uF w 554 a (.int x)) cn sn) := w_putfield d_170_4 (by decide +kernel : fT (mO 170) 254 = some (8, 42)) (by decide +kernel) ok_int
theorem d_170_7 : decode (mB 170) 7 = .ok (.iconst 1, 1) := by decide +kernel
theorem s_170_7 {d : Nat} {Q : wQ} {L : List (Option Value)} {st : List Value} {w : aw} {cn sn : Nat}  : wp d 170 Q 7 L st w cn sn = wp d 170 Q 8 L (.int 1 :: st) w cn sn := w_iconst d_170_7 (by decide)
theorem d_170_8 : decode (mB 170) 8 = .ok (.istore_n 2, 1) := by decide +kernel
theorem s_170_8 {d : Nat} {Q : wQ} {L : List (Option Value)} {st : List Value} {w : aw} {cn sn : Nat} {a0 a1 a2 : Option Value} {v : Int32} : wp d 170 Q 8 (a0 :: a1 :: a2 :: L) (.int v :: st) w cn sn = wp d 170 Q 9 (a0 :: clr a1 :: some (.int v) :: L) st w cn sn := w_istore_n d_170_8 (Nat.le_add_left 3 _) rfl
theorem d_170_9 : decode (mB 170) 9 = .ok (.iconst 0, 1) := by decide +kernel
theorem s_170_9 {d : Nat} {Q : wQ} {L : List (Option Value)} {st : List Value} {w : aw} {cn sn : Nat}  : wp d 170 Q 9 L st w cn sn = wp d 170 Q 10 L (.int 0 :: st) w cn sn := w_iconst d_170_9 (by decide)
theorem d_170_10 : decode (mB 170) 10 = .ok (.istore_n 3, 1) := by decide +kernel
theorem s_170_10 {d : Nat} {Q : wQ} {L : List (Option Value)} {st : List Value} {w : aw} {cn sn : Nat} {a0 a1 a2 a3 : Option Value} {v : Int32} : wp d 170 Q 10 (a0 :: a1 :: a2 :: a3 :: L) (.int v :: st) w cn sn = wp d 170 Q 11 (a0 :: a1 :: clr a2 :: some (.int v) :: L) st w cn sn := w_istore_n d_170_10 (Nat.le_add_left 4 _) rfl
theorem d_170_11 : decode (mB 170) 11 = .ok (.iload_n 3, 1) := by decide +kernel
theorem s_170_11 {d : Nat} {Q : wQ} {L : List (Option Value)} {st : List Value} {w : aw} {cn sn : Nat} {a0 a1 a2 : Option Value} {v : Int32} : wp d 170 Q 11 (a0 :: a1 :: a2 :: some (.int v) :: L) st w cn sn = wp d 170 Q 12 (a0 :: a1 :: a2 :: some (.int v) :: L) (.int v :: st) w cn sn := w_iload_n d_170_11 rfl
theorem d_170_12 : decode (mB 170) 12 = .ok (.aload_n 0, 1) := by decide +kernel
theorem s_170_12 {d : Nat} {Q : wQ} {L : List (Option Value)} {st : List Value} {w : aw} {cn sn : Nat} {v : Nat} : wp d 170 Q 12 (some (.ref v) :: L) st w cn sn = wp d 170 Q 13 (some (.ref v) :: L) (.ref v :: st) w cn sn := w_aload_n d_170_12 rfl
theorem d_170_13 : decode (mB 170) 13 = .ok (.getfield 193, 3) := by decide +kernel
theorem s_170_13 {d : Nat} {Q : wQ} {L : List (Option Value)} {st : List Value} {w : aw} {cn sn : Nat} {a : Nat} : wp d 170 Q 13 L (.ref a :: st) w cn sn = (kd w a = 9 ∧ wp d 170 Q 16 L (fd w 543 a :: st) w cn sn) := w_getfield d_170_13 (by decide +kernel : fT (mO 170) 193 = some (8, 31))
theorem d_170_16 : decode (mB 170) 16 = .ok (.if_icmp .ge 70, 3) := by decide +kernel
theorem s_170_16 {d : Nat} {Q : wQ} {L : List (Option Value)} {st : List Value} {w : aw} {cn sn : Nat} {a b : Int32} : wp d 170 Q 16 L (.int b :: .int a :: st) w cn sn = ((b ≤ a → wp d 170 Q 86 L st w cn sn) ∧ (¬ b ≤ a → wp d 170 Q 19 L st w cn sn)) := w_icge d_170_16 (by decide)
theorem d_170_19 : decode (mB 170) 19 = .ok (.iload_n 3, 1) := by decide +kernel
theorem s_170_19 {d : Nat} {Q : wQ} {L : List (Option Value)} {st : List Value} {w : aw} {cn sn : Nat} {a0 a1 a2 : Option Value} {v : Int32} : wp d 170 Q 19 (a0 :: a1 :: a2 :: some (.int v) :: L) st w cn sn = wp d 170 Q 20 (a0 :: a1 :: a2 :: some (.int v) :: L) (.int v :: st) w cn sn := w_iload_n d_170_19 rfl
theorem d_170_20 : decode (mB 170) 20 = .ok (.istore 4, 2) := by decide +kernel
theorem s_170_20 {d : Nat} {Q : wQ} {L : List (Option Value)} {st : List Value} {w : aw} {cn sn : Nat} {a0 a1 a2 a3 a4 : Option Value} {v : Int32} : wp d 170 Q 20 (a0 :: a1 :: a2 :: a3 :: a4 :: L) (.int v :: st) w cn sn = wp d 170 Q 22 (a0 :: a1 :: a2 :: clr a3 :: some (.int v) :: L) st w cn sn := w_istore d_170_20 (Nat.le_add_left 5 _) rfl
theorem d_170_22 : decode (mB 170) 22 = .ok (.iload 4, 2) := by decide +kernel
theorem s_170_22 {d : Nat} {Q : wQ} {L : List (Option Value)} {st : List Value} {w : aw} {cn sn : Nat} {a0 a1 a2 a3 : Option Value} {v : Int32} : wp d 170 Q 22 (a0 :: a1 :: a2 :: a3 :: some (.int v) :: L) st w cn sn = wp d 170 Q 24 (a0 :: a1 :: a2 :: a3 :: some (.int v) :: L) (.int v :: st) w cn sn := w_iload d_170_22 rfl
theorem d_170_24 : decode (mB 170) 24 = .ok (.aload_n 0, 1) := by decide +kernel
theorem s_170_24 {d : Nat} {Q : wQ} {L : List (Option Value)} {st : List Value} {w : aw} {cn sn : Nat} {v : Nat} : wp d 170 Q 24 (some (.ref v) :: L) st w cn sn = wp d 170 Q 25 (some (.ref v) :: L) (.ref v :: st) w cn sn := w_aload_n d_170_24 rfl
theorem d_170_25 : decode (mB 170) 25 = .ok (.getfield 193, 3) := by decide +kernel
theorem s_170_25 {d : Nat} {Q : wQ} {L : List (Option Value)} {st : List Value} {w : aw} {cn sn : Nat} {a : Nat} : wp d 170 Q 25 L (.ref a :: st) w cn sn = (kd w a = 9 ∧ wp d 170 Q 28 L (fd w 543 a :: st) w cn sn) := w_getfield d_170_25 (by decide +kernel : fT (mO 170) 193 = some (8, 31))
theorem d_170_28 : decode (mB 170) 28 = .ok (.if_icmp .ge 21, 3) := by decide +kernel
theorem s_170_28 {d : Nat} {Q : wQ} {L : List (Option Value)} {st : List Value} {w : aw} {cn sn : Nat} {a b : Int32} : wp d 170 Q 28 L (.int b :: .int a :: st) w cn sn = ((b ≤ a → wp d 170 Q 49 L st w cn sn) ∧ (¬ b ≤ a → wp d 170 Q 31 L st w cn sn)) := w_icge d_170_28 (by decide)
theorem d_170_31 : decode (mB 170) 31 = .ok (.aload_n 0, 1) := by decide +kernel
theorem s_170_31 {d : Nat} {Q : wQ} {L : List (Option Value)} {st : List Value} {w : aw} {cn sn : Nat} {v : Nat} : wp d 170 Q 31 (some (.ref v) :: L) st w cn sn = wp d 170 Q 32 (some (.ref v) :: L) (.ref v :: st) w cn sn := w_aload_n d_170_31 rfl
theorem d_170_32 : decode (mB 170) 32 = .ok (.getfield 72, 3) := by decide +kernel
theorem s_170_32 {d : Nat} {Q : wQ} {L : List (Option Value)} {st : List Value} {w : aw} {cn sn : Nat} {a : Nat} : wp d 170 Q 32 L (.ref a :: st) w cn sn = (kd w a = 9 ∧ wp d 170 Q 35 L (fd w 542 a :: st) w cn sn) := w_getfield d_170_32 (by decide +kernel : fT (mO 170) 72 = some (8, 30))
theorem d_170_35 : decode (mB 170) 35 = .ok (.iload 4, 2) := by decide +kernel
theorem s_170_35 {d : Nat} {Q : wQ} {L : List (Option Value)} {st : List Value} {w : aw} {cn sn : Nat} {a0 a1 a2 a3 : Option Value} {v : Int32} : wp d 170 Q 35 (a0 :: a1 :: a2 :: a3 :: some (.int v) :: L) st w cn sn = wp d 170 Q 37 (a0 :: a1 :: a2 :: a3 :: some (.int v) :: L) (.int v :: st) w cn sn := w_iload d_170_35 rfl
theorem d_170_37 : decode (mB 170) 37 = .ok (.iaload, 1) := by decide +kernel
theorem s_170_37 {d : Nat} {Q : wQ} {L : List (Option Value)} {st : List Value} {w : aw} {cn sn : Nat} {a : Nat} {i : Int32} : wp d 170 Q 37 L (.int i :: .ref a :: st) w cn sn = ((kd w a = 20 ∨ kd w a = 30) ∧ inR i (ln w a) ∧ wp d 170 Q 38 L (.int (ai w a i.toNatClampNeg) :: st) w cn sn) := wp_row d_170_37 _ _ _ _ _
theorem d_170_38 : decode (mB 170) 38 = .ok (.bipush 10, 2) := by decide +kernel
theorem s_170_38 {d : Nat} {Q : wQ} {L : List (Option Value)} {st : List Value} {w : aw} {cn sn : Nat}  : wp d 170 Q 38 L st w cn sn = wp d 170 Q 40 L (.int 10 :: st) w cn sn := w_bipush d_170_38 (by decide)
theorem d_170_40 : decode (mB 170) 40 = .ok (.if_icmp .eq 9, 3) := by decide +kernel
theorem s_170_40 {d : Nat} {Q : wQ} {L : List (Option Value)} {st : List Value} {w : aw} {cn sn : Nat} {a b : Int32} : wp d 170 Q 40 L (.int b :: .int a :: st) w cn sn = ((a = b → wp d 170 Q 49 L st w cn sn) ∧ (¬ a = b → wp d 170 Q 43 L st w cn sn)) := w_iceq d_170_40 (by decide)
theorem d_170_43 : decode (mB 170) 43 = .ok (.iinc 4 1, 3) := by decide +kernel
theorem s_170_43 {d : Nat} {Q : wQ} {L : List (Option Value)} {st : List Value} {w : aw} {cn sn : Nat} {a0 a1 a2 a3 : Option Value} {v : Int32} : wp d 170 Q 43 (a0 :: a1 :: a2 :: a3 :: some (.int v) :: L) st w cn sn = wp d 170 Q 46 (a0 :: a1 :: a2 :: clr a3 :: some (.int (v + 1)) :: L) st w cn sn := w_iinc d_170_43 rfl (by decide) rfl
theorem d_170_46 : decode (mB 170) 46 = .ok (.goto (-24), 3) := by decide +kernel
theorem s_170_46 {d : Nat} {Q : wQ} {L : List (Option Value)} {st : List Value} {w : aw} {cn sn : Nat}  : wp d 170 Q 46 L st w cn sn = wp d 170 Q 22 L st w cn sn := w_goto d_170_46 (by decide)
theorem d_170_49 : decode (mB 170) 49 = .ok (.aload_n 0, 1) := by decide +kernel
theorem s_170_49 {d : Nat} {Q : wQ} {L : List (Option Value)} {st : List Value} {w : aw} {cn sn : Nat} {v : Nat} : wp d 170 Q 49 (some (.ref v) :: L) st w cn sn = wp d 170 Q 50 (some (.ref v) :: L) (.ref v :: st) w cn sn := w_aload_n d_170_49 rfl
theorem d_170_50 : decode (mB 170) 50 = .ok (.aload_n 0, 1) := by decide +kernel
theorem s_170_50 {d : Nat} {Q : wQ} {L : List (Option Value)} {st : List Value} {w : aw} {cn sn : Nat} {v : Nat} : wp d 170 Q 50 (some (.ref v) :: L) st w cn sn = wp d 170 Q 51 (some (.ref v) :: L) (.ref v :: st) w cn sn := w_aload_n d_170_50 rfl
theorem d_170_51 : decode (mB 170) 51 = .ok (.iload_n 3, 1) := by decide +kernel
theorem s_170_51 {d : Nat} {Q : wQ} {L : List (Option Value)} {st : List Value} {w : aw} {cn sn : Nat} {a0 a1 a2 : Option Value} {v : Int32} : wp d 170 Q 51 (a0 :: a1 :: a2 :: some (.int v) :: L) st w cn sn = wp d 170 Q 52 (a0 :: a1 :: a2 :: some (.int v) :: L) (.int v :: st) w cn sn := w_iload_n d_170_51 rfl
theorem d_170_52 : decode (mB 170) 52 = .ok (.iload 4, 2) := by decide +kernel
theorem s_170_52 {d : Nat} {Q : wQ} {L : List (Option Value)} {st : List Value} {w : aw} {cn sn : Nat} {a0 a1 a2 a3 : Option Value} {v : Int32} : wp d 170 Q 52 (a0 :: a1 :: a2 :: a3 :: some (.int v) :: L) st w cn sn = wp d 170 Q 54 (a0 :: a1 :: a2 :: a3 :: some (.int v) :: L) (.int v :: st) w cn sn := w_iload d_170_52 rfl
theorem d_170_54 : decode (mB 170) 54 = .ok (.iload_n 1, 1) := by decide +kernel
theorem s_170_54 {d : Nat} {Q : wQ} {L : List (Option Value)} {st : List Value} {w : aw} {cn sn : Nat} {a0 : Option Value} {v : Int32} : wp d 170 Q 54 (a0 :: some (.int v) :: L) st w cn sn = wp d 170 Q 55 (a0 :: some (.int v) :: L) (.int v :: st) w cn sn := w_iload_n d_170_54 rfl
theorem d_170_55 : decode (mB 170) 55 = .ok (.invokevirtual 329, 3) := by decide +kernel
theorem s_170_55 {d : Nat} {Q : wQ} {L : List (Option Value)} {st : List Value} {w : aw} {cn sn : Nat} {v0 v1 v2 : Value} {b : Nat} : wp d 170 Q 55 L (v2 :: v1 :: v0 :: .ref b :: st) w cn sn = (kd w b = 9 ∧ catS st ≤ 8 ∧ wpD d 169 [.ref b, v0, v1, v2] w (fun v w' => wp d 170 Q 58 L (v.toList ++ st) w' cn sn)) := w_virtual (As := [v0, v1, v2]) d_170_55 (by decide +kernel : cT (mO 170) 329 = some (0, 169)) rfl (by decide +kernel) rfl (by decide +kernel) rfl
theorem d_170_58 : decode (mB 170) 58 = .ok (.putfield 199, 3) := by decide +kernel
theorem s_170_58 {d : Nat} {Q : wQ} {L : List (Option Value)} {st : List Value} {w : aw} {cn sn : Nat} {x : Int32} {a : Nat} : wp d 170 Q 58 L (.int x :: .ref a :: st) w cn sn = (kd w a = 9 ∧ wp d 170 Q 61 L st (uF w 544 a (.int x)) cn sn) := w_putfield d_170_58 (by decide +kernel : fT (mO 170) 199 = some (8, 32)) (by decide +kernel) ok_int
theorem d_170_61 : decode (mB 170) 61 = .ok (.aload_n 0, 1) := by decide +kernel
theorem s_170_61 {d : Nat} {Q : wQ} {L : List (Option Value)} {st : List Value} {w : aw} {cn sn : Nat} {v : Nat} : wp d 170 Q 61 (some (.ref v) :: L) st w cn sn = wp d 170 Q 62 (some (.ref v) :: L) (.ref v :: st) w cn sn := w_aload_n d_170_61 rfl
theorem d_170_62 : decode (mB 170) 62 = .ok (.iload_n 2, 1) := by decide +kernel
theorem s_170_62 {d : Nat} {Q : wQ} {L : List (Option Value)} {st : List Value} {w : aw} {cn sn : Nat} {a0 a1 : Option Value} {v : Int32} : wp d 170 Q 62 (a0 :: a1 :: some (.int v) :: L) st w cn sn = wp d 170 Q 63 (a0 :: a1 :: some (.int v) :: L) (.int v :: st) w cn sn := w_iload_n d_170_62 rfl
theorem d_170_63 : decode (mB 170) 63 = .ok (.putfield 202, 3) := by decide +kernel
theorem s_170_63 {d : Nat} {Q : wQ} {L : List (Option Value)} {st : List Value} {w : aw} {cn sn : Nat} {x : Int32} {a : Nat} : wp d 170 Q 63 L (.int x :: .ref a :: st) w cn sn = (kd w a = 9 ∧ wp d 170 Q 66 L st (uF w 545 a (.int x)) cn sn) := w_putfield d_170_63 (by decide +kernel : fT (mO 170) 202 = some (8, 33)) (by decide +kernel) ok_int
theorem d_170_66 : decode (mB 170) 66 = .ok (.aload_n 0, 1) := by decide +kernel
theorem s_170_66 {d : Nat} {Q : wQ} {L : List (Option Value)} {st : List Value} {w : aw} {cn sn : Nat} {v : Nat} : wp d 170 Q 66 (some (.ref v) :: L) st w cn sn = wp d 170 Q 67 (some (.ref v) :: L) (.ref v :: st) w cn sn := w_aload_n d_170_66 rfl
theorem d_170_67 : decode (mB 170) 67 = .ok (.getfield 199, 3) := by decide +kernel
theorem s_170_67 {d : Nat} {Q : wQ} {L : List (Option Value)} {st : List Value} {w : aw} {cn sn : Nat} {a : Nat} : wp d 170 Q 67 L (.ref a :: st) w cn sn = (kd w a = 9 ∧ wp d 170 Q 70 L (fd w 544 a :: st) w cn sn) := w_getfield d_170_67 (by decide +kernel : fT (mO 170) 199 = some (8, 32))
theorem d_170_70 : decode (mB 170) 70 = .ok (.ifCond .le 5, 3) := by decide +kernel
theorem s_170_70 {d : Nat} {Q : wQ} {L : List (Option Value)} {st : List Value} {w : aw} {cn sn : Nat} {x : Int32} : wp d 170 Q 70 L (.int x :: st) w cn sn = ((x ≤ 0 → wp d 170 Q 75 L st w cn sn) ∧ (¬ x ≤ 0 → wp d 170 Q 73 L st w cn sn)) := w_ifle d_170_70 (by decide)
theorem d_170_73 : decode (mB 170) 73 = .ok (.iconst 0, 1) := by decide +kernel
theorem s_170_73 {d : Nat} {Q : wQ} {L : List (Option Value)} {st : List Value} {w : aw} {cn sn : Nat}  : wp d 170 Q 73 L st w cn sn = wp d 170 Q 74 L (.int 0 :: st) w cn sn := w_iconst d_170_73 (by decide)
theorem d_170_74 : decode (mB 170) 74 = .ok (.ireturn, 1) := by decide +kernel
theorem s_170_74 {d : Nat} {Q : wQ} {L : List (Option Value)} {w : aw} {cn sn : Nat} {v : Int32} : wp d 170 Q 74 L [.int v] w cn sn = (narrow .boolean (.int v) = .int v ∧ Q (some (.int v)) w) := w_zreturn d_170_74 rfl
theorem d_170_75 : decode (mB 170) 75 = .ok (.iinc 2 1, 3) := by decide +kernel
theorem s_170_75 {d : Nat} {Q : wQ} {L : List (Option Value)} {st : List Value} {w : aw} {cn sn : Nat} {a0 a1 : Option Value} {v : Int32} : wp d 170 Q 75 (a0 :: a1 :: some (.int v) :: L) st w cn sn = wp d 170 Q 78 (a0 :: clr a1 :: some (.int (v + 1)) :: L) st w cn sn := w_iinc d_170_75 rfl (by decide) rfl
theorem d_170_78 : decode (mB 170) 78 = .ok (.iload 4, 2) := by decide +kernel
theorem s_170_78 {d : Nat} {Q : wQ} {L : List (Option Value)} {st : List Value} {w : aw} {cn sn : Nat} {a0 a1 a2 a3 : Option Value} {v : Int32} : wp d 170 Q 78 (a0 :: a1 :: a2 :: a3 :: some (.int v) :: L) st w cn sn = wp d 170 Q 80 (a0 :: a1 :: a2 :: a3 :: some (.int v) :: L) (.int v :: st) w cn sn := w_iload d_170_78 rfl
theorem d_170_80 : decode (mB 170) 80 = .ok (.iconst 1, 1) := by decide +kernel
theorem s_170_80 {d : Nat} {Q : wQ} {L : List (Option Value)} {st : List Value} {w : aw} {cn sn : Nat}  : wp d 170 Q 80 L st w cn sn = wp d 170 Q 81 L (.int 1 :: st) w cn sn := w_iconst d_170_80 (by decide)
theorem d_170_81 : decode (mB 170) 81 = .ok (.iadd, 1) := by decide +kernel
theorem s_170_81 {d : Nat} {Q : wQ} {L : List (Option Value)} {st : List Value} {w : aw} {cn sn : Nat} {a b : Int32} : wp d 170 Q 81 L (.int b :: .int a :: st) w cn sn = wp d 170 Q 82 L (.int (a + b) :: st) w cn sn := wp_row d_170_81 _ _ _ _ _
theorem d_170_82 : decode (mB 170) 82 = .ok (.istore_n 3, 1) := by decide +kernel
theorem s_170_82 {d : Nat} {Q : wQ} {L : List (Option Value)} {st : List Value} {w : aw} {cn sn : Nat} {a0 a1 a2 a3 : Option Value} {v : Int32} : wp d 170 Q 82 (a0 :: a1 :: a2 :: a3 :: L) (.int v :: st) w cn sn = wp d 170 Q 83 (a0 :: a1 :: clr a2 :: some (.int v) :: L) st w cn sn := w_istore_n d_170_82 (Nat.le_add_left 4 _) rfl
theorem d_170_83 : decode (mB 170) 83 = .ok (.goto (-72), 3) := by decide +kernel
theorem s_170_83 {d : Nat} {Q : wQ} {L : List (Option Value)} {st : List Value} {w : aw} {cn sn : Nat}  : wp d 170 Q 83 L st w cn sn = wp d 170 Q 11 L st w cn sn := w_goto d_170_83 (by decide)
theorem d_170_86 : decode (mB 170) 86 = .ok (.aload_n 0, 1) := by decide +kernel
theorem s_170_86 {d : Nat} {Q : wQ} {L : List (Option Value)} {st : List Value} {w : aw} {cn sn : Nat} {v : Nat} : wp d 170 Q 86 (some (.ref v) :: L) st w cn sn = wp d 170 Q 87 (some (.ref v) :: L) (.ref v :: st) w cn sn := w_aload_n d_170_86 rfl
theorem d_170_87 : decode (mB 170) 87 = .ok (.iconst 0, 1) := by decide +kernel
theorem s_170_87 {d : Nat} {Q : wQ} {L : List (Option Value)} {st : List Value} {w : aw} {cn sn : Nat}  : wp d 170 Q 87 L st w cn sn = wp d 170 Q 88 L (.int 0 :: st) w cn sn := w_iconst d_170_87 (by decide)
theorem d_170_88 : decode (mB 170) 88 = .ok (.putfield 202, 3) := by decide +kernel
theorem s_170_88 {d : Nat} {Q : wQ} {L : List (Option Value)} {st : List Value} {w : aw} {cn sn : Nat} {x : Int32} {a : Nat} : wp d 170 Q 88 L (.int x :: .ref a :: st) w cn sn = (kd w a = 9 ∧ wp d 170 Q 91 L st (uF w 545 a (.int x)) cn sn) := w_putfield d_170_88 (by decide +kernel : fT (mO 170) 202 = some (8, 33)) (by decide +kernel) ok_int
theorem d_170_91 : decode (mB 170) 91 = .ok (.iconst 1, 1) := by decide +kernel
theorem s_170_91 {d : Nat} {Q : wQ} {L : List (Option Value)} {st : List Value} {w : aw} {cn sn : Nat}  : wp d 170 Q 91 L st w cn sn = wp d 170 Q 92 L (.int 1 :: st) w cn sn := w_iconst d_170_91 (by decide)
theorem d_170_92 : decode (mB 170) 92 = .ok (.ireturn, 1) := by decide +kernel
theorem s_170_92 {d : Nat} {Q : wQ} {L : List (Option Value)} {w : aw} {cn sn : Nat} {v : Int32} : wp d 170 Q 92 L [.int v] w cn sn = (narrow .boolean (.int v) = .int v ∧ Q (some (.int v)) w) := w_zreturn d_170_92 rfl
theorem d_171_0 : decode (mB 171) 0 = .ok (.aload_n 0, 1) := by decide +kernel
theorem s_171_0 {d : Nat} {Q : wQ} {L : List (Option Value)} {st : List Value} {w : aw} {cn sn : Nat} {v : Nat} : wp d 171 Q 0 (some (.ref v) :: L) st w cn sn = wp d 171 Q 1 (some (.ref v) :: L) (.ref v :: st) w cn sn := w_aload_n d_171_0 rfl
theorem d_171_1 : decode (mB 171) 1 = .ok (.iload_n 1, 1) := by decide +kernel
theorem s_171_1 {d : Nat} {Q : wQ} {L : List (Option Value)} {st : List Value} {w : aw} {cn sn : Nat} {a0 : Option Value} {v : Int32} : wp d 171 Q 1 (a0 :: some (.int v) :: L) st w cn sn = wp d 171 Q 2 (a0 :: some (.int v) :: L) (.int v :: st) w cn sn := w_iload_n d_171_1 rfl
theorem d_171_2 : decode (mB 171) 2 = .ok (.invokevirtual 205, 3) := by decide +kernel
theorem s_171_2 {d : Nat} {Q : wQ} {L : List (Option Value)} {st : List Value} {w : aw} {cn sn : Nat} {v0 : Value} {b : Nat} : wp d 171 Q 2 L (v0 :: .ref b :: st) w cn sn = (kd w b = 9 ∧ catS st ≤ 8 ∧ wpD d 104 [.ref b, v0] w (fun v w' => wp d 171 Q 5 L (v.toList ++ st) w' cn sn)) := w_virtual (As := [v0]) d_171_2 (by decide +kernel : cT (mO 171) 205 = some (0, 104)) rfl (by decide +kernel) rfl (by decide +kernel) rfl
theorem d_171_5 : decode (mB 171) 5 = .ok (.ifCond .ne 5, 3) := by decide +kernel
theorem s_171_5 {d : Nat} {Q : wQ} {L : List (Option Value)} {st : List Value} {w : aw} {cn sn : Nat} {x : Int32} : wp d 171 Q 5 L (.int x :: st) w cn sn = ((¬ x = 0 → wp d 171 Q 10 L st w cn sn) ∧ (x = 0 → wp d 171 Q 8 L st w cn sn)) := w_ifne d_171_5 (by decide)
theorem d_171_8 : decode (mB 171) 8 = .ok (.iconst (-1), 1) := by decide +kernel
theorem s_171_8 {d : Nat} {Q : wQ} {L : List (Option Value)} {st : List Value} {w : aw} {cn sn : Nat}  : wp d 171 Q 8 L st w cn sn = wp d 171 Q 9 L (.int (-1) :: st) w cn sn := w_iconst d_171_8 (by decide)
theorem d_171_9 : decode (mB 171) 9 = .ok (.ireturn, 1) := by decide +kernel
theorem s_171_9 {d : Nat} {Q : wQ} {L : List (Option Value)} {w : aw} {cn sn : Nat} {v : Int32} : wp d 171 Q 9 L [.int v] w cn sn = Q (some (.int v)) w := w_ireturn d_171_9 rfl
theorem d_171_10 : decode (mB 171) 10 = .ok (.aload_n 0, 1) := by decide +kernel
theorem s_171_10 {d : Nat} {Q : wQ} {L : List (Option Value)} {st : List Value} {w : aw} {cn sn : Nat} {v : Nat} : wp d 171 Q 10 (some (.ref v) :: L) st w cn sn = wp d 171 Q 11 (some (.ref v) :: L) (.ref v :: st) w cn sn := w_aload_n d_171_10 rfl
theorem d_171_11 : decode (mB 171) 11 = .ok (.iconst 0, 1) := by decide +kernel
theorem s_171_11 {d : Nat} {Q : wQ} {L : List (Option Value)} {st : List Value} {w : aw} {cn sn : Nat}  : wp d 171 Q 11 L st w cn sn = wp d 171 Q 12 L (.int 0 :: st) w cn sn := w_iconst d_171_11 (by decide)
theorem d_171_12 : decode (mB 171) 12 = .ok (.putfield 199, 3) := by decide +kernel
theorem s_171_12 {d : Nat} {Q : wQ} {L : List (Option Value)} {st : List Value} {w : aw} {cn sn : Nat} {x : Int32} {a : Nat} : wp d 171 Q 12 L (.int x :: .ref a :: st) w cn sn = (kd w a = 9 ∧ wp d 171 Q 15 L st (uF w 544 a (.int x)) cn sn) := w_putfield d_171_12 (by decide +kernel : fT (mO 171) 199 = some (8, 32)) (by decide +kernel) ok_int
theorem d_171_15 : decode (mB 171) 15 = .ok (.aload_n 0, 1) := by decide +kernel
theorem s_171_15 {d : Nat} {Q : wQ} {L : List (Option Value)} {st : List Value} {w : aw} {cn sn : Nat} {v : Nat} : wp d 171 Q 15 (some (.ref v) :: L) st w cn sn = wp d 171 Q 16 (some (.ref v) :: L) (.ref v :: st) w cn sn := w_aload_n d_171_15 rfl
theorem d_171_16 : decode (mB 171) 16 = .ok (.iconst 0, 1) := by decide +kernel
theorem s_171_16 {d : Nat} {Q : wQ} {L : List (Option Value)} {st : List Value} {w : aw} {cn sn : Nat}  : wp d 171 Q 16 L st w cn sn = wp d 171 Q 17 L (.int 0 :: st) w cn sn := w_iconst d_171_16 (by decide)
theorem d_171_17 : decode (mB 171) 17 = .ok (.putfield 202, 3) := by decide +kernel
theorem s_171_17 {d : Nat} {Q : wQ} {L : List (Option Value)} {st : List Value} {w : aw} {cn sn : Nat} {x : Int32} {a : Nat} : wp d 171 Q 17 L (.int x :: .ref a :: st) w cn sn = (kd w a = 9 ∧ wp d 171 Q 20 L st (uF w 545 a (.int x)) cn sn) := w_putfield d_171_17 (by decide +kernel : fT (mO 171) 202 = some (8, 33)) (by decide +kernel) ok_int
theorem d_171_20 : decode (mB 171) 20 = .ok (.aload_n 0, 1) := by decide +kernel
theorem s_171_20 {d : Nat} {Q : wQ} {L : List (Option Value)} {st : List Value} {w : aw} {cn sn : Nat} {v : Nat} : wp d 171 Q 20 (some (.ref v) :: L) st w cn sn = wp d 171 Q 21 (some (.ref v) :: L) (.ref v :: st) w cn sn := w_aload_n d_171_20 rfl
theorem d_171_21 : decode (mB 171) 21 = .ok (.aload_n 0, 1) := by decide +kernel
theorem s_171_21 {d : Nat} {Q : wQ} {L : List (Option Value)} {st : List Value} {w : aw} {cn sn : Nat} {v : Nat} : wp d 171 Q 21 (some (.ref v) :: L) st w cn sn = wp d 171 Q 22 (some (.ref v) :: L) (.ref v :: st) w cn sn := w_aload_n d_171_21 rfl
theorem d_171_22 : decode (mB 171) 22 = .ok (.getfield 103, 3) := by decide +kernel
theorem s_171_22 {d : Nat} {Q : wQ} {L : List (Option Value)} {st : List Value} {w : aw} {cn sn : Nat} {a : Nat} : wp d 171 Q 22 L (.ref a :: st) w cn sn = (kd w a = 9 ∧ wp d 171 Q 25 L (fd w 549 a :: st) w cn sn) := w_getfield d_171_22 (by decide +kernel : fT (mO 171) 103 = some (8, 37))
theorem d_171_25 : decode (mB 171) 25 = .ok (.putfield 96, 3) := by decide +kernel
theorem s_171_25 {d : Nat} {Q : wQ} {L : List (Option Value)} {st : List Value} {w : aw} {cn sn : Nat} {x : Int32} {a : Nat} : wp d 171 Q 25 L (.int x :: .ref a :: st) w cn sn = (kd w a = 9 ∧ wp d 171 Q 28 L st (uF w 548 a (.int x)) cn sn) := w_putfield d_171_25 (by decide +kernel : fT (mO 171) 96 = some (8, 36)) (by decide +kernel) ok_int
theorem d_171_28 : decode (mB 171) 28 = .ok (.aload_n 0, 1) := by decide +kernel
theorem s_171_28 {d : Nat} {Q : wQ} {L : List (Option Value)} {st : List Value} {w : aw} {cn sn : Nat} {v : Nat} : wp d 171 Q 28 (some (.ref v) :: L) st w cn sn = wp d 171 Q 29 (some (.ref v) :: L) (.ref v :: st) w cn sn := w_aload_n d_171_28 rfl
theorem d_171_29 : decode (mB 171) 29 = .ok (.iconst 0, 1) := by decide +kernel
theorem s_171_29 {d : Nat} {Q : wQ} {L : List (Option Value)} {st : List Value} {w : aw} {cn sn : Nat}  : wp d 171 Q 29 L st w cn sn = wp d 171 Q 30 L (.int 0 :: st) w cn sn := w_iconst d_171_29 (by decide)
theorem d_171_30 : decode (mB 171) 30 = .ok (.putfield 299, 3) := by decide +kernel
theorem s_171_30 {d : Nat} {Q : wQ} {L : List (Option Value)} {st : List Value} {w : aw} {cn sn : Nat} {x : Int32} {a : Nat} : wp d 171 Q 30 L (.int x :: .ref a :: st) w cn sn = (kd w a = 9 ∧ wp d 171 Q 33 L st (uF w 553 a (.int x)) cn sn) := w_putfield d_171_30 (by decide +kernel : fT (mO 171) 299 = some (8, 41)) (by decide +kernel) ok_int
theorem d_171_33 : decode (mB 171) 33 = .ok (.iconst 0, 1) := by decide +kernel
theorem s_171_33 {d : Nat} {Q : wQ} {L : List (Option Value)} {st : List Value} {w : aw} {cn sn : Nat}  : wp d 171 Q 33 L st w cn sn = wp d 171 Q 34 L (.int 0 :: st) w cn sn := w_iconst d_171_33 (by decide)
theorem d_171_34 : decode (mB 171) 34 = .ok (.istore_n 2, 1) := by decide +kernel
theorem s_171_34 {d : Nat} {Q : wQ} {L : List (Option Value)} {st : List Value} {w : aw} {cn sn : Nat} {a0 a1 a2 : Option Value} {v : Int32} : wp d 171 Q 34 (a0 :: a1 :: a2 :: L) (.int v :: st) w cn sn = wp d 171 Q 35 (a0 :: clr a1 :: some (.int v) :: L) st w cn sn := w_istore_n d_171_34 (Nat.le_add_left 3 _) rfl
theorem d_171_35 : decode (mB 171) 35 = .ok (.iload_n 2, 1) := by decide +kernel
theorem s_171_35 {d : Nat} {Q : wQ} {L : List (Option Value)} {st : List Value} {w : aw} {cn sn : Nat} {a0 a1 : Option Value} {v : Int32} : wp d 171 Q 35 (a0 :: a1 :: some (.int v) :: L) st w cn sn = wp d 171 Q 36 (a0 :: a1 :: some (.int v) :: L) (.int v :: st) w cn sn := w_iload_n d_171_35 rfl
theorem d_171_36 : decode (mB 171) 36 = .ok (.sipush 4096, 3) := by decide +kernel
theorem s_171_36 {d : Nat} {Q : wQ} {L : List (Option Value)} {st : List Value} {w : aw} {cn sn : Nat}  : wp d 171 Q 36 L st w cn sn = wp d 171 Q 39 L (.int 4096 :: st) w cn sn := w_sipush d_171_36 (by decide)
theorem d_171_39 : decode (mB 171) 39 = .ok (.if_icmp .ge 16, 3) := by decide +kernel
theorem s_171_39 {d : Nat} {Q : wQ} {L : List (Option Value)} {st : List Value} {w : aw} {cn sn : Nat} {a b : Int32} : wp d 171 Q 39 L (.int b :: .int a :: st) w cn sn = ((b ≤ a → wp d 171 Q 55 L st w cn sn) ∧ (¬ b ≤ a → wp d 171 Q 42 L st w cn sn)) := w_icge d_171_39 (by decide)
theorem d_171_42 : decode (mB 171) 42 = .ok (.aload_n 0, 1) := by decide +kernel
theorem s_171_42 {d : Nat} {Q : wQ} {L : List (Option Value)} {st : List Value} {w : aw} {cn sn : Nat} {v : Nat} : wp d 171 Q 42 (some (.ref v) :: L) st w cn sn = wp d 171 Q 43 (some (.ref v) :: L) (.ref v :: st) w cn sn := w_aload_n d_171_42 rfl
theorem d_171_43 : decode (mB 171) 43 = .ok (.getfield 82, 3) := by decide +kernel
theorem s_171_43 {d : Nat} {Q : wQ} {L : List (Option Value)} {st : List Value} {w : aw} {cn sn : Nat} {a : Nat} : wp d 171 Q 43 L (.ref a :: st) w cn sn = (kd w a = 9 ∧ wp d 171 Q 46 L (fd w 550 a :: st) w cn sn) := w_getfield d_171_43 (by decide +kernel : fT (mO 171) 82 = some (8, 38))
theorem d_171_46 : decode (mB 171) 46 = .ok (.iload_n 2, 1) := by decide +kernel
theorem s_171_46 {d : Nat} {Q : wQ} {L : List (Option Value)} {st : List Value} {w : aw} {cn sn : Nat} {a0 a1 : Option Value} {v : Int32} : wp d 171 Q 46 (a0 :: a1 :: some (.int v) :: L) st w cn sn = wp d 171 Q 47 (a0 :: a1 :: some (.int v) :: L) (.int v :: st) w cn sn := w_iload_n d_171_46 rfl
theorem d_171_47 : decode (mB 171) 47 = .ok (.iconst (-1), 1) := by decide +kernel
theorem s_171_47 {d : Nat} {Q : wQ} {L : List (Option Value)} {st : List Value} {w : aw} {cn sn : Nat}  : wp d 171 Q 47 L st w cn sn = wp d 171 Q 48 L (.int (-1) :: st) w cn sn := w_iconst d_171_47 (by decide)
theorem d_171_48 : decode (mB 171) 48 = .ok (.iastore, 1) := by decide +kernel
theorem s_171_48 {d : Nat} {Q : wQ} {L : List (Option Value)} {st : List Value} {w : aw} {cn sn : Nat} {a : Nat} {i x : Int32} : wp d 171 Q 48 L (.int x :: .int i :: .ref a :: st) w cn sn = (kd w a = 20 ∧ inR i (ln w a) ∧ wp d 171 Q 49 L st (uA w a i.toNatClampNeg x) cn sn) := wp_row d_171_48 _ _ _ _ _
theorem d_171_49 : decode (mB 171) 49 = .ok (.iinc 2 1, 3) := by decide +kernel
theorem s_171_49 {d : Nat} {Q : wQ} {L : List (Option Value)} {st : List Value} {w : aw} {cn sn : Nat} {a0 a1 : Option Value} {v : Int32} : wp d 171 Q 49 (a0 :: a1 :: some (.int v) :: L) st w cn sn = wp d 171 Q 52 (a0 :: clr a1 :: some (.int (v + 1)) :: L) st w cn sn := w_iinc d_171_49 rfl (by decide) rfl
theorem d_171_52 : decode (mB 171) 52 = .ok (.goto (-17), 3) := by decide +kernel
theorem s_171_52 {d : Nat} {Q : wQ} {L : List (Option Value)} {st : List Value} {w : aw} {cn sn : Nat}  : wp d 171 Q 52 L st w cn sn = wp d 171 Q 35 L st w cn sn := w_goto d_171_52 (by decide)
theorem d_171_55 : decode (mB 171) 55 = .ok (.iconst 0, 1) := by decide +kernel
theorem s_171_55 {d : Nat} {Q : wQ} {L : List (Option Value)} {st : List Value} {w : aw} {cn sn : Nat}  : wp d 171 Q 55 L st w cn sn = wp d 171 Q 56 L (.int 0 :: st) w cn sn := w_iconst d_171_55 (by decide)
theorem d_171_56 : decode (mB 171) 56 = .ok (.istore_n 2, 1) := by decide +kernel
theorem s_171_56 {d : Nat} {Q : wQ} {L : List (Option Value)} {st : List Value} {w : aw} {cn sn : Nat} {a0 a1 a2 : Option Value} {v : Int32} : wp d 171 Q 56 (a0 :: a1 :: a2 :: L) (.int v :: st) w cn sn = wp d 171 Q 57 (a0 :: clr a1 :: some (.int v) :: L) st w cn sn := w_istore_n d_171_56 (Nat.le_add_left 3 _) rfl
theorem d_171_57 : decode (mB 171) 57 = .ok (.iload_n 2, 1) := by decide +kernel
theorem s_171_57 {d : Nat} {Q : wQ} {L : List (Option Value)} {st : List Value} {w : aw} {cn sn : Nat} {a0 a1 : Option Value} {v : Int32} : wp d 171 Q 57 (a0 :: a1 :: some (.int v) :: L) st w cn sn = wp d 171 Q 58 (a0 :: a1 :: some (.int v) :: L) (.int v :: st) w cn sn := w_iload_n d_171_57 rfl
theorem d_171_58 : decode (mB 171) 58 = .ok (.bipush 32, 2) := by decide +kernel
theorem s_171_58 {d : Nat} {Q : wQ} {L : List (Option Value)} {st : List Value} {w : aw} {cn sn : Nat}  : wp d 171 Q 58 L st w cn sn = wp d 171 Q 60 L (.int 32 :: st) w cn sn := w_bipush d_171_58 (by decide)
theorem d_171_60 : decode (mB 171) 60 = .ok (.if_icmp .ge 17, 3) := by decide +kernel
theorem s_171_60 {d : Nat} {Q : wQ} {L : List (Option Value)} {st : List Value} {w : aw} {cn sn : Nat} {a b : Int32} : wp d 171 Q 60 L (.int b :: .int a :: st) w cn sn = ((b ≤ a → wp d 171 Q 77 L st w cn sn) ∧ (¬ b ≤ a → wp d 171 Q 63 L st w cn sn)) := w_icge d_171_60 (by decide)
theorem d_171_63 : decode (mB 171) 63 = .ok (.aload_n 0, 1) := by decide +kernel
theorem s_171_63 {d : Nat} {Q : wQ} {L : List (Option Value)} {st : List Value} {w : aw} {cn sn : Nat} {v : Nat} : wp d 171 Q 63 (some (.ref v) :: L) st w cn sn = wp d 171 Q 64 (some (.ref v) :: L) (.ref v :: st) w cn sn := w_aload_n d_171_63 rfl
theorem d_171_64 : decode (mB 171) 64 = .ok (.getfield 89, 3) := by decide +kernel
theorem s_171_64 {d : Nat} {Q : wQ} {L : List (Option Value)} {st : List Value} {w : aw} {cn sn : Nat} {a : Nat} : wp d 171 Q 64 L (.ref a :: st) w cn sn = (kd w a = 9 ∧ wp d 171 Q 67 L (fd w 552 a :: st) w cn sn) := w_getfield d_171_64 (by decide +kernel : fT (mO 171) 89 = some (8, 40))
theorem d_171_67 : decode (mB 171) 67 = .ok (.iload_n 2, 1) := by decide +kernel
theorem s_171_67 {d : Nat} {Q : wQ} {L : List (Option Value)} {st : List Value} {w : aw} {cn sn : Nat} {a0 a1 : Option Value} {v : Int32} : wp d 171 Q 67 (a0 :: a1 :: some (.int v) :: L) st w cn sn = wp d 171 Q 68 (a0 :: a1 :: some (.int v) :: L) (.int v :: st) w cn sn := w_iload_n d_171_67 rfl
theorem d_171_68 : decode (mB 171) 68 = .ok (.bipush 127, 2) := by decide +kernel
theorem s_171_68 {d : Nat} {Q : wQ} {L : List (Option Value)} {st : List Value} {w : aw} {cn sn : Nat}  : wp d 171 Q 68 L st w cn sn = wp d 171 Q 70 L (.int 127 :: st) w cn sn := w_bipush d_171_68 (by decide)
theorem d_171_70 : decode (mB 171) 70 = .ok (.iastore, 1) := by decide +kernel
theorem s_171_70 {d : Nat} {Q : wQ} {L : List (Option Value)} {st : List Value} {w : aw} {cn sn : Nat} {a : Nat} {i x : Int32} : wp d 171 Q 70 L (.int x :: .int i :: .ref a :: st) w cn sn = (kd w a = 20 ∧ inR i (ln w a) ∧ wp d 171 Q 71 L st (uA w a i.toNatClampNeg x) cn sn) := wp_row d_171_70 _ _ _ _ _
theorem d_171_71 : decode (mB 171) 71 = .ok (.iinc 2 1, 3) := by decide +kernel
theorem s_171_71 {d : Nat} {Q : wQ} {L : List (Option Value)} {st : List Value} {w : aw} {cn sn : Nat} {a0 a1 : Option Value} {v : Int32} : wp d 171 Q 71 (a0 :: a1 :: some (.int v) :: L) st w cn sn = wp d 171 Q 74 (a0 :: clr a1 :: some (.int (v + 1)) :: L) st w cn sn := w_iinc d_171_71 rfl (by decide) rfl
theorem d_171_74 : decode (mB 171) 74 = .ok (.goto (-17), 3) := by decide +kernel
theorem s_171_74 {d : Nat} {Q : wQ} {L : List (Option Value)} {st : List Value} {w : aw} {cn sn : Nat}  : wp d 171 Q 74 L st w cn sn = wp d 171 Q 57 L st w cn sn := w_goto d_171_74 (by decide)
theorem d_171_77 : decode (mB 171) 77 = .ok (.aload_n 0, 1) := by decide +kernel
theorem s_171_77 {d : Nat} {Q : wQ} {L : List (Option Value)} {st : List Value} {w : aw} {cn sn : Nat} {v : Nat} : wp d 171 Q 77 (some (.ref v) :: L) st w cn sn = wp d 171 Q 78 (some (.ref v) :: L) (.ref v :: st) w cn sn := w_aload_n d_171_77 rfl
theorem d_171_78 : decode (mB 171) 78 = .ok (.iconst 1, 1) := by decide +kernel
theorem s_171_78 {d : Nat} {Q : wQ} {L : List (Option Value)} {st : List Value} {w : aw} {cn sn : Nat}  : wp d 171 Q 78 L st w cn sn = wp d 171 Q 79 L (.int 1 :: st) w cn sn := w_iconst d_171_78 (by decide)
theorem d_171_79 : decode (mB 171) 79 = .ok (.invokevirtual 332, 3) := by decide +kernel
theorem s_171_79 {d : Nat} {Q : wQ} {L : List (Option Value)} {st : List Value} {w : aw} {cn sn : Nat} {v0 : Value} {b : Nat} : wp d 171 Q 79 L (v0 :: .ref b :: st) w cn sn = (kd w b = 9 ∧ catS st ≤ 8 ∧ wpD d 170 [.ref b, v0] w (fun v w' => wp d 171 Q 82 L (v.toList ++ st) w' cn sn)) := w_virtual (As := [v0]) d_171_79 (by decide +kernel : cT (mO 171) 332 = some (0, 170)) rfl (by decide +kernel) rfl (by decide +kernel) rfl
theorem d_171_82 : decode (mB 171) 82 = .ok (.ifCond .eq 15, 3) := by decide +kernel
theorem s_171_82 {d : Nat} {Q : wQ} {L : List (Option Value)} {st : List Value} {w : aw} {cn sn : Nat} {x : Int32} : wp d 171 Q 82 L (.int x :: st) w cn sn = ((x = 0 → wp d 171 Q 97 L st w cn sn) ∧ (¬ x = 0 → wp d 171 Q 85 L st w cn sn)) := w_ifeq d_171_82 (by decide)
theorem d_171_85 : decode (mB 171) 85 = .ok (.aload_n 0, 1) := by decide +kernel
theorem s_171_85 {d : Nat} {Q : wQ} {L : List (Option Value)} {st : List Value} {w : aw} {cn sn : Nat} {v : Nat} : wp d 171 Q 85 (some (.ref v) :: L) st w cn sn = wp d 171 Q 86 (some (.ref v) :: L) (.ref v :: st) w cn sn := w_aload_n d_171_85 rfl
theorem d_171_86 : decode (mB 171) 86 = .ok (.iconst 2, 1) := by decide +kernel
theorem s_171_86 {d : Nat} {Q : wQ} {L : List (Option Value)} {st : List Value} {w : aw} {cn sn : Nat}  : wp d 171 Q 86 L st w cn sn = wp d 171 Q 87 L (.int 2 :: st) w cn sn := w_iconst d_171_86 (by decide)
theorem d_171_87 : decode (mB 171) 87 = .ok (.invokevirtual 332, 3) := by decide +kernel
theorem s_171_87 {d : Nat} {Q : wQ} {L : List (Option Value)} {st : List Value} {w : aw} {cn sn : Nat} {v0 : Value} {b : Nat} : wp d 171 Q 87 L (v0 :: .ref b :: st) w cn sn = (kd w b = 9 ∧ catS st ≤ 8 ∧ wpD d 170 [.ref b, v0] w (fun v w' => wp d 171 Q 90 L (v.toList ++ st) w' cn sn)) := w_virtual (As := [v0]) d_171_87 (by decide +kernel : cT (mO 171) 332 = some (0, 170)) rfl (by decide +kernel) rfl (by decide +kernel) rfl
theorem d_171_90 : decode (mB 171) 90 = .ok (.ifCond .eq 7, 3) := by decide +kernel
theorem s_171_90 {d : Nat} {Q : wQ} {L : List (Option Value)} {st : List Value} {w : aw} {cn sn : Nat} {x : Int32} : wp d 171 Q 90 L (.int x :: st) w cn sn = ((x = 0 → wp d 171 Q 97 L st w cn sn) ∧ (¬ x = 0 → wp d 171 Q 93 L st w cn sn)) := w_ifeq d_171_90 (by decide)
theorem d_171_93 : decode (mB 171) 93 = .ok (.iconst 1, 1) := by decide +kernel
theorem s_171_93 {d : Nat} {Q : wQ} {L : List (Option Value)} {st : List Value} {w : aw} {cn sn : Nat}  : wp d 171 Q 93 L st w cn sn = wp d 171 Q 94 L (.int 1 :: st) w cn sn := w_iconst d_171_93 (by decide)
theorem d_171_94 : decode (mB 171) 94 = .ok (.goto 4, 3) := by decide +kernel
theorem s_171_94 {d : Nat} {Q : wQ} {L : List (Option Value)} {st : List Value} {w : aw} {cn sn : Nat}  : wp d 171 Q 94 L st w cn sn = wp d 171 Q 98 L st w cn sn := w_goto d_171_94 (by decide)
theorem d_171_97 : decode (mB 171) 97 = .ok (.iconst 0, 1) := by decide +kernel
theorem s_171_97 {d : Nat} {Q : wQ} {L : List (Option Value)} {st : List Value} {w : aw} {cn sn : Nat}  : wp d 171 Q 97 L st w cn sn = wp d 171 Q 98 L (.int 0 :: st) w cn sn := w_iconst d_171_97 (by decide)
theorem d_171_98 : decode (mB 171) 98 = .ok (.istore_n 2, 1) := by decide +kernel
theorem s_171_98 {d : Nat} {Q : wQ} {L : List (Option Value)} {st : List Value} {w : aw} {cn sn : Nat} {a0 a1 a2 : Option Value} {v : Int32} : wp d 171 Q 98 (a0 :: a1 :: a2 :: L) (.int v :: st) w cn sn = wp d 171 Q 99 (a0 :: clr a1 :: some (.int v) :: L) st w cn sn := w_istore_n d_171_98 (Nat.le_add_left 3 _) rfl
theorem d_171_99 : decode (mB 171) 99 = .ok (.aload_n 0, 1) := by decide +kernel
theorem s_171_99 {d : Nat} {Q : wQ} {L : List (Option Value)} {st : List Value} {w : aw} {cn sn : Nat} {v : Nat} : wp d 171 Q 99 (some (.ref v) :: L) st w cn sn = wp d 171 Q 100 (some (.ref v) :: L) (.ref v :: st) w cn sn := w_aload_n d_171_99 rfl
theorem d_171_100 : decode (mB 171) 100 = .ok (.iconst 0, 1) := by decide +kernel
theorem s_171_100 {d : Nat} {Q : wQ} {L : List (Option Value)} {st : List Value} {w : aw} {cn sn : Nat}  : wp d 171 Q 100 L st w cn sn = wp d 171 Q 101 L (.int 0 :: st) w cn sn := w_iconst d_171_100 (by decide)
theorem d_171_101 : decode (mB 171) 101 = .ok (.putfield 193, 3) := by decide +kernel
theorem s_171_101 {d : Nat} {Q : wQ} {L : List (Option Value)} {st : List Value} {w : aw} {cn sn : Nat} {x : Int32} {a : Nat} : wp d 171 Q 101 L (.int x :: .ref a :: st) w cn sn = (kd w a = 9 ∧ wp d 171 Q 104 L st (uF w 543 a (.int x)) cn sn) := w_putfield d_171_101 (by decide +kernel : fT (mO 171) 193 = some (8, 31)) (by decide +kernel) ok_int
theorem d_171_104 : decode (mB 171) 104 = .ok (.iload_n 2, 1) := by decide +kernel
theorem s_171_104 {d : Nat} {Q : wQ} {L : List (Option Value)} {st : List Value} {w : aw} {cn sn : Nat} {a0 a1 : Option Value} {v : Int32} : wp d 171 Q 104 (a0 :: a1 :: some (.int v) :: L) st w cn sn = wp d 171 Q 105 (a0 :: a1 :: some (.int v) :: L) (.int v :: st) w cn sn := w_iload_n d_171_104 rfl
theorem d_171_105 : decode (mB 171) 105 = .ok (.ifCond .ne 6, 3) := by decide +kernel
theorem s_171_105 {d : Nat} {Q : wQ} {L : List (Option Value)} {st : List Value} {w : aw} {cn sn : Nat} {x : Int32} : wp d 171 Q 105 L (.int x :: st) w cn sn = ((¬ x = 0 → wp d 171 Q 111 L st w cn sn) ∧ (x = 0 → wp d 171 Q 108 L st w cn sn)) := w_ifne d_171_105 (by decide)
theorem d_171_108 : decode (mB 171) 108 = .ok (.bipush (-2), 2) := by decide +kernel
theorem s_171_108 {d : Nat} {Q : wQ} {L : List (Option Value)} {st : List Value} {w : aw} {cn sn : Nat}  : wp d 171 Q 108 L st w cn sn = wp d 171 Q 110 L (.int (-2) :: st) w cn sn := w_bipush d_171_108 (by decide)
theorem d_171_110 : decode (mB 171) 110 = .ok (.ireturn, 1) := by decide +kernel
theorem s_171_110 {d : Nat} {Q : wQ} {L : List (Option Value)} {w : aw} {cn sn : Nat} {v : Int32} : wp d 171 Q 110 L [.int v] w cn sn = Q (some (.int v)) w := w_ireturn d_171_110 rfl
theorem d_171_111 : decode (mB 171) 111 = .ok (.iconst 0, 1) := by decide +kernel
theorem s_171_111 {d : Nat} {Q : wQ} {L : List (Option Value)} {st : List Value} {w : aw} {cn sn : Nat}  : wp d 171 Q 111 L st w cn sn = wp d 171 Q 112 L (.int 0 :: st) w cn sn := w_iconst d_171_111 (by decide)
theorem d_171_112 : decode (mB 171) 112 = .ok (.istore_n 3, 1) := by decide +kernel
theorem s_171_112 {d : Nat} {Q : wQ} {L : List (Option Value)} {st : List Value} {w : aw} {cn sn : Nat} {a0 a1 a2 a3 : Option Value} {v : Int32} : wp d 171 Q 112 (a0 :: a1 :: a2 :: a3 :: L) (.int v :: st) w cn sn = wp d 171 Q 113 (a0 :: a1 :: clr a2 :: some (.int v) :: L) st w cn sn := w_istore_n d_171_112 (Nat.le_add_left 4 _) rfl
theorem d_171_113 : decode (mB 171) 113 = .ok (.iload_n 3, 1) := by decide +kernel
theorem s_171_113 {d : Nat} {Q : wQ} {L : List (Option Value)} {st : List Value} {w : aw} {cn sn : Nat} {a0 a1 a2 : Option Value} {v : Int32} : wp d 171 Q 113 (a0 :: a1 :: a2 :: some (.int v) :: L) st w cn sn = wp d 171 Q 114 (a0 :: a1 :: a2 :: some (.int v) :: L) (.int v :: st) w cn sn := w_iload_n d_171_113 rfl
theorem d_171_114 : decode (mB 171) 114 = .ok (.sipush 4096, 3) := by decide +kernel
theorem s_171_114 {d : Nat} {Q : wQ} {L : List (Option Value)} {st : List Value} {w : aw} {cn sn : Nat}  : wp d 171 Q 114 L st w cn sn = wp d 171 Q 117 L (.int 4096 :: st) w cn sn := w_sipush d_171_114 (by decide)
theorem d_171_117 : decode (mB 171) 117 = .ok (.if_icmp .ge 30, 3) := by decide +kernel
theorem s_171_117 {d : Nat} {Q : wQ} {L : List (Option Value)} {st : List Value} {w : aw} {cn sn : Nat} {a b : Int32} : wp d 171 Q 117 L (.int b :: .int a :: st) w cn sn = ((b ≤ a → wp d 171 Q 147 L st w cn sn) ∧ (¬ b ≤ a → wp d 171 Q 120 L st w cn sn)) := w_icge d_171_117 (by decide)
theorem d_171_120 : decode (mB 171) 120 = .ok (.aload_n 0, 1) := by decide +kernel
theorem s_171_120 {d : Nat} {Q : wQ} {L : List (Option Value)} {st : List Value} {w : aw} {cn sn : Nat} {v : Nat} : wp d 171 Q 120 (some (.ref v) :: L) st w cn sn = wp d 171 Q 121 (some (.ref v) :: L) (.ref v :: st) w cn sn := w_aload_n d_171_120 rfl
theorem d_171_121 : decode (mB 171) 121 = .ok (.getfield 82, 3) := by decide +kernel
theorem s_171_121 {d : Nat} {Q : wQ} {L : List (Option Value)} {st : List Value} {w : aw} {cn sn : Nat} {a : Nat} : wp d 171 Q 121 L (.ref a :: st) w cn sn = (kd w a = 9 ∧ wp d 171 Q 124 L (fd w 550 a :: st) w cn sn) := w_getfield d_171_121 (by decide +kernel : fT (mO 171) 82 = some (8, 38))
theorem d_171_124 : decode (mB 171) 124 = .ok (.iload_n 3, 1) := by decide +kernel
theorem s_171_124 {d : Nat} {Q : wQ} {L : List (Option Value)} {st : List Value} {w : aw} {cn sn : Nat} {a0 a1 a2 : Option Value} {v : Int32} : wp d 171 Q 124 (a0 :: a1 :: a2 :: some (.int v) :: L) st w cn sn = wp d 171 Q 125 (a0 :: a1 :: a2 :: some (.int v) :: L) (.int v :: st) w cn sn := w_iload_n d_171_124 rfl
theorem d_171_125 : decode (mB 171) 125 = .ok (.iaload, 1) := by decide +kernel
theorem s_171_125 {d : Nat} {Q : wQ} {L : List (Option Value)} {st : List Value} {w : aw} {cn sn : Nat} {a : Nat} {i : Int32} : wp d 171 Q 125 L (.int i :: .ref a :: st) w cn sn = ((kd w a = 20 ∨ kd w a = 30) ∧ inR i (ln w a) ∧ wp d 171 Q 126 L (.int (ai w a i.toNatClampNeg) :: st) w cn sn) := wp_row d_171_125 _ _ _ _ _
theorem d_171_126 : decode (mB 171) 126 = .ok (.ifCond .lt 15, 3) := by decide +kernel
theorem s_171_126 {d : Nat} {Q : wQ} {L : List (Option Value)} {st : List Value} {w : aw} {cn sn : Nat} {x : Int32} : wp d 171 Q 126 L (.int x :: st) w cn sn = ((x < 0 → wp d 171 Q 141 L st w cn sn) ∧ (¬ x < 0 → wp d 171 Q 129 L st w cn sn)) := w_iflt d_171_126 (by decide)
theorem d_171_129 : decode (mB 171) 129 = .ok (.aload_n 0, 1) := by decide +kernel
theorem s_171_129 {d : Nat} {Q : wQ} {L : List (Option Value)} {st : List Value} {w : aw} {cn sn : Nat} {v : Nat} : wp d 171 Q 129 (some (.ref v) :: L) st w cn sn = wp d 171 Q 130 (some (.ref v) :: L) (.ref v :: st) w cn sn := w_aload_n d_171_129 rfl
theorem d_171_130 : decode (mB 171) 130 = .ok (.iload_n 1, 1) := by decide +kernel
theorem s_171_130 {d : Nat} {Q : wQ} {L : List (Option Value)} {st : List Value} {w : aw} {cn sn : Nat} {a0 : Option Value} {v : Int32} : wp d 171 Q 130 (a0 :: some (.int v) :: L) st w cn sn = wp d 171 Q 131 (a0 :: some (.int v) :: L) (.int v :: st) w cn sn := w_iload_n d_171_130 rfl
theorem d_171_131 : decode (mB 171) 131 = .ok (.iload_n 3, 1) := by decide +kernel
theorem s_171_131 {d : Nat} {Q : wQ} {L : List (Option Value)} {st : List Value} {w : aw} {cn sn : Nat} {a0 a1 a2 : Option Value} {v : Int32} : wp d 171 Q 131 (a0 :: a1 :: a2 :: some (.int v) :: L) st w cn sn = wp d 171 Q 132 (a0 :: a1 :: a2 :: some (.int v) :: L) (.int v :: st) w cn sn := w_iload_n d_171_131 rfl
theorem d_171_132 : decode (mB 171) 132 = .ok (.aload_n 0, 1) := by decide +kernel
theorem s_171_132 {d : Nat} {Q : wQ} {L : List (Option Value)} {st : List Value} {w : aw} {cn sn : Nat} {v : Nat} : wp d 171 Q 132 (some (.ref v) :: L) st w cn sn = wp d 171 Q 133 (some (.ref v) :: L) (.ref v :: st) w cn sn := w_aload_n d_171_132 rfl
theorem d_171_133 : decode (mB 171) 133 = .ok (.getfield 82, 3) := by decide +kernel
theorem s_171_133 {d : Nat} {Q : wQ} {L : List (Option Value)} {st : List Value} {w : aw} {cn sn : Nat} {a : Nat} : wp d 171 Q 133 L (.ref a :: st) w cn sn = (kd w a = 9 ∧ wp d 171 Q 136 L (fd w 550 a :: st) w cn sn) := w_getfield d_171_133 (by decide +kernel : fT (mO 171) 82 = some (8, 38))
theorem d_171_136 : decode (mB 171) 136 = .ok (.iload_n 3, 1) := by decide +kernel
theorem s_171_136 {d : Nat} {Q : wQ} {L : List (Option Value)} {st : List Value} {w : aw} {cn sn : Nat} {a0 a1 a2 : Option Value} {v : Int32} : wp d 171 Q 136 (a0 :: a1 :: a2 :: some (.int v) :: L) st w cn sn = wp d 171 Q 137 (a0 :: a1 :: a2 :: some (.int v) :: L) (.int v :: st) w cn sn := w_iload_n d_171_136 rfl
theorem d_171_137 : decode (mB 171) 137 = .ok (.iaload, 1) := by decide +kernel
theorem s_171_137 {d : Nat} {Q : wQ} {L : List (Option Value)} {st : List Value} {w : aw} {cn sn : Nat} {a : Nat} {i : Int32} : wp d 171 Q 137 L (.int i :: .ref a :: st) w cn sn = ((kd w a = 20 ∨ kd w a = 30) ∧ inR i (ln w a) ∧ wp d 171 Q 138 L (.int (ai w a i.toNatClampNeg) :: st) w cn sn) := wp_row d_171_137 _ _ _ _ _
theorem d_171_138 : decode (mB 171) 138 = .ok (.invokevirtual 133, 3) := by decide +kernel
theorem s_171_138 {d : Nat} {Q : wQ} {L : List (Option Value)} {st : List Value} {w : aw} {cn sn : Nat} {v0 v1 v2 : Value} {b : Nat} : wp d 171 Q 138 L (v2 :: v1 :: v0 :: .ref b :: st) w cn sn = (kd w b = 9 ∧ catS st ≤ 8 ∧ wpD d 106 [.ref b, v0, v1, v2] w (fun v w' => wp d 171 Q 141 L (v.toList ++ st) w' cn sn)) := w_virtual (As := [v0, v1, v2]) d_171_138 (by decide +kernel : cT (mO 171) 133 = some (0, 106)) rfl (by decide +kernel) rfl (by decide +kernel) rfl
theorem d_171_141 : decode (mB 171) 141 = .ok (.iinc 3 1, 3) := by decide +kernel
theorem s_171_141 {d : Nat} {Q : wQ} {L : List (Option Value)} {st : List Value} {w : aw} {cn sn : Nat} {a0 a1 a2 : Option Value} {v : Int32} : wp d 171 Q 141 (a0 :: a1 :: a2 :: some (.int v) :: L) st w cn sn = wp d 171 Q 144 (a0 :: a1 :: clr a2 :: some (.int (v + 1)) :: L) st w cn sn := w_iinc d_171_141 rfl (by decide) rfl
theorem d_171_144 : decode (mB 171) 144 = .ok (.goto (-31), 3) := by decide +kernel
theorem s_171_144 {d : Nat} {Q : wQ} {L : List (Option Value)} {st : List Value} {w : aw} {cn sn : Nat}  : wp d 171 Q 144 L st w cn sn = wp d 171 Q 113 L st w cn sn := w_goto d_171_144 (by decide)
theorem d_171_147 : decode (mB 171) 147 = .ok (.aload_n 0, 1) := by decide +kernel
theorem s_171_147 {d : Nat} {Q : wQ} {L : List (Option Value)} {st : List Value} {w : aw} {cn sn : Nat} {v : Nat} : wp d 171 Q 147 (some (.ref v) :: L) st w cn sn = wp d 171 Q 148 (some (.ref v) :: L) (.ref v :: st) w cn sn := w_aload_n d_171_147 rfl
theorem d_171_148 : decode (mB 171) 148 = .ok (.getfield 299, 3) := by decide +kernel
theorem s_171_148 {d : Nat} {Q : wQ} {L : List (Option Value)} {st : List Value} {w : aw} {cn sn : Nat} {a : Nat} : wp d 171 Q 148 L (.ref a :: st) w cn sn = (kd w a = 9 ∧ wp d 171 Q 151 L (fd w 553 a :: st) w cn sn) := w_getfield d_171_148 (by decide +kernel : fT (mO 171) 299 = some (8, 41))
theorem d_171_151 : decode (mB 171) 151 = .ok (.ireturn, 1) := by decide +kernel
theorem s_171_151 {d : Nat} {Q : wQ} {L : List (Option Value)} {w : aw} {cn sn : Nat} {v : Int32} : wp d 171 Q 151 L [.int v] w cn sn = Q (some (.int v)) w := w_ireturn d_171_151 rfl
