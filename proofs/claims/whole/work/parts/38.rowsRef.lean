theorem d_168_0 : decode (mB 168) 0 = .ok (.sipush 512, 3) := by decide +kernel
theorem s_168_0 {d : Nat} {Q : wQ} {L : List (Option Value)} {st : List Value} {w : aw} {cn sn : Nat}  : wp d 168 Q 0 L st w cn sn = wp d 168 Q 3 L (.int 512 :: st) w cn sn := w_sipush d_168_0 (by decide)
theorem d_168_3 : decode (mB 168) 3 = .ok (.iload_n 1, 1) := by decide +kernel
theorem s_168_3 {d : Nat} {Q : wQ} {L : List (Option Value)} {st : List Value} {w : aw} {cn sn : Nat} {a0 : Option Value} {v : Int32} : wp d 168 Q 3 (a0 :: some (.int v) :: L) st w cn sn = wp d 168 Q 4 (a0 :: some (.int v) :: L) (.int v :: st) w cn sn := w_iload_n d_168_3 rfl
theorem d_168_4 : decode (mB 168) 4 = .ok (.imul, 1) := by decide +kernel
theorem s_168_4 {d : Nat} {Q : wQ} {L : List (Option Value)} {st : List Value} {w : aw} {cn sn : Nat} {a b : Int32} : wp d 168 Q 4 L (.int b :: .int a :: st) w cn sn = wp d 168 Q 5 L (.int (a * b) :: st) w cn sn := wp_row d_168_4 _ _ _ _ _
theorem d_168_5 : decode (mB 168) 5 = .ok (.istore_n 2, 1) := by decide +kernel
theorem s_168_5 {d : Nat} {Q : wQ} {L : List (Option Value)} {st : List Value} {w : aw} {cn sn : Nat} {a0 a1 a2 : Option Value} {v : Int32} : wp d 168 Q 5 (a0 :: a1 :: a2 :: L) (.int v :: st) w cn sn = wp d 168 Q 6 (a0 :: clr a1 :: some (.int v) :: L) st w cn sn := w_istore_n d_168_5 (Nat.le_add_left 3 _) rfl
theorem d_168_6 : decode (mB 168) 6 = .ok (.aload_n 0, 1) := by decide +kernel
theorem s_168_6 {d : Nat} {Q : wQ} {L : List (Option Value)} {st : List Value} {w : aw} {cn sn : Nat} {v : Nat} : wp d 168 Q 6 (some (.ref v) :: L) st w cn sn = wp d 168 Q 7 (some (.ref v) :: L) (.ref v :: st) w cn sn := w_aload_n d_168_6 rfl
theorem d_168_7 : decode (mB 168) 7 = .ok (.aload_n 0, 1) := by decide +kernel
theorem s_168_7 {d : Nat} {Q : wQ} {L : List (Option Value)} {st : List Value} {w : aw} {cn sn : Nat} {v : Nat} : wp d 168 Q 7 (some (.ref v) :: L) st w cn sn = wp d 168 Q 8 (some (.ref v) :: L) (.ref v :: st) w cn sn := w_aload_n d_168_7 rfl
theorem d_168_8 : decode (mB 168) 8 = .ok (.aload_n 0, 1) := by decide +kernel
theorem s_168_8 {d : Nat} {Q : wQ} {L : List (Option Value)} {st : List Value} {w : aw} {cn sn : Nat} {v : Nat} : wp d 168 Q 8 (some (.ref v) :: L) st w cn sn = wp d 168 Q 9 (some (.ref v) :: L) (.ref v :: st) w cn sn := w_aload_n d_168_8 rfl
theorem d_168_9 : decode (mB 168) 9 = .ok (.getfield 231, 3) := by decide +kernel
theorem s_168_9 {d : Nat} {Q : wQ} {L : List (Option Value)} {st : List Value} {w : aw} {cn sn : Nat} {a : Nat} : wp d 168 Q 9 L (.ref a :: st) w cn sn = (kd w a = 9 ∧ wp d 168 Q 12 L (fd w 555 a :: st) w cn sn) := w_getfield d_168_9 (by decide +kernel : fT (mO 168) 231 = some (8, 43))
theorem d_168_12 : decode (mB 168) 12 = .ok (.invokevirtual 240, 3) := by decide +kernel
theorem s_168_12 {d : Nat} {Q : wQ} {L : List (Option Value)} {st : List Value} {w : aw} {cn sn : Nat} {v0 : Value} {b : Nat} : wp d 168 Q 12 L (v0 :: .ref b :: st) w cn sn = (kd w b = 9 ∧ catS st ≤ 8 ∧ wpD d 149 [.ref b, v0] w (fun v w' => wp d 168 Q 15 L (v.toList ++ st) w' cn sn)) := w_virtual (As := [v0]) d_168_12 (by decide +kernel : cT (mO 168) 240 = some (0, 149)) rfl (by decide +kernel) rfl (by decide +kernel) rfl
theorem d_168_15 : decode (mB 168) 15 = .ok (.putfield 231, 3) := by decide +kernel
theorem s_168_15 {d : Nat} {Q : wQ} {L : List (Option Value)} {st : List Value} {w : aw} {cn sn : Nat} {x : Int32} {a : Nat} : wp d 168 Q 15 L (.int x :: .ref a :: st) w cn sn = (kd w a = 9 ∧ wp d 168 Q 18 L st (uF w 555 a (.int x)) cn sn) := w_putfield d_168_15 (by decide +kernel : fT (mO 168) 231 = some (8, 43)) (by decide +kernel) ok_int
theorem d_168_18 : decode (mB 168) 18 = .ok (.aload_n 0, 1) := by decide +kernel
theorem s_168_18 {d : Nat} {Q : wQ} {L : List (Option Value)} {st : List Value} {w : aw} {cn sn : Nat} {v : Nat} : wp d 168 Q 18 (some (.ref v) :: L) st w cn sn = wp d 168 Q 19 (some (.ref v) :: L) (.ref v :: st) w cn sn := w_aload_n d_168_18 rfl
theorem d_168_19 : decode (mB 168) 19 = .ok (.invokevirtual 267, 3) := by decide +kernel
theorem s_168_19 {d : Nat} {Q : wQ} {L : List (Option Value)} {st : List Value} {w : aw} {cn sn : Nat} {b : Nat} : wp d 168 Q 19 L (.ref b :: st) w cn sn = (kd w b = 9 ∧ catS st ≤ 8 ∧ wpD d 148 [.ref b] w (fun v w' => wp d 168 Q 22 L (v.toList ++ st) w' cn sn)) := w_virtual (As := []) d_168_19 (by decide +kernel : cT (mO 168) 267 = some (0, 148)) rfl (by decide +kernel) rfl (by decide +kernel) rfl
theorem d_168_22 : decode (mB 168) 22 = .ok (.aload_n 0, 1) := by decide +kernel
theorem s_168_22 {d : Nat} {Q : wQ} {L : List (Option Value)} {st : List Value} {w : aw} {cn sn : Nat} {v : Nat} : wp d 168 Q 22 (some (.ref v) :: L) st w cn sn = wp d 168 Q 23 (some (.ref v) :: L) (.ref v :: st) w cn sn := w_aload_n d_168_22 rfl
theorem d_168_23 : decode (mB 168) 23 = .ok (.invokevirtual 292, 3) := by decide +kernel
theorem s_168_23 {d : Nat} {Q : wQ} {L : List (Option Value)} {st : List Value} {w : aw} {cn sn : Nat} {b : Nat} : wp d 168 Q 23 L (.ref b :: st) w cn sn = (kd w b = 9 ∧ catS st ≤ 8 ∧ wpD d 156 [.ref b] w (fun v w' => wp d 168 Q 26 L (v.toList ++ st) w' cn sn)) := w_virtual (As := []) d_168_23 (by decide +kernel : cT (mO 168) 292 = some (0, 156)) rfl (by decide +kernel) rfl (by decide +kernel) rfl
theorem d_168_26 : decode (mB 168) 26 = .ok (.ifCond .eq 23, 3) := by decide +kernel
theorem s_168_26 {d : Nat} {Q : wQ} {L : List (Option Value)} {st : List Value} {w : aw} {cn sn : Nat} {x : Int32} : wp d 168 Q 26 L (.int x :: st) w cn sn = ((x = 0 → wp d 168 Q 49 L st w cn sn) ∧ (¬ x = 0 → wp d 168 Q 29 L st w cn sn)) := w_ifeq d_168_26 (by decide)
theorem d_168_29 : decode (mB 168) 29 = .ok (.iload_n 2, 1) := by decide +kernel
theorem s_168_29 {d : Nat} {Q : wQ} {L : List (Option Value)} {st : List Value} {w : aw} {cn sn : Nat} {a0 a1 : Option Value} {v : Int32} : wp d 168 Q 29 (a0 :: a1 :: some (.int v) :: L) st w cn sn = wp d 168 Q 30 (a0 :: a1 :: some (.int v) :: L) (.int v :: st) w cn sn := w_iload_n d_168_29 rfl
theorem d_168_30 : decode (mB 168) 30 = .ok (.sipush 256, 3) := by decide +kernel
theorem s_168_30 {d : Nat} {Q : wQ} {L : List (Option Value)} {st : List Value} {w : aw} {cn sn : Nat}  : wp d 168 Q 30 L st w cn sn = wp d 168 Q 33 L (.int 256 :: st) w cn sn := w_sipush d_168_30 (by decide)
theorem d_168_33 : decode (mB 168) 33 = .ok (.ior, 1) := by decide +kernel
theorem s_168_33 {d : Nat} {Q : wQ} {L : List (Option Value)} {st : List Value} {w : aw} {cn sn : Nat} {a b : Int32} : wp d 168 Q 33 L (.int b :: .int a :: st) w cn sn = wp d 168 Q 34 L (.int (a ||| b) :: st) w cn sn := wp_row d_168_33 _ _ _ _ _
theorem d_168_34 : decode (mB 168) 34 = .ok (.istore_n 2, 1) := by decide +kernel
theorem s_168_34 {d : Nat} {Q : wQ} {L : List (Option Value)} {st : List Value} {w : aw} {cn sn : Nat} {a0 a1 a2 : Option Value} {v : Int32} : wp d 168 Q 34 (a0 :: a1 :: a2 :: L) (.int v :: st) w cn sn = wp d 168 Q 35 (a0 :: clr a1 :: some (.int v) :: L) st w cn sn := w_istore_n d_168_34 (Nat.le_add_left 3 _) rfl
theorem d_168_35 : decode (mB 168) 35 = .ok (.aload_n 0, 1) := by decide +kernel
theorem s_168_35 {d : Nat} {Q : wQ} {L : List (Option Value)} {st : List Value} {w : aw} {cn sn : Nat} {v : Nat} : wp d 168 Q 35 (some (.ref v) :: L) st w cn sn = wp d 168 Q 36 (some (.ref v) :: L) (.ref v :: st) w cn sn := w_aload_n d_168_35 rfl
theorem d_168_36 : decode (mB 168) 36 = .ok (.dup, 1) := by decide +kernel
theorem s_168_36 {d : Nat} {Q : wQ} {L : List (Option Value)} {st : List Value} {w : aw} {cn sn : Nat} {v : Value} : wp d 168 Q 36 L (v :: st) w cn sn = (v.category = 1 ∧ wp d 168 Q 37 L (v :: v :: st) w cn sn) := wp_row d_168_36 _ _ _ _ _
theorem d_168_37 : decode (mB 168) 37 = .ok (.getfield 231, 3) := by decide +kernel
theorem s_168_37 {d : Nat} {Q : wQ} {L : List (Option Value)} {st : List Value} {w : aw} {cn sn : Nat} {a : Nat} : wp d 168 Q 37 L (.ref a :: st) w cn sn = (kd w a = 9 ∧ wp d 168 Q 40 L (fd w 555 a :: st) w cn sn) := w_getfield d_168_37 (by decide +kernel : fT (mO 168) 231 = some (8, 43))
theorem d_168_40 : decode (mB 168) 40 = .ok (.iconst 1, 1) := by decide +kernel
theorem s_168_40 {d : Nat} {Q : wQ} {L : List (Option Value)} {st : List Value} {w : aw} {cn sn : Nat}  : wp d 168 Q 40 L st w cn sn = wp d 168 Q 41 L (.int 1 :: st) w cn sn := w_iconst d_168_40 (by decide)
theorem d_168_41 : decode (mB 168) 41 = .ok (.iadd, 1) := by decide +kernel
theorem s_168_41 {d : Nat} {Q : wQ} {L : List (Option Value)} {st : List Value} {w : aw} {cn sn : Nat} {a b : Int32} : wp d 168 Q 41 L (.int b :: .int a :: st) w cn sn = wp d 168 Q 42 L (.int (a + b) :: st) w cn sn := wp_row d_168_41 _ _ _ _ _
theorem d_168_42 : decode (mB 168) 42 = .ok (.putfield 231, 3) := by decide +kernel
theorem s_168_42 {d : Nat} {Q : wQ} {L : List (Option Value)} {st : List Value} {w : aw} {cn sn : Nat} {x : Int32} {a : Nat} : wp d 168 Q 42 L (.int x :: .ref a :: st) w cn sn = (kd w a = 9 ∧ wp d 168 Q 45 L st (uF w 555 a (.int x)) cn sn) := w_putfield d_168_42 (by decide +kernel : fT (mO 168) 231 = some (8, 43)) (by decide +kernel) ok_int
theorem d_168_45 : decode (mB 168) 45 = .ok (.aload_n 0, 1) := by decide +kernel
theorem s_168_45 {d : Nat} {Q : wQ} {L : List (Option Value)} {st : List Value} {w : aw} {cn sn : Nat} {v : Nat} : wp d 168 Q 45 (some (.ref v) :: L) st w cn sn = wp d 168 Q 46 (some (.ref v) :: L) (.ref v :: st) w cn sn := w_aload_n d_168_45 rfl
theorem d_168_46 : decode (mB 168) 46 = .ok (.invokevirtual 267, 3) := by decide +kernel
theorem s_168_46 {d : Nat} {Q : wQ} {L : List (Option Value)} {st : List Value} {w : aw} {cn sn : Nat} {b : Nat} : wp d 168 Q 46 L (.ref b :: st) w cn sn = (kd w b = 9 ∧ catS st ≤ 8 ∧ wpD d 148 [.ref b] w (fun v w' => wp d 168 Q 49 L (v.toList ++ st) w' cn sn)) := w_virtual (As := []) d_168_46 (by decide +kernel : cT (mO 168) 267 = some (0, 148)) rfl (by decide +kernel) rfl (by decide +kernel) rfl
theorem d_168_49 : decode (mB 168) 49 = .ok (.aload_n 0, 1) := by decide +kernel
theorem s_168_49 {d : Nat} {Q : wQ} {L : List (Option Value)} {st : List Value} {w : aw} {cn sn : Nat} {v : Nat} : wp d 168 Q 49 (some (.ref v) :: L) st w cn sn = wp d 168 Q 50 (some (.ref v) :: L) (.ref v :: st) w cn sn := w_aload_n d_168_49 rfl
theorem d_168_50 : decode (mB 168) 50 = .ok (.aload_n 0, 1) := by decide +kernel
theorem s_168_50 {d : Nat} {Q : wQ} {L : List (Option Value)} {st : List Value} {w : aw} {cn sn : Nat} {v : Nat} : wp d 168 Q 50 (some (.ref v) :: L) st w cn sn = wp d 168 Q 51 (some (.ref v) :: L) (.ref v :: st) w cn sn := w_aload_n d_168_50 rfl
theorem d_168_51 : decode (mB 168) 51 = .ok (.getfield 231, 3) := by decide +kernel
theorem s_168_51 {d : Nat} {Q : wQ} {L : List (Option Value)} {st : List Value} {w : aw} {cn sn : Nat} {a : Nat} : wp d 168 Q 51 L (.ref a :: st) w cn sn = (kd w a = 9 ∧ wp d 168 Q 54 L (fd w 555 a :: st) w cn sn) := w_getfield d_168_51 (by decide +kernel : fT (mO 168) 231 = some (8, 43))
theorem d_168_54 : decode (mB 168) 54 = .ok (.invokevirtual 237, 3) := by decide +kernel
theorem s_168_54 {d : Nat} {Q : wQ} {L : List (Option Value)} {st : List Value} {w : aw} {cn sn : Nat} {v0 : Value} {b : Nat} : wp d 168 Q 54 L (v0 :: .ref b :: st) w cn sn = (kd w b = 9 ∧ catS st ≤ 8 ∧ wpD d 147 [.ref b, v0] w (fun v w' => wp d 168 Q 57 L (v.toList ++ st) w' cn sn)) := w_virtual (As := [v0]) d_168_54 (by decide +kernel : cT (mO 168) 237 = some (0, 147)) rfl (by decide +kernel) rfl (by decide +kernel) rfl
theorem d_168_57 : decode (mB 168) 57 = .ok (.bipush 40, 2) := by decide +kernel
theorem s_168_57 {d : Nat} {Q : wQ} {L : List (Option Value)} {st : List Value} {w : aw} {cn sn : Nat}  : wp d 168 Q 57 L st w cn sn = wp d 168 Q 59 L (.int 40 :: st) w cn sn := w_bipush d_168_57 (by decide)
theorem d_168_59 : decode (mB 168) 59 = .ok (.if_icmp .ne 18, 3) := by decide +kernel
theorem s_168_59 {d : Nat} {Q : wQ} {L : List (Option Value)} {st : List Value} {w : aw} {cn sn : Nat} {a b : Int32} : wp d 168 Q 59 L (.int b :: .int a :: st) w cn sn = ((¬ a = b → wp d 168 Q 77 L st w cn sn) ∧ (a = b → wp d 168 Q 62 L st w cn sn)) := w_icne d_168_59 (by decide)
theorem d_168_62 : decode (mB 168) 62 = .ok (.aload_n 0, 1) := by decide +kernel
theorem s_168_62 {d : Nat} {Q : wQ} {L : List (Option Value)} {st : List Value} {w : aw} {cn sn : Nat} {v : Nat} : wp d 168 Q 62 (some (.ref v) :: L) st w cn sn = wp d 168 Q 63 (some (.ref v) :: L) (.ref v :: st) w cn sn := w_aload_n d_168_62 rfl
theorem d_168_63 : decode (mB 168) 63 = .ok (.getfield 231, 3) := by decide +kernel
theorem s_168_63 {d : Nat} {Q : wQ} {L : List (Option Value)} {st : List Value} {w : aw} {cn sn : Nat} {a : Nat} : wp d 168 Q 63 L (.ref a :: st) w cn sn = (kd w a = 9 ∧ wp d 168 Q 66 L (fd w 555 a :: st) w cn sn) := w_getfield d_168_63 (by decide +kernel : fT (mO 168) 231 = some (8, 43))
theorem d_168_66 : decode (mB 168) 66 = .ok (.aload_n 0, 1) := by decide +kernel
theorem s_168_66 {d : Nat} {Q : wQ} {L : List (Option Value)} {st : List Value} {w : aw} {cn sn : Nat} {v : Nat} : wp d 168 Q 66 (some (.ref v) :: L) st w cn sn = wp d 168 Q 67 (some (.ref v) :: L) (.ref v :: st) w cn sn := w_aload_n d_168_66 rfl
theorem d_168_67 : decode (mB 168) 67 = .ok (.getfield 228, 3) := by decide +kernel
theorem s_168_67 {d : Nat} {Q : wQ} {L : List (Option Value)} {st : List Value} {w : aw} {cn sn : Nat} {a : Nat} : wp d 168 Q 67 L (.ref a :: st) w cn sn = (kd w a = 9 ∧ wp d 168 Q 70 L (fd w 556 a :: st) w cn sn) := w_getfield d_168_67 (by decide +kernel : fT (mO 168) 228 = some (8, 44))
theorem d_168_70 : decode (mB 168) 70 = .ok (.if_icmp .ge 7, 3) := by decide +kernel
theorem s_168_70 {d : Nat} {Q : wQ} {L : List (Option Value)} {st : List Value} {w : aw} {cn sn : Nat} {a b : Int32} : wp d 168 Q 70 L (.int b :: .int a :: st) w cn sn = ((b ≤ a → wp d 168 Q 77 L st w cn sn) ∧ (¬ b ≤ a → wp d 168 Q 73 L st w cn sn)) := w_icge d_168_70 (by decide)
theorem d_168_73 : decode (mB 168) 73 = .ok (.iconst 1, 1) := by decide +kernel
theorem s_168_73 {d : Nat} {Q : wQ} {L : List (Option Value)} {st : List Value} {w : aw} {cn sn : Nat}  : wp d 168 Q 73 L st w cn sn = wp d 168 Q 74 L (.int 1 :: st) w cn sn := w_iconst d_168_73 (by decide)
theorem d_168_74 : decode (mB 168) 74 = .ok (.goto 4, 3) := by decide +kernel
theorem s_168_74 {d : Nat} {Q : wQ} {L : List (Option Value)} {st : List Value} {w : aw} {cn sn : Nat}  : wp d 168 Q 74 L st w cn sn = wp d 168 Q 78 L st w cn sn := w_goto d_168_74 (by decide)
theorem d_168_77 : decode (mB 168) 77 = .ok (.iconst 0, 1) := by decide +kernel
theorem s_168_77 {d : Nat} {Q : wQ} {L : List (Option Value)} {st : List Value} {w : aw} {cn sn : Nat}  : wp d 168 Q 77 L st w cn sn = wp d 168 Q 78 L (.int 0 :: st) w cn sn := w_iconst d_168_77 (by decide)
theorem d_168_78 : decode (mB 168) 78 = .ok (.istore_n 3, 1) := by decide +kernel
theorem s_168_78 {d : Nat} {Q : wQ} {L : List (Option Value)} {st : List Value} {w : aw} {cn sn : Nat} {a0 a1 a2 a3 : Option Value} {v : Int32} : wp d 168 Q 78 (a0 :: a1 :: a2 :: a3 :: L) (.int v :: st) w cn sn = wp d 168 Q 79 (a0 :: a1 :: clr a2 :: some (.int v) :: L) st w cn sn := w_istore_n d_168_78 (Nat.le_add_left 4 _) rfl
theorem d_168_79 : decode (mB 168) 79 = .ok (.iload_n 3, 1) := by decide +kernel
theorem s_168_79 {d : Nat} {Q : wQ} {L : List (Option Value)} {st : List Value} {w : aw} {cn sn : Nat} {a0 a1 a2 : Option Value} {v : Int32} : wp d 168 Q 79 (a0 :: a1 :: a2 :: some (.int v) :: L) st w cn sn = wp d 168 Q 80 (a0 :: a1 :: a2 :: some (.int v) :: L) (.int v :: st) w cn sn := w_iload_n d_168_79 rfl
theorem d_168_80 : decode (mB 168) 80 = .ok (.ifCond .eq 17, 3) := by decide +kernel
theorem s_168_80 {d : Nat} {Q : wQ} {L : List (Option Value)} {st : List Value} {w : aw} {cn sn : Nat} {x : Int32} : wp d 168 Q 80 L (.int x :: st) w cn sn = ((x = 0 → wp d 168 Q 97 L st w cn sn) ∧ (¬ x = 0 → wp d 168 Q 83 L st w cn sn)) := w_ifeq d_168_80 (by decide)
theorem d_168_83 : decode (mB 168) 83 = .ok (.aload_n 0, 1) := by decide +kernel
theorem s_168_83 {d : Nat} {Q : wQ} {L : List (Option Value)} {st : List Value} {w : aw} {cn sn : Nat} {v : Nat} : wp d 168 Q 83 (some (.ref v) :: L) st w cn sn = wp d 168 Q 84 (some (.ref v) :: L) (.ref v :: st) w cn sn := w_aload_n d_168_83 rfl
theorem d_168_84 : decode (mB 168) 84 = .ok (.dup, 1) := by decide +kernel
theorem s_168_84 {d : Nat} {Q : wQ} {L : List (Option Value)} {st : List Value} {w : aw} {cn sn : Nat} {v : Value} : wp d 168 Q 84 L (v :: st) w cn sn = (v.category = 1 ∧ wp d 168 Q 85 L (v :: v :: st) w cn sn) := wp_row d_168_84 _ _ _ _ _
theorem d_168_85 : decode (mB 168) 85 = .ok (.getfield 231, 3) := by decide +kernel
theorem s_168_85 {d : Nat} {Q : wQ} {L : List (Option Value)} {st : List Value} {w : aw} {cn sn : Nat} {a : Nat} : wp d 168 Q 85 L (.ref a :: st) w cn sn = (kd w a = 9 ∧ wp d 168 Q 88 L (fd w 555 a :: st) w cn sn) := w_getfield d_168_85 (by decide +kernel : fT (mO 168) 231 = some (8, 43))
theorem d_168_88 : decode (mB 168) 88 = .ok (.iconst 1, 1) := by decide +kernel
theorem s_168_88 {d : Nat} {Q : wQ} {L : List (Option Value)} {st : List Value} {w : aw} {cn sn : Nat}  : wp d 168 Q 88 L st w cn sn = wp d 168 Q 89 L (.int 1 :: st) w cn sn := w_iconst d_168_88 (by decide)
theorem d_168_89 : decode (mB 168) 89 = .ok (.iadd, 1) := by decide +kernel
theorem s_168_89 {d : Nat} {Q : wQ} {L : List (Option Value)} {st : List Value} {w : aw} {cn sn : Nat} {a b : Int32} : wp d 168 Q 89 L (.int b :: .int a :: st) w cn sn = wp d 168 Q 90 L (.int (a + b) :: st) w cn sn := wp_row d_168_89 _ _ _ _ _
theorem d_168_90 : decode (mB 168) 90 = .ok (.putfield 231, 3) := by decide +kernel
theorem s_168_90 {d : Nat} {Q : wQ} {L : List (Option Value)} {st : List Value} {w : aw} {cn sn : Nat} {x : Int32} {a : Nat} : wp d 168 Q 90 L (.int x :: .ref a :: st) w cn sn = (kd w a = 9 ∧ wp d 168 Q 93 L st (uF w 555 a (.int x)) cn sn) := w_putfield d_168_90 (by decide +kernel : fT (mO 168) 231 = some (8, 43)) (by decide +kernel) ok_int
theorem d_168_93 : decode (mB 168) 93 = .ok (.aload_n 0, 1) := by decide +kernel
theorem s_168_93 {d : Nat} {Q : wQ} {L : List (Option Value)} {st : List Value} {w : aw} {cn sn : Nat} {v : Nat} : wp d 168 Q 93 (some (.ref v) :: L) st w cn sn = wp d 168 Q 94 (some (.ref v) :: L) (.ref v :: st) w cn sn := w_aload_n d_168_93 rfl
theorem d_168_94 : decode (mB 168) 94 = .ok (.invokevirtual 267, 3) := by decide +kernel
theorem s_168_94 {d : Nat} {Q : wQ} {L : List (Option Value)} {st : List Value} {w : aw} {cn sn : Nat} {b : Nat} : wp d 168 Q 94 L (.ref b :: st) w cn sn = (kd w b = 9 ∧ catS st ≤ 8 ∧ wpD d 148 [.ref b] w (fun v w' => wp d 168 Q 97 L (v.toList ++ st) w' cn sn)) := w_virtual (As := []) d_168_94 (by decide +kernel : cT (mO 168) 267 = some (0, 148)) rfl (by decide +kernel) rfl (by decide +kernel) rfl
theorem d_168_97 : decode (mB 168) 97 = .ok (.aload_n 0, 1) := by decide +kernel
theorem s_168_97 {d : Nat} {Q : wQ} {L : List (Option Value)} {st : List Value} {w : aw} {cn sn : Nat} {v : Nat} : wp d 168 Q 97 (some (.ref v) :: L) st w cn sn = wp d 168 Q 98 (some (.ref v) :: L) (.ref v :: st) w cn sn := w_aload_n d_168_97 rfl
theorem d_168_98 : decode (mB 168) 98 = .ok (.invokevirtual 274, 3) := by decide +kernel
theorem s_168_98 {d : Nat} {Q : wQ} {L : List (Option Value)} {st : List Value} {w : aw} {cn sn : Nat} {b : Nat} : wp d 168 Q 98 L (.ref b :: st) w cn sn = (kd w b = 9 ∧ catS st ≤ 8 ∧ wpD d 158 [.ref b] w (fun v w' => wp d 168 Q 101 L (v.toList ++ st) w' cn sn)) := w_virtual (As := []) d_168_98 (by decide +kernel : cT (mO 168) 274 = some (0, 158)) rfl (by decide +kernel) rfl (by decide +kernel) rfl
theorem d_168_101 : decode (mB 168) 101 = .ok (.istore 4, 2) := by decide +kernel
theorem s_168_101 {d : Nat} {Q : wQ} {L : List (Option Value)} {st : List Value} {w : aw} {cn sn : Nat} {a0 a1 a2 a3 a4 : Option Value} {v : Int32} : wp d 168 Q 101 (a0 :: a1 :: a2 :: a3 :: a4 :: L) (.int v :: st) w cn sn = wp d 168 Q 103 (a0 :: a1 :: a2 :: clr a3 :: some (.int v) :: L) st w cn sn := w_istore d_168_101 (Nat.le_add_left 5 _) rfl
theorem d_168_103 : decode (mB 168) 103 = .ok (.aload_n 0, 1) := by decide +kernel
theorem s_168_103 {d : Nat} {Q : wQ} {L : List (Option Value)} {st : List Value} {w : aw} {cn sn : Nat} {v : Nat} : wp d 168 Q 103 (some (.ref v) :: L) st w cn sn = wp d 168 Q 104 (some (.ref v) :: L) (.ref v :: st) w cn sn := w_aload_n d_168_103 rfl
theorem d_168_104 : decode (mB 168) 104 = .ok (.getfield 257, 3) := by decide +kernel
theorem s_168_104 {d : Nat} {Q : wQ} {L : List (Option Value)} {st : List Value} {w : aw} {cn sn : Nat} {a : Nat} : wp d 168 Q 104 L (.ref a :: st) w cn sn = (kd w a = 9 ∧ wp d 168 Q 107 L (fd w 558 a :: st) w cn sn) := w_getfield d_168_104 (by decide +kernel : fT (mO 168) 257 = some (8, 46))
theorem d_168_107 : decode (mB 168) 107 = .ok (.ifCond .ne 5, 3) := by decide +kernel
theorem s_168_107 {d : Nat} {Q : wQ} {L : List (Option Value)} {st : List Value} {w : aw} {cn sn : Nat} {x : Int32} : wp d 168 Q 107 L (.int x :: st) w cn sn = ((¬ x = 0 → wp d 168 Q 112 L st w cn sn) ∧ (x = 0 → wp d 168 Q 110 L st w cn sn)) := w_ifne d_168_107 (by decide)
theorem d_168_110 : decode (mB 168) 110 = .ok (.iconst 2, 1) := by decide +kernel
theorem s_168_110 {d : Nat} {Q : wQ} {L : List (Option Value)} {st : List Value} {w : aw} {cn sn : Nat}  : wp d 168 Q 110 L st w cn sn = wp d 168 Q 111 L (.int 2 :: st) w cn sn := w_iconst d_168_110 (by decide)
theorem d_168_111 : decode (mB 168) 111 = .ok (.ireturn, 1) := by decide +kernel
theorem s_168_111 {d : Nat} {Q : wQ} {L : List (Option Value)} {w : aw} {cn sn : Nat} {v : Int32} : wp d 168 Q 111 L [.int v] w cn sn = Q (some (.int v)) w := w_ireturn d_168_111 rfl
theorem d_168_112 : decode (mB 168) 112 = .ok (.iload_n 3, 1) := by decide +kernel
theorem s_168_112 {d : Nat} {Q : wQ} {L : List (Option Value)} {st : List Value} {w : aw} {cn sn : Nat} {a0 a1 a2 : Option Value} {v : Int32} : wp d 168 Q 112 (a0 :: a1 :: a2 :: some (.int v) :: L) st w cn sn = wp d 168 Q 113 (a0 :: a1 :: a2 :: some (.int v) :: L) (.int v :: st) w cn sn := w_iload_n d_168_112 rfl
theorem d_168_113 : decode (mB 168) 113 = .ok (.ifCond .eq 14, 3) := by decide +kernel
theorem s_168_113 {d : Nat} {Q : wQ} {L : List (Option Value)} {st : List Value} {w : aw} {cn sn : Nat} {x : Int32} : wp d 168 Q 113 L (.int x :: st) w cn sn = ((x = 0 → wp d 168 Q 127 L st w cn sn) ∧ (¬ x = 0 → wp d 168 Q 116 L st w cn sn)) := w_ifeq d_168_113 (by decide)
theorem d_168_116 : decode (mB 168) 116 = .ok (.aload_n 0, 1) := by decide +kernel
theorem s_168_116 {d : Nat} {Q : wQ} {L : List (Option Value)} {st : List Value} {w : aw} {cn sn : Nat} {v : Nat} : wp d 168 Q 116 (some (.ref v) :: L) st w cn sn = wp d 168 Q 117 (some (.ref v) :: L) (.ref v :: st) w cn sn := w_aload_n d_168_116 rfl
theorem d_168_117 : decode (mB 168) 117 = .ok (.aload_n 0, 1) := by decide +kernel
theorem s_168_117 {d : Nat} {Q : wQ} {L : List (Option Value)} {st : List Value} {w : aw} {cn sn : Nat} {v : Nat} : wp d 168 Q 117 (some (.ref v) :: L) st w cn sn = wp d 168 Q 118 (some (.ref v) :: L) (.ref v :: st) w cn sn := w_aload_n d_168_117 rfl
theorem d_168_118 : decode (mB 168) 118 = .ok (.getfield 261, 3) := by decide +kernel
theorem s_168_118 {d : Nat} {Q : wQ} {L : List (Option Value)} {st : List Value} {w : aw} {cn sn : Nat} {a : Nat} : wp d 168 Q 118 L (.ref a :: st) w cn sn = (kd w a = 9 ∧ wp d 168 Q 121 L (fd w 557 a :: st) w cn sn) := w_getfield d_168_118 (by decide +kernel : fT (mO 168) 261 = some (8, 45))
theorem d_168_121 : decode (mB 168) 121 = .ok (.invokevirtual 313, 3) := by decide +kernel
theorem s_168_121 {d : Nat} {Q : wQ} {L : List (Option Value)} {st : List Value} {w : aw} {cn sn : Nat} {v0 : Value} {b : Nat} : wp d 168 Q 121 L (v0 :: .ref b :: st) w cn sn = (kd w b = 9 ∧ catS st ≤ 8 ∧ wpD d 166 [.ref b, v0] w (fun v w' => wp d 168 Q 124 L (v.toList ++ st) w' cn sn)) := w_virtual (As := [v0]) d_168_121 (by decide +kernel : cT (mO 168) 313 = some (0, 166)) rfl (by decide +kernel) rfl (by decide +kernel) rfl
theorem d_168_124 : decode (mB 168) 124 = .ok (.goto 7, 3) := by decide +kernel
theorem s_168_124 {d : Nat} {Q : wQ} {L : List (Option Value)} {st : List Value} {w : aw} {cn sn : Nat}  : wp d 168 Q 124 L st w cn sn = wp d 168 Q 131 L st w cn sn := w_goto d_168_124 (by decide)
theorem d_168_127 : decode (mB 168) 127 = .ok (.aload_n 0, 1) := by decide +kernel
theorem s_168_127 {d : Nat} {Q : wQ} {L : List (Option Value)} {st : List Value} {w : aw} {cn sn : Nat} {v : Nat} : wp d 168 Q 127 (some (.ref v) :: L) st w cn sn = wp d 168 Q 128 (some (.ref v) :: L) (.ref v :: st) w cn sn := w_aload_n d_168_127 rfl
theorem d_168_128 : decode (mB 168) 128 = .ok (.getfield 261, 3) := by decide +kernel
theorem s_168_128 {d : Nat} {Q : wQ} {L : List (Option Value)} {st : List Value} {w : aw} {cn sn : Nat} {a : Nat} : wp d 168 Q 128 L (.ref a :: st) w cn sn = (kd w a = 9 ∧ wp d 168 Q 131 L (fd w 557 a :: st) w cn sn) := w_getfield d_168_128 (by decide +kernel : fT (mO 168) 261 = some (8, 45))
theorem d_168_131 : decode (mB 168) 131 = .ok (.istore 5, 2) := by decide +kernel
theorem s_168_131 {d : Nat} {Q : wQ} {L : List (Option Value)} {st : List Value} {w : aw} {cn sn : Nat} {a0 a1 a2 a3 a4 a5 : Option Value} {v : Int32} : wp d 168 Q 131 (a0 :: a1 :: a2 :: a3 :: a4 :: a5 :: L) (.int v :: st) w cn sn = wp d 168 Q 133 (a0 :: a1 :: a2 :: a3 :: clr a4 :: some (.int v) :: L) st w cn sn := w_istore d_168_131 (Nat.le_add_left 6 _) rfl
theorem d_168_133 : decode (mB 168) 133 = .ok (.iload 5, 2) := by decide +kernel
theorem s_168_133 {d : Nat} {Q : wQ} {L : List (Option Value)} {st : List Value} {w : aw} {cn sn : Nat} {a0 a1 a2 a3 a4 : Option Value} {v : Int32} : wp d 168 Q 133 (a0 :: a1 :: a2 :: a3 :: a4 :: some (.int v) :: L) st w cn sn = wp d 168 Q 135 (a0 :: a1 :: a2 :: a3 :: a4 :: some (.int v) :: L) (.int v :: st) w cn sn := w_iload d_168_133 rfl
theorem d_168_135 : decode (mB 168) 135 = .ok (.ifCond .ge 5, 3) := by decide +kernel
theorem s_168_135 {d : Nat} {Q : wQ} {L : List (Option Value)} {st : List Value} {w : aw} {cn sn : Nat} {x : Int32} : wp d 168 Q 135 L (.int x :: st) w cn sn = ((0 ≤ x → wp d 168 Q 140 L st w cn sn) ∧ (¬ 0 ≤ x → wp d 168 Q 138 L st w cn sn)) := w_ifge d_168_135 (by decide)
theorem d_168_138 : decode (mB 168) 138 = .ok (.iconst 5, 1) := by decide +kernel
theorem s_168_138 {d : Nat} {Q : wQ} {L : List (Option Value)} {st : List Value} {w : aw} {cn sn : Nat}  : wp d 168 Q 138 L st w cn sn = wp d 168 Q 139 L (.int 5 :: st) w cn sn := w_iconst d_168_138 (by decide)
theorem d_168_139 : decode (mB 168) 139 = .ok (.ireturn, 1) := by decide +kernel
theorem s_168_139 {d : Nat} {Q : wQ} {L : List (Option Value)} {w : aw} {cn sn : Nat} {v : Int32} : wp d 168 Q 139 L [.int v] w cn sn = Q (some (.int v)) w := w_ireturn d_168_139 rfl
theorem d_168_140 : decode (mB 168) 140 = .ok (.iload 5, 2) := by decide +kernel
theorem s_168_140 {d : Nat} {Q : wQ} {L : List (Option Value)} {st : List Value} {w : aw} {cn sn : Nat} {a0 a1 a2 a3 a4 : Option Value} {v : Int32} : wp d 168 Q 140 (a0 :: a1 :: a2 :: a3 :: a4 :: some (.int v) :: L) st w cn sn = wp d 168 Q 142 (a0 :: a1 :: a2 :: a3 :: a4 :: some (.int v) :: L) (.int v :: st) w cn sn := w_iload d_168_140 rfl
theorem d_168_142 : decode (mB 168) 142 = .ok (.sipush 128, 3) := by decide +kernel
theorem s_168_142 {d : Nat} {Q : wQ} {L : List (Option Value)} {st : List Value} {w : aw} {cn sn : Nat}  : wp d 168 Q 142 L st w cn sn = wp d 168 Q 145 L (.int 128 :: st) w cn sn := w_sipush d_168_142 (by decide)
theorem d_168_145 : decode (mB 168) 145 = .ok (.if_icmp .lt 22, 3) := by decide +kernel
theorem s_168_145 {d : Nat} {Q : wQ} {L : List (Option Value)} {st : List Value} {w : aw} {cn sn : Nat} {a b : Int32} : wp d 168 Q 145 L (.int b :: .int a :: st) w cn sn = ((a < b → wp d 168 Q 167 L st w cn sn) ∧ (¬ a < b → wp d 168 Q 148 L st w cn sn)) := w_iclt d_168_145 (by decide)
theorem d_168_148 : decode (mB 168) 148 = .ok (.iload 5, 2) := by decide +kernel
theorem s_168_148 {d : Nat} {Q : wQ} {L : List (Option Value)} {st : List Value} {w : aw} {cn sn : Nat} {a0 a1 a2 a3 a4 : Option Value} {v : Int32} : wp d 168 Q 148 (a0 :: a1 :: a2 :: a3 :: a4 :: some (.int v) :: L) st w cn sn = wp d 168 Q 150 (a0 :: a1 :: a2 :: a3 :: a4 :: some (.int v) :: L) (.int v :: st) w cn sn := w_iload d_168_148 rfl
theorem d_168_150 : decode (mB 168) 150 = .ok (.sipush 3968, 3) := by decide +kernel
theorem s_168_150 {d : Nat} {Q : wQ} {L : List (Option Value)} {st : List Value} {w : aw} {cn sn : Nat}  : wp d 168 Q 150 L st w cn sn = wp d 168 Q 153 L (.int 3968 :: st) w cn sn := w_sipush d_168_150 (by decide)
theorem d_168_153 : decode (mB 168) 153 = .ok (.iand, 1) := by decide +kernel
theorem s_168_153 {d : Nat} {Q : wQ} {L : List (Option Value)} {st : List Value} {w : aw} {cn sn : Nat} {a b : Int32} : wp d 168 Q 153 L (.int b :: .int a :: st) w cn sn = wp d 168 Q 154 L (.int (a &&& b) :: st) w cn sn := wp_row d_168_153 _ _ _ _ _
theorem d_168_154 : decode (mB 168) 154 = .ok (.aload_n 0, 1) := by decide +kernel
theorem s_168_154 {d : Nat} {Q : wQ} {L : List (Option Value)} {st : List Value} {w : aw} {cn sn : Nat} {v : Nat} : wp d 168 Q 154 (some (.ref v) :: L) st w cn sn = wp d 168 Q 155 (some (.ref v) :: L) (.ref v :: st) w cn sn := w_aload_n d_168_154 rfl
theorem d_168_155 : decode (mB 168) 155 = .ok (.getfield 254, 3) := by decide +kernel
theorem s_168_155 {d : Nat} {Q : wQ} {L : List (Option Value)} {st : List Value} {w : aw} {cn sn : Nat} {a : Nat} : wp d 168 Q 155 L (.ref a :: st) w cn sn = (kd w a = 9 ∧ wp d 168 Q 158 L (fd w 554 a :: st) w cn sn) := w_getfield d_168_155 (by decide +kernel : fT (mO 168) 254 = some (8, 42))
theorem d_168_158 : decode (mB 168) 158 = .ok (.sipush 3968, 3) := by decide +kernel
theorem s_168_158 {d : Nat} {Q : wQ} {L : List (Option Value)} {st : List Value} {w : aw} {cn sn : Nat}  : wp d 168 Q 158 L st w cn sn = wp d 168 Q 161 L (.int 3968 :: st) w cn sn := w_sipush d_168_158 (by decide)
theorem d_168_161 : decode (mB 168) 161 = .ok (.iand, 1) := by decide +kernel
theorem s_168_161 {d : Nat} {Q : wQ} {L : List (Option Value)} {st : List Value} {w : aw} {cn sn : Nat} {a b : Int32} : wp d 168 Q 161 L (.int b :: .int a :: st) w cn sn = wp d 168 Q 162 L (.int (a &&& b) :: st) w cn sn := wp_row d_168_161 _ _ _ _ _
theorem d_168_162 : decode (mB 168) 162 = .ok (.if_icmp .eq 5, 3) := by decide +kernel
theorem s_168_162 {d : Nat} {Q : wQ} {L : List (Option Value)} {st : List Value} {w : aw} {cn sn : Nat} {a b : Int32} : wp d 168 Q 162 L (.int b :: .int a :: st) w cn sn = ((a = b → wp d 168 Q 167 L st w cn sn) ∧ (¬ a = b → wp d 168 Q 165 L st w cn sn)) := w_iceq d_168_162 (by decide)
theorem d_168_165 : decode (mB 168) 165 = .ok (.iconst 4, 1) := by decide +kernel
theorem s_168_165 {d : Nat} {Q : wQ} {L : List (Option Value)} {st : List Value} {w : aw} {cn sn : Nat}  : wp d 168 Q 165 L st w cn sn = wp d 168 Q 166 L (.int 4 :: st) w cn sn := w_iconst d_168_165 (by decide)
theorem d_168_166 : decode (mB 168) 166 = .ok (.ireturn, 1) := by decide +kernel
theorem s_168_166 {d : Nat} {Q : wQ} {L : List (Option Value)} {w : aw} {cn sn : Nat} {v : Int32} : wp d 168 Q 166 L [.int v] w cn sn = Q (some (.int v)) w := w_ireturn d_168_166 rfl
theorem d_168_167 : decode (mB 168) 167 = .ok (.aload_n 0, 1) := by decide +kernel
theorem s_168_167 {d : Nat} {Q : wQ} {L : List (Option Value)} {st : List Value} {w : aw} {cn sn : Nat} {v : Nat} : wp d 168 Q 167 (some (.ref v) :: L) st w cn sn = wp d 168 Q 168 (some (.ref v) :: L) (.ref v :: st) w cn sn := w_aload_n d_168_167 rfl
theorem d_168_168 : decode (mB 168) 168 = .ok (.aload_n 0, 1) := by decide +kernel
theorem s_168_168 {d : Nat} {Q : wQ} {L : List (Option Value)} {st : List Value} {w : aw} {cn sn : Nat} {v : Nat} : wp d 168 Q 168 (some (.ref v) :: L) st w cn sn = wp d 168 Q 169 (some (.ref v) :: L) (.ref v :: st) w cn sn := w_aload_n d_168_168 rfl
theorem d_168_169 : decode (mB 168) 169 = .ok (.getfield 254, 3) := by decide +kernel
theorem s_168_169 {d : Nat} {Q : wQ} {L : List (Option Value)} {st : List Value} {w : aw} {cn sn : Nat} {a : Nat} : wp d 168 Q 169 L (.ref a :: st) w cn sn = (kd w a = 9 ∧ wp d 168 Q 172 L (fd w 554 a :: st) w cn sn) := w_getfield d_168_169 (by decide +kernel : fT (mO 168) 254 = some (8, 42))
theorem d_168_172 : decode (mB 168) 172 = .ok (.iload_n 2, 1) := by decide +kernel
theorem s_168_172 {d : Nat} {Q : wQ} {L : List (Option Value)} {st : List Value} {w : aw} {cn sn : Nat} {a0 a1 : Option Value} {v : Int32} : wp d 168 Q 172 (a0 :: a1 :: some (.int v) :: L) st w cn sn = wp d 168 Q 173 (a0 :: a1 :: some (.int v) :: L) (.int v :: st) w cn sn := w_iload_n d_168_172 rfl
theorem d_168_173 : decode (mB 168) 173 = .ok (.iload 5, 2) := by decide +kernel
theorem s_168_173 {d : Nat} {Q : wQ} {L : List (Option Value)} {st : List Value} {w : aw} {cn sn : Nat} {a0 a1 a2 a3 a4 : Option Value} {v : Int32} : wp d 168 Q 173 (a0 :: a1 :: a2 :: a3 :: a4 :: some (.int v) :: L) st w cn sn = wp d 168 Q 175 (a0 :: a1 :: a2 :: a3 :: a4 :: some (.int v) :: L) (.int v :: st) w cn sn := w_iload d_168_173 rfl
theorem d_168_175 : decode (mB 168) 175 = .ok (.sipush 128, 3) := by decide +kernel
theorem s_168_175 {d : Nat} {Q : wQ} {L : List (Option Value)} {st : List Value} {w : aw} {cn sn : Nat}  : wp d 168 Q 175 L st w cn sn = wp d 168 Q 178 L (.int 128 :: st) w cn sn := w_sipush d_168_175 (by decide)
theorem d_168_178 : decode (mB 168) 178 = .ok (.if_icmp .ge 8, 3) := by decide +kernel
theorem s_168_178 {d : Nat} {Q : wQ} {L : List (Option Value)} {st : List Value} {w : aw} {cn sn : Nat} {a b : Int32} : wp d 168 Q 178 L (.int b :: .int a :: st) w cn sn = ((b ≤ a → wp d 168 Q 186 L st w cn sn) ∧ (¬ b ≤ a → wp d 168 Q 181 L st w cn sn)) := w_icge d_168_178 (by decide)
theorem d_168_181 : decode (mB 168) 181 = .ok (.iload 5, 2) := by decide +kernel
theorem s_168_181 {d : Nat} {Q : wQ} {L : List (Option Value)} {st : List Value} {w : aw} {cn sn : Nat} {a0 a1 a2 a3 a4 : Option Value} {v : Int32} : wp d 168 Q 181 (a0 :: a1 :: a2 :: a3 :: a4 :: some (.int v) :: L) st w cn sn = wp d 168 Q 183 (a0 :: a1 :: a2 :: a3 :: a4 :: some (.int v) :: L) (.int v :: st) w cn sn := w_iload d_168_181 rfl
theorem d_168_183 : decode (mB 168) 183 = .ok (.goto 12, 3) := by decide +kernel
theorem s_168_183 {d : Nat} {Q : wQ} {L : List (Option Value)} {st : List Value} {w : aw} {cn sn : Nat}  : wp d 168 Q 183 L st w cn sn = wp d 168 Q 195 L st w cn sn := w_goto d_168_183 (by decide)
theorem d_168_186 : decode (mB 168) 186 = .ok (.sipush 128, 3) := by decide +kernel
theorem s_168_186 {d : Nat} {Q : wQ} {L : List (Option Value)} {st : List Value} {w : aw} {cn sn : Nat}  : wp d 168 Q 186 L st w cn sn = wp d 168 Q 189 L (.int 128 :: st) w cn sn := w_sipush d_168_186 (by decide)
theorem d_168_189 : decode (mB 168) 189 = .ok (.iload 5, 2) := by decide +kernel
theorem s_168_189 {d : Nat} {Q : wQ} {L : List (Option Value)} {st : List Value} {w : aw} {cn sn : Nat} {a0 a1 a2 a3 a4 : Option Value} {v : Int32} : wp d 168 Q 189 (a0 :: a1 :: a2 :: a3 :: a4 :: some (.int v) :: L) st w cn sn = wp d 168 Q 191 (a0 :: a1 :: a2 :: a3 :: a4 :: some (.int v) :: L) (.int v :: st) w cn sn := w_iload d_168_189 rfl
theorem d_168_191 : decode (mB 168) 191 = .ok (.bipush 127, 2) := by decide +kernel
theorem s_168_191 {d : Nat} {Q : wQ} {L : List (Option Value)} {st : List Value} {w : aw} {cn sn : Nat}  : wp d 168 Q 191 L st w cn sn = wp d 168 Q 193 L (.int 127 :: st) w cn sn := w_bipush d_168_191 (by decide)
theorem d_168_193 : decode (mB 168) 193 = .ok (.iand, 1) := by decide +kernel
theorem s_168_193 {d : Nat} {Q : wQ} {L : List (Option Value)} {st : List Value} {w : aw} {cn sn : Nat} {a b : Int32} : wp d 168 Q 193 L (.int b :: .int a :: st) w cn sn = wp d 168 Q 194 L (.int (a &&& b) :: st) w cn sn := wp_row d_168_193 _ _ _ _ _
theorem d_168_194 : decode (mB 168) 194 = .ok (.ior, 1) := by decide +kernel
theorem s_168_194 {d : Nat} {Q : wQ} {L : List (Option Value)} {st : List Value} {w : aw} {cn sn : Nat} {a b : Int32} : wp d 168 Q 194 L (.int b :: .int a :: st) w cn sn = wp d 168 Q 195 L (.int (a ||| b) :: st) w cn sn := wp_row d_168_194 _ _ _ _ _
theorem d_168_195 : decode (mB 168) 195 = .ok (.ior, 1) := by decide +kernel
theorem s_168_195 {d : Nat} {Q : wQ} {L : List (Option Value)} {st : List Value} {w : aw} {cn sn : Nat} {a b : Int32} : wp d 168 Q 195 L (.int b :: .int a :: st) w cn sn = wp d 168 Q 196 L (.int (a ||| b) :: st) w cn sn := wp_row d_168_195 _ _ _ _ _
theorem d_168_196 : decode (mB 168) 196 = .ok (.iconst 0, 1) := by decide +kernel
theorem s_168_196 {d : Nat} {Q : wQ} {L : List (Option Value)} {st : List Value} {w : aw} {cn sn : Nat}  : wp d 168 Q 196 L st w cn sn = wp d 168 Q 197 L (.int 0 :: st) w cn sn := w_iconst d_168_196 (by decide)
theorem d_168_197 : decode (mB 168) 197 = .ok (.invokevirtual 302, 3) := by decide +kernel
theorem s_168_197 {d : Nat} {Q : wQ} {L : List (Option Value)} {st : List Value} {w : aw} {cn sn : Nat} {v0 v1 v2 : Value} {b : Nat} : wp d 168 Q 197 L (v2 :: v1 :: v0 :: .ref b :: st) w cn sn = (kd w b = 9 ∧ catS st ≤ 8 ∧ wpD d 165 [.ref b, v0, v1, v2] w (fun v w' => wp d 168 Q 200 L (v.toList ++ st) w' cn sn)) := w_virtual (As := [v0, v1, v2]) d_168_197 (by decide +kernel : cT (mO 168) 302 = some (0, 165)) rfl (by decide +kernel) rfl (by decide +kernel) rfl
theorem d_168_200 : decode (mB 168) 200 = .ok (.istore 6, 2) := by decide +kernel
theorem s_168_200 {d : Nat} {Q : wQ} {L : List (Option Value)} {st : List Value} {w : aw} {cn sn : Nat} {a0 a1 a2 a3 a4 a5 a6 : Option Value} {v : Int32} : wp d 168 Q 200 (a0 :: a1 :: a2 :: a3 :: a4 :: a5 :: a6 :: L) (.int v :: st) w cn sn = wp d 168 Q 202 (a0 :: a1 :: a2 :: a3 :: a4 :: clr a5 :: some (.int v) :: L) st w cn sn := w_istore d_168_200 (Nat.le_add_left 7 _) rfl
theorem d_168_202 : decode (mB 168) 202 = .ok (.aload_n 0, 1) := by decide +kernel
theorem s_168_202 {d : Nat} {Q : wQ} {L : List (Option Value)} {st : List Value} {w : aw} {cn sn : Nat} {v : Nat} : wp d 168 Q 202 (some (.ref v) :: L) st w cn sn = wp d 168 Q 203 (some (.ref v) :: L) (.ref v :: st) w cn sn := w_aload_n d_168_202 rfl
theorem d_168_203 : decode (mB 168) 203 = .ok (.aload_n 0, 1) := by decide +kernel
theorem s_168_203 {d : Nat} {Q : wQ} {L : List (Option Value)} {st : List Value} {w : aw} {cn sn : Nat} {v : Nat} : wp d 168 Q 203 (some (.ref v) :: L) st w cn sn = wp d 168 Q 204 (some (.ref v) :: L) (.ref v :: st) w cn sn := w_aload_n d_168_203 rfl
theorem d_168_204 : decode (mB 168) 204 = .ok (.getfield 254, 3) := by decide +kernel
theorem s_168_204 {d : Nat} {Q : wQ} {L : List (Option Value)} {st : List Value} {w : aw} {cn sn : Nat} {a : Nat} : wp d 168 Q 204 L (.ref a :: st) w cn sn = (kd w a = 9 ∧ wp d 168 Q 207 L (fd w 554 a :: st) w cn sn) := w_getfield d_168_204 (by decide +kernel : fT (mO 168) 254 = some (8, 42))
theorem d_168_207 : decode (mB 168) 207 = .ok (.iconst 1, 1) := by decide +kernel
theorem s_168_207 {d : Nat} {Q : wQ} {L : List (Option Value)} {st : List Value} {w : aw} {cn sn : Nat}  : wp d 168 Q 207 L st w cn sn = wp d 168 Q 208 L (.int 1 :: st) w cn sn := w_iconst d_168_207 (by decide)
theorem d_168_208 : decode (mB 168) 208 = .ok (.iadd, 1) := by decide +kernel
theorem s_168_208 {d : Nat} {Q : wQ} {L : List (Option Value)} {st : List Value} {w : aw} {cn sn : Nat} {a b : Int32} : wp d 168 Q 208 L (.int b :: .int a :: st) w cn sn = wp d 168 Q 209 L (.int (a + b) :: st) w cn sn := wp_row d_168_208 _ _ _ _ _
theorem d_168_209 : decode (mB 168) 209 = .ok (.sipush 4095, 3) := by decide +kernel
theorem s_168_209 {d : Nat} {Q : wQ} {L : List (Option Value)} {st : List Value} {w : aw} {cn sn : Nat}  : wp d 168 Q 209 L st w cn sn = wp d 168 Q 212 L (.int 4095 :: st) w cn sn := w_sipush d_168_209 (by decide)
theorem d_168_212 : decode (mB 168) 212 = .ok (.iand, 1) := by decide +kernel
theorem s_168_212 {d : Nat} {Q : wQ} {L : List (Option Value)} {st : List Value} {w : aw} {cn sn : Nat} {a b : Int32} : wp d 168 Q 212 L (.int b :: .int a :: st) w cn sn = wp d 168 Q 213 L (.int (a &&& b) :: st) w cn sn := wp_row d_168_212 _ _ _ _ _
theorem d_168_213 : decode (mB 168) 213 = .ok (.putfield 254, 3) := by decide +kernel
theorem s_168_213 {d : Nat} {Q : wQ} {L : List (Option Value)} {st : List Value} {w : aw} {cn sn : Nat} {x : Int32} {a : Nat} : wp d 168 Q 213 L (.int x :: .ref a :: st) w cn sn = (kd w a = 9 ∧ wp d 168 Q 216 L st (uF w 554 a (.int x)) cn sn) := w_putfield d_168_213 (by decide +kernel : fT (mO 168) 254 = some (8, 42)) (by decide +kernel) ok_int
theorem d_168_216 : decode (mB 168) 216 = .ok (.iload 6, 2) := by decide +kernel
theorem s_168_216 {d : Nat} {Q : wQ} {L : List (Option Value)} {st : List Value} {w : aw} {cn sn : Nat} {a0 a1 a2 a3 a4 a5 : Option Value} {v : Int32} : wp d 168 Q 216 (a0 :: a1 :: a2 :: a3 :: a4 :: a5 :: some (.int v) :: L) st w cn sn = wp d 168 Q 218 (a0 :: a1 :: a2 :: a3 :: a4 :: a5 :: some (.int v) :: L) (.int v :: st) w cn sn := w_iload d_168_216 rfl
theorem d_168_218 : decode (mB 168) 218 = .ok (.ireturn, 1) := by decide +kernel
theorem s_168_218 {d : Nat} {Q : wQ} {L : List (Option Value)} {w : aw} {cn sn : Nat} {v : Int32} : wp d 168 Q 218 L [.int v] w cn sn = Q (some (.int v)) w := w_ireturn d_168_218 rfl
theorem d_169_0 : decode (mB 169) 0 = .ok (.iconst 0, 1) := by decide +kernel
theorem s_169_0 {d : Nat} {Q : wQ} {L : List (Option Value)} {st : List Value} {w : aw} {cn sn : Nat}  : wp d 169 Q 0 L st w cn sn = wp d 169 Q 1 L (.int 0 :: st) w cn sn := w_iconst d_169_0 (by decide)
theorem d_169_1 : decode (mB 169) 1 = .ok (.istore_n 1, 1) := by decide +kernel
theorem s_169_1 {d : Nat} {Q : wQ} {L : List (Option Value)} {st : List Value} {w : aw} {cn sn : Nat} {a0 a1 : Option Value} {v : Int32} : wp d 169 Q 1 (a0 :: a1 :: L) (.int v :: st) w cn sn = wp d 169 Q 2 (clr a0 :: some (.int v) :: L) st w cn sn := w_istore_n d_169_1 (Nat.le_add_left 2 _) rfl
theorem d_169_2 : decode (mB 169) 2 = .ok (.iconst 1, 1) := by decide +kernel
theorem s_169_2 {d : Nat} {Q : wQ} {L : List (Option Value)} {st : List Value} {w : aw} {cn sn : Nat}  : wp d 169 Q 2 L st w cn sn = wp d 169 Q 3 L (.int 1 :: st) w cn sn := w_iconst d_169_2 (by decide)
theorem d_169_3 : decode (mB 169) 3 = .ok (.istore_n 2, 1) := by decide +kernel
theorem s_169_3 {d : Nat} {Q : wQ} {L : List (Option Value)} {st : List Value} {w : aw} {cn sn : Nat} {a0 a1 a2 : Option Value} {v : Int32} : wp d 169 Q 3 (a0 :: a1 :: a2 :: L) (.int v :: st) w cn sn = wp d 169 Q 4 (a0 :: clr a1 :: some (.int v) :: L) st w cn sn := w_istore_n d_169_3 (Nat.le_add_left 3 _) rfl
theorem d_169_4 : decode (mB 169) 4 = .ok (.aload_n 0, 1) := by decide +kernel
theorem s_169_4 {d : Nat} {Q : wQ} {L : List (Option Value)} {st : List Value} {w : aw} {cn sn : Nat} {v : Nat} : wp d 169 Q 4 (some (.ref v) :: L) st w cn sn = wp d 169 Q 5 (some (.ref v) :: L) (.ref v :: st) w cn sn := w_aload_n d_169_4 rfl
theorem d_169_5 : decode (mB 169) 5 = .ok (.getfield 231, 3) := by decide +kernel
theorem s_169_5 {d : Nat} {Q : wQ} {L : List (Option Value)} {st : List Value} {w : aw} {cn sn : Nat} {a : Nat} : wp d 169 Q 5 L (.ref a :: st) w cn sn = (kd w a = 9 ∧ wp d 169 Q 8 L (fd w 555 a :: st) w cn sn) := w_getfield d_169_5 (by decide +kernel : fT (mO 169) 231 = some (8, 43))
theorem d_169_8 : decode (mB 169) 8 = .ok (.aload_n 0, 1) := by decide +kernel
theorem s_169_8 {d : Nat} {Q : wQ} {L : List (Option Value)} {st : List Value} {w : aw} {cn sn : Nat} {v : Nat} : wp d 169 Q 8 (some (.ref v) :: L) st w cn sn = wp d 169 Q 9 (some (.ref v) :: L) (.ref v :: st) w cn sn := w_aload_n d_169_8 rfl
theorem d_169_9 : decode (mB 169) 9 = .ok (.getfield 228, 3) := by decide +kernel
theorem s_169_9 {d : Nat} {Q : wQ} {L : List (Option Value)} {st : List Value} {w : aw} {cn sn : Nat} {a : Nat} : wp d 169 Q 9 L (.ref a :: st) w cn sn = (kd w a = 9 ∧ wp d 169 Q 12 L (fd w 556 a :: st) w cn sn) := w_getfield d_169_9 (by decide +kernel : fT (mO 169) 228 = some (8, 44))
theorem d_169_12 : decode (mB 169) 12 = .ok (.if_icmp .ge 39, 3) := by decide +kernel
theorem s_169_12 {d : Nat} {Q : wQ} {L : List (Option Value)} {st : List Value} {w : aw} {cn sn : Nat} {a b : Int32} : wp d 169 Q 12 L (.int b :: .int a :: st) w cn sn = ((b ≤ a → wp d 169 Q 51 L st w cn sn) ∧ (¬ b ≤ a → wp d 169 Q 15 L st w cn sn)) := w_icge d_169_12 (by decide)
theorem d_169_15 : decode (mB 169) 15 = .ok (.aload_n 0, 1) := by decide +kernel
theorem s_169_15 {d : Nat} {Q : wQ} {L : List (Option Value)} {st : List Value} {w : aw} {cn sn : Nat} {v : Nat} : wp d 169 Q 15 (some (.ref v) :: L) st w cn sn = wp d 169 Q 16 (some (.ref v) :: L) (.ref v :: st) w cn sn := w_aload_n d_169_15 rfl
theorem d_169_16 : decode (mB 169) 16 = .ok (.invokevirtual 274, 3) := by decide +kernel
theorem s_169_16 {d : Nat} {Q : wQ} {L : List (Option Value)} {st : List Value} {w : aw} {cn sn : Nat} {b : Nat} : wp d 169 Q 16 L (.ref b :: st) w cn sn = (kd w b = 9 ∧ catS st ≤ 8 ∧ wpD d 158 [.ref b] w (fun v w' => wp d 169 Q 19 L (v.toList ++ st) w' cn sn)) := w_virtual (As := []) d_169_16 (by decide +kernel : cT (mO 169) 274 = some (0, 158)) rfl (by decide +kernel) rfl (by decide +kernel) rfl
theorem d_169_19 : decode (mB 169) 19 = .ok (.istore_n 3, 1) := by decide +kernel
theorem s_169_19 {d : Nat} {Q : wQ} {L : List (Option Value)} {st : List Value} {w : aw} {cn sn : Nat} {a0 a1 a2 a3 : Option Value} {v : Int32} : wp d 169 Q 19 (a0 :: a1 :: a2 :: a3 :: L) (.int v :: st) w cn sn = wp d 169 Q 20 (a0 :: a1 :: clr a2 :: some (.int v) :: L) st w cn sn := w_istore_n d_169_19 (Nat.le_add_left 4 _) rfl
theorem d_169_20 : decode (mB 169) 20 = .ok (.iload_n 2, 1) := by decide +kernel
theorem s_169_20 {d : Nat} {Q : wQ} {L : List (Option Value)} {st : List Value} {w : aw} {cn sn : Nat} {a0 a1 : Option Value} {v : Int32} : wp d 169 Q 20 (a0 :: a1 :: some (.int v) :: L) st w cn sn = wp d 169 Q 21 (a0 :: a1 :: some (.int v) :: L) (.int v :: st) w cn sn := w_iload_n d_169_20 rfl
theorem d_169_21 : decode (mB 169) 21 = .ok (.ifCond .eq 14, 3) := by decide +kernel
theorem s_169_21 {d : Nat} {Q : wQ} {L : List (Option Value)} {st : List Value} {w : aw} {cn sn : Nat} {x : Int32} : wp d 169 Q 21 L (.int x :: st) w cn sn = ((x = 0 → wp d 169 Q 35 L st w cn sn) ∧ (¬ x = 0 → wp d 169 Q 24 L st w cn sn)) := w_ifeq d_169_21 (by decide)
theorem d_169_24 : decode (mB 169) 24 = .ok (.aload_n 0, 1) := by decide +kernel
theorem s_169_24 {d : Nat} {Q : wQ} {L : List (Option Value)} {st : List Value} {w : aw} {cn sn : Nat} {v : Nat} : wp d 169 Q 24 (some (.ref v) :: L) st w cn sn = wp d 169 Q 25 (some (.ref v) :: L) (.ref v :: st) w cn sn := w_aload_n d_169_24 rfl
theorem d_169_25 : decode (mB 169) 25 = .ok (.getfield 257, 3) := by decide +kernel
theorem s_169_25 {d : Nat} {Q : wQ} {L : List (Option Value)} {st : List Value} {w : aw} {cn sn : Nat} {a : Nat} : wp d 169 Q 25 L (.ref a :: st) w cn sn = (kd w a = 9 ∧ wp d 169 Q 28 L (fd w 558 a :: st) w cn sn) := w_getfield d_169_25 (by decide +kernel : fT (mO 169) 257 = some (8, 46))
theorem d_169_28 : decode (mB 169) 28 = .ok (.ifCond .eq 7, 3) := by decide +kernel
theorem s_169_28 {d : Nat} {Q : wQ} {L : List (Option Value)} {st : List Value} {w : aw} {cn sn : Nat} {x : Int32} : wp d 169 Q 28 L (.int x :: st) w cn sn = ((x = 0 → wp d 169 Q 35 L st w cn sn) ∧ (¬ x = 0 → wp d 169 Q 31 L st w cn sn)) := w_ifeq d_169_28 (by decide)
theorem d_169_31 : decode (mB 169) 31 = .ok (.iconst 1, 1) := by decide +kernel
theorem s_169_31 {d : Nat} {Q : wQ} {L : List (Option Value)} {st : List Value} {w : aw} {cn sn : Nat}  : wp d 169 Q 31 L st w cn sn = wp d 169 Q 32 L (.int 1 :: st) w cn sn := w_iconst d_169_31 (by decide)
theorem d_169_32 : decode (mB 169) 32 = .ok (.goto 4, 3) := by decide +kernel
theorem s_169_32 {d : Nat} {Q : wQ} {L : List (Option Value)} {st : List Value} {w : aw} {cn sn : Nat}  : wp d 169 Q 32 L st w cn sn = wp d 169 Q 36 L st w cn sn := w_goto d_169_32 (by decide)
theorem d_169_35 : decode (mB 169) 35 = .ok (.iconst 0, 1) := by decide +kernel
theorem s_169_35 {d : Nat} {Q : wQ} {L : List (Option Value)} {st : List Value} {w : aw} {cn sn : Nat}  : wp d 169 Q 35 L st w cn sn = wp d 169 Q 36 L (.int 0 :: st) w cn sn := w_iconst d_169_35 (by decide)
theorem d_169_36 : decode (mB 169) 36 = .ok (.istore_n 2, 1) := by decide +kernel
theorem s_169_36 {d : Nat} {Q : wQ} {L : List (Option Value)} {st : List Value} {w : aw} {cn sn : Nat} {a0 a1 a2 : Option Value} {v : Int32} : wp d 169 Q 36 (a0 :: a1 :: a2 :: L) (.int v :: st) w cn sn = wp d 169 Q 37 (a0 :: clr a1 :: some (.int v) :: L) st w cn sn := w_istore_n d_169_36 (Nat.le_add_left 3 _) rfl
theorem d_169_37 : decode (mB 169) 37 = .ok (.iload_n 1, 1) := by decide +kernel
theorem s_169_37 {d : Nat} {Q : wQ} {L : List (Option Value)} {st : List Value} {w : aw} {cn sn : Nat} {a0 : Option Value} {v : Int32} : wp d 169 Q 37 (a0 :: some (.int v) :: L) st w cn sn = wp d 169 Q 38 (a0 :: some (.int v) :: L) (.int v :: st) w cn sn := w_iload_n d_169_37 rfl
theorem d_169_38 : decode (mB 169) 38 = .ok (.aload_n 0, 1) := by decide +kernel
theorem s_169_38 {d : Nat} {Q : wQ} {L : List (Option Value)} {st : List Value} {w : aw} {cn sn : Nat} {v : Nat} : wp d 169 Q 38 (some (.ref v) :: L) st w cn sn = wp d 169 Q 39 (some (.ref v) :: L) (.ref v :: st) w cn sn := w_aload_n d_169_38 rfl
theorem d_169_39 : decode (mB 169) 39 = .ok (.getfield 261, 3) := by decide +kernel
theorem s_169_39 {d : Nat} {Q : wQ} {L : List (Option Value)} {st : List Value} {w : aw} {cn sn : Nat} {a : Nat} : wp d 169 Q 39 L (.ref a :: st) w cn sn = (kd w a = 9 ∧ wp d 169 Q 42 L (fd w 557 a :: st) w cn sn) := w_getfield d_169_39 (by decide +kernel : fT (mO 169) 261 = some (8, 45))
theorem d_169_42 : decode (mB 169) 42 = .ok (.ior, 1) := by decide +kernel
theorem s_169_42 {d : Nat} {Q : wQ} {L : List (Option Value)} {st : List Value} {w : aw} {cn sn : Nat} {a b : Int32} : wp d 169 Q 42 L (.int b :: .int a :: st) w cn sn = wp d 169 Q 43 L (.int (a ||| b) :: st) w cn sn := wp_row d_169_42 _ _ _ _ _
theorem d_169_43 : decode (mB 169) 43 = .ok (.istore_n 1, 1) := by decide +kernel
theorem s_169_43 {d : Nat} {Q : wQ} {L : List (Option Value)} {st : List Value} {w : aw} {cn sn : Nat} {a0 a1 : Option Value} {v : Int32} : wp d 169 Q 43 (a0 :: a1 :: L) (.int v :: st) w cn sn = wp d 169 Q 44 (clr a0 :: some (.int v) :: L) st w cn sn := w_istore_n d_169_43 (Nat.le_add_left 2 _) rfl
theorem d_169_44 : decode (mB 169) 44 = .ok (.aload_n 0, 1) := by decide +kernel
theorem s_169_44 {d : Nat} {Q : wQ} {L : List (Option Value)} {st : List Value} {w : aw} {cn sn : Nat} {v : Nat} : wp d 169 Q 44 (some (.ref v) :: L) st w cn sn = wp d 169 Q 45 (some (.ref v) :: L) (.ref v :: st) w cn sn := w_aload_n d_169_44 rfl
theorem d_169_45 : decode (mB 169) 45 = .ok (.invokevirtual 267, 3) := by decide +kernel
theorem s_169_45 {d : Nat} {Q : wQ} {L : List (Option Value)} {st : List Value} {w : aw} {cn sn : Nat} {b : Nat} : wp d 169 Q 45 L (.ref b :: st) w cn sn = (kd w b = 9 ∧ catS st ≤ 8 ∧ wpD d 148 [.ref b] w (fun v w' => wp d 169 Q 48 L (v.toList ++ st) w' cn sn)) := w_virtual (As := []) d_169_45 (by decide +kernel : cT (mO 169) 267 = some (0, 148)) rfl (by decide +kernel) rfl (by decide +kernel) rfl
theorem d_169_48 : decode (mB 169) 48 = .ok (.goto (-44), 3) := by decide +kernel
theorem s_169_48 {d : Nat} {Q : wQ} {L : List (Option Value)} {st : List Value} {w : aw} {cn sn : Nat}  : wp d 169 Q 48 L st w cn sn = wp d 169 Q 4 L st w cn sn := w_goto d_169_48 (by decide)
theorem d_169_51 : decode (mB 169) 51 = .ok (.iload_n 2, 1) := by decide +kernel
theorem s_169_51 {d : Nat} {Q : wQ} {L : List (Option Value)} {st : List Value} {w : aw} {cn sn : Nat} {a0 a1 : Option Value} {v : Int32} : wp d 169 Q 51 (a0 :: a1 :: some (.int v) :: L) st w cn sn = wp d 169 Q 52 (a0 :: a1 :: some (.int v) :: L) (.int v :: st) w cn sn := w_iload_n d_169_51 rfl
theorem d_169_52 : decode (mB 169) 52 = .ok (.ifCond .ne 5, 3) := by decide +kernel
theorem s_169_52 {d : Nat} {Q : wQ} {L : List (Option Value)} {st : List Value} {w : aw} {cn sn : Nat} {x : Int32} : wp d 169 Q 52 L (.int x :: st) w cn sn = ((¬ x = 0 → wp d 169 Q 57 L st w cn sn) ∧ (x = 0 → wp d 169 Q 55 L st w cn sn)) := w_ifne d_169_52 (by decide)
theorem d_169_55 : decode (mB 169) 55 = .ok (.iconst 2, 1) := by decide +kernel
theorem s_169_55 {d : Nat} {Q : wQ} {L : List (Option Value)} {st : List Value} {w : aw} {cn sn : Nat}  : wp d 169 Q 55 L st w cn sn = wp d 169 Q 56 L (.int 2 :: st) w cn sn := w_iconst d_169_55 (by decide)
theorem d_169_56 : decode (mB 169) 56 = .ok (.ireturn, 1) := by decide +kernel
theorem s_169_56 {d : Nat} {Q : wQ} {L : List (Option Value)} {w : aw} {cn sn : Nat} {v : Int32} : wp d 169 Q 56 L [.int v] w cn sn = Q (some (.int v)) w := w_ireturn d_169_56 rfl
theorem d_169_57 : decode (mB 169) 57 = .ok (.aload_n 0, 1) := by decide +kernel
theorem s_169_57 {d : Nat} {Q : wQ} {L : List (Option Value)} {st : List Value} {w : aw} {cn sn : Nat} {v : Nat} : wp d 169 Q 57 (some (.ref v) :: L) st w cn sn = wp d 169 Q 58 (some (.ref v) :: L) (.ref v :: st) w cn sn := w_aload_n d_169_57 rfl
theorem d_169_58 : decode (mB 169) 58 = .ok (.aload_n 0, 1) := by decide +kernel
theorem s_169_58 {d : Nat} {Q : wQ} {L : List (Option Value)} {st : List Value} {w : aw} {cn sn : Nat} {v : Nat} : wp d 169 Q 58 (some (.ref v) :: L) st w cn sn = wp d 169 Q 59 (some (.ref v) :: L) (.ref v :: st) w cn sn := w_aload_n d_169_58 rfl
theorem d_169_59 : decode (mB 169) 59 = .ok (.getfield 254, 3) := by decide +kernel
theorem s_169_59 {d : Nat} {Q : wQ} {L : List (Option Value)} {st : List Value} {w : aw} {cn sn : Nat} {a : Nat} : wp d 169 Q 59 L (.ref a :: st) w cn sn = (kd w a = 9 ∧ wp d 169 Q 62 L (fd w 554 a :: st) w cn sn) := w_getfield d_169_59 (by decide +kernel : fT (mO 169) 254 = some (8, 42))
theorem d_169_62 : decode (mB 169) 62 = .ok (.iload_n 1, 1) := by decide +kernel
theorem s_169_62 {d : Nat} {Q : wQ} {L : List (Option Value)} {st : List Value} {w : aw} {cn sn : Nat} {a0 : Option Value} {v : Int32} : wp d 169 Q 62 (a0 :: some (.int v) :: L) st w cn sn = wp d 169 Q 63 (a0 :: some (.int v) :: L) (.int v :: st) w cn sn := w_iload_n d_169_62 rfl
theorem d_169_63 : decode (mB 169) 63 = .ok (.iconst 0, 1) := by decide +kernel
theorem s_169_63 {d : Nat} {Q : wQ} {L : List (Option Value)} {st : List Value} {w : aw} {cn sn : Nat}  : wp d 169 Q 63 L st w cn sn = wp d 169 Q 64 L (.int 0 :: st) w cn sn := w_iconst d_169_63 (by decide)
theorem d_169_64 : decode (mB 169) 64 = .ok (.invokevirtual 302, 3) := by decide +kernel
theorem s_169_64 {d : Nat} {Q : wQ} {L : List (Option Value)} {st : List Value} {w : aw} {cn sn : Nat} {v0 v1 v2 : Value} {b : Nat} : wp d 169 Q 64 L (v2 :: v1 :: v0 :: .ref b :: st) w cn sn = (kd w b = 9 ∧ catS st ≤ 8 ∧ wpD d 165 [.ref b, v0, v1, v2] w (fun v w' => wp d 169 Q 67 L (v.toList ++ st) w' cn sn)) := w_virtual (As := [v0, v1, v2]) d_169_64 (by decide +kernel : cT (mO 169) 302 = some (0, 165)) rfl (by decide +kernel) rfl (by decide +kernel) rfl
theorem d_169_67 : decode (mB 169) 67 = .ok (.istore_n 3, 1) := by decide +kernel
theorem s_169_67 {d : Nat} {Q : wQ} {L : List (Option Value)} {st : List Value} {w : aw} {cn sn : Nat} {a0 a1 a2 a3 : Option Value} {v : Int32} : wp d 169 Q 67 (a0 :: a1 :: a2 :: a3 :: L) (.int v :: st) w cn sn = wp d 169 Q 68 (a0 :: a1 :: clr a2 :: some (.int v) :: L) st w cn sn := w_istore_n d_169_67 (Nat.le_add_left 4 _) rfl
theorem d_169_68 : decode (mB 169) 68 = .ok (.aload_n 0, 1) := by decide +kernel
theorem s_169_68 {d : Nat} {Q : wQ} {L : List (Option Value)} {st : List Value} {w : aw} {cn sn : Nat} {v : Nat} : wp d 169 Q 68 (some (.ref v) :: L) st w cn sn = wp d 169 Q 69 (some (.ref v) :: L) (.ref v :: st) w cn sn := w_aload_n d_169_68 rfl
theorem d_169_69 : decode (mB 169) 69 = .ok (.aload_n 0, 1) := by decide +kernel
theorem s_169_69 {d : Nat} {Q : wQ} {L : List (Option Value)} {st : List Value} {w : aw} {cn sn : Nat} {v : Nat} : wp d 169 Q 69 (some (.ref v) :: L) st w cn sn = wp d 169 Q 70 (some (.ref v) :: L) (.ref v :: st) w cn sn := w_aload_n d_169_69 rfl
theorem d_169_70 : decode (mB 169) 70 = .ok (.getfield 254, 3) := by decide +kernel
theorem s_169_70 {d : Nat} {Q : wQ} {L : List (Option Value)} {st : List Value} {w : aw} {cn sn : Nat} {a : Nat} : wp d 169 Q 70 L (.ref a :: st) w cn sn = (kd w a = 9 ∧ wp d 169 Q 73 L (fd w 554 a :: st) w cn sn) := w_getfield d_169_70 (by decide +kernel : fT (mO 169) 254 = some (8, 42))
theorem d_169_73 : decode (mB 169) 73 = .ok (.iconst 1, 1) := by decide +kernel
theorem s_169_73 {d : Nat} {Q : wQ} {L : List (Option Value)} {st : List Value} {w : aw} {cn sn : Nat}  : wp d 169 Q 73 L st w cn sn = wp d 169 Q 74 L (.int 1 :: st) w cn sn := w_iconst d_169_73 (by decide)
theorem d_169_74 : decode (mB 169) 74 = .ok (.iadd, 1) := by decide +kernel
theorem s_169_74 {d : Nat} {Q : wQ} {L : List (Option Value)} {st : List Value} {w : aw} {cn sn : Nat} {a b : Int32} : wp d 169 Q 74 L (.int b :: .int a :: st) w cn sn = wp d 169 Q 75 L (.int (a + b) :: st) w cn sn := wp_row d_169_74 _ _ _ _ _
theorem d_169_75 : decode (mB 169) 75 = .ok (.sipush 4095, 3) := by decide +kernel
theorem s_169_75 {d : Nat} {Q : wQ} {L : List (Option Value)} {st : List Value} {w : aw} {cn sn : Nat}  : wp d 169 Q 75 L st w cn sn = wp d 169 Q 78 L (.int 4095 :: st) w cn sn := w_sipush d_169_75 (by decide)
theorem d_169_78 : decode (mB 169) 78 = .ok (.iand, 1) := by decide +kernel
theorem s_169_78 {d : Nat} {Q : wQ} {L : List (Option Value)} {st : List Value} {w : aw} {cn sn : Nat} {a b : Int32} : wp d 169 Q 78 L (.int b :: .int a :: st) w cn sn = wp d 169 Q 79 L (.int (a &&& b) :: st) w cn sn := wp_row d_169_78 _ _ _ _ _
theorem d_169_79 : decode (mB 169) 79 = .ok (.putfield 254, 3) := by decide +kernel
theorem s_169_79 {d : Nat} {Q : wQ} {L : List (Option Value)} {st : List Value} {w : aw} {cn sn : Nat} {x : Int32} {a : Nat} : wp d 169 Q 79 L (.int x :: .ref a :: st) w cn sn = (kd w a = 9 ∧ wp d 169 Q 82 L st (uF w 554 a (.int x)) cn sn) := w_putfield d_169_79 (by decide +kernel : fT (mO 169) 254 = some (8, 42)) (by decide +kernel) ok_int
theorem d_169_82 : decode (mB 169) 82 = .ok (.iload_n 3, 1) := by decide +kernel
theorem s_169_82 {d : Nat} {Q : wQ} {L : List (Option Value)} {st : List Value} {w : aw} {cn sn : Nat} {a0 a1 a2 : Option Value} {v : Int32} : wp d 169 Q 82 (a0 :: a1 :: a2 :: some (.int v) :: L) st w cn sn = wp d 169 Q 83 (a0 :: a1 :: a2 :: some (.int v) :: L) (.int v :: st) w cn sn := w_iload_n d_169_82 rfl
theorem d_169_83 : decode (mB 169) 83 = .ok (.ireturn, 1) := by decide +kernel
theorem s_169_83 {d : Nat} {Q : wQ} {L : List (Option Value)} {w : aw} {cn sn : Nat} {v : Int32} : wp d 169 Q 83 L [.int v] w cn sn = Q (some (.int v)) w := w_ireturn d_169_83 rfl
theorem d_170_0 : decode (mB 170) 0 = .ok (.aload_n 0, 1) := by decide +kernel
theorem s_170_0 {d : Nat} {Q : wQ} {L : List (Option Value)} {st : List Value} {w : aw} {cn sn : Nat} {v : Nat} : wp d 170 Q 0 (some (.ref v) :: L) st w cn sn = wp d 170 Q 1 (some (.ref v) :: L) (.ref v :: st) w cn sn := w_aload_n d_170_0 rfl
theorem d_170_1 : decode (mB 170) 1 = .ok (.iload_n 1, 1) := by decide +kernel
theorem s_170_1 {d : Nat} {Q : wQ} {L : List (Option Value)} {st : List Value} {w : aw} {cn sn : Nat} {a0 : Option Value} {v : Int32} : wp d 170 Q 1 (a0 :: some (.int v) :: L) st w cn sn = wp d 170 Q 2 (a0 :: some (.int v) :: L) (.int v :: st) w cn sn := w_iload_n d_170_1 rfl
theorem d_170_2 : decode (mB 170) 2 = .ok (.putfield 231, 3) := by decide +kernel
theorem s_170_2 {d : Nat} {Q : wQ} {L : List (Option Value)} {st : List Value} {w : aw} {cn sn : Nat} {x : Int32} {a : Nat} : wp d 170 Q 2 L (.int x :: .ref a :: st) w cn sn = (kd w a = 9 ∧ wp d 170 Q 5 L st (uF w 555 a (.int x)) cn sn) := w_putfield d_170_2 (by decide +kernel : fT (mO 170) 231 = some (8, 43)) (by decide +kernel) ok_int
theorem d_170_5 : decode (mB 170) 5 = .ok (.aload_n 0, 1) := by decide +kernel
theorem s_170_5 {d : Nat} {Q : wQ} {L : List (Option Value)} {st : List Value} {w : aw} {cn sn : Nat} {v : Nat} : wp d 170 Q 5 (some (.ref v) :: L) st w cn sn = wp d 170 Q 6 (some (.ref v) :: L) (.ref v :: st) w cn sn := w_aload_n d_170_5 rfl
theorem d_170_6 : decode (mB 170) 6 = .ok (.iload_n 2, 1) := by decide +kernel
theorem s_170_6 {d : Nat} {Q : wQ} {L : List (Option Value)} {st : List Value} {w : aw} {cn sn : Nat} {a0 a1 : Option Value} {v : Int32} : wp d 170 Q 6 (a0 :: a1 :: some (.int v) :: L) st w cn sn = wp d 170 Q 7 (a0 :: a1 :: some (.int v) :: L) (.int v :: st) w cn sn := w_iload_n d_170_6 rfl
theorem d_170_7 : decode (mB 170) 7 = .ok (.putfield 228, 3) := by decide +kernel
theorem s_170_7 {d : Nat} {Q : wQ} {L : List (Option Value)} {st : List Value} {w : aw} {cn sn : Nat} {x : Int32} {a : Nat} : wp d 170 Q 7 L (.int x :: .ref a :: st) w cn sn = (kd w a = 9 ∧ wp d 170 Q 10 L st (uF w 556 a (.int x)) cn sn) := w_putfield d_170_7 (by decide +kernel : fT (mO 170) 228 = some (8, 44)) (by decide +kernel) ok_int
theorem d_170_10 : decode (mB 170) 10 = .ok (.iload_n 3, 1) := by decide +kernel
theorem s_170_10 {d : Nat} {Q : wQ} {L : List (Option Value)} {st : List Value} {w : aw} {cn sn : Nat} {a0 a1 a2 : Option Value} {v : Int32} : wp d 170 Q 10 (a0 :: a1 :: a2 :: some (.int v) :: L) st w cn sn = wp d 170 Q 11 (a0 :: a1 :: a2 :: some (.int v) :: L) (.int v :: st) w cn sn := w_iload_n d_170_10 rfl
theorem d_170_11 : decode (mB 170) 11 = .ok (.iconst 2, 1) := by decide +kernel
theorem s_170_11 {d : Nat} {Q : wQ} {L : List (Option Value)} {st : List Value} {w : aw} {cn sn : Nat}  : wp d 170 Q 11 L st w cn sn = wp d 170 Q 12 L (.int 2 :: st) w cn sn := w_iconst d_170_11 (by decide)
theorem d_170_12 : decode (mB 170) 12 = .ok (.if_icmp .ne 8, 3) := by decide +kernel
theorem s_170_12 {d : Nat} {Q : wQ} {L : List (Option Value)} {st : List Value} {w : aw} {cn sn : Nat} {a b : Int32} : wp d 170 Q 12 L (.int b :: .int a :: st) w cn sn = ((¬ a = b → wp d 170 Q 20 L st w cn sn) ∧ (a = b → wp d 170 Q 15 L st w cn sn)) := w_icne d_170_12 (by decide)
theorem d_170_15 : decode (mB 170) 15 = .ok (.aload_n 0, 1) := by decide +kernel
theorem s_170_15 {d : Nat} {Q : wQ} {L : List (Option Value)} {st : List Value} {w : aw} {cn sn : Nat} {v : Nat} : wp d 170 Q 15 (some (.ref v) :: L) st w cn sn = wp d 170 Q 16 (some (.ref v) :: L) (.ref v :: st) w cn sn := w_aload_n d_170_15 rfl
theorem d_170_16 : decode (mB 170) 16 = .ok (.invokevirtual 316, 3) := by decide +kernel
theorem s_170_16 {d : Nat} {Q : wQ} {L : List (Option Value)} {st : List Value} {w : aw} {cn sn : Nat} {b : Nat} : wp d 170 Q 16 L (.ref b :: st) w cn sn = (kd w b = 9 ∧ catS st ≤ 8 ∧ wpD d 167 [.ref b] w (fun v w' => wp d 170 Q 19 L (v.toList ++ st) w' cn sn)) := w_virtual (As := []) d_170_16 (by decide +kernel : cT (mO 170) 316 = some (0, 167)) rfl (by decide +kernel) rfl (by decide +kernel) rfl
theorem d_170_19 : decode (mB 170) 19 = .ok (.ireturn, 1) := by decide +kernel
theorem s_170_19 {d : Nat} {Q : wQ} {L : List (Option Value)} {w : aw} {cn sn : Nat} {v : Int32} : wp d 170 Q 19 L [.int v] w cn sn = Q (some (.int v)) w := w_ireturn d_170_19 rfl
theorem d_170_20 : decode (mB 170) 20 = .ok (.aload_n 0, 1) := by decide +kernel
theorem s_170_20 {d : Nat} {Q : wQ} {L : List (Option Value)} {st : List Value} {w : aw} {cn sn : Nat} {v : Nat} : wp d 170 Q 20 (some (.ref v) :: L) st w cn sn = wp d 170 Q 21 (some (.ref v) :: L) (.ref v :: st) w cn sn := w_aload_n d_170_20 rfl
theorem d_170_21 : decode (mB 170) 21 = .ok (.invokevirtual 319, 3) := by decide +kernel
theorem s_170_21 {d : Nat} {Q : wQ} {L : List (Option Value)} {st : List Value} {w : aw} {cn sn : Nat} {b : Nat} : wp d 170 Q 21 L (.ref b :: st) w cn sn = (kd w b = 9 ∧ catS st ≤ 8 ∧ wpD d 160 [.ref b] w (fun v w' => wp d 170 Q 24 L (v.toList ++ st) w' cn sn)) := w_virtual (As := []) d_170_21 (by decide +kernel : cT (mO 170) 319 = some (0, 160)) rfl (by decide +kernel) rfl (by decide +kernel) rfl
theorem d_170_24 : decode (mB 170) 24 = .ok (.ifCond .ne 5, 3) := by decide +kernel
theorem s_170_24 {d : Nat} {Q : wQ} {L : List (Option Value)} {st : List Value} {w : aw} {cn sn : Nat} {x : Int32} : wp d 170 Q 24 L (.int x :: st) w cn sn = ((¬ x = 0 → wp d 170 Q 29 L st w cn sn) ∧ (x = 0 → wp d 170 Q 27 L st w cn sn)) := w_ifne d_170_24 (by decide)
theorem d_170_27 : decode (mB 170) 27 = .ok (.iconst 1, 1) := by decide +kernel
theorem s_170_27 {d : Nat} {Q : wQ} {L : List (Option Value)} {st : List Value} {w : aw} {cn sn : Nat}  : wp d 170 Q 27 L st w cn sn = wp d 170 Q 28 L (.int 1 :: st) w cn sn := w_iconst d_170_27 (by decide)
theorem d_170_28 : decode (mB 170) 28 = .ok (.ireturn, 1) := by decide +kernel
theorem s_170_28 {d : Nat} {Q : wQ} {L : List (Option Value)} {w : aw} {cn sn : Nat} {v : Int32} : wp d 170 Q 28 L [.int v] w cn sn = Q (some (.int v)) w := w_ireturn d_170_28 rfl
theorem d_170_29 : decode (mB 170) 29 = .ok (.aload_n 0, 1) := by decide +kernel
theorem s_170_29 {d : Nat} {Q : wQ} {L : List (Option Value)} {st : List Value} {w : aw} {cn sn : Nat} {v : Nat} : wp d 170 Q 29 (some (.ref v) :: L) st w cn sn = wp d 170 Q 30 (some (.ref v) :: L) (.ref v :: st) w cn sn := w_aload_n d_170_29 rfl
theorem d_170_30 : decode (mB 170) 30 = .ok (.iload_n 1, 1) := by decide +kernel
theorem s_170_30 {d : Nat} {Q : wQ} {L : List (Option Value)} {st : List Value} {w : aw} {cn sn : Nat} {a0 : Option Value} {v : Int32} : wp d 170 Q 30 (a0 :: some (.int v) :: L) st w cn sn = wp d 170 Q 31 (a0 :: some (.int v) :: L) (.int v :: st) w cn sn := w_iload_n d_170_30 rfl
theorem d_170_31 : decode (mB 170) 31 = .ok (.putfield 231, 3) := by decide +kernel
theorem s_170_31 {d : Nat} {Q : wQ} {L : List (Option Value)} {st : List Value} {w : aw} {cn sn : Nat} {x : Int32} {a : Nat} : wp d 170 Q 31 L (.int x :: .ref a :: st) w cn sn = (kd w a = 9 ∧ wp d 170 Q 34 L st (uF w 555 a (.int x)) cn sn) := w_putfield d_170_31 (by decide +kernel : fT (mO 170) 231 = some (8, 43)) (by decide +kernel) ok_int
theorem d_170_34 : decode (mB 170) 34 = .ok (.aload_n 0, 1) := by decide +kernel
theorem s_170_34 {d : Nat} {Q : wQ} {L : List (Option Value)} {st : List Value} {w : aw} {cn sn : Nat} {v : Nat} : wp d 170 Q 34 (some (.ref v) :: L) st w cn sn = wp d 170 Q 35 (some (.ref v) :: L) (.ref v :: st) w cn sn := w_aload_n d_170_34 rfl
theorem d_170_35 : decode (mB 170) 35 = .ok (.invokevirtual 322, 3) := by decide +kernel
theorem s_170_35 {d : Nat} {Q : wQ} {L : List (Option Value)} {st : List Value} {w : aw} {cn sn : Nat} {b : Nat} : wp d 170 Q 35 L (.ref b :: st) w cn sn = (kd w b = 9 ∧ catS st ≤ 8 ∧ wpD d 164 [.ref b] w (fun v w' => wp d 170 Q 38 L (v.toList ++ st) w' cn sn)) := w_virtual (As := []) d_170_35 (by decide +kernel : cT (mO 170) 322 = some (0, 164)) rfl (by decide +kernel) rfl (by decide +kernel) rfl
theorem d_170_38 : decode (mB 170) 38 = .ok (.ireturn, 1) := by decide +kernel
theorem s_170_38 {d : Nat} {Q : wQ} {L : List (Option Value)} {w : aw} {cn sn : Nat} {v : Int32} : wp d 170 Q 38 L [.int v] w cn sn = Q (some (.int v)) w := w_ireturn d_170_38 rfl
theorem d_171_0 : decode (mB 171) 0 = .ok (.iload_n 1, 1) := by decide +kernel
theorem s_171_0 {d : Nat} {Q : wQ} {L : List (Option Value)} {st : List Value} {w : aw} {cn sn : Nat} {a0 : Option Value} {v : Int32} : wp d 171 Q 0 (a0 :: some (.int v) :: L) st w cn sn = wp d 171 Q 1 (a0 :: some (.int v) :: L) (.int v :: st) w cn sn := w_iload_n d_171_0 rfl
theorem d_171_1 : decode (mB 171) 1 = .ok (.istore 4, 2) := by decide +kernel
theorem s_171_1 {d : Nat} {Q : wQ} {L : List (Option Value)} {st : List Value} {w : aw} {cn sn : Nat} {a0 a1 a2 a3 a4 : Option Value} {v : Int32} : wp d 171 Q 1 (a0 :: a1 :: a2 :: a3 :: a4 :: L) (.int v :: st) w cn sn = wp d 171 Q 3 (a0 :: a1 :: a2 :: clr a3 :: some (.int v) :: L) st w cn sn := w_istore d_171_1 (Nat.le_add_left 5 _) rfl
theorem d_171_3 : decode (mB 171) 3 = .ok (.iload 4, 2) := by decide +kernel
theorem s_171_3 {d : Nat} {Q : wQ} {L : List (Option Value)} {st : List Value} {w : aw} {cn sn : Nat} {a0 a1 a2 a3 : Option Value} {v : Int32} : wp d 171 Q 3 (a0 :: a1 :: a2 :: a3 :: some (.int v) :: L) st w cn sn = wp d 171 Q 5 (a0 :: a1 :: a2 :: a3 :: some (.int v) :: L) (.int v :: st) w cn sn := w_iload d_171_3 rfl
theorem d_171_5 : decode (mB 171) 5 = .ok (.iload_n 2, 1) := by decide +kernel
theorem s_171_5 {d : Nat} {Q : wQ} {L : List (Option Value)} {st : List Value} {w : aw} {cn sn : Nat} {a0 a1 : Option Value} {v : Int32} : wp d 171 Q 5 (a0 :: a1 :: some (.int v) :: L) st w cn sn = wp d 171 Q 6 (a0 :: a1 :: some (.int v) :: L) (.int v :: st) w cn sn := w_iload_n d_171_5 rfl
theorem d_171_6 : decode (mB 171) 6 = .ok (.if_icmp .ge 21, 3) := by decide +kernel
theorem s_171_6 {d : Nat} {Q : wQ} {L : List (Option Value)} {st : List Value} {w : aw} {cn sn : Nat} {a b : Int32} : wp d 171 Q 6 L (.int b :: .int a :: st) w cn sn = ((b ≤ a → wp d 171 Q 27 L st w cn sn) ∧ (¬ b ≤ a → wp d 171 Q 9 L st w cn sn)) := w_icge d_171_6 (by decide)
theorem d_171_9 : decode (mB 171) 9 = .ok (.aload_n 0, 1) := by decide +kernel
theorem s_171_9 {d : Nat} {Q : wQ} {L : List (Option Value)} {st : List Value} {w : aw} {cn sn : Nat} {v : Nat} : wp d 171 Q 9 (some (.ref v) :: L) st w cn sn = wp d 171 Q 10 (some (.ref v) :: L) (.ref v :: st) w cn sn := w_aload_n d_171_9 rfl
theorem d_171_10 : decode (mB 171) 10 = .ok (.getfield 72, 3) := by decide +kernel
theorem s_171_10 {d : Nat} {Q : wQ} {L : List (Option Value)} {st : List Value} {w : aw} {cn sn : Nat} {a : Nat} : wp d 171 Q 10 L (.ref a :: st) w cn sn = (kd w a = 9 ∧ wp d 171 Q 13 L (fd w 542 a :: st) w cn sn) := w_getfield d_171_10 (by decide +kernel : fT (mO 171) 72 = some (8, 30))
theorem d_171_13 : decode (mB 171) 13 = .ok (.iload 4, 2) := by decide +kernel
theorem s_171_13 {d : Nat} {Q : wQ} {L : List (Option Value)} {st : List Value} {w : aw} {cn sn : Nat} {a0 a1 a2 a3 : Option Value} {v : Int32} : wp d 171 Q 13 (a0 :: a1 :: a2 :: a3 :: some (.int v) :: L) st w cn sn = wp d 171 Q 15 (a0 :: a1 :: a2 :: a3 :: some (.int v) :: L) (.int v :: st) w cn sn := w_iload d_171_13 rfl
theorem d_171_15 : decode (mB 171) 15 = .ok (.iaload, 1) := by decide +kernel
theorem s_171_15 {d : Nat} {Q : wQ} {L : List (Option Value)} {st : List Value} {w : aw} {cn sn : Nat} {a : Nat} {i : Int32} : wp d 171 Q 15 L (.int i :: .ref a :: st) w cn sn = ((kd w a = 20 ∨ kd w a = 30) ∧ inR i (ln w a) ∧ wp d 171 Q 16 L (.int (ai w a i.toNatClampNeg) :: st) w cn sn) := wp_row d_171_15 _ _ _ _ _
theorem d_171_16 : decode (mB 171) 16 = .ok (.bipush 47, 2) := by decide +kernel
theorem s_171_16 {d : Nat} {Q : wQ} {L : List (Option Value)} {st : List Value} {w : aw} {cn sn : Nat}  : wp d 171 Q 16 L st w cn sn = wp d 171 Q 18 L (.int 47 :: st) w cn sn := w_bipush d_171_16 (by decide)
theorem d_171_18 : decode (mB 171) 18 = .ok (.if_icmp .eq 9, 3) := by decide +kernel
theorem s_171_18 {d : Nat} {Q : wQ} {L : List (Option Value)} {st : List Value} {w : aw} {cn sn : Nat} {a b : Int32} : wp d 171 Q 18 L (.int b :: .int a :: st) w cn sn = ((a = b → wp d 171 Q 27 L st w cn sn) ∧ (¬ a = b → wp d 171 Q 21 L st w cn sn)) := w_iceq d_171_18 (by decide)
theorem d_171_21 : decode (mB 171) 21 = .ok (.iinc 4 1, 3) := by decide +kernel
theorem s_171_21 {d : Nat} {Q : wQ} {L : List (Option Value)} {st : List Value} {w : aw} {cn sn : Nat} {a0 a1 a2 a3 : Option Value} {v : Int32} : wp d 171 Q 21 (a0 :: a1 :: a2 :: a3 :: some (.int v) :: L) st w cn sn = wp d 171 Q 24 (a0 :: a1 :: a2 :: clr a3 :: some (.int (v + 1)) :: L) st w cn sn := w_iinc d_171_21 rfl (by decide) rfl
theorem d_171_24 : decode (mB 171) 24 = .ok (.goto (-21), 3) := by decide +kernel
theorem s_171_24 {d : Nat} {Q : wQ} {L : List (Option Value)} {st : List Value} {w : aw} {cn sn : Nat}  : wp d 171 Q 24 L st w cn sn = wp d 171 Q 3 L st w cn sn := w_goto d_171_24 (by decide)
theorem d_171_27 : decode (mB 171) 27 = .ok (.iload_n 1, 1) := by decide +kernel
theorem s_171_27 {d : Nat} {Q : wQ} {L : List (Option Value)} {st : List Value} {w : aw} {cn sn : Nat} {a0 : Option Value} {v : Int32} : wp d 171 Q 27 (a0 :: some (.int v) :: L) st w cn sn = wp d 171 Q 28 (a0 :: some (.int v) :: L) (.int v :: st) w cn sn := w_iload_n d_171_27 rfl
theorem d_171_28 : decode (mB 171) 28 = .ok (.istore 5, 2) := by decide +kernel
theorem s_171_28 {d : Nat} {Q : wQ} {L : List (Option Value)} {st : List Value} {w : aw} {cn sn : Nat} {a0 a1 a2 a3 a4 a5 : Option Value} {v : Int32} : wp d 171 Q 28 (a0 :: a1 :: a2 :: a3 :: a4 :: a5 :: L) (.int v :: st) w cn sn = wp d 171 Q 30 (a0 :: a1 :: a2 :: a3 :: clr a4 :: some (.int v) :: L) st w cn sn := w_istore d_171_28 (Nat.le_add_left 6 _) rfl
theorem d_171_30 : decode (mB 171) 30 = .ok (.iconst 0, 1) := by decide +kernel
theorem s_171_30 {d : Nat} {Q : wQ} {L : List (Option Value)} {st : List Value} {w : aw} {cn sn : Nat}  : wp d 171 Q 30 L st w cn sn = wp d 171 Q 31 L (.int 0 :: st) w cn sn := w_iconst d_171_30 (by decide)
theorem d_171_31 : decode (mB 171) 31 = .ok (.istore 6, 2) := by decide +kernel
theorem s_171_31 {d : Nat} {Q : wQ} {L : List (Option Value)} {st : List Value} {w : aw} {cn sn : Nat} {a0 a1 a2 a3 a4 a5 a6 : Option Value} {v : Int32} : wp d 171 Q 31 (a0 :: a1 :: a2 :: a3 :: a4 :: a5 :: a6 :: L) (.int v :: st) w cn sn = wp d 171 Q 33 (a0 :: a1 :: a2 :: a3 :: a4 :: clr a5 :: some (.int v) :: L) st w cn sn := w_istore d_171_31 (Nat.le_add_left 7 _) rfl
theorem d_171_33 : decode (mB 171) 33 = .ok (.iload 6, 2) := by decide +kernel
theorem s_171_33 {d : Nat} {Q : wQ} {L : List (Option Value)} {st : List Value} {w : aw} {cn sn : Nat} {a0 a1 a2 a3 a4 a5 : Option Value} {v : Int32} : wp d 171 Q 33 (a0 :: a1 :: a2 :: a3 :: a4 :: a5 :: some (.int v) :: L) st w cn sn = wp d 171 Q 35 (a0 :: a1 :: a2 :: a3 :: a4 :: a5 :: some (.int v) :: L) (.int v :: st) w cn sn := w_iload d_171_33 rfl
theorem d_171_35 : decode (mB 171) 35 = .ok (.ifCond .ne 59, 3) := by decide +kernel
theorem s_171_35 {d : Nat} {Q : wQ} {L : List (Option Value)} {st : List Value} {w : aw} {cn sn : Nat} {x : Int32} : wp d 171 Q 35 L (.int x :: st) w cn sn = ((¬ x = 0 → wp d 171 Q 94 L st w cn sn) ∧ (x = 0 → wp d 171 Q 38 L st w cn sn)) := w_ifne d_171_35 (by decide)
theorem d_171_38 : decode (mB 171) 38 = .ok (.iload 5, 2) := by decide +kernel
theorem s_171_38 {d : Nat} {Q : wQ} {L : List (Option Value)} {st : List Value} {w : aw} {cn sn : Nat} {a0 a1 a2 a3 a4 : Option Value} {v : Int32} : wp d 171 Q 38 (a0 :: a1 :: a2 :: a3 :: a4 :: some (.int v) :: L) st w cn sn = wp d 171 Q 40 (a0 :: a1 :: a2 :: a3 :: a4 :: some (.int v) :: L) (.int v :: st) w cn sn := w_iload d_171_38 rfl
theorem d_171_40 : decode (mB 171) 40 = .ok (.iload 4, 2) := by decide +kernel
theorem s_171_40 {d : Nat} {Q : wQ} {L : List (Option Value)} {st : List Value} {w : aw} {cn sn : Nat} {a0 a1 a2 a3 : Option Value} {v : Int32} : wp d 171 Q 40 (a0 :: a1 :: a2 :: a3 :: some (.int v) :: L) st w cn sn = wp d 171 Q 42 (a0 :: a1 :: a2 :: a3 :: some (.int v) :: L) (.int v :: st) w cn sn := w_iload d_171_40 rfl
theorem d_171_42 : decode (mB 171) 42 = .ok (.if_icmp .gt 52, 3) := by decide +kernel
theorem s_171_42 {d : Nat} {Q : wQ} {L : List (Option Value)} {st : List Value} {w : aw} {cn sn : Nat} {a b : Int32} : wp d 171 Q 42 L (.int b :: .int a :: st) w cn sn = ((b < a → wp d 171 Q 94 L st w cn sn) ∧ (¬ b < a → wp d 171 Q 45 L st w cn sn)) := w_icgt d_171_42 (by decide)
theorem d_171_45 : decode (mB 171) 45 = .ok (.iload 5, 2) := by decide +kernel
theorem s_171_45 {d : Nat} {Q : wQ} {L : List (Option Value)} {st : List Value} {w : aw} {cn sn : Nat} {a0 a1 a2 a3 a4 : Option Value} {v : Int32} : wp d 171 Q 45 (a0 :: a1 :: a2 :: a3 :: a4 :: some (.int v) :: L) st w cn sn = wp d 171 Q 47 (a0 :: a1 :: a2 :: a3 :: a4 :: some (.int v) :: L) (.int v :: st) w cn sn := w_iload d_171_45 rfl
theorem d_171_47 : decode (mB 171) 47 = .ok (.istore 7, 2) := by decide +kernel
theorem s_171_47 {d : Nat} {Q : wQ} {L : List (Option Value)} {st : List Value} {w : aw} {cn sn : Nat} {a0 a1 a2 a3 a4 a5 a6 a7 : Option Value} {v : Int32} : wp d 171 Q 47 (a0 :: a1 :: a2 :: a3 :: a4 :: a5 :: a6 :: a7 :: L) (.int v :: st) w cn sn = wp d 171 Q 49 (a0 :: a1 :: a2 :: a3 :: a4 :: a5 :: clr a6 :: some (.int v) :: L) st w cn sn := w_istore d_171_47 (Nat.le_add_left 8 _) rfl
theorem d_171_49 : decode (mB 171) 49 = .ok (.iload 7, 2) := by decide +kernel
theorem s_171_49 {d : Nat} {Q : wQ} {L : List (Option Value)} {st : List Value} {w : aw} {cn sn : Nat} {a0 a1 a2 a3 a4 a5 a6 : Option Value} {v : Int32} : wp d 171 Q 49 (a0 :: a1 :: a2 :: a3 :: a4 :: a5 :: a6 :: some (.int v) :: L) st w cn sn = wp d 171 Q 51 (a0 :: a1 :: a2 :: a3 :: a4 :: a5 :: a6 :: some (.int v) :: L) (.int v :: st) w cn sn := w_iload d_171_49 rfl
theorem d_171_51 : decode (mB 171) 51 = .ok (.iload 4, 2) := by decide +kernel
theorem s_171_51 {d : Nat} {Q : wQ} {L : List (Option Value)} {st : List Value} {w : aw} {cn sn : Nat} {a0 a1 a2 a3 : Option Value} {v : Int32} : wp d 171 Q 51 (a0 :: a1 :: a2 :: a3 :: some (.int v) :: L) st w cn sn = wp d 171 Q 53 (a0 :: a1 :: a2 :: a3 :: some (.int v) :: L) (.int v :: st) w cn sn := w_iload d_171_51 rfl
theorem d_171_53 : decode (mB 171) 53 = .ok (.if_icmp .ge 21, 3) := by decide +kernel
theorem s_171_53 {d : Nat} {Q : wQ} {L : List (Option Value)} {st : List Value} {w : aw} {cn sn : Nat} {a b : Int32} : wp d 171 Q 53 L (.int b :: .int a :: st) w cn sn = ((b ≤ a → wp d 171 Q 74 L st w cn sn) ∧ (¬ b ≤ a → wp d 171 Q 56 L st w cn sn)) := w_icge d_171_53 (by decide)
theorem d_171_56 : decode (mB 171) 56 = .ok (.aload_n 0, 1) := by decide +kernel
theorem s_171_56 {d : Nat} {Q : wQ} {L : List (Option Value)} {st : List Value} {w : aw} {cn sn : Nat} {v : Nat} : wp d 171 Q 56 (some (.ref v) :: L) st w cn sn = wp d 171 Q 57 (some (.ref v) :: L) (.ref v :: st) w cn sn := w_aload_n d_171_56 rfl
theorem d_171_57 : decode (mB 171) 57 = .ok (.getfield 72, 3) := by decide +kernel
theorem s_171_57 {d : Nat} {Q : wQ} {L : List (Option Value)} {st : List Value} {w : aw} {cn sn : Nat} {a : Nat} : wp d 171 Q 57 L (.ref a :: st) w cn sn = (kd w a = 9 ∧ wp d 171 Q 60 L (fd w 542 a :: st) w cn sn) := w_getfield d_171_57 (by decide +kernel : fT (mO 171) 72 = some (8, 30))
theorem d_171_60 : decode (mB 171) 60 = .ok (.iload 7, 2) := by decide +kernel
theorem s_171_60 {d : Nat} {Q : wQ} {L : List (Option Value)} {st : List Value} {w : aw} {cn sn : Nat} {a0 a1 a2 a3 a4 a5 a6 : Option Value} {v : Int32} : wp d 171 Q 60 (a0 :: a1 :: a2 :: a3 :: a4 :: a5 :: a6 :: some (.int v) :: L) st w cn sn = wp d 171 Q 62 (a0 :: a1 :: a2 :: a3 :: a4 :: a5 :: a6 :: some (.int v) :: L) (.int v :: st) w cn sn := w_iload d_171_60 rfl
theorem d_171_62 : decode (mB 171) 62 = .ok (.iaload, 1) := by decide +kernel
theorem s_171_62 {d : Nat} {Q : wQ} {L : List (Option Value)} {st : List Value} {w : aw} {cn sn : Nat} {a : Nat} {i : Int32} : wp d 171 Q 62 L (.int i :: .ref a :: st) w cn sn = ((kd w a = 20 ∨ kd w a = 30) ∧ inR i (ln w a) ∧ wp d 171 Q 63 L (.int (ai w a i.toNatClampNeg) :: st) w cn sn) := wp_row d_171_62 _ _ _ _ _
theorem d_171_63 : decode (mB 171) 63 = .ok (.bipush 59, 2) := by decide +kernel
theorem s_171_63 {d : Nat} {Q : wQ} {L : List (Option Value)} {st : List Value} {w : aw} {cn sn : Nat}  : wp d 171 Q 63 L st w cn sn = wp d 171 Q 65 L (.int 59 :: st) w cn sn := w_bipush d_171_63 (by decide)
theorem d_171_65 : decode (mB 171) 65 = .ok (.if_icmp .eq 9, 3) := by decide +kernel
theorem s_171_65 {d : Nat} {Q : wQ} {L : List (Option Value)} {st : List Value} {w : aw} {cn sn : Nat} {a b : Int32} : wp d 171 Q 65 L (.int b :: .int a :: st) w cn sn = ((a = b → wp d 171 Q 74 L st w cn sn) ∧ (¬ a = b → wp d 171 Q 68 L st w cn sn)) := w_iceq d_171_65 (by decide)
theorem d_171_68 : decode (mB 171) 68 = .ok (.iinc 7 1, 3) := by decide +kernel
theorem s_171_68 {d : Nat} {Q : wQ} {L : List (Option Value)} {st : List Value} {w : aw} {cn sn : Nat} {a0 a1 a2 a3 a4 a5 a6 : Option Value} {v : Int32} : wp d 171 Q 68 (a0 :: a1 :: a2 :: a3 :: a4 :: a5 :: a6 :: some (.int v) :: L) st w cn sn = wp d 171 Q 71 (a0 :: a1 :: a2 :: a3 :: a4 :: a5 :: clr a6 :: some (.int (v + 1)) :: L) st w cn sn := w_iinc d_171_68 rfl (by decide) rfl
theorem d_171_71 : decode (mB 171) 71 = .ok (.goto (-22), 3) := by decide +kernel
theorem s_171_71 {d : Nat} {Q : wQ} {L : List (Option Value)} {st : List Value} {w : aw} {cn sn : Nat}  : wp d 171 Q 71 L st w cn sn = wp d 171 Q 49 L st w cn sn := w_goto d_171_71 (by decide)
theorem d_171_74 : decode (mB 171) 74 = .ok (.aload_n 0, 1) := by decide +kernel
theorem s_171_74 {d : Nat} {Q : wQ} {L : List (Option Value)} {st : List Value} {w : aw} {cn sn : Nat} {v : Nat} : wp d 171 Q 74 (some (.ref v) :: L) st w cn sn = wp d 171 Q 75 (some (.ref v) :: L) (.ref v :: st) w cn sn := w_aload_n d_171_74 rfl
theorem d_171_75 : decode (mB 171) 75 = .ok (.iload 5, 2) := by decide +kernel
theorem s_171_75 {d : Nat} {Q : wQ} {L : List (Option Value)} {st : List Value} {w : aw} {cn sn : Nat} {a0 a1 a2 a3 a4 : Option Value} {v : Int32} : wp d 171 Q 75 (a0 :: a1 :: a2 :: a3 :: a4 :: some (.int v) :: L) st w cn sn = wp d 171 Q 77 (a0 :: a1 :: a2 :: a3 :: a4 :: some (.int v) :: L) (.int v :: st) w cn sn := w_iload d_171_75 rfl
theorem d_171_77 : decode (mB 171) 77 = .ok (.iload 7, 2) := by decide +kernel
theorem s_171_77 {d : Nat} {Q : wQ} {L : List (Option Value)} {st : List Value} {w : aw} {cn sn : Nat} {a0 a1 a2 a3 a4 a5 a6 : Option Value} {v : Int32} : wp d 171 Q 77 (a0 :: a1 :: a2 :: a3 :: a4 :: a5 :: a6 :: some (.int v) :: L) st w cn sn = wp d 171 Q 79 (a0 :: a1 :: a2 :: a3 :: a4 :: a5 :: a6 :: some (.int v) :: L) (.int v :: st) w cn sn := w_iload d_171_77 rfl
theorem d_171_79 : decode (mB 171) 79 = .ok (.iload_n 3, 1) := by decide +kernel
theorem s_171_79 {d : Nat} {Q : wQ} {L : List (Option Value)} {st : List Value} {w : aw} {cn sn : Nat} {a0 a1 a2 : Option Value} {v : Int32} : wp d 171 Q 79 (a0 :: a1 :: a2 :: some (.int v) :: L) st w cn sn = wp d 171 Q 80 (a0 :: a1 :: a2 :: some (.int v) :: L) (.int v :: st) w cn sn := w_iload_n d_171_79 rfl
theorem d_171_80 : decode (mB 171) 80 = .ok (.invokevirtual 325, 3) := by decide +kernel
theorem s_171_80 {d : Nat} {Q : wQ} {L : List (Option Value)} {st : List Value} {w : aw} {cn sn : Nat} {v0 v1 v2 : Value} {b : Nat} : wp d 171 Q 80 L (v2 :: v1 :: v0 :: .ref b :: st) w cn sn = (kd w b = 9 ∧ catS st ≤ 8 ∧ wpD d 170 [.ref b, v0, v1, v2] w (fun v w' => wp d 171 Q 83 L (v.toList ++ st) w' cn sn)) := w_virtual (As := [v0, v1, v2]) d_171_80 (by decide +kernel : cT (mO 171) 325 = some (0, 170)) rfl (by decide +kernel) rfl (by decide +kernel) rfl
theorem d_171_83 : decode (mB 171) 83 = .ok (.istore 6, 2) := by decide +kernel
theorem s_171_83 {d : Nat} {Q : wQ} {L : List (Option Value)} {st : List Value} {w : aw} {cn sn : Nat} {a0 a1 a2 a3 a4 a5 a6 : Option Value} {v : Int32} : wp d 171 Q 83 (a0 :: a1 :: a2 :: a3 :: a4 :: a5 :: a6 :: L) (.int v :: st) w cn sn = wp d 171 Q 85 (a0 :: a1 :: a2 :: a3 :: a4 :: clr a5 :: some (.int v) :: L) st w cn sn := w_istore d_171_83 (Nat.le_add_left 7 _) rfl
theorem d_171_85 : decode (mB 171) 85 = .ok (.iload 7, 2) := by decide +kernel
theorem s_171_85 {d : Nat} {Q : wQ} {L : List (Option Value)} {st : List Value} {w : aw} {cn sn : Nat} {a0 a1 a2 a3 a4 a5 a6 : Option Value} {v : Int32} : wp d 171 Q 85 (a0 :: a1 :: a2 :: a3 :: a4 :: a5 :: a6 :: some (.int v) :: L) st w cn sn = wp d 171 Q 87 (a0 :: a1 :: a2 :: a3 :: a4 :: a5 :: a6 :: some (.int v) :: L) (.int v :: st) w cn sn := w_iload d_171_85 rfl
theorem d_171_87 : decode (mB 171) 87 = .ok (.iconst 1, 1) := by decide +kernel
theorem s_171_87 {d : Nat} {Q : wQ} {L : List (Option Value)} {st : List Value} {w : aw} {cn sn : Nat}  : wp d 171 Q 87 L st w cn sn = wp d 171 Q 88 L (.int 1 :: st) w cn sn := w_iconst d_171_87 (by decide)
theorem d_171_88 : decode (mB 171) 88 = .ok (.iadd, 1) := by decide +kernel
theorem s_171_88 {d : Nat} {Q : wQ} {L : List (Option Value)} {st : List Value} {w : aw} {cn sn : Nat} {a b : Int32} : wp d 171 Q 88 L (.int b :: .int a :: st) w cn sn = wp d 171 Q 89 L (.int (a + b) :: st) w cn sn := wp_row d_171_88 _ _ _ _ _
theorem d_171_89 : decode (mB 171) 89 = .ok (.istore 5, 2) := by decide +kernel
theorem s_171_89 {d : Nat} {Q : wQ} {L : List (Option Value)} {st : List Value} {w : aw} {cn sn : Nat} {a0 a1 a2 a3 a4 a5 : Option Value} {v : Int32} : wp d 171 Q 89 (a0 :: a1 :: a2 :: a3 :: a4 :: a5 :: L) (.int v :: st) w cn sn = wp d 171 Q 91 (a0 :: a1 :: a2 :: a3 :: clr a4 :: some (.int v) :: L) st w cn sn := w_istore d_171_89 (Nat.le_add_left 6 _) rfl
theorem d_171_91 : decode (mB 171) 91 = .ok (.goto (-58), 3) := by decide +kernel
theorem s_171_91 {d : Nat} {Q : wQ} {L : List (Option Value)} {st : List Value} {w : aw} {cn sn : Nat}  : wp d 171 Q 91 L st w cn sn = wp d 171 Q 33 L st w cn sn := w_goto d_171_91 (by decide)
theorem d_171_94 : decode (mB 171) 94 = .ok (.iload 6, 2) := by decide +kernel
theorem s_171_94 {d : Nat} {Q : wQ} {L : List (Option Value)} {st : List Value} {w : aw} {cn sn : Nat} {a0 a1 a2 a3 a4 a5 : Option Value} {v : Int32} : wp d 171 Q 94 (a0 :: a1 :: a2 :: a3 :: a4 :: a5 :: some (.int v) :: L) st w cn sn = wp d 171 Q 96 (a0 :: a1 :: a2 :: a3 :: a4 :: a5 :: some (.int v) :: L) (.int v :: st) w cn sn := w_iload d_171_94 rfl
theorem d_171_96 : decode (mB 171) 96 = .ok (.ireturn, 1) := by decide +kernel
theorem s_171_96 {d : Nat} {Q : wQ} {L : List (Option Value)} {w : aw} {cn sn : Nat} {v : Int32} : wp d 171 Q 96 L [.int v] w cn sn = Q (some (.int v)) w := w_ireturn d_171_96 rfl
theorem d_172_0 : decode (mB 172) 0 = .ok (.aload_n 0, 1) := by decide +kernel
theorem s_172_0 {d : Nat} {Q : wQ} {L : List (Option Value)} {st : List Value} {w : aw} {cn sn : Nat} {v : Nat} : wp d 172 Q 0 (some (.ref v) :: L) st w cn sn = wp d 172 Q 1 (some (.ref v) :: L) (.ref v :: st) w cn sn := w_aload_n d_172_0 rfl
theorem d_172_1 : decode (mB 172) 1 = .ok (.sipush 128, 3) := by decide +kernel
theorem s_172_1 {d : Nat} {Q : wQ} {L : List (Option Value)} {st : List Value} {w : aw} {cn sn : Nat}  : wp d 172 Q 1 L st w cn sn = wp d 172 Q 4 L (.int 128 :: st) w cn sn := w_sipush d_172_1 (by decide)
theorem d_172_4 : decode (mB 172) 4 = .ok (.putfield 254, 3) := by decide +kernel
theorem s_172_4 {d : Nat} {Q : wQ} {L : List (Option Value)} {st : List Value} {w : aw} {cn sn : Nat} {x : Int32} {a : Nat} : wp d 172 Q 4 L (.int x :: .ref a :: st) w cn sn = (kd w a = 9 ∧ wp d 172 Q 7 L st (uF w 554 a (.int x)) cn sn) := w_putfield d_172_4 (by decide +kernel : fT (mO 172) 254 = some (8, 42)) (by decide +kernel) ok_int
theorem d_172_7 : decode (mB 172) 7 = .ok (.iconst 1, 1) := by decide +kernel
theorem s_172_7 {d : Nat} {Q : wQ} {L : List (Option Value)} {st : List Value} {w : aw} {cn sn : Nat}  : wp d 172 Q 7 L st w cn sn = wp d 172 Q 8 L (.int 1 :: st) w cn sn := w_iconst d_172_7 (by decide)
theorem d_172_8 : decode (mB 172) 8 = .ok (.istore_n 2, 1) := by decide +kernel
theorem s_172_8 {d : Nat} {Q : wQ} {L : List (Option Value)} {st : List Value} {w : aw} {cn sn : Nat} {a0 a1 a2 : Option Value} {v : Int32} : wp d 172 Q 8 (a0 :: a1 :: a2 :: L) (.int v :: st) w cn sn = wp d 172 Q 9 (a0 :: clr a1 :: some (.int v) :: L) st w cn sn := w_istore_n d_172_8 (Nat.le_add_left 3 _) rfl
theorem d_172_9 : decode (mB 172) 9 = .ok (.iconst 0, 1) := by decide +kernel
theorem s_172_9 {d : Nat} {Q : wQ} {L : List (Option Value)} {st : List Value} {w : aw} {cn sn : Nat}  : wp d 172 Q 9 L st w cn sn = wp d 172 Q 10 L (.int 0 :: st) w cn sn := w_iconst d_172_9 (by decide)
theorem d_172_10 : decode (mB 172) 10 = .ok (.istore_n 3, 1) := by decide +kernel
theorem s_172_10 {d : Nat} {Q : wQ} {L : List (Option Value)} {st : List Value} {w : aw} {cn sn : Nat} {a0 a1 a2 a3 : Option Value} {v : Int32} : wp d 172 Q 10 (a0 :: a1 :: a2 :: a3 :: L) (.int v :: st) w cn sn = wp d 172 Q 11 (a0 :: a1 :: clr a2 :: some (.int v) :: L) st w cn sn := w_istore_n d_172_10 (Nat.le_add_left 4 _) rfl
theorem d_172_11 : decode (mB 172) 11 = .ok (.iload_n 3, 1) := by decide +kernel
theorem s_172_11 {d : Nat} {Q : wQ} {L : List (Option Value)} {st : List Value} {w : aw} {cn sn : Nat} {a0 a1 a2 : Option Value} {v : Int32} : wp d 172 Q 11 (a0 :: a1 :: a2 :: some (.int v) :: L) st w cn sn = wp d 172 Q 12 (a0 :: a1 :: a2 :: some (.int v) :: L) (.int v :: st) w cn sn := w_iload_n d_172_11 rfl
theorem d_172_12 : decode (mB 172) 12 = .ok (.aload_n 0, 1) := by decide +kernel
theorem s_172_12 {d : Nat} {Q : wQ} {L : List (Option Value)} {st : List Value} {w : aw} {cn sn : Nat} {v : Nat} : wp d 172 Q 12 (some (.ref v) :: L) st w cn sn = wp d 172 Q 13 (some (.ref v) :: L) (.ref v :: st) w cn sn := w_aload_n d_172_12 rfl
theorem d_172_13 : decode (mB 172) 13 = .ok (.getfield 193, 3) := by decide +kernel
theorem s_172_13 {d : Nat} {Q : wQ} {L : List (Option Value)} {st : List Value} {w : aw} {cn sn : Nat} {a : Nat} : wp d 172 Q 13 L (.ref a :: st) w cn sn = (kd w a = 9 ∧ wp d 172 Q 16 L (fd w 543 a :: st) w cn sn) := w_getfield d_172_13 (by decide +kernel : fT (mO 172) 193 = some (8, 31))
theorem d_172_16 : decode (mB 172) 16 = .ok (.if_icmp .ge 70, 3) := by decide +kernel
theorem s_172_16 {d : Nat} {Q : wQ} {L : List (Option Value)} {st : List Value} {w : aw} {cn sn : Nat} {a b : Int32} : wp d 172 Q 16 L (.int b :: .int a :: st) w cn sn = ((b ≤ a → wp d 172 Q 86 L st w cn sn) ∧ (¬ b ≤ a → wp d 172 Q 19 L st w cn sn)) := w_icge d_172_16 (by decide)
theorem d_172_19 : decode (mB 172) 19 = .ok (.iload_n 3, 1) := by decide +kernel
theorem s_172_19 {d : Nat} {Q : wQ} {L : List (Option Value)} {st : List Value} {w : aw} {cn sn : Nat} {a0 a1 a2 : Option Value} {v : Int32} : wp d 172 Q 19 (a0 :: a1 :: a2 :: some (.int v) :: L) st w cn sn = wp d 172 Q 20 (a0 :: a1 :: a2 :: some (.int v) :: L) (.int v :: st) w cn sn := w_iload_n d_172_19 rfl
theorem d_172_20 : decode (mB 172) 20 = .ok (.istore 4, 2) := by decide +kernel
theorem s_172_20 {d : Nat} {Q : wQ} {L : List (Option Value)} {st : List Value} {w : aw} {cn sn : Nat} {a0 a1 a2 a3 a4 : Option Value} {v : Int32} : wp d 172 Q 20 (a0 :: a1 :: a2 :: a3 :: a4 :: L) (.int v :: st) w cn sn = wp d 172 Q 22 (a0 :: a1 :: a2 :: clr a3 :: some (.int v) :: L) st w cn sn := w_istore d_172_20 (Nat.le_add_left 5 _) rfl
theorem d_172_22 : decode (mB 172) 22 = .ok (.iload 4, 2) := by decide +kernel
theorem s_172_22 {d : Nat} {Q : wQ} {L : List (Option Value)} {st : List Value} {w : aw} {cn sn : Nat} {a0 a1 a2 a3 : Option Value} {v : Int32} : wp d 172 Q 22 (a0 :: a1 :: a2 :: a3 :: some (.int v) :: L) st w cn sn = wp d 172 Q 24 (a0 :: a1 :: a2 :: a3 :: some (.int v) :: L) (.int v :: st) w cn sn := w_iload d_172_22 rfl
theorem d_172_24 : decode (mB 172) 24 = .ok (.aload_n 0, 1) := by decide +kernel
theorem s_172_24 {d : Nat} {Q : wQ} {L : List (Option Value)} {st : List Value} {w : aw} {cn sn : Nat} {v : Nat} : wp d 172 Q 24 (some (.ref v) :: L) st w cn sn = wp d 172 Q 25 (some (.ref v) :: L) (.ref v :: st) w cn sn := w_aload_n d_172_24 rfl
theorem d_172_25 : decode (mB 172) 25 = .ok (.getfield 193, 3) := by decide +kernel
theorem s_172_25 {d : Nat} {Q : wQ} {L : List (Option Value)} {st : List Value} {w : aw} {cn sn : Nat} {a : Nat} : wp d 172 Q 25 L (.ref a :: st) w cn sn = (kd w a = 9 ∧ wp d 172 Q 28 L (fd w 543 a :: st) w cn sn) := w_getfield d_172_25 (by decide +kernel : fT (mO 172) 193 = some (8, 31))
theorem d_172_28 : decode (mB 172) 28 = .ok (.if_icmp .ge 21, 3) := by decide +kernel
theorem s_172_28 {d : Nat} {Q : wQ} {L : List (Option Value)} {st : List Value} {w : aw} {cn sn : Nat} {a b : Int32} : wp d 172 Q 28 L (.int b :: .int a :: st) w cn sn = ((b ≤ a → wp d 172 Q 49 L st w cn sn) ∧ (¬ b ≤ a → wp d 172 Q 31 L st w cn sn)) := w_icge d_172_28 (by decide)
theorem d_172_31 : decode (mB 172) 31 = .ok (.aload_n 0, 1) := by decide +kernel
theorem s_172_31 {d : Nat} {Q : wQ} {L : List (Option Value)} {st : List Value} {w : aw} {cn sn : Nat} {v : Nat} : wp d 172 Q 31 (some (.ref v) :: L) st w cn sn = wp d 172 Q 32 (some (.ref v) :: L) (.ref v :: st) w cn sn := w_aload_n d_172_31 rfl
theorem d_172_32 : decode (mB 172) 32 = .ok (.getfield 72, 3) := by decide +kernel
theorem s_172_32 {d : Nat} {Q : wQ} {L : List (Option Value)} {st : List Value} {w : aw} {cn sn : Nat} {a : Nat} : wp d 172 Q 32 L (.ref a :: st) w cn sn = (kd w a = 9 ∧ wp d 172 Q 35 L (fd w 542 a :: st) w cn sn) := w_getfield d_172_32 (by decide +kernel : fT (mO 172) 72 = some (8, 30))
theorem d_172_35 : decode (mB 172) 35 = .ok (.iload 4, 2) := by decide +kernel
theorem s_172_35 {d : Nat} {Q : wQ} {L : List (Option Value)} {st : List Value} {w : aw} {cn sn : Nat} {a0 a1 a2 a3 : Option Value} {v : Int32} : wp d 172 Q 35 (a0 :: a1 :: a2 :: a3 :: some (.int v) :: L) st w cn sn = wp d 172 Q 37 (a0 :: a1 :: a2 :: a3 :: some (.int v) :: L) (.int v :: st) w cn sn := w_iload d_172_35 rfl
theorem d_172_37 : decode (mB 172) 37 = .ok (.iaload, 1) := by decide +kernel
theorem s_172_37 {d : Nat} {Q : wQ} {L : List (Option Value)} {st : List Value} {w : aw} {cn sn : Nat} {a : Nat} {i : Int32} : wp d 172 Q 37 L (.int i :: .ref a :: st) w cn sn = ((kd w a = 20 ∨ kd w a = 30) ∧ inR i (ln w a) ∧ wp d 172 Q 38 L (.int (ai w a i.toNatClampNeg) :: st) w cn sn) := wp_row d_172_37 _ _ _ _ _
theorem d_172_38 : decode (mB 172) 38 = .ok (.bipush 10, 2) := by decide +kernel
theorem s_172_38 {d : Nat} {Q : wQ} {L : List (Option Value)} {st : List Value} {w : aw} {cn sn : Nat}  : wp d 172 Q 38 L st w cn sn = wp d 172 Q 40 L (.int 10 :: st) w cn sn := w_bipush d_172_38 (by decide)
theorem d_172_40 : decode (mB 172) 40 = .ok (.if_icmp .eq 9, 3) := by decide +kernel
theorem s_172_40 {d : Nat} {Q : wQ} {L : List (Option Value)} {st : List Value} {w : aw} {cn sn : Nat} {a b : Int32} : wp d 172 Q 40 L (.int b :: .int a :: st) w cn sn = ((a = b → wp d 172 Q 49 L st w cn sn) ∧ (¬ a = b → wp d 172 Q 43 L st w cn sn)) := w_iceq d_172_40 (by decide)
theorem d_172_43 : decode (mB 172) 43 = .ok (.iinc 4 1, 3) := by decide +kernel
theorem s_172_43 {d : Nat} {Q : wQ} {L : List (Option Value)} {st : List Value} {w : aw} {cn sn : Nat} {a0 a1 a2 a3 : Option Value} {v : Int32} : wp d 172 Q 43 (a0 :: a1 :: a2 :: a3 :: some (.int v) :: L) st w cn sn = wp d 172 Q 46 (a0 :: a1 :: a2 :: clr a3 :: some (.int (v + 1)) :: L) st w cn sn := w_iinc d_172_43 rfl (by decide) rfl
theorem d_172_46 : decode (mB 172) 46 = .ok (.goto (-24), 3) := by decide +kernel
theorem s_172_46 {d : Nat} {Q : wQ} {L : List (Option Value)} {st : List Value} {w : aw} {cn sn : Nat}  : wp d 172 Q 46 L st w cn sn = wp d 172 Q 22 L st w cn sn := w_goto d_172_46 (by decide)
theorem d_172_49 : decode (mB 172) 49 = .ok (.aload_n 0, 1) := by decide +kernel
theorem s_172_49 {d : Nat} {Q : wQ} {L : List (Option Value)} {st : List Value} {w : aw} {cn sn : Nat} {v : Nat} : wp d 172 Q 49 (some (.ref v) :: L) st w cn sn = wp d 172 Q 50 (some (.ref v) :: L) (.ref v :: st) w cn sn := w_aload_n d_172_49 rfl
theorem d_172_50 : decode (mB 172) 50 = .ok (.aload_n 0, 1) := by decide +kernel
theorem s_172_50 {d : Nat} {Q : wQ} {L : List (Option Value)} {st : List Value} {w : aw} {cn sn : Nat} {v : Nat} : wp d 172 Q 50 (some (.ref v) :: L) st w cn sn = wp d 172 Q 51 (some (.ref v) :: L) (.ref v :: st) w cn sn := w_aload_n d_172_50 rfl
theorem d_172_51 : decode (mB 172) 51 = .ok (.iload_n 3, 1) := by decide +kernel
theorem s_172_51 {d : Nat} {Q : wQ} {L : List (Option Value)} {st : List Value} {w : aw} {cn sn : Nat} {a0 a1 a2 : Option Value} {v : Int32} : wp d 172 Q 51 (a0 :: a1 :: a2 :: some (.int v) :: L) st w cn sn = wp d 172 Q 52 (a0 :: a1 :: a2 :: some (.int v) :: L) (.int v :: st) w cn sn := w_iload_n d_172_51 rfl
theorem d_172_52 : decode (mB 172) 52 = .ok (.iload 4, 2) := by decide +kernel
theorem s_172_52 {d : Nat} {Q : wQ} {L : List (Option Value)} {st : List Value} {w : aw} {cn sn : Nat} {a0 a1 a2 a3 : Option Value} {v : Int32} : wp d 172 Q 52 (a0 :: a1 :: a2 :: a3 :: some (.int v) :: L) st w cn sn = wp d 172 Q 54 (a0 :: a1 :: a2 :: a3 :: some (.int v) :: L) (.int v :: st) w cn sn := w_iload d_172_52 rfl
theorem d_172_54 : decode (mB 172) 54 = .ok (.iload_n 1, 1) := by decide +kernel
theorem s_172_54 {d : Nat} {Q : wQ} {L : List (Option Value)} {st : List Value} {w : aw} {cn sn : Nat} {a0 : Option Value} {v : Int32} : wp d 172 Q 54 (a0 :: some (.int v) :: L) st w cn sn = wp d 172 Q 55 (a0 :: some (.int v) :: L) (.int v :: st) w cn sn := w_iload_n d_172_54 rfl
theorem d_172_55 : decode (mB 172) 55 = .ok (.invokevirtual 329, 3) := by decide +kernel
theorem s_172_55 {d : Nat} {Q : wQ} {L : List (Option Value)} {st : List Value} {w : aw} {cn sn : Nat} {v0 v1 v2 : Value} {b : Nat} : wp d 172 Q 55 L (v2 :: v1 :: v0 :: .ref b :: st) w cn sn = (kd w b = 9 ∧ catS st ≤ 8 ∧ wpD d 171 [.ref b, v0, v1, v2] w (fun v w' => wp d 172 Q 58 L (v.toList ++ st) w' cn sn)) := w_virtual (As := [v0, v1, v2]) d_172_55 (by decide +kernel : cT (mO 172) 329 = some (0, 171)) rfl (by decide +kernel) rfl (by decide +kernel) rfl
theorem d_172_58 : decode (mB 172) 58 = .ok (.putfield 199, 3) := by decide +kernel
theorem s_172_58 {d : Nat} {Q : wQ} {L : List (Option Value)} {st : List Value} {w : aw} {cn sn : Nat} {x : Int32} {a : Nat} : wp d 172 Q 58 L (.int x :: .ref a :: st) w cn sn = (kd w a = 9 ∧ wp d 172 Q 61 L st (uF w 544 a (.int x)) cn sn) := w_putfield d_172_58 (by decide +kernel : fT (mO 172) 199 = some (8, 32)) (by decide +kernel) ok_int
theorem d_172_61 : decode (mB 172) 61 = .ok (.aload_n 0, 1) := by decide +kernel
theorem s_172_61 {d : Nat} {Q : wQ} {L : List (Option Value)} {st : List Value} {w : aw} {cn sn : Nat} {v : Nat} : wp d 172 Q 61 (some (.ref v) :: L) st w cn sn = wp d 172 Q 62 (some (.ref v) :: L) (.ref v :: st) w cn sn := w_aload_n d_172_61 rfl
theorem d_172_62 : decode (mB 172) 62 = .ok (.iload_n 2, 1) := by decide +kernel
theorem s_172_62 {d : Nat} {Q : wQ} {L : List (Option Value)} {st : List Value} {w : aw} {cn sn : Nat} {a0 a1 : Option Value} {v : Int32} : wp d 172 Q 62 (a0 :: a1 :: some (.int v) :: L) st w cn sn = wp d 172 Q 63 (a0 :: a1 :: some (.int v) :: L) (.int v :: st) w cn sn := w_iload_n d_172_62 rfl
theorem d_172_63 : decode (mB 172) 63 = .ok (.putfield 202, 3) := by decide +kernel
theorem s_172_63 {d : Nat} {Q : wQ} {L : List (Option Value)} {st : List Value} {w : aw} {cn sn : Nat} {x : Int32} {a : Nat} : wp d 172 Q 63 L (.int x :: .ref a :: st) w cn sn = (kd w a = 9 ∧ wp d 172 Q 66 L st (uF w 545 a (.int x)) cn sn) := w_putfield d_172_63 (by decide +kernel : fT (mO 172) 202 = some (8, 33)) (by decide +kernel) ok_int
theorem d_172_66 : decode (mB 172) 66 = .ok (.aload_n 0, 1) := by decide +kernel
theorem s_172_66 {d : Nat} {Q : wQ} {L : List (Option Value)} {st : List Value} {w : aw} {cn sn : Nat} {v : Nat} : wp d 172 Q 66 (some (.ref v) :: L) st w cn sn = wp d 172 Q 67 (some (.ref v) :: L) (.ref v :: st) w cn sn := w_aload_n d_172_66 rfl
theorem d_172_67 : decode (mB 172) 67 = .ok (.getfield 199, 3) := by decide +kernel
theorem s_172_67 {d : Nat} {Q : wQ} {L : List (Option Value)} {st : List Value} {w : aw} {cn sn : Nat} {a : Nat} : wp d 172 Q 67 L (.ref a :: st) w cn sn = (kd w a = 9 ∧ wp d 172 Q 70 L (fd w 544 a :: st) w cn sn) := w_getfield d_172_67 (by decide +kernel : fT (mO 172) 199 = some (8, 32))
theorem d_172_70 : decode (mB 172) 70 = .ok (.ifCond .le 5, 3) := by decide +kernel
theorem s_172_70 {d : Nat} {Q : wQ} {L : List (Option Value)} {st : List Value} {w : aw} {cn sn : Nat} {x : Int32} : wp d 172 Q 70 L (.int x :: st) w cn sn = ((x ≤ 0 → wp d 172 Q 75 L st w cn sn) ∧ (¬ x ≤ 0 → wp d 172 Q 73 L st w cn sn)) := w_ifle d_172_70 (by decide)
theorem d_172_73 : decode (mB 172) 73 = .ok (.iconst 0, 1) := by decide +kernel
theorem s_172_73 {d : Nat} {Q : wQ} {L : List (Option Value)} {st : List Value} {w : aw} {cn sn : Nat}  : wp d 172 Q 73 L st w cn sn = wp d 172 Q 74 L (.int 0 :: st) w cn sn := w_iconst d_172_73 (by decide)
theorem d_172_74 : decode (mB 172) 74 = .ok (.ireturn, 1) := by decide +kernel
theorem s_172_74 {d : Nat} {Q : wQ} {L : List (Option Value)} {w : aw} {cn sn : Nat} {v : Int32} : wp d 172 Q 74 L [.int v] w cn sn = (narrow .boolean (.int v) = .int v ∧ Q (some (.int v)) w) := w_zreturn d_172_74 rfl
theorem d_172_75 : decode (mB 172) 75 = .ok (.iinc 2 1, 3) := by decide +kernel
theorem s_172_75 {d : Nat} {Q : wQ} {L : List (Option Value)} {st : List Value} {w : aw} {cn sn : Nat} {a0 a1 : Option Value} {v : Int32} : wp d 172 Q 75 (a0 :: a1 :: some (.int v) :: L) st w cn sn = wp d 172 Q 78 (a0 :: clr a1 :: some (.int (v + 1)) :: L) st w cn sn := w_iinc d_172_75 rfl (by decide) rfl
theorem d_172_78 : decode (mB 172) 78 = .ok (.iload 4, 2) := by decide +kernel
theorem s_172_78 {d : Nat} {Q : wQ} {L : List (Option Value)} {st : List Value} {w : aw} {cn sn : Nat} {a0 a1 a2 a3 : Option Value} {v : Int32} : wp d 172 Q 78 (a0 :: a1 :: a2 :: a3 :: some (.int v) :: L) st w cn sn = wp d 172 Q 80 (a0 :: a1 :: a2 :: a3 :: some (.int v) :: L) (.int v :: st) w cn sn := w_iload d_172_78 rfl
theorem d_172_80 : decode (mB 172) 80 = .ok (.iconst 1, 1) := by decide +kernel
theorem s_172_80 {d : Nat} {Q : wQ} {L : List (Option Value)} {st : List Value} {w : aw} {cn sn : Nat}  : wp d 172 Q 80 L st w cn sn = wp d 172 Q 81 L (.int 1 :: st) w cn sn := w_iconst d_172_80 (by decide)
theorem d_172_81 : decode (mB 172) 81 = .ok (.iadd, 1) := by decide +kernel
theorem s_172_81 {d : Nat} {Q : wQ} {L : List (Option Value)} {st : List Value} {w : aw} {cn sn : Nat} {a b : Int32} : wp d 172 Q 81 L (.int b :: .int a :: st) w cn sn = wp d 172 Q 82 L (.int (a + b) :: st) w cn sn := wp_row d_172_81 _ _ _ _ _
theorem d_172_82 : decode (mB 172) 82 = .ok (.istore_n 3, 1) := by decide +kernel
theorem s_172_82 {d : Nat} {Q : wQ} {L : List (Option Value)} {st : List Value} {w : aw} {cn sn : Nat} {a0 a1 a2 a3 : Option Value} {v : Int32} : wp d 172 Q 82 (a0 :: a1 :: a2 :: a3 :: L) (.int v :: st) w cn sn = wp d 172 Q 83 (a0 :: a1 :: clr a2 :: some (.int v) :: L) st w cn sn := w_istore_n d_172_82 (Nat.le_add_left 4 _) rfl
theorem d_172_83 : decode (mB 172) 83 = .ok (.goto (-72), 3) := by decide +kernel
theorem s_172_83 {d : Nat} {Q : wQ} {L : List (Option Value)} {st : List Value} {w : aw} {cn sn : Nat}  : wp d 172 Q 83 L st w cn sn = wp d 172 Q 11 L st w cn sn := w_goto d_172_83 (by decide)
theorem d_172_86 : decode (mB 172) 86 = .ok (.aload_n 0, 1) := by decide +kernel
theorem s_172_86 {d : Nat} {Q : wQ} {L : List (Option Value)} {st : List Value} {w : aw} {cn sn : Nat} {v : Nat} : wp d 172 Q 86 (some (.ref v) :: L) st w cn sn = wp d 172 Q 87 (some (.ref v) :: L) (.ref v :: st) w cn sn := w_aload_n d_172_86 rfl
theorem d_172_87 : decode (mB 172) 87 = .ok (.iconst 0, 1) := by decide +kernel
theorem s_172_87 {d : Nat} {Q : wQ} {L : List (Option Value)} {st : List Value} {w : aw} {cn sn : Nat}  : wp d 172 Q 87 L st w cn sn = wp d 172 Q 88 L (.int 0 :: st) w cn sn := w_iconst d_172_87 (by decide)
theorem d_172_88 : decode (mB 172) 88 = .ok (.putfield 202, 3) := by decide +kernel
theorem s_172_88 {d : Nat} {Q : wQ} {L : List (Option Value)} {st : List Value} {w : aw} {cn sn : Nat} {x : Int32} {a : Nat} : wp d 172 Q 88 L (.int x :: .ref a :: st) w cn sn = (kd w a = 9 ∧ wp d 172 Q 91 L st (uF w 545 a (.int x)) cn sn) := w_putfield d_172_88 (by decide +kernel : fT (mO 172) 202 = some (8, 33)) (by decide +kernel) ok_int
theorem d_172_91 : decode (mB 172) 91 = .ok (.iconst 1, 1) := by decide +kernel
theorem s_172_91 {d : Nat} {Q : wQ} {L : List (Option Value)} {st : List Value} {w : aw} {cn sn : Nat}  : wp d 172 Q 91 L st w cn sn = wp d 172 Q 92 L (.int 1 :: st) w cn sn := w_iconst d_172_91 (by decide)
theorem d_172_92 : decode (mB 172) 92 = .ok (.ireturn, 1) := by decide +kernel
theorem s_172_92 {d : Nat} {Q : wQ} {L : List (Option Value)} {w : aw} {cn sn : Nat} {v : Int32} : wp d 172 Q 92 L [.int v] w cn sn = (narrow .boolean (.int v) = .int v ∧ Q (some (.int v)) w) := w_zreturn d_172_92 rfl
theorem d_173_0 : decode (mB 173) 0 = .ok (.aload_n 0, 1) := by decide +kernel
theorem s_173_0 {d : Nat} {Q : wQ} {L : List (Option Value)} {st : List Value} {w : aw} {cn sn : Nat} {v : Nat} : wp d 173 Q 0 (some (.ref v) :: L) st w cn sn = wp d 173 Q 1 (some (.ref v) :: L) (.ref v :: st) w cn sn := w_aload_n d_173_0 rfl
theorem d_173_1 : decode (mB 173) 1 = .ok (.iload_n 1, 1) := by decide +kernel
theorem s_173_1 {d : Nat} {Q : wQ} {L : List (Option Value)} {st : List Value} {w : aw} {cn sn : Nat} {a0 : Option Value} {v : Int32} : wp d 173 Q 1 (a0 :: some (.int v) :: L) st w cn sn = wp d 173 Q 2 (a0 :: some (.int v) :: L) (.int v :: st) w cn sn := w_iload_n d_173_1 rfl
theorem d_173_2 : decode (mB 173) 2 = .ok (.invokevirtual 205, 3) := by decide +kernel
theorem s_173_2 {d : Nat} {Q : wQ} {L : List (Option Value)} {st : List Value} {w : aw} {cn sn : Nat} {v0 : Value} {b : Nat} : wp d 173 Q 2 L (v0 :: .ref b :: st) w cn sn = (kd w b = 9 ∧ catS st ≤ 8 ∧ wpD d 106 [.ref b, v0] w (fun v w' => wp d 173 Q 5 L (v.toList ++ st) w' cn sn)) := w_virtual (As := [v0]) d_173_2 (by decide +kernel : cT (mO 173) 205 = some (0, 106)) rfl (by decide +kernel) rfl (by decide +kernel) rfl
theorem d_173_5 : decode (mB 173) 5 = .ok (.ifCond .ne 5, 3) := by decide +kernel
theorem s_173_5 {d : Nat} {Q : wQ} {L : List (Option Value)} {st : List Value} {w : aw} {cn sn : Nat} {x : Int32} : wp d 173 Q 5 L (.int x :: st) w cn sn = ((¬ x = 0 → wp d 173 Q 10 L st w cn sn) ∧ (x = 0 → wp d 173 Q 8 L st w cn sn)) := w_ifne d_173_5 (by decide)
theorem d_173_8 : decode (mB 173) 8 = .ok (.iconst (-1), 1) := by decide +kernel
theorem s_173_8 {d : Nat} {Q : wQ} {L : List (Option Value)} {st : List Value} {w : aw} {cn sn : Nat}  : wp d 173 Q 8 L st w cn sn = wp d 173 Q 9 L (.int (-1) :: st) w cn sn := w_iconst d_173_8 (by decide)
theorem d_173_9 : decode (mB 173) 9 = .ok (.ireturn, 1) := by decide +kernel
theorem s_173_9 {d : Nat} {Q : wQ} {L : List (Option Value)} {w : aw} {cn sn : Nat} {v : Int32} : wp d 173 Q 9 L [.int v] w cn sn = Q (some (.int v)) w := w_ireturn d_173_9 rfl
theorem d_173_10 : decode (mB 173) 10 = .ok (.aload_n 0, 1) := by decide +kernel
theorem s_173_10 {d : Nat} {Q : wQ} {L : List (Option Value)} {st : List Value} {w : aw} {cn sn : Nat} {v : Nat} : wp d 173 Q 10 (some (.ref v) :: L) st w cn sn = wp d 173 Q 11 (some (.ref v) :: L) (.ref v :: st) w cn sn := w_aload_n d_173_10 rfl
theorem d_173_11 : decode (mB 173) 11 = .ok (.iconst 0, 1) := by decide +kernel
theorem s_173_11 {d : Nat} {Q : wQ} {L : List (Option Value)} {st : List Value} {w : aw} {cn sn : Nat}  : wp d 173 Q 11 L st w cn sn = wp d 173 Q 12 L (.int 0 :: st) w cn sn := w_iconst d_173_11 (by decide)
theorem d_173_12 : decode (mB 173) 12 = .ok (.putfield 199, 3) := by decide +kernel
theorem s_173_12 {d : Nat} {Q : wQ} {L : List (Option Value)} {st : List Value} {w : aw} {cn sn : Nat} {x : Int32} {a : Nat} : wp d 173 Q 12 L (.int x :: .ref a :: st) w cn sn = (kd w a = 9 ∧ wp d 173 Q 15 L st (uF w 544 a (.int x)) cn sn) := w_putfield d_173_12 (by decide +kernel : fT (mO 173) 199 = some (8, 32)) (by decide +kernel) ok_int
theorem d_173_15 : decode (mB 173) 15 = .ok (.aload_n 0, 1) := by decide +kernel
theorem s_173_15 {d : Nat} {Q : wQ} {L : List (Option Value)} {st : List Value} {w : aw} {cn sn : Nat} {v : Nat} : wp d 173 Q 15 (some (.ref v) :: L) st w cn sn = wp d 173 Q 16 (some (.ref v) :: L) (.ref v :: st) w cn sn := w_aload_n d_173_15 rfl
theorem d_173_16 : decode (mB 173) 16 = .ok (.iconst 0, 1) := by decide +kernel
theorem s_173_16 {d : Nat} {Q : wQ} {L : List (Option Value)} {st : List Value} {w : aw} {cn sn : Nat}  : wp d 173 Q 16 L st w cn sn = wp d 173 Q 17 L (.int 0 :: st) w cn sn := w_iconst d_173_16 (by decide)
theorem d_173_17 : decode (mB 173) 17 = .ok (.putfield 202, 3) := by decide +kernel
theorem s_173_17 {d : Nat} {Q : wQ} {L : List (Option Value)} {st : List Value} {w : aw} {cn sn : Nat} {x : Int32} {a : Nat} : wp d 173 Q 17 L (.int x :: .ref a :: st) w cn sn = (kd w a = 9 ∧ wp d 173 Q 20 L st (uF w 545 a (.int x)) cn sn) := w_putfield d_173_17 (by decide +kernel : fT (mO 173) 202 = some (8, 33)) (by decide +kernel) ok_int
theorem d_173_20 : decode (mB 173) 20 = .ok (.aload_n 0, 1) := by decide +kernel
theorem s_173_20 {d : Nat} {Q : wQ} {L : List (Option Value)} {st : List Value} {w : aw} {cn sn : Nat} {v : Nat} : wp d 173 Q 20 (some (.ref v) :: L) st w cn sn = wp d 173 Q 21 (some (.ref v) :: L) (.ref v :: st) w cn sn := w_aload_n d_173_20 rfl
theorem d_173_21 : decode (mB 173) 21 = .ok (.aload_n 0, 1) := by decide +kernel
theorem s_173_21 {d : Nat} {Q : wQ} {L : List (Option Value)} {st : List Value} {w : aw} {cn sn : Nat} {v : Nat} : wp d 173 Q 21 (some (.ref v) :: L) st w cn sn = wp d 173 Q 22 (some (.ref v) :: L) (.ref v :: st) w cn sn := w_aload_n d_173_21 rfl
theorem d_173_22 : decode (mB 173) 22 = .ok (.getfield 103, 3) := by decide +kernel
theorem s_173_22 {d : Nat} {Q : wQ} {L : List (Option Value)} {st : List Value} {w : aw} {cn sn : Nat} {a : Nat} : wp d 173 Q 22 L (.ref a :: st) w cn sn = (kd w a = 9 ∧ wp d 173 Q 25 L (fd w 549 a :: st) w cn sn) := w_getfield d_173_22 (by decide +kernel : fT (mO 173) 103 = some (8, 37))
theorem d_173_25 : decode (mB 173) 25 = .ok (.putfield 96, 3) := by decide +kernel
theorem s_173_25 {d : Nat} {Q : wQ} {L : List (Option Value)} {st : List Value} {w : aw} {cn sn : Nat} {x : Int32} {a : Nat} : wp d 173 Q 25 L (.int x :: .ref a :: st) w cn sn = (kd w a = 9 ∧ wp d 173 Q 28 L st (uF w 548 a (.int x)) cn sn) := w_putfield d_173_25 (by decide +kernel : fT (mO 173) 96 = some (8, 36)) (by decide +kernel) ok_int
theorem d_173_28 : decode (mB 173) 28 = .ok (.aload_n 0, 1) := by decide +kernel
theorem s_173_28 {d : Nat} {Q : wQ} {L : List (Option Value)} {st : List Value} {w : aw} {cn sn : Nat} {v : Nat} : wp d 173 Q 28 (some (.ref v) :: L) st w cn sn = wp d 173 Q 29 (some (.ref v) :: L) (.ref v :: st) w cn sn := w_aload_n d_173_28 rfl
theorem d_173_29 : decode (mB 173) 29 = .ok (.iconst 0, 1) := by decide +kernel
theorem s_173_29 {d : Nat} {Q : wQ} {L : List (Option Value)} {st : List Value} {w : aw} {cn sn : Nat}  : wp d 173 Q 29 L st w cn sn = wp d 173 Q 30 L (.int 0 :: st) w cn sn := w_iconst d_173_29 (by decide)
theorem d_173_30 : decode (mB 173) 30 = .ok (.putfield 299, 3) := by decide +kernel
theorem s_173_30 {d : Nat} {Q : wQ} {L : List (Option Value)} {st : List Value} {w : aw} {cn sn : Nat} {x : Int32} {a : Nat} : wp d 173 Q 30 L (.int x :: .ref a :: st) w cn sn = (kd w a = 9 ∧ wp d 173 Q 33 L st (uF w 553 a (.int x)) cn sn) := w_putfield d_173_30 (by decide +kernel : fT (mO 173) 299 = some (8, 41)) (by decide +kernel) ok_int
theorem d_173_33 : decode (mB 173) 33 = .ok (.iconst 0, 1) := by decide +kernel
theorem s_173_33 {d : Nat} {Q : wQ} {L : List (Option Value)} {st : List Value} {w : aw} {cn sn : Nat}  : wp d 173 Q 33 L st w cn sn = wp d 173 Q 34 L (.int 0 :: st) w cn sn := w_iconst d_173_33 (by decide)
theorem d_173_34 : decode (mB 173) 34 = .ok (.istore_n 2, 1) := by decide +kernel
theorem s_173_34 {d : Nat} {Q : wQ} {L : List (Option Value)} {st : List Value} {w : aw} {cn sn : Nat} {a0 a1 a2 : Option Value} {v : Int32} : wp d 173 Q 34 (a0 :: a1 :: a2 :: L) (.int v :: st) w cn sn = wp d 173 Q 35 (a0 :: clr a1 :: some (.int v) :: L) st w cn sn := w_istore_n d_173_34 (Nat.le_add_left 3 _) rfl
theorem d_173_35 : decode (mB 173) 35 = .ok (.iload_n 2, 1) := by decide +kernel
theorem s_173_35 {d : Nat} {Q : wQ} {L : List (Option Value)} {st : List Value} {w : aw} {cn sn : Nat} {a0 a1 : Option Value} {v : Int32} : wp d 173 Q 35 (a0 :: a1 :: some (.int v) :: L) st w cn sn = wp d 173 Q 36 (a0 :: a1 :: some (.int v) :: L) (.int v :: st) w cn sn := w_iload_n d_173_35 rfl
theorem d_173_36 : decode (mB 173) 36 = .ok (.sipush 4096, 3) := by decide +kernel
theorem s_173_36 {d : Nat} {Q : wQ} {L : List (Option Value)} {st : List Value} {w : aw} {cn sn : Nat}  : wp d 173 Q 36 L st w cn sn = wp d 173 Q 39 L (.int 4096 :: st) w cn sn := w_sipush d_173_36 (by decide)
theorem d_173_39 : decode (mB 173) 39 = .ok (.if_icmp .ge 16, 3) := by decide +kernel
theorem s_173_39 {d : Nat} {Q : wQ} {L : List (Option Value)} {st : List Value} {w : aw} {cn sn : Nat} {a b : Int32} : wp d 173 Q 39 L (.int b :: .int a :: st) w cn sn = ((b ≤ a → wp d 173 Q 55 L st w cn sn) ∧ (¬ b ≤ a → wp d 173 Q 42 L st w cn sn)) := w_icge d_173_39 (by decide)
theorem d_173_42 : decode (mB 173) 42 = .ok (.aload_n 0, 1) := by decide +kernel
theorem s_173_42 {d : Nat} {Q : wQ} {L : List (Option Value)} {st : List Value} {w : aw} {cn sn : Nat} {v : Nat} : wp d 173 Q 42 (some (.ref v) :: L) st w cn sn = wp d 173 Q 43 (some (.ref v) :: L) (.ref v :: st) w cn sn := w_aload_n d_173_42 rfl
theorem d_173_43 : decode (mB 173) 43 = .ok (.getfield 82, 3) := by decide +kernel
theorem s_173_43 {d : Nat} {Q : wQ} {L : List (Option Value)} {st : List Value} {w : aw} {cn sn : Nat} {a : Nat} : wp d 173 Q 43 L (.ref a :: st) w cn sn = (kd w a = 9 ∧ wp d 173 Q 46 L (fd w 550 a :: st) w cn sn) := w_getfield d_173_43 (by decide +kernel : fT (mO 173) 82 = some (8, 38))
theorem d_173_46 : decode (mB 173) 46 = .ok (.iload_n 2, 1) := by decide +kernel
theorem s_173_46 {d : Nat} {Q : wQ} {L : List (Option Value)} {st : List Value} {w : aw} {cn sn : Nat} {a0 a1 : Option Value} {v : Int32} : wp d 173 Q 46 (a0 :: a1 :: some (.int v) :: L) st w cn sn = wp d 173 Q 47 (a0 :: a1 :: some (.int v) :: L) (.int v :: st) w cn sn := w_iload_n d_173_46 rfl
theorem d_173_47 : decode (mB 173) 47 = .ok (.iconst (-1), 1) := by decide +kernel
theorem s_173_47 {d : Nat} {Q : wQ} {L : List (Option Value)} {st : List Value} {w : aw} {cn sn : Nat}  : wp d 173 Q 47 L st w cn sn = wp d 173 Q 48 L (.int (-1) :: st) w cn sn := w_iconst d_173_47 (by decide)
theorem d_173_48 : decode (mB 173) 48 = .ok (.iastore, 1) := by decide +kernel
theorem s_173_48 {d : Nat} {Q : wQ} {L : List (Option Value)} {st : List Value} {w : aw} {cn sn : Nat} {a : Nat} {i x : Int32} : wp d 173 Q 48 L (.int x :: .int i :: .ref a :: st) w cn sn = (kd w a = 20 ∧ inR i (ln w a) ∧ wp d 173 Q 49 L st (uA w a i.toNatClampNeg x) cn sn) := wp_row d_173_48 _ _ _ _ _
theorem d_173_49 : decode (mB 173) 49 = .ok (.iinc 2 1, 3) := by decide +kernel
theorem s_173_49 {d : Nat} {Q : wQ} {L : List (Option Value)} {st : List Value} {w : aw} {cn sn : Nat} {a0 a1 : Option Value} {v : Int32} : wp d 173 Q 49 (a0 :: a1 :: some (.int v) :: L) st w cn sn = wp d 173 Q 52 (a0 :: clr a1 :: some (.int (v + 1)) :: L) st w cn sn := w_iinc d_173_49 rfl (by decide) rfl
theorem d_173_52 : decode (mB 173) 52 = .ok (.goto (-17), 3) := by decide +kernel
theorem s_173_52 {d : Nat} {Q : wQ} {L : List (Option Value)} {st : List Value} {w : aw} {cn sn : Nat}  : wp d 173 Q 52 L st w cn sn = wp d 173 Q 35 L st w cn sn := w_goto d_173_52 (by decide)
theorem d_173_55 : decode (mB 173) 55 = .ok (.iconst 0, 1) := by decide +kernel
theorem s_173_55 {d : Nat} {Q : wQ} {L : List (Option Value)} {st : List Value} {w : aw} {cn sn : Nat}  : wp d 173 Q 55 L st w cn sn = wp d 173 Q 56 L (.int 0 :: st) w cn sn := w_iconst d_173_55 (by decide)
theorem d_173_56 : decode (mB 173) 56 = .ok (.istore_n 2, 1) := by decide +kernel
theorem s_173_56 {d : Nat} {Q : wQ} {L : List (Option Value)} {st : List Value} {w : aw} {cn sn : Nat} {a0 a1 a2 : Option Value} {v : Int32} : wp d 173 Q 56 (a0 :: a1 :: a2 :: L) (.int v :: st) w cn sn = wp d 173 Q 57 (a0 :: clr a1 :: some (.int v) :: L) st w cn sn := w_istore_n d_173_56 (Nat.le_add_left 3 _) rfl
theorem d_173_57 : decode (mB 173) 57 = .ok (.iload_n 2, 1) := by decide +kernel
theorem s_173_57 {d : Nat} {Q : wQ} {L : List (Option Value)} {st : List Value} {w : aw} {cn sn : Nat} {a0 a1 : Option Value} {v : Int32} : wp d 173 Q 57 (a0 :: a1 :: some (.int v) :: L) st w cn sn = wp d 173 Q 58 (a0 :: a1 :: some (.int v) :: L) (.int v :: st) w cn sn := w_iload_n d_173_57 rfl
theorem d_173_58 : decode (mB 173) 58 = .ok (.bipush 32, 2) := by decide +kernel
theorem s_173_58 {d : Nat} {Q : wQ} {L : List (Option Value)} {st : List Value} {w : aw} {cn sn : Nat}  : wp d 173 Q 58 L st w cn sn = wp d 173 Q 60 L (.int 32 :: st) w cn sn := w_bipush d_173_58 (by decide)
theorem d_173_60 : decode (mB 173) 60 = .ok (.if_icmp .ge 17, 3) := by decide +kernel
theorem s_173_60 {d : Nat} {Q : wQ} {L : List (Option Value)} {st : List Value} {w : aw} {cn sn : Nat} {a b : Int32} : wp d 173 Q 60 L (.int b :: .int a :: st) w cn sn = ((b ≤ a → wp d 173 Q 77 L st w cn sn) ∧ (¬ b ≤ a → wp d 173 Q 63 L st w cn sn)) := w_icge d_173_60 (by decide)
theorem d_173_63 : decode (mB 173) 63 = .ok (.aload_n 0, 1) := by decide +kernel
theorem s_173_63 {d : Nat} {Q : wQ} {L : List (Option Value)} {st : List Value} {w : aw} {cn sn : Nat} {v : Nat} : wp d 173 Q 63 (some (.ref v) :: L) st w cn sn = wp d 173 Q 64 (some (.ref v) :: L) (.ref v :: st) w cn sn := w_aload_n d_173_63 rfl
theorem d_173_64 : decode (mB 173) 64 = .ok (.getfield 89, 3) := by decide +kernel
theorem s_173_64 {d : Nat} {Q : wQ} {L : List (Option Value)} {st : List Value} {w : aw} {cn sn : Nat} {a : Nat} : wp d 173 Q 64 L (.ref a :: st) w cn sn = (kd w a = 9 ∧ wp d 173 Q 67 L (fd w 552 a :: st) w cn sn) := w_getfield d_173_64 (by decide +kernel : fT (mO 173) 89 = some (8, 40))
theorem d_173_67 : decode (mB 173) 67 = .ok (.iload_n 2, 1) := by decide +kernel
theorem s_173_67 {d : Nat} {Q : wQ} {L : List (Option Value)} {st : List Value} {w : aw} {cn sn : Nat} {a0 a1 : Option Value} {v : Int32} : wp d 173 Q 67 (a0 :: a1 :: some (.int v) :: L) st w cn sn = wp d 173 Q 68 (a0 :: a1 :: some (.int v) :: L) (.int v :: st) w cn sn := w_iload_n d_173_67 rfl
theorem d_173_68 : decode (mB 173) 68 = .ok (.bipush 127, 2) := by decide +kernel
theorem s_173_68 {d : Nat} {Q : wQ} {L : List (Option Value)} {st : List Value} {w : aw} {cn sn : Nat}  : wp d 173 Q 68 L st w cn sn = wp d 173 Q 70 L (.int 127 :: st) w cn sn := w_bipush d_173_68 (by decide)
theorem d_173_70 : decode (mB 173) 70 = .ok (.iastore, 1) := by decide +kernel
theorem s_173_70 {d : Nat} {Q : wQ} {L : List (Option Value)} {st : List Value} {w : aw} {cn sn : Nat} {a : Nat} {i x : Int32} : wp d 173 Q 70 L (.int x :: .int i :: .ref a :: st) w cn sn = (kd w a = 20 ∧ inR i (ln w a) ∧ wp d 173 Q 71 L st (uA w a i.toNatClampNeg x) cn sn) := wp_row d_173_70 _ _ _ _ _
theorem d_173_71 : decode (mB 173) 71 = .ok (.iinc 2 1, 3) := by decide +kernel
theorem s_173_71 {d : Nat} {Q : wQ} {L : List (Option Value)} {st : List Value} {w : aw} {cn sn : Nat} {a0 a1 : Option Value} {v : Int32} : wp d 173 Q 71 (a0 :: a1 :: some (.int v) :: L) st w cn sn = wp d 173 Q 74 (a0 :: clr a1 :: some (.int (v + 1)) :: L) st w cn sn := w_iinc d_173_71 rfl (by decide) rfl
theorem d_173_74 : decode (mB 173) 74 = .ok (.goto (-17), 3) := by decide +kernel
theorem s_173_74 {d : Nat} {Q : wQ} {L : List (Option Value)} {st : List Value} {w : aw} {cn sn : Nat}  : wp d 173 Q 74 L st w cn sn = wp d 173 Q 57 L st w cn sn := w_goto d_173_74 (by decide)
theorem d_173_77 : decode (mB 173) 77 = .ok (.aload_n 0, 1) := by decide +kernel
theorem s_173_77 {d : Nat} {Q : wQ} {L : List (Option Value)} {st : List Value} {w : aw} {cn sn : Nat} {v : Nat} : wp d 173 Q 77 (some (.ref v) :: L) st w cn sn = wp d 173 Q 78 (some (.ref v) :: L) (.ref v :: st) w cn sn := w_aload_n d_173_77 rfl
theorem d_173_78 : decode (mB 173) 78 = .ok (.iconst 1, 1) := by decide +kernel
theorem s_173_78 {d : Nat} {Q : wQ} {L : List (Option Value)} {st : List Value} {w : aw} {cn sn : Nat}  : wp d 173 Q 78 L st w cn sn = wp d 173 Q 79 L (.int 1 :: st) w cn sn := w_iconst d_173_78 (by decide)
theorem d_173_79 : decode (mB 173) 79 = .ok (.invokevirtual 332, 3) := by decide +kernel
theorem s_173_79 {d : Nat} {Q : wQ} {L : List (Option Value)} {st : List Value} {w : aw} {cn sn : Nat} {v0 : Value} {b : Nat} : wp d 173 Q 79 L (v0 :: .ref b :: st) w cn sn = (kd w b = 9 ∧ catS st ≤ 8 ∧ wpD d 172 [.ref b, v0] w (fun v w' => wp d 173 Q 82 L (v.toList ++ st) w' cn sn)) := w_virtual (As := [v0]) d_173_79 (by decide +kernel : cT (mO 173) 332 = some (0, 172)) rfl (by decide +kernel) rfl (by decide +kernel) rfl
theorem d_173_82 : decode (mB 173) 82 = .ok (.ifCond .eq 15, 3) := by decide +kernel
theorem s_173_82 {d : Nat} {Q : wQ} {L : List (Option Value)} {st : List Value} {w : aw} {cn sn : Nat} {x : Int32} : wp d 173 Q 82 L (.int x :: st) w cn sn = ((x = 0 → wp d 173 Q 97 L st w cn sn) ∧ (¬ x = 0 → wp d 173 Q 85 L st w cn sn)) := w_ifeq d_173_82 (by decide)
theorem d_173_85 : decode (mB 173) 85 = .ok (.aload_n 0, 1) := by decide +kernel
theorem s_173_85 {d : Nat} {Q : wQ} {L : List (Option Value)} {st : List Value} {w : aw} {cn sn : Nat} {v : Nat} : wp d 173 Q 85 (some (.ref v) :: L) st w cn sn = wp d 173 Q 86 (some (.ref v) :: L) (.ref v :: st) w cn sn := w_aload_n d_173_85 rfl
theorem d_173_86 : decode (mB 173) 86 = .ok (.iconst 2, 1) := by decide +kernel
theorem s_173_86 {d : Nat} {Q : wQ} {L : List (Option Value)} {st : List Value} {w : aw} {cn sn : Nat}  : wp d 173 Q 86 L st w cn sn = wp d 173 Q 87 L (.int 2 :: st) w cn sn := w_iconst d_173_86 (by decide)
theorem d_173_87 : decode (mB 173) 87 = .ok (.invokevirtual 332, 3) := by decide +kernel
theorem s_173_87 {d : Nat} {Q : wQ} {L : List (Option Value)} {st : List Value} {w : aw} {cn sn : Nat} {v0 : Value} {b : Nat} : wp d 173 Q 87 L (v0 :: .ref b :: st) w cn sn = (kd w b = 9 ∧ catS st ≤ 8 ∧ wpD d 172 [.ref b, v0] w (fun v w' => wp d 173 Q 90 L (v.toList ++ st) w' cn sn)) := w_virtual (As := [v0]) d_173_87 (by decide +kernel : cT (mO 173) 332 = some (0, 172)) rfl (by decide +kernel) rfl (by decide +kernel) rfl
theorem d_173_90 : decode (mB 173) 90 = .ok (.ifCond .eq 7, 3) := by decide +kernel
theorem s_173_90 {d : Nat} {Q : wQ} {L : List (Option Value)} {st : List Value} {w : aw} {cn sn : Nat} {x : Int32} : wp d 173 Q 90 L (.int x :: st) w cn sn = ((x = 0 → wp d 173 Q 97 L st w cn sn) ∧ (¬ x = 0 → wp d 173 Q 93 L st w cn sn)) := w_ifeq d_173_90 (by decide)
theorem d_173_93 : decode (mB 173) 93 = .ok (.iconst 1, 1) := by decide +kernel
theorem s_173_93 {d : Nat} {Q : wQ} {L : List (Option Value)} {st : List Value} {w : aw} {cn sn : Nat}  : wp d 173 Q 93 L st w cn sn = wp d 173 Q 94 L (.int 1 :: st) w cn sn := w_iconst d_173_93 (by decide)
theorem d_173_94 : decode (mB 173) 94 = .ok (.goto 4, 3) := by decide +kernel
theorem s_173_94 {d : Nat} {Q : wQ} {L : List (Option Value)} {st : List Value} {w : aw} {cn sn : Nat}  : wp d 173 Q 94 L st w cn sn = wp d 173 Q 98 L st w cn sn := w_goto d_173_94 (by decide)
theorem d_173_97 : decode (mB 173) 97 = .ok (.iconst 0, 1) := by decide +kernel
theorem s_173_97 {d : Nat} {Q : wQ} {L : List (Option Value)} {st : List Value} {w : aw} {cn sn : Nat}  : wp d 173 Q 97 L st w cn sn = wp d 173 Q 98 L (.int 0 :: st) w cn sn := w_iconst d_173_97 (by decide)
theorem d_173_98 : decode (mB 173) 98 = .ok (.istore_n 2, 1) := by decide +kernel
theorem s_173_98 {d : Nat} {Q : wQ} {L : List (Option Value)} {st : List Value} {w : aw} {cn sn : Nat} {a0 a1 a2 : Option Value} {v : Int32} : wp d 173 Q 98 (a0 :: a1 :: a2 :: L) (.int v :: st) w cn sn = wp d 173 Q 99 (a0 :: clr a1 :: some (.int v) :: L) st w cn sn := w_istore_n d_173_98 (Nat.le_add_left 3 _) rfl
theorem d_173_99 : decode (mB 173) 99 = .ok (.aload_n 0, 1) := by decide +kernel
theorem s_173_99 {d : Nat} {Q : wQ} {L : List (Option Value)} {st : List Value} {w : aw} {cn sn : Nat} {v : Nat} : wp d 173 Q 99 (some (.ref v) :: L) st w cn sn = wp d 173 Q 100 (some (.ref v) :: L) (.ref v :: st) w cn sn := w_aload_n d_173_99 rfl
theorem d_173_100 : decode (mB 173) 100 = .ok (.iconst 0, 1) := by decide +kernel
theorem s_173_100 {d : Nat} {Q : wQ} {L : List (Option Value)} {st : List Value} {w : aw} {cn sn : Nat}  : wp d 173 Q 100 L st w cn sn = wp d 173 Q 101 L (.int 0 :: st) w cn sn := w_iconst d_173_100 (by decide)
theorem d_173_101 : decode (mB 173) 101 = .ok (.putfield 193, 3) := by decide +kernel
theorem s_173_101 {d : Nat} {Q : wQ} {L : List (Option Value)} {st : List Value} {w : aw} {cn sn : Nat} {x : Int32} {a : Nat} : wp d 173 Q 101 L (.int x :: .ref a :: st) w cn sn = (kd w a = 9 ∧ wp d 173 Q 104 L st (uF w 543 a (.int x)) cn sn) := w_putfield d_173_101 (by decide +kernel : fT (mO 173) 193 = some (8, 31)) (by decide +kernel) ok_int
theorem d_173_104 : decode (mB 173) 104 = .ok (.iload_n 2, 1) := by decide +kernel
theorem s_173_104 {d : Nat} {Q : wQ} {L : List (Option Value)} {st : List Value} {w : aw} {cn sn : Nat} {a0 a1 : Option Value} {v : Int32} : wp d 173 Q 104 (a0 :: a1 :: some (.int v) :: L) st w cn sn = wp d 173 Q 105 (a0 :: a1 :: some (.int v) :: L) (.int v :: st) w cn sn := w_iload_n d_173_104 rfl
theorem d_173_105 : decode (mB 173) 105 = .ok (.ifCond .ne 6, 3) := by decide +kernel
theorem s_173_105 {d : Nat} {Q : wQ} {L : List (Option Value)} {st : List Value} {w : aw} {cn sn : Nat} {x : Int32} : wp d 173 Q 105 L (.int x :: st) w cn sn = ((¬ x = 0 → wp d 173 Q 111 L st w cn sn) ∧ (x = 0 → wp d 173 Q 108 L st w cn sn)) := w_ifne d_173_105 (by decide)
theorem d_173_108 : decode (mB 173) 108 = .ok (.bipush (-2), 2) := by decide +kernel
theorem s_173_108 {d : Nat} {Q : wQ} {L : List (Option Value)} {st : List Value} {w : aw} {cn sn : Nat}  : wp d 173 Q 108 L st w cn sn = wp d 173 Q 110 L (.int (-2) :: st) w cn sn := w_bipush d_173_108 (by decide)
theorem d_173_110 : decode (mB 173) 110 = .ok (.ireturn, 1) := by decide +kernel
theorem s_173_110 {d : Nat} {Q : wQ} {L : List (Option Value)} {w : aw} {cn sn : Nat} {v : Int32} : wp d 173 Q 110 L [.int v] w cn sn = Q (some (.int v)) w := w_ireturn d_173_110 rfl
theorem d_173_111 : decode (mB 173) 111 = .ok (.iconst 0, 1) := by decide +kernel
theorem s_173_111 {d : Nat} {Q : wQ} {L : List (Option Value)} {st : List Value} {w : aw} {cn sn : Nat}  : wp d 173 Q 111 L st w cn sn = wp d 173 Q 112 L (.int 0 :: st) w cn sn := w_iconst d_173_111 (by decide)
theorem d_173_112 : decode (mB 173) 112 = .ok (.istore_n 3, 1) := by decide +kernel
theorem s_173_112 {d : Nat} {Q : wQ} {L : List (Option Value)} {st : List Value} {w : aw} {cn sn : Nat} {a0 a1 a2 a3 : Option Value} {v : Int32} : wp d 173 Q 112 (a0 :: a1 :: a2 :: a3 :: L) (.int v :: st) w cn sn = wp d 173 Q 113 (a0 :: a1 :: clr a2 :: some (.int v) :: L) st w cn sn := w_istore_n d_173_112 (Nat.le_add_left 4 _) rfl
theorem d_173_113 : decode (mB 173) 113 = .ok (.iload_n 3, 1) := by decide +kernel
theorem s_173_113 {d : Nat} {Q : wQ} {L : List (Option Value)} {st : List Value} {w : aw} {cn sn : Nat} {a0 a1 a2 : Option Value} {v : Int32} : wp d 173 Q 113 (a0 :: a1 :: a2 :: some (.int v) :: L) st w cn sn = wp d 173 Q 114 (a0 :: a1 :: a2 :: some (.int v) :: L) (.int v :: st) w cn sn := w_iload_n d_173_113 rfl
theorem d_173_114 : decode (mB 173) 114 = .ok (.sipush 4096, 3) := by decide +kernel
theorem s_173_114 {d : Nat} {Q : wQ} {L : List (Option Value)} {st : List Value} {w : aw} {cn sn : Nat}  : wp d 173 Q 114 L st w cn sn = wp d 173 Q 117 L (.int 4096 :: st) w cn sn := w_sipush d_173_114 (by decide)
theorem d_173_117 : decode (mB 173) 117 = .ok (.if_icmp .ge 30, 3) := by decide +kernel
theorem s_173_117 {d : Nat} {Q : wQ} {L : List (Option Value)} {st : List Value} {w : aw} {cn sn : Nat} {a b : Int32} : wp d 173 Q 117 L (.int b :: .int a :: st) w cn sn = ((b ≤ a → wp d 173 Q 147 L st w cn sn) ∧ (¬ b ≤ a → wp d 173 Q 120 L st w cn sn)) := w_icge d_173_117 (by decide)
theorem d_173_120 : decode (mB 173) 120 = .ok (.aload_n 0, 1) := by decide +kernel
theorem s_173_120 {d : Nat} {Q : wQ} {L : List (Option Value)} {st : List Value} {w : aw} {cn sn : Nat} {v : Nat} : wp d 173 Q 120 (some (.ref v) :: L) st w cn sn = wp d 173 Q 121 (some (.ref v) :: L) (.ref v :: st) w cn sn := w_aload_n d_173_120 rfl
theorem d_173_121 : decode (mB 173) 121 = .ok (.getfield 82, 3) := by decide +kernel
theorem s_173_121 {d : Nat} {Q : wQ} {L : List (Option Value)} {st : List Value} {w : aw} {cn sn : Nat} {a : Nat} : wp d 173 Q 121 L (.ref a :: st) w cn sn = (kd w a = 9 ∧ wp d 173 Q 124 L (fd w 550 a :: st) w cn sn) := w_getfield d_173_121 (by decide +kernel : fT (mO 173) 82 = some (8, 38))
theorem d_173_124 : decode (mB 173) 124 = .ok (.iload_n 3, 1) := by decide +kernel
theorem s_173_124 {d : Nat} {Q : wQ} {L : List (Option Value)} {st : List Value} {w : aw} {cn sn : Nat} {a0 a1 a2 : Option Value} {v : Int32} : wp d 173 Q 124 (a0 :: a1 :: a2 :: some (.int v) :: L) st w cn sn = wp d 173 Q 125 (a0 :: a1 :: a2 :: some (.int v) :: L) (.int v :: st) w cn sn := w_iload_n d_173_124 rfl
theorem d_173_125 : decode (mB 173) 125 = .ok (.iaload, 1) := by decide +kernel
theorem s_173_125 {d : Nat} {Q : wQ} {L : List (Option Value)} {st : List Value} {w : aw} {cn sn : Nat} {a : Nat} {i : Int32} : wp d 173 Q 125 L (.int i :: .ref a :: st) w cn sn = ((kd w a = 20 ∨ kd w a = 30) ∧ inR i (ln w a) ∧ wp d 173 Q 126 L (.int (ai w a i.toNatClampNeg) :: st) w cn sn) := wp_row d_173_125 _ _ _ _ _
theorem d_173_126 : decode (mB 173) 126 = .ok (.ifCond .lt 15, 3) := by decide +kernel
theorem s_173_126 {d : Nat} {Q : wQ} {L : List (Option Value)} {st : List Value} {w : aw} {cn sn : Nat} {x : Int32} : wp d 173 Q 126 L (.int x :: st) w cn sn = ((x < 0 → wp d 173 Q 141 L st w cn sn) ∧ (¬ x < 0 → wp d 173 Q 129 L st w cn sn)) := w_iflt d_173_126 (by decide)
theorem d_173_129 : decode (mB 173) 129 = .ok (.aload_n 0, 1) := by decide +kernel
theorem s_173_129 {d : Nat} {Q : wQ} {L : List (Option Value)} {st : List Value} {w : aw} {cn sn : Nat} {v : Nat} : wp d 173 Q 129 (some (.ref v) :: L) st w cn sn = wp d 173 Q 130 (some (.ref v) :: L) (.ref v :: st) w cn sn := w_aload_n d_173_129 rfl
theorem d_173_130 : decode (mB 173) 130 = .ok (.iload_n 1, 1) := by decide +kernel
theorem s_173_130 {d : Nat} {Q : wQ} {L : List (Option Value)} {st : List Value} {w : aw} {cn sn : Nat} {a0 : Option Value} {v : Int32} : wp d 173 Q 130 (a0 :: some (.int v) :: L) st w cn sn = wp d 173 Q 131 (a0 :: some (.int v) :: L) (.int v :: st) w cn sn := w_iload_n d_173_130 rfl
theorem d_173_131 : decode (mB 173) 131 = .ok (.iload_n 3, 1) := by decide +kernel
theorem s_173_131 {d : Nat} {Q : wQ} {L : List (Option Value)} {st : List Value} {w : aw} {cn sn : Nat} {a0 a1 a2 : Option Value} {v : Int32} : wp d 173 Q 131 (a0 :: a1 :: a2 :: some (.int v) :: L) st w cn sn = wp d 173 Q 132 (a0 :: a1 :: a2 :: some (.int v) :: L) (.int v :: st) w cn sn := w_iload_n d_173_131 rfl
theorem d_173_132 : decode (mB 173) 132 = .ok (.aload_n 0, 1) := by decide +kernel
theorem s_173_132 {d : Nat} {Q : wQ} {L : List (Option Value)} {st : List Value} {w : aw} {cn sn : Nat} {v : Nat} : wp d 173 Q 132 (some (.ref v) :: L) st w cn sn = wp d 173 Q 133 (some (.ref v) :: L) (.ref v :: st) w cn sn := w_aload_n d_173_132 rfl
theorem d_173_133 : decode (mB 173) 133 = .ok (.getfield 82, 3) := by decide +kernel
theorem s_173_133 {d : Nat} {Q : wQ} {L : List (Option Value)} {st : List Value} {w : aw} {cn sn : Nat} {a : Nat} : wp d 173 Q 133 L (.ref a :: st) w cn sn = (kd w a = 9 ∧ wp d 173 Q 136 L (fd w 550 a :: st) w cn sn) := w_getfield d_173_133 (by decide +kernel : fT (mO 173) 82 = some (8, 38))
theorem d_173_136 : decode (mB 173) 136 = .ok (.iload_n 3, 1) := by decide +kernel
theorem s_173_136 {d : Nat} {Q : wQ} {L : List (Option Value)} {st : List Value} {w : aw} {cn sn : Nat} {a0 a1 a2 : Option Value} {v : Int32} : wp d 173 Q 136 (a0 :: a1 :: a2 :: some (.int v) :: L) st w cn sn = wp d 173 Q 137 (a0 :: a1 :: a2 :: some (.int v) :: L) (.int v :: st) w cn sn := w_iload_n d_173_136 rfl
theorem d_173_137 : decode (mB 173) 137 = .ok (.iaload, 1) := by decide +kernel
theorem s_173_137 {d : Nat} {Q : wQ} {L : List (Option Value)} {st : List Value} {w : aw} {cn sn : Nat} {a : Nat} {i : Int32} : wp d 173 Q 137 L (.int i :: .ref a :: st) w cn sn = ((kd w a = 20 ∨ kd w a = 30) ∧ inR i (ln w a) ∧ wp d 173 Q 138 L (.int (ai w a i.toNatClampNeg) :: st) w cn sn) := wp_row d_173_137 _ _ _ _ _
theorem d_173_138 : decode (mB 173) 138 = .ok (.invokevirtual 133, 3) := by decide +kernel
theorem s_173_138 {d : Nat} {Q : wQ} {L : List (Option Value)} {st : List Value} {w : aw} {cn sn : Nat} {v0 v1 v2 : Value} {b : Nat} : wp d 173 Q 138 L (v2 :: v1 :: v0 :: .ref b :: st) w cn sn = (kd w b = 9 ∧ catS st ≤ 8 ∧ wpD d 108 [.ref b, v0, v1, v2] w (fun v w' => wp d 173 Q 141 L (v.toList ++ st) w' cn sn)) := w_virtual (As := [v0, v1, v2]) d_173_138 (by decide +kernel : cT (mO 173) 133 = some (0, 108)) rfl (by decide +kernel) rfl (by decide +kernel) rfl
theorem d_173_141 : decode (mB 173) 141 = .ok (.iinc 3 1, 3) := by decide +kernel
theorem s_173_141 {d : Nat} {Q : wQ} {L : List (Option Value)} {st : List Value} {w : aw} {cn sn : Nat} {a0 a1 a2 : Option Value} {v : Int32} : wp d 173 Q 141 (a0 :: a1 :: a2 :: some (.int v) :: L) st w cn sn = wp d 173 Q 144 (a0 :: a1 :: clr a2 :: some (.int (v + 1)) :: L) st w cn sn := w_iinc d_173_141 rfl (by decide) rfl
theorem d_173_144 : decode (mB 173) 144 = .ok (.goto (-31), 3) := by decide +kernel
theorem s_173_144 {d : Nat} {Q : wQ} {L : List (Option Value)} {st : List Value} {w : aw} {cn sn : Nat}  : wp d 173 Q 144 L st w cn sn = wp d 173 Q 113 L st w cn sn := w_goto d_173_144 (by decide)
theorem d_173_147 : decode (mB 173) 147 = .ok (.aload_n 0, 1) := by decide +kernel
theorem s_173_147 {d : Nat} {Q : wQ} {L : List (Option Value)} {st : List Value} {w : aw} {cn sn : Nat} {v : Nat} : wp d 173 Q 147 (some (.ref v) :: L) st w cn sn = wp d 173 Q 148 (some (.ref v) :: L) (.ref v :: st) w cn sn := w_aload_n d_173_147 rfl
theorem d_173_148 : decode (mB 173) 148 = .ok (.getfield 299, 3) := by decide +kernel
theorem s_173_148 {d : Nat} {Q : wQ} {L : List (Option Value)} {st : List Value} {w : aw} {cn sn : Nat} {a : Nat} : wp d 173 Q 148 L (.ref a :: st) w cn sn = (kd w a = 9 ∧ wp d 173 Q 151 L (fd w 553 a :: st) w cn sn) := w_getfield d_173_148 (by decide +kernel : fT (mO 173) 299 = some (8, 41))
theorem d_173_151 : decode (mB 173) 151 = .ok (.ireturn, 1) := by decide +kernel
theorem s_173_151 {d : Nat} {Q : wQ} {L : List (Option Value)} {w : aw} {cn sn : Nat} {v : Int32} : wp d 173 Q 151 L [.int v] w cn sn = Q (some (.int v)) w := w_ireturn d_173_151 rfl
