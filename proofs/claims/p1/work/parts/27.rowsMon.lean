theorem d_75_0 : decode (mB 75) 0 = .ok (.aload_n 0, 1) := by decide +kernel
theorem s_75_0 {d : Nat} {Q : wQ} {L : List (Option Value)} {st : List Value} {w : aw} {cn sn : Nat} {v : Nat} : wp d 75 Q 0 (some (.ref v) :: L) st w cn sn = wp d 75 Q 1 (some (.ref v) :: L) (.ref v :: st) w cn sn := w_aload_n d_75_0 rfl
theorem d_75_1 : decode (mB 75) 1 = .ok (.invokespecial 1, 3) := by decide +kernel
theorem s_75_1 {d : Nat} {Q : wQ} {L : List (Option Value)} {st : List Value} {w : aw} {cn sn : Nat} {b : Nat} : wp d 75 Q 1 L (.ref b :: st) w cn sn = (catS st ≤ 8 ∧ wp d 75 Q 4 L st w cn sn) := w_objinit d_75_1 (by decide +kernel : cT (mO 75) 1 = some (3, 0))
theorem d_75_4 : decode (mB 75) 4 = .ok (.aload_n 0, 1) := by decide +kernel
theorem s_75_4 {d : Nat} {Q : wQ} {L : List (Option Value)} {st : List Value} {w : aw} {cn sn : Nat} {v : Nat} : wp d 75 Q 4 (some (.ref v) :: L) st w cn sn = wp d 75 Q 5 (some (.ref v) :: L) (.ref v :: st) w cn sn := w_aload_n d_75_4 rfl
theorem d_75_5 : decode (mB 75) 5 = .ok (.new 7, 3) := by decide +kernel
theorem s_75_5 {d : Nat} {Q : wQ} {L : List (Option Value)} {st : List Value} {w : aw} {cn sn : Nat}  : wp d 75 Q 5 L st w cn sn = (cn + 1 ≤ 11 ∧ sn + 2 ≤ 20819 ∧ wp d 75 Q 8 L (.ref (zs w) :: st) (nw w 6 0) (cn + 1) (sn + 2)) := w_new d_75_5 (by decide +kernel : nT (mO 75) 7 = some 5) (by decide +kernel) (by decide +kernel) (by decide +kernel)
theorem d_75_8 : decode (mB 75) 8 = .ok (.dup, 1) := by decide +kernel
theorem s_75_8 {d : Nat} {Q : wQ} {L : List (Option Value)} {st : List Value} {w : aw} {cn sn : Nat} {v : Value} : wp d 75 Q 8 L (v :: st) w cn sn = (v.category = 1 ∧ wp d 75 Q 9 L (v :: v :: st) w cn sn) := wp_row d_75_8 _ _ _ _ _
theorem d_75_9 : decode (mB 75) 9 = .ok (.invokespecial 9, 3) := by decide +kernel
theorem s_75_9 {d : Nat} {Q : wQ} {L : List (Option Value)} {st : List Value} {w : aw} {cn sn : Nat} {b : Nat} : wp d 75 Q 9 L (.ref b :: st) w cn sn = (catS st ≤ 8 ∧ alc 75 53 cn sn (fun c2 s2 => wpD d 53 [.ref b] w (fun v w' => wp d 75 Q 12 L (v.toList ++ st) w' c2 s2))) := w_special (As := []) d_75_9 (by decide +kernel : cT (mO 75) 9 = some (4, 53)) (by decide +kernel) rfl rfl
theorem d_75_12 : decode (mB 75) 12 = .ok (.putfield 10, 3) := by decide +kernel
theorem s_75_12 {d : Nat} {Q : wQ} {L : List (Option Value)} {st : List Value} {w : aw} {cn sn : Nat} {x : Nat} {a : Nat} : wp d 75 Q 12 L (.ref x :: .ref a :: st) w cn sn = (kd w a = 8 ∧ wp d 75 Q 15 L st (uF w 448 a (.ref x)) cn sn) := w_putfield d_75_12 (by decide +kernel : fT (mO 75) 10 = some (7, 0)) (by decide +kernel) ok_ref
theorem s_75_12n {d : Nat} {Q : wQ} {L : List (Option Value)} {st : List Value} {w : aw} {cn sn : Nat} {a : Nat} : wp d 75 Q 12 L (.null :: .ref a :: st) w cn sn = (kd w a = 8 ∧ wp d 75 Q 15 L st (uF w 448 a (.null)) cn sn) := w_putfield d_75_12 (by decide +kernel : fT (mO 75) 10 = some (7, 0)) (by decide +kernel) ok_null
theorem d_75_15 : decode (mB 75) 15 = .ok (.aload_n 0, 1) := by decide +kernel
theorem s_75_15 {d : Nat} {Q : wQ} {L : List (Option Value)} {st : List Value} {w : aw} {cn sn : Nat} {v : Nat} : wp d 75 Q 15 (some (.ref v) :: L) st w cn sn = wp d 75 Q 16 (some (.ref v) :: L) (.ref v :: st) w cn sn := w_aload_n d_75_15 rfl
theorem d_75_16 : decode (mB 75) 16 = .ok (.new 16, 3) := by decide +kernel
theorem s_75_16 {d : Nat} {Q : wQ} {L : List (Option Value)} {st : List Value} {w : aw} {cn sn : Nat}  : wp d 75 Q 16 L st w cn sn = (cn + 1 ≤ 11 ∧ sn + 11 ≤ 20819 ∧ wp d 75 Q 19 L (.ref (zs w) :: st) (nw w 1 0) (cn + 1) (sn + 11)) := w_new d_75_16 (by decide +kernel : nT (mO 75) 16 = some 0) (by decide +kernel) (by decide +kernel) (by decide +kernel)
theorem d_75_19 : decode (mB 75) 19 = .ok (.dup, 1) := by decide +kernel
theorem s_75_19 {d : Nat} {Q : wQ} {L : List (Option Value)} {st : List Value} {w : aw} {cn sn : Nat} {v : Value} : wp d 75 Q 19 L (v :: st) w cn sn = (v.category = 1 ∧ wp d 75 Q 20 L (v :: v :: st) w cn sn) := wp_row d_75_19 _ _ _ _ _
theorem d_75_20 : decode (mB 75) 20 = .ok (.aload_n 0, 1) := by decide +kernel
theorem s_75_20 {d : Nat} {Q : wQ} {L : List (Option Value)} {st : List Value} {w : aw} {cn sn : Nat} {v : Nat} : wp d 75 Q 20 (some (.ref v) :: L) st w cn sn = wp d 75 Q 21 (some (.ref v) :: L) (.ref v :: st) w cn sn := w_aload_n d_75_20 rfl
theorem d_75_21 : decode (mB 75) 21 = .ok (.getfield 10, 3) := by decide +kernel
theorem s_75_21 {d : Nat} {Q : wQ} {L : List (Option Value)} {st : List Value} {w : aw} {cn sn : Nat} {a : Nat} : wp d 75 Q 21 L (.ref a :: st) w cn sn = (kd w a = 8 ∧ wp d 75 Q 24 L (fd w 448 a :: st) w cn sn) := w_getfield d_75_21 (by decide +kernel : fT (mO 75) 10 = some (7, 0))
theorem d_75_24 : decode (mB 75) 24 = .ok (.invokespecial 18, 3) := by decide +kernel
theorem s_75_24 {d : Nat} {Q : wQ} {L : List (Option Value)} {st : List Value} {w : aw} {cn sn : Nat} {v0 : Value} {b : Nat} : wp d 75 Q 24 L (v0 :: .ref b :: st) w cn sn = (catS st ≤ 8 ∧ alc 75 1 cn sn (fun c2 s2 => wpD d 1 [.ref b, v0] w (fun v w' => wp d 75 Q 27 L (v.toList ++ st) w' c2 s2))) := w_special (As := [v0]) d_75_24 (by decide +kernel : cT (mO 75) 18 = some (1, 1)) (by decide +kernel) rfl rfl
theorem d_75_27 : decode (mB 75) 27 = .ok (.putfield 21, 3) := by decide +kernel
theorem s_75_27 {d : Nat} {Q : wQ} {L : List (Option Value)} {st : List Value} {w : aw} {cn sn : Nat} {x : Nat} {a : Nat} : wp d 75 Q 27 L (.ref x :: .ref a :: st) w cn sn = (kd w a = 8 ∧ wp d 75 Q 30 L st (uF w 449 a (.ref x)) cn sn) := w_putfield d_75_27 (by decide +kernel : fT (mO 75) 21 = some (7, 1)) (by decide +kernel) ok_ref
theorem s_75_27n {d : Nat} {Q : wQ} {L : List (Option Value)} {st : List Value} {w : aw} {cn sn : Nat} {a : Nat} : wp d 75 Q 27 L (.null :: .ref a :: st) w cn sn = (kd w a = 8 ∧ wp d 75 Q 30 L st (uF w 449 a (.null)) cn sn) := w_putfield d_75_27 (by decide +kernel : fT (mO 75) 21 = some (7, 1)) (by decide +kernel) ok_null
theorem d_75_30 : decode (mB 75) 30 = .ok (.return_, 1) := by decide +kernel
theorem s_75_30 {d : Nat} {Q : wQ} {L : List (Option Value)} {w : aw} {cn sn : Nat}  : wp d 75 Q 30 L [] w cn sn = Q none w := w_return d_75_30 rfl
theorem d_76_0 : decode (mB 76) 0 = .ok (.aload_n 0, 1) := by decide +kernel
theorem s_76_0 {d : Nat} {Q : wQ} {L : List (Option Value)} {st : List Value} {w : aw} {cn sn : Nat} {v : Nat} : wp d 76 Q 0 (some (.ref v) :: L) st w cn sn = wp d 76 Q 1 (some (.ref v) :: L) (.ref v :: st) w cn sn := w_aload_n d_76_0 rfl
theorem d_76_1 : decode (mB 76) 1 = .ok (.getfield 25, 3) := by decide +kernel
theorem s_76_1 {d : Nat} {Q : wQ} {L : List (Option Value)} {st : List Value} {w : aw} {cn sn : Nat} {a : Nat} : wp d 76 Q 1 L (.ref a :: st) w cn sn = (kd w a = 8 ∧ wp d 76 Q 4 L (fd w 450 a :: st) w cn sn) := w_getfield d_76_1 (by decide +kernel : fT (mO 76) 25 = some (7, 2))
theorem d_76_4 : decode (mB 76) 4 = .ok (.ifnonnull 45, 3) := by decide +kernel
theorem s_76_4 {d : Nat} {Q : wQ} {L : List (Option Value)} {st : List Value} {w : aw} {cn sn : Nat} {q : Nat} : wp d 76 Q 4 L (.ref q :: st) w cn sn = wp d 76 Q 49 L st w cn sn := w_ifnn d_76_4 (t := 49) (by decide)
theorem s_76_4n {d : Nat} {Q : wQ} {L : List (Option Value)} {st : List Value} {w : aw} {cn sn : Nat}  : wp d 76 Q 4 L (.null :: st) w cn sn = wp d 76 Q 7 L st w cn sn := w_ifnnN d_76_4 (t := 49) (by decide)
theorem d_76_7 : decode (mB 76) 7 = .ok (.iload_n 1, 1) := by decide +kernel
theorem s_76_7 {d : Nat} {Q : wQ} {L : List (Option Value)} {st : List Value} {w : aw} {cn sn : Nat} {a0 : Option Value} {v : Int32} : wp d 76 Q 7 (a0 :: some (.int v) :: L) st w cn sn = wp d 76 Q 8 (a0 :: some (.int v) :: L) (.int v :: st) w cn sn := w_iload_n d_76_7 rfl
theorem d_76_8 : decode (mB 76) 8 = .ok (.iconst 1, 1) := by decide +kernel
theorem s_76_8 {d : Nat} {Q : wQ} {L : List (Option Value)} {st : List Value} {w : aw} {cn sn : Nat}  : wp d 76 Q 8 L st w cn sn = wp d 76 Q 9 L (.int 1 :: st) w cn sn := w_iconst d_76_8 (by decide)
theorem d_76_9 : decode (mB 76) 9 = .ok (.bipush 8, 2) := by decide +kernel
theorem s_76_9 {d : Nat} {Q : wQ} {L : List (Option Value)} {st : List Value} {w : aw} {cn sn : Nat}  : wp d 76 Q 9 L st w cn sn = wp d 76 Q 11 L (.int 8 :: st) w cn sn := w_bipush d_76_9 (by decide)
theorem d_76_11 : decode (mB 76) 11 = .ok (.invokestatic 29, 3) := by decide +kernel
theorem s_76_11 {d : Nat} {Q : wQ} {L : List (Option Value)} {st : List Value} {w : aw} {cn sn : Nat} {v0 v1 v2 : Value} : wp d 76 Q 11 L (v2 :: v1 :: v0 :: st) w cn sn = (catS st ≤ 8 ∧ wpD d 98 [v0, v1, v2] w (fun v w' => wp d 76 Q 14 L (v.toList ++ st) w' cn sn)) := w_static (As := [v0, v1, v2]) d_76_11 (by decide +kernel : cT (mO 76) 29 = some (2, 98)) rfl (by decide +kernel) rfl
theorem d_76_14 : decode (mB 76) 14 = .ok (.ifCond .eq 35, 3) := by decide +kernel
theorem s_76_14 {d : Nat} {Q : wQ} {L : List (Option Value)} {st : List Value} {w : aw} {cn sn : Nat} {x : Int32} : wp d 76 Q 14 L (.int x :: st) w cn sn = ((x = 0 → wp d 76 Q 49 L st w cn sn) ∧ (¬ x = 0 → wp d 76 Q 17 L st w cn sn)) := w_ifeq d_76_14 (by decide)
theorem d_76_17 : decode (mB 76) 17 = .ok (.iload_n 2, 1) := by decide +kernel
theorem s_76_17 {d : Nat} {Q : wQ} {L : List (Option Value)} {st : List Value} {w : aw} {cn sn : Nat} {a0 a1 : Option Value} {v : Int32} : wp d 76 Q 17 (a0 :: a1 :: some (.int v) :: L) st w cn sn = wp d 76 Q 18 (a0 :: a1 :: some (.int v) :: L) (.int v :: st) w cn sn := w_iload_n d_76_17 rfl
theorem d_76_18 : decode (mB 76) 18 = .ok (.iconst 1, 1) := by decide +kernel
theorem s_76_18 {d : Nat} {Q : wQ} {L : List (Option Value)} {st : List Value} {w : aw} {cn sn : Nat}  : wp d 76 Q 18 L st w cn sn = wp d 76 Q 19 L (.int 1 :: st) w cn sn := w_iconst d_76_18 (by decide)
theorem d_76_19 : decode (mB 76) 19 = .ok (.bipush 7, 2) := by decide +kernel
theorem s_76_19 {d : Nat} {Q : wQ} {L : List (Option Value)} {st : List Value} {w : aw} {cn sn : Nat}  : wp d 76 Q 19 L st w cn sn = wp d 76 Q 21 L (.int 7 :: st) w cn sn := w_bipush d_76_19 (by decide)
theorem d_76_21 : decode (mB 76) 21 = .ok (.invokestatic 29, 3) := by decide +kernel
theorem s_76_21 {d : Nat} {Q : wQ} {L : List (Option Value)} {st : List Value} {w : aw} {cn sn : Nat} {v0 v1 v2 : Value} : wp d 76 Q 21 L (v2 :: v1 :: v0 :: st) w cn sn = (catS st ≤ 8 ∧ wpD d 98 [v0, v1, v2] w (fun v w' => wp d 76 Q 24 L (v.toList ++ st) w' cn sn)) := w_static (As := [v0, v1, v2]) d_76_21 (by decide +kernel : cT (mO 76) 29 = some (2, 98)) rfl (by decide +kernel) rfl
theorem d_76_24 : decode (mB 76) 24 = .ok (.ifCond .eq 25, 3) := by decide +kernel
theorem s_76_24 {d : Nat} {Q : wQ} {L : List (Option Value)} {st : List Value} {w : aw} {cn sn : Nat} {x : Int32} : wp d 76 Q 24 L (.int x :: st) w cn sn = ((x = 0 → wp d 76 Q 49 L st w cn sn) ∧ (¬ x = 0 → wp d 76 Q 27 L st w cn sn)) := w_ifeq d_76_24 (by decide)
theorem d_76_27 : decode (mB 76) 27 = .ok (.iload_n 3, 1) := by decide +kernel
theorem s_76_27 {d : Nat} {Q : wQ} {L : List (Option Value)} {st : List Value} {w : aw} {cn sn : Nat} {a0 a1 a2 : Option Value} {v : Int32} : wp d 76 Q 27 (a0 :: a1 :: a2 :: some (.int v) :: L) st w cn sn = wp d 76 Q 28 (a0 :: a1 :: a2 :: some (.int v) :: L) (.int v :: st) w cn sn := w_iload_n d_76_27 rfl
theorem d_76_28 : decode (mB 76) 28 = .ok (.iconst 1, 1) := by decide +kernel
theorem s_76_28 {d : Nat} {Q : wQ} {L : List (Option Value)} {st : List Value} {w : aw} {cn sn : Nat}  : wp d 76 Q 28 L st w cn sn = wp d 76 Q 29 L (.int 1 :: st) w cn sn := w_iconst d_76_28 (by decide)
theorem d_76_29 : decode (mB 76) 29 = .ok (.bipush 64, 2) := by decide +kernel
theorem s_76_29 {d : Nat} {Q : wQ} {L : List (Option Value)} {st : List Value} {w : aw} {cn sn : Nat}  : wp d 76 Q 29 L st w cn sn = wp d 76 Q 31 L (.int 64 :: st) w cn sn := w_bipush d_76_29 (by decide)
theorem d_76_31 : decode (mB 76) 31 = .ok (.invokestatic 29, 3) := by decide +kernel
theorem s_76_31 {d : Nat} {Q : wQ} {L : List (Option Value)} {st : List Value} {w : aw} {cn sn : Nat} {v0 v1 v2 : Value} : wp d 76 Q 31 L (v2 :: v1 :: v0 :: st) w cn sn = (catS st ≤ 8 ∧ wpD d 98 [v0, v1, v2] w (fun v w' => wp d 76 Q 34 L (v.toList ++ st) w' cn sn)) := w_static (As := [v0, v1, v2]) d_76_31 (by decide +kernel : cT (mO 76) 29 = some (2, 98)) rfl (by decide +kernel) rfl
theorem d_76_34 : decode (mB 76) 34 = .ok (.ifCond .eq 15, 3) := by decide +kernel
theorem s_76_34 {d : Nat} {Q : wQ} {L : List (Option Value)} {st : List Value} {w : aw} {cn sn : Nat} {x : Int32} : wp d 76 Q 34 L (.int x :: st) w cn sn = ((x = 0 → wp d 76 Q 49 L st w cn sn) ∧ (¬ x = 0 → wp d 76 Q 37 L st w cn sn)) := w_ifeq d_76_34 (by decide)
theorem d_76_37 : decode (mB 76) 37 = .ok (.iload 4, 2) := by decide +kernel
theorem s_76_37 {d : Nat} {Q : wQ} {L : List (Option Value)} {st : List Value} {w : aw} {cn sn : Nat} {a0 a1 a2 a3 : Option Value} {v : Int32} : wp d 76 Q 37 (a0 :: a1 :: a2 :: a3 :: some (.int v) :: L) st w cn sn = wp d 76 Q 39 (a0 :: a1 :: a2 :: a3 :: some (.int v) :: L) (.int v :: st) w cn sn := w_iload d_76_37 rfl
theorem d_76_39 : decode (mB 76) 39 = .ok (.iconst 4, 1) := by decide +kernel
theorem s_76_39 {d : Nat} {Q : wQ} {L : List (Option Value)} {st : List Value} {w : aw} {cn sn : Nat}  : wp d 76 Q 39 L st w cn sn = wp d 76 Q 40 L (.int 4 :: st) w cn sn := w_iconst d_76_39 (by decide)
theorem d_76_40 : decode (mB 76) 40 = .ok (.sipush 1000, 3) := by decide +kernel
theorem s_76_40 {d : Nat} {Q : wQ} {L : List (Option Value)} {st : List Value} {w : aw} {cn sn : Nat}  : wp d 76 Q 40 L st w cn sn = wp d 76 Q 43 L (.int 1000 :: st) w cn sn := w_sipush d_76_40 (by decide)
theorem d_76_43 : decode (mB 76) 43 = .ok (.invokestatic 29, 3) := by decide +kernel
theorem s_76_43 {d : Nat} {Q : wQ} {L : List (Option Value)} {st : List Value} {w : aw} {cn sn : Nat} {v0 v1 v2 : Value} : wp d 76 Q 43 L (v2 :: v1 :: v0 :: st) w cn sn = (catS st ≤ 8 ∧ wpD d 98 [v0, v1, v2] w (fun v w' => wp d 76 Q 46 L (v.toList ++ st) w' cn sn)) := w_static (As := [v0, v1, v2]) d_76_43 (by decide +kernel : cT (mO 76) 29 = some (2, 98)) rfl (by decide +kernel) rfl
theorem d_76_46 : decode (mB 76) 46 = .ok (.ifCond .ne 5, 3) := by decide +kernel
theorem s_76_46 {d : Nat} {Q : wQ} {L : List (Option Value)} {st : List Value} {w : aw} {cn sn : Nat} {x : Int32} : wp d 76 Q 46 L (.int x :: st) w cn sn = ((¬ x = 0 → wp d 76 Q 51 L st w cn sn) ∧ (x = 0 → wp d 76 Q 49 L st w cn sn)) := w_ifne d_76_46 (by decide)
theorem d_76_49 : decode (mB 76) 49 = .ok (.iconst (-1), 1) := by decide +kernel
theorem s_76_49 {d : Nat} {Q : wQ} {L : List (Option Value)} {st : List Value} {w : aw} {cn sn : Nat}  : wp d 76 Q 49 L st w cn sn = wp d 76 Q 50 L (.int (-1) :: st) w cn sn := w_iconst d_76_49 (by decide)
theorem d_76_50 : decode (mB 76) 50 = .ok (.ireturn, 1) := by decide +kernel
theorem s_76_50 {d : Nat} {Q : wQ} {L : List (Option Value)} {w : aw} {cn sn : Nat} {v : Int32} : wp d 76 Q 50 L [.int v] w cn sn = Q (some (.int v)) w := w_ireturn d_76_50 rfl
theorem d_76_51 : decode (mB 76) 51 = .ok (.aload_n 0, 1) := by decide +kernel
theorem s_76_51 {d : Nat} {Q : wQ} {L : List (Option Value)} {st : List Value} {w : aw} {cn sn : Nat} {v : Nat} : wp d 76 Q 51 (some (.ref v) :: L) st w cn sn = wp d 76 Q 52 (some (.ref v) :: L) (.ref v :: st) w cn sn := w_aload_n d_76_51 rfl
theorem d_76_52 : decode (mB 76) 52 = .ok (.new 33, 3) := by decide +kernel
theorem s_76_52 {d : Nat} {Q : wQ} {L : List (Option Value)} {st : List Value} {w : aw} {cn sn : Nat}  : wp d 76 Q 52 L st w cn sn = (cn + 1 ≤ 68 ∧ sn + 14 ≤ 70110 ∧ wp d 76 Q 55 L (.ref (zs w) :: st) (nw w 2 0) (cn + 1) (sn + 14)) := w_new d_76_52 (by decide +kernel : nT (mO 76) 33 = some 1) (by decide +kernel) (by decide +kernel) (by decide +kernel)
theorem d_76_55 : decode (mB 76) 55 = .ok (.dup, 1) := by decide +kernel
theorem s_76_55 {d : Nat} {Q : wQ} {L : List (Option Value)} {st : List Value} {w : aw} {cn sn : Nat} {v : Value} : wp d 76 Q 55 L (v :: st) w cn sn = (v.category = 1 ∧ wp d 76 Q 56 L (v :: v :: st) w cn sn) := wp_row d_76_55 _ _ _ _ _
theorem d_76_56 : decode (mB 76) 56 = .ok (.iload_n 1, 1) := by decide +kernel
theorem s_76_56 {d : Nat} {Q : wQ} {L : List (Option Value)} {st : List Value} {w : aw} {cn sn : Nat} {a0 : Option Value} {v : Int32} : wp d 76 Q 56 (a0 :: some (.int v) :: L) st w cn sn = wp d 76 Q 57 (a0 :: some (.int v) :: L) (.int v :: st) w cn sn := w_iload_n d_76_56 rfl
theorem d_76_57 : decode (mB 76) 57 = .ok (.iload_n 2, 1) := by decide +kernel
theorem s_76_57 {d : Nat} {Q : wQ} {L : List (Option Value)} {st : List Value} {w : aw} {cn sn : Nat} {a0 a1 : Option Value} {v : Int32} : wp d 76 Q 57 (a0 :: a1 :: some (.int v) :: L) st w cn sn = wp d 76 Q 58 (a0 :: a1 :: some (.int v) :: L) (.int v :: st) w cn sn := w_iload_n d_76_57 rfl
theorem d_76_58 : decode (mB 76) 58 = .ok (.iload_n 3, 1) := by decide +kernel
theorem s_76_58 {d : Nat} {Q : wQ} {L : List (Option Value)} {st : List Value} {w : aw} {cn sn : Nat} {a0 a1 a2 : Option Value} {v : Int32} : wp d 76 Q 58 (a0 :: a1 :: a2 :: some (.int v) :: L) st w cn sn = wp d 76 Q 59 (a0 :: a1 :: a2 :: some (.int v) :: L) (.int v :: st) w cn sn := w_iload_n d_76_58 rfl
theorem d_76_59 : decode (mB 76) 59 = .ok (.iload 4, 2) := by decide +kernel
theorem s_76_59 {d : Nat} {Q : wQ} {L : List (Option Value)} {st : List Value} {w : aw} {cn sn : Nat} {a0 a1 a2 a3 : Option Value} {v : Int32} : wp d 76 Q 59 (a0 :: a1 :: a2 :: a3 :: some (.int v) :: L) st w cn sn = wp d 76 Q 61 (a0 :: a1 :: a2 :: a3 :: some (.int v) :: L) (.int v :: st) w cn sn := w_iload d_76_59 rfl
theorem d_76_61 : decode (mB 76) 61 = .ok (.invokespecial 35, 3) := by decide +kernel
theorem s_76_61 {d : Nat} {Q : wQ} {L : List (Option Value)} {st : List Value} {w : aw} {cn sn : Nat} {v0 v1 v2 v3 : Value} {b : Nat} : wp d 76 Q 61 L (v3 :: v2 :: v1 :: v0 :: .ref b :: st) w cn sn = (catS st ≤ 8 ∧ alc 76 13 cn sn (fun c2 s2 => wpD d 13 [.ref b, v0, v1, v2, v3] w (fun v w' => wp d 76 Q 64 L (v.toList ++ st) w' c2 s2))) := w_special (As := [v0, v1, v2, v3]) d_76_61 (by decide +kernel : cT (mO 76) 35 = some (1, 13)) (by decide +kernel) rfl rfl
theorem d_76_64 : decode (mB 76) 64 = .ok (.putfield 25, 3) := by decide +kernel
theorem s_76_64 {d : Nat} {Q : wQ} {L : List (Option Value)} {st : List Value} {w : aw} {cn sn : Nat} {x : Nat} {a : Nat} : wp d 76 Q 64 L (.ref x :: .ref a :: st) w cn sn = (kd w a = 8 ∧ wp d 76 Q 67 L st (uF w 450 a (.ref x)) cn sn) := w_putfield d_76_64 (by decide +kernel : fT (mO 76) 25 = some (7, 2)) (by decide +kernel) ok_ref
theorem s_76_64n {d : Nat} {Q : wQ} {L : List (Option Value)} {st : List Value} {w : aw} {cn sn : Nat} {a : Nat} : wp d 76 Q 64 L (.null :: .ref a :: st) w cn sn = (kd w a = 8 ∧ wp d 76 Q 67 L st (uF w 450 a (.null)) cn sn) := w_putfield d_76_64 (by decide +kernel : fT (mO 76) 25 = some (7, 2)) (by decide +kernel) ok_null
theorem d_76_67 : decode (mB 76) 67 = .ok (.iconst 1, 1) := by decide +kernel
theorem s_76_67 {d : Nat} {Q : wQ} {L : List (Option Value)} {st : List Value} {w : aw} {cn sn : Nat}  : wp d 76 Q 67 L st w cn sn = wp d 76 Q 68 L (.int 1 :: st) w cn sn := w_iconst d_76_67 (by decide)
theorem d_76_68 : decode (mB 76) 68 = .ok (.ireturn, 1) := by decide +kernel
theorem s_76_68 {d : Nat} {Q : wQ} {L : List (Option Value)} {w : aw} {cn sn : Nat} {v : Int32} : wp d 76 Q 68 L [.int v] w cn sn = Q (some (.int v)) w := w_ireturn d_76_68 rfl
theorem d_77_0 : decode (mB 77) 0 = .ok (.aload_n 0, 1) := by decide +kernel
theorem s_77_0 {d : Nat} {Q : wQ} {L : List (Option Value)} {st : List Value} {w : aw} {cn sn : Nat} {v : Nat} : wp d 77 Q 0 (some (.ref v) :: L) st w cn sn = wp d 77 Q 1 (some (.ref v) :: L) (.ref v :: st) w cn sn := w_aload_n d_77_0 rfl
theorem d_77_1 : decode (mB 77) 1 = .ok (.getfield 10, 3) := by decide +kernel
theorem s_77_1 {d : Nat} {Q : wQ} {L : List (Option Value)} {st : List Value} {w : aw} {cn sn : Nat} {a : Nat} : wp d 77 Q 1 L (.ref a :: st) w cn sn = (kd w a = 8 ∧ wp d 77 Q 4 L (fd w 448 a :: st) w cn sn) := w_getfield d_77_1 (by decide +kernel : fT (mO 77) 10 = some (7, 0))
theorem d_77_4 : decode (mB 77) 4 = .ok (.bipush 20, 2) := by decide +kernel
theorem s_77_4 {d : Nat} {Q : wQ} {L : List (Option Value)} {st : List Value} {w : aw} {cn sn : Nat}  : wp d 77 Q 4 L st w cn sn = wp d 77 Q 6 L (.int 20 :: st) w cn sn := w_bipush d_77_4 (by decide)
theorem d_77_6 : decode (mB 77) 6 = .ok (.invokevirtual 38, 3) := by decide +kernel
theorem s_77_6 {d : Nat} {Q : wQ} {L : List (Option Value)} {st : List Value} {w : aw} {cn sn : Nat} {v0 : Value} {b : Nat} : wp d 77 Q 6 L (v0 :: .ref b :: st) w cn sn = (kd w b = 6 ∧ catS st ≤ 8 ∧ wpD d 54 [.ref b, v0] w (fun v w' => wp d 77 Q 9 L (v.toList ++ st) w' cn sn)) := w_virtual (As := [v0]) d_77_6 (by decide +kernel : cT (mO 77) 38 = some (0, 54)) rfl (by decide +kernel) rfl (by decide +kernel) rfl
theorem d_77_9 : decode (mB 77) 9 = .ok (.ifCond .ne 5, 3) := by decide +kernel
theorem s_77_9 {d : Nat} {Q : wQ} {L : List (Option Value)} {st : List Value} {w : aw} {cn sn : Nat} {x : Int32} : wp d 77 Q 9 L (.int x :: st) w cn sn = ((¬ x = 0 → wp d 77 Q 14 L st w cn sn) ∧ (x = 0 → wp d 77 Q 12 L st w cn sn)) := w_ifne d_77_9 (by decide)
theorem d_77_12 : decode (mB 77) 12 = .ok (.iconst (-1), 1) := by decide +kernel
theorem s_77_12 {d : Nat} {Q : wQ} {L : List (Option Value)} {st : List Value} {w : aw} {cn sn : Nat}  : wp d 77 Q 12 L st w cn sn = wp d 77 Q 13 L (.int (-1) :: st) w cn sn := w_iconst d_77_12 (by decide)
theorem d_77_13 : decode (mB 77) 13 = .ok (.ireturn, 1) := by decide +kernel
theorem s_77_13 {d : Nat} {Q : wQ} {L : List (Option Value)} {w : aw} {cn sn : Nat} {v : Int32} : wp d 77 Q 13 L [.int v] w cn sn = Q (some (.int v)) w := w_ireturn d_77_13 rfl
theorem d_77_14 : decode (mB 77) 14 = .ok (.aload_n 0, 1) := by decide +kernel
theorem s_77_14 {d : Nat} {Q : wQ} {L : List (Option Value)} {st : List Value} {w : aw} {cn sn : Nat} {v : Nat} : wp d 77 Q 14 (some (.ref v) :: L) st w cn sn = wp d 77 Q 15 (some (.ref v) :: L) (.ref v :: st) w cn sn := w_aload_n d_77_14 rfl
theorem d_77_15 : decode (mB 77) 15 = .ok (.getfield 10, 3) := by decide +kernel
theorem s_77_15 {d : Nat} {Q : wQ} {L : List (Option Value)} {st : List Value} {w : aw} {cn sn : Nat} {a : Nat} : wp d 77 Q 15 L (.ref a :: st) w cn sn = (kd w a = 8 ∧ wp d 77 Q 18 L (fd w 448 a :: st) w cn sn) := w_getfield d_77_15 (by decide +kernel : fT (mO 77) 10 = some (7, 0))
theorem d_77_18 : decode (mB 77) 18 = .ok (.iload_n 1, 1) := by decide +kernel
theorem s_77_18 {d : Nat} {Q : wQ} {L : List (Option Value)} {st : List Value} {w : aw} {cn sn : Nat} {a0 : Option Value} {v : Int32} : wp d 77 Q 18 (a0 :: some (.int v) :: L) st w cn sn = wp d 77 Q 19 (a0 :: some (.int v) :: L) (.int v :: st) w cn sn := w_iload_n d_77_18 rfl
theorem d_77_19 : decode (mB 77) 19 = .ok (.invokevirtual 42, 3) := by decide +kernel
theorem s_77_19 {d : Nat} {Q : wQ} {L : List (Option Value)} {st : List Value} {w : aw} {cn sn : Nat} {v0 : Value} {b : Nat} : wp d 77 Q 19 L (v0 :: .ref b :: st) w cn sn = (kd w b = 6 ∧ catS st ≤ 8 ∧ wpD d 55 [.ref b, v0] w (fun v w' => wp d 77 Q 22 L (v.toList ++ st) w' cn sn)) := w_virtual (As := [v0]) d_77_19 (by decide +kernel : cT (mO 77) 42 = some (0, 55)) rfl (by decide +kernel) rfl (by decide +kernel) rfl
theorem d_77_22 : decode (mB 77) 22 = .ok (.aload_n 0, 1) := by decide +kernel
theorem s_77_22 {d : Nat} {Q : wQ} {L : List (Option Value)} {st : List Value} {w : aw} {cn sn : Nat} {v : Nat} : wp d 77 Q 22 (some (.ref v) :: L) st w cn sn = wp d 77 Q 23 (some (.ref v) :: L) (.ref v :: st) w cn sn := w_aload_n d_77_22 rfl
theorem d_77_23 : decode (mB 77) 23 = .ok (.getfield 10, 3) := by decide +kernel
theorem s_77_23 {d : Nat} {Q : wQ} {L : List (Option Value)} {st : List Value} {w : aw} {cn sn : Nat} {a : Nat} : wp d 77 Q 23 L (.ref a :: st) w cn sn = (kd w a = 8 ∧ wp d 77 Q 26 L (fd w 448 a :: st) w cn sn) := w_getfield d_77_23 (by decide +kernel : fT (mO 77) 10 = some (7, 0))
theorem d_77_26 : decode (mB 77) 26 = .ok (.iload_n 2, 1) := by decide +kernel
theorem s_77_26 {d : Nat} {Q : wQ} {L : List (Option Value)} {st : List Value} {w : aw} {cn sn : Nat} {a0 a1 : Option Value} {v : Int32} : wp d 77 Q 26 (a0 :: a1 :: some (.int v) :: L) st w cn sn = wp d 77 Q 27 (a0 :: a1 :: some (.int v) :: L) (.int v :: st) w cn sn := w_iload_n d_77_26 rfl
theorem d_77_27 : decode (mB 77) 27 = .ok (.invokevirtual 42, 3) := by decide +kernel
theorem s_77_27 {d : Nat} {Q : wQ} {L : List (Option Value)} {st : List Value} {w : aw} {cn sn : Nat} {v0 : Value} {b : Nat} : wp d 77 Q 27 L (v0 :: .ref b :: st) w cn sn = (kd w b = 6 ∧ catS st ≤ 8 ∧ wpD d 55 [.ref b, v0] w (fun v w' => wp d 77 Q 30 L (v.toList ++ st) w' cn sn)) := w_virtual (As := [v0]) d_77_27 (by decide +kernel : cT (mO 77) 42 = some (0, 55)) rfl (by decide +kernel) rfl (by decide +kernel) rfl
theorem d_77_30 : decode (mB 77) 30 = .ok (.aload_n 0, 1) := by decide +kernel
theorem s_77_30 {d : Nat} {Q : wQ} {L : List (Option Value)} {st : List Value} {w : aw} {cn sn : Nat} {v : Nat} : wp d 77 Q 30 (some (.ref v) :: L) st w cn sn = wp d 77 Q 31 (some (.ref v) :: L) (.ref v :: st) w cn sn := w_aload_n d_77_30 rfl
theorem d_77_31 : decode (mB 77) 31 = .ok (.getfield 10, 3) := by decide +kernel
theorem s_77_31 {d : Nat} {Q : wQ} {L : List (Option Value)} {st : List Value} {w : aw} {cn sn : Nat} {a : Nat} : wp d 77 Q 31 L (.ref a :: st) w cn sn = (kd w a = 8 ∧ wp d 77 Q 34 L (fd w 448 a :: st) w cn sn) := w_getfield d_77_31 (by decide +kernel : fT (mO 77) 10 = some (7, 0))
theorem d_77_34 : decode (mB 77) 34 = .ok (.iload_n 3, 1) := by decide +kernel
theorem s_77_34 {d : Nat} {Q : wQ} {L : List (Option Value)} {st : List Value} {w : aw} {cn sn : Nat} {a0 a1 a2 : Option Value} {v : Int32} : wp d 77 Q 34 (a0 :: a1 :: a2 :: some (.int v) :: L) st w cn sn = wp d 77 Q 35 (a0 :: a1 :: a2 :: some (.int v) :: L) (.int v :: st) w cn sn := w_iload_n d_77_34 rfl
theorem d_77_35 : decode (mB 77) 35 = .ok (.invokevirtual 42, 3) := by decide +kernel
theorem s_77_35 {d : Nat} {Q : wQ} {L : List (Option Value)} {st : List Value} {w : aw} {cn sn : Nat} {v0 : Value} {b : Nat} : wp d 77 Q 35 L (v0 :: .ref b :: st) w cn sn = (kd w b = 6 ∧ catS st ≤ 8 ∧ wpD d 55 [.ref b, v0] w (fun v w' => wp d 77 Q 38 L (v.toList ++ st) w' cn sn)) := w_virtual (As := [v0]) d_77_35 (by decide +kernel : cT (mO 77) 42 = some (0, 55)) rfl (by decide +kernel) rfl (by decide +kernel) rfl
theorem d_77_38 : decode (mB 77) 38 = .ok (.aload_n 0, 1) := by decide +kernel
theorem s_77_38 {d : Nat} {Q : wQ} {L : List (Option Value)} {st : List Value} {w : aw} {cn sn : Nat} {v : Nat} : wp d 77 Q 38 (some (.ref v) :: L) st w cn sn = wp d 77 Q 39 (some (.ref v) :: L) (.ref v :: st) w cn sn := w_aload_n d_77_38 rfl
theorem d_77_39 : decode (mB 77) 39 = .ok (.getfield 10, 3) := by decide +kernel
theorem s_77_39 {d : Nat} {Q : wQ} {L : List (Option Value)} {st : List Value} {w : aw} {cn sn : Nat} {a : Nat} : wp d 77 Q 39 L (.ref a :: st) w cn sn = (kd w a = 8 ∧ wp d 77 Q 42 L (fd w 448 a :: st) w cn sn) := w_getfield d_77_39 (by decide +kernel : fT (mO 77) 10 = some (7, 0))
theorem d_77_42 : decode (mB 77) 42 = .ok (.iload 4, 2) := by decide +kernel
theorem s_77_42 {d : Nat} {Q : wQ} {L : List (Option Value)} {st : List Value} {w : aw} {cn sn : Nat} {a0 a1 a2 a3 : Option Value} {v : Int32} : wp d 77 Q 42 (a0 :: a1 :: a2 :: a3 :: some (.int v) :: L) st w cn sn = wp d 77 Q 44 (a0 :: a1 :: a2 :: a3 :: some (.int v) :: L) (.int v :: st) w cn sn := w_iload d_77_42 rfl
theorem d_77_44 : decode (mB 77) 44 = .ok (.invokevirtual 42, 3) := by decide +kernel
theorem s_77_44 {d : Nat} {Q : wQ} {L : List (Option Value)} {st : List Value} {w : aw} {cn sn : Nat} {v0 : Value} {b : Nat} : wp d 77 Q 44 L (v0 :: .ref b :: st) w cn sn = (kd w b = 6 ∧ catS st ≤ 8 ∧ wpD d 55 [.ref b, v0] w (fun v w' => wp d 77 Q 47 L (v.toList ++ st) w' cn sn)) := w_virtual (As := [v0]) d_77_44 (by decide +kernel : cT (mO 77) 42 = some (0, 55)) rfl (by decide +kernel) rfl (by decide +kernel) rfl
theorem d_77_47 : decode (mB 77) 47 = .ok (.aload_n 0, 1) := by decide +kernel
theorem s_77_47 {d : Nat} {Q : wQ} {L : List (Option Value)} {st : List Value} {w : aw} {cn sn : Nat} {v : Nat} : wp d 77 Q 47 (some (.ref v) :: L) st w cn sn = wp d 77 Q 48 (some (.ref v) :: L) (.ref v :: st) w cn sn := w_aload_n d_77_47 rfl
theorem d_77_48 : decode (mB 77) 48 = .ok (.getfield 10, 3) := by decide +kernel
theorem s_77_48 {d : Nat} {Q : wQ} {L : List (Option Value)} {st : List Value} {w : aw} {cn sn : Nat} {a : Nat} : wp d 77 Q 48 L (.ref a :: st) w cn sn = (kd w a = 8 ∧ wp d 77 Q 51 L (fd w 448 a :: st) w cn sn) := w_getfield d_77_48 (by decide +kernel : fT (mO 77) 10 = some (7, 0))
theorem d_77_51 : decode (mB 77) 51 = .ok (.iload 5, 2) := by decide +kernel
theorem s_77_51 {d : Nat} {Q : wQ} {L : List (Option Value)} {st : List Value} {w : aw} {cn sn : Nat} {a0 a1 a2 a3 a4 : Option Value} {v : Int32} : wp d 77 Q 51 (a0 :: a1 :: a2 :: a3 :: a4 :: some (.int v) :: L) st w cn sn = wp d 77 Q 53 (a0 :: a1 :: a2 :: a3 :: a4 :: some (.int v) :: L) (.int v :: st) w cn sn := w_iload d_77_51 rfl
theorem d_77_53 : decode (mB 77) 53 = .ok (.invokevirtual 42, 3) := by decide +kernel
theorem s_77_53 {d : Nat} {Q : wQ} {L : List (Option Value)} {st : List Value} {w : aw} {cn sn : Nat} {v0 : Value} {b : Nat} : wp d 77 Q 53 L (v0 :: .ref b :: st) w cn sn = (kd w b = 6 ∧ catS st ≤ 8 ∧ wpD d 55 [.ref b, v0] w (fun v w' => wp d 77 Q 56 L (v.toList ++ st) w' cn sn)) := w_virtual (As := [v0]) d_77_53 (by decide +kernel : cT (mO 77) 42 = some (0, 55)) rfl (by decide +kernel) rfl (by decide +kernel) rfl
theorem d_77_56 : decode (mB 77) 56 = .ok (.aload_n 0, 1) := by decide +kernel
theorem s_77_56 {d : Nat} {Q : wQ} {L : List (Option Value)} {st : List Value} {w : aw} {cn sn : Nat} {v : Nat} : wp d 77 Q 56 (some (.ref v) :: L) st w cn sn = wp d 77 Q 57 (some (.ref v) :: L) (.ref v :: st) w cn sn := w_aload_n d_77_56 rfl
theorem d_77_57 : decode (mB 77) 57 = .ok (.getfield 10, 3) := by decide +kernel
theorem s_77_57 {d : Nat} {Q : wQ} {L : List (Option Value)} {st : List Value} {w : aw} {cn sn : Nat} {a : Nat} : wp d 77 Q 57 L (.ref a :: st) w cn sn = (kd w a = 8 ∧ wp d 77 Q 60 L (fd w 448 a :: st) w cn sn) := w_getfield d_77_57 (by decide +kernel : fT (mO 77) 10 = some (7, 0))
theorem d_77_60 : decode (mB 77) 60 = .ok (.getfield 46, 3) := by decide +kernel
theorem s_77_60 {d : Nat} {Q : wQ} {L : List (Option Value)} {st : List Value} {w : aw} {cn sn : Nat} {a : Nat} : wp d 77 Q 60 L (.ref a :: st) w cn sn = (kd w a = 6 ∧ wp d 77 Q 63 L (fd w 321 a :: st) w cn sn) := w_getfield d_77_60 (by decide +kernel : fT (mO 77) 46 = some (5, 1))
theorem d_77_63 : decode (mB 77) 63 = .ok (.ireturn, 1) := by decide +kernel
theorem s_77_63 {d : Nat} {Q : wQ} {L : List (Option Value)} {w : aw} {cn sn : Nat} {v : Int32} : wp d 77 Q 63 L [.int v] w cn sn = Q (some (.int v)) w := w_ireturn d_77_63 rfl
theorem d_78_0 : decode (mB 78) 0 = .ok (.aload_n 0, 1) := by decide +kernel
theorem s_78_0 {d : Nat} {Q : wQ} {L : List (Option Value)} {st : List Value} {w : aw} {cn sn : Nat} {v : Nat} : wp d 78 Q 0 (some (.ref v) :: L) st w cn sn = wp d 78 Q 1 (some (.ref v) :: L) (.ref v :: st) w cn sn := w_aload_n d_78_0 rfl
theorem d_78_1 : decode (mB 78) 1 = .ok (.getfield 10, 3) := by decide +kernel
theorem s_78_1 {d : Nat} {Q : wQ} {L : List (Option Value)} {st : List Value} {w : aw} {cn sn : Nat} {a : Nat} : wp d 78 Q 1 L (.ref a :: st) w cn sn = (kd w a = 8 ∧ wp d 78 Q 4 L (fd w 448 a :: st) w cn sn) := w_getfield d_78_1 (by decide +kernel : fT (mO 78) 10 = some (7, 0))
theorem d_78_4 : decode (mB 78) 4 = .ok (.iload_n 1, 1) := by decide +kernel
theorem s_78_4 {d : Nat} {Q : wQ} {L : List (Option Value)} {st : List Value} {w : aw} {cn sn : Nat} {a0 : Option Value} {v : Int32} : wp d 78 Q 4 (a0 :: some (.int v) :: L) st w cn sn = wp d 78 Q 5 (a0 :: some (.int v) :: L) (.int v :: st) w cn sn := w_iload_n d_78_4 rfl
theorem d_78_5 : decode (mB 78) 5 = .ok (.invokevirtual 50, 3) := by decide +kernel
theorem s_78_5 {d : Nat} {Q : wQ} {L : List (Option Value)} {st : List Value} {w : aw} {cn sn : Nat} {v0 : Value} {b : Nat} : wp d 78 Q 5 L (v0 :: .ref b :: st) w cn sn = (kd w b = 6 ∧ catS st ≤ 8 ∧ wpD d 56 [.ref b, v0] w (fun v w' => wp d 78 Q 8 L (v.toList ++ st) w' cn sn)) := w_virtual (As := [v0]) d_78_5 (by decide +kernel : cT (mO 78) 50 = some (0, 56)) rfl (by decide +kernel) rfl (by decide +kernel) rfl
theorem d_78_8 : decode (mB 78) 8 = .ok (.ifCond .eq 7, 3) := by decide +kernel
theorem s_78_8 {d : Nat} {Q : wQ} {L : List (Option Value)} {st : List Value} {w : aw} {cn sn : Nat} {x : Int32} : wp d 78 Q 8 L (.int x :: st) w cn sn = ((x = 0 → wp d 78 Q 15 L st w cn sn) ∧ (¬ x = 0 → wp d 78 Q 11 L st w cn sn)) := w_ifeq d_78_8 (by decide)
theorem d_78_11 : decode (mB 78) 11 = .ok (.iload_n 1, 1) := by decide +kernel
theorem s_78_11 {d : Nat} {Q : wQ} {L : List (Option Value)} {st : List Value} {w : aw} {cn sn : Nat} {a0 : Option Value} {v : Int32} : wp d 78 Q 11 (a0 :: some (.int v) :: L) st w cn sn = wp d 78 Q 12 (a0 :: some (.int v) :: L) (.int v :: st) w cn sn := w_iload_n d_78_11 rfl
theorem d_78_12 : decode (mB 78) 12 = .ok (.goto 4, 3) := by decide +kernel
theorem s_78_12 {d : Nat} {Q : wQ} {L : List (Option Value)} {st : List Value} {w : aw} {cn sn : Nat}  : wp d 78 Q 12 L st w cn sn = wp d 78 Q 16 L st w cn sn := w_goto d_78_12 (by decide)
theorem d_78_15 : decode (mB 78) 15 = .ok (.iconst (-1), 1) := by decide +kernel
theorem s_78_15 {d : Nat} {Q : wQ} {L : List (Option Value)} {st : List Value} {w : aw} {cn sn : Nat}  : wp d 78 Q 15 L st w cn sn = wp d 78 Q 16 L (.int (-1) :: st) w cn sn := w_iconst d_78_15 (by decide)
theorem d_78_16 : decode (mB 78) 16 = .ok (.ireturn, 1) := by decide +kernel
theorem s_78_16 {d : Nat} {Q : wQ} {L : List (Option Value)} {w : aw} {cn sn : Nat} {v : Int32} : wp d 78 Q 16 L [.int v] w cn sn = Q (some (.int v)) w := w_ireturn d_78_16 rfl
theorem d_79_0 : decode (mB 79) 0 = .ok (.aload_n 0, 1) := by decide +kernel
theorem s_79_0 {d : Nat} {Q : wQ} {L : List (Option Value)} {st : List Value} {w : aw} {cn sn : Nat} {v : Nat} : wp d 79 Q 0 (some (.ref v) :: L) st w cn sn = wp d 79 Q 1 (some (.ref v) :: L) (.ref v :: st) w cn sn := w_aload_n d_79_0 rfl
theorem d_79_1 : decode (mB 79) 1 = .ok (.iload_n 1, 1) := by decide +kernel
theorem s_79_1 {d : Nat} {Q : wQ} {L : List (Option Value)} {st : List Value} {w : aw} {cn sn : Nat} {a0 : Option Value} {v : Int32} : wp d 79 Q 1 (a0 :: some (.int v) :: L) st w cn sn = wp d 79 Q 2 (a0 :: some (.int v) :: L) (.int v :: st) w cn sn := w_iload_n d_79_1 rfl
theorem d_79_2 : decode (mB 79) 2 = .ok (.invokevirtual 53, 3) := by decide +kernel
theorem s_79_2 {d : Nat} {Q : wQ} {L : List (Option Value)} {st : List Value} {w : aw} {cn sn : Nat} {v0 : Value} {b : Nat} : wp d 79 Q 2 L (v0 :: .ref b :: st) w cn sn = (kd w b = 8 ∧ catS st ≤ 8 ∧ wpD d 97 [.ref b, v0] w (fun v w' => wp d 79 Q 5 L (v.toList ++ st) w' cn sn)) := w_virtual (As := [v0]) d_79_2 (by decide +kernel : cT (mO 79) 53 = some (0, 97)) rfl (by decide +kernel) rfl (by decide +kernel) rfl
theorem d_79_5 : decode (mB 79) 5 = .ok (.astore_n 2, 1) := by decide +kernel
theorem s_79_5 {d : Nat} {Q : wQ} {L : List (Option Value)} {st : List Value} {w : aw} {cn sn : Nat} {a0 a1 a2 : Option Value} {v : Nat} : wp d 79 Q 5 (a0 :: a1 :: a2 :: L) (.ref v :: st) w cn sn = wp d 79 Q 6 (a0 :: clr a1 :: some (.ref v) :: L) st w cn sn := w_astore_n d_79_5 (Nat.le_add_left 3 _) rfl
theorem s_79_5n {d : Nat} {Q : wQ} {L : List (Option Value)} {st : List Value} {w : aw} {cn sn : Nat} {a0 a1 a2 : Option Value} : wp d 79 Q 5 (a0 :: a1 :: a2 :: L) (.null :: st) w cn sn = wp d 79 Q 6 (a0 :: clr a1 :: some .null :: L) st w cn sn := w_astore_nN d_79_5 (Nat.le_add_left 3 _) rfl
theorem d_79_6 : decode (mB 79) 6 = .ok (.aload_n 2, 1) := by decide +kernel
theorem s_79_6 {d : Nat} {Q : wQ} {L : List (Option Value)} {st : List Value} {w : aw} {cn sn : Nat} {a0 a1 : Option Value} {v : Nat} : wp d 79 Q 6 (a0 :: a1 :: some (.ref v) :: L) st w cn sn = wp d 79 Q 7 (a0 :: a1 :: some (.ref v) :: L) (.ref v :: st) w cn sn := w_aload_n d_79_6 rfl
theorem s_79_6n {d : Nat} {Q : wQ} {L : List (Option Value)} {st : List Value} {w : aw} {cn sn : Nat} {a0 a1 : Option Value} : wp d 79 Q 6 (a0 :: a1 :: some .null :: L) st w cn sn = wp d 79 Q 7 (a0 :: a1 :: some .null :: L) (.null :: st) w cn sn := w_aload_nN d_79_6 rfl
theorem d_79_7 : decode (mB 79) 7 = .ok (.ifnonnull 5, 3) := by decide +kernel
theorem s_79_7 {d : Nat} {Q : wQ} {L : List (Option Value)} {st : List Value} {w : aw} {cn sn : Nat} {q : Nat} : wp d 79 Q 7 L (.ref q :: st) w cn sn = wp d 79 Q 12 L st w cn sn := w_ifnn d_79_7 (t := 12) (by decide)
theorem s_79_7n {d : Nat} {Q : wQ} {L : List (Option Value)} {st : List Value} {w : aw} {cn sn : Nat}  : wp d 79 Q 7 L (.null :: st) w cn sn = wp d 79 Q 10 L st w cn sn := w_ifnnN d_79_7 (t := 12) (by decide)
theorem d_79_10 : decode (mB 79) 10 = .ok (.iconst (-1), 1) := by decide +kernel
theorem s_79_10 {d : Nat} {Q : wQ} {L : List (Option Value)} {st : List Value} {w : aw} {cn sn : Nat}  : wp d 79 Q 10 L st w cn sn = wp d 79 Q 11 L (.int (-1) :: st) w cn sn := w_iconst d_79_10 (by decide)
theorem d_79_11 : decode (mB 79) 11 = .ok (.ireturn, 1) := by decide +kernel
theorem s_79_11 {d : Nat} {Q : wQ} {L : List (Option Value)} {w : aw} {cn sn : Nat} {v : Int32} : wp d 79 Q 11 L [.int v] w cn sn = Q (some (.int v)) w := w_ireturn d_79_11 rfl
theorem d_79_12 : decode (mB 79) 12 = .ok (.aload_n 0, 1) := by decide +kernel
theorem s_79_12 {d : Nat} {Q : wQ} {L : List (Option Value)} {st : List Value} {w : aw} {cn sn : Nat} {v : Nat} : wp d 79 Q 12 (some (.ref v) :: L) st w cn sn = wp d 79 Q 13 (some (.ref v) :: L) (.ref v :: st) w cn sn := w_aload_n d_79_12 rfl
theorem d_79_13 : decode (mB 79) 13 = .ok (.getfield 21, 3) := by decide +kernel
theorem s_79_13 {d : Nat} {Q : wQ} {L : List (Option Value)} {st : List Value} {w : aw} {cn sn : Nat} {a : Nat} : wp d 79 Q 13 L (.ref a :: st) w cn sn = (kd w a = 8 ∧ wp d 79 Q 16 L (fd w 449 a :: st) w cn sn) := w_getfield d_79_13 (by decide +kernel : fT (mO 79) 21 = some (7, 1))
theorem d_79_16 : decode (mB 79) 16 = .ok (.invokevirtual 57, 3) := by decide +kernel
theorem s_79_16 {d : Nat} {Q : wQ} {L : List (Option Value)} {st : List Value} {w : aw} {cn sn : Nat} {b : Nat} : wp d 79 Q 16 L (.ref b :: st) w cn sn = (kd w b = 1 ∧ catS st ≤ 8 ∧ wpD d 2 [.ref b] w (fun v w' => wp d 79 Q 19 L (v.toList ++ st) w' cn sn)) := w_virtual (As := []) d_79_16 (by decide +kernel : cT (mO 79) 57 = some (0, 2)) rfl (by decide +kernel) rfl (by decide +kernel) rfl
theorem d_79_19 : decode (mB 79) 19 = .ok (.aload_n 0, 1) := by decide +kernel
theorem s_79_19 {d : Nat} {Q : wQ} {L : List (Option Value)} {st : List Value} {w : aw} {cn sn : Nat} {v : Nat} : wp d 79 Q 19 (some (.ref v) :: L) st w cn sn = wp d 79 Q 20 (some (.ref v) :: L) (.ref v :: st) w cn sn := w_aload_n d_79_19 rfl
theorem d_79_20 : decode (mB 79) 20 = .ok (.getfield 21, 3) := by decide +kernel
theorem s_79_20 {d : Nat} {Q : wQ} {L : List (Option Value)} {st : List Value} {w : aw} {cn sn : Nat} {a : Nat} : wp d 79 Q 20 L (.ref a :: st) w cn sn = (kd w a = 8 ∧ wp d 79 Q 23 L (fd w 449 a :: st) w cn sn) := w_getfield d_79_20 (by decide +kernel : fT (mO 79) 21 = some (7, 1))
theorem d_79_23 : decode (mB 79) 23 = .ok (.iconst 1, 1) := by decide +kernel
theorem s_79_23 {d : Nat} {Q : wQ} {L : List (Option Value)} {st : List Value} {w : aw} {cn sn : Nat}  : wp d 79 Q 23 L st w cn sn = wp d 79 Q 24 L (.int 1 :: st) w cn sn := w_iconst d_79_23 (by decide)
theorem d_79_24 : decode (mB 79) 24 = .ok (.invokevirtual 60, 3) := by decide +kernel
theorem s_79_24 {d : Nat} {Q : wQ} {L : List (Option Value)} {st : List Value} {w : aw} {cn sn : Nat} {v0 : Value} {b : Nat} : wp d 79 Q 24 L (v0 :: .ref b :: st) w cn sn = (kd w b = 1 ∧ catS st ≤ 8 ∧ wpD d 3 [.ref b, v0] w (fun v w' => wp d 79 Q 27 L (v.toList ++ st) w' cn sn)) := w_virtual (As := [v0]) d_79_24 (by decide +kernel : cT (mO 79) 60 = some (0, 3)) rfl (by decide +kernel) rfl (by decide +kernel) rfl
theorem d_79_27 : decode (mB 79) 27 = .ok (.aload_n 0, 1) := by decide +kernel
theorem s_79_27 {d : Nat} {Q : wQ} {L : List (Option Value)} {st : List Value} {w : aw} {cn sn : Nat} {v : Nat} : wp d 79 Q 27 (some (.ref v) :: L) st w cn sn = wp d 79 Q 28 (some (.ref v) :: L) (.ref v :: st) w cn sn := w_aload_n d_79_27 rfl
theorem d_79_28 : decode (mB 79) 28 = .ok (.getfield 21, 3) := by decide +kernel
theorem s_79_28 {d : Nat} {Q : wQ} {L : List (Option Value)} {st : List Value} {w : aw} {cn sn : Nat} {a : Nat} : wp d 79 Q 28 L (.ref a :: st) w cn sn = (kd w a = 8 ∧ wp d 79 Q 31 L (fd w 449 a :: st) w cn sn) := w_getfield d_79_28 (by decide +kernel : fT (mO 79) 21 = some (7, 1))
theorem d_79_31 : decode (mB 79) 31 = .ok (.iconst 0, 1) := by decide +kernel
theorem s_79_31 {d : Nat} {Q : wQ} {L : List (Option Value)} {st : List Value} {w : aw} {cn sn : Nat}  : wp d 79 Q 31 L st w cn sn = wp d 79 Q 32 L (.int 0 :: st) w cn sn := w_iconst d_79_31 (by decide)
theorem d_79_32 : decode (mB 79) 32 = .ok (.invokevirtual 60, 3) := by decide +kernel
theorem s_79_32 {d : Nat} {Q : wQ} {L : List (Option Value)} {st : List Value} {w : aw} {cn sn : Nat} {v0 : Value} {b : Nat} : wp d 79 Q 32 L (v0 :: .ref b :: st) w cn sn = (kd w b = 1 ∧ catS st ≤ 8 ∧ wpD d 3 [.ref b, v0] w (fun v w' => wp d 79 Q 35 L (v.toList ++ st) w' cn sn)) := w_virtual (As := [v0]) d_79_32 (by decide +kernel : cT (mO 79) 60 = some (0, 3)) rfl (by decide +kernel) rfl (by decide +kernel) rfl
theorem d_79_35 : decode (mB 79) 35 = .ok (.aload_n 0, 1) := by decide +kernel
theorem s_79_35 {d : Nat} {Q : wQ} {L : List (Option Value)} {st : List Value} {w : aw} {cn sn : Nat} {v : Nat} : wp d 79 Q 35 (some (.ref v) :: L) st w cn sn = wp d 79 Q 36 (some (.ref v) :: L) (.ref v :: st) w cn sn := w_aload_n d_79_35 rfl
theorem d_79_36 : decode (mB 79) 36 = .ok (.getfield 10, 3) := by decide +kernel
theorem s_79_36 {d : Nat} {Q : wQ} {L : List (Option Value)} {st : List Value} {w : aw} {cn sn : Nat} {a : Nat} : wp d 79 Q 36 L (.ref a :: st) w cn sn = (kd w a = 8 ∧ wp d 79 Q 39 L (fd w 448 a :: st) w cn sn) := w_getfield d_79_36 (by decide +kernel : fT (mO 79) 10 = some (7, 0))
theorem d_79_39 : decode (mB 79) 39 = .ok (.iconst 0, 1) := by decide +kernel
theorem s_79_39 {d : Nat} {Q : wQ} {L : List (Option Value)} {st : List Value} {w : aw} {cn sn : Nat}  : wp d 79 Q 39 L st w cn sn = wp d 79 Q 40 L (.int 0 :: st) w cn sn := w_iconst d_79_39 (by decide)
theorem d_79_40 : decode (mB 79) 40 = .ok (.invokevirtual 50, 3) := by decide +kernel
theorem s_79_40 {d : Nat} {Q : wQ} {L : List (Option Value)} {st : List Value} {w : aw} {cn sn : Nat} {v0 : Value} {b : Nat} : wp d 79 Q 40 L (v0 :: .ref b :: st) w cn sn = (kd w b = 6 ∧ catS st ≤ 8 ∧ wpD d 56 [.ref b, v0] w (fun v w' => wp d 79 Q 43 L (v.toList ++ st) w' cn sn)) := w_virtual (As := [v0]) d_79_40 (by decide +kernel : cT (mO 79) 50 = some (0, 56)) rfl (by decide +kernel) rfl (by decide +kernel) rfl
theorem d_79_43 : decode (mB 79) 43 = .ok (.pop, 1) := by decide +kernel
theorem s_79_43 {d : Nat} {Q : wQ} {L : List (Option Value)} {st : List Value} {w : aw} {cn sn : Nat} {v : Value} : wp d 79 Q 43 L (v :: st) w cn sn = (v.category = 1 ∧ wp d 79 Q 44 L st w cn sn) := wp_row d_79_43 _ _ _ _ _
theorem d_79_44 : decode (mB 79) 44 = .ok (.aload_n 0, 1) := by decide +kernel
theorem s_79_44 {d : Nat} {Q : wQ} {L : List (Option Value)} {st : List Value} {w : aw} {cn sn : Nat} {v : Nat} : wp d 79 Q 44 (some (.ref v) :: L) st w cn sn = wp d 79 Q 45 (some (.ref v) :: L) (.ref v :: st) w cn sn := w_aload_n d_79_44 rfl
theorem d_79_45 : decode (mB 79) 45 = .ok (.getfield 21, 3) := by decide +kernel
theorem s_79_45 {d : Nat} {Q : wQ} {L : List (Option Value)} {st : List Value} {w : aw} {cn sn : Nat} {a : Nat} : wp d 79 Q 45 L (.ref a :: st) w cn sn = (kd w a = 8 ∧ wp d 79 Q 48 L (fd w 449 a :: st) w cn sn) := w_getfield d_79_45 (by decide +kernel : fT (mO 79) 21 = some (7, 1))
theorem d_79_48 : decode (mB 79) 48 = .ok (.aload_n 2, 1) := by decide +kernel
theorem s_79_48 {d : Nat} {Q : wQ} {L : List (Option Value)} {st : List Value} {w : aw} {cn sn : Nat} {a0 a1 : Option Value} {v : Nat} : wp d 79 Q 48 (a0 :: a1 :: some (.ref v) :: L) st w cn sn = wp d 79 Q 49 (a0 :: a1 :: some (.ref v) :: L) (.ref v :: st) w cn sn := w_aload_n d_79_48 rfl
theorem s_79_48n {d : Nat} {Q : wQ} {L : List (Option Value)} {st : List Value} {w : aw} {cn sn : Nat} {a0 a1 : Option Value} : wp d 79 Q 48 (a0 :: a1 :: some .null :: L) st w cn sn = wp d 79 Q 49 (a0 :: a1 :: some .null :: L) (.null :: st) w cn sn := w_aload_nN d_79_48 rfl
theorem d_79_49 : decode (mB 79) 49 = .ok (.getfield 64, 3) := by decide +kernel
theorem s_79_49 {d : Nat} {Q : wQ} {L : List (Option Value)} {st : List Value} {w : aw} {cn sn : Nat} {a : Nat} : wp d 79 Q 49 L (.ref a :: st) w cn sn = (kd w a = 7 ∧ wp d 79 Q 52 L (fd w 385 a :: st) w cn sn) := w_getfield d_79_49 (by decide +kernel : fT (mO 79) 64 = some (6, 1))
theorem d_79_52 : decode (mB 79) 52 = .ok (.invokevirtual 70, 3) := by decide +kernel
theorem s_79_52 {d : Nat} {Q : wQ} {L : List (Option Value)} {st : List Value} {w : aw} {cn sn : Nat} {v0 : Value} {b : Nat} : wp d 79 Q 52 L (v0 :: .ref b :: st) w cn sn = (kd w b = 1 ∧ catS st ≤ 8 ∧ wpD d 12 [.ref b, v0] w (fun v w' => wp d 79 Q 55 L (v.toList ++ st) w' cn sn)) := w_virtual (As := [v0]) d_79_52 (by decide +kernel : cT (mO 79) 70 = some (0, 12)) rfl (by decide +kernel) rfl (by decide +kernel) rfl
theorem d_79_55 : decode (mB 79) 55 = .ok (.ireturn, 1) := by decide +kernel
theorem s_79_55 {d : Nat} {Q : wQ} {L : List (Option Value)} {w : aw} {cn sn : Nat} {v : Int32} : wp d 79 Q 55 L [.int v] w cn sn = Q (some (.int v)) w := w_ireturn d_79_55 rfl
theorem d_80_0 : decode (mB 80) 0 = .ok (.iload_n 1, 1) := by decide +kernel
theorem s_80_0 {d : Nat} {Q : wQ} {L : List (Option Value)} {st : List Value} {w : aw} {cn sn : Nat} {a0 : Option Value} {v : Int32} : wp d 80 Q 0 (a0 :: some (.int v) :: L) st w cn sn = wp d 80 Q 1 (a0 :: some (.int v) :: L) (.int v :: st) w cn sn := w_iload_n d_80_0 rfl
theorem d_80_1 : decode (mB 80) 1 = .ok (.ifCond .ne 11, 3) := by decide +kernel
theorem s_80_1 {d : Nat} {Q : wQ} {L : List (Option Value)} {st : List Value} {w : aw} {cn sn : Nat} {x : Int32} : wp d 80 Q 1 L (.int x :: st) w cn sn = ((¬ x = 0 → wp d 80 Q 12 L st w cn sn) ∧ (x = 0 → wp d 80 Q 4 L st w cn sn)) := w_ifne d_80_1 (by decide)
theorem d_80_4 : decode (mB 80) 4 = .ok (.aload_n 0, 1) := by decide +kernel
theorem s_80_4 {d : Nat} {Q : wQ} {L : List (Option Value)} {st : List Value} {w : aw} {cn sn : Nat} {v : Nat} : wp d 80 Q 4 (some (.ref v) :: L) st w cn sn = wp d 80 Q 5 (some (.ref v) :: L) (.ref v :: st) w cn sn := w_aload_n d_80_4 rfl
theorem d_80_5 : decode (mB 80) 5 = .ok (.getfield 21, 3) := by decide +kernel
theorem s_80_5 {d : Nat} {Q : wQ} {L : List (Option Value)} {st : List Value} {w : aw} {cn sn : Nat} {a : Nat} : wp d 80 Q 5 L (.ref a :: st) w cn sn = (kd w a = 8 ∧ wp d 80 Q 8 L (fd w 449 a :: st) w cn sn) := w_getfield d_80_5 (by decide +kernel : fT (mO 80) 21 = some (7, 1))
theorem d_80_8 : decode (mB 80) 8 = .ok (.getfield 74, 3) := by decide +kernel
theorem s_80_8 {d : Nat} {Q : wQ} {L : List (Option Value)} {st : List Value} {w : aw} {cn sn : Nat} {a : Nat} : wp d 80 Q 8 L (.ref a :: st) w cn sn = (kd w a = 1 ∧ wp d 80 Q 11 L (fd w 9 a :: st) w cn sn) := w_getfield d_80_8 (by decide +kernel : fT (mO 80) 74 = some (0, 9))
theorem d_80_11 : decode (mB 80) 11 = .ok (.ireturn, 1) := by decide +kernel
theorem s_80_11 {d : Nat} {Q : wQ} {L : List (Option Value)} {w : aw} {cn sn : Nat} {v : Int32} : wp d 80 Q 11 L [.int v] w cn sn = Q (some (.int v)) w := w_ireturn d_80_11 rfl
theorem d_80_12 : decode (mB 80) 12 = .ok (.iload_n 1, 1) := by decide +kernel
theorem s_80_12 {d : Nat} {Q : wQ} {L : List (Option Value)} {st : List Value} {w : aw} {cn sn : Nat} {a0 : Option Value} {v : Int32} : wp d 80 Q 12 (a0 :: some (.int v) :: L) st w cn sn = wp d 80 Q 13 (a0 :: some (.int v) :: L) (.int v :: st) w cn sn := w_iload_n d_80_12 rfl
theorem d_80_13 : decode (mB 80) 13 = .ok (.iconst 1, 1) := by decide +kernel
theorem s_80_13 {d : Nat} {Q : wQ} {L : List (Option Value)} {st : List Value} {w : aw} {cn sn : Nat}  : wp d 80 Q 13 L st w cn sn = wp d 80 Q 14 L (.int 1 :: st) w cn sn := w_iconst d_80_13 (by decide)
theorem d_80_14 : decode (mB 80) 14 = .ok (.if_icmp .ne 13, 3) := by decide +kernel
theorem s_80_14 {d : Nat} {Q : wQ} {L : List (Option Value)} {st : List Value} {w : aw} {cn sn : Nat} {a b : Int32} : wp d 80 Q 14 L (.int b :: .int a :: st) w cn sn = ((¬ a = b → wp d 80 Q 27 L st w cn sn) ∧ (a = b → wp d 80 Q 17 L st w cn sn)) := w_icne d_80_14 (by decide)
theorem d_80_17 : decode (mB 80) 17 = .ok (.aload_n 0, 1) := by decide +kernel
theorem s_80_17 {d : Nat} {Q : wQ} {L : List (Option Value)} {st : List Value} {w : aw} {cn sn : Nat} {v : Nat} : wp d 80 Q 17 (some (.ref v) :: L) st w cn sn = wp d 80 Q 18 (some (.ref v) :: L) (.ref v :: st) w cn sn := w_aload_n d_80_17 rfl
theorem d_80_18 : decode (mB 80) 18 = .ok (.getfield 21, 3) := by decide +kernel
theorem s_80_18 {d : Nat} {Q : wQ} {L : List (Option Value)} {st : List Value} {w : aw} {cn sn : Nat} {a : Nat} : wp d 80 Q 18 L (.ref a :: st) w cn sn = (kd w a = 8 ∧ wp d 80 Q 21 L (fd w 449 a :: st) w cn sn) := w_getfield d_80_18 (by decide +kernel : fT (mO 80) 21 = some (7, 1))
theorem d_80_21 : decode (mB 80) 21 = .ok (.getfield 77, 3) := by decide +kernel
theorem s_80_21 {d : Nat} {Q : wQ} {L : List (Option Value)} {st : List Value} {w : aw} {cn sn : Nat} {a : Nat} : wp d 80 Q 21 L (.ref a :: st) w cn sn = (kd w a = 1 ∧ wp d 80 Q 24 L (fd w 10 a :: st) w cn sn) := w_getfield d_80_21 (by decide +kernel : fT (mO 80) 77 = some (0, 10))
theorem d_80_24 : decode (mB 80) 24 = .ok (.goto 4, 3) := by decide +kernel
theorem s_80_24 {d : Nat} {Q : wQ} {L : List (Option Value)} {st : List Value} {w : aw} {cn sn : Nat}  : wp d 80 Q 24 L st w cn sn = wp d 80 Q 28 L st w cn sn := w_goto d_80_24 (by decide)
theorem d_80_27 : decode (mB 80) 27 = .ok (.iconst (-1), 1) := by decide +kernel
theorem s_80_27 {d : Nat} {Q : wQ} {L : List (Option Value)} {st : List Value} {w : aw} {cn sn : Nat}  : wp d 80 Q 27 L st w cn sn = wp d 80 Q 28 L (.int (-1) :: st) w cn sn := w_iconst d_80_27 (by decide)
theorem d_80_28 : decode (mB 80) 28 = .ok (.ireturn, 1) := by decide +kernel
theorem s_80_28 {d : Nat} {Q : wQ} {L : List (Option Value)} {w : aw} {cn sn : Nat} {v : Int32} : wp d 80 Q 28 L [.int v] w cn sn = Q (some (.int v)) w := w_ireturn d_80_28 rfl
theorem d_81_0 : decode (mB 81) 0 = .ok (.aload_n 0, 1) := by decide +kernel
theorem s_81_0 {d : Nat} {Q : wQ} {L : List (Option Value)} {st : List Value} {w : aw} {cn sn : Nat} {v : Nat} : wp d 81 Q 0 (some (.ref v) :: L) st w cn sn = wp d 81 Q 1 (some (.ref v) :: L) (.ref v :: st) w cn sn := w_aload_n d_81_0 rfl
theorem d_81_1 : decode (mB 81) 1 = .ok (.iload_n 1, 1) := by decide +kernel
theorem s_81_1 {d : Nat} {Q : wQ} {L : List (Option Value)} {st : List Value} {w : aw} {cn sn : Nat} {a0 : Option Value} {v : Int32} : wp d 81 Q 1 (a0 :: some (.int v) :: L) st w cn sn = wp d 81 Q 2 (a0 :: some (.int v) :: L) (.int v :: st) w cn sn := w_iload_n d_81_1 rfl
theorem d_81_2 : decode (mB 81) 2 = .ok (.invokevirtual 53, 3) := by decide +kernel
theorem s_81_2 {d : Nat} {Q : wQ} {L : List (Option Value)} {st : List Value} {w : aw} {cn sn : Nat} {v0 : Value} {b : Nat} : wp d 81 Q 2 L (v0 :: .ref b :: st) w cn sn = (kd w b = 8 ∧ catS st ≤ 8 ∧ wpD d 97 [.ref b, v0] w (fun v w' => wp d 81 Q 5 L (v.toList ++ st) w' cn sn)) := w_virtual (As := [v0]) d_81_2 (by decide +kernel : cT (mO 81) 53 = some (0, 97)) rfl (by decide +kernel) rfl (by decide +kernel) rfl
theorem d_81_5 : decode (mB 81) 5 = .ok (.astore 4, 2) := by decide +kernel
theorem s_81_5 {d : Nat} {Q : wQ} {L : List (Option Value)} {st : List Value} {w : aw} {cn sn : Nat} {a0 a1 a2 a3 a4 : Option Value} {v : Nat} : wp d 81 Q 5 (a0 :: a1 :: a2 :: a3 :: a4 :: L) (.ref v :: st) w cn sn = wp d 81 Q 7 (a0 :: a1 :: a2 :: clr a3 :: some (.ref v) :: L) st w cn sn := w_astore d_81_5 (Nat.le_add_left 5 _) rfl
theorem s_81_5n {d : Nat} {Q : wQ} {L : List (Option Value)} {st : List Value} {w : aw} {cn sn : Nat} {a0 a1 a2 a3 a4 : Option Value} : wp d 81 Q 5 (a0 :: a1 :: a2 :: a3 :: a4 :: L) (.null :: st) w cn sn = wp d 81 Q 7 (a0 :: a1 :: a2 :: clr a3 :: some .null :: L) st w cn sn := w_astoreN d_81_5 (Nat.le_add_left 5 _) rfl
theorem d_81_7 : decode (mB 81) 7 = .ok (.aload 4, 2) := by decide +kernel
theorem s_81_7 {d : Nat} {Q : wQ} {L : List (Option Value)} {st : List Value} {w : aw} {cn sn : Nat} {a0 a1 a2 a3 : Option Value} {v : Nat} : wp d 81 Q 7 (a0 :: a1 :: a2 :: a3 :: some (.ref v) :: L) st w cn sn = wp d 81 Q 9 (a0 :: a1 :: a2 :: a3 :: some (.ref v) :: L) (.ref v :: st) w cn sn := w_aload d_81_7 rfl
theorem s_81_7n {d : Nat} {Q : wQ} {L : List (Option Value)} {st : List Value} {w : aw} {cn sn : Nat} {a0 a1 a2 a3 : Option Value} : wp d 81 Q 7 (a0 :: a1 :: a2 :: a3 :: some .null :: L) st w cn sn = wp d 81 Q 9 (a0 :: a1 :: a2 :: a3 :: some .null :: L) (.null :: st) w cn sn := w_aloadN d_81_7 rfl
theorem d_81_9 : decode (mB 81) 9 = .ok (.ifnull 17, 3) := by decide +kernel
theorem s_81_9 {d : Nat} {Q : wQ} {L : List (Option Value)} {st : List Value} {w : aw} {cn sn : Nat} {q : Nat} : wp d 81 Q 9 L (.ref q :: st) w cn sn = wp d 81 Q 12 L st w cn sn := w_ifnull d_81_9 (t := 26) (by decide)
theorem s_81_9n {d : Nat} {Q : wQ} {L : List (Option Value)} {st : List Value} {w : aw} {cn sn : Nat}  : wp d 81 Q 9 L (.null :: st) w cn sn = wp d 81 Q 26 L st w cn sn := w_ifnullN d_81_9 (t := 26) (by decide)
theorem d_81_12 : decode (mB 81) 12 = .ok (.iload_n 2, 1) := by decide +kernel
theorem s_81_12 {d : Nat} {Q : wQ} {L : List (Option Value)} {st : List Value} {w : aw} {cn sn : Nat} {a0 a1 : Option Value} {v : Int32} : wp d 81 Q 12 (a0 :: a1 :: some (.int v) :: L) st w cn sn = wp d 81 Q 13 (a0 :: a1 :: some (.int v) :: L) (.int v :: st) w cn sn := w_iload_n d_81_12 rfl
theorem d_81_13 : decode (mB 81) 13 = .ok (.invokestatic 80, 3) := by decide +kernel
theorem s_81_13 {d : Nat} {Q : wQ} {L : List (Option Value)} {st : List Value} {w : aw} {cn sn : Nat} {v0 : Value} : wp d 81 Q 13 L (v0 :: st) w cn sn = (catS st ≤ 8 ∧ wpD d 99 [v0] w (fun v w' => wp d 81 Q 16 L (v.toList ++ st) w' cn sn)) := w_static (As := [v0]) d_81_13 (by decide +kernel : cT (mO 81) 80 = some (2, 99)) rfl (by decide +kernel) rfl
theorem d_81_16 : decode (mB 81) 16 = .ok (.ifCond .eq 10, 3) := by decide +kernel
theorem s_81_16 {d : Nat} {Q : wQ} {L : List (Option Value)} {st : List Value} {w : aw} {cn sn : Nat} {x : Int32} : wp d 81 Q 16 L (.int x :: st) w cn sn = ((x = 0 → wp d 81 Q 26 L st w cn sn) ∧ (¬ x = 0 → wp d 81 Q 19 L st w cn sn)) := w_ifeq d_81_16 (by decide)
theorem d_81_19 : decode (mB 81) 19 = .ok (.iload_n 3, 1) := by decide +kernel
theorem s_81_19 {d : Nat} {Q : wQ} {L : List (Option Value)} {st : List Value} {w : aw} {cn sn : Nat} {a0 a1 a2 : Option Value} {v : Int32} : wp d 81 Q 19 (a0 :: a1 :: a2 :: some (.int v) :: L) st w cn sn = wp d 81 Q 20 (a0 :: a1 :: a2 :: some (.int v) :: L) (.int v :: st) w cn sn := w_iload_n d_81_19 rfl
theorem d_81_20 : decode (mB 81) 20 = .ok (.invokestatic 80, 3) := by decide +kernel
theorem s_81_20 {d : Nat} {Q : wQ} {L : List (Option Value)} {st : List Value} {w : aw} {cn sn : Nat} {v0 : Value} : wp d 81 Q 20 L (v0 :: st) w cn sn = (catS st ≤ 8 ∧ wpD d 99 [v0] w (fun v w' => wp d 81 Q 23 L (v.toList ++ st) w' cn sn)) := w_static (As := [v0]) d_81_20 (by decide +kernel : cT (mO 81) 80 = some (2, 99)) rfl (by decide +kernel) rfl
theorem d_81_23 : decode (mB 81) 23 = .ok (.ifCond .ne 5, 3) := by decide +kernel
theorem s_81_23 {d : Nat} {Q : wQ} {L : List (Option Value)} {st : List Value} {w : aw} {cn sn : Nat} {x : Int32} : wp d 81 Q 23 L (.int x :: st) w cn sn = ((¬ x = 0 → wp d 81 Q 28 L st w cn sn) ∧ (x = 0 → wp d 81 Q 26 L st w cn sn)) := w_ifne d_81_23 (by decide)
theorem d_81_26 : decode (mB 81) 26 = .ok (.iconst (-1), 1) := by decide +kernel
theorem s_81_26 {d : Nat} {Q : wQ} {L : List (Option Value)} {st : List Value} {w : aw} {cn sn : Nat}  : wp d 81 Q 26 L st w cn sn = wp d 81 Q 27 L (.int (-1) :: st) w cn sn := w_iconst d_81_26 (by decide)
theorem d_81_27 : decode (mB 81) 27 = .ok (.ireturn, 1) := by decide +kernel
theorem s_81_27 {d : Nat} {Q : wQ} {L : List (Option Value)} {w : aw} {cn sn : Nat} {v : Int32} : wp d 81 Q 27 L [.int v] w cn sn = Q (some (.int v)) w := w_ireturn d_81_27 rfl
theorem d_81_28 : decode (mB 81) 28 = .ok (.aload 4, 2) := by decide +kernel
theorem s_81_28 {d : Nat} {Q : wQ} {L : List (Option Value)} {st : List Value} {w : aw} {cn sn : Nat} {a0 a1 a2 a3 : Option Value} {v : Nat} : wp d 81 Q 28 (a0 :: a1 :: a2 :: a3 :: some (.ref v) :: L) st w cn sn = wp d 81 Q 30 (a0 :: a1 :: a2 :: a3 :: some (.ref v) :: L) (.ref v :: st) w cn sn := w_aload d_81_28 rfl
theorem s_81_28n {d : Nat} {Q : wQ} {L : List (Option Value)} {st : List Value} {w : aw} {cn sn : Nat} {a0 a1 a2 a3 : Option Value} : wp d 81 Q 28 (a0 :: a1 :: a2 :: a3 :: some .null :: L) st w cn sn = wp d 81 Q 30 (a0 :: a1 :: a2 :: a3 :: some .null :: L) (.null :: st) w cn sn := w_aloadN d_81_28 rfl
theorem d_81_30 : decode (mB 81) 30 = .ok (.getfield 64, 3) := by decide +kernel
theorem s_81_30 {d : Nat} {Q : wQ} {L : List (Option Value)} {st : List Value} {w : aw} {cn sn : Nat} {a : Nat} : wp d 81 Q 30 L (.ref a :: st) w cn sn = (kd w a = 7 ∧ wp d 81 Q 33 L (fd w 385 a :: st) w cn sn) := w_getfield d_81_30 (by decide +kernel : fT (mO 81) 64 = some (6, 1))
theorem d_81_33 : decode (mB 81) 33 = .ok (.iload_n 2, 1) := by decide +kernel
theorem s_81_33 {d : Nat} {Q : wQ} {L : List (Option Value)} {st : List Value} {w : aw} {cn sn : Nat} {a0 a1 : Option Value} {v : Int32} : wp d 81 Q 33 (a0 :: a1 :: some (.int v) :: L) st w cn sn = wp d 81 Q 34 (a0 :: a1 :: some (.int v) :: L) (.int v :: st) w cn sn := w_iload_n d_81_33 rfl
theorem d_81_34 : decode (mB 81) 34 = .ok (.iload_n 3, 1) := by decide +kernel
theorem s_81_34 {d : Nat} {Q : wQ} {L : List (Option Value)} {st : List Value} {w : aw} {cn sn : Nat} {a0 a1 a2 : Option Value} {v : Int32} : wp d 81 Q 34 (a0 :: a1 :: a2 :: some (.int v) :: L) st w cn sn = wp d 81 Q 35 (a0 :: a1 :: a2 :: some (.int v) :: L) (.int v :: st) w cn sn := w_iload_n d_81_34 rfl
theorem d_81_35 : decode (mB 81) 35 = .ok (.iastore, 1) := by decide +kernel
theorem s_81_35 {d : Nat} {Q : wQ} {L : List (Option Value)} {st : List Value} {w : aw} {cn sn : Nat} {a : Nat} {i x : Int32} : wp d 81 Q 35 L (.int x :: .int i :: .ref a :: st) w cn sn = (kd w a = 20 ∧ inR i (ln w a) ∧ wp d 81 Q 36 L st (uA w a i.toNatClampNeg x) cn sn) := wp_row d_81_35 _ _ _ _ _
theorem d_81_36 : decode (mB 81) 36 = .ok (.iconst 1, 1) := by decide +kernel
theorem s_81_36 {d : Nat} {Q : wQ} {L : List (Option Value)} {st : List Value} {w : aw} {cn sn : Nat}  : wp d 81 Q 36 L st w cn sn = wp d 81 Q 37 L (.int 1 :: st) w cn sn := w_iconst d_81_36 (by decide)
theorem d_81_37 : decode (mB 81) 37 = .ok (.ireturn, 1) := by decide +kernel
theorem s_81_37 {d : Nat} {Q : wQ} {L : List (Option Value)} {w : aw} {cn sn : Nat} {v : Int32} : wp d 81 Q 37 L [.int v] w cn sn = Q (some (.int v)) w := w_ireturn d_81_37 rfl
theorem d_82_0 : decode (mB 82) 0 = .ok (.aload_n 0, 1) := by decide +kernel
theorem s_82_0 {d : Nat} {Q : wQ} {L : List (Option Value)} {st : List Value} {w : aw} {cn sn : Nat} {v : Nat} : wp d 82 Q 0 (some (.ref v) :: L) st w cn sn = wp d 82 Q 1 (some (.ref v) :: L) (.ref v :: st) w cn sn := w_aload_n d_82_0 rfl
theorem d_82_1 : decode (mB 82) 1 = .ok (.iload_n 1, 1) := by decide +kernel
theorem s_82_1 {d : Nat} {Q : wQ} {L : List (Option Value)} {st : List Value} {w : aw} {cn sn : Nat} {a0 : Option Value} {v : Int32} : wp d 82 Q 1 (a0 :: some (.int v) :: L) st w cn sn = wp d 82 Q 2 (a0 :: some (.int v) :: L) (.int v :: st) w cn sn := w_iload_n d_82_1 rfl
theorem d_82_2 : decode (mB 82) 2 = .ok (.invokevirtual 53, 3) := by decide +kernel
theorem s_82_2 {d : Nat} {Q : wQ} {L : List (Option Value)} {st : List Value} {w : aw} {cn sn : Nat} {v0 : Value} {b : Nat} : wp d 82 Q 2 L (v0 :: .ref b :: st) w cn sn = (kd w b = 8 ∧ catS st ≤ 8 ∧ wpD d 97 [.ref b, v0] w (fun v w' => wp d 82 Q 5 L (v.toList ++ st) w' cn sn)) := w_virtual (As := [v0]) d_82_2 (by decide +kernel : cT (mO 82) 53 = some (0, 97)) rfl (by decide +kernel) rfl (by decide +kernel) rfl
theorem d_82_5 : decode (mB 82) 5 = .ok (.astore_n 3, 1) := by decide +kernel
theorem s_82_5 {d : Nat} {Q : wQ} {L : List (Option Value)} {st : List Value} {w : aw} {cn sn : Nat} {a0 a1 a2 a3 : Option Value} {v : Nat} : wp d 82 Q 5 (a0 :: a1 :: a2 :: a3 :: L) (.ref v :: st) w cn sn = wp d 82 Q 6 (a0 :: a1 :: clr a2 :: some (.ref v) :: L) st w cn sn := w_astore_n d_82_5 (Nat.le_add_left 4 _) rfl
theorem s_82_5n {d : Nat} {Q : wQ} {L : List (Option Value)} {st : List Value} {w : aw} {cn sn : Nat} {a0 a1 a2 a3 : Option Value} : wp d 82 Q 5 (a0 :: a1 :: a2 :: a3 :: L) (.null :: st) w cn sn = wp d 82 Q 6 (a0 :: a1 :: clr a2 :: some .null :: L) st w cn sn := w_astore_nN d_82_5 (Nat.le_add_left 4 _) rfl
theorem d_82_6 : decode (mB 82) 6 = .ok (.aload_n 3, 1) := by decide +kernel
theorem s_82_6 {d : Nat} {Q : wQ} {L : List (Option Value)} {st : List Value} {w : aw} {cn sn : Nat} {a0 a1 a2 : Option Value} {v : Nat} : wp d 82 Q 6 (a0 :: a1 :: a2 :: some (.ref v) :: L) st w cn sn = wp d 82 Q 7 (a0 :: a1 :: a2 :: some (.ref v) :: L) (.ref v :: st) w cn sn := w_aload_n d_82_6 rfl
theorem s_82_6n {d : Nat} {Q : wQ} {L : List (Option Value)} {st : List Value} {w : aw} {cn sn : Nat} {a0 a1 a2 : Option Value} : wp d 82 Q 6 (a0 :: a1 :: a2 :: some .null :: L) st w cn sn = wp d 82 Q 7 (a0 :: a1 :: a2 :: some .null :: L) (.null :: st) w cn sn := w_aload_nN d_82_6 rfl
theorem d_82_7 : decode (mB 82) 7 = .ok (.ifnull 10, 3) := by decide +kernel
theorem s_82_7 {d : Nat} {Q : wQ} {L : List (Option Value)} {st : List Value} {w : aw} {cn sn : Nat} {q : Nat} : wp d 82 Q 7 L (.ref q :: st) w cn sn = wp d 82 Q 10 L st w cn sn := w_ifnull d_82_7 (t := 17) (by decide)
theorem s_82_7n {d : Nat} {Q : wQ} {L : List (Option Value)} {st : List Value} {w : aw} {cn sn : Nat}  : wp d 82 Q 7 L (.null :: st) w cn sn = wp d 82 Q 17 L st w cn sn := w_ifnullN d_82_7 (t := 17) (by decide)
theorem d_82_10 : decode (mB 82) 10 = .ok (.iload_n 2, 1) := by decide +kernel
theorem s_82_10 {d : Nat} {Q : wQ} {L : List (Option Value)} {st : List Value} {w : aw} {cn sn : Nat} {a0 a1 : Option Value} {v : Int32} : wp d 82 Q 10 (a0 :: a1 :: some (.int v) :: L) st w cn sn = wp d 82 Q 11 (a0 :: a1 :: some (.int v) :: L) (.int v :: st) w cn sn := w_iload_n d_82_10 rfl
theorem d_82_11 : decode (mB 82) 11 = .ok (.invokestatic 80, 3) := by decide +kernel
theorem s_82_11 {d : Nat} {Q : wQ} {L : List (Option Value)} {st : List Value} {w : aw} {cn sn : Nat} {v0 : Value} : wp d 82 Q 11 L (v0 :: st) w cn sn = (catS st ≤ 8 ∧ wpD d 99 [v0] w (fun v w' => wp d 82 Q 14 L (v.toList ++ st) w' cn sn)) := w_static (As := [v0]) d_82_11 (by decide +kernel : cT (mO 82) 80 = some (2, 99)) rfl (by decide +kernel) rfl
theorem d_82_14 : decode (mB 82) 14 = .ok (.ifCond .ne 7, 3) := by decide +kernel
theorem s_82_14 {d : Nat} {Q : wQ} {L : List (Option Value)} {st : List Value} {w : aw} {cn sn : Nat} {x : Int32} : wp d 82 Q 14 L (.int x :: st) w cn sn = ((¬ x = 0 → wp d 82 Q 21 L st w cn sn) ∧ (x = 0 → wp d 82 Q 17 L st w cn sn)) := w_ifne d_82_14 (by decide)
theorem d_82_17 : decode (mB 82) 17 = .ok (.iconst (-1), 1) := by decide +kernel
theorem s_82_17 {d : Nat} {Q : wQ} {L : List (Option Value)} {st : List Value} {w : aw} {cn sn : Nat}  : wp d 82 Q 17 L st w cn sn = wp d 82 Q 18 L (.int (-1) :: st) w cn sn := w_iconst d_82_17 (by decide)
theorem d_82_18 : decode (mB 82) 18 = .ok (.goto 9, 3) := by decide +kernel
theorem s_82_18 {d : Nat} {Q : wQ} {L : List (Option Value)} {st : List Value} {w : aw} {cn sn : Nat}  : wp d 82 Q 18 L st w cn sn = wp d 82 Q 27 L st w cn sn := w_goto d_82_18 (by decide)
theorem d_82_21 : decode (mB 82) 21 = .ok (.aload_n 3, 1) := by decide +kernel
theorem s_82_21 {d : Nat} {Q : wQ} {L : List (Option Value)} {st : List Value} {w : aw} {cn sn : Nat} {a0 a1 a2 : Option Value} {v : Nat} : wp d 82 Q 21 (a0 :: a1 :: a2 :: some (.ref v) :: L) st w cn sn = wp d 82 Q 22 (a0 :: a1 :: a2 :: some (.ref v) :: L) (.ref v :: st) w cn sn := w_aload_n d_82_21 rfl
theorem s_82_21n {d : Nat} {Q : wQ} {L : List (Option Value)} {st : List Value} {w : aw} {cn sn : Nat} {a0 a1 a2 : Option Value} : wp d 82 Q 21 (a0 :: a1 :: a2 :: some .null :: L) st w cn sn = wp d 82 Q 22 (a0 :: a1 :: a2 :: some .null :: L) (.null :: st) w cn sn := w_aload_nN d_82_21 rfl
theorem d_82_22 : decode (mB 82) 22 = .ok (.getfield 64, 3) := by decide +kernel
theorem s_82_22 {d : Nat} {Q : wQ} {L : List (Option Value)} {st : List Value} {w : aw} {cn sn : Nat} {a : Nat} : wp d 82 Q 22 L (.ref a :: st) w cn sn = (kd w a = 7 ∧ wp d 82 Q 25 L (fd w 385 a :: st) w cn sn) := w_getfield d_82_22 (by decide +kernel : fT (mO 82) 64 = some (6, 1))
theorem d_82_25 : decode (mB 82) 25 = .ok (.iload_n 2, 1) := by decide +kernel
theorem s_82_25 {d : Nat} {Q : wQ} {L : List (Option Value)} {st : List Value} {w : aw} {cn sn : Nat} {a0 a1 : Option Value} {v : Int32} : wp d 82 Q 25 (a0 :: a1 :: some (.int v) :: L) st w cn sn = wp d 82 Q 26 (a0 :: a1 :: some (.int v) :: L) (.int v :: st) w cn sn := w_iload_n d_82_25 rfl
theorem d_82_26 : decode (mB 82) 26 = .ok (.iaload, 1) := by decide +kernel
theorem s_82_26 {d : Nat} {Q : wQ} {L : List (Option Value)} {st : List Value} {w : aw} {cn sn : Nat} {a : Nat} {i : Int32} : wp d 82 Q 26 L (.int i :: .ref a :: st) w cn sn = ((kd w a = 20 ∨ kd w a = 30) ∧ inR i (ln w a) ∧ wp d 82 Q 27 L (.int (ai w a i.toNatClampNeg) :: st) w cn sn) := wp_row d_82_26 _ _ _ _ _
theorem d_82_27 : decode (mB 82) 27 = .ok (.ireturn, 1) := by decide +kernel
theorem s_82_27 {d : Nat} {Q : wQ} {L : List (Option Value)} {w : aw} {cn sn : Nat} {v : Int32} : wp d 82 Q 27 L [.int v] w cn sn = Q (some (.int v)) w := w_ireturn d_82_27 rfl
theorem d_83_0 : decode (mB 83) 0 = .ok (.aload_n 0, 1) := by decide +kernel
theorem s_83_0 {d : Nat} {Q : wQ} {L : List (Option Value)} {st : List Value} {w : aw} {cn sn : Nat} {v : Nat} : wp d 83 Q 0 (some (.ref v) :: L) st w cn sn = wp d 83 Q 1 (some (.ref v) :: L) (.ref v :: st) w cn sn := w_aload_n d_83_0 rfl
theorem d_83_1 : decode (mB 83) 1 = .ok (.iload_n 1, 1) := by decide +kernel
theorem s_83_1 {d : Nat} {Q : wQ} {L : List (Option Value)} {st : List Value} {w : aw} {cn sn : Nat} {a0 : Option Value} {v : Int32} : wp d 83 Q 1 (a0 :: some (.int v) :: L) st w cn sn = wp d 83 Q 2 (a0 :: some (.int v) :: L) (.int v :: st) w cn sn := w_iload_n d_83_1 rfl
theorem d_83_2 : decode (mB 83) 2 = .ok (.invokevirtual 53, 3) := by decide +kernel
theorem s_83_2 {d : Nat} {Q : wQ} {L : List (Option Value)} {st : List Value} {w : aw} {cn sn : Nat} {v0 : Value} {b : Nat} : wp d 83 Q 2 L (v0 :: .ref b :: st) w cn sn = (kd w b = 8 ∧ catS st ≤ 8 ∧ wpD d 97 [.ref b, v0] w (fun v w' => wp d 83 Q 5 L (v.toList ++ st) w' cn sn)) := w_virtual (As := [v0]) d_83_2 (by decide +kernel : cT (mO 83) 53 = some (0, 97)) rfl (by decide +kernel) rfl (by decide +kernel) rfl
theorem d_83_5 : decode (mB 83) 5 = .ok (.astore 5, 2) := by decide +kernel
theorem s_83_5 {d : Nat} {Q : wQ} {L : List (Option Value)} {st : List Value} {w : aw} {cn sn : Nat} {a0 a1 a2 a3 a4 a5 : Option Value} {v : Nat} : wp d 83 Q 5 (a0 :: a1 :: a2 :: a3 :: a4 :: a5 :: L) (.ref v :: st) w cn sn = wp d 83 Q 7 (a0 :: a1 :: a2 :: a3 :: clr a4 :: some (.ref v) :: L) st w cn sn := w_astore d_83_5 (Nat.le_add_left 6 _) rfl
theorem s_83_5n {d : Nat} {Q : wQ} {L : List (Option Value)} {st : List Value} {w : aw} {cn sn : Nat} {a0 a1 a2 a3 a4 a5 : Option Value} : wp d 83 Q 5 (a0 :: a1 :: a2 :: a3 :: a4 :: a5 :: L) (.null :: st) w cn sn = wp d 83 Q 7 (a0 :: a1 :: a2 :: a3 :: clr a4 :: some .null :: L) st w cn sn := w_astoreN d_83_5 (Nat.le_add_left 6 _) rfl
theorem d_83_7 : decode (mB 83) 7 = .ok (.aload 5, 2) := by decide +kernel
theorem s_83_7 {d : Nat} {Q : wQ} {L : List (Option Value)} {st : List Value} {w : aw} {cn sn : Nat} {a0 a1 a2 a3 a4 : Option Value} {v : Nat} : wp d 83 Q 7 (a0 :: a1 :: a2 :: a3 :: a4 :: some (.ref v) :: L) st w cn sn = wp d 83 Q 9 (a0 :: a1 :: a2 :: a3 :: a4 :: some (.ref v) :: L) (.ref v :: st) w cn sn := w_aload d_83_7 rfl
theorem s_83_7n {d : Nat} {Q : wQ} {L : List (Option Value)} {st : List Value} {w : aw} {cn sn : Nat} {a0 a1 a2 a3 a4 : Option Value} : wp d 83 Q 7 (a0 :: a1 :: a2 :: a3 :: a4 :: some .null :: L) st w cn sn = wp d 83 Q 9 (a0 :: a1 :: a2 :: a3 :: a4 :: some .null :: L) (.null :: st) w cn sn := w_aloadN d_83_7 rfl
theorem d_83_9 : decode (mB 83) 9 = .ok (.ifnull 19, 3) := by decide +kernel
theorem s_83_9 {d : Nat} {Q : wQ} {L : List (Option Value)} {st : List Value} {w : aw} {cn sn : Nat} {q : Nat} : wp d 83 Q 9 L (.ref q :: st) w cn sn = wp d 83 Q 12 L st w cn sn := w_ifnull d_83_9 (t := 28) (by decide)
theorem s_83_9n {d : Nat} {Q : wQ} {L : List (Option Value)} {st : List Value} {w : aw} {cn sn : Nat}  : wp d 83 Q 9 L (.null :: st) w cn sn = wp d 83 Q 28 L st w cn sn := w_ifnullN d_83_9 (t := 28) (by decide)
theorem d_83_12 : decode (mB 83) 12 = .ok (.iload_n 2, 1) := by decide +kernel
theorem s_83_12 {d : Nat} {Q : wQ} {L : List (Option Value)} {st : List Value} {w : aw} {cn sn : Nat} {a0 a1 : Option Value} {v : Int32} : wp d 83 Q 12 (a0 :: a1 :: some (.int v) :: L) st w cn sn = wp d 83 Q 13 (a0 :: a1 :: some (.int v) :: L) (.int v :: st) w cn sn := w_iload_n d_83_12 rfl
theorem d_83_13 : decode (mB 83) 13 = .ok (.iload_n 3, 1) := by decide +kernel
theorem s_83_13 {d : Nat} {Q : wQ} {L : List (Option Value)} {st : List Value} {w : aw} {cn sn : Nat} {a0 a1 a2 : Option Value} {v : Int32} : wp d 83 Q 13 (a0 :: a1 :: a2 :: some (.int v) :: L) st w cn sn = wp d 83 Q 14 (a0 :: a1 :: a2 :: some (.int v) :: L) (.int v :: st) w cn sn := w_iload_n d_83_13 rfl
theorem d_83_14 : decode (mB 83) 14 = .ok (.invokestatic 83, 3) := by decide +kernel
theorem s_83_14 {d : Nat} {Q : wQ} {L : List (Option Value)} {st : List Value} {w : aw} {cn sn : Nat} {v0 v1 : Value} : wp d 83 Q 14 L (v1 :: v0 :: st) w cn sn = (catS st ≤ 8 ∧ wpD d 100 [v0, v1] w (fun v w' => wp d 83 Q 17 L (v.toList ++ st) w' cn sn)) := w_static (As := [v0, v1]) d_83_14 (by decide +kernel : cT (mO 83) 83 = some (2, 100)) rfl (by decide +kernel) rfl
theorem d_83_17 : decode (mB 83) 17 = .ok (.ifCond .eq 11, 3) := by decide +kernel
theorem s_83_17 {d : Nat} {Q : wQ} {L : List (Option Value)} {st : List Value} {w : aw} {cn sn : Nat} {x : Int32} : wp d 83 Q 17 L (.int x :: st) w cn sn = ((x = 0 → wp d 83 Q 28 L st w cn sn) ∧ (¬ x = 0 → wp d 83 Q 20 L st w cn sn)) := w_ifeq d_83_17 (by decide)
theorem d_83_20 : decode (mB 83) 20 = .ok (.iload 4, 2) := by decide +kernel
theorem s_83_20 {d : Nat} {Q : wQ} {L : List (Option Value)} {st : List Value} {w : aw} {cn sn : Nat} {a0 a1 a2 a3 : Option Value} {v : Int32} : wp d 83 Q 20 (a0 :: a1 :: a2 :: a3 :: some (.int v) :: L) st w cn sn = wp d 83 Q 22 (a0 :: a1 :: a2 :: a3 :: some (.int v) :: L) (.int v :: st) w cn sn := w_iload d_83_20 rfl
theorem d_83_22 : decode (mB 83) 22 = .ok (.invokestatic 80, 3) := by decide +kernel
theorem s_83_22 {d : Nat} {Q : wQ} {L : List (Option Value)} {st : List Value} {w : aw} {cn sn : Nat} {v0 : Value} : wp d 83 Q 22 L (v0 :: st) w cn sn = (catS st ≤ 8 ∧ wpD d 99 [v0] w (fun v w' => wp d 83 Q 25 L (v.toList ++ st) w' cn sn)) := w_static (As := [v0]) d_83_22 (by decide +kernel : cT (mO 83) 80 = some (2, 99)) rfl (by decide +kernel) rfl
theorem d_83_25 : decode (mB 83) 25 = .ok (.ifCond .ne 5, 3) := by decide +kernel
theorem s_83_25 {d : Nat} {Q : wQ} {L : List (Option Value)} {st : List Value} {w : aw} {cn sn : Nat} {x : Int32} : wp d 83 Q 25 L (.int x :: st) w cn sn = ((¬ x = 0 → wp d 83 Q 30 L st w cn sn) ∧ (x = 0 → wp d 83 Q 28 L st w cn sn)) := w_ifne d_83_25 (by decide)
theorem d_83_28 : decode (mB 83) 28 = .ok (.iconst (-1), 1) := by decide +kernel
theorem s_83_28 {d : Nat} {Q : wQ} {L : List (Option Value)} {st : List Value} {w : aw} {cn sn : Nat}  : wp d 83 Q 28 L st w cn sn = wp d 83 Q 29 L (.int (-1) :: st) w cn sn := w_iconst d_83_28 (by decide)
theorem d_83_29 : decode (mB 83) 29 = .ok (.ireturn, 1) := by decide +kernel
theorem s_83_29 {d : Nat} {Q : wQ} {L : List (Option Value)} {w : aw} {cn sn : Nat} {v : Int32} : wp d 83 Q 29 L [.int v] w cn sn = Q (some (.int v)) w := w_ireturn d_83_29 rfl
theorem d_83_30 : decode (mB 83) 30 = .ok (.aload 5, 2) := by decide +kernel
theorem s_83_30 {d : Nat} {Q : wQ} {L : List (Option Value)} {st : List Value} {w : aw} {cn sn : Nat} {a0 a1 a2 a3 a4 : Option Value} {v : Nat} : wp d 83 Q 30 (a0 :: a1 :: a2 :: a3 :: a4 :: some (.ref v) :: L) st w cn sn = wp d 83 Q 32 (a0 :: a1 :: a2 :: a3 :: a4 :: some (.ref v) :: L) (.ref v :: st) w cn sn := w_aload d_83_30 rfl
theorem s_83_30n {d : Nat} {Q : wQ} {L : List (Option Value)} {st : List Value} {w : aw} {cn sn : Nat} {a0 a1 a2 a3 a4 : Option Value} : wp d 83 Q 30 (a0 :: a1 :: a2 :: a3 :: a4 :: some .null :: L) st w cn sn = wp d 83 Q 32 (a0 :: a1 :: a2 :: a3 :: a4 :: some .null :: L) (.null :: st) w cn sn := w_aloadN d_83_30 rfl
theorem d_83_32 : decode (mB 83) 32 = .ok (.getfield 87, 3) := by decide +kernel
theorem s_83_32 {d : Nat} {Q : wQ} {L : List (Option Value)} {st : List Value} {w : aw} {cn sn : Nat} {a : Nat} : wp d 83 Q 32 L (.ref a :: st) w cn sn = (kd w a = 7 ∧ wp d 83 Q 35 L (fd w 386 a :: st) w cn sn) := w_getfield d_83_32 (by decide +kernel : fT (mO 83) 87 = some (6, 2))
theorem d_83_35 : decode (mB 83) 35 = .ok (.iload_n 2, 1) := by decide +kernel
theorem s_83_35 {d : Nat} {Q : wQ} {L : List (Option Value)} {st : List Value} {w : aw} {cn sn : Nat} {a0 a1 : Option Value} {v : Int32} : wp d 83 Q 35 (a0 :: a1 :: some (.int v) :: L) st w cn sn = wp d 83 Q 36 (a0 :: a1 :: some (.int v) :: L) (.int v :: st) w cn sn := w_iload_n d_83_35 rfl
theorem d_83_36 : decode (mB 83) 36 = .ok (.sipush 128, 3) := by decide +kernel
theorem s_83_36 {d : Nat} {Q : wQ} {L : List (Option Value)} {st : List Value} {w : aw} {cn sn : Nat}  : wp d 83 Q 36 L st w cn sn = wp d 83 Q 39 L (.int 128 :: st) w cn sn := w_sipush d_83_36 (by decide)
theorem d_83_39 : decode (mB 83) 39 = .ok (.imul, 1) := by decide +kernel
theorem s_83_39 {d : Nat} {Q : wQ} {L : List (Option Value)} {st : List Value} {w : aw} {cn sn : Nat} {a b : Int32} : wp d 83 Q 39 L (.int b :: .int a :: st) w cn sn = wp d 83 Q 40 L (.int (a * b) :: st) w cn sn := wp_row d_83_39 _ _ _ _ _
theorem d_83_40 : decode (mB 83) 40 = .ok (.iload_n 3, 1) := by decide +kernel
theorem s_83_40 {d : Nat} {Q : wQ} {L : List (Option Value)} {st : List Value} {w : aw} {cn sn : Nat} {a0 a1 a2 : Option Value} {v : Int32} : wp d 83 Q 40 (a0 :: a1 :: a2 :: some (.int v) :: L) st w cn sn = wp d 83 Q 41 (a0 :: a1 :: a2 :: some (.int v) :: L) (.int v :: st) w cn sn := w_iload_n d_83_40 rfl
theorem d_83_41 : decode (mB 83) 41 = .ok (.iadd, 1) := by decide +kernel
theorem s_83_41 {d : Nat} {Q : wQ} {L : List (Option Value)} {st : List Value} {w : aw} {cn sn : Nat} {a b : Int32} : wp d 83 Q 41 L (.int b :: .int a :: st) w cn sn = wp d 83 Q 42 L (.int (a + b) :: st) w cn sn := wp_row d_83_41 _ _ _ _ _
theorem d_83_42 : decode (mB 83) 42 = .ok (.iload 4, 2) := by decide +kernel
theorem s_83_42 {d : Nat} {Q : wQ} {L : List (Option Value)} {st : List Value} {w : aw} {cn sn : Nat} {a0 a1 a2 a3 : Option Value} {v : Int32} : wp d 83 Q 42 (a0 :: a1 :: a2 :: a3 :: some (.int v) :: L) st w cn sn = wp d 83 Q 44 (a0 :: a1 :: a2 :: a3 :: some (.int v) :: L) (.int v :: st) w cn sn := w_iload d_83_42 rfl
theorem d_83_44 : decode (mB 83) 44 = .ok (.iastore, 1) := by decide +kernel
theorem s_83_44 {d : Nat} {Q : wQ} {L : List (Option Value)} {st : List Value} {w : aw} {cn sn : Nat} {a : Nat} {i x : Int32} : wp d 83 Q 44 L (.int x :: .int i :: .ref a :: st) w cn sn = (kd w a = 20 ∧ inR i (ln w a) ∧ wp d 83 Q 45 L st (uA w a i.toNatClampNeg x) cn sn) := wp_row d_83_44 _ _ _ _ _
theorem d_83_45 : decode (mB 83) 45 = .ok (.iconst 1, 1) := by decide +kernel
theorem s_83_45 {d : Nat} {Q : wQ} {L : List (Option Value)} {st : List Value} {w : aw} {cn sn : Nat}  : wp d 83 Q 45 L st w cn sn = wp d 83 Q 46 L (.int 1 :: st) w cn sn := w_iconst d_83_45 (by decide)
theorem d_83_46 : decode (mB 83) 46 = .ok (.ireturn, 1) := by decide +kernel
theorem s_83_46 {d : Nat} {Q : wQ} {L : List (Option Value)} {w : aw} {cn sn : Nat} {v : Int32} : wp d 83 Q 46 L [.int v] w cn sn = Q (some (.int v)) w := w_ireturn d_83_46 rfl
theorem d_84_0 : decode (mB 84) 0 = .ok (.aload_n 0, 1) := by decide +kernel
theorem s_84_0 {d : Nat} {Q : wQ} {L : List (Option Value)} {st : List Value} {w : aw} {cn sn : Nat} {v : Nat} : wp d 84 Q 0 (some (.ref v) :: L) st w cn sn = wp d 84 Q 1 (some (.ref v) :: L) (.ref v :: st) w cn sn := w_aload_n d_84_0 rfl
theorem d_84_1 : decode (mB 84) 1 = .ok (.iload_n 1, 1) := by decide +kernel
theorem s_84_1 {d : Nat} {Q : wQ} {L : List (Option Value)} {st : List Value} {w : aw} {cn sn : Nat} {a0 : Option Value} {v : Int32} : wp d 84 Q 1 (a0 :: some (.int v) :: L) st w cn sn = wp d 84 Q 2 (a0 :: some (.int v) :: L) (.int v :: st) w cn sn := w_iload_n d_84_1 rfl
theorem d_84_2 : decode (mB 84) 2 = .ok (.invokevirtual 53, 3) := by decide +kernel
theorem s_84_2 {d : Nat} {Q : wQ} {L : List (Option Value)} {st : List Value} {w : aw} {cn sn : Nat} {v0 : Value} {b : Nat} : wp d 84 Q 2 L (v0 :: .ref b :: st) w cn sn = (kd w b = 8 ∧ catS st ≤ 8 ∧ wpD d 97 [.ref b, v0] w (fun v w' => wp d 84 Q 5 L (v.toList ++ st) w' cn sn)) := w_virtual (As := [v0]) d_84_2 (by decide +kernel : cT (mO 84) 53 = some (0, 97)) rfl (by decide +kernel) rfl (by decide +kernel) rfl
theorem d_84_5 : decode (mB 84) 5 = .ok (.astore 4, 2) := by decide +kernel
theorem s_84_5 {d : Nat} {Q : wQ} {L : List (Option Value)} {st : List Value} {w : aw} {cn sn : Nat} {a0 a1 a2 a3 a4 : Option Value} {v : Nat} : wp d 84 Q 5 (a0 :: a1 :: a2 :: a3 :: a4 :: L) (.ref v :: st) w cn sn = wp d 84 Q 7 (a0 :: a1 :: a2 :: clr a3 :: some (.ref v) :: L) st w cn sn := w_astore d_84_5 (Nat.le_add_left 5 _) rfl
theorem s_84_5n {d : Nat} {Q : wQ} {L : List (Option Value)} {st : List Value} {w : aw} {cn sn : Nat} {a0 a1 a2 a3 a4 : Option Value} : wp d 84 Q 5 (a0 :: a1 :: a2 :: a3 :: a4 :: L) (.null :: st) w cn sn = wp d 84 Q 7 (a0 :: a1 :: a2 :: clr a3 :: some .null :: L) st w cn sn := w_astoreN d_84_5 (Nat.le_add_left 5 _) rfl
theorem d_84_7 : decode (mB 84) 7 = .ok (.aload 4, 2) := by decide +kernel
theorem s_84_7 {d : Nat} {Q : wQ} {L : List (Option Value)} {st : List Value} {w : aw} {cn sn : Nat} {a0 a1 a2 a3 : Option Value} {v : Nat} : wp d 84 Q 7 (a0 :: a1 :: a2 :: a3 :: some (.ref v) :: L) st w cn sn = wp d 84 Q 9 (a0 :: a1 :: a2 :: a3 :: some (.ref v) :: L) (.ref v :: st) w cn sn := w_aload d_84_7 rfl
theorem s_84_7n {d : Nat} {Q : wQ} {L : List (Option Value)} {st : List Value} {w : aw} {cn sn : Nat} {a0 a1 a2 a3 : Option Value} : wp d 84 Q 7 (a0 :: a1 :: a2 :: a3 :: some .null :: L) st w cn sn = wp d 84 Q 9 (a0 :: a1 :: a2 :: a3 :: some .null :: L) (.null :: st) w cn sn := w_aloadN d_84_7 rfl
theorem d_84_9 : decode (mB 84) 9 = .ok (.ifnull 11, 3) := by decide +kernel
theorem s_84_9 {d : Nat} {Q : wQ} {L : List (Option Value)} {st : List Value} {w : aw} {cn sn : Nat} {q : Nat} : wp d 84 Q 9 L (.ref q :: st) w cn sn = wp d 84 Q 12 L st w cn sn := w_ifnull d_84_9 (t := 20) (by decide)
theorem s_84_9n {d : Nat} {Q : wQ} {L : List (Option Value)} {st : List Value} {w : aw} {cn sn : Nat}  : wp d 84 Q 9 L (.null :: st) w cn sn = wp d 84 Q 20 L st w cn sn := w_ifnullN d_84_9 (t := 20) (by decide)
theorem d_84_12 : decode (mB 84) 12 = .ok (.iload_n 2, 1) := by decide +kernel
theorem s_84_12 {d : Nat} {Q : wQ} {L : List (Option Value)} {st : List Value} {w : aw} {cn sn : Nat} {a0 a1 : Option Value} {v : Int32} : wp d 84 Q 12 (a0 :: a1 :: some (.int v) :: L) st w cn sn = wp d 84 Q 13 (a0 :: a1 :: some (.int v) :: L) (.int v :: st) w cn sn := w_iload_n d_84_12 rfl
theorem d_84_13 : decode (mB 84) 13 = .ok (.iload_n 3, 1) := by decide +kernel
theorem s_84_13 {d : Nat} {Q : wQ} {L : List (Option Value)} {st : List Value} {w : aw} {cn sn : Nat} {a0 a1 a2 : Option Value} {v : Int32} : wp d 84 Q 13 (a0 :: a1 :: a2 :: some (.int v) :: L) st w cn sn = wp d 84 Q 14 (a0 :: a1 :: a2 :: some (.int v) :: L) (.int v :: st) w cn sn := w_iload_n d_84_13 rfl
theorem d_84_14 : decode (mB 84) 14 = .ok (.invokestatic 83, 3) := by decide +kernel
theorem s_84_14 {d : Nat} {Q : wQ} {L : List (Option Value)} {st : List Value} {w : aw} {cn sn : Nat} {v0 v1 : Value} : wp d 84 Q 14 L (v1 :: v0 :: st) w cn sn = (catS st ≤ 8 ∧ wpD d 100 [v0, v1] w (fun v w' => wp d 84 Q 17 L (v.toList ++ st) w' cn sn)) := w_static (As := [v0, v1]) d_84_14 (by decide +kernel : cT (mO 84) 83 = some (2, 100)) rfl (by decide +kernel) rfl
theorem d_84_17 : decode (mB 84) 17 = .ok (.ifCond .ne 7, 3) := by decide +kernel
theorem s_84_17 {d : Nat} {Q : wQ} {L : List (Option Value)} {st : List Value} {w : aw} {cn sn : Nat} {x : Int32} : wp d 84 Q 17 L (.int x :: st) w cn sn = ((¬ x = 0 → wp d 84 Q 24 L st w cn sn) ∧ (x = 0 → wp d 84 Q 20 L st w cn sn)) := w_ifne d_84_17 (by decide)
theorem d_84_20 : decode (mB 84) 20 = .ok (.iconst (-1), 1) := by decide +kernel
theorem s_84_20 {d : Nat} {Q : wQ} {L : List (Option Value)} {st : List Value} {w : aw} {cn sn : Nat}  : wp d 84 Q 20 L st w cn sn = wp d 84 Q 21 L (.int (-1) :: st) w cn sn := w_iconst d_84_20 (by decide)
theorem d_84_21 : decode (mB 84) 21 = .ok (.goto 16, 3) := by decide +kernel
theorem s_84_21 {d : Nat} {Q : wQ} {L : List (Option Value)} {st : List Value} {w : aw} {cn sn : Nat}  : wp d 84 Q 21 L st w cn sn = wp d 84 Q 37 L st w cn sn := w_goto d_84_21 (by decide)
theorem d_84_24 : decode (mB 84) 24 = .ok (.aload 4, 2) := by decide +kernel
theorem s_84_24 {d : Nat} {Q : wQ} {L : List (Option Value)} {st : List Value} {w : aw} {cn sn : Nat} {a0 a1 a2 a3 : Option Value} {v : Nat} : wp d 84 Q 24 (a0 :: a1 :: a2 :: a3 :: some (.ref v) :: L) st w cn sn = wp d 84 Q 26 (a0 :: a1 :: a2 :: a3 :: some (.ref v) :: L) (.ref v :: st) w cn sn := w_aload d_84_24 rfl
theorem s_84_24n {d : Nat} {Q : wQ} {L : List (Option Value)} {st : List Value} {w : aw} {cn sn : Nat} {a0 a1 a2 a3 : Option Value} : wp d 84 Q 24 (a0 :: a1 :: a2 :: a3 :: some .null :: L) st w cn sn = wp d 84 Q 26 (a0 :: a1 :: a2 :: a3 :: some .null :: L) (.null :: st) w cn sn := w_aloadN d_84_24 rfl
theorem d_84_26 : decode (mB 84) 26 = .ok (.getfield 87, 3) := by decide +kernel
theorem s_84_26 {d : Nat} {Q : wQ} {L : List (Option Value)} {st : List Value} {w : aw} {cn sn : Nat} {a : Nat} : wp d 84 Q 26 L (.ref a :: st) w cn sn = (kd w a = 7 ∧ wp d 84 Q 29 L (fd w 386 a :: st) w cn sn) := w_getfield d_84_26 (by decide +kernel : fT (mO 84) 87 = some (6, 2))
theorem d_84_29 : decode (mB 84) 29 = .ok (.iload_n 2, 1) := by decide +kernel
theorem s_84_29 {d : Nat} {Q : wQ} {L : List (Option Value)} {st : List Value} {w : aw} {cn sn : Nat} {a0 a1 : Option Value} {v : Int32} : wp d 84 Q 29 (a0 :: a1 :: some (.int v) :: L) st w cn sn = wp d 84 Q 30 (a0 :: a1 :: some (.int v) :: L) (.int v :: st) w cn sn := w_iload_n d_84_29 rfl
theorem d_84_30 : decode (mB 84) 30 = .ok (.sipush 128, 3) := by decide +kernel
theorem s_84_30 {d : Nat} {Q : wQ} {L : List (Option Value)} {st : List Value} {w : aw} {cn sn : Nat}  : wp d 84 Q 30 L st w cn sn = wp d 84 Q 33 L (.int 128 :: st) w cn sn := w_sipush d_84_30 (by decide)
theorem d_84_33 : decode (mB 84) 33 = .ok (.imul, 1) := by decide +kernel
theorem s_84_33 {d : Nat} {Q : wQ} {L : List (Option Value)} {st : List Value} {w : aw} {cn sn : Nat} {a b : Int32} : wp d 84 Q 33 L (.int b :: .int a :: st) w cn sn = wp d 84 Q 34 L (.int (a * b) :: st) w cn sn := wp_row d_84_33 _ _ _ _ _
theorem d_84_34 : decode (mB 84) 34 = .ok (.iload_n 3, 1) := by decide +kernel
theorem s_84_34 {d : Nat} {Q : wQ} {L : List (Option Value)} {st : List Value} {w : aw} {cn sn : Nat} {a0 a1 a2 : Option Value} {v : Int32} : wp d 84 Q 34 (a0 :: a1 :: a2 :: some (.int v) :: L) st w cn sn = wp d 84 Q 35 (a0 :: a1 :: a2 :: some (.int v) :: L) (.int v :: st) w cn sn := w_iload_n d_84_34 rfl
theorem d_84_35 : decode (mB 84) 35 = .ok (.iadd, 1) := by decide +kernel
theorem s_84_35 {d : Nat} {Q : wQ} {L : List (Option Value)} {st : List Value} {w : aw} {cn sn : Nat} {a b : Int32} : wp d 84 Q 35 L (.int b :: .int a :: st) w cn sn = wp d 84 Q 36 L (.int (a + b) :: st) w cn sn := wp_row d_84_35 _ _ _ _ _
theorem d_84_36 : decode (mB 84) 36 = .ok (.iaload, 1) := by decide +kernel
theorem s_84_36 {d : Nat} {Q : wQ} {L : List (Option Value)} {st : List Value} {w : aw} {cn sn : Nat} {a : Nat} {i : Int32} : wp d 84 Q 36 L (.int i :: .ref a :: st) w cn sn = ((kd w a = 20 ∨ kd w a = 30) ∧ inR i (ln w a) ∧ wp d 84 Q 37 L (.int (ai w a i.toNatClampNeg) :: st) w cn sn) := wp_row d_84_36 _ _ _ _ _
theorem d_84_37 : decode (mB 84) 37 = .ok (.ireturn, 1) := by decide +kernel
theorem s_84_37 {d : Nat} {Q : wQ} {L : List (Option Value)} {w : aw} {cn sn : Nat} {v : Int32} : wp d 84 Q 37 L [.int v] w cn sn = Q (some (.int v)) w := w_ireturn d_84_37 rfl
theorem d_85_0 : decode (mB 85) 0 = .ok (.aload_n 0, 1) := by decide +kernel
theorem s_85_0 {d : Nat} {Q : wQ} {L : List (Option Value)} {st : List Value} {w : aw} {cn sn : Nat} {v : Nat} : wp d 85 Q 0 (some (.ref v) :: L) st w cn sn = wp d 85 Q 1 (some (.ref v) :: L) (.ref v :: st) w cn sn := w_aload_n d_85_0 rfl
theorem d_85_1 : decode (mB 85) 1 = .ok (.iload_n 1, 1) := by decide +kernel
theorem s_85_1 {d : Nat} {Q : wQ} {L : List (Option Value)} {st : List Value} {w : aw} {cn sn : Nat} {a0 : Option Value} {v : Int32} : wp d 85 Q 1 (a0 :: some (.int v) :: L) st w cn sn = wp d 85 Q 2 (a0 :: some (.int v) :: L) (.int v :: st) w cn sn := w_iload_n d_85_1 rfl
theorem d_85_2 : decode (mB 85) 2 = .ok (.invokevirtual 53, 3) := by decide +kernel
theorem s_85_2 {d : Nat} {Q : wQ} {L : List (Option Value)} {st : List Value} {w : aw} {cn sn : Nat} {v0 : Value} {b : Nat} : wp d 85 Q 2 L (v0 :: .ref b :: st) w cn sn = (kd w b = 8 ∧ catS st ≤ 8 ∧ wpD d 97 [.ref b, v0] w (fun v w' => wp d 85 Q 5 L (v.toList ++ st) w' cn sn)) := w_virtual (As := [v0]) d_85_2 (by decide +kernel : cT (mO 85) 53 = some (0, 97)) rfl (by decide +kernel) rfl (by decide +kernel) rfl
theorem d_85_5 : decode (mB 85) 5 = .ok (.astore_n 3, 1) := by decide +kernel
theorem s_85_5 {d : Nat} {Q : wQ} {L : List (Option Value)} {st : List Value} {w : aw} {cn sn : Nat} {a0 a1 a2 a3 : Option Value} {v : Nat} : wp d 85 Q 5 (a0 :: a1 :: a2 :: a3 :: L) (.ref v :: st) w cn sn = wp d 85 Q 6 (a0 :: a1 :: clr a2 :: some (.ref v) :: L) st w cn sn := w_astore_n d_85_5 (Nat.le_add_left 4 _) rfl
theorem s_85_5n {d : Nat} {Q : wQ} {L : List (Option Value)} {st : List Value} {w : aw} {cn sn : Nat} {a0 a1 a2 a3 : Option Value} : wp d 85 Q 5 (a0 :: a1 :: a2 :: a3 :: L) (.null :: st) w cn sn = wp d 85 Q 6 (a0 :: a1 :: clr a2 :: some .null :: L) st w cn sn := w_astore_nN d_85_5 (Nat.le_add_left 4 _) rfl
theorem d_85_6 : decode (mB 85) 6 = .ok (.aload_n 3, 1) := by decide +kernel
theorem s_85_6 {d : Nat} {Q : wQ} {L : List (Option Value)} {st : List Value} {w : aw} {cn sn : Nat} {a0 a1 a2 : Option Value} {v : Nat} : wp d 85 Q 6 (a0 :: a1 :: a2 :: some (.ref v) :: L) st w cn sn = wp d 85 Q 7 (a0 :: a1 :: a2 :: some (.ref v) :: L) (.ref v :: st) w cn sn := w_aload_n d_85_6 rfl
theorem s_85_6n {d : Nat} {Q : wQ} {L : List (Option Value)} {st : List Value} {w : aw} {cn sn : Nat} {a0 a1 a2 : Option Value} : wp d 85 Q 6 (a0 :: a1 :: a2 :: some .null :: L) st w cn sn = wp d 85 Q 7 (a0 :: a1 :: a2 :: some .null :: L) (.null :: st) w cn sn := w_aload_nN d_85_6 rfl
theorem d_85_7 : decode (mB 85) 7 = .ok (.ifnull 10, 3) := by decide +kernel
theorem s_85_7 {d : Nat} {Q : wQ} {L : List (Option Value)} {st : List Value} {w : aw} {cn sn : Nat} {q : Nat} : wp d 85 Q 7 L (.ref q :: st) w cn sn = wp d 85 Q 10 L st w cn sn := w_ifnull d_85_7 (t := 17) (by decide)
theorem s_85_7n {d : Nat} {Q : wQ} {L : List (Option Value)} {st : List Value} {w : aw} {cn sn : Nat}  : wp d 85 Q 7 L (.null :: st) w cn sn = wp d 85 Q 17 L st w cn sn := w_ifnullN d_85_7 (t := 17) (by decide)
theorem d_85_10 : decode (mB 85) 10 = .ok (.iload_n 2, 1) := by decide +kernel
theorem s_85_10 {d : Nat} {Q : wQ} {L : List (Option Value)} {st : List Value} {w : aw} {cn sn : Nat} {a0 a1 : Option Value} {v : Int32} : wp d 85 Q 10 (a0 :: a1 :: some (.int v) :: L) st w cn sn = wp d 85 Q 11 (a0 :: a1 :: some (.int v) :: L) (.int v :: st) w cn sn := w_iload_n d_85_10 rfl
theorem d_85_11 : decode (mB 85) 11 = .ok (.invokestatic 80, 3) := by decide +kernel
theorem s_85_11 {d : Nat} {Q : wQ} {L : List (Option Value)} {st : List Value} {w : aw} {cn sn : Nat} {v0 : Value} : wp d 85 Q 11 L (v0 :: st) w cn sn = (catS st ≤ 8 ∧ wpD d 99 [v0] w (fun v w' => wp d 85 Q 14 L (v.toList ++ st) w' cn sn)) := w_static (As := [v0]) d_85_11 (by decide +kernel : cT (mO 85) 80 = some (2, 99)) rfl (by decide +kernel) rfl
theorem d_85_14 : decode (mB 85) 14 = .ok (.ifCond .ne 5, 3) := by decide +kernel
theorem s_85_14 {d : Nat} {Q : wQ} {L : List (Option Value)} {st : List Value} {w : aw} {cn sn : Nat} {x : Int32} : wp d 85 Q 14 L (.int x :: st) w cn sn = ((¬ x = 0 → wp d 85 Q 19 L st w cn sn) ∧ (x = 0 → wp d 85 Q 17 L st w cn sn)) := w_ifne d_85_14 (by decide)
theorem d_85_17 : decode (mB 85) 17 = .ok (.iconst (-1), 1) := by decide +kernel
theorem s_85_17 {d : Nat} {Q : wQ} {L : List (Option Value)} {st : List Value} {w : aw} {cn sn : Nat}  : wp d 85 Q 17 L st w cn sn = wp d 85 Q 18 L (.int (-1) :: st) w cn sn := w_iconst d_85_17 (by decide)
theorem d_85_18 : decode (mB 85) 18 = .ok (.ireturn, 1) := by decide +kernel
theorem s_85_18 {d : Nat} {Q : wQ} {L : List (Option Value)} {w : aw} {cn sn : Nat} {v : Int32} : wp d 85 Q 18 L [.int v] w cn sn = Q (some (.int v)) w := w_ireturn d_85_18 rfl
theorem d_85_19 : decode (mB 85) 19 = .ok (.aload_n 3, 1) := by decide +kernel
theorem s_85_19 {d : Nat} {Q : wQ} {L : List (Option Value)} {st : List Value} {w : aw} {cn sn : Nat} {a0 a1 a2 : Option Value} {v : Nat} : wp d 85 Q 19 (a0 :: a1 :: a2 :: some (.ref v) :: L) st w cn sn = wp d 85 Q 20 (a0 :: a1 :: a2 :: some (.ref v) :: L) (.ref v :: st) w cn sn := w_aload_n d_85_19 rfl
theorem s_85_19n {d : Nat} {Q : wQ} {L : List (Option Value)} {st : List Value} {w : aw} {cn sn : Nat} {a0 a1 a2 : Option Value} : wp d 85 Q 19 (a0 :: a1 :: a2 :: some .null :: L) st w cn sn = wp d 85 Q 20 (a0 :: a1 :: a2 :: some .null :: L) (.null :: st) w cn sn := w_aload_nN d_85_19 rfl
theorem d_85_20 : decode (mB 85) 20 = .ok (.iload_n 2, 1) := by decide +kernel
theorem s_85_20 {d : Nat} {Q : wQ} {L : List (Option Value)} {st : List Value} {w : aw} {cn sn : Nat} {a0 a1 : Option Value} {v : Int32} : wp d 85 Q 20 (a0 :: a1 :: some (.int v) :: L) st w cn sn = wp d 85 Q 21 (a0 :: a1 :: some (.int v) :: L) (.int v :: st) w cn sn := w_iload_n d_85_20 rfl
theorem d_85_21 : decode (mB 85) 21 = .ok (.putfield 90, 3) := by decide +kernel
theorem s_85_21 {d : Nat} {Q : wQ} {L : List (Option Value)} {st : List Value} {w : aw} {cn sn : Nat} {x : Int32} {a : Nat} : wp d 85 Q 21 L (.int x :: .ref a :: st) w cn sn = (kd w a = 7 ∧ wp d 85 Q 24 L st (uF w 393 a (.int x)) cn sn) := w_putfield d_85_21 (by decide +kernel : fT (mO 85) 90 = some (6, 9)) (by decide +kernel) ok_int
theorem d_85_24 : decode (mB 85) 24 = .ok (.iconst 1, 1) := by decide +kernel
theorem s_85_24 {d : Nat} {Q : wQ} {L : List (Option Value)} {st : List Value} {w : aw} {cn sn : Nat}  : wp d 85 Q 24 L st w cn sn = wp d 85 Q 25 L (.int 1 :: st) w cn sn := w_iconst d_85_24 (by decide)
theorem d_85_25 : decode (mB 85) 25 = .ok (.ireturn, 1) := by decide +kernel
theorem s_85_25 {d : Nat} {Q : wQ} {L : List (Option Value)} {w : aw} {cn sn : Nat} {v : Int32} : wp d 85 Q 25 L [.int v] w cn sn = Q (some (.int v)) w := w_ireturn d_85_25 rfl
theorem d_86_0 : decode (mB 86) 0 = .ok (.aload_n 0, 1) := by decide +kernel
theorem s_86_0 {d : Nat} {Q : wQ} {L : List (Option Value)} {st : List Value} {w : aw} {cn sn : Nat} {v : Nat} : wp d 86 Q 0 (some (.ref v) :: L) st w cn sn = wp d 86 Q 1 (some (.ref v) :: L) (.ref v :: st) w cn sn := w_aload_n d_86_0 rfl
theorem d_86_1 : decode (mB 86) 1 = .ok (.iload_n 1, 1) := by decide +kernel
theorem s_86_1 {d : Nat} {Q : wQ} {L : List (Option Value)} {st : List Value} {w : aw} {cn sn : Nat} {a0 : Option Value} {v : Int32} : wp d 86 Q 1 (a0 :: some (.int v) :: L) st w cn sn = wp d 86 Q 2 (a0 :: some (.int v) :: L) (.int v :: st) w cn sn := w_iload_n d_86_1 rfl
theorem d_86_2 : decode (mB 86) 2 = .ok (.invokevirtual 53, 3) := by decide +kernel
theorem s_86_2 {d : Nat} {Q : wQ} {L : List (Option Value)} {st : List Value} {w : aw} {cn sn : Nat} {v0 : Value} {b : Nat} : wp d 86 Q 2 L (v0 :: .ref b :: st) w cn sn = (kd w b = 8 ∧ catS st ≤ 8 ∧ wpD d 97 [.ref b, v0] w (fun v w' => wp d 86 Q 5 L (v.toList ++ st) w' cn sn)) := w_virtual (As := [v0]) d_86_2 (by decide +kernel : cT (mO 86) 53 = some (0, 97)) rfl (by decide +kernel) rfl (by decide +kernel) rfl
theorem d_86_5 : decode (mB 86) 5 = .ok (.astore_n 3, 1) := by decide +kernel
theorem s_86_5 {d : Nat} {Q : wQ} {L : List (Option Value)} {st : List Value} {w : aw} {cn sn : Nat} {a0 a1 a2 a3 : Option Value} {v : Nat} : wp d 86 Q 5 (a0 :: a1 :: a2 :: a3 :: L) (.ref v :: st) w cn sn = wp d 86 Q 6 (a0 :: a1 :: clr a2 :: some (.ref v) :: L) st w cn sn := w_astore_n d_86_5 (Nat.le_add_left 4 _) rfl
theorem s_86_5n {d : Nat} {Q : wQ} {L : List (Option Value)} {st : List Value} {w : aw} {cn sn : Nat} {a0 a1 a2 a3 : Option Value} : wp d 86 Q 5 (a0 :: a1 :: a2 :: a3 :: L) (.null :: st) w cn sn = wp d 86 Q 6 (a0 :: a1 :: clr a2 :: some .null :: L) st w cn sn := w_astore_nN d_86_5 (Nat.le_add_left 4 _) rfl
theorem d_86_6 : decode (mB 86) 6 = .ok (.aload_n 0, 1) := by decide +kernel
theorem s_86_6 {d : Nat} {Q : wQ} {L : List (Option Value)} {st : List Value} {w : aw} {cn sn : Nat} {v : Nat} : wp d 86 Q 6 (some (.ref v) :: L) st w cn sn = wp d 86 Q 7 (some (.ref v) :: L) (.ref v :: st) w cn sn := w_aload_n d_86_6 rfl
theorem d_86_7 : decode (mB 86) 7 = .ok (.getfield 25, 3) := by decide +kernel
theorem s_86_7 {d : Nat} {Q : wQ} {L : List (Option Value)} {st : List Value} {w : aw} {cn sn : Nat} {a : Nat} : wp d 86 Q 7 L (.ref a :: st) w cn sn = (kd w a = 8 ∧ wp d 86 Q 10 L (fd w 450 a :: st) w cn sn) := w_getfield d_86_7 (by decide +kernel : fT (mO 86) 25 = some (7, 2))
theorem d_86_10 : decode (mB 86) 10 = .ok (.ifnull 14, 3) := by decide +kernel
theorem s_86_10 {d : Nat} {Q : wQ} {L : List (Option Value)} {st : List Value} {w : aw} {cn sn : Nat} {q : Nat} : wp d 86 Q 10 L (.ref q :: st) w cn sn = wp d 86 Q 13 L st w cn sn := w_ifnull d_86_10 (t := 24) (by decide)
theorem s_86_10n {d : Nat} {Q : wQ} {L : List (Option Value)} {st : List Value} {w : aw} {cn sn : Nat}  : wp d 86 Q 10 L (.null :: st) w cn sn = wp d 86 Q 24 L st w cn sn := w_ifnullN d_86_10 (t := 24) (by decide)
theorem d_86_13 : decode (mB 86) 13 = .ok (.aload_n 3, 1) := by decide +kernel
theorem s_86_13 {d : Nat} {Q : wQ} {L : List (Option Value)} {st : List Value} {w : aw} {cn sn : Nat} {a0 a1 a2 : Option Value} {v : Nat} : wp d 86 Q 13 (a0 :: a1 :: a2 :: some (.ref v) :: L) st w cn sn = wp d 86 Q 14 (a0 :: a1 :: a2 :: some (.ref v) :: L) (.ref v :: st) w cn sn := w_aload_n d_86_13 rfl
theorem s_86_13n {d : Nat} {Q : wQ} {L : List (Option Value)} {st : List Value} {w : aw} {cn sn : Nat} {a0 a1 a2 : Option Value} : wp d 86 Q 13 (a0 :: a1 :: a2 :: some .null :: L) st w cn sn = wp d 86 Q 14 (a0 :: a1 :: a2 :: some .null :: L) (.null :: st) w cn sn := w_aload_nN d_86_13 rfl
theorem d_86_14 : decode (mB 86) 14 = .ok (.ifnull 10, 3) := by decide +kernel
theorem s_86_14 {d : Nat} {Q : wQ} {L : List (Option Value)} {st : List Value} {w : aw} {cn sn : Nat} {q : Nat} : wp d 86 Q 14 L (.ref q :: st) w cn sn = wp d 86 Q 17 L st w cn sn := w_ifnull d_86_14 (t := 24) (by decide)
theorem s_86_14n {d : Nat} {Q : wQ} {L : List (Option Value)} {st : List Value} {w : aw} {cn sn : Nat}  : wp d 86 Q 14 L (.null :: st) w cn sn = wp d 86 Q 24 L st w cn sn := w_ifnullN d_86_14 (t := 24) (by decide)
theorem d_86_17 : decode (mB 86) 17 = .ok (.iload_n 2, 1) := by decide +kernel
theorem s_86_17 {d : Nat} {Q : wQ} {L : List (Option Value)} {st : List Value} {w : aw} {cn sn : Nat} {a0 a1 : Option Value} {v : Int32} : wp d 86 Q 17 (a0 :: a1 :: some (.int v) :: L) st w cn sn = wp d 86 Q 18 (a0 :: a1 :: some (.int v) :: L) (.int v :: st) w cn sn := w_iload_n d_86_17 rfl
theorem d_86_18 : decode (mB 86) 18 = .ok (.invokestatic 80, 3) := by decide +kernel
theorem s_86_18 {d : Nat} {Q : wQ} {L : List (Option Value)} {st : List Value} {w : aw} {cn sn : Nat} {v0 : Value} : wp d 86 Q 18 L (v0 :: st) w cn sn = (catS st ≤ 8 ∧ wpD d 99 [v0] w (fun v w' => wp d 86 Q 21 L (v.toList ++ st) w' cn sn)) := w_static (As := [v0]) d_86_18 (by decide +kernel : cT (mO 86) 80 = some (2, 99)) rfl (by decide +kernel) rfl
theorem d_86_21 : decode (mB 86) 21 = .ok (.ifCond .ne 5, 3) := by decide +kernel
theorem s_86_21 {d : Nat} {Q : wQ} {L : List (Option Value)} {st : List Value} {w : aw} {cn sn : Nat} {x : Int32} : wp d 86 Q 21 L (.int x :: st) w cn sn = ((¬ x = 0 → wp d 86 Q 26 L st w cn sn) ∧ (x = 0 → wp d 86 Q 24 L st w cn sn)) := w_ifne d_86_21 (by decide)
theorem d_86_24 : decode (mB 86) 24 = .ok (.iconst (-1), 1) := by decide +kernel
theorem s_86_24 {d : Nat} {Q : wQ} {L : List (Option Value)} {st : List Value} {w : aw} {cn sn : Nat}  : wp d 86 Q 24 L st w cn sn = wp d 86 Q 25 L (.int (-1) :: st) w cn sn := w_iconst d_86_24 (by decide)
theorem d_86_25 : decode (mB 86) 25 = .ok (.ireturn, 1) := by decide +kernel
theorem s_86_25 {d : Nat} {Q : wQ} {L : List (Option Value)} {w : aw} {cn sn : Nat} {v : Int32} : wp d 86 Q 25 L [.int v] w cn sn = Q (some (.int v)) w := w_ireturn d_86_25 rfl
theorem d_86_26 : decode (mB 86) 26 = .ok (.aload_n 3, 1) := by decide +kernel
theorem s_86_26 {d : Nat} {Q : wQ} {L : List (Option Value)} {st : List Value} {w : aw} {cn sn : Nat} {a0 a1 a2 : Option Value} {v : Nat} : wp d 86 Q 26 (a0 :: a1 :: a2 :: some (.ref v) :: L) st w cn sn = wp d 86 Q 27 (a0 :: a1 :: a2 :: some (.ref v) :: L) (.ref v :: st) w cn sn := w_aload_n d_86_26 rfl
theorem s_86_26n {d : Nat} {Q : wQ} {L : List (Option Value)} {st : List Value} {w : aw} {cn sn : Nat} {a0 a1 a2 : Option Value} : wp d 86 Q 26 (a0 :: a1 :: a2 :: some .null :: L) st w cn sn = wp d 86 Q 27 (a0 :: a1 :: a2 :: some .null :: L) (.null :: st) w cn sn := w_aload_nN d_86_26 rfl
theorem d_86_27 : decode (mB 86) 27 = .ok (.getfield 93, 3) := by decide +kernel
theorem s_86_27 {d : Nat} {Q : wQ} {L : List (Option Value)} {st : List Value} {w : aw} {cn sn : Nat} {a : Nat} : wp d 86 Q 27 L (.ref a :: st) w cn sn = (kd w a = 7 ∧ wp d 86 Q 30 L (fd w 394 a :: st) w cn sn) := w_getfield d_86_27 (by decide +kernel : fT (mO 86) 93 = some (6, 10))
theorem d_86_30 : decode (mB 86) 30 = .ok (.ifCond .eq 5, 3) := by decide +kernel
theorem s_86_30 {d : Nat} {Q : wQ} {L : List (Option Value)} {st : List Value} {w : aw} {cn sn : Nat} {x : Int32} : wp d 86 Q 30 L (.int x :: st) w cn sn = ((x = 0 → wp d 86 Q 35 L st w cn sn) ∧ (¬ x = 0 → wp d 86 Q 33 L st w cn sn)) := w_ifeq d_86_30 (by decide)
theorem d_86_33 : decode (mB 86) 33 = .ok (.iconst 0, 1) := by decide +kernel
theorem s_86_33 {d : Nat} {Q : wQ} {L : List (Option Value)} {st : List Value} {w : aw} {cn sn : Nat}  : wp d 86 Q 33 L st w cn sn = wp d 86 Q 34 L (.int 0 :: st) w cn sn := w_iconst d_86_33 (by decide)
theorem d_86_34 : decode (mB 86) 34 = .ok (.ireturn, 1) := by decide +kernel
theorem s_86_34 {d : Nat} {Q : wQ} {L : List (Option Value)} {w : aw} {cn sn : Nat} {v : Int32} : wp d 86 Q 34 L [.int v] w cn sn = Q (some (.int v)) w := w_ireturn d_86_34 rfl
theorem d_86_35 : decode (mB 86) 35 = .ok (.aload_n 3, 1) := by decide +kernel
theorem s_86_35 {d : Nat} {Q : wQ} {L : List (Option Value)} {st : List Value} {w : aw} {cn sn : Nat} {a0 a1 a2 : Option Value} {v : Nat} : wp d 86 Q 35 (a0 :: a1 :: a2 :: some (.ref v) :: L) st w cn sn = wp d 86 Q 36 (a0 :: a1 :: a2 :: some (.ref v) :: L) (.ref v :: st) w cn sn := w_aload_n d_86_35 rfl
theorem s_86_35n {d : Nat} {Q : wQ} {L : List (Option Value)} {st : List Value} {w : aw} {cn sn : Nat} {a0 a1 a2 : Option Value} : wp d 86 Q 35 (a0 :: a1 :: a2 :: some .null :: L) st w cn sn = wp d 86 Q 36 (a0 :: a1 :: a2 :: some .null :: L) (.null :: st) w cn sn := w_aload_nN d_86_35 rfl
theorem d_86_36 : decode (mB 86) 36 = .ok (.iload_n 2, 1) := by decide +kernel
theorem s_86_36 {d : Nat} {Q : wQ} {L : List (Option Value)} {st : List Value} {w : aw} {cn sn : Nat} {a0 a1 : Option Value} {v : Int32} : wp d 86 Q 36 (a0 :: a1 :: some (.int v) :: L) st w cn sn = wp d 86 Q 37 (a0 :: a1 :: some (.int v) :: L) (.int v :: st) w cn sn := w_iload_n d_86_36 rfl
theorem d_86_37 : decode (mB 86) 37 = .ok (.putfield 96, 3) := by decide +kernel
theorem s_86_37 {d : Nat} {Q : wQ} {L : List (Option Value)} {st : List Value} {w : aw} {cn sn : Nat} {x : Int32} {a : Nat} : wp d 86 Q 37 L (.int x :: .ref a :: st) w cn sn = (kd w a = 7 ∧ wp d 86 Q 40 L st (uF w 390 a (.int x)) cn sn) := w_putfield d_86_37 (by decide +kernel : fT (mO 86) 96 = some (6, 6)) (by decide +kernel) ok_int
theorem d_86_40 : decode (mB 86) 40 = .ok (.aload_n 0, 1) := by decide +kernel
theorem s_86_40 {d : Nat} {Q : wQ} {L : List (Option Value)} {st : List Value} {w : aw} {cn sn : Nat} {v : Nat} : wp d 86 Q 40 (some (.ref v) :: L) st w cn sn = wp d 86 Q 41 (some (.ref v) :: L) (.ref v :: st) w cn sn := w_aload_n d_86_40 rfl
theorem d_86_41 : decode (mB 86) 41 = .ok (.getfield 25, 3) := by decide +kernel
theorem s_86_41 {d : Nat} {Q : wQ} {L : List (Option Value)} {st : List Value} {w : aw} {cn sn : Nat} {a : Nat} : wp d 86 Q 41 L (.ref a :: st) w cn sn = (kd w a = 8 ∧ wp d 86 Q 44 L (fd w 450 a :: st) w cn sn) := w_getfield d_86_41 (by decide +kernel : fT (mO 86) 25 = some (7, 2))
theorem d_86_44 : decode (mB 86) 44 = .ok (.aload_n 3, 1) := by decide +kernel
theorem s_86_44 {d : Nat} {Q : wQ} {L : List (Option Value)} {st : List Value} {w : aw} {cn sn : Nat} {a0 a1 a2 : Option Value} {v : Nat} : wp d 86 Q 44 (a0 :: a1 :: a2 :: some (.ref v) :: L) st w cn sn = wp d 86 Q 45 (a0 :: a1 :: a2 :: some (.ref v) :: L) (.ref v :: st) w cn sn := w_aload_n d_86_44 rfl
theorem s_86_44n {d : Nat} {Q : wQ} {L : List (Option Value)} {st : List Value} {w : aw} {cn sn : Nat} {a0 a1 a2 : Option Value} : wp d 86 Q 44 (a0 :: a1 :: a2 :: some .null :: L) st w cn sn = wp d 86 Q 45 (a0 :: a1 :: a2 :: some .null :: L) (.null :: st) w cn sn := w_aload_nN d_86_44 rfl
theorem d_86_45 : decode (mB 86) 45 = .ok (.invokevirtual 99, 3) := by decide +kernel
theorem s_86_45 {d : Nat} {Q : wQ} {L : List (Option Value)} {st : List Value} {w : aw} {cn sn : Nat} {v0 : Value} {b : Nat} : wp d 86 Q 45 L (v0 :: .ref b :: st) w cn sn = (kd w b = 2 ∧ catS st ≤ 8 ∧ wpD d 14 [.ref b, v0] w (fun v w' => wp d 86 Q 48 L (v.toList ++ st) w' cn sn)) := w_virtual (As := [v0]) d_86_45 (by decide +kernel : cT (mO 86) 99 = some (0, 14)) rfl (by decide +kernel) rfl (by decide +kernel) rfl
theorem d_86_48 : decode (mB 86) 48 = .ok (.aload_n 0, 1) := by decide +kernel
theorem s_86_48 {d : Nat} {Q : wQ} {L : List (Option Value)} {st : List Value} {w : aw} {cn sn : Nat} {v : Nat} : wp d 86 Q 48 (some (.ref v) :: L) st w cn sn = wp d 86 Q 49 (some (.ref v) :: L) (.ref v :: st) w cn sn := w_aload_n d_86_48 rfl
theorem d_86_49 : decode (mB 86) 49 = .ok (.getfield 25, 3) := by decide +kernel
theorem s_86_49 {d : Nat} {Q : wQ} {L : List (Option Value)} {st : List Value} {w : aw} {cn sn : Nat} {a : Nat} : wp d 86 Q 49 L (.ref a :: st) w cn sn = (kd w a = 8 ∧ wp d 86 Q 52 L (fd w 450 a :: st) w cn sn) := w_getfield d_86_49 (by decide +kernel : fT (mO 86) 25 = some (7, 2))
theorem d_86_52 : decode (mB 86) 52 = .ok (.invokevirtual 103, 3) := by decide +kernel
theorem s_86_52 {d : Nat} {Q : wQ} {L : List (Option Value)} {st : List Value} {w : aw} {cn sn : Nat} {b : Nat} : wp d 86 Q 52 L (.ref b :: st) w cn sn = (kd w b = 2 ∧ catS st ≤ 8 ∧ wpD d 15 [.ref b] w (fun v w' => wp d 86 Q 55 L (v.toList ++ st) w' cn sn)) := w_virtual (As := []) d_86_52 (by decide +kernel : cT (mO 86) 103 = some (0, 15)) rfl (by decide +kernel) rfl (by decide +kernel) rfl
theorem d_86_55 : decode (mB 86) 55 = .ok (.iconst 1, 1) := by decide +kernel
theorem s_86_55 {d : Nat} {Q : wQ} {L : List (Option Value)} {st : List Value} {w : aw} {cn sn : Nat}  : wp d 86 Q 55 L st w cn sn = wp d 86 Q 56 L (.int 1 :: st) w cn sn := w_iconst d_86_55 (by decide)
theorem d_86_56 : decode (mB 86) 56 = .ok (.ireturn, 1) := by decide +kernel
theorem s_86_56 {d : Nat} {Q : wQ} {L : List (Option Value)} {w : aw} {cn sn : Nat} {v : Int32} : wp d 86 Q 56 L [.int v] w cn sn = Q (some (.int v)) w := w_ireturn d_86_56 rfl
theorem d_87_0 : decode (mB 87) 0 = .ok (.aload_n 0, 1) := by decide +kernel
theorem s_87_0 {d : Nat} {Q : wQ} {L : List (Option Value)} {st : List Value} {w : aw} {cn sn : Nat} {v : Nat} : wp d 87 Q 0 (some (.ref v) :: L) st w cn sn = wp d 87 Q 1 (some (.ref v) :: L) (.ref v :: st) w cn sn := w_aload_n d_87_0 rfl
theorem d_87_1 : decode (mB 87) 1 = .ok (.iload_n 1, 1) := by decide +kernel
theorem s_87_1 {d : Nat} {Q : wQ} {L : List (Option Value)} {st : List Value} {w : aw} {cn sn : Nat} {a0 : Option Value} {v : Int32} : wp d 87 Q 1 (a0 :: some (.int v) :: L) st w cn sn = wp d 87 Q 2 (a0 :: some (.int v) :: L) (.int v :: st) w cn sn := w_iload_n d_87_1 rfl
theorem d_87_2 : decode (mB 87) 2 = .ok (.invokevirtual 53, 3) := by decide +kernel
theorem s_87_2 {d : Nat} {Q : wQ} {L : List (Option Value)} {st : List Value} {w : aw} {cn sn : Nat} {v0 : Value} {b : Nat} : wp d 87 Q 2 L (v0 :: .ref b :: st) w cn sn = (kd w b = 8 ∧ catS st ≤ 8 ∧ wpD d 97 [.ref b, v0] w (fun v w' => wp d 87 Q 5 L (v.toList ++ st) w' cn sn)) := w_virtual (As := [v0]) d_87_2 (by decide +kernel : cT (mO 87) 53 = some (0, 97)) rfl (by decide +kernel) rfl (by decide +kernel) rfl
theorem d_87_5 : decode (mB 87) 5 = .ok (.astore_n 3, 1) := by decide +kernel
theorem s_87_5 {d : Nat} {Q : wQ} {L : List (Option Value)} {st : List Value} {w : aw} {cn sn : Nat} {a0 a1 a2 a3 : Option Value} {v : Nat} : wp d 87 Q 5 (a0 :: a1 :: a2 :: a3 :: L) (.ref v :: st) w cn sn = wp d 87 Q 6 (a0 :: a1 :: clr a2 :: some (.ref v) :: L) st w cn sn := w_astore_n d_87_5 (Nat.le_add_left 4 _) rfl
theorem s_87_5n {d : Nat} {Q : wQ} {L : List (Option Value)} {st : List Value} {w : aw} {cn sn : Nat} {a0 a1 a2 a3 : Option Value} : wp d 87 Q 5 (a0 :: a1 :: a2 :: a3 :: L) (.null :: st) w cn sn = wp d 87 Q 6 (a0 :: a1 :: clr a2 :: some .null :: L) st w cn sn := w_astore_nN d_87_5 (Nat.le_add_left 4 _) rfl
theorem d_87_6 : decode (mB 87) 6 = .ok (.aload_n 0, 1) := by decide +kernel
theorem s_87_6 {d : Nat} {Q : wQ} {L : List (Option Value)} {st : List Value} {w : aw} {cn sn : Nat} {v : Nat} : wp d 87 Q 6 (some (.ref v) :: L) st w cn sn = wp d 87 Q 7 (some (.ref v) :: L) (.ref v :: st) w cn sn := w_aload_n d_87_6 rfl
theorem d_87_7 : decode (mB 87) 7 = .ok (.getfield 25, 3) := by decide +kernel
theorem s_87_7 {d : Nat} {Q : wQ} {L : List (Option Value)} {st : List Value} {w : aw} {cn sn : Nat} {a : Nat} : wp d 87 Q 7 L (.ref a :: st) w cn sn = (kd w a = 8 ∧ wp d 87 Q 10 L (fd w 450 a :: st) w cn sn) := w_getfield d_87_7 (by decide +kernel : fT (mO 87) 25 = some (7, 2))
theorem d_87_10 : decode (mB 87) 10 = .ok (.ifnull 18, 3) := by decide +kernel
theorem s_87_10 {d : Nat} {Q : wQ} {L : List (Option Value)} {st : List Value} {w : aw} {cn sn : Nat} {q : Nat} : wp d 87 Q 10 L (.ref q :: st) w cn sn = wp d 87 Q 13 L st w cn sn := w_ifnull d_87_10 (t := 28) (by decide)
theorem s_87_10n {d : Nat} {Q : wQ} {L : List (Option Value)} {st : List Value} {w : aw} {cn sn : Nat}  : wp d 87 Q 10 L (.null :: st) w cn sn = wp d 87 Q 28 L st w cn sn := w_ifnullN d_87_10 (t := 28) (by decide)
theorem d_87_13 : decode (mB 87) 13 = .ok (.aload_n 3, 1) := by decide +kernel
theorem s_87_13 {d : Nat} {Q : wQ} {L : List (Option Value)} {st : List Value} {w : aw} {cn sn : Nat} {a0 a1 a2 : Option Value} {v : Nat} : wp d 87 Q 13 (a0 :: a1 :: a2 :: some (.ref v) :: L) st w cn sn = wp d 87 Q 14 (a0 :: a1 :: a2 :: some (.ref v) :: L) (.ref v :: st) w cn sn := w_aload_n d_87_13 rfl
theorem s_87_13n {d : Nat} {Q : wQ} {L : List (Option Value)} {st : List Value} {w : aw} {cn sn : Nat} {a0 a1 a2 : Option Value} : wp d 87 Q 13 (a0 :: a1 :: a2 :: some .null :: L) st w cn sn = wp d 87 Q 14 (a0 :: a1 :: a2 :: some .null :: L) (.null :: st) w cn sn := w_aload_nN d_87_13 rfl
theorem d_87_14 : decode (mB 87) 14 = .ok (.ifnull 14, 3) := by decide +kernel
theorem s_87_14 {d : Nat} {Q : wQ} {L : List (Option Value)} {st : List Value} {w : aw} {cn sn : Nat} {q : Nat} : wp d 87 Q 14 L (.ref q :: st) w cn sn = wp d 87 Q 17 L st w cn sn := w_ifnull d_87_14 (t := 28) (by decide)
theorem s_87_14n {d : Nat} {Q : wQ} {L : List (Option Value)} {st : List Value} {w : aw} {cn sn : Nat}  : wp d 87 Q 14 L (.null :: st) w cn sn = wp d 87 Q 28 L st w cn sn := w_ifnullN d_87_14 (t := 28) (by decide)
theorem d_87_17 : decode (mB 87) 17 = .ok (.iload_n 2, 1) := by decide +kernel
theorem s_87_17 {d : Nat} {Q : wQ} {L : List (Option Value)} {st : List Value} {w : aw} {cn sn : Nat} {a0 a1 : Option Value} {v : Int32} : wp d 87 Q 17 (a0 :: a1 :: some (.int v) :: L) st w cn sn = wp d 87 Q 18 (a0 :: a1 :: some (.int v) :: L) (.int v :: st) w cn sn := w_iload_n d_87_17 rfl
theorem d_87_18 : decode (mB 87) 18 = .ok (.iconst 0, 1) := by decide +kernel
theorem s_87_18 {d : Nat} {Q : wQ} {L : List (Option Value)} {st : List Value} {w : aw} {cn sn : Nat}  : wp d 87 Q 18 L st w cn sn = wp d 87 Q 19 L (.int 0 :: st) w cn sn := w_iconst d_87_18 (by decide)
theorem d_87_19 : decode (mB 87) 19 = .ok (.sipush 255, 3) := by decide +kernel
theorem s_87_19 {d : Nat} {Q : wQ} {L : List (Option Value)} {st : List Value} {w : aw} {cn sn : Nat}  : wp d 87 Q 19 L st w cn sn = wp d 87 Q 22 L (.int 255 :: st) w cn sn := w_sipush d_87_19 (by decide)
theorem d_87_22 : decode (mB 87) 22 = .ok (.invokestatic 29, 3) := by decide +kernel
theorem s_87_22 {d : Nat} {Q : wQ} {L : List (Option Value)} {st : List Value} {w : aw} {cn sn : Nat} {v0 v1 v2 : Value} : wp d 87 Q 22 L (v2 :: v1 :: v0 :: st) w cn sn = (catS st ≤ 8 ∧ wpD d 98 [v0, v1, v2] w (fun v w' => wp d 87 Q 25 L (v.toList ++ st) w' cn sn)) := w_static (As := [v0, v1, v2]) d_87_22 (by decide +kernel : cT (mO 87) 29 = some (2, 98)) rfl (by decide +kernel) rfl
theorem d_87_25 : decode (mB 87) 25 = .ok (.ifCond .ne 5, 3) := by decide +kernel
theorem s_87_25 {d : Nat} {Q : wQ} {L : List (Option Value)} {st : List Value} {w : aw} {cn sn : Nat} {x : Int32} : wp d 87 Q 25 L (.int x :: st) w cn sn = ((¬ x = 0 → wp d 87 Q 30 L st w cn sn) ∧ (x = 0 → wp d 87 Q 28 L st w cn sn)) := w_ifne d_87_25 (by decide)
theorem d_87_28 : decode (mB 87) 28 = .ok (.iconst (-1), 1) := by decide +kernel
theorem s_87_28 {d : Nat} {Q : wQ} {L : List (Option Value)} {st : List Value} {w : aw} {cn sn : Nat}  : wp d 87 Q 28 L st w cn sn = wp d 87 Q 29 L (.int (-1) :: st) w cn sn := w_iconst d_87_28 (by decide)
theorem d_87_29 : decode (mB 87) 29 = .ok (.ireturn, 1) := by decide +kernel
theorem s_87_29 {d : Nat} {Q : wQ} {L : List (Option Value)} {w : aw} {cn sn : Nat} {v : Int32} : wp d 87 Q 29 L [.int v] w cn sn = Q (some (.int v)) w := w_ireturn d_87_29 rfl
theorem d_87_30 : decode (mB 87) 30 = .ok (.aload_n 3, 1) := by decide +kernel
theorem s_87_30 {d : Nat} {Q : wQ} {L : List (Option Value)} {st : List Value} {w : aw} {cn sn : Nat} {a0 a1 a2 : Option Value} {v : Nat} : wp d 87 Q 30 (a0 :: a1 :: a2 :: some (.ref v) :: L) st w cn sn = wp d 87 Q 31 (a0 :: a1 :: a2 :: some (.ref v) :: L) (.ref v :: st) w cn sn := w_aload_n d_87_30 rfl
theorem s_87_30n {d : Nat} {Q : wQ} {L : List (Option Value)} {st : List Value} {w : aw} {cn sn : Nat} {a0 a1 a2 : Option Value} : wp d 87 Q 30 (a0 :: a1 :: a2 :: some .null :: L) st w cn sn = wp d 87 Q 31 (a0 :: a1 :: a2 :: some .null :: L) (.null :: st) w cn sn := w_aload_nN d_87_30 rfl
theorem d_87_31 : decode (mB 87) 31 = .ok (.getfield 106, 3) := by decide +kernel
theorem s_87_31 {d : Nat} {Q : wQ} {L : List (Option Value)} {st : List Value} {w : aw} {cn sn : Nat} {a : Nat} : wp d 87 Q 31 L (.ref a :: st) w cn sn = (kd w a = 7 ∧ wp d 87 Q 34 L (fd w 388 a :: st) w cn sn) := w_getfield d_87_31 (by decide +kernel : fT (mO 87) 106 = some (6, 4))
theorem d_87_34 : decode (mB 87) 34 = .ok (.iload_n 2, 1) := by decide +kernel
theorem s_87_34 {d : Nat} {Q : wQ} {L : List (Option Value)} {st : List Value} {w : aw} {cn sn : Nat} {a0 a1 : Option Value} {v : Int32} : wp d 87 Q 34 (a0 :: a1 :: some (.int v) :: L) st w cn sn = wp d 87 Q 35 (a0 :: a1 :: some (.int v) :: L) (.int v :: st) w cn sn := w_iload_n d_87_34 rfl
theorem d_87_35 : decode (mB 87) 35 = .ok (.invokevirtual 110, 3) := by decide +kernel
theorem s_87_35 {d : Nat} {Q : wQ} {L : List (Option Value)} {st : List Value} {w : aw} {cn sn : Nat} {v0 : Value} {b : Nat} : wp d 87 Q 35 L (v0 :: .ref b :: st) w cn sn = (kd w b = 3 ∧ catS st ≤ 8 ∧ wpD d 25 [.ref b, v0] w (fun v w' => wp d 87 Q 38 L (v.toList ++ st) w' cn sn)) := w_virtual (As := [v0]) d_87_35 (by decide +kernel : cT (mO 87) 110 = some (0, 25)) rfl (by decide +kernel) rfl (by decide +kernel) rfl
theorem d_87_38 : decode (mB 87) 38 = .ok (.ifCond .ne 19, 3) := by decide +kernel
theorem s_87_38 {d : Nat} {Q : wQ} {L : List (Option Value)} {st : List Value} {w : aw} {cn sn : Nat} {x : Int32} : wp d 87 Q 38 L (.int x :: st) w cn sn = ((¬ x = 0 → wp d 87 Q 57 L st w cn sn) ∧ (x = 0 → wp d 87 Q 41 L st w cn sn)) := w_ifne d_87_38 (by decide)
theorem d_87_41 : decode (mB 87) 41 = .ok (.aload_n 3, 1) := by decide +kernel
theorem s_87_41 {d : Nat} {Q : wQ} {L : List (Option Value)} {st : List Value} {w : aw} {cn sn : Nat} {a0 a1 a2 : Option Value} {v : Nat} : wp d 87 Q 41 (a0 :: a1 :: a2 :: some (.ref v) :: L) st w cn sn = wp d 87 Q 42 (a0 :: a1 :: a2 :: some (.ref v) :: L) (.ref v :: st) w cn sn := w_aload_n d_87_41 rfl
theorem s_87_41n {d : Nat} {Q : wQ} {L : List (Option Value)} {st : List Value} {w : aw} {cn sn : Nat} {a0 a1 a2 : Option Value} : wp d 87 Q 41 (a0 :: a1 :: a2 :: some .null :: L) st w cn sn = wp d 87 Q 42 (a0 :: a1 :: a2 :: some .null :: L) (.null :: st) w cn sn := w_aload_nN d_87_41 rfl
theorem d_87_42 : decode (mB 87) 42 = .ok (.aload_n 3, 1) := by decide +kernel
theorem s_87_42 {d : Nat} {Q : wQ} {L : List (Option Value)} {st : List Value} {w : aw} {cn sn : Nat} {a0 a1 a2 : Option Value} {v : Nat} : wp d 87 Q 42 (a0 :: a1 :: a2 :: some (.ref v) :: L) st w cn sn = wp d 87 Q 43 (a0 :: a1 :: a2 :: some (.ref v) :: L) (.ref v :: st) w cn sn := w_aload_n d_87_42 rfl
theorem s_87_42n {d : Nat} {Q : wQ} {L : List (Option Value)} {st : List Value} {w : aw} {cn sn : Nat} {a0 a1 a2 : Option Value} : wp d 87 Q 42 (a0 :: a1 :: a2 :: some .null :: L) st w cn sn = wp d 87 Q 43 (a0 :: a1 :: a2 :: some .null :: L) (.null :: st) w cn sn := w_aload_nN d_87_42 rfl
theorem d_87_43 : decode (mB 87) 43 = .ok (.getfield 115, 3) := by decide +kernel
theorem s_87_43 {d : Nat} {Q : wQ} {L : List (Option Value)} {st : List Value} {w : aw} {cn sn : Nat} {a : Nat} : wp d 87 Q 43 L (.ref a :: st) w cn sn = (kd w a = 7 ∧ wp d 87 Q 46 L (fd w 397 a :: st) w cn sn) := w_getfield d_87_43 (by decide +kernel : fT (mO 87) 115 = some (6, 13))
theorem d_87_46 : decode (mB 87) 46 = .ok (.iconst 1, 1) := by decide +kernel
theorem s_87_46 {d : Nat} {Q : wQ} {L : List (Option Value)} {st : List Value} {w : aw} {cn sn : Nat}  : wp d 87 Q 46 L st w cn sn = wp d 87 Q 47 L (.int 1 :: st) w cn sn := w_iconst d_87_46 (by decide)
theorem d_87_47 : decode (mB 87) 47 = .ok (.iadd, 1) := by decide +kernel
theorem s_87_47 {d : Nat} {Q : wQ} {L : List (Option Value)} {st : List Value} {w : aw} {cn sn : Nat} {a b : Int32} : wp d 87 Q 47 L (.int b :: .int a :: st) w cn sn = wp d 87 Q 48 L (.int (a + b) :: st) w cn sn := wp_row d_87_47 _ _ _ _ _
theorem d_87_48 : decode (mB 87) 48 = .ok (.sipush 4095, 3) := by decide +kernel
theorem s_87_48 {d : Nat} {Q : wQ} {L : List (Option Value)} {st : List Value} {w : aw} {cn sn : Nat}  : wp d 87 Q 48 L st w cn sn = wp d 87 Q 51 L (.int 4095 :: st) w cn sn := w_sipush d_87_48 (by decide)
theorem d_87_51 : decode (mB 87) 51 = .ok (.iand, 1) := by decide +kernel
theorem s_87_51 {d : Nat} {Q : wQ} {L : List (Option Value)} {st : List Value} {w : aw} {cn sn : Nat} {a b : Int32} : wp d 87 Q 51 L (.int b :: .int a :: st) w cn sn = wp d 87 Q 52 L (.int (a &&& b) :: st) w cn sn := wp_row d_87_51 _ _ _ _ _
theorem d_87_52 : decode (mB 87) 52 = .ok (.putfield 115, 3) := by decide +kernel
theorem s_87_52 {d : Nat} {Q : wQ} {L : List (Option Value)} {st : List Value} {w : aw} {cn sn : Nat} {x : Int32} {a : Nat} : wp d 87 Q 52 L (.int x :: .ref a :: st) w cn sn = (kd w a = 7 ∧ wp d 87 Q 55 L st (uF w 397 a (.int x)) cn sn) := w_putfield d_87_52 (by decide +kernel : fT (mO 87) 115 = some (6, 13)) (by decide +kernel) ok_int
theorem d_87_55 : decode (mB 87) 55 = .ok (.iconst 0, 1) := by decide +kernel
theorem s_87_55 {d : Nat} {Q : wQ} {L : List (Option Value)} {st : List Value} {w : aw} {cn sn : Nat}  : wp d 87 Q 55 L st w cn sn = wp d 87 Q 56 L (.int 0 :: st) w cn sn := w_iconst d_87_55 (by decide)
theorem d_87_56 : decode (mB 87) 56 = .ok (.ireturn, 1) := by decide +kernel
theorem s_87_56 {d : Nat} {Q : wQ} {L : List (Option Value)} {w : aw} {cn sn : Nat} {v : Int32} : wp d 87 Q 56 L [.int v] w cn sn = Q (some (.int v)) w := w_ireturn d_87_56 rfl
theorem d_87_57 : decode (mB 87) 57 = .ok (.aload_n 3, 1) := by decide +kernel
theorem s_87_57 {d : Nat} {Q : wQ} {L : List (Option Value)} {st : List Value} {w : aw} {cn sn : Nat} {a0 a1 a2 : Option Value} {v : Nat} : wp d 87 Q 57 (a0 :: a1 :: a2 :: some (.ref v) :: L) st w cn sn = wp d 87 Q 58 (a0 :: a1 :: a2 :: some (.ref v) :: L) (.ref v :: st) w cn sn := w_aload_n d_87_57 rfl
theorem s_87_57n {d : Nat} {Q : wQ} {L : List (Option Value)} {st : List Value} {w : aw} {cn sn : Nat} {a0 a1 a2 : Option Value} : wp d 87 Q 57 (a0 :: a1 :: a2 :: some .null :: L) st w cn sn = wp d 87 Q 58 (a0 :: a1 :: a2 :: some .null :: L) (.null :: st) w cn sn := w_aload_nN d_87_57 rfl
theorem d_87_58 : decode (mB 87) 58 = .ok (.getfield 93, 3) := by decide +kernel
theorem s_87_58 {d : Nat} {Q : wQ} {L : List (Option Value)} {st : List Value} {w : aw} {cn sn : Nat} {a : Nat} : wp d 87 Q 58 L (.ref a :: st) w cn sn = (kd w a = 7 ∧ wp d 87 Q 61 L (fd w 394 a :: st) w cn sn) := w_getfield d_87_58 (by decide +kernel : fT (mO 87) 93 = some (6, 10))
theorem d_87_61 : decode (mB 87) 61 = .ok (.iconst 3, 1) := by decide +kernel
theorem s_87_61 {d : Nat} {Q : wQ} {L : List (Option Value)} {st : List Value} {w : aw} {cn sn : Nat}  : wp d 87 Q 61 L st w cn sn = wp d 87 Q 62 L (.int 3 :: st) w cn sn := w_iconst d_87_61 (by decide)
theorem d_87_62 : decode (mB 87) 62 = .ok (.if_icmp .ne 18, 3) := by decide +kernel
theorem s_87_62 {d : Nat} {Q : wQ} {L : List (Option Value)} {st : List Value} {w : aw} {cn sn : Nat} {a b : Int32} : wp d 87 Q 62 L (.int b :: .int a :: st) w cn sn = ((¬ a = b → wp d 87 Q 80 L st w cn sn) ∧ (a = b → wp d 87 Q 65 L st w cn sn)) := w_icne d_87_62 (by decide)
theorem d_87_65 : decode (mB 87) 65 = .ok (.aload_n 0, 1) := by decide +kernel
theorem s_87_65 {d : Nat} {Q : wQ} {L : List (Option Value)} {st : List Value} {w : aw} {cn sn : Nat} {v : Nat} : wp d 87 Q 65 (some (.ref v) :: L) st w cn sn = wp d 87 Q 66 (some (.ref v) :: L) (.ref v :: st) w cn sn := w_aload_n d_87_65 rfl
theorem d_87_66 : decode (mB 87) 66 = .ok (.getfield 25, 3) := by decide +kernel
theorem s_87_66 {d : Nat} {Q : wQ} {L : List (Option Value)} {st : List Value} {w : aw} {cn sn : Nat} {a : Nat} : wp d 87 Q 66 L (.ref a :: st) w cn sn = (kd w a = 8 ∧ wp d 87 Q 69 L (fd w 450 a :: st) w cn sn) := w_getfield d_87_66 (by decide +kernel : fT (mO 87) 25 = some (7, 2))
theorem d_87_69 : decode (mB 87) 69 = .ok (.aload_n 3, 1) := by decide +kernel
theorem s_87_69 {d : Nat} {Q : wQ} {L : List (Option Value)} {st : List Value} {w : aw} {cn sn : Nat} {a0 a1 a2 : Option Value} {v : Nat} : wp d 87 Q 69 (a0 :: a1 :: a2 :: some (.ref v) :: L) st w cn sn = wp d 87 Q 70 (a0 :: a1 :: a2 :: some (.ref v) :: L) (.ref v :: st) w cn sn := w_aload_n d_87_69 rfl
theorem s_87_69n {d : Nat} {Q : wQ} {L : List (Option Value)} {st : List Value} {w : aw} {cn sn : Nat} {a0 a1 a2 : Option Value} : wp d 87 Q 69 (a0 :: a1 :: a2 :: some .null :: L) st w cn sn = wp d 87 Q 70 (a0 :: a1 :: a2 :: some .null :: L) (.null :: st) w cn sn := w_aload_nN d_87_69 rfl
theorem d_87_70 : decode (mB 87) 70 = .ok (.invokevirtual 99, 3) := by decide +kernel
theorem s_87_70 {d : Nat} {Q : wQ} {L : List (Option Value)} {st : List Value} {w : aw} {cn sn : Nat} {v0 : Value} {b : Nat} : wp d 87 Q 70 L (v0 :: .ref b :: st) w cn sn = (kd w b = 2 ∧ catS st ≤ 8 ∧ wpD d 14 [.ref b, v0] w (fun v w' => wp d 87 Q 73 L (v.toList ++ st) w' cn sn)) := w_virtual (As := [v0]) d_87_70 (by decide +kernel : cT (mO 87) 99 = some (0, 14)) rfl (by decide +kernel) rfl (by decide +kernel) rfl
theorem d_87_73 : decode (mB 87) 73 = .ok (.aload_n 0, 1) := by decide +kernel
theorem s_87_73 {d : Nat} {Q : wQ} {L : List (Option Value)} {st : List Value} {w : aw} {cn sn : Nat} {v : Nat} : wp d 87 Q 73 (some (.ref v) :: L) st w cn sn = wp d 87 Q 74 (some (.ref v) :: L) (.ref v :: st) w cn sn := w_aload_n d_87_73 rfl
theorem d_87_74 : decode (mB 87) 74 = .ok (.getfield 25, 3) := by decide +kernel
theorem s_87_74 {d : Nat} {Q : wQ} {L : List (Option Value)} {st : List Value} {w : aw} {cn sn : Nat} {a : Nat} : wp d 87 Q 74 L (.ref a :: st) w cn sn = (kd w a = 8 ∧ wp d 87 Q 77 L (fd w 450 a :: st) w cn sn) := w_getfield d_87_74 (by decide +kernel : fT (mO 87) 25 = some (7, 2))
theorem d_87_77 : decode (mB 87) 77 = .ok (.invokevirtual 103, 3) := by decide +kernel
theorem s_87_77 {d : Nat} {Q : wQ} {L : List (Option Value)} {st : List Value} {w : aw} {cn sn : Nat} {b : Nat} : wp d 87 Q 77 L (.ref b :: st) w cn sn = (kd w b = 2 ∧ catS st ≤ 8 ∧ wpD d 15 [.ref b] w (fun v w' => wp d 87 Q 80 L (v.toList ++ st) w' cn sn)) := w_virtual (As := []) d_87_77 (by decide +kernel : cT (mO 87) 103 = some (0, 15)) rfl (by decide +kernel) rfl (by decide +kernel) rfl
theorem d_87_80 : decode (mB 87) 80 = .ok (.iconst 1, 1) := by decide +kernel
theorem s_87_80 {d : Nat} {Q : wQ} {L : List (Option Value)} {st : List Value} {w : aw} {cn sn : Nat}  : wp d 87 Q 80 L st w cn sn = wp d 87 Q 81 L (.int 1 :: st) w cn sn := w_iconst d_87_80 (by decide)
theorem d_87_81 : decode (mB 87) 81 = .ok (.ireturn, 1) := by decide +kernel
theorem s_87_81 {d : Nat} {Q : wQ} {L : List (Option Value)} {w : aw} {cn sn : Nat} {v : Int32} : wp d 87 Q 81 L [.int v] w cn sn = Q (some (.int v)) w := w_ireturn d_87_81 rfl
theorem d_88_0 : decode (mB 88) 0 = .ok (.aload_n 0, 1) := by decide +kernel
theorem s_88_0 {d : Nat} {Q : wQ} {L : List (Option Value)} {st : List Value} {w : aw} {cn sn : Nat} {v : Nat} : wp d 88 Q 0 (some (.ref v) :: L) st w cn sn = wp d 88 Q 1 (some (.ref v) :: L) (.ref v :: st) w cn sn := w_aload_n d_88_0 rfl
theorem d_88_1 : decode (mB 88) 1 = .ok (.getfield 25, 3) := by decide +kernel
theorem s_88_1 {d : Nat} {Q : wQ} {L : List (Option Value)} {st : List Value} {w : aw} {cn sn : Nat} {a : Nat} : wp d 88 Q 1 L (.ref a :: st) w cn sn = (kd w a = 8 ∧ wp d 88 Q 4 L (fd w 450 a :: st) w cn sn) := w_getfield d_88_1 (by decide +kernel : fT (mO 88) 25 = some (7, 2))
theorem d_88_4 : decode (mB 88) 4 = .ok (.ifnull 14, 3) := by decide +kernel
theorem s_88_4 {d : Nat} {Q : wQ} {L : List (Option Value)} {st : List Value} {w : aw} {cn sn : Nat} {q : Nat} : wp d 88 Q 4 L (.ref q :: st) w cn sn = wp d 88 Q 7 L st w cn sn := w_ifnull d_88_4 (t := 18) (by decide)
theorem s_88_4n {d : Nat} {Q : wQ} {L : List (Option Value)} {st : List Value} {w : aw} {cn sn : Nat}  : wp d 88 Q 4 L (.null :: st) w cn sn = wp d 88 Q 18 L st w cn sn := w_ifnullN d_88_4 (t := 18) (by decide)
theorem d_88_7 : decode (mB 88) 7 = .ok (.iload_n 1, 1) := by decide +kernel
theorem s_88_7 {d : Nat} {Q : wQ} {L : List (Option Value)} {st : List Value} {w : aw} {cn sn : Nat} {a0 : Option Value} {v : Int32} : wp d 88 Q 7 (a0 :: some (.int v) :: L) st w cn sn = wp d 88 Q 8 (a0 :: some (.int v) :: L) (.int v :: st) w cn sn := w_iload_n d_88_7 rfl
theorem d_88_8 : decode (mB 88) 8 = .ok (.iconst 0, 1) := by decide +kernel
theorem s_88_8 {d : Nat} {Q : wQ} {L : List (Option Value)} {st : List Value} {w : aw} {cn sn : Nat}  : wp d 88 Q 8 L st w cn sn = wp d 88 Q 9 L (.int 0 :: st) w cn sn := w_iconst d_88_8 (by decide)
theorem d_88_9 : decode (mB 88) 9 = .ok (.sipush 1000, 3) := by decide +kernel
theorem s_88_9 {d : Nat} {Q : wQ} {L : List (Option Value)} {st : List Value} {w : aw} {cn sn : Nat}  : wp d 88 Q 9 L st w cn sn = wp d 88 Q 12 L (.int 1000 :: st) w cn sn := w_sipush d_88_9 (by decide)
theorem d_88_12 : decode (mB 88) 12 = .ok (.invokestatic 29, 3) := by decide +kernel
theorem s_88_12 {d : Nat} {Q : wQ} {L : List (Option Value)} {st : List Value} {w : aw} {cn sn : Nat} {v0 v1 v2 : Value} : wp d 88 Q 12 L (v2 :: v1 :: v0 :: st) w cn sn = (catS st ≤ 8 ∧ wpD d 98 [v0, v1, v2] w (fun v w' => wp d 88 Q 15 L (v.toList ++ st) w' cn sn)) := w_static (As := [v0, v1, v2]) d_88_12 (by decide +kernel : cT (mO 88) 29 = some (2, 98)) rfl (by decide +kernel) rfl
theorem d_88_15 : decode (mB 88) 15 = .ok (.ifCond .ne 5, 3) := by decide +kernel
theorem s_88_15 {d : Nat} {Q : wQ} {L : List (Option Value)} {st : List Value} {w : aw} {cn sn : Nat} {x : Int32} : wp d 88 Q 15 L (.int x :: st) w cn sn = ((¬ x = 0 → wp d 88 Q 20 L st w cn sn) ∧ (x = 0 → wp d 88 Q 18 L st w cn sn)) := w_ifne d_88_15 (by decide)
theorem d_88_18 : decode (mB 88) 18 = .ok (.iconst (-1), 1) := by decide +kernel
theorem s_88_18 {d : Nat} {Q : wQ} {L : List (Option Value)} {st : List Value} {w : aw} {cn sn : Nat}  : wp d 88 Q 18 L st w cn sn = wp d 88 Q 19 L (.int (-1) :: st) w cn sn := w_iconst d_88_18 (by decide)
theorem d_88_19 : decode (mB 88) 19 = .ok (.ireturn, 1) := by decide +kernel
theorem s_88_19 {d : Nat} {Q : wQ} {L : List (Option Value)} {w : aw} {cn sn : Nat} {v : Int32} : wp d 88 Q 19 L [.int v] w cn sn = Q (some (.int v)) w := w_ireturn d_88_19 rfl
theorem d_88_20 : decode (mB 88) 20 = .ok (.iconst 0, 1) := by decide +kernel
theorem s_88_20 {d : Nat} {Q : wQ} {L : List (Option Value)} {st : List Value} {w : aw} {cn sn : Nat}  : wp d 88 Q 20 L st w cn sn = wp d 88 Q 21 L (.int 0 :: st) w cn sn := w_iconst d_88_20 (by decide)
theorem d_88_21 : decode (mB 88) 21 = .ok (.istore_n 2, 1) := by decide +kernel
theorem s_88_21 {d : Nat} {Q : wQ} {L : List (Option Value)} {st : List Value} {w : aw} {cn sn : Nat} {a0 a1 a2 : Option Value} {v : Int32} : wp d 88 Q 21 (a0 :: a1 :: a2 :: L) (.int v :: st) w cn sn = wp d 88 Q 22 (a0 :: clr a1 :: some (.int v) :: L) st w cn sn := w_istore_n d_88_21 (Nat.le_add_left 3 _) rfl
theorem d_88_22 : decode (mB 88) 22 = .ok (.iconst 0, 1) := by decide +kernel
theorem s_88_22 {d : Nat} {Q : wQ} {L : List (Option Value)} {st : List Value} {w : aw} {cn sn : Nat}  : wp d 88 Q 22 L st w cn sn = wp d 88 Q 23 L (.int 0 :: st) w cn sn := w_iconst d_88_22 (by decide)
theorem d_88_23 : decode (mB 88) 23 = .ok (.istore_n 3, 1) := by decide +kernel
theorem s_88_23 {d : Nat} {Q : wQ} {L : List (Option Value)} {st : List Value} {w : aw} {cn sn : Nat} {a0 a1 a2 a3 : Option Value} {v : Int32} : wp d 88 Q 23 (a0 :: a1 :: a2 :: a3 :: L) (.int v :: st) w cn sn = wp d 88 Q 24 (a0 :: a1 :: clr a2 :: some (.int v) :: L) st w cn sn := w_istore_n d_88_23 (Nat.le_add_left 4 _) rfl
theorem d_88_24 : decode (mB 88) 24 = .ok (.iload_n 3, 1) := by decide +kernel
theorem s_88_24 {d : Nat} {Q : wQ} {L : List (Option Value)} {st : List Value} {w : aw} {cn sn : Nat} {a0 a1 a2 : Option Value} {v : Int32} : wp d 88 Q 24 (a0 :: a1 :: a2 :: some (.int v) :: L) st w cn sn = wp d 88 Q 25 (a0 :: a1 :: a2 :: some (.int v) :: L) (.int v :: st) w cn sn := w_iload_n d_88_24 rfl
theorem d_88_25 : decode (mB 88) 25 = .ok (.iload_n 1, 1) := by decide +kernel
theorem s_88_25 {d : Nat} {Q : wQ} {L : List (Option Value)} {st : List Value} {w : aw} {cn sn : Nat} {a0 : Option Value} {v : Int32} : wp d 88 Q 25 (a0 :: some (.int v) :: L) st w cn sn = wp d 88 Q 26 (a0 :: some (.int v) :: L) (.int v :: st) w cn sn := w_iload_n d_88_25 rfl
theorem d_88_26 : decode (mB 88) 26 = .ok (.if_icmp .ge 22, 3) := by decide +kernel
theorem s_88_26 {d : Nat} {Q : wQ} {L : List (Option Value)} {st : List Value} {w : aw} {cn sn : Nat} {a b : Int32} : wp d 88 Q 26 L (.int b :: .int a :: st) w cn sn = ((b ≤ a → wp d 88 Q 48 L st w cn sn) ∧ (¬ b ≤ a → wp d 88 Q 29 L st w cn sn)) := w_icge d_88_26 (by decide)
theorem d_88_29 : decode (mB 88) 29 = .ok (.aload_n 0, 1) := by decide +kernel
theorem s_88_29 {d : Nat} {Q : wQ} {L : List (Option Value)} {st : List Value} {w : aw} {cn sn : Nat} {v : Nat} : wp d 88 Q 29 (some (.ref v) :: L) st w cn sn = wp d 88 Q 30 (some (.ref v) :: L) (.ref v :: st) w cn sn := w_aload_n d_88_29 rfl
theorem d_88_30 : decode (mB 88) 30 = .ok (.getfield 25, 3) := by decide +kernel
theorem s_88_30 {d : Nat} {Q : wQ} {L : List (Option Value)} {st : List Value} {w : aw} {cn sn : Nat} {a : Nat} : wp d 88 Q 30 L (.ref a :: st) w cn sn = (kd w a = 8 ∧ wp d 88 Q 33 L (fd w 450 a :: st) w cn sn) := w_getfield d_88_30 (by decide +kernel : fT (mO 88) 25 = some (7, 2))
theorem d_88_33 : decode (mB 88) 33 = .ok (.invokevirtual 118, 3) := by decide +kernel
theorem s_88_33 {d : Nat} {Q : wQ} {L : List (Option Value)} {st : List Value} {w : aw} {cn sn : Nat} {b : Nat} : wp d 88 Q 33 L (.ref b :: st) w cn sn = (kd w b = 2 ∧ catS st ≤ 8 ∧ wpD d 17 [.ref b] w (fun v w' => wp d 88 Q 36 L (v.toList ++ st) w' cn sn)) := w_virtual (As := []) d_88_33 (by decide +kernel : cT (mO 88) 118 = some (0, 17)) rfl (by decide +kernel) rfl (by decide +kernel) rfl
theorem d_88_36 : decode (mB 88) 36 = .ok (.ifCond .eq 6, 3) := by decide +kernel
theorem s_88_36 {d : Nat} {Q : wQ} {L : List (Option Value)} {st : List Value} {w : aw} {cn sn : Nat} {x : Int32} : wp d 88 Q 36 L (.int x :: st) w cn sn = ((x = 0 → wp d 88 Q 42 L st w cn sn) ∧ (¬ x = 0 → wp d 88 Q 39 L st w cn sn)) := w_ifeq d_88_36 (by decide)
theorem d_88_39 : decode (mB 88) 39 = .ok (.iinc 2 1, 3) := by decide +kernel
theorem s_88_39 {d : Nat} {Q : wQ} {L : List (Option Value)} {st : List Value} {w : aw} {cn sn : Nat} {a0 a1 : Option Value} {v : Int32} : wp d 88 Q 39 (a0 :: a1 :: some (.int v) :: L) st w cn sn = wp d 88 Q 42 (a0 :: clr a1 :: some (.int (v + 1)) :: L) st w cn sn := w_iinc d_88_39 rfl (by decide) rfl
theorem d_88_42 : decode (mB 88) 42 = .ok (.iinc 3 1, 3) := by decide +kernel
theorem s_88_42 {d : Nat} {Q : wQ} {L : List (Option Value)} {st : List Value} {w : aw} {cn sn : Nat} {a0 a1 a2 : Option Value} {v : Int32} : wp d 88 Q 42 (a0 :: a1 :: a2 :: some (.int v) :: L) st w cn sn = wp d 88 Q 45 (a0 :: a1 :: clr a2 :: some (.int (v + 1)) :: L) st w cn sn := w_iinc d_88_42 rfl (by decide) rfl
theorem d_88_45 : decode (mB 88) 45 = .ok (.goto (-21), 3) := by decide +kernel
theorem s_88_45 {d : Nat} {Q : wQ} {L : List (Option Value)} {st : List Value} {w : aw} {cn sn : Nat}  : wp d 88 Q 45 L st w cn sn = wp d 88 Q 24 L st w cn sn := w_goto d_88_45 (by decide)
theorem d_88_48 : decode (mB 88) 48 = .ok (.iload_n 2, 1) := by decide +kernel
theorem s_88_48 {d : Nat} {Q : wQ} {L : List (Option Value)} {st : List Value} {w : aw} {cn sn : Nat} {a0 a1 : Option Value} {v : Int32} : wp d 88 Q 48 (a0 :: a1 :: some (.int v) :: L) st w cn sn = wp d 88 Q 49 (a0 :: a1 :: some (.int v) :: L) (.int v :: st) w cn sn := w_iload_n d_88_48 rfl
theorem d_88_49 : decode (mB 88) 49 = .ok (.ireturn, 1) := by decide +kernel
theorem s_88_49 {d : Nat} {Q : wQ} {L : List (Option Value)} {w : aw} {cn sn : Nat} {v : Int32} : wp d 88 Q 49 L [.int v] w cn sn = Q (some (.int v)) w := w_ireturn d_88_49 rfl
theorem d_89_0 : decode (mB 89) 0 = .ok (.aload_n 0, 1) := by decide +kernel
theorem s_89_0 {d : Nat} {Q : wQ} {L : List (Option Value)} {st : List Value} {w : aw} {cn sn : Nat} {v : Nat} : wp d 89 Q 0 (some (.ref v) :: L) st w cn sn = wp d 89 Q 1 (some (.ref v) :: L) (.ref v :: st) w cn sn := w_aload_n d_89_0 rfl
theorem d_89_1 : decode (mB 89) 1 = .ok (.iload_n 1, 1) := by decide +kernel
theorem s_89_1 {d : Nat} {Q : wQ} {L : List (Option Value)} {st : List Value} {w : aw} {cn sn : Nat} {a0 : Option Value} {v : Int32} : wp d 89 Q 1 (a0 :: some (.int v) :: L) st w cn sn = wp d 89 Q 2 (a0 :: some (.int v) :: L) (.int v :: st) w cn sn := w_iload_n d_89_1 rfl
theorem d_89_2 : decode (mB 89) 2 = .ok (.invokevirtual 53, 3) := by decide +kernel
theorem s_89_2 {d : Nat} {Q : wQ} {L : List (Option Value)} {st : List Value} {w : aw} {cn sn : Nat} {v0 : Value} {b : Nat} : wp d 89 Q 2 L (v0 :: .ref b :: st) w cn sn = (kd w b = 8 ∧ catS st ≤ 8 ∧ wpD d 97 [.ref b, v0] w (fun v w' => wp d 89 Q 5 L (v.toList ++ st) w' cn sn)) := w_virtual (As := [v0]) d_89_2 (by decide +kernel : cT (mO 89) 53 = some (0, 97)) rfl (by decide +kernel) rfl (by decide +kernel) rfl
theorem d_89_5 : decode (mB 89) 5 = .ok (.astore_n 3, 1) := by decide +kernel
theorem s_89_5 {d : Nat} {Q : wQ} {L : List (Option Value)} {st : List Value} {w : aw} {cn sn : Nat} {a0 a1 a2 a3 : Option Value} {v : Nat} : wp d 89 Q 5 (a0 :: a1 :: a2 :: a3 :: L) (.ref v :: st) w cn sn = wp d 89 Q 6 (a0 :: a1 :: clr a2 :: some (.ref v) :: L) st w cn sn := w_astore_n d_89_5 (Nat.le_add_left 4 _) rfl
theorem s_89_5n {d : Nat} {Q : wQ} {L : List (Option Value)} {st : List Value} {w : aw} {cn sn : Nat} {a0 a1 a2 a3 : Option Value} : wp d 89 Q 5 (a0 :: a1 :: a2 :: a3 :: L) (.null :: st) w cn sn = wp d 89 Q 6 (a0 :: a1 :: clr a2 :: some .null :: L) st w cn sn := w_astore_nN d_89_5 (Nat.le_add_left 4 _) rfl
theorem d_89_6 : decode (mB 89) 6 = .ok (.aload_n 3, 1) := by decide +kernel
theorem s_89_6 {d : Nat} {Q : wQ} {L : List (Option Value)} {st : List Value} {w : aw} {cn sn : Nat} {a0 a1 a2 : Option Value} {v : Nat} : wp d 89 Q 6 (a0 :: a1 :: a2 :: some (.ref v) :: L) st w cn sn = wp d 89 Q 7 (a0 :: a1 :: a2 :: some (.ref v) :: L) (.ref v :: st) w cn sn := w_aload_n d_89_6 rfl
theorem s_89_6n {d : Nat} {Q : wQ} {L : List (Option Value)} {st : List Value} {w : aw} {cn sn : Nat} {a0 a1 a2 : Option Value} : wp d 89 Q 6 (a0 :: a1 :: a2 :: some .null :: L) st w cn sn = wp d 89 Q 7 (a0 :: a1 :: a2 :: some .null :: L) (.null :: st) w cn sn := w_aload_nN d_89_6 rfl
theorem d_89_7 : decode (mB 89) 7 = .ok (.ifnonnull 7, 3) := by decide +kernel
theorem s_89_7 {d : Nat} {Q : wQ} {L : List (Option Value)} {st : List Value} {w : aw} {cn sn : Nat} {q : Nat} : wp d 89 Q 7 L (.ref q :: st) w cn sn = wp d 89 Q 14 L st w cn sn := w_ifnn d_89_7 (t := 14) (by decide)
theorem s_89_7n {d : Nat} {Q : wQ} {L : List (Option Value)} {st : List Value} {w : aw} {cn sn : Nat}  : wp d 89 Q 7 L (.null :: st) w cn sn = wp d 89 Q 10 L st w cn sn := w_ifnnN d_89_7 (t := 14) (by decide)
theorem d_89_10 : decode (mB 89) 10 = .ok (.iconst (-1), 1) := by decide +kernel
theorem s_89_10 {d : Nat} {Q : wQ} {L : List (Option Value)} {st : List Value} {w : aw} {cn sn : Nat}  : wp d 89 Q 10 L st w cn sn = wp d 89 Q 11 L (.int (-1) :: st) w cn sn := w_iconst d_89_10 (by decide)
theorem d_89_11 : decode (mB 89) 11 = .ok (.goto 8, 3) := by decide +kernel
theorem s_89_11 {d : Nat} {Q : wQ} {L : List (Option Value)} {st : List Value} {w : aw} {cn sn : Nat}  : wp d 89 Q 11 L st w cn sn = wp d 89 Q 19 L st w cn sn := w_goto d_89_11 (by decide)
theorem d_89_14 : decode (mB 89) 14 = .ok (.aload_n 3, 1) := by decide +kernel
theorem s_89_14 {d : Nat} {Q : wQ} {L : List (Option Value)} {st : List Value} {w : aw} {cn sn : Nat} {a0 a1 a2 : Option Value} {v : Nat} : wp d 89 Q 14 (a0 :: a1 :: a2 :: some (.ref v) :: L) st w cn sn = wp d 89 Q 15 (a0 :: a1 :: a2 :: some (.ref v) :: L) (.ref v :: st) w cn sn := w_aload_n d_89_14 rfl
theorem s_89_14n {d : Nat} {Q : wQ} {L : List (Option Value)} {st : List Value} {w : aw} {cn sn : Nat} {a0 a1 a2 : Option Value} : wp d 89 Q 14 (a0 :: a1 :: a2 :: some .null :: L) st w cn sn = wp d 89 Q 15 (a0 :: a1 :: a2 :: some .null :: L) (.null :: st) w cn sn := w_aload_nN d_89_14 rfl
theorem d_89_15 : decode (mB 89) 15 = .ok (.iload_n 2, 1) := by decide +kernel
theorem s_89_15 {d : Nat} {Q : wQ} {L : List (Option Value)} {st : List Value} {w : aw} {cn sn : Nat} {a0 a1 : Option Value} {v : Int32} : wp d 89 Q 15 (a0 :: a1 :: some (.int v) :: L) st w cn sn = wp d 89 Q 16 (a0 :: a1 :: some (.int v) :: L) (.int v :: st) w cn sn := w_iload_n d_89_15 rfl
theorem d_89_16 : decode (mB 89) 16 = .ok (.invokevirtual 122, 3) := by decide +kernel
theorem s_89_16 {d : Nat} {Q : wQ} {L : List (Option Value)} {st : List Value} {w : aw} {cn sn : Nat} {v0 : Value} {b : Nat} : wp d 89 Q 16 L (v0 :: .ref b :: st) w cn sn = (kd w b = 7 ∧ catS st ≤ 8 ∧ wpD d 74 [.ref b, v0] w (fun v w' => wp d 89 Q 19 L (v.toList ++ st) w' cn sn)) := w_virtual (As := [v0]) d_89_16 (by decide +kernel : cT (mO 89) 122 = some (0, 74)) rfl (by decide +kernel) rfl (by decide +kernel) rfl
theorem d_89_19 : decode (mB 89) 19 = .ok (.ireturn, 1) := by decide +kernel
theorem s_89_19 {d : Nat} {Q : wQ} {L : List (Option Value)} {w : aw} {cn sn : Nat} {v : Int32} : wp d 89 Q 19 L [.int v] w cn sn = Q (some (.int v)) w := w_ireturn d_89_19 rfl
theorem d_90_0 : decode (mB 90) 0 = .ok (.aload_n 0, 1) := by decide +kernel
theorem s_90_0 {d : Nat} {Q : wQ} {L : List (Option Value)} {st : List Value} {w : aw} {cn sn : Nat} {v : Nat} : wp d 90 Q 0 (some (.ref v) :: L) st w cn sn = wp d 90 Q 1 (some (.ref v) :: L) (.ref v :: st) w cn sn := w_aload_n d_90_0 rfl
theorem d_90_1 : decode (mB 90) 1 = .ok (.iload_n 1, 1) := by decide +kernel
theorem s_90_1 {d : Nat} {Q : wQ} {L : List (Option Value)} {st : List Value} {w : aw} {cn sn : Nat} {a0 : Option Value} {v : Int32} : wp d 90 Q 1 (a0 :: some (.int v) :: L) st w cn sn = wp d 90 Q 2 (a0 :: some (.int v) :: L) (.int v :: st) w cn sn := w_iload_n d_90_1 rfl
theorem d_90_2 : decode (mB 90) 2 = .ok (.invokevirtual 53, 3) := by decide +kernel
theorem s_90_2 {d : Nat} {Q : wQ} {L : List (Option Value)} {st : List Value} {w : aw} {cn sn : Nat} {v0 : Value} {b : Nat} : wp d 90 Q 2 L (v0 :: .ref b :: st) w cn sn = (kd w b = 8 ∧ catS st ≤ 8 ∧ wpD d 97 [.ref b, v0] w (fun v w' => wp d 90 Q 5 L (v.toList ++ st) w' cn sn)) := w_virtual (As := [v0]) d_90_2 (by decide +kernel : cT (mO 90) 53 = some (0, 97)) rfl (by decide +kernel) rfl (by decide +kernel) rfl
theorem d_90_5 : decode (mB 90) 5 = .ok (.astore_n 3, 1) := by decide +kernel
theorem s_90_5 {d : Nat} {Q : wQ} {L : List (Option Value)} {st : List Value} {w : aw} {cn sn : Nat} {a0 a1 a2 a3 : Option Value} {v : Nat} : wp d 90 Q 5 (a0 :: a1 :: a2 :: a3 :: L) (.ref v :: st) w cn sn = wp d 90 Q 6 (a0 :: a1 :: clr a2 :: some (.ref v) :: L) st w cn sn := w_astore_n d_90_5 (Nat.le_add_left 4 _) rfl
theorem s_90_5n {d : Nat} {Q : wQ} {L : List (Option Value)} {st : List Value} {w : aw} {cn sn : Nat} {a0 a1 a2 a3 : Option Value} : wp d 90 Q 5 (a0 :: a1 :: a2 :: a3 :: L) (.null :: st) w cn sn = wp d 90 Q 6 (a0 :: a1 :: clr a2 :: some .null :: L) st w cn sn := w_astore_nN d_90_5 (Nat.le_add_left 4 _) rfl
theorem d_90_6 : decode (mB 90) 6 = .ok (.aload_n 3, 1) := by decide +kernel
theorem s_90_6 {d : Nat} {Q : wQ} {L : List (Option Value)} {st : List Value} {w : aw} {cn sn : Nat} {a0 a1 a2 : Option Value} {v : Nat} : wp d 90 Q 6 (a0 :: a1 :: a2 :: some (.ref v) :: L) st w cn sn = wp d 90 Q 7 (a0 :: a1 :: a2 :: some (.ref v) :: L) (.ref v :: st) w cn sn := w_aload_n d_90_6 rfl
theorem s_90_6n {d : Nat} {Q : wQ} {L : List (Option Value)} {st : List Value} {w : aw} {cn sn : Nat} {a0 a1 a2 : Option Value} : wp d 90 Q 6 (a0 :: a1 :: a2 :: some .null :: L) st w cn sn = wp d 90 Q 7 (a0 :: a1 :: a2 :: some .null :: L) (.null :: st) w cn sn := w_aload_nN d_90_6 rfl
theorem d_90_7 : decode (mB 90) 7 = .ok (.ifnonnull 7, 3) := by decide +kernel
theorem s_90_7 {d : Nat} {Q : wQ} {L : List (Option Value)} {st : List Value} {w : aw} {cn sn : Nat} {q : Nat} : wp d 90 Q 7 L (.ref q :: st) w cn sn = wp d 90 Q 14 L st w cn sn := w_ifnn d_90_7 (t := 14) (by decide)
theorem s_90_7n {d : Nat} {Q : wQ} {L : List (Option Value)} {st : List Value} {w : aw} {cn sn : Nat}  : wp d 90 Q 7 L (.null :: st) w cn sn = wp d 90 Q 10 L st w cn sn := w_ifnnN d_90_7 (t := 14) (by decide)
theorem d_90_10 : decode (mB 90) 10 = .ok (.iconst (-1), 1) := by decide +kernel
theorem s_90_10 {d : Nat} {Q : wQ} {L : List (Option Value)} {st : List Value} {w : aw} {cn sn : Nat}  : wp d 90 Q 10 L st w cn sn = wp d 90 Q 11 L (.int (-1) :: st) w cn sn := w_iconst d_90_10 (by decide)
theorem d_90_11 : decode (mB 90) 11 = .ok (.goto 8, 3) := by decide +kernel
theorem s_90_11 {d : Nat} {Q : wQ} {L : List (Option Value)} {st : List Value} {w : aw} {cn sn : Nat}  : wp d 90 Q 11 L st w cn sn = wp d 90 Q 19 L st w cn sn := w_goto d_90_11 (by decide)
theorem d_90_14 : decode (mB 90) 14 = .ok (.aload_n 3, 1) := by decide +kernel
theorem s_90_14 {d : Nat} {Q : wQ} {L : List (Option Value)} {st : List Value} {w : aw} {cn sn : Nat} {a0 a1 a2 : Option Value} {v : Nat} : wp d 90 Q 14 (a0 :: a1 :: a2 :: some (.ref v) :: L) st w cn sn = wp d 90 Q 15 (a0 :: a1 :: a2 :: some (.ref v) :: L) (.ref v :: st) w cn sn := w_aload_n d_90_14 rfl
theorem s_90_14n {d : Nat} {Q : wQ} {L : List (Option Value)} {st : List Value} {w : aw} {cn sn : Nat} {a0 a1 a2 : Option Value} : wp d 90 Q 14 (a0 :: a1 :: a2 :: some .null :: L) st w cn sn = wp d 90 Q 15 (a0 :: a1 :: a2 :: some .null :: L) (.null :: st) w cn sn := w_aload_nN d_90_14 rfl
theorem d_90_15 : decode (mB 90) 15 = .ok (.iload_n 2, 1) := by decide +kernel
theorem s_90_15 {d : Nat} {Q : wQ} {L : List (Option Value)} {st : List Value} {w : aw} {cn sn : Nat} {a0 a1 : Option Value} {v : Int32} : wp d 90 Q 15 (a0 :: a1 :: some (.int v) :: L) st w cn sn = wp d 90 Q 16 (a0 :: a1 :: some (.int v) :: L) (.int v :: st) w cn sn := w_iload_n d_90_15 rfl
theorem d_90_16 : decode (mB 90) 16 = .ok (.invokevirtual 126, 3) := by decide +kernel
theorem s_90_16 {d : Nat} {Q : wQ} {L : List (Option Value)} {st : List Value} {w : aw} {cn sn : Nat} {v0 : Value} {b : Nat} : wp d 90 Q 16 L (v0 :: .ref b :: st) w cn sn = (kd w b = 7 ∧ catS st ≤ 8 ∧ wpD d 73 [.ref b, v0] w (fun v w' => wp d 90 Q 19 L (v.toList ++ st) w' cn sn)) := w_virtual (As := [v0]) d_90_16 (by decide +kernel : cT (mO 90) 126 = some (0, 73)) rfl (by decide +kernel) rfl (by decide +kernel) rfl
theorem d_90_19 : decode (mB 90) 19 = .ok (.ireturn, 1) := by decide +kernel
theorem s_90_19 {d : Nat} {Q : wQ} {L : List (Option Value)} {w : aw} {cn sn : Nat} {v : Int32} : wp d 90 Q 19 L [.int v] w cn sn = Q (some (.int v)) w := w_ireturn d_90_19 rfl
theorem d_91_0 : decode (mB 91) 0 = .ok (.aload_n 0, 1) := by decide +kernel
theorem s_91_0 {d : Nat} {Q : wQ} {L : List (Option Value)} {st : List Value} {w : aw} {cn sn : Nat} {v : Nat} : wp d 91 Q 0 (some (.ref v) :: L) st w cn sn = wp d 91 Q 1 (some (.ref v) :: L) (.ref v :: st) w cn sn := w_aload_n d_91_0 rfl
theorem d_91_1 : decode (mB 91) 1 = .ok (.iload_n 1, 1) := by decide +kernel
theorem s_91_1 {d : Nat} {Q : wQ} {L : List (Option Value)} {st : List Value} {w : aw} {cn sn : Nat} {a0 : Option Value} {v : Int32} : wp d 91 Q 1 (a0 :: some (.int v) :: L) st w cn sn = wp d 91 Q 2 (a0 :: some (.int v) :: L) (.int v :: st) w cn sn := w_iload_n d_91_1 rfl
theorem d_91_2 : decode (mB 91) 2 = .ok (.invokevirtual 53, 3) := by decide +kernel
theorem s_91_2 {d : Nat} {Q : wQ} {L : List (Option Value)} {st : List Value} {w : aw} {cn sn : Nat} {v0 : Value} {b : Nat} : wp d 91 Q 2 L (v0 :: .ref b :: st) w cn sn = (kd w b = 8 ∧ catS st ≤ 8 ∧ wpD d 97 [.ref b, v0] w (fun v w' => wp d 91 Q 5 L (v.toList ++ st) w' cn sn)) := w_virtual (As := [v0]) d_91_2 (by decide +kernel : cT (mO 91) 53 = some (0, 97)) rfl (by decide +kernel) rfl (by decide +kernel) rfl
theorem d_91_5 : decode (mB 91) 5 = .ok (.astore_n 3, 1) := by decide +kernel
theorem s_91_5 {d : Nat} {Q : wQ} {L : List (Option Value)} {st : List Value} {w : aw} {cn sn : Nat} {a0 a1 a2 a3 : Option Value} {v : Nat} : wp d 91 Q 5 (a0 :: a1 :: a2 :: a3 :: L) (.ref v :: st) w cn sn = wp d 91 Q 6 (a0 :: a1 :: clr a2 :: some (.ref v) :: L) st w cn sn := w_astore_n d_91_5 (Nat.le_add_left 4 _) rfl
theorem s_91_5n {d : Nat} {Q : wQ} {L : List (Option Value)} {st : List Value} {w : aw} {cn sn : Nat} {a0 a1 a2 a3 : Option Value} : wp d 91 Q 5 (a0 :: a1 :: a2 :: a3 :: L) (.null :: st) w cn sn = wp d 91 Q 6 (a0 :: a1 :: clr a2 :: some .null :: L) st w cn sn := w_astore_nN d_91_5 (Nat.le_add_left 4 _) rfl
theorem d_91_6 : decode (mB 91) 6 = .ok (.aload_n 3, 1) := by decide +kernel
theorem s_91_6 {d : Nat} {Q : wQ} {L : List (Option Value)} {st : List Value} {w : aw} {cn sn : Nat} {a0 a1 a2 : Option Value} {v : Nat} : wp d 91 Q 6 (a0 :: a1 :: a2 :: some (.ref v) :: L) st w cn sn = wp d 91 Q 7 (a0 :: a1 :: a2 :: some (.ref v) :: L) (.ref v :: st) w cn sn := w_aload_n d_91_6 rfl
theorem s_91_6n {d : Nat} {Q : wQ} {L : List (Option Value)} {st : List Value} {w : aw} {cn sn : Nat} {a0 a1 a2 : Option Value} : wp d 91 Q 6 (a0 :: a1 :: a2 :: some .null :: L) st w cn sn = wp d 91 Q 7 (a0 :: a1 :: a2 :: some .null :: L) (.null :: st) w cn sn := w_aload_nN d_91_6 rfl
theorem d_91_7 : decode (mB 91) 7 = .ok (.ifnonnull 7, 3) := by decide +kernel
theorem s_91_7 {d : Nat} {Q : wQ} {L : List (Option Value)} {st : List Value} {w : aw} {cn sn : Nat} {q : Nat} : wp d 91 Q 7 L (.ref q :: st) w cn sn = wp d 91 Q 14 L st w cn sn := w_ifnn d_91_7 (t := 14) (by decide)
theorem s_91_7n {d : Nat} {Q : wQ} {L : List (Option Value)} {st : List Value} {w : aw} {cn sn : Nat}  : wp d 91 Q 7 L (.null :: st) w cn sn = wp d 91 Q 10 L st w cn sn := w_ifnnN d_91_7 (t := 14) (by decide)
theorem d_91_10 : decode (mB 91) 10 = .ok (.iconst (-1), 1) := by decide +kernel
theorem s_91_10 {d : Nat} {Q : wQ} {L : List (Option Value)} {st : List Value} {w : aw} {cn sn : Nat}  : wp d 91 Q 10 L st w cn sn = wp d 91 Q 11 L (.int (-1) :: st) w cn sn := w_iconst d_91_10 (by decide)
theorem d_91_11 : decode (mB 91) 11 = .ok (.goto 11, 3) := by decide +kernel
theorem s_91_11 {d : Nat} {Q : wQ} {L : List (Option Value)} {st : List Value} {w : aw} {cn sn : Nat}  : wp d 91 Q 11 L st w cn sn = wp d 91 Q 22 L st w cn sn := w_goto d_91_11 (by decide)
theorem d_91_14 : decode (mB 91) 14 = .ok (.aload_n 3, 1) := by decide +kernel
theorem s_91_14 {d : Nat} {Q : wQ} {L : List (Option Value)} {st : List Value} {w : aw} {cn sn : Nat} {a0 a1 a2 : Option Value} {v : Nat} : wp d 91 Q 14 (a0 :: a1 :: a2 :: some (.ref v) :: L) st w cn sn = wp d 91 Q 15 (a0 :: a1 :: a2 :: some (.ref v) :: L) (.ref v :: st) w cn sn := w_aload_n d_91_14 rfl
theorem s_91_14n {d : Nat} {Q : wQ} {L : List (Option Value)} {st : List Value} {w : aw} {cn sn : Nat} {a0 a1 a2 : Option Value} : wp d 91 Q 14 (a0 :: a1 :: a2 :: some .null :: L) st w cn sn = wp d 91 Q 15 (a0 :: a1 :: a2 :: some .null :: L) (.null :: st) w cn sn := w_aload_nN d_91_14 rfl
theorem d_91_15 : decode (mB 91) 15 = .ok (.getfield 106, 3) := by decide +kernel
theorem s_91_15 {d : Nat} {Q : wQ} {L : List (Option Value)} {st : List Value} {w : aw} {cn sn : Nat} {a : Nat} : wp d 91 Q 15 L (.ref a :: st) w cn sn = (kd w a = 7 ∧ wp d 91 Q 18 L (fd w 388 a :: st) w cn sn) := w_getfield d_91_15 (by decide +kernel : fT (mO 91) 106 = some (6, 4))
theorem d_91_18 : decode (mB 91) 18 = .ok (.iload_n 2, 1) := by decide +kernel
theorem s_91_18 {d : Nat} {Q : wQ} {L : List (Option Value)} {st : List Value} {w : aw} {cn sn : Nat} {a0 a1 : Option Value} {v : Int32} : wp d 91 Q 18 (a0 :: a1 :: some (.int v) :: L) st w cn sn = wp d 91 Q 19 (a0 :: a1 :: some (.int v) :: L) (.int v :: st) w cn sn := w_iload_n d_91_18 rfl
theorem d_91_19 : decode (mB 91) 19 = .ok (.invokevirtual 129, 3) := by decide +kernel
theorem s_91_19 {d : Nat} {Q : wQ} {L : List (Option Value)} {st : List Value} {w : aw} {cn sn : Nat} {v0 : Value} {b : Nat} : wp d 91 Q 19 L (v0 :: .ref b :: st) w cn sn = (kd w b = 3 ∧ catS st ≤ 8 ∧ wpD d 27 [.ref b, v0] w (fun v w' => wp d 91 Q 22 L (v.toList ++ st) w' cn sn)) := w_virtual (As := [v0]) d_91_19 (by decide +kernel : cT (mO 91) 129 = some (0, 27)) rfl (by decide +kernel) rfl (by decide +kernel) rfl
theorem d_91_22 : decode (mB 91) 22 = .ok (.ireturn, 1) := by decide +kernel
theorem s_91_22 {d : Nat} {Q : wQ} {L : List (Option Value)} {w : aw} {cn sn : Nat} {v : Int32} : wp d 91 Q 22 L [.int v] w cn sn = Q (some (.int v)) w := w_ireturn d_91_22 rfl
theorem d_92_0 : decode (mB 92) 0 = .ok (.aload_n 0, 1) := by decide +kernel
theorem s_92_0 {d : Nat} {Q : wQ} {L : List (Option Value)} {st : List Value} {w : aw} {cn sn : Nat} {v : Nat} : wp d 92 Q 0 (some (.ref v) :: L) st w cn sn = wp d 92 Q 1 (some (.ref v) :: L) (.ref v :: st) w cn sn := w_aload_n d_92_0 rfl
theorem d_92_1 : decode (mB 92) 1 = .ok (.iload_n 1, 1) := by decide +kernel
theorem s_92_1 {d : Nat} {Q : wQ} {L : List (Option Value)} {st : List Value} {w : aw} {cn sn : Nat} {a0 : Option Value} {v : Int32} : wp d 92 Q 1 (a0 :: some (.int v) :: L) st w cn sn = wp d 92 Q 2 (a0 :: some (.int v) :: L) (.int v :: st) w cn sn := w_iload_n d_92_1 rfl
theorem d_92_2 : decode (mB 92) 2 = .ok (.invokevirtual 53, 3) := by decide +kernel
theorem s_92_2 {d : Nat} {Q : wQ} {L : List (Option Value)} {st : List Value} {w : aw} {cn sn : Nat} {v0 : Value} {b : Nat} : wp d 92 Q 2 L (v0 :: .ref b :: st) w cn sn = (kd w b = 8 ∧ catS st ≤ 8 ∧ wpD d 97 [.ref b, v0] w (fun v w' => wp d 92 Q 5 L (v.toList ++ st) w' cn sn)) := w_virtual (As := [v0]) d_92_2 (by decide +kernel : cT (mO 92) 53 = some (0, 97)) rfl (by decide +kernel) rfl (by decide +kernel) rfl
theorem d_92_5 : decode (mB 92) 5 = .ok (.astore_n 3, 1) := by decide +kernel
theorem s_92_5 {d : Nat} {Q : wQ} {L : List (Option Value)} {st : List Value} {w : aw} {cn sn : Nat} {a0 a1 a2 a3 : Option Value} {v : Nat} : wp d 92 Q 5 (a0 :: a1 :: a2 :: a3 :: L) (.ref v :: st) w cn sn = wp d 92 Q 6 (a0 :: a1 :: clr a2 :: some (.ref v) :: L) st w cn sn := w_astore_n d_92_5 (Nat.le_add_left 4 _) rfl
theorem s_92_5n {d : Nat} {Q : wQ} {L : List (Option Value)} {st : List Value} {w : aw} {cn sn : Nat} {a0 a1 a2 a3 : Option Value} : wp d 92 Q 5 (a0 :: a1 :: a2 :: a3 :: L) (.null :: st) w cn sn = wp d 92 Q 6 (a0 :: a1 :: clr a2 :: some .null :: L) st w cn sn := w_astore_nN d_92_5 (Nat.le_add_left 4 _) rfl
theorem d_92_6 : decode (mB 92) 6 = .ok (.aload_n 3, 1) := by decide +kernel
theorem s_92_6 {d : Nat} {Q : wQ} {L : List (Option Value)} {st : List Value} {w : aw} {cn sn : Nat} {a0 a1 a2 : Option Value} {v : Nat} : wp d 92 Q 6 (a0 :: a1 :: a2 :: some (.ref v) :: L) st w cn sn = wp d 92 Q 7 (a0 :: a1 :: a2 :: some (.ref v) :: L) (.ref v :: st) w cn sn := w_aload_n d_92_6 rfl
theorem s_92_6n {d : Nat} {Q : wQ} {L : List (Option Value)} {st : List Value} {w : aw} {cn sn : Nat} {a0 a1 a2 : Option Value} : wp d 92 Q 6 (a0 :: a1 :: a2 :: some .null :: L) st w cn sn = wp d 92 Q 7 (a0 :: a1 :: a2 :: some .null :: L) (.null :: st) w cn sn := w_aload_nN d_92_6 rfl
theorem d_92_7 : decode (mB 92) 7 = .ok (.ifnonnull 7, 3) := by decide +kernel
theorem s_92_7 {d : Nat} {Q : wQ} {L : List (Option Value)} {st : List Value} {w : aw} {cn sn : Nat} {q : Nat} : wp d 92 Q 7 L (.ref q :: st) w cn sn = wp d 92 Q 14 L st w cn sn := w_ifnn d_92_7 (t := 14) (by decide)
theorem s_92_7n {d : Nat} {Q : wQ} {L : List (Option Value)} {st : List Value} {w : aw} {cn sn : Nat}  : wp d 92 Q 7 L (.null :: st) w cn sn = wp d 92 Q 10 L st w cn sn := w_ifnnN d_92_7 (t := 14) (by decide)
theorem d_92_10 : decode (mB 92) 10 = .ok (.iconst (-1), 1) := by decide +kernel
theorem s_92_10 {d : Nat} {Q : wQ} {L : List (Option Value)} {st : List Value} {w : aw} {cn sn : Nat}  : wp d 92 Q 10 L st w cn sn = wp d 92 Q 11 L (.int (-1) :: st) w cn sn := w_iconst d_92_10 (by decide)
theorem d_92_11 : decode (mB 92) 11 = .ok (.goto 11, 3) := by decide +kernel
theorem s_92_11 {d : Nat} {Q : wQ} {L : List (Option Value)} {st : List Value} {w : aw} {cn sn : Nat}  : wp d 92 Q 11 L st w cn sn = wp d 92 Q 22 L st w cn sn := w_goto d_92_11 (by decide)
theorem d_92_14 : decode (mB 92) 14 = .ok (.aload_n 3, 1) := by decide +kernel
theorem s_92_14 {d : Nat} {Q : wQ} {L : List (Option Value)} {st : List Value} {w : aw} {cn sn : Nat} {a0 a1 a2 : Option Value} {v : Nat} : wp d 92 Q 14 (a0 :: a1 :: a2 :: some (.ref v) :: L) st w cn sn = wp d 92 Q 15 (a0 :: a1 :: a2 :: some (.ref v) :: L) (.ref v :: st) w cn sn := w_aload_n d_92_14 rfl
theorem s_92_14n {d : Nat} {Q : wQ} {L : List (Option Value)} {st : List Value} {w : aw} {cn sn : Nat} {a0 a1 a2 : Option Value} : wp d 92 Q 14 (a0 :: a1 :: a2 :: some .null :: L) st w cn sn = wp d 92 Q 15 (a0 :: a1 :: a2 :: some .null :: L) (.null :: st) w cn sn := w_aload_nN d_92_14 rfl
theorem d_92_15 : decode (mB 92) 15 = .ok (.getfield 132, 3) := by decide +kernel
theorem s_92_15 {d : Nat} {Q : wQ} {L : List (Option Value)} {st : List Value} {w : aw} {cn sn : Nat} {a : Nat} : wp d 92 Q 15 L (.ref a :: st) w cn sn = (kd w a = 7 ∧ wp d 92 Q 18 L (fd w 389 a :: st) w cn sn) := w_getfield d_92_15 (by decide +kernel : fT (mO 92) 132 = some (6, 5))
theorem d_92_18 : decode (mB 92) 18 = .ok (.iload_n 2, 1) := by decide +kernel
theorem s_92_18 {d : Nat} {Q : wQ} {L : List (Option Value)} {st : List Value} {w : aw} {cn sn : Nat} {a0 a1 : Option Value} {v : Int32} : wp d 92 Q 18 (a0 :: a1 :: some (.int v) :: L) st w cn sn = wp d 92 Q 19 (a0 :: a1 :: some (.int v) :: L) (.int v :: st) w cn sn := w_iload_n d_92_18 rfl
theorem d_92_19 : decode (mB 92) 19 = .ok (.invokevirtual 129, 3) := by decide +kernel
theorem s_92_19 {d : Nat} {Q : wQ} {L : List (Option Value)} {st : List Value} {w : aw} {cn sn : Nat} {v0 : Value} {b : Nat} : wp d 92 Q 19 L (v0 :: .ref b :: st) w cn sn = (kd w b = 3 ∧ catS st ≤ 8 ∧ wpD d 27 [.ref b, v0] w (fun v w' => wp d 92 Q 22 L (v.toList ++ st) w' cn sn)) := w_virtual (As := [v0]) d_92_19 (by decide +kernel : cT (mO 92) 129 = some (0, 27)) rfl (by decide +kernel) rfl (by decide +kernel) rfl
theorem d_92_22 : decode (mB 92) 22 = .ok (.ireturn, 1) := by decide +kernel
theorem s_92_22 {d : Nat} {Q : wQ} {L : List (Option Value)} {w : aw} {cn sn : Nat} {v : Int32} : wp d 92 Q 22 L [.int v] w cn sn = Q (some (.int v)) w := w_ireturn d_92_22 rfl
theorem d_93_0 : decode (mB 93) 0 = .ok (.aload_n 0, 1) := by decide +kernel
theorem s_93_0 {d : Nat} {Q : wQ} {L : List (Option Value)} {st : List Value} {w : aw} {cn sn : Nat} {v : Nat} : wp d 93 Q 0 (some (.ref v) :: L) st w cn sn = wp d 93 Q 1 (some (.ref v) :: L) (.ref v :: st) w cn sn := w_aload_n d_93_0 rfl
theorem d_93_1 : decode (mB 93) 1 = .ok (.getfield 25, 3) := by decide +kernel
theorem s_93_1 {d : Nat} {Q : wQ} {L : List (Option Value)} {st : List Value} {w : aw} {cn sn : Nat} {a : Nat} : wp d 93 Q 1 L (.ref a :: st) w cn sn = (kd w a = 8 ∧ wp d 93 Q 4 L (fd w 450 a :: st) w cn sn) := w_getfield d_93_1 (by decide +kernel : fT (mO 93) 25 = some (7, 2))
theorem d_93_4 : decode (mB 93) 4 = .ok (.ifnonnull 7, 3) := by decide +kernel
theorem s_93_4 {d : Nat} {Q : wQ} {L : List (Option Value)} {st : List Value} {w : aw} {cn sn : Nat} {q : Nat} : wp d 93 Q 4 L (.ref q :: st) w cn sn = wp d 93 Q 11 L st w cn sn := w_ifnn d_93_4 (t := 11) (by decide)
theorem s_93_4n {d : Nat} {Q : wQ} {L : List (Option Value)} {st : List Value} {w : aw} {cn sn : Nat}  : wp d 93 Q 4 L (.null :: st) w cn sn = wp d 93 Q 7 L st w cn sn := w_ifnnN d_93_4 (t := 11) (by decide)
theorem d_93_7 : decode (mB 93) 7 = .ok (.iconst (-1), 1) := by decide +kernel
theorem s_93_7 {d : Nat} {Q : wQ} {L : List (Option Value)} {st : List Value} {w : aw} {cn sn : Nat}  : wp d 93 Q 7 L st w cn sn = wp d 93 Q 8 L (.int (-1) :: st) w cn sn := w_iconst d_93_7 (by decide)
theorem d_93_8 : decode (mB 93) 8 = .ok (.goto 11, 3) := by decide +kernel
theorem s_93_8 {d : Nat} {Q : wQ} {L : List (Option Value)} {st : List Value} {w : aw} {cn sn : Nat}  : wp d 93 Q 8 L st w cn sn = wp d 93 Q 19 L st w cn sn := w_goto d_93_8 (by decide)
theorem d_93_11 : decode (mB 93) 11 = .ok (.aload_n 0, 1) := by decide +kernel
theorem s_93_11 {d : Nat} {Q : wQ} {L : List (Option Value)} {st : List Value} {w : aw} {cn sn : Nat} {v : Nat} : wp d 93 Q 11 (some (.ref v) :: L) st w cn sn = wp d 93 Q 12 (some (.ref v) :: L) (.ref v :: st) w cn sn := w_aload_n d_93_11 rfl
theorem d_93_12 : decode (mB 93) 12 = .ok (.getfield 25, 3) := by decide +kernel
theorem s_93_12 {d : Nat} {Q : wQ} {L : List (Option Value)} {st : List Value} {w : aw} {cn sn : Nat} {a : Nat} : wp d 93 Q 12 L (.ref a :: st) w cn sn = (kd w a = 8 ∧ wp d 93 Q 15 L (fd w 450 a :: st) w cn sn) := w_getfield d_93_12 (by decide +kernel : fT (mO 93) 25 = some (7, 2))
theorem d_93_15 : decode (mB 93) 15 = .ok (.iload_n 1, 1) := by decide +kernel
theorem s_93_15 {d : Nat} {Q : wQ} {L : List (Option Value)} {st : List Value} {w : aw} {cn sn : Nat} {a0 : Option Value} {v : Int32} : wp d 93 Q 15 (a0 :: some (.int v) :: L) st w cn sn = wp d 93 Q 16 (a0 :: some (.int v) :: L) (.int v :: st) w cn sn := w_iload_n d_93_15 rfl
theorem d_93_16 : decode (mB 93) 16 = .ok (.invokevirtual 135, 3) := by decide +kernel
theorem s_93_16 {d : Nat} {Q : wQ} {L : List (Option Value)} {st : List Value} {w : aw} {cn sn : Nat} {v0 : Value} {b : Nat} : wp d 93 Q 16 L (v0 :: .ref b :: st) w cn sn = (kd w b = 2 ∧ catS st ≤ 8 ∧ wpD d 23 [.ref b, v0] w (fun v w' => wp d 93 Q 19 L (v.toList ++ st) w' cn sn)) := w_virtual (As := [v0]) d_93_16 (by decide +kernel : cT (mO 93) 135 = some (0, 23)) rfl (by decide +kernel) rfl (by decide +kernel) rfl
theorem d_93_19 : decode (mB 93) 19 = .ok (.ireturn, 1) := by decide +kernel
theorem s_93_19 {d : Nat} {Q : wQ} {L : List (Option Value)} {w : aw} {cn sn : Nat} {v : Int32} : wp d 93 Q 19 L [.int v] w cn sn = Q (some (.int v)) w := w_ireturn d_93_19 rfl
theorem d_94_0 : decode (mB 94) 0 = .ok (.aload_n 0, 1) := by decide +kernel
theorem s_94_0 {d : Nat} {Q : wQ} {L : List (Option Value)} {st : List Value} {w : aw} {cn sn : Nat} {v : Nat} : wp d 94 Q 0 (some (.ref v) :: L) st w cn sn = wp d 94 Q 1 (some (.ref v) :: L) (.ref v :: st) w cn sn := w_aload_n d_94_0 rfl
theorem d_94_1 : decode (mB 94) 1 = .ok (.getfield 25, 3) := by decide +kernel
theorem s_94_1 {d : Nat} {Q : wQ} {L : List (Option Value)} {st : List Value} {w : aw} {cn sn : Nat} {a : Nat} : wp d 94 Q 1 L (.ref a :: st) w cn sn = (kd w a = 8 ∧ wp d 94 Q 4 L (fd w 450 a :: st) w cn sn) := w_getfield d_94_1 (by decide +kernel : fT (mO 94) 25 = some (7, 2))
theorem d_94_4 : decode (mB 94) 4 = .ok (.ifnonnull 7, 3) := by decide +kernel
theorem s_94_4 {d : Nat} {Q : wQ} {L : List (Option Value)} {st : List Value} {w : aw} {cn sn : Nat} {q : Nat} : wp d 94 Q 4 L (.ref q :: st) w cn sn = wp d 94 Q 11 L st w cn sn := w_ifnn d_94_4 (t := 11) (by decide)
theorem s_94_4n {d : Nat} {Q : wQ} {L : List (Option Value)} {st : List Value} {w : aw} {cn sn : Nat}  : wp d 94 Q 4 L (.null :: st) w cn sn = wp d 94 Q 7 L st w cn sn := w_ifnnN d_94_4 (t := 11) (by decide)
theorem d_94_7 : decode (mB 94) 7 = .ok (.iconst (-1), 1) := by decide +kernel
theorem s_94_7 {d : Nat} {Q : wQ} {L : List (Option Value)} {st : List Value} {w : aw} {cn sn : Nat}  : wp d 94 Q 7 L st w cn sn = wp d 94 Q 8 L (.int (-1) :: st) w cn sn := w_iconst d_94_7 (by decide)
theorem d_94_8 : decode (mB 94) 8 = .ok (.goto 11, 3) := by decide +kernel
theorem s_94_8 {d : Nat} {Q : wQ} {L : List (Option Value)} {st : List Value} {w : aw} {cn sn : Nat}  : wp d 94 Q 8 L st w cn sn = wp d 94 Q 19 L st w cn sn := w_goto d_94_8 (by decide)
theorem d_94_11 : decode (mB 94) 11 = .ok (.aload_n 0, 1) := by decide +kernel
theorem s_94_11 {d : Nat} {Q : wQ} {L : List (Option Value)} {st : List Value} {w : aw} {cn sn : Nat} {v : Nat} : wp d 94 Q 11 (some (.ref v) :: L) st w cn sn = wp d 94 Q 12 (some (.ref v) :: L) (.ref v :: st) w cn sn := w_aload_n d_94_11 rfl
theorem d_94_12 : decode (mB 94) 12 = .ok (.getfield 25, 3) := by decide +kernel
theorem s_94_12 {d : Nat} {Q : wQ} {L : List (Option Value)} {st : List Value} {w : aw} {cn sn : Nat} {a : Nat} : wp d 94 Q 12 L (.ref a :: st) w cn sn = (kd w a = 8 ∧ wp d 94 Q 15 L (fd w 450 a :: st) w cn sn) := w_getfield d_94_12 (by decide +kernel : fT (mO 94) 25 = some (7, 2))
theorem d_94_15 : decode (mB 94) 15 = .ok (.iload_n 1, 1) := by decide +kernel
theorem s_94_15 {d : Nat} {Q : wQ} {L : List (Option Value)} {st : List Value} {w : aw} {cn sn : Nat} {a0 : Option Value} {v : Int32} : wp d 94 Q 15 (a0 :: some (.int v) :: L) st w cn sn = wp d 94 Q 16 (a0 :: some (.int v) :: L) (.int v :: st) w cn sn := w_iload_n d_94_15 rfl
theorem d_94_16 : decode (mB 94) 16 = .ok (.invokevirtual 136, 3) := by decide +kernel
theorem s_94_16 {d : Nat} {Q : wQ} {L : List (Option Value)} {st : List Value} {w : aw} {cn sn : Nat} {v0 : Value} {b : Nat} : wp d 94 Q 16 L (v0 :: .ref b :: st) w cn sn = (kd w b = 2 ∧ catS st ≤ 8 ∧ wpD d 22 [.ref b, v0] w (fun v w' => wp d 94 Q 19 L (v.toList ++ st) w' cn sn)) := w_virtual (As := [v0]) d_94_16 (by decide +kernel : cT (mO 94) 136 = some (0, 22)) rfl (by decide +kernel) rfl (by decide +kernel) rfl
theorem d_94_19 : decode (mB 94) 19 = .ok (.ireturn, 1) := by decide +kernel
theorem s_94_19 {d : Nat} {Q : wQ} {L : List (Option Value)} {w : aw} {cn sn : Nat} {v : Int32} : wp d 94 Q 19 L [.int v] w cn sn = Q (some (.int v)) w := w_ireturn d_94_19 rfl
theorem d_95_0 : decode (mB 95) 0 = .ok (.ldc2_w 139, 3) := by decide +kernel
theorem s_95_0 {d : Nat} {Q : wQ} {L : List (Option Value)} {st : List Value} {w : aw} {cn sn : Nat}  : wp d 95 Q 0 L st w cn sn = wp d 95 Q 3 L (.long 7 :: st) w cn sn := w_ldc2 d_95_0 (by decide +kernel : kT (mO 95) 139 = some (.long 7))
theorem d_95_3 : decode (mB 95) 3 = .ok (.lstore_n 1, 1) := by decide +kernel
theorem s_95_3 {d : Nat} {Q : wQ} {L : List (Option Value)} {st : List Value} {w : aw} {cn sn : Nat} {a0 a1 a2 : Option Value} {v : Int64} : wp d 95 Q 3 (a0 :: a1 :: a2 :: L) (.long v :: st) w cn sn = wp d 95 Q 4 (clr a0 :: some (.long v) :: none :: L) st w cn sn := w_lstore_n d_95_3 (Nat.le_add_left 3 _) rfl
theorem d_95_4 : decode (mB 95) 4 = .ok (.iconst 0, 1) := by decide +kernel
theorem s_95_4 {d : Nat} {Q : wQ} {L : List (Option Value)} {st : List Value} {w : aw} {cn sn : Nat}  : wp d 95 Q 4 L st w cn sn = wp d 95 Q 5 L (.int 0 :: st) w cn sn := w_iconst d_95_4 (by decide)
theorem d_95_5 : decode (mB 95) 5 = .ok (.istore_n 3, 1) := by decide +kernel
theorem s_95_5 {d : Nat} {Q : wQ} {L : List (Option Value)} {st : List Value} {w : aw} {cn sn : Nat} {a0 a1 a2 a3 : Option Value} {v : Int32} : wp d 95 Q 5 (a0 :: a1 :: a2 :: a3 :: L) (.int v :: st) w cn sn = wp d 95 Q 6 (a0 :: a1 :: clr a2 :: some (.int v) :: L) st w cn sn := w_istore_n d_95_5 (Nat.le_add_left 4 _) rfl
theorem d_95_6 : decode (mB 95) 6 = .ok (.iload_n 3, 1) := by decide +kernel
theorem s_95_6 {d : Nat} {Q : wQ} {L : List (Option Value)} {st : List Value} {w : aw} {cn sn : Nat} {a0 a1 a2 : Option Value} {v : Int32} : wp d 95 Q 6 (a0 :: a1 :: a2 :: some (.int v) :: L) st w cn sn = wp d 95 Q 7 (a0 :: a1 :: a2 :: some (.int v) :: L) (.int v :: st) w cn sn := w_iload_n d_95_6 rfl
theorem d_95_7 : decode (mB 95) 7 = .ok (.bipush 11, 2) := by decide +kernel
theorem s_95_7 {d : Nat} {Q : wQ} {L : List (Option Value)} {st : List Value} {w : aw} {cn sn : Nat}  : wp d 95 Q 7 L st w cn sn = wp d 95 Q 9 L (.int 11 :: st) w cn sn := w_bipush d_95_7 (by decide)
theorem d_95_9 : decode (mB 95) 9 = .ok (.if_icmp .ge 22, 3) := by decide +kernel
theorem s_95_9 {d : Nat} {Q : wQ} {L : List (Option Value)} {st : List Value} {w : aw} {cn sn : Nat} {a b : Int32} : wp d 95 Q 9 L (.int b :: .int a :: st) w cn sn = ((b ≤ a → wp d 95 Q 31 L st w cn sn) ∧ (¬ b ≤ a → wp d 95 Q 12 L st w cn sn)) := w_icge d_95_9 (by decide)
theorem d_95_12 : decode (mB 95) 12 = .ok (.lload_n 1, 1) := by decide +kernel
theorem s_95_12 {d : Nat} {Q : wQ} {L : List (Option Value)} {st : List Value} {w : aw} {cn sn : Nat} {a0 : Option Value} {v : Int64} : wp d 95 Q 12 (a0 :: some (.long v) :: L) st w cn sn = wp d 95 Q 13 (a0 :: some (.long v) :: L) (.long v :: st) w cn sn := w_lload_n d_95_12 rfl
theorem d_95_13 : decode (mB 95) 13 = .ok (.ldc2_w 141, 3) := by decide +kernel
theorem s_95_13 {d : Nat} {Q : wQ} {L : List (Option Value)} {st : List Value} {w : aw} {cn sn : Nat}  : wp d 95 Q 13 L st w cn sn = wp d 95 Q 16 L (.long 31 :: st) w cn sn := w_ldc2 d_95_13 (by decide +kernel : kT (mO 95) 141 = some (.long 31))
theorem d_95_16 : decode (mB 95) 16 = .ok (.lmul, 1) := by decide +kernel
theorem s_95_16 {d : Nat} {Q : wQ} {L : List (Option Value)} {st : List Value} {w : aw} {cn sn : Nat} {a b : Int64} : wp d 95 Q 16 L (.long b :: .long a :: st) w cn sn = wp d 95 Q 17 L (.long (a * b) :: st) w cn sn := wp_row d_95_16 _ _ _ _ _
theorem d_95_17 : decode (mB 95) 17 = .ok (.aload_n 0, 1) := by decide +kernel
theorem s_95_17 {d : Nat} {Q : wQ} {L : List (Option Value)} {st : List Value} {w : aw} {cn sn : Nat} {v : Nat} : wp d 95 Q 17 (some (.ref v) :: L) st w cn sn = wp d 95 Q 18 (some (.ref v) :: L) (.ref v :: st) w cn sn := w_aload_n d_95_17 rfl
theorem d_95_18 : decode (mB 95) 18 = .ok (.iload_n 3, 1) := by decide +kernel
theorem s_95_18 {d : Nat} {Q : wQ} {L : List (Option Value)} {st : List Value} {w : aw} {cn sn : Nat} {a0 a1 a2 : Option Value} {v : Int32} : wp d 95 Q 18 (a0 :: a1 :: a2 :: some (.int v) :: L) st w cn sn = wp d 95 Q 19 (a0 :: a1 :: a2 :: some (.int v) :: L) (.int v :: st) w cn sn := w_iload_n d_95_18 rfl
theorem d_95_19 : decode (mB 95) 19 = .ok (.invokevirtual 143, 3) := by decide +kernel
theorem s_95_19 {d : Nat} {Q : wQ} {L : List (Option Value)} {st : List Value} {w : aw} {cn sn : Nat} {v0 : Value} {b : Nat} : wp d 95 Q 19 L (v0 :: .ref b :: st) w cn sn = (kd w b = 8 ∧ catS st ≤ 8 ∧ wpD d 93 [.ref b, v0] w (fun v w' => wp d 95 Q 22 L (v.toList ++ st) w' cn sn)) := w_virtual (As := [v0]) d_95_19 (by decide +kernel : cT (mO 95) 143 = some (0, 93)) rfl (by decide +kernel) rfl (by decide +kernel) rfl
theorem d_95_22 : decode (mB 95) 22 = .ok (.i2l, 1) := by decide +kernel
theorem s_95_22 {d : Nat} {Q : wQ} {L : List (Option Value)} {st : List Value} {w : aw} {cn sn : Nat} {a : Int32} : wp d 95 Q 22 L (.int a :: st) w cn sn = wp d 95 Q 23 L (.long a.toInt64 :: st) w cn sn := wp_row d_95_22 _ _ _ _ _
theorem d_95_23 : decode (mB 95) 23 = .ok (.ladd, 1) := by decide +kernel
theorem s_95_23 {d : Nat} {Q : wQ} {L : List (Option Value)} {st : List Value} {w : aw} {cn sn : Nat} {a b : Int64} : wp d 95 Q 23 L (.long b :: .long a :: st) w cn sn = wp d 95 Q 24 L (.long (a + b) :: st) w cn sn := wp_row d_95_23 _ _ _ _ _
theorem d_95_24 : decode (mB 95) 24 = .ok (.lstore_n 1, 1) := by decide +kernel
theorem s_95_24 {d : Nat} {Q : wQ} {L : List (Option Value)} {st : List Value} {w : aw} {cn sn : Nat} {a0 a1 a2 : Option Value} {v : Int64} : wp d 95 Q 24 (a0 :: a1 :: a2 :: L) (.long v :: st) w cn sn = wp d 95 Q 25 (clr a0 :: some (.long v) :: none :: L) st w cn sn := w_lstore_n d_95_24 (Nat.le_add_left 3 _) rfl
theorem d_95_25 : decode (mB 95) 25 = .ok (.iinc 3 1, 3) := by decide +kernel
theorem s_95_25 {d : Nat} {Q : wQ} {L : List (Option Value)} {st : List Value} {w : aw} {cn sn : Nat} {a0 a1 a2 : Option Value} {v : Int32} : wp d 95 Q 25 (a0 :: a1 :: a2 :: some (.int v) :: L) st w cn sn = wp d 95 Q 28 (a0 :: a1 :: clr a2 :: some (.int (v + 1)) :: L) st w cn sn := w_iinc d_95_25 rfl (by decide) rfl
theorem d_95_28 : decode (mB 95) 28 = .ok (.goto (-22), 3) := by decide +kernel
theorem s_95_28 {d : Nat} {Q : wQ} {L : List (Option Value)} {st : List Value} {w : aw} {cn sn : Nat}  : wp d 95 Q 28 L st w cn sn = wp d 95 Q 6 L st w cn sn := w_goto d_95_28 (by decide)
theorem d_95_31 : decode (mB 95) 31 = .ok (.iconst 0, 1) := by decide +kernel
theorem s_95_31 {d : Nat} {Q : wQ} {L : List (Option Value)} {st : List Value} {w : aw} {cn sn : Nat}  : wp d 95 Q 31 L st w cn sn = wp d 95 Q 32 L (.int 0 :: st) w cn sn := w_iconst d_95_31 (by decide)
theorem d_95_32 : decode (mB 95) 32 = .ok (.istore_n 3, 1) := by decide +kernel
theorem s_95_32 {d : Nat} {Q : wQ} {L : List (Option Value)} {st : List Value} {w : aw} {cn sn : Nat} {a0 a1 a2 a3 : Option Value} {v : Int32} : wp d 95 Q 32 (a0 :: a1 :: a2 :: a3 :: L) (.int v :: st) w cn sn = wp d 95 Q 33 (a0 :: a1 :: clr a2 :: some (.int v) :: L) st w cn sn := w_istore_n d_95_32 (Nat.le_add_left 4 _) rfl
theorem d_95_33 : decode (mB 95) 33 = .ok (.iload_n 3, 1) := by decide +kernel
theorem s_95_33 {d : Nat} {Q : wQ} {L : List (Option Value)} {st : List Value} {w : aw} {cn sn : Nat} {a0 a1 a2 : Option Value} {v : Int32} : wp d 95 Q 33 (a0 :: a1 :: a2 :: some (.int v) :: L) st w cn sn = wp d 95 Q 34 (a0 :: a1 :: a2 :: some (.int v) :: L) (.int v :: st) w cn sn := w_iload_n d_95_33 rfl
theorem d_95_34 : decode (mB 95) 34 = .ok (.bipush 8, 2) := by decide +kernel
theorem s_95_34 {d : Nat} {Q : wQ} {L : List (Option Value)} {st : List Value} {w : aw} {cn sn : Nat}  : wp d 95 Q 34 L st w cn sn = wp d 95 Q 36 L (.int 8 :: st) w cn sn := w_bipush d_95_34 (by decide)
theorem d_95_36 : decode (mB 95) 36 = .ok (.if_icmp .ge 28, 3) := by decide +kernel
theorem s_95_36 {d : Nat} {Q : wQ} {L : List (Option Value)} {st : List Value} {w : aw} {cn sn : Nat} {a b : Int32} : wp d 95 Q 36 L (.int b :: .int a :: st) w cn sn = ((b ≤ a → wp d 95 Q 64 L st w cn sn) ∧ (¬ b ≤ a → wp d 95 Q 39 L st w cn sn)) := w_icge d_95_36 (by decide)
theorem d_95_39 : decode (mB 95) 39 = .ok (.aload_n 0, 1) := by decide +kernel
theorem s_95_39 {d : Nat} {Q : wQ} {L : List (Option Value)} {st : List Value} {w : aw} {cn sn : Nat} {v : Nat} : wp d 95 Q 39 (some (.ref v) :: L) st w cn sn = wp d 95 Q 40 (some (.ref v) :: L) (.ref v :: st) w cn sn := w_aload_n d_95_39 rfl
theorem d_95_40 : decode (mB 95) 40 = .ok (.iload_n 3, 1) := by decide +kernel
theorem s_95_40 {d : Nat} {Q : wQ} {L : List (Option Value)} {st : List Value} {w : aw} {cn sn : Nat} {a0 a1 a2 : Option Value} {v : Int32} : wp d 95 Q 40 (a0 :: a1 :: a2 :: some (.int v) :: L) st w cn sn = wp d 95 Q 41 (a0 :: a1 :: a2 :: some (.int v) :: L) (.int v :: st) w cn sn := w_iload_n d_95_40 rfl
theorem d_95_41 : decode (mB 95) 41 = .ok (.invokevirtual 53, 3) := by decide +kernel
theorem s_95_41 {d : Nat} {Q : wQ} {L : List (Option Value)} {st : List Value} {w : aw} {cn sn : Nat} {v0 : Value} {b : Nat} : wp d 95 Q 41 L (v0 :: .ref b :: st) w cn sn = (kd w b = 8 ∧ catS st ≤ 8 ∧ wpD d 97 [.ref b, v0] w (fun v w' => wp d 95 Q 44 L (v.toList ++ st) w' cn sn)) := w_virtual (As := [v0]) d_95_41 (by decide +kernel : cT (mO 95) 53 = some (0, 97)) rfl (by decide +kernel) rfl (by decide +kernel) rfl
theorem d_95_44 : decode (mB 95) 44 = .ok (.astore 4, 2) := by decide +kernel
theorem s_95_44 {d : Nat} {Q : wQ} {L : List (Option Value)} {st : List Value} {w : aw} {cn sn : Nat} {a0 a1 a2 a3 a4 : Option Value} {v : Nat} : wp d 95 Q 44 (a0 :: a1 :: a2 :: a3 :: a4 :: L) (.ref v :: st) w cn sn = wp d 95 Q 46 (a0 :: a1 :: a2 :: clr a3 :: some (.ref v) :: L) st w cn sn := w_astore d_95_44 (Nat.le_add_left 5 _) rfl
theorem s_95_44n {d : Nat} {Q : wQ} {L : List (Option Value)} {st : List Value} {w : aw} {cn sn : Nat} {a0 a1 a2 a3 a4 : Option Value} : wp d 95 Q 44 (a0 :: a1 :: a2 :: a3 :: a4 :: L) (.null :: st) w cn sn = wp d 95 Q 46 (a0 :: a1 :: a2 :: clr a3 :: some .null :: L) st w cn sn := w_astoreN d_95_44 (Nat.le_add_left 5 _) rfl
theorem d_95_46 : decode (mB 95) 46 = .ok (.aload 4, 2) := by decide +kernel
theorem s_95_46 {d : Nat} {Q : wQ} {L : List (Option Value)} {st : List Value} {w : aw} {cn sn : Nat} {a0 a1 a2 a3 : Option Value} {v : Nat} : wp d 95 Q 46 (a0 :: a1 :: a2 :: a3 :: some (.ref v) :: L) st w cn sn = wp d 95 Q 48 (a0 :: a1 :: a2 :: a3 :: some (.ref v) :: L) (.ref v :: st) w cn sn := w_aload d_95_46 rfl
theorem s_95_46n {d : Nat} {Q : wQ} {L : List (Option Value)} {st : List Value} {w : aw} {cn sn : Nat} {a0 a1 a2 a3 : Option Value} : wp d 95 Q 46 (a0 :: a1 :: a2 :: a3 :: some .null :: L) st w cn sn = wp d 95 Q 48 (a0 :: a1 :: a2 :: a3 :: some .null :: L) (.null :: st) w cn sn := w_aloadN d_95_46 rfl
theorem d_95_48 : decode (mB 95) 48 = .ok (.ifnull 10, 3) := by decide +kernel
theorem s_95_48 {d : Nat} {Q : wQ} {L : List (Option Value)} {st : List Value} {w : aw} {cn sn : Nat} {q : Nat} : wp d 95 Q 48 L (.ref q :: st) w cn sn = wp d 95 Q 51 L st w cn sn := w_ifnull d_95_48 (t := 58) (by decide)
theorem s_95_48n {d : Nat} {Q : wQ} {L : List (Option Value)} {st : List Value} {w : aw} {cn sn : Nat}  : wp d 95 Q 48 L (.null :: st) w cn sn = wp d 95 Q 58 L st w cn sn := w_ifnullN d_95_48 (t := 58) (by decide)
theorem d_95_51 : decode (mB 95) 51 = .ok (.aload 4, 2) := by decide +kernel
theorem s_95_51 {d : Nat} {Q : wQ} {L : List (Option Value)} {st : List Value} {w : aw} {cn sn : Nat} {a0 a1 a2 a3 : Option Value} {v : Nat} : wp d 95 Q 51 (a0 :: a1 :: a2 :: a3 :: some (.ref v) :: L) st w cn sn = wp d 95 Q 53 (a0 :: a1 :: a2 :: a3 :: some (.ref v) :: L) (.ref v :: st) w cn sn := w_aload d_95_51 rfl
theorem s_95_51n {d : Nat} {Q : wQ} {L : List (Option Value)} {st : List Value} {w : aw} {cn sn : Nat} {a0 a1 a2 a3 : Option Value} : wp d 95 Q 51 (a0 :: a1 :: a2 :: a3 :: some .null :: L) st w cn sn = wp d 95 Q 53 (a0 :: a1 :: a2 :: a3 :: some .null :: L) (.null :: st) w cn sn := w_aloadN d_95_51 rfl
theorem d_95_53 : decode (mB 95) 53 = .ok (.lload_n 1, 1) := by decide +kernel
theorem s_95_53 {d : Nat} {Q : wQ} {L : List (Option Value)} {st : List Value} {w : aw} {cn sn : Nat} {a0 : Option Value} {v : Int64} : wp d 95 Q 53 (a0 :: some (.long v) :: L) st w cn sn = wp d 95 Q 54 (a0 :: some (.long v) :: L) (.long v :: st) w cn sn := w_lload_n d_95_53 rfl
theorem d_95_54 : decode (mB 95) 54 = .ok (.invokestatic 146, 3) := by decide +kernel
theorem s_95_54 {d : Nat} {Q : wQ} {L : List (Option Value)} {st : List Value} {w : aw} {cn sn : Nat} {v0 v1 : Value} : wp d 95 Q 54 L (v1 :: v0 :: st) w cn sn = (catS st ≤ 8 ∧ wpD d 96 [v0, v1] w (fun v w' => wp d 95 Q 57 L (v.toList ++ st) w' cn sn)) := w_static (As := [v0, v1]) d_95_54 (by decide +kernel : cT (mO 95) 146 = some (2, 96)) rfl (by decide +kernel) rfl
theorem d_95_57 : decode (mB 95) 57 = .ok (.lstore_n 1, 1) := by decide +kernel
theorem s_95_57 {d : Nat} {Q : wQ} {L : List (Option Value)} {st : List Value} {w : aw} {cn sn : Nat} {a0 a1 a2 : Option Value} {v : Int64} : wp d 95 Q 57 (a0 :: a1 :: a2 :: L) (.long v :: st) w cn sn = wp d 95 Q 58 (clr a0 :: some (.long v) :: none :: L) st w cn sn := w_lstore_n d_95_57 (Nat.le_add_left 3 _) rfl
theorem d_95_58 : decode (mB 95) 58 = .ok (.iinc 3 1, 3) := by decide +kernel
theorem s_95_58 {d : Nat} {Q : wQ} {L : List (Option Value)} {st : List Value} {w : aw} {cn sn : Nat} {a0 a1 a2 : Option Value} {v : Int32} : wp d 95 Q 58 (a0 :: a1 :: a2 :: some (.int v) :: L) st w cn sn = wp d 95 Q 61 (a0 :: a1 :: clr a2 :: some (.int (v + 1)) :: L) st w cn sn := w_iinc d_95_58 rfl (by decide) rfl
theorem d_95_61 : decode (mB 95) 61 = .ok (.goto (-28), 3) := by decide +kernel
theorem s_95_61 {d : Nat} {Q : wQ} {L : List (Option Value)} {st : List Value} {w : aw} {cn sn : Nat}  : wp d 95 Q 61 L st w cn sn = wp d 95 Q 33 L st w cn sn := w_goto d_95_61 (by decide)
theorem d_95_64 : decode (mB 95) 64 = .ok (.lload_n 1, 1) := by decide +kernel
theorem s_95_64 {d : Nat} {Q : wQ} {L : List (Option Value)} {st : List Value} {w : aw} {cn sn : Nat} {a0 : Option Value} {v : Int64} : wp d 95 Q 64 (a0 :: some (.long v) :: L) st w cn sn = wp d 95 Q 65 (a0 :: some (.long v) :: L) (.long v :: st) w cn sn := w_lload_n d_95_64 rfl
theorem d_95_65 : decode (mB 95) 65 = .ok (.lreturn, 1) := by decide +kernel
theorem s_95_65 {d : Nat} {Q : wQ} {L : List (Option Value)} {w : aw} {cn sn : Nat} {v : Int64} : wp d 95 Q 65 L [.long v] w cn sn = Q (some (.long v)) w := w_lreturn d_95_65 rfl
theorem d_96_0 : decode (mB 96) 0 = .ok (.lload_n 1, 1) := by decide +kernel
theorem s_96_0 {d : Nat} {Q : wQ} {L : List (Option Value)} {st : List Value} {w : aw} {cn sn : Nat} {a0 : Option Value} {v : Int64} : wp d 96 Q 0 (a0 :: some (.long v) :: L) st w cn sn = wp d 96 Q 1 (a0 :: some (.long v) :: L) (.long v :: st) w cn sn := w_lload_n d_96_0 rfl
theorem d_96_1 : decode (mB 96) 1 = .ok (.lstore_n 3, 1) := by decide +kernel
theorem s_96_1 {d : Nat} {Q : wQ} {L : List (Option Value)} {st : List Value} {w : aw} {cn sn : Nat} {a0 a1 a2 a3 a4 : Option Value} {v : Int64} : wp d 96 Q 1 (a0 :: a1 :: a2 :: a3 :: a4 :: L) (.long v :: st) w cn sn = wp d 96 Q 2 (a0 :: a1 :: clr a2 :: some (.long v) :: none :: L) st w cn sn := w_lstore_n d_96_1 (Nat.le_add_left 5 _) rfl
theorem d_96_2 : decode (mB 96) 2 = .ok (.iconst 0, 1) := by decide +kernel
theorem s_96_2 {d : Nat} {Q : wQ} {L : List (Option Value)} {st : List Value} {w : aw} {cn sn : Nat}  : wp d 96 Q 2 L st w cn sn = wp d 96 Q 3 L (.int 0 :: st) w cn sn := w_iconst d_96_2 (by decide)
theorem d_96_3 : decode (mB 96) 3 = .ok (.istore 5, 2) := by decide +kernel
theorem s_96_3 {d : Nat} {Q : wQ} {L : List (Option Value)} {st : List Value} {w : aw} {cn sn : Nat} {a0 a1 a2 a3 a4 a5 : Option Value} {v : Int32} : wp d 96 Q 3 (a0 :: a1 :: a2 :: a3 :: a4 :: a5 :: L) (.int v :: st) w cn sn = wp d 96 Q 5 (a0 :: a1 :: a2 :: a3 :: clr a4 :: some (.int v) :: L) st w cn sn := w_istore d_96_3 (Nat.le_add_left 6 _) rfl
theorem d_96_5 : decode (mB 96) 5 = .ok (.iload 5, 2) := by decide +kernel
theorem s_96_5 {d : Nat} {Q : wQ} {L : List (Option Value)} {st : List Value} {w : aw} {cn sn : Nat} {a0 a1 a2 a3 a4 : Option Value} {v : Int32} : wp d 96 Q 5 (a0 :: a1 :: a2 :: a3 :: a4 :: some (.int v) :: L) st w cn sn = wp d 96 Q 7 (a0 :: a1 :: a2 :: a3 :: a4 :: some (.int v) :: L) (.int v :: st) w cn sn := w_iload d_96_5 rfl
theorem d_96_7 : decode (mB 96) 7 = .ok (.bipush 12, 2) := by decide +kernel
theorem s_96_7 {d : Nat} {Q : wQ} {L : List (Option Value)} {st : List Value} {w : aw} {cn sn : Nat}  : wp d 96 Q 7 L st w cn sn = wp d 96 Q 9 L (.int 12 :: st) w cn sn := w_bipush d_96_7 (by decide)
theorem d_96_9 : decode (mB 96) 9 = .ok (.if_icmp .ge 23, 3) := by decide +kernel
theorem s_96_9 {d : Nat} {Q : wQ} {L : List (Option Value)} {st : List Value} {w : aw} {cn sn : Nat} {a b : Int32} : wp d 96 Q 9 L (.int b :: .int a :: st) w cn sn = ((b ≤ a → wp d 96 Q 32 L st w cn sn) ∧ (¬ b ≤ a → wp d 96 Q 12 L st w cn sn)) := w_icge d_96_9 (by decide)
theorem d_96_12 : decode (mB 96) 12 = .ok (.lload_n 3, 1) := by decide +kernel
theorem s_96_12 {d : Nat} {Q : wQ} {L : List (Option Value)} {st : List Value} {w : aw} {cn sn : Nat} {a0 a1 a2 : Option Value} {v : Int64} : wp d 96 Q 12 (a0 :: a1 :: a2 :: some (.long v) :: L) st w cn sn = wp d 96 Q 13 (a0 :: a1 :: a2 :: some (.long v) :: L) (.long v :: st) w cn sn := w_lload_n d_96_12 rfl
theorem d_96_13 : decode (mB 96) 13 = .ok (.ldc2_w 141, 3) := by decide +kernel
theorem s_96_13 {d : Nat} {Q : wQ} {L : List (Option Value)} {st : List Value} {w : aw} {cn sn : Nat}  : wp d 96 Q 13 L st w cn sn = wp d 96 Q 16 L (.long 31 :: st) w cn sn := w_ldc2 d_96_13 (by decide +kernel : kT (mO 96) 141 = some (.long 31))
theorem d_96_16 : decode (mB 96) 16 = .ok (.lmul, 1) := by decide +kernel
theorem s_96_16 {d : Nat} {Q : wQ} {L : List (Option Value)} {st : List Value} {w : aw} {cn sn : Nat} {a b : Int64} : wp d 96 Q 16 L (.long b :: .long a :: st) w cn sn = wp d 96 Q 17 L (.long (a * b) :: st) w cn sn := wp_row d_96_16 _ _ _ _ _
theorem d_96_17 : decode (mB 96) 17 = .ok (.aload_n 0, 1) := by decide +kernel
theorem s_96_17 {d : Nat} {Q : wQ} {L : List (Option Value)} {st : List Value} {w : aw} {cn sn : Nat} {v : Nat} : wp d 96 Q 17 (some (.ref v) :: L) st w cn sn = wp d 96 Q 18 (some (.ref v) :: L) (.ref v :: st) w cn sn := w_aload_n d_96_17 rfl
theorem s_96_17n {d : Nat} {Q : wQ} {L : List (Option Value)} {st : List Value} {w : aw} {cn sn : Nat}  : wp d 96 Q 17 (some .null :: L) st w cn sn = wp d 96 Q 18 (some .null :: L) (.null :: st) w cn sn := w_aload_nN d_96_17 rfl
theorem d_96_18 : decode (mB 96) 18 = .ok (.iload 5, 2) := by decide +kernel
theorem s_96_18 {d : Nat} {Q : wQ} {L : List (Option Value)} {st : List Value} {w : aw} {cn sn : Nat} {a0 a1 a2 a3 a4 : Option Value} {v : Int32} : wp d 96 Q 18 (a0 :: a1 :: a2 :: a3 :: a4 :: some (.int v) :: L) st w cn sn = wp d 96 Q 20 (a0 :: a1 :: a2 :: a3 :: a4 :: some (.int v) :: L) (.int v :: st) w cn sn := w_iload d_96_18 rfl
theorem d_96_20 : decode (mB 96) 20 = .ok (.invokevirtual 122, 3) := by decide +kernel
theorem s_96_20 {d : Nat} {Q : wQ} {L : List (Option Value)} {st : List Value} {w : aw} {cn sn : Nat} {v0 : Value} {b : Nat} : wp d 96 Q 20 L (v0 :: .ref b :: st) w cn sn = (kd w b = 7 ∧ catS st ≤ 8 ∧ wpD d 74 [.ref b, v0] w (fun v w' => wp d 96 Q 23 L (v.toList ++ st) w' cn sn)) := w_virtual (As := [v0]) d_96_20 (by decide +kernel : cT (mO 96) 122 = some (0, 74)) rfl (by decide +kernel) rfl (by decide +kernel) rfl
theorem d_96_23 : decode (mB 96) 23 = .ok (.i2l, 1) := by decide +kernel
theorem s_96_23 {d : Nat} {Q : wQ} {L : List (Option Value)} {st : List Value} {w : aw} {cn sn : Nat} {a : Int32} : wp d 96 Q 23 L (.int a :: st) w cn sn = wp d 96 Q 24 L (.long a.toInt64 :: st) w cn sn := wp_row d_96_23 _ _ _ _ _
theorem d_96_24 : decode (mB 96) 24 = .ok (.ladd, 1) := by decide +kernel
theorem s_96_24 {d : Nat} {Q : wQ} {L : List (Option Value)} {st : List Value} {w : aw} {cn sn : Nat} {a b : Int64} : wp d 96 Q 24 L (.long b :: .long a :: st) w cn sn = wp d 96 Q 25 L (.long (a + b) :: st) w cn sn := wp_row d_96_24 _ _ _ _ _
theorem d_96_25 : decode (mB 96) 25 = .ok (.lstore_n 3, 1) := by decide +kernel
theorem s_96_25 {d : Nat} {Q : wQ} {L : List (Option Value)} {st : List Value} {w : aw} {cn sn : Nat} {a0 a1 a2 a3 a4 : Option Value} {v : Int64} : wp d 96 Q 25 (a0 :: a1 :: a2 :: a3 :: a4 :: L) (.long v :: st) w cn sn = wp d 96 Q 26 (a0 :: a1 :: clr a2 :: some (.long v) :: none :: L) st w cn sn := w_lstore_n d_96_25 (Nat.le_add_left 5 _) rfl
theorem d_96_26 : decode (mB 96) 26 = .ok (.iinc 5 1, 3) := by decide +kernel
theorem s_96_26 {d : Nat} {Q : wQ} {L : List (Option Value)} {st : List Value} {w : aw} {cn sn : Nat} {a0 a1 a2 a3 a4 : Option Value} {v : Int32} : wp d 96 Q 26 (a0 :: a1 :: a2 :: a3 :: a4 :: some (.int v) :: L) st w cn sn = wp d 96 Q 29 (a0 :: a1 :: a2 :: a3 :: clr a4 :: some (.int (v + 1)) :: L) st w cn sn := w_iinc d_96_26 rfl (by decide) rfl
theorem d_96_29 : decode (mB 96) 29 = .ok (.goto (-24), 3) := by decide +kernel
theorem s_96_29 {d : Nat} {Q : wQ} {L : List (Option Value)} {st : List Value} {w : aw} {cn sn : Nat}  : wp d 96 Q 29 L st w cn sn = wp d 96 Q 5 L st w cn sn := w_goto d_96_29 (by decide)
theorem d_96_32 : decode (mB 96) 32 = .ok (.aload_n 0, 1) := by decide +kernel
theorem s_96_32 {d : Nat} {Q : wQ} {L : List (Option Value)} {st : List Value} {w : aw} {cn sn : Nat} {v : Nat} : wp d 96 Q 32 (some (.ref v) :: L) st w cn sn = wp d 96 Q 33 (some (.ref v) :: L) (.ref v :: st) w cn sn := w_aload_n d_96_32 rfl
theorem s_96_32n {d : Nat} {Q : wQ} {L : List (Option Value)} {st : List Value} {w : aw} {cn sn : Nat}  : wp d 96 Q 32 (some .null :: L) st w cn sn = wp d 96 Q 33 (some .null :: L) (.null :: st) w cn sn := w_aload_nN d_96_32 rfl
theorem d_96_33 : decode (mB 96) 33 = .ok (.getfield 64, 3) := by decide +kernel
theorem s_96_33 {d : Nat} {Q : wQ} {L : List (Option Value)} {st : List Value} {w : aw} {cn sn : Nat} {a : Nat} : wp d 96 Q 33 L (.ref a :: st) w cn sn = (kd w a = 7 ∧ wp d 96 Q 36 L (fd w 385 a :: st) w cn sn) := w_getfield d_96_33 (by decide +kernel : fT (mO 96) 64 = some (6, 1))
theorem d_96_36 : decode (mB 96) 36 = .ok (.astore 5, 2) := by decide +kernel
theorem s_96_36 {d : Nat} {Q : wQ} {L : List (Option Value)} {st : List Value} {w : aw} {cn sn : Nat} {a0 a1 a2 a3 a4 a5 : Option Value} {v : Nat} : wp d 96 Q 36 (a0 :: a1 :: a2 :: a3 :: a4 :: a5 :: L) (.ref v :: st) w cn sn = wp d 96 Q 38 (a0 :: a1 :: a2 :: a3 :: clr a4 :: some (.ref v) :: L) st w cn sn := w_astore d_96_36 (Nat.le_add_left 6 _) rfl
theorem s_96_36n {d : Nat} {Q : wQ} {L : List (Option Value)} {st : List Value} {w : aw} {cn sn : Nat} {a0 a1 a2 a3 a4 a5 : Option Value} : wp d 96 Q 36 (a0 :: a1 :: a2 :: a3 :: a4 :: a5 :: L) (.null :: st) w cn sn = wp d 96 Q 38 (a0 :: a1 :: a2 :: a3 :: clr a4 :: some .null :: L) st w cn sn := w_astoreN d_96_36 (Nat.le_add_left 6 _) rfl
theorem d_96_38 : decode (mB 96) 38 = .ok (.aload 5, 2) := by decide +kernel
theorem s_96_38 {d : Nat} {Q : wQ} {L : List (Option Value)} {st : List Value} {w : aw} {cn sn : Nat} {a0 a1 a2 a3 a4 : Option Value} {v : Nat} : wp d 96 Q 38 (a0 :: a1 :: a2 :: a3 :: a4 :: some (.ref v) :: L) st w cn sn = wp d 96 Q 40 (a0 :: a1 :: a2 :: a3 :: a4 :: some (.ref v) :: L) (.ref v :: st) w cn sn := w_aload d_96_38 rfl
theorem s_96_38n {d : Nat} {Q : wQ} {L : List (Option Value)} {st : List Value} {w : aw} {cn sn : Nat} {a0 a1 a2 a3 a4 : Option Value} : wp d 96 Q 38 (a0 :: a1 :: a2 :: a3 :: a4 :: some .null :: L) st w cn sn = wp d 96 Q 40 (a0 :: a1 :: a2 :: a3 :: a4 :: some .null :: L) (.null :: st) w cn sn := w_aloadN d_96_38 rfl
theorem d_96_40 : decode (mB 96) 40 = .ok (.arraylength, 1) := by decide +kernel
theorem s_96_40 {d : Nat} {Q : wQ} {L : List (Option Value)} {st : List Value} {w : aw} {cn sn : Nat} {a : Nat} : wp d 96 Q 40 L (.ref a :: st) w cn sn = ((tyA (kd w a)).isSome = true ∧ wp d 96 Q 41 L (.int (nI (ln w a)) :: st) w cn sn) := wp_row d_96_40 _ _ _ _ _
theorem d_96_41 : decode (mB 96) 41 = .ok (.istore 6, 2) := by decide +kernel
theorem s_96_41 {d : Nat} {Q : wQ} {L : List (Option Value)} {st : List Value} {w : aw} {cn sn : Nat} {a0 a1 a2 a3 a4 a5 a6 : Option Value} {v : Int32} : wp d 96 Q 41 (a0 :: a1 :: a2 :: a3 :: a4 :: a5 :: a6 :: L) (.int v :: st) w cn sn = wp d 96 Q 43 (a0 :: a1 :: a2 :: a3 :: a4 :: clr a5 :: some (.int v) :: L) st w cn sn := w_istore d_96_41 (Nat.le_add_left 7 _) rfl
theorem d_96_43 : decode (mB 96) 43 = .ok (.iconst 0, 1) := by decide +kernel
theorem s_96_43 {d : Nat} {Q : wQ} {L : List (Option Value)} {st : List Value} {w : aw} {cn sn : Nat}  : wp d 96 Q 43 L st w cn sn = wp d 96 Q 44 L (.int 0 :: st) w cn sn := w_iconst d_96_43 (by decide)
theorem d_96_44 : decode (mB 96) 44 = .ok (.istore 7, 2) := by decide +kernel
theorem s_96_44 {d : Nat} {Q : wQ} {L : List (Option Value)} {st : List Value} {w : aw} {cn sn : Nat} {a0 a1 a2 a3 a4 a5 a6 a7 : Option Value} {v : Int32} : wp d 96 Q 44 (a0 :: a1 :: a2 :: a3 :: a4 :: a5 :: a6 :: a7 :: L) (.int v :: st) w cn sn = wp d 96 Q 46 (a0 :: a1 :: a2 :: a3 :: a4 :: a5 :: clr a6 :: some (.int v) :: L) st w cn sn := w_istore d_96_44 (Nat.le_add_left 8 _) rfl
theorem d_96_46 : decode (mB 96) 46 = .ok (.iload 7, 2) := by decide +kernel
theorem s_96_46 {d : Nat} {Q : wQ} {L : List (Option Value)} {st : List Value} {w : aw} {cn sn : Nat} {a0 a1 a2 a3 a4 a5 a6 : Option Value} {v : Int32} : wp d 96 Q 46 (a0 :: a1 :: a2 :: a3 :: a4 :: a5 :: a6 :: some (.int v) :: L) st w cn sn = wp d 96 Q 48 (a0 :: a1 :: a2 :: a3 :: a4 :: a5 :: a6 :: some (.int v) :: L) (.int v :: st) w cn sn := w_iload d_96_46 rfl
theorem d_96_48 : decode (mB 96) 48 = .ok (.iload 6, 2) := by decide +kernel
theorem s_96_48 {d : Nat} {Q : wQ} {L : List (Option Value)} {st : List Value} {w : aw} {cn sn : Nat} {a0 a1 a2 a3 a4 a5 : Option Value} {v : Int32} : wp d 96 Q 48 (a0 :: a1 :: a2 :: a3 :: a4 :: a5 :: some (.int v) :: L) st w cn sn = wp d 96 Q 50 (a0 :: a1 :: a2 :: a3 :: a4 :: a5 :: some (.int v) :: L) (.int v :: st) w cn sn := w_iload d_96_48 rfl
theorem d_96_50 : decode (mB 96) 50 = .ok (.if_icmp .ge 26, 3) := by decide +kernel
theorem s_96_50 {d : Nat} {Q : wQ} {L : List (Option Value)} {st : List Value} {w : aw} {cn sn : Nat} {a b : Int32} : wp d 96 Q 50 L (.int b :: .int a :: st) w cn sn = ((b ≤ a → wp d 96 Q 76 L st w cn sn) ∧ (¬ b ≤ a → wp d 96 Q 53 L st w cn sn)) := w_icge d_96_50 (by decide)
theorem d_96_53 : decode (mB 96) 53 = .ok (.aload 5, 2) := by decide +kernel
theorem s_96_53 {d : Nat} {Q : wQ} {L : List (Option Value)} {st : List Value} {w : aw} {cn sn : Nat} {a0 a1 a2 a3 a4 : Option Value} {v : Nat} : wp d 96 Q 53 (a0 :: a1 :: a2 :: a3 :: a4 :: some (.ref v) :: L) st w cn sn = wp d 96 Q 55 (a0 :: a1 :: a2 :: a3 :: a4 :: some (.ref v) :: L) (.ref v :: st) w cn sn := w_aload d_96_53 rfl
theorem s_96_53n {d : Nat} {Q : wQ} {L : List (Option Value)} {st : List Value} {w : aw} {cn sn : Nat} {a0 a1 a2 a3 a4 : Option Value} : wp d 96 Q 53 (a0 :: a1 :: a2 :: a3 :: a4 :: some .null :: L) st w cn sn = wp d 96 Q 55 (a0 :: a1 :: a2 :: a3 :: a4 :: some .null :: L) (.null :: st) w cn sn := w_aloadN d_96_53 rfl
theorem d_96_55 : decode (mB 96) 55 = .ok (.iload 7, 2) := by decide +kernel
theorem s_96_55 {d : Nat} {Q : wQ} {L : List (Option Value)} {st : List Value} {w : aw} {cn sn : Nat} {a0 a1 a2 a3 a4 a5 a6 : Option Value} {v : Int32} : wp d 96 Q 55 (a0 :: a1 :: a2 :: a3 :: a4 :: a5 :: a6 :: some (.int v) :: L) st w cn sn = wp d 96 Q 57 (a0 :: a1 :: a2 :: a3 :: a4 :: a5 :: a6 :: some (.int v) :: L) (.int v :: st) w cn sn := w_iload d_96_55 rfl
theorem d_96_57 : decode (mB 96) 57 = .ok (.iaload, 1) := by decide +kernel
theorem s_96_57 {d : Nat} {Q : wQ} {L : List (Option Value)} {st : List Value} {w : aw} {cn sn : Nat} {a : Nat} {i : Int32} : wp d 96 Q 57 L (.int i :: .ref a :: st) w cn sn = ((kd w a = 20 ∨ kd w a = 30) ∧ inR i (ln w a) ∧ wp d 96 Q 58 L (.int (ai w a i.toNatClampNeg) :: st) w cn sn) := wp_row d_96_57 _ _ _ _ _
theorem d_96_58 : decode (mB 96) 58 = .ok (.istore 8, 2) := by decide +kernel
theorem s_96_58 {d : Nat} {Q : wQ} {L : List (Option Value)} {st : List Value} {w : aw} {cn sn : Nat} {a0 a1 a2 a3 a4 a5 a6 a7 a8 : Option Value} {v : Int32} : wp d 96 Q 58 (a0 :: a1 :: a2 :: a3 :: a4 :: a5 :: a6 :: a7 :: a8 :: L) (.int v :: st) w cn sn = wp d 96 Q 60 (a0 :: a1 :: a2 :: a3 :: a4 :: a5 :: a6 :: clr a7 :: some (.int v) :: L) st w cn sn := w_istore d_96_58 (Nat.le_add_left 9 _) rfl
theorem d_96_60 : decode (mB 96) 60 = .ok (.lload_n 3, 1) := by decide +kernel
theorem s_96_60 {d : Nat} {Q : wQ} {L : List (Option Value)} {st : List Value} {w : aw} {cn sn : Nat} {a0 a1 a2 : Option Value} {v : Int64} : wp d 96 Q 60 (a0 :: a1 :: a2 :: some (.long v) :: L) st w cn sn = wp d 96 Q 61 (a0 :: a1 :: a2 :: some (.long v) :: L) (.long v :: st) w cn sn := w_lload_n d_96_60 rfl
theorem d_96_61 : decode (mB 96) 61 = .ok (.ldc2_w 141, 3) := by decide +kernel
theorem s_96_61 {d : Nat} {Q : wQ} {L : List (Option Value)} {st : List Value} {w : aw} {cn sn : Nat}  : wp d 96 Q 61 L st w cn sn = wp d 96 Q 64 L (.long 31 :: st) w cn sn := w_ldc2 d_96_61 (by decide +kernel : kT (mO 96) 141 = some (.long 31))
theorem d_96_64 : decode (mB 96) 64 = .ok (.lmul, 1) := by decide +kernel
theorem s_96_64 {d : Nat} {Q : wQ} {L : List (Option Value)} {st : List Value} {w : aw} {cn sn : Nat} {a b : Int64} : wp d 96 Q 64 L (.long b :: .long a :: st) w cn sn = wp d 96 Q 65 L (.long (a * b) :: st) w cn sn := wp_row d_96_64 _ _ _ _ _
theorem d_96_65 : decode (mB 96) 65 = .ok (.iload 8, 2) := by decide +kernel
theorem s_96_65 {d : Nat} {Q : wQ} {L : List (Option Value)} {st : List Value} {w : aw} {cn sn : Nat} {a0 a1 a2 a3 a4 a5 a6 a7 : Option Value} {v : Int32} : wp d 96 Q 65 (a0 :: a1 :: a2 :: a3 :: a4 :: a5 :: a6 :: a7 :: some (.int v) :: L) st w cn sn = wp d 96 Q 67 (a0 :: a1 :: a2 :: a3 :: a4 :: a5 :: a6 :: a7 :: some (.int v) :: L) (.int v :: st) w cn sn := w_iload d_96_65 rfl
theorem d_96_67 : decode (mB 96) 67 = .ok (.i2l, 1) := by decide +kernel
theorem s_96_67 {d : Nat} {Q : wQ} {L : List (Option Value)} {st : List Value} {w : aw} {cn sn : Nat} {a : Int32} : wp d 96 Q 67 L (.int a :: st) w cn sn = wp d 96 Q 68 L (.long a.toInt64 :: st) w cn sn := wp_row d_96_67 _ _ _ _ _
theorem d_96_68 : decode (mB 96) 68 = .ok (.ladd, 1) := by decide +kernel
theorem s_96_68 {d : Nat} {Q : wQ} {L : List (Option Value)} {st : List Value} {w : aw} {cn sn : Nat} {a b : Int64} : wp d 96 Q 68 L (.long b :: .long a :: st) w cn sn = wp d 96 Q 69 L (.long (a + b) :: st) w cn sn := wp_row d_96_68 _ _ _ _ _
theorem d_96_69 : decode (mB 96) 69 = .ok (.lstore_n 3, 1) := by decide +kernel
theorem s_96_69 {d : Nat} {Q : wQ} {L : List (Option Value)} {st : List Value} {w : aw} {cn sn : Nat} {a0 a1 a2 a3 a4 : Option Value} {v : Int64} : wp d 96 Q 69 (a0 :: a1 :: a2 :: a3 :: a4 :: L) (.long v :: st) w cn sn = wp d 96 Q 70 (a0 :: a1 :: clr a2 :: some (.long v) :: none :: L) st w cn sn := w_lstore_n d_96_69 (Nat.le_add_left 5 _) rfl
theorem d_96_70 : decode (mB 96) 70 = .ok (.iinc 7 1, 3) := by decide +kernel
theorem s_96_70 {d : Nat} {Q : wQ} {L : List (Option Value)} {st : List Value} {w : aw} {cn sn : Nat} {a0 a1 a2 a3 a4 a5 a6 : Option Value} {v : Int32} : wp d 96 Q 70 (a0 :: a1 :: a2 :: a3 :: a4 :: a5 :: a6 :: some (.int v) :: L) st w cn sn = wp d 96 Q 73 (a0 :: a1 :: a2 :: a3 :: a4 :: a5 :: clr a6 :: some (.int (v + 1)) :: L) st w cn sn := w_iinc d_96_70 rfl (by decide) rfl
theorem d_96_73 : decode (mB 96) 73 = .ok (.goto (-27), 3) := by decide +kernel
theorem s_96_73 {d : Nat} {Q : wQ} {L : List (Option Value)} {st : List Value} {w : aw} {cn sn : Nat}  : wp d 96 Q 73 L st w cn sn = wp d 96 Q 46 L st w cn sn := w_goto d_96_73 (by decide)
theorem d_96_76 : decode (mB 96) 76 = .ok (.aload_n 0, 1) := by decide +kernel
theorem s_96_76 {d : Nat} {Q : wQ} {L : List (Option Value)} {st : List Value} {w : aw} {cn sn : Nat} {v : Nat} : wp d 96 Q 76 (some (.ref v) :: L) st w cn sn = wp d 96 Q 77 (some (.ref v) :: L) (.ref v :: st) w cn sn := w_aload_n d_96_76 rfl
theorem s_96_76n {d : Nat} {Q : wQ} {L : List (Option Value)} {st : List Value} {w : aw} {cn sn : Nat}  : wp d 96 Q 76 (some .null :: L) st w cn sn = wp d 96 Q 77 (some .null :: L) (.null :: st) w cn sn := w_aload_nN d_96_76 rfl
theorem d_96_77 : decode (mB 96) 77 = .ok (.getfield 87, 3) := by decide +kernel
theorem s_96_77 {d : Nat} {Q : wQ} {L : List (Option Value)} {st : List Value} {w : aw} {cn sn : Nat} {a : Nat} : wp d 96 Q 77 L (.ref a :: st) w cn sn = (kd w a = 7 ∧ wp d 96 Q 80 L (fd w 386 a :: st) w cn sn) := w_getfield d_96_77 (by decide +kernel : fT (mO 96) 87 = some (6, 2))
theorem d_96_80 : decode (mB 96) 80 = .ok (.astore 5, 2) := by decide +kernel
theorem s_96_80 {d : Nat} {Q : wQ} {L : List (Option Value)} {st : List Value} {w : aw} {cn sn : Nat} {a0 a1 a2 a3 a4 a5 : Option Value} {v : Nat} : wp d 96 Q 80 (a0 :: a1 :: a2 :: a3 :: a4 :: a5 :: L) (.ref v :: st) w cn sn = wp d 96 Q 82 (a0 :: a1 :: a2 :: a3 :: clr a4 :: some (.ref v) :: L) st w cn sn := w_astore d_96_80 (Nat.le_add_left 6 _) rfl
theorem s_96_80n {d : Nat} {Q : wQ} {L : List (Option Value)} {st : List Value} {w : aw} {cn sn : Nat} {a0 a1 a2 a3 a4 a5 : Option Value} : wp d 96 Q 80 (a0 :: a1 :: a2 :: a3 :: a4 :: a5 :: L) (.null :: st) w cn sn = wp d 96 Q 82 (a0 :: a1 :: a2 :: a3 :: clr a4 :: some .null :: L) st w cn sn := w_astoreN d_96_80 (Nat.le_add_left 6 _) rfl
theorem d_96_82 : decode (mB 96) 82 = .ok (.aload 5, 2) := by decide +kernel
theorem s_96_82 {d : Nat} {Q : wQ} {L : List (Option Value)} {st : List Value} {w : aw} {cn sn : Nat} {a0 a1 a2 a3 a4 : Option Value} {v : Nat} : wp d 96 Q 82 (a0 :: a1 :: a2 :: a3 :: a4 :: some (.ref v) :: L) st w cn sn = wp d 96 Q 84 (a0 :: a1 :: a2 :: a3 :: a4 :: some (.ref v) :: L) (.ref v :: st) w cn sn := w_aload d_96_82 rfl
theorem s_96_82n {d : Nat} {Q : wQ} {L : List (Option Value)} {st : List Value} {w : aw} {cn sn : Nat} {a0 a1 a2 a3 a4 : Option Value} : wp d 96 Q 82 (a0 :: a1 :: a2 :: a3 :: a4 :: some .null :: L) st w cn sn = wp d 96 Q 84 (a0 :: a1 :: a2 :: a3 :: a4 :: some .null :: L) (.null :: st) w cn sn := w_aloadN d_96_82 rfl
theorem d_96_84 : decode (mB 96) 84 = .ok (.arraylength, 1) := by decide +kernel
theorem s_96_84 {d : Nat} {Q : wQ} {L : List (Option Value)} {st : List Value} {w : aw} {cn sn : Nat} {a : Nat} : wp d 96 Q 84 L (.ref a :: st) w cn sn = ((tyA (kd w a)).isSome = true ∧ wp d 96 Q 85 L (.int (nI (ln w a)) :: st) w cn sn) := wp_row d_96_84 _ _ _ _ _
theorem d_96_85 : decode (mB 96) 85 = .ok (.istore 6, 2) := by decide +kernel
theorem s_96_85 {d : Nat} {Q : wQ} {L : List (Option Value)} {st : List Value} {w : aw} {cn sn : Nat} {a0 a1 a2 a3 a4 a5 a6 : Option Value} {v : Int32} : wp d 96 Q 85 (a0 :: a1 :: a2 :: a3 :: a4 :: a5 :: a6 :: L) (.int v :: st) w cn sn = wp d 96 Q 87 (a0 :: a1 :: a2 :: a3 :: a4 :: clr a5 :: some (.int v) :: L) st w cn sn := w_istore d_96_85 (Nat.le_add_left 7 _) rfl
theorem d_96_87 : decode (mB 96) 87 = .ok (.iconst 0, 1) := by decide +kernel
theorem s_96_87 {d : Nat} {Q : wQ} {L : List (Option Value)} {st : List Value} {w : aw} {cn sn : Nat}  : wp d 96 Q 87 L st w cn sn = wp d 96 Q 88 L (.int 0 :: st) w cn sn := w_iconst d_96_87 (by decide)
theorem d_96_88 : decode (mB 96) 88 = .ok (.istore 7, 2) := by decide +kernel
theorem s_96_88 {d : Nat} {Q : wQ} {L : List (Option Value)} {st : List Value} {w : aw} {cn sn : Nat} {a0 a1 a2 a3 a4 a5 a6 a7 : Option Value} {v : Int32} : wp d 96 Q 88 (a0 :: a1 :: a2 :: a3 :: a4 :: a5 :: a6 :: a7 :: L) (.int v :: st) w cn sn = wp d 96 Q 90 (a0 :: a1 :: a2 :: a3 :: a4 :: a5 :: clr a6 :: some (.int v) :: L) st w cn sn := w_istore d_96_88 (Nat.le_add_left 8 _) rfl
theorem d_96_90 : decode (mB 96) 90 = .ok (.iload 7, 2) := by decide +kernel
theorem s_96_90 {d : Nat} {Q : wQ} {L : List (Option Value)} {st : List Value} {w : aw} {cn sn : Nat} {a0 a1 a2 a3 a4 a5 a6 : Option Value} {v : Int32} : wp d 96 Q 90 (a0 :: a1 :: a2 :: a3 :: a4 :: a5 :: a6 :: some (.int v) :: L) st w cn sn = wp d 96 Q 92 (a0 :: a1 :: a2 :: a3 :: a4 :: a5 :: a6 :: some (.int v) :: L) (.int v :: st) w cn sn := w_iload d_96_90 rfl
theorem d_96_92 : decode (mB 96) 92 = .ok (.iload 6, 2) := by decide +kernel
theorem s_96_92 {d : Nat} {Q : wQ} {L : List (Option Value)} {st : List Value} {w : aw} {cn sn : Nat} {a0 a1 a2 a3 a4 a5 : Option Value} {v : Int32} : wp d 96 Q 92 (a0 :: a1 :: a2 :: a3 :: a4 :: a5 :: some (.int v) :: L) st w cn sn = wp d 96 Q 94 (a0 :: a1 :: a2 :: a3 :: a4 :: a5 :: some (.int v) :: L) (.int v :: st) w cn sn := w_iload d_96_92 rfl
theorem d_96_94 : decode (mB 96) 94 = .ok (.if_icmp .ge 26, 3) := by decide +kernel
theorem s_96_94 {d : Nat} {Q : wQ} {L : List (Option Value)} {st : List Value} {w : aw} {cn sn : Nat} {a b : Int32} : wp d 96 Q 94 L (.int b :: .int a :: st) w cn sn = ((b ≤ a → wp d 96 Q 120 L st w cn sn) ∧ (¬ b ≤ a → wp d 96 Q 97 L st w cn sn)) := w_icge d_96_94 (by decide)
theorem d_96_97 : decode (mB 96) 97 = .ok (.aload 5, 2) := by decide +kernel
theorem s_96_97 {d : Nat} {Q : wQ} {L : List (Option Value)} {st : List Value} {w : aw} {cn sn : Nat} {a0 a1 a2 a3 a4 : Option Value} {v : Nat} : wp d 96 Q 97 (a0 :: a1 :: a2 :: a3 :: a4 :: some (.ref v) :: L) st w cn sn = wp d 96 Q 99 (a0 :: a1 :: a2 :: a3 :: a4 :: some (.ref v) :: L) (.ref v :: st) w cn sn := w_aload d_96_97 rfl
theorem s_96_97n {d : Nat} {Q : wQ} {L : List (Option Value)} {st : List Value} {w : aw} {cn sn : Nat} {a0 a1 a2 a3 a4 : Option Value} : wp d 96 Q 97 (a0 :: a1 :: a2 :: a3 :: a4 :: some .null :: L) st w cn sn = wp d 96 Q 99 (a0 :: a1 :: a2 :: a3 :: a4 :: some .null :: L) (.null :: st) w cn sn := w_aloadN d_96_97 rfl
theorem d_96_99 : decode (mB 96) 99 = .ok (.iload 7, 2) := by decide +kernel
theorem s_96_99 {d : Nat} {Q : wQ} {L : List (Option Value)} {st : List Value} {w : aw} {cn sn : Nat} {a0 a1 a2 a3 a4 a5 a6 : Option Value} {v : Int32} : wp d 96 Q 99 (a0 :: a1 :: a2 :: a3 :: a4 :: a5 :: a6 :: some (.int v) :: L) st w cn sn = wp d 96 Q 101 (a0 :: a1 :: a2 :: a3 :: a4 :: a5 :: a6 :: some (.int v) :: L) (.int v :: st) w cn sn := w_iload d_96_99 rfl
theorem d_96_101 : decode (mB 96) 101 = .ok (.iaload, 1) := by decide +kernel
theorem s_96_101 {d : Nat} {Q : wQ} {L : List (Option Value)} {st : List Value} {w : aw} {cn sn : Nat} {a : Nat} {i : Int32} : wp d 96 Q 101 L (.int i :: .ref a :: st) w cn sn = ((kd w a = 20 ∨ kd w a = 30) ∧ inR i (ln w a) ∧ wp d 96 Q 102 L (.int (ai w a i.toNatClampNeg) :: st) w cn sn) := wp_row d_96_101 _ _ _ _ _
theorem d_96_102 : decode (mB 96) 102 = .ok (.istore 8, 2) := by decide +kernel
theorem s_96_102 {d : Nat} {Q : wQ} {L : List (Option Value)} {st : List Value} {w : aw} {cn sn : Nat} {a0 a1 a2 a3 a4 a5 a6 a7 a8 : Option Value} {v : Int32} : wp d 96 Q 102 (a0 :: a1 :: a2 :: a3 :: a4 :: a5 :: a6 :: a7 :: a8 :: L) (.int v :: st) w cn sn = wp d 96 Q 104 (a0 :: a1 :: a2 :: a3 :: a4 :: a5 :: a6 :: clr a7 :: some (.int v) :: L) st w cn sn := w_istore d_96_102 (Nat.le_add_left 9 _) rfl
theorem d_96_104 : decode (mB 96) 104 = .ok (.lload_n 3, 1) := by decide +kernel
theorem s_96_104 {d : Nat} {Q : wQ} {L : List (Option Value)} {st : List Value} {w : aw} {cn sn : Nat} {a0 a1 a2 : Option Value} {v : Int64} : wp d 96 Q 104 (a0 :: a1 :: a2 :: some (.long v) :: L) st w cn sn = wp d 96 Q 105 (a0 :: a1 :: a2 :: some (.long v) :: L) (.long v :: st) w cn sn := w_lload_n d_96_104 rfl
theorem d_96_105 : decode (mB 96) 105 = .ok (.ldc2_w 141, 3) := by decide +kernel
theorem s_96_105 {d : Nat} {Q : wQ} {L : List (Option Value)} {st : List Value} {w : aw} {cn sn : Nat}  : wp d 96 Q 105 L st w cn sn = wp d 96 Q 108 L (.long 31 :: st) w cn sn := w_ldc2 d_96_105 (by decide +kernel : kT (mO 96) 141 = some (.long 31))
theorem d_96_108 : decode (mB 96) 108 = .ok (.lmul, 1) := by decide +kernel
theorem s_96_108 {d : Nat} {Q : wQ} {L : List (Option Value)} {st : List Value} {w : aw} {cn sn : Nat} {a b : Int64} : wp d 96 Q 108 L (.long b :: .long a :: st) w cn sn = wp d 96 Q 109 L (.long (a * b) :: st) w cn sn := wp_row d_96_108 _ _ _ _ _
theorem d_96_109 : decode (mB 96) 109 = .ok (.iload 8, 2) := by decide +kernel
theorem s_96_109 {d : Nat} {Q : wQ} {L : List (Option Value)} {st : List Value} {w : aw} {cn sn : Nat} {a0 a1 a2 a3 a4 a5 a6 a7 : Option Value} {v : Int32} : wp d 96 Q 109 (a0 :: a1 :: a2 :: a3 :: a4 :: a5 :: a6 :: a7 :: some (.int v) :: L) st w cn sn = wp d 96 Q 111 (a0 :: a1 :: a2 :: a3 :: a4 :: a5 :: a6 :: a7 :: some (.int v) :: L) (.int v :: st) w cn sn := w_iload d_96_109 rfl
theorem d_96_111 : decode (mB 96) 111 = .ok (.i2l, 1) := by decide +kernel
theorem s_96_111 {d : Nat} {Q : wQ} {L : List (Option Value)} {st : List Value} {w : aw} {cn sn : Nat} {a : Int32} : wp d 96 Q 111 L (.int a :: st) w cn sn = wp d 96 Q 112 L (.long a.toInt64 :: st) w cn sn := wp_row d_96_111 _ _ _ _ _
theorem d_96_112 : decode (mB 96) 112 = .ok (.ladd, 1) := by decide +kernel
theorem s_96_112 {d : Nat} {Q : wQ} {L : List (Option Value)} {st : List Value} {w : aw} {cn sn : Nat} {a b : Int64} : wp d 96 Q 112 L (.long b :: .long a :: st) w cn sn = wp d 96 Q 113 L (.long (a + b) :: st) w cn sn := wp_row d_96_112 _ _ _ _ _
theorem d_96_113 : decode (mB 96) 113 = .ok (.lstore_n 3, 1) := by decide +kernel
theorem s_96_113 {d : Nat} {Q : wQ} {L : List (Option Value)} {st : List Value} {w : aw} {cn sn : Nat} {a0 a1 a2 a3 a4 : Option Value} {v : Int64} : wp d 96 Q 113 (a0 :: a1 :: a2 :: a3 :: a4 :: L) (.long v :: st) w cn sn = wp d 96 Q 114 (a0 :: a1 :: clr a2 :: some (.long v) :: none :: L) st w cn sn := w_lstore_n d_96_113 (Nat.le_add_left 5 _) rfl
theorem d_96_114 : decode (mB 96) 114 = .ok (.iinc 7 1, 3) := by decide +kernel
theorem s_96_114 {d : Nat} {Q : wQ} {L : List (Option Value)} {st : List Value} {w : aw} {cn sn : Nat} {a0 a1 a2 a3 a4 a5 a6 : Option Value} {v : Int32} : wp d 96 Q 114 (a0 :: a1 :: a2 :: a3 :: a4 :: a5 :: a6 :: some (.int v) :: L) st w cn sn = wp d 96 Q 117 (a0 :: a1 :: a2 :: a3 :: a4 :: a5 :: clr a6 :: some (.int (v + 1)) :: L) st w cn sn := w_iinc d_96_114 rfl (by decide) rfl
theorem d_96_117 : decode (mB 96) 117 = .ok (.goto (-27), 3) := by decide +kernel
theorem s_96_117 {d : Nat} {Q : wQ} {L : List (Option Value)} {st : List Value} {w : aw} {cn sn : Nat}  : wp d 96 Q 117 L st w cn sn = wp d 96 Q 90 L st w cn sn := w_goto d_96_117 (by decide)
theorem d_96_120 : decode (mB 96) 120 = .ok (.lload_n 3, 1) := by decide +kernel
theorem s_96_120 {d : Nat} {Q : wQ} {L : List (Option Value)} {st : List Value} {w : aw} {cn sn : Nat} {a0 a1 a2 : Option Value} {v : Int64} : wp d 96 Q 120 (a0 :: a1 :: a2 :: some (.long v) :: L) st w cn sn = wp d 96 Q 121 (a0 :: a1 :: a2 :: some (.long v) :: L) (.long v :: st) w cn sn := w_lload_n d_96_120 rfl
theorem d_96_121 : decode (mB 96) 121 = .ok (.lreturn, 1) := by decide +kernel
theorem s_96_121 {d : Nat} {Q : wQ} {L : List (Option Value)} {w : aw} {cn sn : Nat} {v : Int64} : wp d 96 Q 121 L [.long v] w cn sn = Q (some (.long v)) w := w_lreturn d_96_121 rfl
theorem d_97_0 : decode (mB 97) 0 = .ok (.aload_n 0, 1) := by decide +kernel
theorem s_97_0 {d : Nat} {Q : wQ} {L : List (Option Value)} {st : List Value} {w : aw} {cn sn : Nat} {v : Nat} : wp d 97 Q 0 (some (.ref v) :: L) st w cn sn = wp d 97 Q 1 (some (.ref v) :: L) (.ref v :: st) w cn sn := w_aload_n d_97_0 rfl
theorem d_97_1 : decode (mB 97) 1 = .ok (.getfield 25, 3) := by decide +kernel
theorem s_97_1 {d : Nat} {Q : wQ} {L : List (Option Value)} {st : List Value} {w : aw} {cn sn : Nat} {a : Nat} : wp d 97 Q 1 L (.ref a :: st) w cn sn = (kd w a = 8 ∧ wp d 97 Q 4 L (fd w 450 a :: st) w cn sn) := w_getfield d_97_1 (by decide +kernel : fT (mO 97) 25 = some (7, 2))
theorem d_97_4 : decode (mB 97) 4 = .ok (.ifnull 19, 3) := by decide +kernel
theorem s_97_4 {d : Nat} {Q : wQ} {L : List (Option Value)} {st : List Value} {w : aw} {cn sn : Nat} {q : Nat} : wp d 97 Q 4 L (.ref q :: st) w cn sn = wp d 97 Q 7 L st w cn sn := w_ifnull d_97_4 (t := 23) (by decide)
theorem s_97_4n {d : Nat} {Q : wQ} {L : List (Option Value)} {st : List Value} {w : aw} {cn sn : Nat}  : wp d 97 Q 4 L (.null :: st) w cn sn = wp d 97 Q 23 L st w cn sn := w_ifnullN d_97_4 (t := 23) (by decide)
theorem d_97_7 : decode (mB 97) 7 = .ok (.iload_n 1, 1) := by decide +kernel
theorem s_97_7 {d : Nat} {Q : wQ} {L : List (Option Value)} {st : List Value} {w : aw} {cn sn : Nat} {a0 : Option Value} {v : Int32} : wp d 97 Q 7 (a0 :: some (.int v) :: L) st w cn sn = wp d 97 Q 8 (a0 :: some (.int v) :: L) (.int v :: st) w cn sn := w_iload_n d_97_7 rfl
theorem d_97_8 : decode (mB 97) 8 = .ok (.ifCond .lt 15, 3) := by decide +kernel
theorem s_97_8 {d : Nat} {Q : wQ} {L : List (Option Value)} {st : List Value} {w : aw} {cn sn : Nat} {x : Int32} : wp d 97 Q 8 L (.int x :: st) w cn sn = ((x < 0 → wp d 97 Q 23 L st w cn sn) ∧ (¬ x < 0 → wp d 97 Q 11 L st w cn sn)) := w_iflt d_97_8 (by decide)
theorem d_97_11 : decode (mB 97) 11 = .ok (.iload_n 1, 1) := by decide +kernel
theorem s_97_11 {d : Nat} {Q : wQ} {L : List (Option Value)} {st : List Value} {w : aw} {cn sn : Nat} {a0 : Option Value} {v : Int32} : wp d 97 Q 11 (a0 :: some (.int v) :: L) st w cn sn = wp d 97 Q 12 (a0 :: some (.int v) :: L) (.int v :: st) w cn sn := w_iload_n d_97_11 rfl
theorem d_97_12 : decode (mB 97) 12 = .ok (.aload_n 0, 1) := by decide +kernel
theorem s_97_12 {d : Nat} {Q : wQ} {L : List (Option Value)} {st : List Value} {w : aw} {cn sn : Nat} {v : Nat} : wp d 97 Q 12 (some (.ref v) :: L) st w cn sn = wp d 97 Q 13 (some (.ref v) :: L) (.ref v :: st) w cn sn := w_aload_n d_97_12 rfl
theorem d_97_13 : decode (mB 97) 13 = .ok (.getfield 25, 3) := by decide +kernel
theorem s_97_13 {d : Nat} {Q : wQ} {L : List (Option Value)} {st : List Value} {w : aw} {cn sn : Nat} {a : Nat} : wp d 97 Q 13 L (.ref a :: st) w cn sn = (kd w a = 8 ∧ wp d 97 Q 16 L (fd w 450 a :: st) w cn sn) := w_getfield d_97_13 (by decide +kernel : fT (mO 97) 25 = some (7, 2))
theorem d_97_16 : decode (mB 97) 16 = .ok (.getfield 150, 3) := by decide +kernel
theorem s_97_16 {d : Nat} {Q : wQ} {L : List (Option Value)} {st : List Value} {w : aw} {cn sn : Nat} {a : Nat} : wp d 97 Q 16 L (.ref a :: st) w cn sn = (kd w a = 2 ∧ wp d 97 Q 19 L (fd w 64 a :: st) w cn sn) := w_getfield d_97_16 (by decide +kernel : fT (mO 97) 150 = some (1, 0))
theorem d_97_19 : decode (mB 97) 19 = .ok (.arraylength, 1) := by decide +kernel
theorem s_97_19 {d : Nat} {Q : wQ} {L : List (Option Value)} {st : List Value} {w : aw} {cn sn : Nat} {a : Nat} : wp d 97 Q 19 L (.ref a :: st) w cn sn = ((tyA (kd w a)).isSome = true ∧ wp d 97 Q 20 L (.int (nI (ln w a)) :: st) w cn sn) := wp_row d_97_19 _ _ _ _ _
theorem d_97_20 : decode (mB 97) 20 = .ok (.if_icmp .lt 7, 3) := by decide +kernel
theorem s_97_20 {d : Nat} {Q : wQ} {L : List (Option Value)} {st : List Value} {w : aw} {cn sn : Nat} {a b : Int32} : wp d 97 Q 20 L (.int b :: .int a :: st) w cn sn = ((a < b → wp d 97 Q 27 L st w cn sn) ∧ (¬ a < b → wp d 97 Q 23 L st w cn sn)) := w_iclt d_97_20 (by decide)
theorem d_97_23 : decode (mB 97) 23 = .ok (.aconst_null, 1) := by decide +kernel
theorem s_97_23 {d : Nat} {Q : wQ} {L : List (Option Value)} {st : List Value} {w : aw} {cn sn : Nat}  : wp d 97 Q 23 L st w cn sn = wp d 97 Q 24 L (.null :: st) w cn sn := w_null d_97_23
theorem d_97_24 : decode (mB 97) 24 = .ok (.goto 12, 3) := by decide +kernel
theorem s_97_24 {d : Nat} {Q : wQ} {L : List (Option Value)} {st : List Value} {w : aw} {cn sn : Nat}  : wp d 97 Q 24 L st w cn sn = wp d 97 Q 36 L st w cn sn := w_goto d_97_24 (by decide)
theorem d_97_27 : decode (mB 97) 27 = .ok (.aload_n 0, 1) := by decide +kernel
theorem s_97_27 {d : Nat} {Q : wQ} {L : List (Option Value)} {st : List Value} {w : aw} {cn sn : Nat} {v : Nat} : wp d 97 Q 27 (some (.ref v) :: L) st w cn sn = wp d 97 Q 28 (some (.ref v) :: L) (.ref v :: st) w cn sn := w_aload_n d_97_27 rfl
theorem d_97_28 : decode (mB 97) 28 = .ok (.getfield 25, 3) := by decide +kernel
theorem s_97_28 {d : Nat} {Q : wQ} {L : List (Option Value)} {st : List Value} {w : aw} {cn sn : Nat} {a : Nat} : wp d 97 Q 28 L (.ref a :: st) w cn sn = (kd w a = 8 ∧ wp d 97 Q 31 L (fd w 450 a :: st) w cn sn) := w_getfield d_97_28 (by decide +kernel : fT (mO 97) 25 = some (7, 2))
theorem d_97_31 : decode (mB 97) 31 = .ok (.getfield 150, 3) := by decide +kernel
theorem s_97_31 {d : Nat} {Q : wQ} {L : List (Option Value)} {st : List Value} {w : aw} {cn sn : Nat} {a : Nat} : wp d 97 Q 31 L (.ref a :: st) w cn sn = (kd w a = 2 ∧ wp d 97 Q 34 L (fd w 64 a :: st) w cn sn) := w_getfield d_97_31 (by decide +kernel : fT (mO 97) 150 = some (1, 0))
theorem d_97_34 : decode (mB 97) 34 = .ok (.iload_n 1, 1) := by decide +kernel
theorem s_97_34 {d : Nat} {Q : wQ} {L : List (Option Value)} {st : List Value} {w : aw} {cn sn : Nat} {a0 : Option Value} {v : Int32} : wp d 97 Q 34 (a0 :: some (.int v) :: L) st w cn sn = wp d 97 Q 35 (a0 :: some (.int v) :: L) (.int v :: st) w cn sn := w_iload_n d_97_34 rfl
theorem d_97_35 : decode (mB 97) 35 = .ok (.aaload, 1) := by decide +kernel
theorem s_97_35 {d : Nat} {Q : wQ} {L : List (Option Value)} {st : List Value} {w : aw} {cn sn : Nat} {a : Nat} {i : Int32} : wp d 97 Q 35 L (.int i :: .ref a :: st) w cn sn = (kd w a = 24 ∧ inR i (ln w a) ∧ wp d 97 Q 36 L (va_rf (ar w a i.toNatClampNeg) :: st) w cn sn) := wp_row d_97_35 _ _ _ _ _
theorem d_97_36 : decode (mB 97) 36 = .ok (.areturn, 1) := by decide +kernel
theorem s_97_36 {d : Nat} {Q : wQ} {L : List (Option Value)} {w : aw} {cn sn : Nat} {v : Nat} : wp d 97 Q 36 L [.ref v] w cn sn = Q (some (.ref v)) w := w_areturn d_97_36 rfl
theorem s_97_36n {d : Nat} {Q : wQ} {L : List (Option Value)} {w : aw} {cn sn : Nat}  : wp d 97 Q 36 L [.null] w cn sn = Q (some .null) w := w_areturnN d_97_36 rfl
theorem d_98_0 : decode (mB 98) 0 = .ok (.iload_n 0, 1) := by decide +kernel
theorem s_98_0 {d : Nat} {Q : wQ} {L : List (Option Value)} {st : List Value} {w : aw} {cn sn : Nat} {v : Int32} : wp d 98 Q 0 (some (.int v) :: L) st w cn sn = wp d 98 Q 1 (some (.int v) :: L) (.int v :: st) w cn sn := w_iload_n d_98_0 rfl
theorem d_98_1 : decode (mB 98) 1 = .ok (.iload_n 1, 1) := by decide +kernel
theorem s_98_1 {d : Nat} {Q : wQ} {L : List (Option Value)} {st : List Value} {w : aw} {cn sn : Nat} {a0 : Option Value} {v : Int32} : wp d 98 Q 1 (a0 :: some (.int v) :: L) st w cn sn = wp d 98 Q 2 (a0 :: some (.int v) :: L) (.int v :: st) w cn sn := w_iload_n d_98_1 rfl
theorem d_98_2 : decode (mB 98) 2 = .ok (.if_icmp .lt 12, 3) := by decide +kernel
theorem s_98_2 {d : Nat} {Q : wQ} {L : List (Option Value)} {st : List Value} {w : aw} {cn sn : Nat} {a b : Int32} : wp d 98 Q 2 L (.int b :: .int a :: st) w cn sn = ((a < b → wp d 98 Q 14 L st w cn sn) ∧ (¬ a < b → wp d 98 Q 5 L st w cn sn)) := w_iclt d_98_2 (by decide)
theorem d_98_5 : decode (mB 98) 5 = .ok (.iload_n 0, 1) := by decide +kernel
theorem s_98_5 {d : Nat} {Q : wQ} {L : List (Option Value)} {st : List Value} {w : aw} {cn sn : Nat} {v : Int32} : wp d 98 Q 5 (some (.int v) :: L) st w cn sn = wp d 98 Q 6 (some (.int v) :: L) (.int v :: st) w cn sn := w_iload_n d_98_5 rfl
theorem d_98_6 : decode (mB 98) 6 = .ok (.iload_n 2, 1) := by decide +kernel
theorem s_98_6 {d : Nat} {Q : wQ} {L : List (Option Value)} {st : List Value} {w : aw} {cn sn : Nat} {a0 a1 : Option Value} {v : Int32} : wp d 98 Q 6 (a0 :: a1 :: some (.int v) :: L) st w cn sn = wp d 98 Q 7 (a0 :: a1 :: some (.int v) :: L) (.int v :: st) w cn sn := w_iload_n d_98_6 rfl
theorem d_98_7 : decode (mB 98) 7 = .ok (.if_icmp .gt 7, 3) := by decide +kernel
theorem s_98_7 {d : Nat} {Q : wQ} {L : List (Option Value)} {st : List Value} {w : aw} {cn sn : Nat} {a b : Int32} : wp d 98 Q 7 L (.int b :: .int a :: st) w cn sn = ((b < a → wp d 98 Q 14 L st w cn sn) ∧ (¬ b < a → wp d 98 Q 10 L st w cn sn)) := w_icgt d_98_7 (by decide)
theorem d_98_10 : decode (mB 98) 10 = .ok (.iconst 1, 1) := by decide +kernel
theorem s_98_10 {d : Nat} {Q : wQ} {L : List (Option Value)} {st : List Value} {w : aw} {cn sn : Nat}  : wp d 98 Q 10 L st w cn sn = wp d 98 Q 11 L (.int 1 :: st) w cn sn := w_iconst d_98_10 (by decide)
theorem d_98_11 : decode (mB 98) 11 = .ok (.goto 4, 3) := by decide +kernel
theorem s_98_11 {d : Nat} {Q : wQ} {L : List (Option Value)} {st : List Value} {w : aw} {cn sn : Nat}  : wp d 98 Q 11 L st w cn sn = wp d 98 Q 15 L st w cn sn := w_goto d_98_11 (by decide)
theorem d_98_14 : decode (mB 98) 14 = .ok (.iconst 0, 1) := by decide +kernel
theorem s_98_14 {d : Nat} {Q : wQ} {L : List (Option Value)} {st : List Value} {w : aw} {cn sn : Nat}  : wp d 98 Q 14 L st w cn sn = wp d 98 Q 15 L (.int 0 :: st) w cn sn := w_iconst d_98_14 (by decide)
theorem d_98_15 : decode (mB 98) 15 = .ok (.ireturn, 1) := by decide +kernel
theorem s_98_15 {d : Nat} {Q : wQ} {L : List (Option Value)} {w : aw} {cn sn : Nat} {v : Int32} : wp d 98 Q 15 L [.int v] w cn sn = (narrow .boolean (.int v) = .int v ∧ Q (some (.int v)) w) := w_zreturn d_98_15 rfl
theorem d_99_0 : decode (mB 99) 0 = .ok (.iload_n 0, 1) := by decide +kernel
theorem s_99_0 {d : Nat} {Q : wQ} {L : List (Option Value)} {st : List Value} {w : aw} {cn sn : Nat} {v : Int32} : wp d 99 Q 0 (some (.int v) :: L) st w cn sn = wp d 99 Q 1 (some (.int v) :: L) (.int v :: st) w cn sn := w_iload_n d_99_0 rfl
theorem d_99_1 : decode (mB 99) 1 = .ok (.ifCond .lt 14, 3) := by decide +kernel
theorem s_99_1 {d : Nat} {Q : wQ} {L : List (Option Value)} {st : List Value} {w : aw} {cn sn : Nat} {x : Int32} : wp d 99 Q 1 L (.int x :: st) w cn sn = ((x < 0 → wp d 99 Q 15 L st w cn sn) ∧ (¬ x < 0 → wp d 99 Q 4 L st w cn sn)) := w_iflt d_99_1 (by decide)
theorem d_99_4 : decode (mB 99) 4 = .ok (.iload_n 0, 1) := by decide +kernel
theorem s_99_4 {d : Nat} {Q : wQ} {L : List (Option Value)} {st : List Value} {w : aw} {cn sn : Nat} {v : Int32} : wp d 99 Q 4 (some (.int v) :: L) st w cn sn = wp d 99 Q 5 (some (.int v) :: L) (.int v :: st) w cn sn := w_iload_n d_99_4 rfl
theorem d_99_5 : decode (mB 99) 5 = .ok (.sipush 4096, 3) := by decide +kernel
theorem s_99_5 {d : Nat} {Q : wQ} {L : List (Option Value)} {st : List Value} {w : aw} {cn sn : Nat}  : wp d 99 Q 5 L st w cn sn = wp d 99 Q 8 L (.int 4096 :: st) w cn sn := w_sipush d_99_5 (by decide)
theorem d_99_8 : decode (mB 99) 8 = .ok (.if_icmp .ge 7, 3) := by decide +kernel
theorem s_99_8 {d : Nat} {Q : wQ} {L : List (Option Value)} {st : List Value} {w : aw} {cn sn : Nat} {a b : Int32} : wp d 99 Q 8 L (.int b :: .int a :: st) w cn sn = ((b ≤ a → wp d 99 Q 15 L st w cn sn) ∧ (¬ b ≤ a → wp d 99 Q 11 L st w cn sn)) := w_icge d_99_8 (by decide)
theorem d_99_11 : decode (mB 99) 11 = .ok (.iconst 1, 1) := by decide +kernel
theorem s_99_11 {d : Nat} {Q : wQ} {L : List (Option Value)} {st : List Value} {w : aw} {cn sn : Nat}  : wp d 99 Q 11 L st w cn sn = wp d 99 Q 12 L (.int 1 :: st) w cn sn := w_iconst d_99_11 (by decide)
theorem d_99_12 : decode (mB 99) 12 = .ok (.goto 4, 3) := by decide +kernel
theorem s_99_12 {d : Nat} {Q : wQ} {L : List (Option Value)} {st : List Value} {w : aw} {cn sn : Nat}  : wp d 99 Q 12 L st w cn sn = wp d 99 Q 16 L st w cn sn := w_goto d_99_12 (by decide)
theorem d_99_15 : decode (mB 99) 15 = .ok (.iconst 0, 1) := by decide +kernel
theorem s_99_15 {d : Nat} {Q : wQ} {L : List (Option Value)} {st : List Value} {w : aw} {cn sn : Nat}  : wp d 99 Q 15 L st w cn sn = wp d 99 Q 16 L (.int 0 :: st) w cn sn := w_iconst d_99_15 (by decide)
theorem d_99_16 : decode (mB 99) 16 = .ok (.ireturn, 1) := by decide +kernel
theorem s_99_16 {d : Nat} {Q : wQ} {L : List (Option Value)} {w : aw} {cn sn : Nat} {v : Int32} : wp d 99 Q 16 L [.int v] w cn sn = (narrow .boolean (.int v) = .int v ∧ Q (some (.int v)) w) := w_zreturn d_99_16 rfl
theorem d_100_0 : decode (mB 100) 0 = .ok (.iload_n 0, 1) := by decide +kernel
theorem s_100_0 {d : Nat} {Q : wQ} {L : List (Option Value)} {st : List Value} {w : aw} {cn sn : Nat} {v : Int32} : wp d 100 Q 0 (some (.int v) :: L) st w cn sn = wp d 100 Q 1 (some (.int v) :: L) (.int v :: st) w cn sn := w_iload_n d_100_0 rfl
theorem d_100_1 : decode (mB 100) 1 = .ok (.iconst 0, 1) := by decide +kernel
theorem s_100_1 {d : Nat} {Q : wQ} {L : List (Option Value)} {st : List Value} {w : aw} {cn sn : Nat}  : wp d 100 Q 1 L st w cn sn = wp d 100 Q 2 L (.int 0 :: st) w cn sn := w_iconst d_100_1 (by decide)
theorem d_100_2 : decode (mB 100) 2 = .ok (.bipush 31, 2) := by decide +kernel
theorem s_100_2 {d : Nat} {Q : wQ} {L : List (Option Value)} {st : List Value} {w : aw} {cn sn : Nat}  : wp d 100 Q 2 L st w cn sn = wp d 100 Q 4 L (.int 31 :: st) w cn sn := w_bipush d_100_2 (by decide)
theorem d_100_4 : decode (mB 100) 4 = .ok (.invokestatic 29, 3) := by decide +kernel
theorem s_100_4 {d : Nat} {Q : wQ} {L : List (Option Value)} {st : List Value} {w : aw} {cn sn : Nat} {v0 v1 v2 : Value} : wp d 100 Q 4 L (v2 :: v1 :: v0 :: st) w cn sn = (catS st ≤ 8 ∧ wpD d 98 [v0, v1, v2] w (fun v w' => wp d 100 Q 7 L (v.toList ++ st) w' cn sn)) := w_static (As := [v0, v1, v2]) d_100_4 (by decide +kernel : cT (mO 100) 29 = some (2, 98)) rfl (by decide +kernel) rfl
theorem d_100_7 : decode (mB 100) 7 = .ok (.ifCond .eq 17, 3) := by decide +kernel
theorem s_100_7 {d : Nat} {Q : wQ} {L : List (Option Value)} {st : List Value} {w : aw} {cn sn : Nat} {x : Int32} : wp d 100 Q 7 L (.int x :: st) w cn sn = ((x = 0 → wp d 100 Q 24 L st w cn sn) ∧ (¬ x = 0 → wp d 100 Q 10 L st w cn sn)) := w_ifeq d_100_7 (by decide)
theorem d_100_10 : decode (mB 100) 10 = .ok (.iload_n 1, 1) := by decide +kernel
theorem s_100_10 {d : Nat} {Q : wQ} {L : List (Option Value)} {st : List Value} {w : aw} {cn sn : Nat} {a0 : Option Value} {v : Int32} : wp d 100 Q 10 (a0 :: some (.int v) :: L) st w cn sn = wp d 100 Q 11 (a0 :: some (.int v) :: L) (.int v :: st) w cn sn := w_iload_n d_100_10 rfl
theorem d_100_11 : decode (mB 100) 11 = .ok (.iconst 0, 1) := by decide +kernel
theorem s_100_11 {d : Nat} {Q : wQ} {L : List (Option Value)} {st : List Value} {w : aw} {cn sn : Nat}  : wp d 100 Q 11 L st w cn sn = wp d 100 Q 12 L (.int 0 :: st) w cn sn := w_iconst d_100_11 (by decide)
theorem d_100_12 : decode (mB 100) 12 = .ok (.bipush 127, 2) := by decide +kernel
theorem s_100_12 {d : Nat} {Q : wQ} {L : List (Option Value)} {st : List Value} {w : aw} {cn sn : Nat}  : wp d 100 Q 12 L st w cn sn = wp d 100 Q 14 L (.int 127 :: st) w cn sn := w_bipush d_100_12 (by decide)
theorem d_100_14 : decode (mB 100) 14 = .ok (.invokestatic 29, 3) := by decide +kernel
theorem s_100_14 {d : Nat} {Q : wQ} {L : List (Option Value)} {st : List Value} {w : aw} {cn sn : Nat} {v0 v1 v2 : Value} : wp d 100 Q 14 L (v2 :: v1 :: v0 :: st) w cn sn = (catS st ≤ 8 ∧ wpD d 98 [v0, v1, v2] w (fun v w' => wp d 100 Q 17 L (v.toList ++ st) w' cn sn)) := w_static (As := [v0, v1, v2]) d_100_14 (by decide +kernel : cT (mO 100) 29 = some (2, 98)) rfl (by decide +kernel) rfl
theorem d_100_17 : decode (mB 100) 17 = .ok (.ifCond .eq 7, 3) := by decide +kernel
theorem s_100_17 {d : Nat} {Q : wQ} {L : List (Option Value)} {st : List Value} {w : aw} {cn sn : Nat} {x : Int32} : wp d 100 Q 17 L (.int x :: st) w cn sn = ((x = 0 → wp d 100 Q 24 L st w cn sn) ∧ (¬ x = 0 → wp d 100 Q 20 L st w cn sn)) := w_ifeq d_100_17 (by decide)
theorem d_100_20 : decode (mB 100) 20 = .ok (.iconst 1, 1) := by decide +kernel
theorem s_100_20 {d : Nat} {Q : wQ} {L : List (Option Value)} {st : List Value} {w : aw} {cn sn : Nat}  : wp d 100 Q 20 L st w cn sn = wp d 100 Q 21 L (.int 1 :: st) w cn sn := w_iconst d_100_20 (by decide)
theorem d_100_21 : decode (mB 100) 21 = .ok (.goto 4, 3) := by decide +kernel
theorem s_100_21 {d : Nat} {Q : wQ} {L : List (Option Value)} {st : List Value} {w : aw} {cn sn : Nat}  : wp d 100 Q 21 L st w cn sn = wp d 100 Q 25 L st w cn sn := w_goto d_100_21 (by decide)
theorem d_100_24 : decode (mB 100) 24 = .ok (.iconst 0, 1) := by decide +kernel
theorem s_100_24 {d : Nat} {Q : wQ} {L : List (Option Value)} {st : List Value} {w : aw} {cn sn : Nat}  : wp d 100 Q 24 L st w cn sn = wp d 100 Q 25 L (.int 0 :: st) w cn sn := w_iconst d_100_24 (by decide)
theorem d_100_25 : decode (mB 100) 25 = .ok (.ireturn, 1) := by decide +kernel
theorem s_100_25 {d : Nat} {Q : wQ} {L : List (Option Value)} {w : aw} {cn sn : Nat} {v : Int32} : wp d 100 Q 25 L [.int v] w cn sn = (narrow .boolean (.int v) = .int v ∧ Q (some (.int v)) w) := w_zreturn d_100_25 rfl
