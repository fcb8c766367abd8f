theorem d_13_0 : decode (mB 13) 0 = .ok (.aload_n 0, 1) := by decide +kernel
theorem s_13_0 {d : Nat} {Q : wQ} {L : List (Option Value)} {st : List Value} {w : aw} {cn sn : Nat} {v : Nat} : wp d 13 Q 0 (some (.ref v) :: L) st w cn sn = wp d 13 Q 1 (some (.ref v) :: L) (.ref v :: st) w cn sn := w_aload_n d_13_0 rfl
theorem d_13_1 : decode (mB 13) 1 = .ok (.invokespecial 3, 3) := by decide +kernel
theorem s_13_1 {d : Nat} {Q : wQ} {L : List (Option Value)} {st : List Value} {w : aw} {cn sn : Nat} {b : Nat} : wp d 13 Q 1 L (.ref b :: st) w cn sn = (catS st ≤ 8 ∧ wp d 13 Q 4 L st w cn sn) := w_objinit d_13_1 (by decide +kernel : cT (mO 13) 3 = some (3, 0))
theorem d_13_4 : decode (mB 13) 4 = .ok (.aload_n 0, 1) := by decide +kernel
theorem s_13_4 {d : Nat} {Q : wQ} {L : List (Option Value)} {st : List Value} {w : aw} {cn sn : Nat} {v : Nat} : wp d 13 Q 4 (some (.ref v) :: L) st w cn sn = wp d 13 Q 5 (some (.ref v) :: L) (.ref v :: st) w cn sn := w_aload_n d_13_4 rfl
theorem d_13_5 : decode (mB 13) 5 = .ok (.bipush 8, 2) := by decide +kernel
theorem s_13_5 {d : Nat} {Q : wQ} {L : List (Option Value)} {st : List Value} {w : aw} {cn sn : Nat}  : wp d 13 Q 5 L st w cn sn = wp d 13 Q 7 L (.int 8 :: st) w cn sn := w_bipush d_13_5 (by decide)
theorem d_13_7 : decode (mB 13) 7 = .ok (.anewarray 9, 3) := by decide +kernel
theorem s_13_7 {d : Nat} {Q : wQ} {L : List (Option Value)} {st : List Value} {w : aw} {cn sn : Nat} {v : Int32} : wp d 13 Q 7 L (.int v :: st) w cn sn = (¬ v < 0 ∧ v.toNatClampNeg * 4 ≤ 536870912 ∧ cn + 1 ≤ 67 ∧ sn + v.toNatClampNeg ≤ 70096 ∧ wp d 13 Q 10 L (.ref (zs w) :: st) (nw w 24 v.toNatClampNeg) (cn + 1) (sn + v.toNatClampNeg)) := w_anewarray d_13_7 (by decide +kernel : nT (mO 13) 9 = some 6) rfl (by decide +kernel) (by decide +kernel)
theorem d_13_10 : decode (mB 13) 10 = .ok (.putfield 11, 3) := by decide +kernel
theorem s_13_10 {d : Nat} {Q : wQ} {L : List (Option Value)} {st : List Value} {w : aw} {cn sn : Nat} {x : Nat} {a : Nat} : wp d 13 Q 10 L (.ref x :: .ref a :: st) w cn sn = (kd w a = 2 ∧ wp d 13 Q 13 L st (uF w 64 a (.ref x)) cn sn) := w_putfield d_13_10 (by decide +kernel : fT (mO 13) 11 = some (1, 0)) (by decide +kernel) ok_arr
theorem d_13_13 : decode (mB 13) 13 = .ok (.aload_n 0, 1) := by decide +kernel
theorem s_13_13 {d : Nat} {Q : wQ} {L : List (Option Value)} {st : List Value} {w : aw} {cn sn : Nat} {v : Nat} : wp d 13 Q 13 (some (.ref v) :: L) st w cn sn = wp d 13 Q 14 (some (.ref v) :: L) (.ref v :: st) w cn sn := w_aload_n d_13_13 rfl
theorem d_13_14 : decode (mB 13) 14 = .ok (.bipush 8, 2) := by decide +kernel
theorem s_13_14 {d : Nat} {Q : wQ} {L : List (Option Value)} {st : List Value} {w : aw} {cn sn : Nat}  : wp d 13 Q 14 L st w cn sn = wp d 13 Q 16 L (.int 8 :: st) w cn sn := w_bipush d_13_14 (by decide)
theorem d_13_16 : decode (mB 13) 16 = .ok (.anewarray 9, 3) := by decide +kernel
theorem s_13_16 {d : Nat} {Q : wQ} {L : List (Option Value)} {st : List Value} {w : aw} {cn sn : Nat} {v : Int32} : wp d 13 Q 16 L (.int v :: st) w cn sn = (¬ v < 0 ∧ v.toNatClampNeg * 4 ≤ 536870912 ∧ cn + 1 ≤ 67 ∧ sn + v.toNatClampNeg ≤ 70096 ∧ wp d 13 Q 19 L (.ref (zs w) :: st) (nw w 24 v.toNatClampNeg) (cn + 1) (sn + v.toNatClampNeg)) := w_anewarray d_13_16 (by decide +kernel : nT (mO 13) 9 = some 6) rfl (by decide +kernel) (by decide +kernel)
theorem d_13_19 : decode (mB 13) 19 = .ok (.putfield 17, 3) := by decide +kernel
theorem s_13_19 {d : Nat} {Q : wQ} {L : List (Option Value)} {st : List Value} {w : aw} {cn sn : Nat} {x : Nat} {a : Nat} : wp d 13 Q 19 L (.ref x :: .ref a :: st) w cn sn = (kd w a = 2 ∧ wp d 13 Q 22 L st (uF w 69 a (.ref x)) cn sn) := w_putfield d_13_19 (by decide +kernel : fT (mO 13) 17 = some (1, 5)) (by decide +kernel) ok_arr
theorem d_13_22 : decode (mB 13) 22 = .ok (.aload_n 0, 1) := by decide +kernel
theorem s_13_22 {d : Nat} {Q : wQ} {L : List (Option Value)} {st : List Value} {w : aw} {cn sn : Nat} {v : Nat} : wp d 13 Q 22 (some (.ref v) :: L) st w cn sn = wp d 13 Q 23 (some (.ref v) :: L) (.ref v :: st) w cn sn := w_aload_n d_13_22 rfl
theorem d_13_23 : decode (mB 13) 23 = .ok (.bipush 8, 2) := by decide +kernel
theorem s_13_23 {d : Nat} {Q : wQ} {L : List (Option Value)} {st : List Value} {w : aw} {cn sn : Nat}  : wp d 13 Q 23 L st w cn sn = wp d 13 Q 25 L (.int 8 :: st) w cn sn := w_bipush d_13_23 (by decide)
theorem d_13_25 : decode (mB 13) 25 = .ok (.anewarray 9, 3) := by decide +kernel
theorem s_13_25 {d : Nat} {Q : wQ} {L : List (Option Value)} {st : List Value} {w : aw} {cn sn : Nat} {v : Int32} : wp d 13 Q 25 L (.int v :: st) w cn sn = (¬ v < 0 ∧ v.toNatClampNeg * 4 ≤ 536870912 ∧ cn + 1 ≤ 67 ∧ sn + v.toNatClampNeg ≤ 70096 ∧ wp d 13 Q 28 L (.ref (zs w) :: st) (nw w 24 v.toNatClampNeg) (cn + 1) (sn + v.toNatClampNeg)) := w_anewarray d_13_25 (by decide +kernel : nT (mO 13) 9 = some 6) rfl (by decide +kernel) (by decide +kernel)
theorem d_13_28 : decode (mB 13) 28 = .ok (.putfield 20, 3) := by decide +kernel
theorem s_13_28 {d : Nat} {Q : wQ} {L : List (Option Value)} {st : List Value} {w : aw} {cn sn : Nat} {x : Nat} {a : Nat} : wp d 13 Q 28 L (.ref x :: .ref a :: st) w cn sn = (kd w a = 2 ∧ wp d 13 Q 31 L st (uF w 71 a (.ref x)) cn sn) := w_putfield d_13_28 (by decide +kernel : fT (mO 13) 20 = some (1, 7)) (by decide +kernel) ok_arr
theorem d_13_31 : decode (mB 13) 31 = .ok (.aload_n 0, 1) := by decide +kernel
theorem s_13_31 {d : Nat} {Q : wQ} {L : List (Option Value)} {st : List Value} {w : aw} {cn sn : Nat} {v : Nat} : wp d 13 Q 31 (some (.ref v) :: L) st w cn sn = wp d 13 Q 32 (some (.ref v) :: L) (.ref v :: st) w cn sn := w_aload_n d_13_31 rfl
theorem d_13_32 : decode (mB 13) 32 = .ok (.iconst 1, 1) := by decide +kernel
theorem s_13_32 {d : Nat} {Q : wQ} {L : List (Option Value)} {st : List Value} {w : aw} {cn sn : Nat}  : wp d 13 Q 32 L st w cn sn = wp d 13 Q 33 L (.int 1 :: st) w cn sn := w_iconst d_13_32 (by decide)
theorem d_13_33 : decode (mB 13) 33 = .ok (.putfield 23, 3) := by decide +kernel
theorem s_13_33 {d : Nat} {Q : wQ} {L : List (Option Value)} {st : List Value} {w : aw} {cn sn : Nat} {x : Int32} {a : Nat} : wp d 13 Q 33 L (.int x :: .ref a :: st) w cn sn = (kd w a = 2 ∧ wp d 13 Q 36 L st (uF w 72 a (.int x)) cn sn) := w_putfield d_13_33 (by decide +kernel : fT (mO 13) 23 = some (1, 8)) (by decide +kernel) ok_int
theorem d_13_36 : decode (mB 13) 36 = .ok (.iconst 0, 1) := by decide +kernel
theorem s_13_36 {d : Nat} {Q : wQ} {L : List (Option Value)} {st : List Value} {w : aw} {cn sn : Nat}  : wp d 13 Q 36 L st w cn sn = wp d 13 Q 37 L (.int 0 :: st) w cn sn := w_iconst d_13_36 (by decide)
theorem d_13_37 : decode (mB 13) 37 = .ok (.istore_n 1, 1) := by decide +kernel
theorem s_13_37 {d : Nat} {Q : wQ} {L : List (Option Value)} {st : List Value} {w : aw} {cn sn : Nat} {a0 a1 : Option Value} {v : Int32} : wp d 13 Q 37 (a0 :: a1 :: L) (.int v :: st) w cn sn = wp d 13 Q 38 (clr a0 :: some (.int v) :: L) st w cn sn := w_istore_n d_13_37 (Nat.le_add_left 2 _) rfl
theorem d_13_38 : decode (mB 13) 38 = .ok (.iload_n 1, 1) := by decide +kernel
theorem s_13_38 {d : Nat} {Q : wQ} {L : List (Option Value)} {st : List Value} {w : aw} {cn sn : Nat} {a0 : Option Value} {v : Int32} : wp d 13 Q 38 (a0 :: some (.int v) :: L) st w cn sn = wp d 13 Q 39 (a0 :: some (.int v) :: L) (.int v :: st) w cn sn := w_iload_n d_13_38 rfl
theorem d_13_39 : decode (mB 13) 39 = .ok (.aload_n 0, 1) := by decide +kernel
theorem s_13_39 {d : Nat} {Q : wQ} {L : List (Option Value)} {st : List Value} {w : aw} {cn sn : Nat} {v : Nat} : wp d 13 Q 39 (some (.ref v) :: L) st w cn sn = wp d 13 Q 40 (some (.ref v) :: L) (.ref v :: st) w cn sn := w_aload_n d_13_39 rfl
theorem d_13_40 : decode (mB 13) 40 = .ok (.getfield 11, 3) := by decide +kernel
theorem s_13_40 {d : Nat} {Q : wQ} {L : List (Option Value)} {st : List Value} {w : aw} {cn sn : Nat} {a : Nat} : wp d 13 Q 40 L (.ref a :: st) w cn sn = (kd w a = 2 ∧ wp d 13 Q 43 L (fd w 64 a :: st) w cn sn) := w_getfield d_13_40 (by decide +kernel : fT (mO 13) 11 = some (1, 0))
theorem d_13_43 : decode (mB 13) 43 = .ok (.arraylength, 1) := by decide +kernel
theorem s_13_43 {d : Nat} {Q : wQ} {L : List (Option Value)} {st : List Value} {w : aw} {cn sn : Nat} {a : Nat} : wp d 13 Q 43 L (.ref a :: st) w cn sn = ((tyA (kd w a)).isSome = true ∧ wp d 13 Q 44 L (.int (nI (ln w a)) :: st) w cn sn) := wp_row d_13_43 _ _ _ _ _
theorem d_13_44 : decode (mB 13) 44 = .ok (.if_icmp .ge 23, 3) := by decide +kernel
theorem s_13_44 {d : Nat} {Q : wQ} {L : List (Option Value)} {st : List Value} {w : aw} {cn sn : Nat} {a b : Int32} : wp d 13 Q 44 L (.int b :: .int a :: st) w cn sn = ((b ≤ a → wp d 13 Q 67 L st w cn sn) ∧ (¬ b ≤ a → wp d 13 Q 47 L st w cn sn)) := w_icge d_13_44 (by decide)
theorem d_13_47 : decode (mB 13) 47 = .ok (.aload_n 0, 1) := by decide +kernel
theorem s_13_47 {d : Nat} {Q : wQ} {L : List (Option Value)} {st : List Value} {w : aw} {cn sn : Nat} {v : Nat} : wp d 13 Q 47 (some (.ref v) :: L) st w cn sn = wp d 13 Q 48 (some (.ref v) :: L) (.ref v :: st) w cn sn := w_aload_n d_13_47 rfl
theorem d_13_48 : decode (mB 13) 48 = .ok (.getfield 11, 3) := by decide +kernel
theorem s_13_48 {d : Nat} {Q : wQ} {L : List (Option Value)} {st : List Value} {w : aw} {cn sn : Nat} {a : Nat} : wp d 13 Q 48 L (.ref a :: st) w cn sn = (kd w a = 2 ∧ wp d 13 Q 51 L (fd w 64 a :: st) w cn sn) := w_getfield d_13_48 (by decide +kernel : fT (mO 13) 11 = some (1, 0))
theorem d_13_51 : decode (mB 13) 51 = .ok (.iload_n 1, 1) := by decide +kernel
theorem s_13_51 {d : Nat} {Q : wQ} {L : List (Option Value)} {st : List Value} {w : aw} {cn sn : Nat} {a0 : Option Value} {v : Int32} : wp d 13 Q 51 (a0 :: some (.int v) :: L) st w cn sn = wp d 13 Q 52 (a0 :: some (.int v) :: L) (.int v :: st) w cn sn := w_iload_n d_13_51 rfl
theorem d_13_52 : decode (mB 13) 52 = .ok (.new 9, 3) := by decide +kernel
theorem s_13_52 {d : Nat} {Q : wQ} {L : List (Option Value)} {st : List Value} {w : aw} {cn sn : Nat}  : wp d 13 Q 52 L st w cn sn = (cn + 1 ≤ 67 ∧ sn + 17 ≤ 70096 ∧ wp d 13 Q 55 L (.ref (zs w) :: st) (nw w 7 0) (cn + 1) (sn + 17)) := w_new d_13_52 (by decide +kernel : nT (mO 13) 9 = some 6) (by decide +kernel) (by decide +kernel) (by decide +kernel)
theorem d_13_55 : decode (mB 13) 55 = .ok (.dup, 1) := by decide +kernel
theorem s_13_55 {d : Nat} {Q : wQ} {L : List (Option Value)} {st : List Value} {w : aw} {cn sn : Nat} {v : Value} : wp d 13 Q 55 L (v :: st) w cn sn = (v.category = 1 ∧ wp d 13 Q 56 L (v :: v :: st) w cn sn) := wp_row d_13_55 _ _ _ _ _
theorem d_13_56 : decode (mB 13) 56 = .ok (.iload_n 1, 1) := by decide +kernel
theorem s_13_56 {d : Nat} {Q : wQ} {L : List (Option Value)} {st : List Value} {w : aw} {cn sn : Nat} {a0 : Option Value} {v : Int32} : wp d 13 Q 56 (a0 :: some (.int v) :: L) st w cn sn = wp d 13 Q 57 (a0 :: some (.int v) :: L) (.int v :: st) w cn sn := w_iload_n d_13_56 rfl
theorem d_13_57 : decode (mB 13) 57 = .ok (.invokespecial 27, 3) := by decide +kernel
theorem s_13_57 {d : Nat} {Q : wQ} {L : List (Option Value)} {st : List Value} {w : aw} {cn sn : Nat} {v0 : Value} {b : Nat} : wp d 13 Q 57 L (v0 :: .ref b :: st) w cn sn = (catS st ≤ 8 ∧ alc 13 61 cn sn (fun c2 s2 => wpD d 61 [.ref b, v0] w (fun v w' => wp d 13 Q 60 L (v.toList ++ st) w' c2 s2))) := w_special (As := [v0]) d_13_57 (by decide +kernel : cT (mO 13) 27 = some (1, 61)) (by decide +kernel) rfl rfl
theorem d_13_60 : decode (mB 13) 60 = .ok (.aastore, 1) := by decide +kernel
theorem s_13_60 {d : Nat} {Q : wQ} {L : List (Option Value)} {st : List Value} {w : aw} {cn sn : Nat} {a x : Nat} {i : Int32} : wp d 13 Q 60 L (.ref x :: .int i :: .ref a :: st) w cn sn = (kd w a = 24 ∧ inR i (ln w a) ∧ (∀ q, some x = some q → kd w q = 7) ∧ wp d 13 Q 61 L st (uR w a i.toNatClampNeg (some x)) cn sn) := wp_row d_13_60 _ _ _ _ _
theorem s_13_60n {d : Nat} {Q : wQ} {L : List (Option Value)} {st : List Value} {w : aw} {cn sn : Nat} {a : Nat} {i : Int32} : wp d 13 Q 60 L (.null :: .int i :: .ref a :: st) w cn sn = (kd w a = 24 ∧ inR i (ln w a) ∧ (∀ q, none = some q → kd w q = 7) ∧ wp d 13 Q 61 L st (uR w a i.toNatClampNeg none) cn sn) := wp_row d_13_60 _ _ _ _ _
theorem d_13_61 : decode (mB 13) 61 = .ok (.iinc 1 1, 3) := by decide +kernel
theorem s_13_61 {d : Nat} {Q : wQ} {L : List (Option Value)} {st : List Value} {w : aw} {cn sn : Nat} {a0 : Option Value} {v : Int32} : wp d 13 Q 61 (a0 :: some (.int v) :: L) st w cn sn = wp d 13 Q 64 (clr a0 :: some (.int (v + 1)) :: L) st w cn sn := w_iinc d_13_61 rfl (by decide) rfl
theorem d_13_64 : decode (mB 13) 64 = .ok (.goto (-26), 3) := by decide +kernel
theorem s_13_64 {d : Nat} {Q : wQ} {L : List (Option Value)} {st : List Value} {w : aw} {cn sn : Nat}  : wp d 13 Q 64 L st w cn sn = wp d 13 Q 38 L st w cn sn := w_goto d_13_64 (by decide)
theorem d_13_67 : decode (mB 13) 67 = .ok (.return_, 1) := by decide +kernel
theorem s_13_67 {d : Nat} {Q : wQ} {L : List (Option Value)} {w : aw} {cn sn : Nat}  : wp d 13 Q 67 L [] w cn sn = Q none w := w_return d_13_67 rfl
theorem d_14_0 : decode (mB 14) 0 = .ok (.aload_n 0, 1) := by decide +kernel
theorem s_14_0 {d : Nat} {Q : wQ} {L : List (Option Value)} {st : List Value} {w : aw} {cn sn : Nat} {v : Nat} : wp d 14 Q 0 (some (.ref v) :: L) st w cn sn = wp d 14 Q 1 (some (.ref v) :: L) (.ref v :: st) w cn sn := w_aload_n d_14_0 rfl
theorem d_14_1 : decode (mB 14) 1 = .ok (.getfield 30, 3) := by decide +kernel
theorem s_14_1 {d : Nat} {Q : wQ} {L : List (Option Value)} {st : List Value} {w : aw} {cn sn : Nat} {a : Nat} : wp d 14 Q 1 L (.ref a :: st) w cn sn = (kd w a = 2 ∧ wp d 14 Q 4 L (fd w 65 a :: st) w cn sn) := w_getfield d_14_1 (by decide +kernel : fT (mO 14) 30 = some (1, 1))
theorem d_14_4 : decode (mB 14) 4 = .ok (.ifCond .le 7, 3) := by decide +kernel
theorem s_14_4 {d : Nat} {Q : wQ} {L : List (Option Value)} {st : List Value} {w : aw} {cn sn : Nat} {x : Int32} : wp d 14 Q 4 L (.int x :: st) w cn sn = ((x ≤ 0 → wp d 14 Q 11 L st w cn sn) ∧ (¬ x ≤ 0 → wp d 14 Q 7 L st w cn sn)) := w_ifle d_14_4 (by decide)
theorem d_14_7 : decode (mB 14) 7 = .ok (.iconst 1, 1) := by decide +kernel
theorem s_14_7 {d : Nat} {Q : wQ} {L : List (Option Value)} {st : List Value} {w : aw} {cn sn : Nat}  : wp d 14 Q 7 L st w cn sn = wp d 14 Q 8 L (.int 1 :: st) w cn sn := w_iconst d_14_7 (by decide)
theorem d_14_8 : decode (mB 14) 8 = .ok (.goto 4, 3) := by decide +kernel
theorem s_14_8 {d : Nat} {Q : wQ} {L : List (Option Value)} {st : List Value} {w : aw} {cn sn : Nat}  : wp d 14 Q 8 L st w cn sn = wp d 14 Q 12 L st w cn sn := w_goto d_14_8 (by decide)
theorem d_14_11 : decode (mB 14) 11 = .ok (.iconst 0, 1) := by decide +kernel
theorem s_14_11 {d : Nat} {Q : wQ} {L : List (Option Value)} {st : List Value} {w : aw} {cn sn : Nat}  : wp d 14 Q 11 L st w cn sn = wp d 14 Q 12 L (.int 0 :: st) w cn sn := w_iconst d_14_11 (by decide)
theorem d_14_12 : decode (mB 14) 12 = .ok (.ireturn, 1) := by decide +kernel
theorem s_14_12 {d : Nat} {Q : wQ} {L : List (Option Value)} {w : aw} {cn sn : Nat} {v : Int32} : wp d 14 Q 12 L [.int v] w cn sn = (narrow .boolean (.int v) = .int v ∧ Q (some (.int v)) w) := w_zreturn d_14_12 rfl
theorem d_15_0 : decode (mB 15) 0 = .ok (.aload_n 0, 1) := by decide +kernel
theorem s_15_0 {d : Nat} {Q : wQ} {L : List (Option Value)} {st : List Value} {w : aw} {cn sn : Nat} {v : Nat} : wp d 15 Q 0 (some (.ref v) :: L) st w cn sn = wp d 15 Q 1 (some (.ref v) :: L) (.ref v :: st) w cn sn := w_aload_n d_15_0 rfl
theorem d_15_1 : decode (mB 15) 1 = .ok (.iload_n 1, 1) := by decide +kernel
theorem s_15_1 {d : Nat} {Q : wQ} {L : List (Option Value)} {st : List Value} {w : aw} {cn sn : Nat} {a0 : Option Value} {v : Int32} : wp d 15 Q 1 (a0 :: some (.int v) :: L) st w cn sn = wp d 15 Q 2 (a0 :: some (.int v) :: L) (.int v :: st) w cn sn := w_iload_n d_15_1 rfl
theorem d_15_2 : decode (mB 15) 2 = .ok (.putfield 30, 3) := by decide +kernel
theorem s_15_2 {d : Nat} {Q : wQ} {L : List (Option Value)} {st : List Value} {w : aw} {cn sn : Nat} {x : Int32} {a : Nat} : wp d 15 Q 2 L (.int x :: .ref a :: st) w cn sn = (kd w a = 2 ∧ wp d 15 Q 5 L st (uF w 65 a (.int x)) cn sn) := w_putfield d_15_2 (by decide +kernel : fT (mO 15) 30 = some (1, 1)) (by decide +kernel) ok_int
theorem d_15_5 : decode (mB 15) 5 = .ok (.aload_n 0, 1) := by decide +kernel
theorem s_15_5 {d : Nat} {Q : wQ} {L : List (Option Value)} {st : List Value} {w : aw} {cn sn : Nat} {v : Nat} : wp d 15 Q 5 (some (.ref v) :: L) st w cn sn = wp d 15 Q 6 (some (.ref v) :: L) (.ref v :: st) w cn sn := w_aload_n d_15_5 rfl
theorem d_15_6 : decode (mB 15) 6 = .ok (.iload_n 2, 1) := by decide +kernel
theorem s_15_6 {d : Nat} {Q : wQ} {L : List (Option Value)} {st : List Value} {w : aw} {cn sn : Nat} {a0 a1 : Option Value} {v : Int32} : wp d 15 Q 6 (a0 :: a1 :: some (.int v) :: L) st w cn sn = wp d 15 Q 7 (a0 :: a1 :: some (.int v) :: L) (.int v :: st) w cn sn := w_iload_n d_15_6 rfl
theorem d_15_7 : decode (mB 15) 7 = .ok (.putfield 33, 3) := by decide +kernel
theorem s_15_7 {d : Nat} {Q : wQ} {L : List (Option Value)} {st : List Value} {w : aw} {cn sn : Nat} {x : Int32} {a : Nat} : wp d 15 Q 7 L (.int x :: .ref a :: st) w cn sn = (kd w a = 2 ∧ wp d 15 Q 10 L st (uF w 66 a (.int x)) cn sn) := w_putfield d_15_7 (by decide +kernel : fT (mO 15) 33 = some (1, 2)) (by decide +kernel) ok_int
theorem d_15_10 : decode (mB 15) 10 = .ok (.aload_n 0, 1) := by decide +kernel
theorem s_15_10 {d : Nat} {Q : wQ} {L : List (Option Value)} {st : List Value} {w : aw} {cn sn : Nat} {v : Nat} : wp d 15 Q 10 (some (.ref v) :: L) st w cn sn = wp d 15 Q 11 (some (.ref v) :: L) (.ref v :: st) w cn sn := w_aload_n d_15_10 rfl
theorem d_15_11 : decode (mB 15) 11 = .ok (.iload_n 3, 1) := by decide +kernel
theorem s_15_11 {d : Nat} {Q : wQ} {L : List (Option Value)} {st : List Value} {w : aw} {cn sn : Nat} {a0 a1 a2 : Option Value} {v : Int32} : wp d 15 Q 11 (a0 :: a1 :: a2 :: some (.int v) :: L) st w cn sn = wp d 15 Q 12 (a0 :: a1 :: a2 :: some (.int v) :: L) (.int v :: st) w cn sn := w_iload_n d_15_11 rfl
theorem d_15_12 : decode (mB 15) 12 = .ok (.putfield 36, 3) := by decide +kernel
theorem s_15_12 {d : Nat} {Q : wQ} {L : List (Option Value)} {st : List Value} {w : aw} {cn sn : Nat} {x : Int32} {a : Nat} : wp d 15 Q 12 L (.int x :: .ref a :: st) w cn sn = (kd w a = 2 ∧ wp d 15 Q 15 L st (uF w 67 a (.int x)) cn sn) := w_putfield d_15_12 (by decide +kernel : fT (mO 15) 36 = some (1, 3)) (by decide +kernel) ok_int
theorem d_15_15 : decode (mB 15) 15 = .ok (.aload_n 0, 1) := by decide +kernel
theorem s_15_15 {d : Nat} {Q : wQ} {L : List (Option Value)} {st : List Value} {w : aw} {cn sn : Nat} {v : Nat} : wp d 15 Q 15 (some (.ref v) :: L) st w cn sn = wp d 15 Q 16 (some (.ref v) :: L) (.ref v :: st) w cn sn := w_aload_n d_15_15 rfl
theorem d_15_16 : decode (mB 15) 16 = .ok (.iload 4, 2) := by decide +kernel
theorem s_15_16 {d : Nat} {Q : wQ} {L : List (Option Value)} {st : List Value} {w : aw} {cn sn : Nat} {a0 a1 a2 a3 : Option Value} {v : Int32} : wp d 15 Q 16 (a0 :: a1 :: a2 :: a3 :: some (.int v) :: L) st w cn sn = wp d 15 Q 18 (a0 :: a1 :: a2 :: a3 :: some (.int v) :: L) (.int v :: st) w cn sn := w_iload d_15_16 rfl
theorem d_15_18 : decode (mB 15) 18 = .ok (.putfield 39, 3) := by decide +kernel
theorem s_15_18 {d : Nat} {Q : wQ} {L : List (Option Value)} {st : List Value} {w : aw} {cn sn : Nat} {x : Int32} {a : Nat} : wp d 15 Q 18 L (.int x :: .ref a :: st) w cn sn = (kd w a = 2 ∧ wp d 15 Q 21 L st (uF w 68 a (.int x)) cn sn) := w_putfield d_15_18 (by decide +kernel : fT (mO 15) 39 = some (1, 4)) (by decide +kernel) ok_int
theorem d_15_21 : decode (mB 15) 21 = .ok (.return_, 1) := by decide +kernel
theorem s_15_21 {d : Nat} {Q : wQ} {L : List (Option Value)} {w : aw} {cn sn : Nat}  : wp d 15 Q 21 L [] w cn sn = Q none w := w_return d_15_21 rfl
theorem d_16_0 : decode (mB 16) 0 = .ok (.iload_n 1, 1) := by decide +kernel
theorem s_16_0 {d : Nat} {Q : wQ} {L : List (Option Value)} {st : List Value} {w : aw} {cn sn : Nat} {a0 : Option Value} {v : Int32} : wp d 16 Q 0 (a0 :: some (.int v) :: L) st w cn sn = wp d 16 Q 1 (a0 :: some (.int v) :: L) (.int v :: st) w cn sn := w_iload_n d_16_0 rfl
theorem d_16_1 : decode (mB 16) 1 = .ok (.ifCond .lt 20, 3) := by decide +kernel
theorem s_16_1 {d : Nat} {Q : wQ} {L : List (Option Value)} {st : List Value} {w : aw} {cn sn : Nat} {x : Int32} : wp d 16 Q 1 L (.int x :: st) w cn sn = ((x < 0 → wp d 16 Q 21 L st w cn sn) ∧ (¬ x < 0 → wp d 16 Q 4 L st w cn sn)) := w_iflt d_16_1 (by decide)
theorem d_16_4 : decode (mB 16) 4 = .ok (.iload_n 1, 1) := by decide +kernel
theorem s_16_4 {d : Nat} {Q : wQ} {L : List (Option Value)} {st : List Value} {w : aw} {cn sn : Nat} {a0 : Option Value} {v : Int32} : wp d 16 Q 4 (a0 :: some (.int v) :: L) st w cn sn = wp d 16 Q 5 (a0 :: some (.int v) :: L) (.int v :: st) w cn sn := w_iload_n d_16_4 rfl
theorem d_16_5 : decode (mB 16) 5 = .ok (.aload_n 0, 1) := by decide +kernel
theorem s_16_5 {d : Nat} {Q : wQ} {L : List (Option Value)} {st : List Value} {w : aw} {cn sn : Nat} {v : Nat} : wp d 16 Q 5 (some (.ref v) :: L) st w cn sn = wp d 16 Q 6 (some (.ref v) :: L) (.ref v :: st) w cn sn := w_aload_n d_16_5 rfl
theorem d_16_6 : decode (mB 16) 6 = .ok (.getfield 30, 3) := by decide +kernel
theorem s_16_6 {d : Nat} {Q : wQ} {L : List (Option Value)} {st : List Value} {w : aw} {cn sn : Nat} {a : Nat} : wp d 16 Q 6 L (.ref a :: st) w cn sn = (kd w a = 2 ∧ wp d 16 Q 9 L (fd w 65 a :: st) w cn sn) := w_getfield d_16_6 (by decide +kernel : fT (mO 16) 30 = some (1, 1))
theorem d_16_9 : decode (mB 16) 9 = .ok (.if_icmp .ge 12, 3) := by decide +kernel
theorem s_16_9 {d : Nat} {Q : wQ} {L : List (Option Value)} {st : List Value} {w : aw} {cn sn : Nat} {a b : Int32} : wp d 16 Q 9 L (.int b :: .int a :: st) w cn sn = ((b ≤ a → wp d 16 Q 21 L st w cn sn) ∧ (¬ b ≤ a → wp d 16 Q 12 L st w cn sn)) := w_icge d_16_9 (by decide)
theorem d_16_12 : decode (mB 16) 12 = .ok (.iload_n 1, 1) := by decide +kernel
theorem s_16_12 {d : Nat} {Q : wQ} {L : List (Option Value)} {st : List Value} {w : aw} {cn sn : Nat} {a0 : Option Value} {v : Int32} : wp d 16 Q 12 (a0 :: some (.int v) :: L) st w cn sn = wp d 16 Q 13 (a0 :: some (.int v) :: L) (.int v :: st) w cn sn := w_iload_n d_16_12 rfl
theorem d_16_13 : decode (mB 16) 13 = .ok (.aload_n 0, 1) := by decide +kernel
theorem s_16_13 {d : Nat} {Q : wQ} {L : List (Option Value)} {st : List Value} {w : aw} {cn sn : Nat} {v : Nat} : wp d 16 Q 13 (some (.ref v) :: L) st w cn sn = wp d 16 Q 14 (some (.ref v) :: L) (.ref v :: st) w cn sn := w_aload_n d_16_13 rfl
theorem d_16_14 : decode (mB 16) 14 = .ok (.getfield 11, 3) := by decide +kernel
theorem s_16_14 {d : Nat} {Q : wQ} {L : List (Option Value)} {st : List Value} {w : aw} {cn sn : Nat} {a : Nat} : wp d 16 Q 14 L (.ref a :: st) w cn sn = (kd w a = 2 ∧ wp d 16 Q 17 L (fd w 64 a :: st) w cn sn) := w_getfield d_16_14 (by decide +kernel : fT (mO 16) 11 = some (1, 0))
theorem d_16_17 : decode (mB 16) 17 = .ok (.arraylength, 1) := by decide +kernel
theorem s_16_17 {d : Nat} {Q : wQ} {L : List (Option Value)} {st : List Value} {w : aw} {cn sn : Nat} {a : Nat} : wp d 16 Q 17 L (.ref a :: st) w cn sn = ((tyA (kd w a)).isSome = true ∧ wp d 16 Q 18 L (.int (nI (ln w a)) :: st) w cn sn) := wp_row d_16_17 _ _ _ _ _
theorem d_16_18 : decode (mB 16) 18 = .ok (.if_icmp .lt 7, 3) := by decide +kernel
theorem s_16_18 {d : Nat} {Q : wQ} {L : List (Option Value)} {st : List Value} {w : aw} {cn sn : Nat} {a b : Int32} : wp d 16 Q 18 L (.int b :: .int a :: st) w cn sn = ((a < b → wp d 16 Q 25 L st w cn sn) ∧ (¬ a < b → wp d 16 Q 21 L st w cn sn)) := w_iclt d_16_18 (by decide)
theorem d_16_21 : decode (mB 16) 21 = .ok (.aconst_null, 1) := by decide +kernel
theorem s_16_21 {d : Nat} {Q : wQ} {L : List (Option Value)} {st : List Value} {w : aw} {cn sn : Nat}  : wp d 16 Q 21 L st w cn sn = wp d 16 Q 22 L (.null :: st) w cn sn := w_null d_16_21
theorem d_16_22 : decode (mB 16) 22 = .ok (.goto 9, 3) := by decide +kernel
theorem s_16_22 {d : Nat} {Q : wQ} {L : List (Option Value)} {st : List Value} {w : aw} {cn sn : Nat}  : wp d 16 Q 22 L st w cn sn = wp d 16 Q 31 L st w cn sn := w_goto d_16_22 (by decide)
theorem d_16_25 : decode (mB 16) 25 = .ok (.aload_n 0, 1) := by decide +kernel
theorem s_16_25 {d : Nat} {Q : wQ} {L : List (Option Value)} {st : List Value} {w : aw} {cn sn : Nat} {v : Nat} : wp d 16 Q 25 (some (.ref v) :: L) st w cn sn = wp d 16 Q 26 (some (.ref v) :: L) (.ref v :: st) w cn sn := w_aload_n d_16_25 rfl
theorem d_16_26 : decode (mB 16) 26 = .ok (.getfield 11, 3) := by decide +kernel
theorem s_16_26 {d : Nat} {Q : wQ} {L : List (Option Value)} {st : List Value} {w : aw} {cn sn : Nat} {a : Nat} : wp d 16 Q 26 L (.ref a :: st) w cn sn = (kd w a = 2 ∧ wp d 16 Q 29 L (fd w 64 a :: st) w cn sn) := w_getfield d_16_26 (by decide +kernel : fT (mO 16) 11 = some (1, 0))
theorem d_16_29 : decode (mB 16) 29 = .ok (.iload_n 1, 1) := by decide +kernel
theorem s_16_29 {d : Nat} {Q : wQ} {L : List (Option Value)} {st : List Value} {w : aw} {cn sn : Nat} {a0 : Option Value} {v : Int32} : wp d 16 Q 29 (a0 :: some (.int v) :: L) st w cn sn = wp d 16 Q 30 (a0 :: some (.int v) :: L) (.int v :: st) w cn sn := w_iload_n d_16_29 rfl
theorem d_16_30 : decode (mB 16) 30 = .ok (.aaload, 1) := by decide +kernel
theorem s_16_30 {d : Nat} {Q : wQ} {L : List (Option Value)} {st : List Value} {w : aw} {cn sn : Nat} {a : Nat} {i : Int32} : wp d 16 Q 30 L (.int i :: .ref a :: st) w cn sn = (kd w a = 24 ∧ inR i (ln w a) ∧ wp d 16 Q 31 L (va_rf (ar w a i.toNatClampNeg) :: st) w cn sn) := wp_row d_16_30 _ _ _ _ _
theorem d_16_31 : decode (mB 16) 31 = .ok (.areturn, 1) := by decide +kernel
theorem s_16_31 {d : Nat} {Q : wQ} {L : List (Option Value)} {w : aw} {cn sn : Nat} {v : Nat} : wp d 16 Q 31 L [.ref v] w cn sn = Q (some (.ref v)) w := w_areturn d_16_31 rfl
theorem s_16_31n {d : Nat} {Q : wQ} {L : List (Option Value)} {w : aw} {cn sn : Nat}  : wp d 16 Q 31 L [.null] w cn sn = Q (some .null) w := w_areturnN d_16_31 rfl
theorem d_17_0 : decode (mB 17) 0 = .ok (.aload_n 0, 1) := by decide +kernel
theorem s_17_0 {d : Nat} {Q : wQ} {L : List (Option Value)} {st : List Value} {w : aw} {cn sn : Nat} {v : Nat} : wp d 17 Q 0 (some (.ref v) :: L) st w cn sn = wp d 17 Q 1 (some (.ref v) :: L) (.ref v :: st) w cn sn := w_aload_n d_17_0 rfl
theorem d_17_1 : decode (mB 17) 1 = .ok (.getfield 42, 3) := by decide +kernel
theorem s_17_1 {d : Nat} {Q : wQ} {L : List (Option Value)} {st : List Value} {w : aw} {cn sn : Nat} {a : Nat} : wp d 17 Q 1 L (.ref a :: st) w cn sn = (kd w a = 2 ∧ wp d 17 Q 4 L (fd w 70 a :: st) w cn sn) := w_getfield d_17_1 (by decide +kernel : fT (mO 17) 42 = some (1, 6))
theorem d_17_4 : decode (mB 17) 4 = .ok (.aload_n 0, 1) := by decide +kernel
theorem s_17_4 {d : Nat} {Q : wQ} {L : List (Option Value)} {st : List Value} {w : aw} {cn sn : Nat} {v : Nat} : wp d 17 Q 4 (some (.ref v) :: L) st w cn sn = wp d 17 Q 5 (some (.ref v) :: L) (.ref v :: st) w cn sn := w_aload_n d_17_4 rfl
theorem d_17_5 : decode (mB 17) 5 = .ok (.getfield 17, 3) := by decide +kernel
theorem s_17_5 {d : Nat} {Q : wQ} {L : List (Option Value)} {st : List Value} {w : aw} {cn sn : Nat} {a : Nat} : wp d 17 Q 5 L (.ref a :: st) w cn sn = (kd w a = 2 ∧ wp d 17 Q 8 L (fd w 69 a :: st) w cn sn) := w_getfield d_17_5 (by decide +kernel : fT (mO 17) 17 = some (1, 5))
theorem d_17_8 : decode (mB 17) 8 = .ok (.arraylength, 1) := by decide +kernel
theorem s_17_8 {d : Nat} {Q : wQ} {L : List (Option Value)} {st : List Value} {w : aw} {cn sn : Nat} {a : Nat} : wp d 17 Q 8 L (.ref a :: st) w cn sn = ((tyA (kd w a)).isSome = true ∧ wp d 17 Q 9 L (.int (nI (ln w a)) :: st) w cn sn) := wp_row d_17_8 _ _ _ _ _
theorem d_17_9 : decode (mB 17) 9 = .ok (.if_icmp .ge 28, 3) := by decide +kernel
theorem s_17_9 {d : Nat} {Q : wQ} {L : List (Option Value)} {st : List Value} {w : aw} {cn sn : Nat} {a b : Int32} : wp d 17 Q 9 L (.int b :: .int a :: st) w cn sn = ((b ≤ a → wp d 17 Q 37 L st w cn sn) ∧ (¬ b ≤ a → wp d 17 Q 12 L st w cn sn)) := w_icge d_17_9 (by decide)
theorem d_17_12 : decode (mB 17) 12 = .ok (.aload_n 1, 1) := by decide +kernel
theorem s_17_12 {d : Nat} {Q : wQ} {L : List (Option Value)} {st : List Value} {w : aw} {cn sn : Nat} {a0 : Option Value} {v : Nat} : wp d 17 Q 12 (a0 :: some (.ref v) :: L) st w cn sn = wp d 17 Q 13 (a0 :: some (.ref v) :: L) (.ref v :: st) w cn sn := w_aload_n d_17_12 rfl
theorem s_17_12n {d : Nat} {Q : wQ} {L : List (Option Value)} {st : List Value} {w : aw} {cn sn : Nat} {a0 : Option Value} : wp d 17 Q 12 (a0 :: some .null :: L) st w cn sn = wp d 17 Q 13 (a0 :: some .null :: L) (.null :: st) w cn sn := w_aload_nN d_17_12 rfl
theorem d_17_13 : decode (mB 17) 13 = .ok (.iconst 1, 1) := by decide +kernel
theorem s_17_13 {d : Nat} {Q : wQ} {L : List (Option Value)} {st : List Value} {w : aw} {cn sn : Nat}  : wp d 17 Q 13 L st w cn sn = wp d 17 Q 14 L (.int 1 :: st) w cn sn := w_iconst d_17_13 (by decide)
theorem d_17_14 : decode (mB 17) 14 = .ok (.putfield 45, 3) := by decide +kernel
theorem s_17_14 {d : Nat} {Q : wQ} {L : List (Option Value)} {st : List Value} {w : aw} {cn sn : Nat} {x : Int32} {a : Nat} : wp d 17 Q 14 L (.int x :: .ref a :: st) w cn sn = (kd w a = 7 ∧ wp d 17 Q 17 L st (uF w 394 a (.int x)) cn sn) := w_putfield d_17_14 (by decide +kernel : fT (mO 17) 45 = some (6, 10)) (by decide +kernel) ok_int
theorem d_17_17 : decode (mB 17) 17 = .ok (.aload_n 0, 1) := by decide +kernel
theorem s_17_17 {d : Nat} {Q : wQ} {L : List (Option Value)} {st : List Value} {w : aw} {cn sn : Nat} {v : Nat} : wp d 17 Q 17 (some (.ref v) :: L) st w cn sn = wp d 17 Q 18 (some (.ref v) :: L) (.ref v :: st) w cn sn := w_aload_n d_17_17 rfl
theorem d_17_18 : decode (mB 17) 18 = .ok (.getfield 17, 3) := by decide +kernel
theorem s_17_18 {d : Nat} {Q : wQ} {L : List (Option Value)} {st : List Value} {w : aw} {cn sn : Nat} {a : Nat} : wp d 17 Q 18 L (.ref a :: st) w cn sn = (kd w a = 2 ∧ wp d 17 Q 21 L (fd w 69 a :: st) w cn sn) := w_getfield d_17_18 (by decide +kernel : fT (mO 17) 17 = some (1, 5))
theorem d_17_21 : decode (mB 17) 21 = .ok (.aload_n 0, 1) := by decide +kernel
theorem s_17_21 {d : Nat} {Q : wQ} {L : List (Option Value)} {st : List Value} {w : aw} {cn sn : Nat} {v : Nat} : wp d 17 Q 21 (some (.ref v) :: L) st w cn sn = wp d 17 Q 22 (some (.ref v) :: L) (.ref v :: st) w cn sn := w_aload_n d_17_21 rfl
theorem d_17_22 : decode (mB 17) 22 = .ok (.getfield 42, 3) := by decide +kernel
theorem s_17_22 {d : Nat} {Q : wQ} {L : List (Option Value)} {st : List Value} {w : aw} {cn sn : Nat} {a : Nat} : wp d 17 Q 22 L (.ref a :: st) w cn sn = (kd w a = 2 ∧ wp d 17 Q 25 L (fd w 70 a :: st) w cn sn) := w_getfield d_17_22 (by decide +kernel : fT (mO 17) 42 = some (1, 6))
theorem d_17_25 : decode (mB 17) 25 = .ok (.aload_n 1, 1) := by decide +kernel
theorem s_17_25 {d : Nat} {Q : wQ} {L : List (Option Value)} {st : List Value} {w : aw} {cn sn : Nat} {a0 : Option Value} {v : Nat} : wp d 17 Q 25 (a0 :: some (.ref v) :: L) st w cn sn = wp d 17 Q 26 (a0 :: some (.ref v) :: L) (.ref v :: st) w cn sn := w_aload_n d_17_25 rfl
theorem s_17_25n {d : Nat} {Q : wQ} {L : List (Option Value)} {st : List Value} {w : aw} {cn sn : Nat} {a0 : Option Value} : wp d 17 Q 25 (a0 :: some .null :: L) st w cn sn = wp d 17 Q 26 (a0 :: some .null :: L) (.null :: st) w cn sn := w_aload_nN d_17_25 rfl
theorem d_17_26 : decode (mB 17) 26 = .ok (.aastore, 1) := by decide +kernel
theorem s_17_26 {d : Nat} {Q : wQ} {L : List (Option Value)} {st : List Value} {w : aw} {cn sn : Nat} {a x : Nat} {i : Int32} : wp d 17 Q 26 L (.ref x :: .int i :: .ref a :: st) w cn sn = (kd w a = 24 ∧ inR i (ln w a) ∧ (∀ q, some x = some q → kd w q = 7) ∧ wp d 17 Q 27 L st (uR w a i.toNatClampNeg (some x)) cn sn) := wp_row d_17_26 _ _ _ _ _
theorem s_17_26n {d : Nat} {Q : wQ} {L : List (Option Value)} {st : List Value} {w : aw} {cn sn : Nat} {a : Nat} {i : Int32} : wp d 17 Q 26 L (.null :: .int i :: .ref a :: st) w cn sn = (kd w a = 24 ∧ inR i (ln w a) ∧ (∀ q, none = some q → kd w q = 7) ∧ wp d 17 Q 27 L st (uR w a i.toNatClampNeg none) cn sn) := wp_row d_17_26 _ _ _ _ _
theorem d_17_27 : decode (mB 17) 27 = .ok (.aload_n 0, 1) := by decide +kernel
theorem s_17_27 {d : Nat} {Q : wQ} {L : List (Option Value)} {st : List Value} {w : aw} {cn sn : Nat} {v : Nat} : wp d 17 Q 27 (some (.ref v) :: L) st w cn sn = wp d 17 Q 28 (some (.ref v) :: L) (.ref v :: st) w cn sn := w_aload_n d_17_27 rfl
theorem d_17_28 : decode (mB 17) 28 = .ok (.dup, 1) := by decide +kernel
theorem s_17_28 {d : Nat} {Q : wQ} {L : List (Option Value)} {st : List Value} {w : aw} {cn sn : Nat} {v : Value} : wp d 17 Q 28 L (v :: st) w cn sn = (v.category = 1 ∧ wp d 17 Q 29 L (v :: v :: st) w cn sn) := wp_row d_17_28 _ _ _ _ _
theorem d_17_29 : decode (mB 17) 29 = .ok (.getfield 42, 3) := by decide +kernel
theorem s_17_29 {d : Nat} {Q : wQ} {L : List (Option Value)} {st : List Value} {w : aw} {cn sn : Nat} {a : Nat} : wp d 17 Q 29 L (.ref a :: st) w cn sn = (kd w a = 2 ∧ wp d 17 Q 32 L (fd w 70 a :: st) w cn sn) := w_getfield d_17_29 (by decide +kernel : fT (mO 17) 42 = some (1, 6))
theorem d_17_32 : decode (mB 17) 32 = .ok (.iconst 1, 1) := by decide +kernel
theorem s_17_32 {d : Nat} {Q : wQ} {L : List (Option Value)} {st : List Value} {w : aw} {cn sn : Nat}  : wp d 17 Q 32 L st w cn sn = wp d 17 Q 33 L (.int 1 :: st) w cn sn := w_iconst d_17_32 (by decide)
theorem d_17_33 : decode (mB 17) 33 = .ok (.iadd, 1) := by decide +kernel
theorem s_17_33 {d : Nat} {Q : wQ} {L : List (Option Value)} {st : List Value} {w : aw} {cn sn : Nat} {a b : Int32} : wp d 17 Q 33 L (.int b :: .int a :: st) w cn sn = wp d 17 Q 34 L (.int (a + b) :: st) w cn sn := wp_row d_17_33 _ _ _ _ _
theorem d_17_34 : decode (mB 17) 34 = .ok (.putfield 42, 3) := by decide +kernel
theorem s_17_34 {d : Nat} {Q : wQ} {L : List (Option Value)} {st : List Value} {w : aw} {cn sn : Nat} {x : Int32} {a : Nat} : wp d 17 Q 34 L (.int x :: .ref a :: st) w cn sn = (kd w a = 2 ∧ wp d 17 Q 37 L st (uF w 70 a (.int x)) cn sn) := w_putfield d_17_34 (by decide +kernel : fT (mO 17) 42 = some (1, 6)) (by decide +kernel) ok_int
theorem d_17_37 : decode (mB 17) 37 = .ok (.return_, 1) := by decide +kernel
theorem s_17_37 {d : Nat} {Q : wQ} {L : List (Option Value)} {w : aw} {cn sn : Nat}  : wp d 17 Q 37 L [] w cn sn = Q none w := w_return d_17_37 rfl
theorem d_18_0 : decode (mB 18) 0 = .ok (.aload_n 0, 1) := by decide +kernel
theorem s_18_0 {d : Nat} {Q : wQ} {L : List (Option Value)} {st : List Value} {w : aw} {cn sn : Nat} {v : Nat} : wp d 18 Q 0 (some (.ref v) :: L) st w cn sn = wp d 18 Q 1 (some (.ref v) :: L) (.ref v :: st) w cn sn := w_aload_n d_18_0 rfl
theorem d_18_1 : decode (mB 18) 1 = .ok (.getfield 17, 3) := by decide +kernel
theorem s_18_1 {d : Nat} {Q : wQ} {L : List (Option Value)} {st : List Value} {w : aw} {cn sn : Nat} {a : Nat} : wp d 18 Q 1 L (.ref a :: st) w cn sn = (kd w a = 2 ∧ wp d 18 Q 4 L (fd w 69 a :: st) w cn sn) := w_getfield d_18_1 (by decide +kernel : fT (mO 18) 17 = some (1, 5))
theorem d_18_4 : decode (mB 18) 4 = .ok (.iconst 0, 1) := by decide +kernel
theorem s_18_4 {d : Nat} {Q : wQ} {L : List (Option Value)} {st : List Value} {w : aw} {cn sn : Nat}  : wp d 18 Q 4 L st w cn sn = wp d 18 Q 5 L (.int 0 :: st) w cn sn := w_iconst d_18_4 (by decide)
theorem d_18_5 : decode (mB 18) 5 = .ok (.aaload, 1) := by decide +kernel
theorem s_18_5 {d : Nat} {Q : wQ} {L : List (Option Value)} {st : List Value} {w : aw} {cn sn : Nat} {a : Nat} {i : Int32} : wp d 18 Q 5 L (.int i :: .ref a :: st) w cn sn = (kd w a = 24 ∧ inR i (ln w a) ∧ wp d 18 Q 6 L (va_rf (ar w a i.toNatClampNeg) :: st) w cn sn) := wp_row d_18_5 _ _ _ _ _
theorem d_18_6 : decode (mB 18) 6 = .ok (.astore_n 1, 1) := by decide +kernel
theorem s_18_6 {d : Nat} {Q : wQ} {L : List (Option Value)} {st : List Value} {w : aw} {cn sn : Nat} {a0 a1 : Option Value} {v : Nat} : wp d 18 Q 6 (a0 :: a1 :: L) (.ref v :: st) w cn sn = wp d 18 Q 7 (clr a0 :: some (.ref v) :: L) st w cn sn := w_astore_n d_18_6 (Nat.le_add_left 2 _) rfl
theorem s_18_6n {d : Nat} {Q : wQ} {L : List (Option Value)} {st : List Value} {w : aw} {cn sn : Nat} {a0 a1 : Option Value} : wp d 18 Q 6 (a0 :: a1 :: L) (.null :: st) w cn sn = wp d 18 Q 7 (clr a0 :: some .null :: L) st w cn sn := w_astore_nN d_18_6 (Nat.le_add_left 2 _) rfl
theorem d_18_7 : decode (mB 18) 7 = .ok (.aload_n 0, 1) := by decide +kernel
theorem s_18_7 {d : Nat} {Q : wQ} {L : List (Option Value)} {st : List Value} {w : aw} {cn sn : Nat} {v : Nat} : wp d 18 Q 7 (some (.ref v) :: L) st w cn sn = wp d 18 Q 8 (some (.ref v) :: L) (.ref v :: st) w cn sn := w_aload_n d_18_7 rfl
theorem d_18_8 : decode (mB 18) 8 = .ok (.getfield 48, 3) := by decide +kernel
theorem s_18_8 {d : Nat} {Q : wQ} {L : List (Option Value)} {st : List Value} {w : aw} {cn sn : Nat} {a : Nat} : wp d 18 Q 8 L (.ref a :: st) w cn sn = (kd w a = 2 ∧ wp d 18 Q 11 L (fd w 73 a :: st) w cn sn) := w_getfield d_18_8 (by decide +kernel : fT (mO 18) 48 = some (1, 9))
theorem d_18_11 : decode (mB 18) 11 = .ok (.ifnonnull 14, 3) := by decide +kernel
theorem s_18_11 {d : Nat} {Q : wQ} {L : List (Option Value)} {st : List Value} {w : aw} {cn sn : Nat} {q : Nat} : wp d 18 Q 11 L (.ref q :: st) w cn sn = wp d 18 Q 25 L st w cn sn := w_ifnn d_18_11 (t := 25) (by decide)
theorem s_18_11n {d : Nat} {Q : wQ} {L : List (Option Value)} {st : List Value} {w : aw} {cn sn : Nat}  : wp d 18 Q 11 L (.null :: st) w cn sn = wp d 18 Q 14 L st w cn sn := w_ifnnN d_18_11 (t := 25) (by decide)
theorem d_18_14 : decode (mB 18) 14 = .ok (.aload_n 0, 1) := by decide +kernel
theorem s_18_14 {d : Nat} {Q : wQ} {L : List (Option Value)} {st : List Value} {w : aw} {cn sn : Nat} {v : Nat} : wp d 18 Q 14 (some (.ref v) :: L) st w cn sn = wp d 18 Q 15 (some (.ref v) :: L) (.ref v :: st) w cn sn := w_aload_n d_18_14 rfl
theorem d_18_15 : decode (mB 18) 15 = .ok (.getfield 42, 3) := by decide +kernel
theorem s_18_15 {d : Nat} {Q : wQ} {L : List (Option Value)} {st : List Value} {w : aw} {cn sn : Nat} {a : Nat} : wp d 18 Q 15 L (.ref a :: st) w cn sn = (kd w a = 2 ∧ wp d 18 Q 18 L (fd w 70 a :: st) w cn sn) := w_getfield d_18_15 (by decide +kernel : fT (mO 18) 42 = some (1, 6))
theorem d_18_18 : decode (mB 18) 18 = .ok (.ifCond .le 7, 3) := by decide +kernel
theorem s_18_18 {d : Nat} {Q : wQ} {L : List (Option Value)} {st : List Value} {w : aw} {cn sn : Nat} {x : Int32} : wp d 18 Q 18 L (.int x :: st) w cn sn = ((x ≤ 0 → wp d 18 Q 25 L st w cn sn) ∧ (¬ x ≤ 0 → wp d 18 Q 21 L st w cn sn)) := w_ifle d_18_18 (by decide)
theorem d_18_21 : decode (mB 18) 21 = .ok (.aload_n 1, 1) := by decide +kernel
theorem s_18_21 {d : Nat} {Q : wQ} {L : List (Option Value)} {st : List Value} {w : aw} {cn sn : Nat} {a0 : Option Value} {v : Nat} : wp d 18 Q 21 (a0 :: some (.ref v) :: L) st w cn sn = wp d 18 Q 22 (a0 :: some (.ref v) :: L) (.ref v :: st) w cn sn := w_aload_n d_18_21 rfl
theorem s_18_21n {d : Nat} {Q : wQ} {L : List (Option Value)} {st : List Value} {w : aw} {cn sn : Nat} {a0 : Option Value} : wp d 18 Q 21 (a0 :: some .null :: L) st w cn sn = wp d 18 Q 22 (a0 :: some .null :: L) (.null :: st) w cn sn := w_aload_nN d_18_21 rfl
theorem d_18_22 : decode (mB 18) 22 = .ok (.ifnonnull 4, 3) := by decide +kernel
theorem s_18_22 {d : Nat} {Q : wQ} {L : List (Option Value)} {st : List Value} {w : aw} {cn sn : Nat} {q : Nat} : wp d 18 Q 22 L (.ref q :: st) w cn sn = wp d 18 Q 26 L st w cn sn := w_ifnn d_18_22 (t := 26) (by decide)
theorem s_18_22n {d : Nat} {Q : wQ} {L : List (Option Value)} {st : List Value} {w : aw} {cn sn : Nat}  : wp d 18 Q 22 L (.null :: st) w cn sn = wp d 18 Q 25 L st w cn sn := w_ifnnN d_18_22 (t := 26) (by decide)
theorem d_18_25 : decode (mB 18) 25 = .ok (.return_, 1) := by decide +kernel
theorem s_18_25 {d : Nat} {Q : wQ} {L : List (Option Value)} {w : aw} {cn sn : Nat}  : wp d 18 Q 25 L [] w cn sn = Q none w := w_return d_18_25 rfl
theorem d_18_26 : decode (mB 18) 26 = .ok (.aload_n 0, 1) := by decide +kernel
theorem s_18_26 {d : Nat} {Q : wQ} {L : List (Option Value)} {st : List Value} {w : aw} {cn sn : Nat} {v : Nat} : wp d 18 Q 26 (some (.ref v) :: L) st w cn sn = wp d 18 Q 27 (some (.ref v) :: L) (.ref v :: st) w cn sn := w_aload_n d_18_26 rfl
theorem d_18_27 : decode (mB 18) 27 = .ok (.dup, 1) := by decide +kernel
theorem s_18_27 {d : Nat} {Q : wQ} {L : List (Option Value)} {st : List Value} {w : aw} {cn sn : Nat} {v : Value} : wp d 18 Q 27 L (v :: st) w cn sn = (v.category = 1 ∧ wp d 18 Q 28 L (v :: v :: st) w cn sn) := wp_row d_18_27 _ _ _ _ _
theorem d_18_28 : decode (mB 18) 28 = .ok (.getfield 42, 3) := by decide +kernel
theorem s_18_28 {d : Nat} {Q : wQ} {L : List (Option Value)} {st : List Value} {w : aw} {cn sn : Nat} {a : Nat} : wp d 18 Q 28 L (.ref a :: st) w cn sn = (kd w a = 2 ∧ wp d 18 Q 31 L (fd w 70 a :: st) w cn sn) := w_getfield d_18_28 (by decide +kernel : fT (mO 18) 42 = some (1, 6))
theorem d_18_31 : decode (mB 18) 31 = .ok (.iconst 1, 1) := by decide +kernel
theorem s_18_31 {d : Nat} {Q : wQ} {L : List (Option Value)} {st : List Value} {w : aw} {cn sn : Nat}  : wp d 18 Q 31 L st w cn sn = wp d 18 Q 32 L (.int 1 :: st) w cn sn := w_iconst d_18_31 (by decide)
theorem d_18_32 : decode (mB 18) 32 = .ok (.isub, 1) := by decide +kernel
theorem s_18_32 {d : Nat} {Q : wQ} {L : List (Option Value)} {st : List Value} {w : aw} {cn sn : Nat} {a b : Int32} : wp d 18 Q 32 L (.int b :: .int a :: st) w cn sn = wp d 18 Q 33 L (.int (a - b) :: st) w cn sn := wp_row d_18_32 _ _ _ _ _
theorem d_18_33 : decode (mB 18) 33 = .ok (.putfield 42, 3) := by decide +kernel
theorem s_18_33 {d : Nat} {Q : wQ} {L : List (Option Value)} {st : List Value} {w : aw} {cn sn : Nat} {x : Int32} {a : Nat} : wp d 18 Q 33 L (.int x :: .ref a :: st) w cn sn = (kd w a = 2 ∧ wp d 18 Q 36 L st (uF w 70 a (.int x)) cn sn) := w_putfield d_18_33 (by decide +kernel : fT (mO 18) 42 = some (1, 6)) (by decide +kernel) ok_int
theorem d_18_36 : decode (mB 18) 36 = .ok (.iconst 1, 1) := by decide +kernel
theorem s_18_36 {d : Nat} {Q : wQ} {L : List (Option Value)} {st : List Value} {w : aw} {cn sn : Nat}  : wp d 18 Q 36 L st w cn sn = wp d 18 Q 37 L (.int 1 :: st) w cn sn := w_iconst d_18_36 (by decide)
theorem d_18_37 : decode (mB 18) 37 = .ok (.istore_n 2, 1) := by decide +kernel
theorem s_18_37 {d : Nat} {Q : wQ} {L : List (Option Value)} {st : List Value} {w : aw} {cn sn : Nat} {a0 a1 a2 : Option Value} {v : Int32} : wp d 18 Q 37 (a0 :: a1 :: a2 :: L) (.int v :: st) w cn sn = wp d 18 Q 38 (a0 :: clr a1 :: some (.int v) :: L) st w cn sn := w_istore_n d_18_37 (Nat.le_add_left 3 _) rfl
theorem d_18_38 : decode (mB 18) 38 = .ok (.iload_n 2, 1) := by decide +kernel
theorem s_18_38 {d : Nat} {Q : wQ} {L : List (Option Value)} {st : List Value} {w : aw} {cn sn : Nat} {a0 a1 : Option Value} {v : Int32} : wp d 18 Q 38 (a0 :: a1 :: some (.int v) :: L) st w cn sn = wp d 18 Q 39 (a0 :: a1 :: some (.int v) :: L) (.int v :: st) w cn sn := w_iload_n d_18_38 rfl
theorem d_18_39 : decode (mB 18) 39 = .ok (.aload_n 0, 1) := by decide +kernel
theorem s_18_39 {d : Nat} {Q : wQ} {L : List (Option Value)} {st : List Value} {w : aw} {cn sn : Nat} {v : Nat} : wp d 18 Q 39 (some (.ref v) :: L) st w cn sn = wp d 18 Q 40 (some (.ref v) :: L) (.ref v :: st) w cn sn := w_aload_n d_18_39 rfl
theorem d_18_40 : decode (mB 18) 40 = .ok (.getfield 17, 3) := by decide +kernel
theorem s_18_40 {d : Nat} {Q : wQ} {L : List (Option Value)} {st : List Value} {w : aw} {cn sn : Nat} {a : Nat} : wp d 18 Q 40 L (.ref a :: st) w cn sn = (kd w a = 2 ∧ wp d 18 Q 43 L (fd w 69 a :: st) w cn sn) := w_getfield d_18_40 (by decide +kernel : fT (mO 18) 17 = some (1, 5))
theorem d_18_43 : decode (mB 18) 43 = .ok (.arraylength, 1) := by decide +kernel
theorem s_18_43 {d : Nat} {Q : wQ} {L : List (Option Value)} {st : List Value} {w : aw} {cn sn : Nat} {a : Nat} : wp d 18 Q 43 L (.ref a :: st) w cn sn = ((tyA (kd w a)).isSome = true ∧ wp d 18 Q 44 L (.int (nI (ln w a)) :: st) w cn sn) := wp_row d_18_43 _ _ _ _ _
theorem d_18_44 : decode (mB 18) 44 = .ok (.if_icmp .ge 23, 3) := by decide +kernel
theorem s_18_44 {d : Nat} {Q : wQ} {L : List (Option Value)} {st : List Value} {w : aw} {cn sn : Nat} {a b : Int32} : wp d 18 Q 44 L (.int b :: .int a :: st) w cn sn = ((b ≤ a → wp d 18 Q 67 L st w cn sn) ∧ (¬ b ≤ a → wp d 18 Q 47 L st w cn sn)) := w_icge d_18_44 (by decide)
theorem d_18_47 : decode (mB 18) 47 = .ok (.aload_n 0, 1) := by decide +kernel
theorem s_18_47 {d : Nat} {Q : wQ} {L : List (Option Value)} {st : List Value} {w : aw} {cn sn : Nat} {v : Nat} : wp d 18 Q 47 (some (.ref v) :: L) st w cn sn = wp d 18 Q 48 (some (.ref v) :: L) (.ref v :: st) w cn sn := w_aload_n d_18_47 rfl
theorem d_18_48 : decode (mB 18) 48 = .ok (.getfield 17, 3) := by decide +kernel
theorem s_18_48 {d : Nat} {Q : wQ} {L : List (Option Value)} {st : List Value} {w : aw} {cn sn : Nat} {a : Nat} : wp d 18 Q 48 L (.ref a :: st) w cn sn = (kd w a = 2 ∧ wp d 18 Q 51 L (fd w 69 a :: st) w cn sn) := w_getfield d_18_48 (by decide +kernel : fT (mO 18) 17 = some (1, 5))
theorem d_18_51 : decode (mB 18) 51 = .ok (.iload_n 2, 1) := by decide +kernel
theorem s_18_51 {d : Nat} {Q : wQ} {L : List (Option Value)} {st : List Value} {w : aw} {cn sn : Nat} {a0 a1 : Option Value} {v : Int32} : wp d 18 Q 51 (a0 :: a1 :: some (.int v) :: L) st w cn sn = wp d 18 Q 52 (a0 :: a1 :: some (.int v) :: L) (.int v :: st) w cn sn := w_iload_n d_18_51 rfl
theorem d_18_52 : decode (mB 18) 52 = .ok (.iconst 1, 1) := by decide +kernel
theorem s_18_52 {d : Nat} {Q : wQ} {L : List (Option Value)} {st : List Value} {w : aw} {cn sn : Nat}  : wp d 18 Q 52 L st w cn sn = wp d 18 Q 53 L (.int 1 :: st) w cn sn := w_iconst d_18_52 (by decide)
theorem d_18_53 : decode (mB 18) 53 = .ok (.isub, 1) := by decide +kernel
theorem s_18_53 {d : Nat} {Q : wQ} {L : List (Option Value)} {st : List Value} {w : aw} {cn sn : Nat} {a b : Int32} : wp d 18 Q 53 L (.int b :: .int a :: st) w cn sn = wp d 18 Q 54 L (.int (a - b) :: st) w cn sn := wp_row d_18_53 _ _ _ _ _
theorem d_18_54 : decode (mB 18) 54 = .ok (.aload_n 0, 1) := by decide +kernel
theorem s_18_54 {d : Nat} {Q : wQ} {L : List (Option Value)} {st : List Value} {w : aw} {cn sn : Nat} {v : Nat} : wp d 18 Q 54 (some (.ref v) :: L) st w cn sn = wp d 18 Q 55 (some (.ref v) :: L) (.ref v :: st) w cn sn := w_aload_n d_18_54 rfl
theorem d_18_55 : decode (mB 18) 55 = .ok (.getfield 17, 3) := by decide +kernel
theorem s_18_55 {d : Nat} {Q : wQ} {L : List (Option Value)} {st : List Value} {w : aw} {cn sn : Nat} {a : Nat} : wp d 18 Q 55 L (.ref a :: st) w cn sn = (kd w a = 2 ∧ wp d 18 Q 58 L (fd w 69 a :: st) w cn sn) := w_getfield d_18_55 (by decide +kernel : fT (mO 18) 17 = some (1, 5))
theorem d_18_58 : decode (mB 18) 58 = .ok (.iload_n 2, 1) := by decide +kernel
theorem s_18_58 {d : Nat} {Q : wQ} {L : List (Option Value)} {st : List Value} {w : aw} {cn sn : Nat} {a0 a1 : Option Value} {v : Int32} : wp d 18 Q 58 (a0 :: a1 :: some (.int v) :: L) st w cn sn = wp d 18 Q 59 (a0 :: a1 :: some (.int v) :: L) (.int v :: st) w cn sn := w_iload_n d_18_58 rfl
theorem d_18_59 : decode (mB 18) 59 = .ok (.aaload, 1) := by decide +kernel
theorem s_18_59 {d : Nat} {Q : wQ} {L : List (Option Value)} {st : List Value} {w : aw} {cn sn : Nat} {a : Nat} {i : Int32} : wp d 18 Q 59 L (.int i :: .ref a :: st) w cn sn = (kd w a = 24 ∧ inR i (ln w a) ∧ wp d 18 Q 60 L (va_rf (ar w a i.toNatClampNeg) :: st) w cn sn) := wp_row d_18_59 _ _ _ _ _
theorem d_18_60 : decode (mB 18) 60 = .ok (.aastore, 1) := by decide +kernel
theorem s_18_60 {d : Nat} {Q : wQ} {L : List (Option Value)} {st : List Value} {w : aw} {cn sn : Nat} {a x : Nat} {i : Int32} : wp d 18 Q 60 L (.ref x :: .int i :: .ref a :: st) w cn sn = (kd w a = 24 ∧ inR i (ln w a) ∧ (∀ q, some x = some q → kd w q = 7) ∧ wp d 18 Q 61 L st (uR w a i.toNatClampNeg (some x)) cn sn) := wp_row d_18_60 _ _ _ _ _
theorem s_18_60n {d : Nat} {Q : wQ} {L : List (Option Value)} {st : List Value} {w : aw} {cn sn : Nat} {a : Nat} {i : Int32} : wp d 18 Q 60 L (.null :: .int i :: .ref a :: st) w cn sn = (kd w a = 24 ∧ inR i (ln w a) ∧ (∀ q, none = some q → kd w q = 7) ∧ wp d 18 Q 61 L st (uR w a i.toNatClampNeg none) cn sn) := wp_row d_18_60 _ _ _ _ _
theorem d_18_61 : decode (mB 18) 61 = .ok (.iinc 2 1, 3) := by decide +kernel
theorem s_18_61 {d : Nat} {Q : wQ} {L : List (Option Value)} {st : List Value} {w : aw} {cn sn : Nat} {a0 a1 : Option Value} {v : Int32} : wp d 18 Q 61 (a0 :: a1 :: some (.int v) :: L) st w cn sn = wp d 18 Q 64 (a0 :: clr a1 :: some (.int (v + 1)) :: L) st w cn sn := w_iinc d_18_61 rfl (by decide) rfl
theorem d_18_64 : decode (mB 18) 64 = .ok (.goto (-26), 3) := by decide +kernel
theorem s_18_64 {d : Nat} {Q : wQ} {L : List (Option Value)} {st : List Value} {w : aw} {cn sn : Nat}  : wp d 18 Q 64 L st w cn sn = wp d 18 Q 38 L st w cn sn := w_goto d_18_64 (by decide)
theorem d_18_67 : decode (mB 18) 67 = .ok (.aload_n 1, 1) := by decide +kernel
theorem s_18_67 {d : Nat} {Q : wQ} {L : List (Option Value)} {st : List Value} {w : aw} {cn sn : Nat} {a0 : Option Value} {v : Nat} : wp d 18 Q 67 (a0 :: some (.ref v) :: L) st w cn sn = wp d 18 Q 68 (a0 :: some (.ref v) :: L) (.ref v :: st) w cn sn := w_aload_n d_18_67 rfl
theorem s_18_67n {d : Nat} {Q : wQ} {L : List (Option Value)} {st : List Value} {w : aw} {cn sn : Nat} {a0 : Option Value} : wp d 18 Q 67 (a0 :: some .null :: L) st w cn sn = wp d 18 Q 68 (a0 :: some .null :: L) (.null :: st) w cn sn := w_aload_nN d_18_67 rfl
theorem d_18_68 : decode (mB 18) 68 = .ok (.iconst 2, 1) := by decide +kernel
theorem s_18_68 {d : Nat} {Q : wQ} {L : List (Option Value)} {st : List Value} {w : aw} {cn sn : Nat}  : wp d 18 Q 68 L st w cn sn = wp d 18 Q 69 L (.int 2 :: st) w cn sn := w_iconst d_18_68 (by decide)
theorem d_18_69 : decode (mB 18) 69 = .ok (.putfield 45, 3) := by decide +kernel
theorem s_18_69 {d : Nat} {Q : wQ} {L : List (Option Value)} {st : List Value} {w : aw} {cn sn : Nat} {x : Int32} {a : Nat} : wp d 18 Q 69 L (.int x :: .ref a :: st) w cn sn = (kd w a = 7 ∧ wp d 18 Q 72 L st (uF w 394 a (.int x)) cn sn) := w_putfield d_18_69 (by decide +kernel : fT (mO 18) 45 = some (6, 10)) (by decide +kernel) ok_int
theorem d_18_72 : decode (mB 18) 72 = .ok (.aload_n 1, 1) := by decide +kernel
theorem s_18_72 {d : Nat} {Q : wQ} {L : List (Option Value)} {st : List Value} {w : aw} {cn sn : Nat} {a0 : Option Value} {v : Nat} : wp d 18 Q 72 (a0 :: some (.ref v) :: L) st w cn sn = wp d 18 Q 73 (a0 :: some (.ref v) :: L) (.ref v :: st) w cn sn := w_aload_n d_18_72 rfl
theorem s_18_72n {d : Nat} {Q : wQ} {L : List (Option Value)} {st : List Value} {w : aw} {cn sn : Nat} {a0 : Option Value} : wp d 18 Q 72 (a0 :: some .null :: L) st w cn sn = wp d 18 Q 73 (a0 :: some .null :: L) (.null :: st) w cn sn := w_aload_nN d_18_72 rfl
theorem d_18_73 : decode (mB 18) 73 = .ok (.aload_n 0, 1) := by decide +kernel
theorem s_18_73 {d : Nat} {Q : wQ} {L : List (Option Value)} {st : List Value} {w : aw} {cn sn : Nat} {v : Nat} : wp d 18 Q 73 (some (.ref v) :: L) st w cn sn = wp d 18 Q 74 (some (.ref v) :: L) (.ref v :: st) w cn sn := w_aload_n d_18_73 rfl
theorem d_18_74 : decode (mB 18) 74 = .ok (.getfield 36, 3) := by decide +kernel
theorem s_18_74 {d : Nat} {Q : wQ} {L : List (Option Value)} {st : List Value} {w : aw} {cn sn : Nat} {a : Nat} : wp d 18 Q 74 L (.ref a :: st) w cn sn = (kd w a = 2 ∧ wp d 18 Q 77 L (fd w 67 a :: st) w cn sn) := w_getfield d_18_74 (by decide +kernel : fT (mO 18) 36 = some (1, 3))
theorem d_18_77 : decode (mB 18) 77 = .ok (.putfield 52, 3) := by decide +kernel
theorem s_18_77 {d : Nat} {Q : wQ} {L : List (Option Value)} {st : List Value} {w : aw} {cn sn : Nat} {x : Int32} {a : Nat} : wp d 18 Q 77 L (.int x :: .ref a :: st) w cn sn = (kd w a = 7 ∧ wp d 18 Q 80 L st (uF w 396 a (.int x)) cn sn) := w_putfield d_18_77 (by decide +kernel : fT (mO 18) 52 = some (6, 12)) (by decide +kernel) ok_int
theorem d_18_80 : decode (mB 18) 80 = .ok (.aload_n 0, 1) := by decide +kernel
theorem s_18_80 {d : Nat} {Q : wQ} {L : List (Option Value)} {st : List Value} {w : aw} {cn sn : Nat} {v : Nat} : wp d 18 Q 80 (some (.ref v) :: L) st w cn sn = wp d 18 Q 81 (some (.ref v) :: L) (.ref v :: st) w cn sn := w_aload_n d_18_80 rfl
theorem d_18_81 : decode (mB 18) 81 = .ok (.aload_n 1, 1) := by decide +kernel
theorem s_18_81 {d : Nat} {Q : wQ} {L : List (Option Value)} {st : List Value} {w : aw} {cn sn : Nat} {a0 : Option Value} {v : Nat} : wp d 18 Q 81 (a0 :: some (.ref v) :: L) st w cn sn = wp d 18 Q 82 (a0 :: some (.ref v) :: L) (.ref v :: st) w cn sn := w_aload_n d_18_81 rfl
theorem s_18_81n {d : Nat} {Q : wQ} {L : List (Option Value)} {st : List Value} {w : aw} {cn sn : Nat} {a0 : Option Value} : wp d 18 Q 81 (a0 :: some .null :: L) st w cn sn = wp d 18 Q 82 (a0 :: some .null :: L) (.null :: st) w cn sn := w_aload_nN d_18_81 rfl
theorem d_18_82 : decode (mB 18) 82 = .ok (.putfield 48, 3) := by decide +kernel
theorem s_18_82 {d : Nat} {Q : wQ} {L : List (Option Value)} {st : List Value} {w : aw} {cn sn : Nat} {x : Nat} {a : Nat} : wp d 18 Q 82 L (.ref x :: .ref a :: st) w cn sn = (kd w a = 2 ∧ wp d 18 Q 85 L st (uF w 73 a (.ref x)) cn sn) := w_putfield d_18_82 (by decide +kernel : fT (mO 18) 48 = some (1, 9)) (by decide +kernel) ok_ref
theorem s_18_82n {d : Nat} {Q : wQ} {L : List (Option Value)} {st : List Value} {w : aw} {cn sn : Nat} {a : Nat} : wp d 18 Q 82 L (.null :: .ref a :: st) w cn sn = (kd w a = 2 ∧ wp d 18 Q 85 L st (uF w 73 a (.null)) cn sn) := w_putfield d_18_82 (by decide +kernel : fT (mO 18) 48 = some (1, 9)) (by decide +kernel) ok_null
theorem d_18_85 : decode (mB 18) 85 = .ok (.aload_n 1, 1) := by decide +kernel
theorem s_18_85 {d : Nat} {Q : wQ} {L : List (Option Value)} {st : List Value} {w : aw} {cn sn : Nat} {a0 : Option Value} {v : Nat} : wp d 18 Q 85 (a0 :: some (.ref v) :: L) st w cn sn = wp d 18 Q 86 (a0 :: some (.ref v) :: L) (.ref v :: st) w cn sn := w_aload_n d_18_85 rfl
theorem s_18_85n {d : Nat} {Q : wQ} {L : List (Option Value)} {st : List Value} {w : aw} {cn sn : Nat} {a0 : Option Value} : wp d 18 Q 85 (a0 :: some .null :: L) st w cn sn = wp d 18 Q 86 (a0 :: some .null :: L) (.null :: st) w cn sn := w_aload_nN d_18_85 rfl
theorem d_18_86 : decode (mB 18) 86 = .ok (.getfield 55, 3) := by decide +kernel
theorem s_18_86 {d : Nat} {Q : wQ} {L : List (Option Value)} {st : List Value} {w : aw} {cn sn : Nat} {a : Nat} : wp d 18 Q 86 L (.ref a :: st) w cn sn = (kd w a = 7 ∧ wp d 18 Q 89 L (fd w 398 a :: st) w cn sn) := w_getfield d_18_86 (by decide +kernel : fT (mO 18) 55 = some (6, 14))
theorem d_18_89 : decode (mB 18) 89 = .ok (.ifCond .ne 8, 3) := by decide +kernel
theorem s_18_89 {d : Nat} {Q : wQ} {L : List (Option Value)} {st : List Value} {w : aw} {cn sn : Nat} {x : Int32} : wp d 18 Q 89 L (.int x :: st) w cn sn = ((¬ x = 0 → wp d 18 Q 97 L st w cn sn) ∧ (x = 0 → wp d 18 Q 92 L st w cn sn)) := w_ifne d_18_89 (by decide)
theorem d_18_92 : decode (mB 18) 92 = .ok (.aload_n 0, 1) := by decide +kernel
theorem s_18_92 {d : Nat} {Q : wQ} {L : List (Option Value)} {st : List Value} {w : aw} {cn sn : Nat} {v : Nat} : wp d 18 Q 92 (some (.ref v) :: L) st w cn sn = wp d 18 Q 93 (some (.ref v) :: L) (.ref v :: st) w cn sn := w_aload_n d_18_92 rfl
theorem d_18_93 : decode (mB 18) 93 = .ok (.aload_n 1, 1) := by decide +kernel
theorem s_18_93 {d : Nat} {Q : wQ} {L : List (Option Value)} {st : List Value} {w : aw} {cn sn : Nat} {a0 : Option Value} {v : Nat} : wp d 18 Q 93 (a0 :: some (.ref v) :: L) st w cn sn = wp d 18 Q 94 (a0 :: some (.ref v) :: L) (.ref v :: st) w cn sn := w_aload_n d_18_93 rfl
theorem s_18_93n {d : Nat} {Q : wQ} {L : List (Option Value)} {st : List Value} {w : aw} {cn sn : Nat} {a0 : Option Value} : wp d 18 Q 93 (a0 :: some .null :: L) st w cn sn = wp d 18 Q 94 (a0 :: some .null :: L) (.null :: st) w cn sn := w_aload_nN d_18_93 rfl
theorem d_18_94 : decode (mB 18) 94 = .ok (.invokevirtual 58, 3) := by decide +kernel
theorem s_18_94 {d : Nat} {Q : wQ} {L : List (Option Value)} {st : List Value} {w : aw} {cn sn : Nat} {v0 : Value} {b : Nat} : wp d 18 Q 94 L (v0 :: .ref b :: st) w cn sn = (kd w b = 2 ∧ catS st ≤ 8 ∧ wpD d 19 [.ref b, v0] w (fun v w' => wp d 18 Q 97 L (v.toList ++ st) w' cn sn)) := w_virtual (As := [v0]) d_18_94 (by decide +kernel : cT (mO 18) 58 = some (0, 19)) rfl (by decide +kernel) rfl (by decide +kernel) rfl
theorem d_18_97 : decode (mB 18) 97 = .ok (.return_, 1) := by decide +kernel
theorem s_18_97 {d : Nat} {Q : wQ} {L : List (Option Value)} {w : aw} {cn sn : Nat}  : wp d 18 Q 97 L [] w cn sn = Q none w := w_return d_18_97 rfl
theorem d_19_0 : decode (mB 19) 0 = .ok (.aload_n 0, 1) := by decide +kernel
theorem s_19_0 {d : Nat} {Q : wQ} {L : List (Option Value)} {st : List Value} {w : aw} {cn sn : Nat} {v : Nat} : wp d 19 Q 0 (some (.ref v) :: L) st w cn sn = wp d 19 Q 1 (some (.ref v) :: L) (.ref v :: st) w cn sn := w_aload_n d_19_0 rfl
theorem d_19_1 : decode (mB 19) 1 = .ok (.getfield 23, 3) := by decide +kernel
theorem s_19_1 {d : Nat} {Q : wQ} {L : List (Option Value)} {st : List Value} {w : aw} {cn sn : Nat} {a : Nat} : wp d 19 Q 1 L (.ref a :: st) w cn sn = (kd w a = 2 ∧ wp d 19 Q 4 L (fd w 72 a :: st) w cn sn) := w_getfield d_19_1 (by decide +kernel : fT (mO 19) 23 = some (1, 8))
theorem d_19_4 : decode (mB 19) 4 = .ok (.aload_n 0, 1) := by decide +kernel
theorem s_19_4 {d : Nat} {Q : wQ} {L : List (Option Value)} {st : List Value} {w : aw} {cn sn : Nat} {v : Nat} : wp d 19 Q 4 (some (.ref v) :: L) st w cn sn = wp d 19 Q 5 (some (.ref v) :: L) (.ref v :: st) w cn sn := w_aload_n d_19_4 rfl
theorem d_19_5 : decode (mB 19) 5 = .ok (.getfield 20, 3) := by decide +kernel
theorem s_19_5 {d : Nat} {Q : wQ} {L : List (Option Value)} {st : List Value} {w : aw} {cn sn : Nat} {a : Nat} : wp d 19 Q 5 L (.ref a :: st) w cn sn = (kd w a = 2 ∧ wp d 19 Q 8 L (fd w 71 a :: st) w cn sn) := w_getfield d_19_5 (by decide +kernel : fT (mO 19) 20 = some (1, 7))
theorem d_19_8 : decode (mB 19) 8 = .ok (.arraylength, 1) := by decide +kernel
theorem s_19_8 {d : Nat} {Q : wQ} {L : List (Option Value)} {st : List Value} {w : aw} {cn sn : Nat} {a : Nat} : wp d 19 Q 8 L (.ref a :: st) w cn sn = ((tyA (kd w a)).isSome = true ∧ wp d 19 Q 9 L (.int (nI (ln w a)) :: st) w cn sn) := wp_row d_19_8 _ _ _ _ _
theorem d_19_9 : decode (mB 19) 9 = .ok (.if_icmp .lt 4, 3) := by decide +kernel
theorem s_19_9 {d : Nat} {Q : wQ} {L : List (Option Value)} {st : List Value} {w : aw} {cn sn : Nat} {a b : Int32} : wp d 19 Q 9 L (.int b :: .int a :: st) w cn sn = ((a < b → wp d 19 Q 13 L st w cn sn) ∧ (¬ a < b → wp d 19 Q 12 L st w cn sn)) := w_iclt d_19_9 (by decide)
theorem d_19_12 : decode (mB 19) 12 = .ok (.return_, 1) := by decide +kernel
theorem s_19_12 {d : Nat} {Q : wQ} {L : List (Option Value)} {w : aw} {cn sn : Nat}  : wp d 19 Q 12 L [] w cn sn = Q none w := w_return d_19_12 rfl
theorem d_19_13 : decode (mB 19) 13 = .ok (.aload_n 0, 1) := by decide +kernel
theorem s_19_13 {d : Nat} {Q : wQ} {L : List (Option Value)} {st : List Value} {w : aw} {cn sn : Nat} {v : Nat} : wp d 19 Q 13 (some (.ref v) :: L) st w cn sn = wp d 19 Q 14 (some (.ref v) :: L) (.ref v :: st) w cn sn := w_aload_n d_19_13 rfl
theorem d_19_14 : decode (mB 19) 14 = .ok (.getfield 20, 3) := by decide +kernel
theorem s_19_14 {d : Nat} {Q : wQ} {L : List (Option Value)} {st : List Value} {w : aw} {cn sn : Nat} {a : Nat} : wp d 19 Q 14 L (.ref a :: st) w cn sn = (kd w a = 2 ∧ wp d 19 Q 17 L (fd w 71 a :: st) w cn sn) := w_getfield d_19_14 (by decide +kernel : fT (mO 19) 20 = some (1, 7))
theorem d_19_17 : decode (mB 19) 17 = .ok (.aload_n 0, 1) := by decide +kernel
theorem s_19_17 {d : Nat} {Q : wQ} {L : List (Option Value)} {st : List Value} {w : aw} {cn sn : Nat} {v : Nat} : wp d 19 Q 17 (some (.ref v) :: L) st w cn sn = wp d 19 Q 18 (some (.ref v) :: L) (.ref v :: st) w cn sn := w_aload_n d_19_17 rfl
theorem d_19_18 : decode (mB 19) 18 = .ok (.getfield 23, 3) := by decide +kernel
theorem s_19_18 {d : Nat} {Q : wQ} {L : List (Option Value)} {st : List Value} {w : aw} {cn sn : Nat} {a : Nat} : wp d 19 Q 18 L (.ref a :: st) w cn sn = (kd w a = 2 ∧ wp d 19 Q 21 L (fd w 72 a :: st) w cn sn) := w_getfield d_19_18 (by decide +kernel : fT (mO 19) 23 = some (1, 8))
theorem d_19_21 : decode (mB 19) 21 = .ok (.aaload, 1) := by decide +kernel
theorem s_19_21 {d : Nat} {Q : wQ} {L : List (Option Value)} {st : List Value} {w : aw} {cn sn : Nat} {a : Nat} {i : Int32} : wp d 19 Q 21 L (.int i :: .ref a :: st) w cn sn = (kd w a = 24 ∧ inR i (ln w a) ∧ wp d 19 Q 22 L (va_rf (ar w a i.toNatClampNeg) :: st) w cn sn) := wp_row d_19_21 _ _ _ _ _
theorem d_19_22 : decode (mB 19) 22 = .ok (.astore_n 2, 1) := by decide +kernel
theorem s_19_22 {d : Nat} {Q : wQ} {L : List (Option Value)} {st : List Value} {w : aw} {cn sn : Nat} {a0 a1 a2 : Option Value} {v : Nat} : wp d 19 Q 22 (a0 :: a1 :: a2 :: L) (.ref v :: st) w cn sn = wp d 19 Q 23 (a0 :: clr a1 :: some (.ref v) :: L) st w cn sn := w_astore_n d_19_22 (Nat.le_add_left 3 _) rfl
theorem s_19_22n {d : Nat} {Q : wQ} {L : List (Option Value)} {st : List Value} {w : aw} {cn sn : Nat} {a0 a1 a2 : Option Value} : wp d 19 Q 22 (a0 :: a1 :: a2 :: L) (.null :: st) w cn sn = wp d 19 Q 23 (a0 :: clr a1 :: some .null :: L) st w cn sn := w_astore_nN d_19_22 (Nat.le_add_left 3 _) rfl
theorem d_19_23 : decode (mB 19) 23 = .ok (.aload_n 2, 1) := by decide +kernel
theorem s_19_23 {d : Nat} {Q : wQ} {L : List (Option Value)} {st : List Value} {w : aw} {cn sn : Nat} {a0 a1 : Option Value} {v : Nat} : wp d 19 Q 23 (a0 :: a1 :: some (.ref v) :: L) st w cn sn = wp d 19 Q 24 (a0 :: a1 :: some (.ref v) :: L) (.ref v :: st) w cn sn := w_aload_n d_19_23 rfl
theorem s_19_23n {d : Nat} {Q : wQ} {L : List (Option Value)} {st : List Value} {w : aw} {cn sn : Nat} {a0 a1 : Option Value} : wp d 19 Q 23 (a0 :: a1 :: some .null :: L) st w cn sn = wp d 19 Q 24 (a0 :: a1 :: some .null :: L) (.null :: st) w cn sn := w_aload_nN d_19_23 rfl
theorem d_19_24 : decode (mB 19) 24 = .ok (.ifnull 8, 3) := by decide +kernel
theorem s_19_24 {d : Nat} {Q : wQ} {L : List (Option Value)} {st : List Value} {w : aw} {cn sn : Nat} {q : Nat} : wp d 19 Q 24 L (.ref q :: st) w cn sn = wp d 19 Q 27 L st w cn sn := w_ifnull d_19_24 (t := 32) (by decide)
theorem s_19_24n {d : Nat} {Q : wQ} {L : List (Option Value)} {st : List Value} {w : aw} {cn sn : Nat}  : wp d 19 Q 24 L (.null :: st) w cn sn = wp d 19 Q 32 L st w cn sn := w_ifnullN d_19_24 (t := 32) (by decide)
theorem d_19_27 : decode (mB 19) 27 = .ok (.aload_n 2, 1) := by decide +kernel
theorem s_19_27 {d : Nat} {Q : wQ} {L : List (Option Value)} {st : List Value} {w : aw} {cn sn : Nat} {a0 a1 : Option Value} {v : Nat} : wp d 19 Q 27 (a0 :: a1 :: some (.ref v) :: L) st w cn sn = wp d 19 Q 28 (a0 :: a1 :: some (.ref v) :: L) (.ref v :: st) w cn sn := w_aload_n d_19_27 rfl
theorem s_19_27n {d : Nat} {Q : wQ} {L : List (Option Value)} {st : List Value} {w : aw} {cn sn : Nat} {a0 a1 : Option Value} : wp d 19 Q 27 (a0 :: a1 :: some .null :: L) st w cn sn = wp d 19 Q 28 (a0 :: a1 :: some .null :: L) (.null :: st) w cn sn := w_aload_nN d_19_27 rfl
theorem d_19_28 : decode (mB 19) 28 = .ok (.iconst 0, 1) := by decide +kernel
theorem s_19_28 {d : Nat} {Q : wQ} {L : List (Option Value)} {st : List Value} {w : aw} {cn sn : Nat}  : wp d 19 Q 28 L st w cn sn = wp d 19 Q 29 L (.int 0 :: st) w cn sn := w_iconst d_19_28 (by decide)
theorem d_19_29 : decode (mB 19) 29 = .ok (.putfield 55, 3) := by decide +kernel
theorem s_19_29 {d : Nat} {Q : wQ} {L : List (Option Value)} {st : List Value} {w : aw} {cn sn : Nat} {x : Int32} {a : Nat} : wp d 19 Q 29 L (.int x :: .ref a :: st) w cn sn = (kd w a = 7 ∧ wp d 19 Q 32 L st (uF w 398 a (.int x)) cn sn) := w_putfield d_19_29 (by decide +kernel : fT (mO 19) 55 = some (6, 14)) (by decide +kernel) ok_int
theorem d_19_32 : decode (mB 19) 32 = .ok (.aload_n 0, 1) := by decide +kernel
theorem s_19_32 {d : Nat} {Q : wQ} {L : List (Option Value)} {st : List Value} {w : aw} {cn sn : Nat} {v : Nat} : wp d 19 Q 32 (some (.ref v) :: L) st w cn sn = wp d 19 Q 33 (some (.ref v) :: L) (.ref v :: st) w cn sn := w_aload_n d_19_32 rfl
theorem d_19_33 : decode (mB 19) 33 = .ok (.getfield 20, 3) := by decide +kernel
theorem s_19_33 {d : Nat} {Q : wQ} {L : List (Option Value)} {st : List Value} {w : aw} {cn sn : Nat} {a : Nat} : wp d 19 Q 33 L (.ref a :: st) w cn sn = (kd w a = 2 ∧ wp d 19 Q 36 L (fd w 71 a :: st) w cn sn) := w_getfield d_19_33 (by decide +kernel : fT (mO 19) 20 = some (1, 7))
theorem d_19_36 : decode (mB 19) 36 = .ok (.aload_n 0, 1) := by decide +kernel
theorem s_19_36 {d : Nat} {Q : wQ} {L : List (Option Value)} {st : List Value} {w : aw} {cn sn : Nat} {v : Nat} : wp d 19 Q 36 (some (.ref v) :: L) st w cn sn = wp d 19 Q 37 (some (.ref v) :: L) (.ref v :: st) w cn sn := w_aload_n d_19_36 rfl
theorem d_19_37 : decode (mB 19) 37 = .ok (.getfield 23, 3) := by decide +kernel
theorem s_19_37 {d : Nat} {Q : wQ} {L : List (Option Value)} {st : List Value} {w : aw} {cn sn : Nat} {a : Nat} : wp d 19 Q 37 L (.ref a :: st) w cn sn = (kd w a = 2 ∧ wp d 19 Q 40 L (fd w 72 a :: st) w cn sn) := w_getfield d_19_37 (by decide +kernel : fT (mO 19) 23 = some (1, 8))
theorem d_19_40 : decode (mB 19) 40 = .ok (.aload_n 1, 1) := by decide +kernel
theorem s_19_40 {d : Nat} {Q : wQ} {L : List (Option Value)} {st : List Value} {w : aw} {cn sn : Nat} {a0 : Option Value} {v : Nat} : wp d 19 Q 40 (a0 :: some (.ref v) :: L) st w cn sn = wp d 19 Q 41 (a0 :: some (.ref v) :: L) (.ref v :: st) w cn sn := w_aload_n d_19_40 rfl
theorem s_19_40n {d : Nat} {Q : wQ} {L : List (Option Value)} {st : List Value} {w : aw} {cn sn : Nat} {a0 : Option Value} : wp d 19 Q 40 (a0 :: some .null :: L) st w cn sn = wp d 19 Q 41 (a0 :: some .null :: L) (.null :: st) w cn sn := w_aload_nN d_19_40 rfl
theorem d_19_41 : decode (mB 19) 41 = .ok (.aastore, 1) := by decide +kernel
theorem s_19_41 {d : Nat} {Q : wQ} {L : List (Option Value)} {st : List Value} {w : aw} {cn sn : Nat} {a x : Nat} {i : Int32} : wp d 19 Q 41 L (.ref x :: .int i :: .ref a :: st) w cn sn = (kd w a = 24 ∧ inR i (ln w a) ∧ (∀ q, some x = some q → kd w q = 7) ∧ wp d 19 Q 42 L st (uR w a i.toNatClampNeg (some x)) cn sn) := wp_row d_19_41 _ _ _ _ _
theorem s_19_41n {d : Nat} {Q : wQ} {L : List (Option Value)} {st : List Value} {w : aw} {cn sn : Nat} {a : Nat} {i : Int32} : wp d 19 Q 41 L (.null :: .int i :: .ref a :: st) w cn sn = (kd w a = 24 ∧ inR i (ln w a) ∧ (∀ q, none = some q → kd w q = 7) ∧ wp d 19 Q 42 L st (uR w a i.toNatClampNeg none) cn sn) := wp_row d_19_41 _ _ _ _ _
theorem d_19_42 : decode (mB 19) 42 = .ok (.aload_n 1, 1) := by decide +kernel
theorem s_19_42 {d : Nat} {Q : wQ} {L : List (Option Value)} {st : List Value} {w : aw} {cn sn : Nat} {a0 : Option Value} {v : Nat} : wp d 19 Q 42 (a0 :: some (.ref v) :: L) st w cn sn = wp d 19 Q 43 (a0 :: some (.ref v) :: L) (.ref v :: st) w cn sn := w_aload_n d_19_42 rfl
theorem s_19_42n {d : Nat} {Q : wQ} {L : List (Option Value)} {st : List Value} {w : aw} {cn sn : Nat} {a0 : Option Value} : wp d 19 Q 42 (a0 :: some .null :: L) st w cn sn = wp d 19 Q 43 (a0 :: some .null :: L) (.null :: st) w cn sn := w_aload_nN d_19_42 rfl
theorem d_19_43 : decode (mB 19) 43 = .ok (.aload_n 0, 1) := by decide +kernel
theorem s_19_43 {d : Nat} {Q : wQ} {L : List (Option Value)} {st : List Value} {w : aw} {cn sn : Nat} {v : Nat} : wp d 19 Q 43 (some (.ref v) :: L) st w cn sn = wp d 19 Q 44 (some (.ref v) :: L) (.ref v :: st) w cn sn := w_aload_n d_19_43 rfl
theorem d_19_44 : decode (mB 19) 44 = .ok (.getfield 23, 3) := by decide +kernel
theorem s_19_44 {d : Nat} {Q : wQ} {L : List (Option Value)} {st : List Value} {w : aw} {cn sn : Nat} {a : Nat} : wp d 19 Q 44 L (.ref a :: st) w cn sn = (kd w a = 2 ∧ wp d 19 Q 47 L (fd w 72 a :: st) w cn sn) := w_getfield d_19_44 (by decide +kernel : fT (mO 19) 23 = some (1, 8))
theorem d_19_47 : decode (mB 19) 47 = .ok (.putfield 55, 3) := by decide +kernel
theorem s_19_47 {d : Nat} {Q : wQ} {L : List (Option Value)} {st : List Value} {w : aw} {cn sn : Nat} {x : Int32} {a : Nat} : wp d 19 Q 47 L (.int x :: .ref a :: st) w cn sn = (kd w a = 7 ∧ wp d 19 Q 50 L st (uF w 398 a (.int x)) cn sn) := w_putfield d_19_47 (by decide +kernel : fT (mO 19) 55 = some (6, 14)) (by decide +kernel) ok_int
theorem d_19_50 : decode (mB 19) 50 = .ok (.aload_n 0, 1) := by decide +kernel
theorem s_19_50 {d : Nat} {Q : wQ} {L : List (Option Value)} {st : List Value} {w : aw} {cn sn : Nat} {v : Nat} : wp d 19 Q 50 (some (.ref v) :: L) st w cn sn = wp d 19 Q 51 (some (.ref v) :: L) (.ref v :: st) w cn sn := w_aload_n d_19_50 rfl
theorem d_19_51 : decode (mB 19) 51 = .ok (.aload_n 0, 1) := by decide +kernel
theorem s_19_51 {d : Nat} {Q : wQ} {L : List (Option Value)} {st : List Value} {w : aw} {cn sn : Nat} {v : Nat} : wp d 19 Q 51 (some (.ref v) :: L) st w cn sn = wp d 19 Q 52 (some (.ref v) :: L) (.ref v :: st) w cn sn := w_aload_n d_19_51 rfl
theorem d_19_52 : decode (mB 19) 52 = .ok (.getfield 62, 3) := by decide +kernel
theorem s_19_52 {d : Nat} {Q : wQ} {L : List (Option Value)} {st : List Value} {w : aw} {cn sn : Nat} {a : Nat} : wp d 19 Q 52 L (.ref a :: st) w cn sn = (kd w a = 2 ∧ wp d 19 Q 55 L (fd w 77 a :: st) w cn sn) := w_getfield d_19_52 (by decide +kernel : fT (mO 19) 62 = some (1, 13))
theorem d_19_55 : decode (mB 19) 55 = .ok (.iconst 1, 1) := by decide +kernel
theorem s_19_55 {d : Nat} {Q : wQ} {L : List (Option Value)} {st : List Value} {w : aw} {cn sn : Nat}  : wp d 19 Q 55 L st w cn sn = wp d 19 Q 56 L (.int 1 :: st) w cn sn := w_iconst d_19_55 (by decide)
theorem d_19_56 : decode (mB 19) 56 = .ok (.iadd, 1) := by decide +kernel
theorem s_19_56 {d : Nat} {Q : wQ} {L : List (Option Value)} {st : List Value} {w : aw} {cn sn : Nat} {a b : Int32} : wp d 19 Q 56 L (.int b :: .int a :: st) w cn sn = wp d 19 Q 57 L (.int (a + b) :: st) w cn sn := wp_row d_19_56 _ _ _ _ _
theorem d_19_57 : decode (mB 19) 57 = .ok (.sipush 4095, 3) := by decide +kernel
theorem s_19_57 {d : Nat} {Q : wQ} {L : List (Option Value)} {st : List Value} {w : aw} {cn sn : Nat}  : wp d 19 Q 57 L st w cn sn = wp d 19 Q 60 L (.int 4095 :: st) w cn sn := w_sipush d_19_57 (by decide)
theorem d_19_60 : decode (mB 19) 60 = .ok (.iand, 1) := by decide +kernel
theorem s_19_60 {d : Nat} {Q : wQ} {L : List (Option Value)} {st : List Value} {w : aw} {cn sn : Nat} {a b : Int32} : wp d 19 Q 60 L (.int b :: .int a :: st) w cn sn = wp d 19 Q 61 L (.int (a &&& b) :: st) w cn sn := wp_row d_19_60 _ _ _ _ _
theorem d_19_61 : decode (mB 19) 61 = .ok (.putfield 62, 3) := by decide +kernel
theorem s_19_61 {d : Nat} {Q : wQ} {L : List (Option Value)} {st : List Value} {w : aw} {cn sn : Nat} {x : Int32} {a : Nat} : wp d 19 Q 61 L (.int x :: .ref a :: st) w cn sn = (kd w a = 2 ∧ wp d 19 Q 64 L st (uF w 77 a (.int x)) cn sn) := w_putfield d_19_61 (by decide +kernel : fT (mO 19) 62 = some (1, 13)) (by decide +kernel) ok_int
theorem d_19_64 : decode (mB 19) 64 = .ok (.aload_n 0, 1) := by decide +kernel
theorem s_19_64 {d : Nat} {Q : wQ} {L : List (Option Value)} {st : List Value} {w : aw} {cn sn : Nat} {v : Nat} : wp d 19 Q 64 (some (.ref v) :: L) st w cn sn = wp d 19 Q 65 (some (.ref v) :: L) (.ref v :: st) w cn sn := w_aload_n d_19_64 rfl
theorem d_19_65 : decode (mB 19) 65 = .ok (.aload_n 0, 1) := by decide +kernel
theorem s_19_65 {d : Nat} {Q : wQ} {L : List (Option Value)} {st : List Value} {w : aw} {cn sn : Nat} {v : Nat} : wp d 19 Q 65 (some (.ref v) :: L) st w cn sn = wp d 19 Q 66 (some (.ref v) :: L) (.ref v :: st) w cn sn := w_aload_n d_19_65 rfl
theorem d_19_66 : decode (mB 19) 66 = .ok (.getfield 23, 3) := by decide +kernel
theorem s_19_66 {d : Nat} {Q : wQ} {L : List (Option Value)} {st : List Value} {w : aw} {cn sn : Nat} {a : Nat} : wp d 19 Q 66 L (.ref a :: st) w cn sn = (kd w a = 2 ∧ wp d 19 Q 69 L (fd w 72 a :: st) w cn sn) := w_getfield d_19_66 (by decide +kernel : fT (mO 19) 23 = some (1, 8))
theorem d_19_69 : decode (mB 19) 69 = .ok (.aload_n 0, 1) := by decide +kernel
theorem s_19_69 {d : Nat} {Q : wQ} {L : List (Option Value)} {st : List Value} {w : aw} {cn sn : Nat} {v : Nat} : wp d 19 Q 69 (some (.ref v) :: L) st w cn sn = wp d 19 Q 70 (some (.ref v) :: L) (.ref v :: st) w cn sn := w_aload_n d_19_69 rfl
theorem d_19_70 : decode (mB 19) 70 = .ok (.getfield 33, 3) := by decide +kernel
theorem s_19_70 {d : Nat} {Q : wQ} {L : List (Option Value)} {st : List Value} {w : aw} {cn sn : Nat} {a : Nat} : wp d 19 Q 70 L (.ref a :: st) w cn sn = (kd w a = 2 ∧ wp d 19 Q 73 L (fd w 66 a :: st) w cn sn) := w_getfield d_19_70 (by decide +kernel : fT (mO 19) 33 = some (1, 2))
theorem d_19_73 : decode (mB 19) 73 = .ok (.if_icmp .lt 7, 3) := by decide +kernel
theorem s_19_73 {d : Nat} {Q : wQ} {L : List (Option Value)} {st : List Value} {w : aw} {cn sn : Nat} {a b : Int32} : wp d 19 Q 73 L (.int b :: .int a :: st) w cn sn = ((a < b → wp d 19 Q 80 L st w cn sn) ∧ (¬ a < b → wp d 19 Q 76 L st w cn sn)) := w_iclt d_19_73 (by decide)
theorem d_19_76 : decode (mB 19) 76 = .ok (.iconst 1, 1) := by decide +kernel
theorem s_19_76 {d : Nat} {Q : wQ} {L : List (Option Value)} {st : List Value} {w : aw} {cn sn : Nat}  : wp d 19 Q 76 L st w cn sn = wp d 19 Q 77 L (.int 1 :: st) w cn sn := w_iconst d_19_76 (by decide)
theorem d_19_77 : decode (mB 19) 77 = .ok (.goto 9, 3) := by decide +kernel
theorem s_19_77 {d : Nat} {Q : wQ} {L : List (Option Value)} {st : List Value} {w : aw} {cn sn : Nat}  : wp d 19 Q 77 L st w cn sn = wp d 19 Q 86 L st w cn sn := w_goto d_19_77 (by decide)
theorem d_19_80 : decode (mB 19) 80 = .ok (.aload_n 0, 1) := by decide +kernel
theorem s_19_80 {d : Nat} {Q : wQ} {L : List (Option Value)} {st : List Value} {w : aw} {cn sn : Nat} {v : Nat} : wp d 19 Q 80 (some (.ref v) :: L) st w cn sn = wp d 19 Q 81 (some (.ref v) :: L) (.ref v :: st) w cn sn := w_aload_n d_19_80 rfl
theorem d_19_81 : decode (mB 19) 81 = .ok (.getfield 23, 3) := by decide +kernel
theorem s_19_81 {d : Nat} {Q : wQ} {L : List (Option Value)} {st : List Value} {w : aw} {cn sn : Nat} {a : Nat} : wp d 19 Q 81 L (.ref a :: st) w cn sn = (kd w a = 2 ∧ wp d 19 Q 84 L (fd w 72 a :: st) w cn sn) := w_getfield d_19_81 (by decide +kernel : fT (mO 19) 23 = some (1, 8))
theorem d_19_84 : decode (mB 19) 84 = .ok (.iconst 1, 1) := by decide +kernel
theorem s_19_84 {d : Nat} {Q : wQ} {L : List (Option Value)} {st : List Value} {w : aw} {cn sn : Nat}  : wp d 19 Q 84 L st w cn sn = wp d 19 Q 85 L (.int 1 :: st) w cn sn := w_iconst d_19_84 (by decide)
theorem d_19_85 : decode (mB 19) 85 = .ok (.iadd, 1) := by decide +kernel
theorem s_19_85 {d : Nat} {Q : wQ} {L : List (Option Value)} {st : List Value} {w : aw} {cn sn : Nat} {a b : Int32} : wp d 19 Q 85 L (.int b :: .int a :: st) w cn sn = wp d 19 Q 86 L (.int (a + b) :: st) w cn sn := wp_row d_19_85 _ _ _ _ _
theorem d_19_86 : decode (mB 19) 86 = .ok (.putfield 23, 3) := by decide +kernel
theorem s_19_86 {d : Nat} {Q : wQ} {L : List (Option Value)} {st : List Value} {w : aw} {cn sn : Nat} {x : Int32} {a : Nat} : wp d 19 Q 86 L (.int x :: .ref a :: st) w cn sn = (kd w a = 2 ∧ wp d 19 Q 89 L st (uF w 72 a (.int x)) cn sn) := w_putfield d_19_86 (by decide +kernel : fT (mO 19) 23 = some (1, 8)) (by decide +kernel) ok_int
theorem d_19_89 : decode (mB 19) 89 = .ok (.return_, 1) := by decide +kernel
theorem s_19_89 {d : Nat} {Q : wQ} {L : List (Option Value)} {w : aw} {cn sn : Nat}  : wp d 19 Q 89 L [] w cn sn = Q none w := w_return d_19_89 rfl
theorem d_20_0 : decode (mB 20) 0 = .ok (.aload_n 0, 1) := by decide +kernel
theorem s_20_0 {d : Nat} {Q : wQ} {L : List (Option Value)} {st : List Value} {w : aw} {cn sn : Nat} {v : Nat} : wp d 20 Q 0 (some (.ref v) :: L) st w cn sn = wp d 20 Q 1 (some (.ref v) :: L) (.ref v :: st) w cn sn := w_aload_n d_20_0 rfl
theorem d_20_1 : decode (mB 20) 1 = .ok (.getfield 48, 3) := by decide +kernel
theorem s_20_1 {d : Nat} {Q : wQ} {L : List (Option Value)} {st : List Value} {w : aw} {cn sn : Nat} {a : Nat} : wp d 20 Q 1 L (.ref a :: st) w cn sn = (kd w a = 2 ∧ wp d 20 Q 4 L (fd w 73 a :: st) w cn sn) := w_getfield d_20_1 (by decide +kernel : fT (mO 20) 48 = some (1, 9))
theorem d_20_4 : decode (mB 20) 4 = .ok (.ifnull 7, 3) := by decide +kernel
theorem s_20_4 {d : Nat} {Q : wQ} {L : List (Option Value)} {st : List Value} {w : aw} {cn sn : Nat} {q : Nat} : wp d 20 Q 4 L (.ref q :: st) w cn sn = wp d 20 Q 7 L st w cn sn := w_ifnull d_20_4 (t := 11) (by decide)
theorem s_20_4n {d : Nat} {Q : wQ} {L : List (Option Value)} {st : List Value} {w : aw} {cn sn : Nat}  : wp d 20 Q 4 L (.null :: st) w cn sn = wp d 20 Q 11 L st w cn sn := w_ifnullN d_20_4 (t := 11) (by decide)
theorem d_20_7 : decode (mB 20) 7 = .ok (.iconst 1, 1) := by decide +kernel
theorem s_20_7 {d : Nat} {Q : wQ} {L : List (Option Value)} {st : List Value} {w : aw} {cn sn : Nat}  : wp d 20 Q 7 L st w cn sn = wp d 20 Q 8 L (.int 1 :: st) w cn sn := w_iconst d_20_7 (by decide)
theorem d_20_8 : decode (mB 20) 8 = .ok (.goto 4, 3) := by decide +kernel
theorem s_20_8 {d : Nat} {Q : wQ} {L : List (Option Value)} {st : List Value} {w : aw} {cn sn : Nat}  : wp d 20 Q 8 L st w cn sn = wp d 20 Q 12 L st w cn sn := w_goto d_20_8 (by decide)
theorem d_20_11 : decode (mB 20) 11 = .ok (.iconst 0, 1) := by decide +kernel
theorem s_20_11 {d : Nat} {Q : wQ} {L : List (Option Value)} {st : List Value} {w : aw} {cn sn : Nat}  : wp d 20 Q 11 L st w cn sn = wp d 20 Q 12 L (.int 0 :: st) w cn sn := w_iconst d_20_11 (by decide)
theorem d_20_12 : decode (mB 20) 12 = .ok (.istore_n 1, 1) := by decide +kernel
theorem s_20_12 {d : Nat} {Q : wQ} {L : List (Option Value)} {st : List Value} {w : aw} {cn sn : Nat} {a0 a1 : Option Value} {v : Int32} : wp d 20 Q 12 (a0 :: a1 :: L) (.int v :: st) w cn sn = wp d 20 Q 13 (clr a0 :: some (.int v) :: L) st w cn sn := w_istore_n d_20_12 (Nat.le_add_left 2 _) rfl
theorem d_20_13 : decode (mB 20) 13 = .ok (.iload_n 1, 1) := by decide +kernel
theorem s_20_13 {d : Nat} {Q : wQ} {L : List (Option Value)} {st : List Value} {w : aw} {cn sn : Nat} {a0 : Option Value} {v : Int32} : wp d 20 Q 13 (a0 :: some (.int v) :: L) st w cn sn = wp d 20 Q 14 (a0 :: some (.int v) :: L) (.int v :: st) w cn sn := w_iload_n d_20_13 rfl
theorem d_20_14 : decode (mB 20) 14 = .ok (.ifCond .eq 14, 3) := by decide +kernel
theorem s_20_14 {d : Nat} {Q : wQ} {L : List (Option Value)} {st : List Value} {w : aw} {cn sn : Nat} {x : Int32} : wp d 20 Q 14 L (.int x :: st) w cn sn = ((x = 0 → wp d 20 Q 28 L st w cn sn) ∧ (¬ x = 0 → wp d 20 Q 17 L st w cn sn)) := w_ifeq d_20_14 (by decide)
theorem d_20_17 : decode (mB 20) 17 = .ok (.aload_n 0, 1) := by decide +kernel
theorem s_20_17 {d : Nat} {Q : wQ} {L : List (Option Value)} {st : List Value} {w : aw} {cn sn : Nat} {v : Nat} : wp d 20 Q 17 (some (.ref v) :: L) st w cn sn = wp d 20 Q 18 (some (.ref v) :: L) (.ref v :: st) w cn sn := w_aload_n d_20_17 rfl
theorem d_20_18 : decode (mB 20) 18 = .ok (.aload_n 0, 1) := by decide +kernel
theorem s_20_18 {d : Nat} {Q : wQ} {L : List (Option Value)} {st : List Value} {w : aw} {cn sn : Nat} {v : Nat} : wp d 20 Q 18 (some (.ref v) :: L) st w cn sn = wp d 20 Q 19 (some (.ref v) :: L) (.ref v :: st) w cn sn := w_aload_n d_20_18 rfl
theorem d_20_19 : decode (mB 20) 19 = .ok (.getfield 48, 3) := by decide +kernel
theorem s_20_19 {d : Nat} {Q : wQ} {L : List (Option Value)} {st : List Value} {w : aw} {cn sn : Nat} {a : Nat} : wp d 20 Q 19 L (.ref a :: st) w cn sn = (kd w a = 2 ∧ wp d 20 Q 22 L (fd w 73 a :: st) w cn sn) := w_getfield d_20_19 (by decide +kernel : fT (mO 20) 48 = some (1, 9))
theorem d_20_22 : decode (mB 20) 22 = .ok (.invokevirtual 65, 3) := by decide +kernel
theorem s_20_22 {d : Nat} {Q : wQ} {L : List (Option Value)} {st : List Value} {w : aw} {cn sn : Nat} {v0 : Value} {b : Nat} : wp d 20 Q 22 L (v0 :: .ref b :: st) w cn sn = (kd w b = 2 ∧ catS st ≤ 8 ∧ wpD d 21 [.ref b, v0] w (fun v w' => wp d 20 Q 25 L (v.toList ++ st) w' cn sn)) := w_virtual (As := [v0]) d_20_22 (by decide +kernel : cT (mO 20) 65 = some (0, 21)) rfl (by decide +kernel) rfl (by decide +kernel) rfl
theorem d_20_25 : decode (mB 20) 25 = .ok (.goto 13, 3) := by decide +kernel
theorem s_20_25 {d : Nat} {Q : wQ} {L : List (Option Value)} {st : List Value} {w : aw} {cn sn : Nat}  : wp d 20 Q 25 L st w cn sn = wp d 20 Q 38 L st w cn sn := w_goto d_20_25 (by decide)
theorem d_20_28 : decode (mB 20) 28 = .ok (.aload_n 0, 1) := by decide +kernel
theorem s_20_28 {d : Nat} {Q : wQ} {L : List (Option Value)} {st : List Value} {w : aw} {cn sn : Nat} {v : Nat} : wp d 20 Q 28 (some (.ref v) :: L) st w cn sn = wp d 20 Q 29 (some (.ref v) :: L) (.ref v :: st) w cn sn := w_aload_n d_20_28 rfl
theorem d_20_29 : decode (mB 20) 29 = .ok (.dup, 1) := by decide +kernel
theorem s_20_29 {d : Nat} {Q : wQ} {L : List (Option Value)} {st : List Value} {w : aw} {cn sn : Nat} {v : Value} : wp d 20 Q 29 L (v :: st) w cn sn = (v.category = 1 ∧ wp d 20 Q 30 L (v :: v :: st) w cn sn) := wp_row d_20_29 _ _ _ _ _
theorem d_20_30 : decode (mB 20) 30 = .ok (.getfield 68, 3) := by decide +kernel
theorem s_20_30 {d : Nat} {Q : wQ} {L : List (Option Value)} {st : List Value} {w : aw} {cn sn : Nat} {a : Nat} : wp d 20 Q 30 L (.ref a :: st) w cn sn = (kd w a = 2 ∧ wp d 20 Q 33 L (fd w 78 a :: st) w cn sn) := w_getfield d_20_30 (by decide +kernel : fT (mO 20) 68 = some (1, 14))
theorem d_20_33 : decode (mB 20) 33 = .ok (.iconst 1, 1) := by decide +kernel
theorem s_20_33 {d : Nat} {Q : wQ} {L : List (Option Value)} {st : List Value} {w : aw} {cn sn : Nat}  : wp d 20 Q 33 L st w cn sn = wp d 20 Q 34 L (.int 1 :: st) w cn sn := w_iconst d_20_33 (by decide)
theorem d_20_34 : decode (mB 20) 34 = .ok (.iadd, 1) := by decide +kernel
theorem s_20_34 {d : Nat} {Q : wQ} {L : List (Option Value)} {st : List Value} {w : aw} {cn sn : Nat} {a b : Int32} : wp d 20 Q 34 L (.int b :: .int a :: st) w cn sn = wp d 20 Q 35 L (.int (a + b) :: st) w cn sn := wp_row d_20_34 _ _ _ _ _
theorem d_20_35 : decode (mB 20) 35 = .ok (.putfield 68, 3) := by decide +kernel
theorem s_20_35 {d : Nat} {Q : wQ} {L : List (Option Value)} {st : List Value} {w : aw} {cn sn : Nat} {x : Int32} {a : Nat} : wp d 20 Q 35 L (.int x :: .ref a :: st) w cn sn = (kd w a = 2 ∧ wp d 20 Q 38 L st (uF w 78 a (.int x)) cn sn) := w_putfield d_20_35 (by decide +kernel : fT (mO 20) 68 = some (1, 14)) (by decide +kernel) ok_int
theorem d_20_38 : decode (mB 20) 38 = .ok (.aload_n 0, 1) := by decide +kernel
theorem s_20_38 {d : Nat} {Q : wQ} {L : List (Option Value)} {st : List Value} {w : aw} {cn sn : Nat} {v : Nat} : wp d 20 Q 38 (some (.ref v) :: L) st w cn sn = wp d 20 Q 39 (some (.ref v) :: L) (.ref v :: st) w cn sn := w_aload_n d_20_38 rfl
theorem d_20_39 : decode (mB 20) 39 = .ok (.dup, 1) := by decide +kernel
theorem s_20_39 {d : Nat} {Q : wQ} {L : List (Option Value)} {st : List Value} {w : aw} {cn sn : Nat} {v : Value} : wp d 20 Q 39 L (v :: st) w cn sn = (v.category = 1 ∧ wp d 20 Q 40 L (v :: v :: st) w cn sn) := wp_row d_20_39 _ _ _ _ _
theorem d_20_40 : decode (mB 20) 40 = .ok (.getfield 71, 3) := by decide +kernel
theorem s_20_40 {d : Nat} {Q : wQ} {L : List (Option Value)} {st : List Value} {w : aw} {cn sn : Nat} {a : Nat} : wp d 20 Q 40 L (.ref a :: st) w cn sn = (kd w a = 2 ∧ wp d 20 Q 43 L (fd w 74 a :: st) w cn sn) := w_getfield d_20_40 (by decide +kernel : fT (mO 20) 71 = some (1, 10))
theorem d_20_43 : decode (mB 20) 43 = .ok (.iconst 1, 1) := by decide +kernel
theorem s_20_43 {d : Nat} {Q : wQ} {L : List (Option Value)} {st : List Value} {w : aw} {cn sn : Nat}  : wp d 20 Q 43 L st w cn sn = wp d 20 Q 44 L (.int 1 :: st) w cn sn := w_iconst d_20_43 (by decide)
theorem d_20_44 : decode (mB 20) 44 = .ok (.iadd, 1) := by decide +kernel
theorem s_20_44 {d : Nat} {Q : wQ} {L : List (Option Value)} {st : List Value} {w : aw} {cn sn : Nat} {a b : Int32} : wp d 20 Q 44 L (.int b :: .int a :: st) w cn sn = wp d 20 Q 45 L (.int (a + b) :: st) w cn sn := wp_row d_20_44 _ _ _ _ _
theorem d_20_45 : decode (mB 20) 45 = .ok (.putfield 71, 3) := by decide +kernel
theorem s_20_45 {d : Nat} {Q : wQ} {L : List (Option Value)} {st : List Value} {w : aw} {cn sn : Nat} {x : Int32} {a : Nat} : wp d 20 Q 45 L (.int x :: .ref a :: st) w cn sn = (kd w a = 2 ∧ wp d 20 Q 48 L st (uF w 74 a (.int x)) cn sn) := w_putfield d_20_45 (by decide +kernel : fT (mO 20) 71 = some (1, 10)) (by decide +kernel) ok_int
theorem d_20_48 : decode (mB 20) 48 = .ok (.aload_n 0, 1) := by decide +kernel
theorem s_20_48 {d : Nat} {Q : wQ} {L : List (Option Value)} {st : List Value} {w : aw} {cn sn : Nat} {v : Nat} : wp d 20 Q 48 (some (.ref v) :: L) st w cn sn = wp d 20 Q 49 (some (.ref v) :: L) (.ref v :: st) w cn sn := w_aload_n d_20_48 rfl
theorem d_20_49 : decode (mB 20) 49 = .ok (.dup, 1) := by decide +kernel
theorem s_20_49 {d : Nat} {Q : wQ} {L : List (Option Value)} {st : List Value} {w : aw} {cn sn : Nat} {v : Value} : wp d 20 Q 49 L (v :: st) w cn sn = (v.category = 1 ∧ wp d 20 Q 50 L (v :: v :: st) w cn sn) := wp_row d_20_49 _ _ _ _ _
theorem d_20_50 : decode (mB 20) 50 = .ok (.getfield 74, 3) := by decide +kernel
theorem s_20_50 {d : Nat} {Q : wQ} {L : List (Option Value)} {st : List Value} {w : aw} {cn sn : Nat} {a : Nat} : wp d 20 Q 50 L (.ref a :: st) w cn sn = (kd w a = 2 ∧ wp d 20 Q 53 L (fd w 75 a :: st) w cn sn) := w_getfield d_20_50 (by decide +kernel : fT (mO 20) 74 = some (1, 11))
theorem d_20_53 : decode (mB 20) 53 = .ok (.iconst 1, 1) := by decide +kernel
theorem s_20_53 {d : Nat} {Q : wQ} {L : List (Option Value)} {st : List Value} {w : aw} {cn sn : Nat}  : wp d 20 Q 53 L st w cn sn = wp d 20 Q 54 L (.int 1 :: st) w cn sn := w_iconst d_20_53 (by decide)
theorem d_20_54 : decode (mB 20) 54 = .ok (.iadd, 1) := by decide +kernel
theorem s_20_54 {d : Nat} {Q : wQ} {L : List (Option Value)} {st : List Value} {w : aw} {cn sn : Nat} {a b : Int32} : wp d 20 Q 54 L (.int b :: .int a :: st) w cn sn = wp d 20 Q 55 L (.int (a + b) :: st) w cn sn := wp_row d_20_54 _ _ _ _ _
theorem d_20_55 : decode (mB 20) 55 = .ok (.putfield 74, 3) := by decide +kernel
theorem s_20_55 {d : Nat} {Q : wQ} {L : List (Option Value)} {st : List Value} {w : aw} {cn sn : Nat} {x : Int32} {a : Nat} : wp d 20 Q 55 L (.int x :: .ref a :: st) w cn sn = (kd w a = 2 ∧ wp d 20 Q 58 L st (uF w 75 a (.int x)) cn sn) := w_putfield d_20_55 (by decide +kernel : fT (mO 20) 74 = some (1, 11)) (by decide +kernel) ok_int
theorem d_20_58 : decode (mB 20) 58 = .ok (.aload_n 0, 1) := by decide +kernel
theorem s_20_58 {d : Nat} {Q : wQ} {L : List (Option Value)} {st : List Value} {w : aw} {cn sn : Nat} {v : Nat} : wp d 20 Q 58 (some (.ref v) :: L) st w cn sn = wp d 20 Q 59 (some (.ref v) :: L) (.ref v :: st) w cn sn := w_aload_n d_20_58 rfl
theorem d_20_59 : decode (mB 20) 59 = .ok (.getfield 74, 3) := by decide +kernel
theorem s_20_59 {d : Nat} {Q : wQ} {L : List (Option Value)} {st : List Value} {w : aw} {cn sn : Nat} {a : Nat} : wp d 20 Q 59 L (.ref a :: st) w cn sn = (kd w a = 2 ∧ wp d 20 Q 62 L (fd w 75 a :: st) w cn sn) := w_getfield d_20_59 (by decide +kernel : fT (mO 20) 74 = some (1, 11))
theorem d_20_62 : decode (mB 20) 62 = .ok (.aload_n 0, 1) := by decide +kernel
theorem s_20_62 {d : Nat} {Q : wQ} {L : List (Option Value)} {st : List Value} {w : aw} {cn sn : Nat} {v : Nat} : wp d 20 Q 62 (some (.ref v) :: L) st w cn sn = wp d 20 Q 63 (some (.ref v) :: L) (.ref v :: st) w cn sn := w_aload_n d_20_62 rfl
theorem d_20_63 : decode (mB 20) 63 = .ok (.getfield 39, 3) := by decide +kernel
theorem s_20_63 {d : Nat} {Q : wQ} {L : List (Option Value)} {st : List Value} {w : aw} {cn sn : Nat} {a : Nat} : wp d 20 Q 63 L (.ref a :: st) w cn sn = (kd w a = 2 ∧ wp d 20 Q 66 L (fd w 68 a :: st) w cn sn) := w_getfield d_20_63 (by decide +kernel : fT (mO 20) 39 = some (1, 4))
theorem d_20_66 : decode (mB 20) 66 = .ok (.if_icmp .lt 12, 3) := by decide +kernel
theorem s_20_66 {d : Nat} {Q : wQ} {L : List (Option Value)} {st : List Value} {w : aw} {cn sn : Nat} {a b : Int32} : wp d 20 Q 66 L (.int b :: .int a :: st) w cn sn = ((a < b → wp d 20 Q 78 L st w cn sn) ∧ (¬ a < b → wp d 20 Q 69 L st w cn sn)) := w_iclt d_20_66 (by decide)
theorem d_20_69 : decode (mB 20) 69 = .ok (.aload_n 0, 1) := by decide +kernel
theorem s_20_69 {d : Nat} {Q : wQ} {L : List (Option Value)} {st : List Value} {w : aw} {cn sn : Nat} {v : Nat} : wp d 20 Q 69 (some (.ref v) :: L) st w cn sn = wp d 20 Q 70 (some (.ref v) :: L) (.ref v :: st) w cn sn := w_aload_n d_20_69 rfl
theorem d_20_70 : decode (mB 20) 70 = .ok (.iconst 0, 1) := by decide +kernel
theorem s_20_70 {d : Nat} {Q : wQ} {L : List (Option Value)} {st : List Value} {w : aw} {cn sn : Nat}  : wp d 20 Q 70 L st w cn sn = wp d 20 Q 71 L (.int 0 :: st) w cn sn := w_iconst d_20_70 (by decide)
theorem d_20_71 : decode (mB 20) 71 = .ok (.putfield 74, 3) := by decide +kernel
theorem s_20_71 {d : Nat} {Q : wQ} {L : List (Option Value)} {st : List Value} {w : aw} {cn sn : Nat} {x : Int32} {a : Nat} : wp d 20 Q 71 L (.int x :: .ref a :: st) w cn sn = (kd w a = 2 ∧ wp d 20 Q 74 L st (uF w 75 a (.int x)) cn sn) := w_putfield d_20_71 (by decide +kernel : fT (mO 20) 74 = some (1, 11)) (by decide +kernel) ok_int
theorem d_20_74 : decode (mB 20) 74 = .ok (.aload_n 0, 1) := by decide +kernel
theorem s_20_74 {d : Nat} {Q : wQ} {L : List (Option Value)} {st : List Value} {w : aw} {cn sn : Nat} {v : Nat} : wp d 20 Q 74 (some (.ref v) :: L) st w cn sn = wp d 20 Q 75 (some (.ref v) :: L) (.ref v :: st) w cn sn := w_aload_n d_20_74 rfl
theorem d_20_75 : decode (mB 20) 75 = .ok (.invokevirtual 77, 3) := by decide +kernel
theorem s_20_75 {d : Nat} {Q : wQ} {L : List (Option Value)} {st : List Value} {w : aw} {cn sn : Nat} {b : Nat} : wp d 20 Q 75 L (.ref b :: st) w cn sn = (kd w b = 2 ∧ catS st ≤ 8 ∧ wpD d 22 [.ref b] w (fun v w' => wp d 20 Q 78 L (v.toList ++ st) w' cn sn)) := w_virtual (As := []) d_20_75 (by decide +kernel : cT (mO 20) 77 = some (0, 22)) rfl (by decide +kernel) rfl (by decide +kernel) rfl
theorem d_20_78 : decode (mB 20) 78 = .ok (.aload_n 0, 1) := by decide +kernel
theorem s_20_78 {d : Nat} {Q : wQ} {L : List (Option Value)} {st : List Value} {w : aw} {cn sn : Nat} {v : Nat} : wp d 20 Q 78 (some (.ref v) :: L) st w cn sn = wp d 20 Q 79 (some (.ref v) :: L) (.ref v :: st) w cn sn := w_aload_n d_20_78 rfl
theorem d_20_79 : decode (mB 20) 79 = .ok (.invokevirtual 80, 3) := by decide +kernel
theorem s_20_79 {d : Nat} {Q : wQ} {L : List (Option Value)} {st : List Value} {w : aw} {cn sn : Nat} {b : Nat} : wp d 20 Q 79 L (.ref b :: st) w cn sn = (kd w b = 2 ∧ catS st ≤ 8 ∧ wpD d 18 [.ref b] w (fun v w' => wp d 20 Q 82 L (v.toList ++ st) w' cn sn)) := w_virtual (As := []) d_20_79 (by decide +kernel : cT (mO 20) 80 = some (0, 18)) rfl (by decide +kernel) rfl (by decide +kernel) rfl
theorem d_20_82 : decode (mB 20) 82 = .ok (.iload_n 1, 1) := by decide +kernel
theorem s_20_82 {d : Nat} {Q : wQ} {L : List (Option Value)} {st : List Value} {w : aw} {cn sn : Nat} {a0 : Option Value} {v : Int32} : wp d 20 Q 82 (a0 :: some (.int v) :: L) st w cn sn = wp d 20 Q 83 (a0 :: some (.int v) :: L) (.int v :: st) w cn sn := w_iload_n d_20_82 rfl
theorem d_20_83 : decode (mB 20) 83 = .ok (.ireturn, 1) := by decide +kernel
theorem s_20_83 {d : Nat} {Q : wQ} {L : List (Option Value)} {w : aw} {cn sn : Nat} {v : Int32} : wp d 20 Q 83 L [.int v] w cn sn = (narrow .boolean (.int v) = .int v ∧ Q (some (.int v)) w) := w_zreturn d_20_83 rfl
theorem d_21_0 : decode (mB 21) 0 = .ok (.aload_n 1, 1) := by decide +kernel
theorem s_21_0 {d : Nat} {Q : wQ} {L : List (Option Value)} {st : List Value} {w : aw} {cn sn : Nat} {a0 : Option Value} {v : Nat} : wp d 21 Q 0 (a0 :: some (.ref v) :: L) st w cn sn = wp d 21 Q 1 (a0 :: some (.ref v) :: L) (.ref v :: st) w cn sn := w_aload_n d_21_0 rfl
theorem s_21_0n {d : Nat} {Q : wQ} {L : List (Option Value)} {st : List Value} {w : aw} {cn sn : Nat} {a0 : Option Value} : wp d 21 Q 0 (a0 :: some .null :: L) st w cn sn = wp d 21 Q 1 (a0 :: some .null :: L) (.null :: st) w cn sn := w_aload_nN d_21_0 rfl
theorem d_21_1 : decode (mB 21) 1 = .ok (.invokevirtual 83, 3) := by decide +kernel
theorem s_21_1 {d : Nat} {Q : wQ} {L : List (Option Value)} {st : List Value} {w : aw} {cn sn : Nat} {b : Nat} : wp d 21 Q 1 L (.ref b :: st) w cn sn = (kd w b = 7 ∧ catS st ≤ 8 ∧ wpD d 62 [.ref b] w (fun v w' => wp d 21 Q 4 L (v.toList ++ st) w' cn sn)) := w_virtual (As := []) d_21_1 (by decide +kernel : cT (mO 21) 83 = some (0, 62)) rfl (by decide +kernel) rfl (by decide +kernel) rfl
theorem d_21_4 : decode (mB 21) 4 = .ok (.aload_n 1, 1) := by decide +kernel
theorem s_21_4 {d : Nat} {Q : wQ} {L : List (Option Value)} {st : List Value} {w : aw} {cn sn : Nat} {a0 : Option Value} {v : Nat} : wp d 21 Q 4 (a0 :: some (.ref v) :: L) st w cn sn = wp d 21 Q 5 (a0 :: some (.ref v) :: L) (.ref v :: st) w cn sn := w_aload_n d_21_4 rfl
theorem s_21_4n {d : Nat} {Q : wQ} {L : List (Option Value)} {st : List Value} {w : aw} {cn sn : Nat} {a0 : Option Value} : wp d 21 Q 4 (a0 :: some .null :: L) st w cn sn = wp d 21 Q 5 (a0 :: some .null :: L) (.null :: st) w cn sn := w_aload_nN d_21_4 rfl
theorem d_21_5 : decode (mB 21) 5 = .ok (.getfield 45, 3) := by decide +kernel
theorem s_21_5 {d : Nat} {Q : wQ} {L : List (Option Value)} {st : List Value} {w : aw} {cn sn : Nat} {a : Nat} : wp d 21 Q 5 L (.ref a :: st) w cn sn = (kd w a = 7 ∧ wp d 21 Q 8 L (fd w 394 a :: st) w cn sn) := w_getfield d_21_5 (by decide +kernel : fT (mO 21) 45 = some (6, 10))
theorem d_21_8 : decode (mB 21) 8 = .ok (.iconst 2, 1) := by decide +kernel
theorem s_21_8 {d : Nat} {Q : wQ} {L : List (Option Value)} {st : List Value} {w : aw} {cn sn : Nat}  : wp d 21 Q 8 L st w cn sn = wp d 21 Q 9 L (.int 2 :: st) w cn sn := w_iconst d_21_8 (by decide)
theorem d_21_9 : decode (mB 21) 9 = .ok (.if_icmp .eq 13, 3) := by decide +kernel
theorem s_21_9 {d : Nat} {Q : wQ} {L : List (Option Value)} {st : List Value} {w : aw} {cn sn : Nat} {a b : Int32} : wp d 21 Q 9 L (.int b :: .int a :: st) w cn sn = ((a = b → wp d 21 Q 22 L st w cn sn) ∧ (¬ a = b → wp d 21 Q 12 L st w cn sn)) := w_iceq d_21_9 (by decide)
theorem d_21_12 : decode (mB 21) 12 = .ok (.aload_n 1, 1) := by decide +kernel
theorem s_21_12 {d : Nat} {Q : wQ} {L : List (Option Value)} {st : List Value} {w : aw} {cn sn : Nat} {a0 : Option Value} {v : Nat} : wp d 21 Q 12 (a0 :: some (.ref v) :: L) st w cn sn = wp d 21 Q 13 (a0 :: some (.ref v) :: L) (.ref v :: st) w cn sn := w_aload_n d_21_12 rfl
theorem s_21_12n {d : Nat} {Q : wQ} {L : List (Option Value)} {st : List Value} {w : aw} {cn sn : Nat} {a0 : Option Value} : wp d 21 Q 12 (a0 :: some .null :: L) st w cn sn = wp d 21 Q 13 (a0 :: some .null :: L) (.null :: st) w cn sn := w_aload_nN d_21_12 rfl
theorem d_21_13 : decode (mB 21) 13 = .ok (.iconst 0, 1) := by decide +kernel
theorem s_21_13 {d : Nat} {Q : wQ} {L : List (Option Value)} {st : List Value} {w : aw} {cn sn : Nat}  : wp d 21 Q 13 L st w cn sn = wp d 21 Q 14 L (.int 0 :: st) w cn sn := w_iconst d_21_13 (by decide)
theorem d_21_14 : decode (mB 21) 14 = .ok (.putfield 52, 3) := by decide +kernel
theorem s_21_14 {d : Nat} {Q : wQ} {L : List (Option Value)} {st : List Value} {w : aw} {cn sn : Nat} {x : Int32} {a : Nat} : wp d 21 Q 14 L (.int x :: .ref a :: st) w cn sn = (kd w a = 7 ∧ wp d 21 Q 17 L st (uF w 396 a (.int x)) cn sn) := w_putfield d_21_14 (by decide +kernel : fT (mO 21) 52 = some (6, 12)) (by decide +kernel) ok_int
theorem d_21_17 : decode (mB 21) 17 = .ok (.aload_n 0, 1) := by decide +kernel
theorem s_21_17 {d : Nat} {Q : wQ} {L : List (Option Value)} {st : List Value} {w : aw} {cn sn : Nat} {v : Nat} : wp d 21 Q 17 (some (.ref v) :: L) st w cn sn = wp d 21 Q 18 (some (.ref v) :: L) (.ref v :: st) w cn sn := w_aload_n d_21_17 rfl
theorem d_21_18 : decode (mB 21) 18 = .ok (.aconst_null, 1) := by decide +kernel
theorem s_21_18 {d : Nat} {Q : wQ} {L : List (Option Value)} {st : List Value} {w : aw} {cn sn : Nat}  : wp d 21 Q 18 L st w cn sn = wp d 21 Q 19 L (.null :: st) w cn sn := w_null d_21_18
theorem d_21_19 : decode (mB 21) 19 = .ok (.putfield 48, 3) := by decide +kernel
theorem s_21_19 {d : Nat} {Q : wQ} {L : List (Option Value)} {st : List Value} {w : aw} {cn sn : Nat} {x : Nat} {a : Nat} : wp d 21 Q 19 L (.ref x :: .ref a :: st) w cn sn = (kd w a = 2 ∧ wp d 21 Q 22 L st (uF w 73 a (.ref x)) cn sn) := w_putfield d_21_19 (by decide +kernel : fT (mO 21) 48 = some (1, 9)) (by decide +kernel) ok_ref
theorem s_21_19n {d : Nat} {Q : wQ} {L : List (Option Value)} {st : List Value} {w : aw} {cn sn : Nat} {a : Nat} : wp d 21 Q 19 L (.null :: .ref a :: st) w cn sn = (kd w a = 2 ∧ wp d 21 Q 22 L st (uF w 73 a (.null)) cn sn) := w_putfield d_21_19 (by decide +kernel : fT (mO 21) 48 = some (1, 9)) (by decide +kernel) ok_null
theorem d_21_22 : decode (mB 21) 22 = .ok (.return_, 1) := by decide +kernel
theorem s_21_22 {d : Nat} {Q : wQ} {L : List (Option Value)} {w : aw} {cn sn : Nat}  : wp d 21 Q 22 L [] w cn sn = Q none w := w_return d_21_22 rfl
theorem d_22_0 : decode (mB 22) 0 = .ok (.aload_n 0, 1) := by decide +kernel
theorem s_22_0 {d : Nat} {Q : wQ} {L : List (Option Value)} {st : List Value} {w : aw} {cn sn : Nat} {v : Nat} : wp d 22 Q 0 (some (.ref v) :: L) st w cn sn = wp d 22 Q 1 (some (.ref v) :: L) (.ref v :: st) w cn sn := w_aload_n d_22_0 rfl
theorem d_22_1 : decode (mB 22) 1 = .ok (.dup, 1) := by decide +kernel
theorem s_22_1 {d : Nat} {Q : wQ} {L : List (Option Value)} {st : List Value} {w : aw} {cn sn : Nat} {v : Value} : wp d 22 Q 1 L (v :: st) w cn sn = (v.category = 1 ∧ wp d 22 Q 2 L (v :: v :: st) w cn sn) := wp_row d_22_1 _ _ _ _ _
theorem d_22_2 : decode (mB 22) 2 = .ok (.getfield 86, 3) := by decide +kernel
theorem s_22_2 {d : Nat} {Q : wQ} {L : List (Option Value)} {st : List Value} {w : aw} {cn sn : Nat} {a : Nat} : wp d 22 Q 2 L (.ref a :: st) w cn sn = (kd w a = 2 ∧ wp d 22 Q 5 L (fd w 76 a :: st) w cn sn) := w_getfield d_22_2 (by decide +kernel : fT (mO 22) 86 = some (1, 12))
theorem d_22_5 : decode (mB 22) 5 = .ok (.iconst 1, 1) := by decide +kernel
theorem s_22_5 {d : Nat} {Q : wQ} {L : List (Option Value)} {st : List Value} {w : aw} {cn sn : Nat}  : wp d 22 Q 5 L st w cn sn = wp d 22 Q 6 L (.int 1 :: st) w cn sn := w_iconst d_22_5 (by decide)
theorem d_22_6 : decode (mB 22) 6 = .ok (.iadd, 1) := by decide +kernel
theorem s_22_6 {d : Nat} {Q : wQ} {L : List (Option Value)} {st : List Value} {w : aw} {cn sn : Nat} {a b : Int32} : wp d 22 Q 6 L (.int b :: .int a :: st) w cn sn = wp d 22 Q 7 L (.int (a + b) :: st) w cn sn := wp_row d_22_6 _ _ _ _ _
theorem d_22_7 : decode (mB 22) 7 = .ok (.putfield 86, 3) := by decide +kernel
theorem s_22_7 {d : Nat} {Q : wQ} {L : List (Option Value)} {st : List Value} {w : aw} {cn sn : Nat} {x : Int32} {a : Nat} : wp d 22 Q 7 L (.int x :: .ref a :: st) w cn sn = (kd w a = 2 ∧ wp d 22 Q 10 L st (uF w 76 a (.int x)) cn sn) := w_putfield d_22_7 (by decide +kernel : fT (mO 22) 86 = some (1, 12)) (by decide +kernel) ok_int
theorem d_22_10 : decode (mB 22) 10 = .ok (.iconst 0, 1) := by decide +kernel
theorem s_22_10 {d : Nat} {Q : wQ} {L : List (Option Value)} {st : List Value} {w : aw} {cn sn : Nat}  : wp d 22 Q 10 L st w cn sn = wp d 22 Q 11 L (.int 0 :: st) w cn sn := w_iconst d_22_10 (by decide)
theorem d_22_11 : decode (mB 22) 11 = .ok (.istore_n 1, 1) := by decide +kernel
theorem s_22_11 {d : Nat} {Q : wQ} {L : List (Option Value)} {st : List Value} {w : aw} {cn sn : Nat} {a0 a1 : Option Value} {v : Int32} : wp d 22 Q 11 (a0 :: a1 :: L) (.int v :: st) w cn sn = wp d 22 Q 12 (clr a0 :: some (.int v) :: L) st w cn sn := w_istore_n d_22_11 (Nat.le_add_left 2 _) rfl
theorem d_22_12 : decode (mB 22) 12 = .ok (.iload_n 1, 1) := by decide +kernel
theorem s_22_12 {d : Nat} {Q : wQ} {L : List (Option Value)} {st : List Value} {w : aw} {cn sn : Nat} {a0 : Option Value} {v : Int32} : wp d 22 Q 12 (a0 :: some (.int v) :: L) st w cn sn = wp d 22 Q 13 (a0 :: some (.int v) :: L) (.int v :: st) w cn sn := w_iload_n d_22_12 rfl
theorem d_22_13 : decode (mB 22) 13 = .ok (.aload_n 0, 1) := by decide +kernel
theorem s_22_13 {d : Nat} {Q : wQ} {L : List (Option Value)} {st : List Value} {w : aw} {cn sn : Nat} {v : Nat} : wp d 22 Q 13 (some (.ref v) :: L) st w cn sn = wp d 22 Q 14 (some (.ref v) :: L) (.ref v :: st) w cn sn := w_aload_n d_22_13 rfl
theorem d_22_14 : decode (mB 22) 14 = .ok (.getfield 30, 3) := by decide +kernel
theorem s_22_14 {d : Nat} {Q : wQ} {L : List (Option Value)} {st : List Value} {w : aw} {cn sn : Nat} {a : Nat} : wp d 22 Q 14 L (.ref a :: st) w cn sn = (kd w a = 2 ∧ wp d 22 Q 17 L (fd w 65 a :: st) w cn sn) := w_getfield d_22_14 (by decide +kernel : fT (mO 22) 30 = some (1, 1))
theorem d_22_17 : decode (mB 22) 17 = .ok (.if_icmp .ge 24, 3) := by decide +kernel
theorem s_22_17 {d : Nat} {Q : wQ} {L : List (Option Value)} {st : List Value} {w : aw} {cn sn : Nat} {a b : Int32} : wp d 22 Q 17 L (.int b :: .int a :: st) w cn sn = ((b ≤ a → wp d 22 Q 41 L st w cn sn) ∧ (¬ b ≤ a → wp d 22 Q 20 L st w cn sn)) := w_icge d_22_17 (by decide)
theorem d_22_20 : decode (mB 22) 20 = .ok (.aload_n 0, 1) := by decide +kernel
theorem s_22_20 {d : Nat} {Q : wQ} {L : List (Option Value)} {st : List Value} {w : aw} {cn sn : Nat} {v : Nat} : wp d 22 Q 20 (some (.ref v) :: L) st w cn sn = wp d 22 Q 21 (some (.ref v) :: L) (.ref v :: st) w cn sn := w_aload_n d_22_20 rfl
theorem d_22_21 : decode (mB 22) 21 = .ok (.iload_n 1, 1) := by decide +kernel
theorem s_22_21 {d : Nat} {Q : wQ} {L : List (Option Value)} {st : List Value} {w : aw} {cn sn : Nat} {a0 : Option Value} {v : Int32} : wp d 22 Q 21 (a0 :: some (.int v) :: L) st w cn sn = wp d 22 Q 22 (a0 :: some (.int v) :: L) (.int v :: st) w cn sn := w_iload_n d_22_21 rfl
theorem d_22_22 : decode (mB 22) 22 = .ok (.invokevirtual 89, 3) := by decide +kernel
theorem s_22_22 {d : Nat} {Q : wQ} {L : List (Option Value)} {st : List Value} {w : aw} {cn sn : Nat} {v0 : Value} {b : Nat} : wp d 22 Q 22 L (v0 :: .ref b :: st) w cn sn = (kd w b = 2 ∧ catS st ≤ 8 ∧ wpD d 16 [.ref b, v0] w (fun v w' => wp d 22 Q 25 L (v.toList ++ st) w' cn sn)) := w_virtual (As := [v0]) d_22_22 (by decide +kernel : cT (mO 22) 89 = some (0, 16)) rfl (by decide +kernel) rfl (by decide +kernel) rfl
theorem d_22_25 : decode (mB 22) 25 = .ok (.astore_n 2, 1) := by decide +kernel
theorem s_22_25 {d : Nat} {Q : wQ} {L : List (Option Value)} {st : List Value} {w : aw} {cn sn : Nat} {a0 a1 a2 : Option Value} {v : Nat} : wp d 22 Q 25 (a0 :: a1 :: a2 :: L) (.ref v :: st) w cn sn = wp d 22 Q 26 (a0 :: clr a1 :: some (.ref v) :: L) st w cn sn := w_astore_n d_22_25 (Nat.le_add_left 3 _) rfl
theorem s_22_25n {d : Nat} {Q : wQ} {L : List (Option Value)} {st : List Value} {w : aw} {cn sn : Nat} {a0 a1 a2 : Option Value} : wp d 22 Q 25 (a0 :: a1 :: a2 :: L) (.null :: st) w cn sn = wp d 22 Q 26 (a0 :: clr a1 :: some .null :: L) st w cn sn := w_astore_nN d_22_25 (Nat.le_add_left 3 _) rfl
theorem d_22_26 : decode (mB 22) 26 = .ok (.aload_n 2, 1) := by decide +kernel
theorem s_22_26 {d : Nat} {Q : wQ} {L : List (Option Value)} {st : List Value} {w : aw} {cn sn : Nat} {a0 a1 : Option Value} {v : Nat} : wp d 22 Q 26 (a0 :: a1 :: some (.ref v) :: L) st w cn sn = wp d 22 Q 27 (a0 :: a1 :: some (.ref v) :: L) (.ref v :: st) w cn sn := w_aload_n d_22_26 rfl
theorem s_22_26n {d : Nat} {Q : wQ} {L : List (Option Value)} {st : List Value} {w : aw} {cn sn : Nat} {a0 a1 : Option Value} : wp d 22 Q 26 (a0 :: a1 :: some .null :: L) st w cn sn = wp d 22 Q 27 (a0 :: a1 :: some .null :: L) (.null :: st) w cn sn := w_aload_nN d_22_26 rfl
theorem d_22_27 : decode (mB 22) 27 = .ok (.ifnull 8, 3) := by decide +kernel
theorem s_22_27 {d : Nat} {Q : wQ} {L : List (Option Value)} {st : List Value} {w : aw} {cn sn : Nat} {q : Nat} : wp d 22 Q 27 L (.ref q :: st) w cn sn = wp d 22 Q 30 L st w cn sn := w_ifnull d_22_27 (t := 35) (by decide)
theorem s_22_27n {d : Nat} {Q : wQ} {L : List (Option Value)} {st : List Value} {w : aw} {cn sn : Nat}  : wp d 22 Q 27 L (.null :: st) w cn sn = wp d 22 Q 35 L st w cn sn := w_ifnullN d_22_27 (t := 35) (by decide)
theorem d_22_30 : decode (mB 22) 30 = .ok (.aload_n 0, 1) := by decide +kernel
theorem s_22_30 {d : Nat} {Q : wQ} {L : List (Option Value)} {st : List Value} {w : aw} {cn sn : Nat} {v : Nat} : wp d 22 Q 30 (some (.ref v) :: L) st w cn sn = wp d 22 Q 31 (some (.ref v) :: L) (.ref v :: st) w cn sn := w_aload_n d_22_30 rfl
theorem d_22_31 : decode (mB 22) 31 = .ok (.aload_n 2, 1) := by decide +kernel
theorem s_22_31 {d : Nat} {Q : wQ} {L : List (Option Value)} {st : List Value} {w : aw} {cn sn : Nat} {a0 a1 : Option Value} {v : Nat} : wp d 22 Q 31 (a0 :: a1 :: some (.ref v) :: L) st w cn sn = wp d 22 Q 32 (a0 :: a1 :: some (.ref v) :: L) (.ref v :: st) w cn sn := w_aload_n d_22_31 rfl
theorem s_22_31n {d : Nat} {Q : wQ} {L : List (Option Value)} {st : List Value} {w : aw} {cn sn : Nat} {a0 a1 : Option Value} : wp d 22 Q 31 (a0 :: a1 :: some .null :: L) st w cn sn = wp d 22 Q 32 (a0 :: a1 :: some .null :: L) (.null :: st) w cn sn := w_aload_nN d_22_31 rfl
theorem d_22_32 : decode (mB 22) 32 = .ok (.invokevirtual 93, 3) := by decide +kernel
theorem s_22_32 {d : Nat} {Q : wQ} {L : List (Option Value)} {st : List Value} {w : aw} {cn sn : Nat} {v0 : Value} {b : Nat} : wp d 22 Q 32 L (v0 :: .ref b :: st) w cn sn = (kd w b = 2 ∧ catS st ≤ 8 ∧ wpD d 23 [.ref b, v0] w (fun v w' => wp d 22 Q 35 L (v.toList ++ st) w' cn sn)) := w_virtual (As := [v0]) d_22_32 (by decide +kernel : cT (mO 22) 93 = some (0, 23)) rfl (by decide +kernel) rfl (by decide +kernel) rfl
theorem d_22_35 : decode (mB 22) 35 = .ok (.iinc 1 1, 3) := by decide +kernel
theorem s_22_35 {d : Nat} {Q : wQ} {L : List (Option Value)} {st : List Value} {w : aw} {cn sn : Nat} {a0 : Option Value} {v : Int32} : wp d 22 Q 35 (a0 :: some (.int v) :: L) st w cn sn = wp d 22 Q 38 (clr a0 :: some (.int (v + 1)) :: L) st w cn sn := w_iinc d_22_35 rfl (by decide) rfl
theorem d_22_38 : decode (mB 22) 38 = .ok (.goto (-26), 3) := by decide +kernel
theorem s_22_38 {d : Nat} {Q : wQ} {L : List (Option Value)} {st : List Value} {w : aw} {cn sn : Nat}  : wp d 22 Q 38 L st w cn sn = wp d 22 Q 12 L st w cn sn := w_goto d_22_38 (by decide)
theorem d_22_41 : decode (mB 22) 41 = .ok (.aload_n 0, 1) := by decide +kernel
theorem s_22_41 {d : Nat} {Q : wQ} {L : List (Option Value)} {st : List Value} {w : aw} {cn sn : Nat} {v : Nat} : wp d 22 Q 41 (some (.ref v) :: L) st w cn sn = wp d 22 Q 42 (some (.ref v) :: L) (.ref v :: st) w cn sn := w_aload_n d_22_41 rfl
theorem d_22_42 : decode (mB 22) 42 = .ok (.getfield 48, 3) := by decide +kernel
theorem s_22_42 {d : Nat} {Q : wQ} {L : List (Option Value)} {st : List Value} {w : aw} {cn sn : Nat} {a : Nat} : wp d 22 Q 42 L (.ref a :: st) w cn sn = (kd w a = 2 ∧ wp d 22 Q 45 L (fd w 73 a :: st) w cn sn) := w_getfield d_22_42 (by decide +kernel : fT (mO 22) 48 = some (1, 9))
theorem d_22_45 : decode (mB 22) 45 = .ok (.ifnull 11, 3) := by decide +kernel
theorem s_22_45 {d : Nat} {Q : wQ} {L : List (Option Value)} {st : List Value} {w : aw} {cn sn : Nat} {q : Nat} : wp d 22 Q 45 L (.ref q :: st) w cn sn = wp d 22 Q 48 L st w cn sn := w_ifnull d_22_45 (t := 56) (by decide)
theorem s_22_45n {d : Nat} {Q : wQ} {L : List (Option Value)} {st : List Value} {w : aw} {cn sn : Nat}  : wp d 22 Q 45 L (.null :: st) w cn sn = wp d 22 Q 56 L st w cn sn := w_ifnullN d_22_45 (t := 56) (by decide)
theorem d_22_48 : decode (mB 22) 48 = .ok (.aload_n 0, 1) := by decide +kernel
theorem s_22_48 {d : Nat} {Q : wQ} {L : List (Option Value)} {st : List Value} {w : aw} {cn sn : Nat} {v : Nat} : wp d 22 Q 48 (some (.ref v) :: L) st w cn sn = wp d 22 Q 49 (some (.ref v) :: L) (.ref v :: st) w cn sn := w_aload_n d_22_48 rfl
theorem d_22_49 : decode (mB 22) 49 = .ok (.aload_n 0, 1) := by decide +kernel
theorem s_22_49 {d : Nat} {Q : wQ} {L : List (Option Value)} {st : List Value} {w : aw} {cn sn : Nat} {v : Nat} : wp d 22 Q 49 (some (.ref v) :: L) st w cn sn = wp d 22 Q 50 (some (.ref v) :: L) (.ref v :: st) w cn sn := w_aload_n d_22_49 rfl
theorem d_22_50 : decode (mB 22) 50 = .ok (.getfield 48, 3) := by decide +kernel
theorem s_22_50 {d : Nat} {Q : wQ} {L : List (Option Value)} {st : List Value} {w : aw} {cn sn : Nat} {a : Nat} : wp d 22 Q 50 L (.ref a :: st) w cn sn = (kd w a = 2 ∧ wp d 22 Q 53 L (fd w 73 a :: st) w cn sn) := w_getfield d_22_50 (by decide +kernel : fT (mO 22) 48 = some (1, 9))
theorem d_22_53 : decode (mB 22) 53 = .ok (.invokevirtual 96, 3) := by decide +kernel
theorem s_22_53 {d : Nat} {Q : wQ} {L : List (Option Value)} {st : List Value} {w : aw} {cn sn : Nat} {v0 : Value} {b : Nat} : wp d 22 Q 53 L (v0 :: .ref b :: st) w cn sn = (kd w b = 2 ∧ catS st ≤ 8 ∧ wpD d 24 [.ref b, v0] w (fun v w' => wp d 22 Q 56 L (v.toList ++ st) w' cn sn)) := w_virtual (As := [v0]) d_22_53 (by decide +kernel : cT (mO 22) 96 = some (0, 24)) rfl (by decide +kernel) rfl (by decide +kernel) rfl
theorem d_22_56 : decode (mB 22) 56 = .ok (.return_, 1) := by decide +kernel
theorem s_22_56 {d : Nat} {Q : wQ} {L : List (Option Value)} {w : aw} {cn sn : Nat}  : wp d 22 Q 56 L [] w cn sn = Q none w := w_return d_22_56 rfl
theorem d_23_0 : decode (mB 23) 0 = .ok (.aload_n 1, 1) := by decide +kernel
theorem s_23_0 {d : Nat} {Q : wQ} {L : List (Option Value)} {st : List Value} {w : aw} {cn sn : Nat} {a0 : Option Value} {v : Nat} : wp d 23 Q 0 (a0 :: some (.ref v) :: L) st w cn sn = wp d 23 Q 1 (a0 :: some (.ref v) :: L) (.ref v :: st) w cn sn := w_aload_n d_23_0 rfl
theorem s_23_0n {d : Nat} {Q : wQ} {L : List (Option Value)} {st : List Value} {w : aw} {cn sn : Nat} {a0 : Option Value} : wp d 23 Q 0 (a0 :: some .null :: L) st w cn sn = wp d 23 Q 1 (a0 :: some .null :: L) (.null :: st) w cn sn := w_aload_nN d_23_0 rfl
theorem d_23_1 : decode (mB 23) 1 = .ok (.invokevirtual 99, 3) := by decide +kernel
theorem s_23_1 {d : Nat} {Q : wQ} {L : List (Option Value)} {st : List Value} {w : aw} {cn sn : Nat} {b : Nat} : wp d 23 Q 1 L (.ref b :: st) w cn sn = (kd w b = 7 ∧ catS st ≤ 8 ∧ wpD d 75 [.ref b] w (fun v w' => wp d 23 Q 4 L (v.toList ++ st) w' cn sn)) := w_virtual (As := []) d_23_1 (by decide +kernel : cT (mO 23) 99 = some (0, 75)) rfl (by decide +kernel) rfl (by decide +kernel) rfl
theorem d_23_4 : decode (mB 23) 4 = .ok (.ifCond .eq 16, 3) := by decide +kernel
theorem s_23_4 {d : Nat} {Q : wQ} {L : List (Option Value)} {st : List Value} {w : aw} {cn sn : Nat} {x : Int32} : wp d 23 Q 4 L (.int x :: st) w cn sn = ((x = 0 → wp d 23 Q 20 L st w cn sn) ∧ (¬ x = 0 → wp d 23 Q 7 L st w cn sn)) := w_ifeq d_23_4 (by decide)
theorem d_23_7 : decode (mB 23) 7 = .ok (.aload_n 1, 1) := by decide +kernel
theorem s_23_7 {d : Nat} {Q : wQ} {L : List (Option Value)} {st : List Value} {w : aw} {cn sn : Nat} {a0 : Option Value} {v : Nat} : wp d 23 Q 7 (a0 :: some (.ref v) :: L) st w cn sn = wp d 23 Q 8 (a0 :: some (.ref v) :: L) (.ref v :: st) w cn sn := w_aload_n d_23_7 rfl
theorem s_23_7n {d : Nat} {Q : wQ} {L : List (Option Value)} {st : List Value} {w : aw} {cn sn : Nat} {a0 : Option Value} : wp d 23 Q 7 (a0 :: some .null :: L) st w cn sn = wp d 23 Q 8 (a0 :: some .null :: L) (.null :: st) w cn sn := w_aload_nN d_23_7 rfl
theorem d_23_8 : decode (mB 23) 8 = .ok (.getfield 45, 3) := by decide +kernel
theorem s_23_8 {d : Nat} {Q : wQ} {L : List (Option Value)} {st : List Value} {w : aw} {cn sn : Nat} {a : Nat} : wp d 23 Q 8 L (.ref a :: st) w cn sn = (kd w a = 7 ∧ wp d 23 Q 11 L (fd w 394 a :: st) w cn sn) := w_getfield d_23_8 (by decide +kernel : fT (mO 23) 45 = some (6, 10))
theorem d_23_11 : decode (mB 23) 11 = .ok (.iconst 4, 1) := by decide +kernel
theorem s_23_11 {d : Nat} {Q : wQ} {L : List (Option Value)} {st : List Value} {w : aw} {cn sn : Nat}  : wp d 23 Q 11 L st w cn sn = wp d 23 Q 12 L (.int 4 :: st) w cn sn := w_iconst d_23_11 (by decide)
theorem d_23_12 : decode (mB 23) 12 = .ok (.if_icmp .ne 8, 3) := by decide +kernel
theorem s_23_12 {d : Nat} {Q : wQ} {L : List (Option Value)} {st : List Value} {w : aw} {cn sn : Nat} {a b : Int32} : wp d 23 Q 12 L (.int b :: .int a :: st) w cn sn = ((¬ a = b → wp d 23 Q 20 L st w cn sn) ∧ (a = b → wp d 23 Q 15 L st w cn sn)) := w_icne d_23_12 (by decide)
theorem d_23_15 : decode (mB 23) 15 = .ok (.aload_n 0, 1) := by decide +kernel
theorem s_23_15 {d : Nat} {Q : wQ} {L : List (Option Value)} {st : List Value} {w : aw} {cn sn : Nat} {v : Nat} : wp d 23 Q 15 (some (.ref v) :: L) st w cn sn = wp d 23 Q 16 (some (.ref v) :: L) (.ref v :: st) w cn sn := w_aload_n d_23_15 rfl
theorem d_23_16 : decode (mB 23) 16 = .ok (.aload_n 1, 1) := by decide +kernel
theorem s_23_16 {d : Nat} {Q : wQ} {L : List (Option Value)} {st : List Value} {w : aw} {cn sn : Nat} {a0 : Option Value} {v : Nat} : wp d 23 Q 16 (a0 :: some (.ref v) :: L) st w cn sn = wp d 23 Q 17 (a0 :: some (.ref v) :: L) (.ref v :: st) w cn sn := w_aload_n d_23_16 rfl
theorem s_23_16n {d : Nat} {Q : wQ} {L : List (Option Value)} {st : List Value} {w : aw} {cn sn : Nat} {a0 : Option Value} : wp d 23 Q 16 (a0 :: some .null :: L) st w cn sn = wp d 23 Q 17 (a0 :: some .null :: L) (.null :: st) w cn sn := w_aload_nN d_23_16 rfl
theorem d_23_17 : decode (mB 23) 17 = .ok (.invokevirtual 103, 3) := by decide +kernel
theorem s_23_17 {d : Nat} {Q : wQ} {L : List (Option Value)} {st : List Value} {w : aw} {cn sn : Nat} {v0 : Value} {b : Nat} : wp d 23 Q 17 L (v0 :: .ref b :: st) w cn sn = (kd w b = 2 ∧ catS st ≤ 8 ∧ wpD d 17 [.ref b, v0] w (fun v w' => wp d 23 Q 20 L (v.toList ++ st) w' cn sn)) := w_virtual (As := [v0]) d_23_17 (by decide +kernel : cT (mO 23) 103 = some (0, 17)) rfl (by decide +kernel) rfl (by decide +kernel) rfl
theorem d_23_20 : decode (mB 23) 20 = .ok (.aload_n 1, 1) := by decide +kernel
theorem s_23_20 {d : Nat} {Q : wQ} {L : List (Option Value)} {st : List Value} {w : aw} {cn sn : Nat} {a0 : Option Value} {v : Nat} : wp d 23 Q 20 (a0 :: some (.ref v) :: L) st w cn sn = wp d 23 Q 21 (a0 :: some (.ref v) :: L) (.ref v :: st) w cn sn := w_aload_n d_23_20 rfl
theorem s_23_20n {d : Nat} {Q : wQ} {L : List (Option Value)} {st : List Value} {w : aw} {cn sn : Nat} {a0 : Option Value} : wp d 23 Q 20 (a0 :: some .null :: L) st w cn sn = wp d 23 Q 21 (a0 :: some .null :: L) (.null :: st) w cn sn := w_aload_nN d_23_20 rfl
theorem d_23_21 : decode (mB 23) 21 = .ok (.getfield 45, 3) := by decide +kernel
theorem s_23_21 {d : Nat} {Q : wQ} {L : List (Option Value)} {st : List Value} {w : aw} {cn sn : Nat} {a : Nat} : wp d 23 Q 21 L (.ref a :: st) w cn sn = (kd w a = 7 ∧ wp d 23 Q 24 L (fd w 394 a :: st) w cn sn) := w_getfield d_23_21 (by decide +kernel : fT (mO 23) 45 = some (6, 10))
theorem d_23_24 : decode (mB 23) 24 = .ok (.iconst 5, 1) := by decide +kernel
theorem s_23_24 {d : Nat} {Q : wQ} {L : List (Option Value)} {st : List Value} {w : aw} {cn sn : Nat}  : wp d 23 Q 24 L st w cn sn = wp d 23 Q 25 L (.int 5 :: st) w cn sn := w_iconst d_23_24 (by decide)
theorem d_23_25 : decode (mB 23) 25 = .ok (.if_icmp .ne 25, 3) := by decide +kernel
theorem s_23_25 {d : Nat} {Q : wQ} {L : List (Option Value)} {st : List Value} {w : aw} {cn sn : Nat} {a b : Int32} : wp d 23 Q 25 L (.int b :: .int a :: st) w cn sn = ((¬ a = b → wp d 23 Q 50 L st w cn sn) ∧ (a = b → wp d 23 Q 28 L st w cn sn)) := w_icne d_23_25 (by decide)
theorem d_23_28 : decode (mB 23) 28 = .ok (.aload_n 1, 1) := by decide +kernel
theorem s_23_28 {d : Nat} {Q : wQ} {L : List (Option Value)} {st : List Value} {w : aw} {cn sn : Nat} {a0 : Option Value} {v : Nat} : wp d 23 Q 28 (a0 :: some (.ref v) :: L) st w cn sn = wp d 23 Q 29 (a0 :: some (.ref v) :: L) (.ref v :: st) w cn sn := w_aload_n d_23_28 rfl
theorem s_23_28n {d : Nat} {Q : wQ} {L : List (Option Value)} {st : List Value} {w : aw} {cn sn : Nat} {a0 : Option Value} : wp d 23 Q 28 (a0 :: some .null :: L) st w cn sn = wp d 23 Q 29 (a0 :: some .null :: L) (.null :: st) w cn sn := w_aload_nN d_23_28 rfl
theorem d_23_29 : decode (mB 23) 29 = .ok (.dup, 1) := by decide +kernel
theorem s_23_29 {d : Nat} {Q : wQ} {L : List (Option Value)} {st : List Value} {w : aw} {cn sn : Nat} {v : Value} : wp d 23 Q 29 L (v :: st) w cn sn = (v.category = 1 ∧ wp d 23 Q 30 L (v :: v :: st) w cn sn) := wp_row d_23_29 _ _ _ _ _
theorem d_23_30 : decode (mB 23) 30 = .ok (.getfield 106, 3) := by decide +kernel
theorem s_23_30 {d : Nat} {Q : wQ} {L : List (Option Value)} {st : List Value} {w : aw} {cn sn : Nat} {a : Nat} : wp d 23 Q 30 L (.ref a :: st) w cn sn = (kd w a = 7 ∧ wp d 23 Q 33 L (fd w 395 a :: st) w cn sn) := w_getfield d_23_30 (by decide +kernel : fT (mO 23) 106 = some (6, 11))
theorem d_23_33 : decode (mB 23) 33 = .ok (.iconst 1, 1) := by decide +kernel
theorem s_23_33 {d : Nat} {Q : wQ} {L : List (Option Value)} {st : List Value} {w : aw} {cn sn : Nat}  : wp d 23 Q 33 L st w cn sn = wp d 23 Q 34 L (.int 1 :: st) w cn sn := w_iconst d_23_33 (by decide)
theorem d_23_34 : decode (mB 23) 34 = .ok (.isub, 1) := by decide +kernel
theorem s_23_34 {d : Nat} {Q : wQ} {L : List (Option Value)} {st : List Value} {w : aw} {cn sn : Nat} {a b : Int32} : wp d 23 Q 34 L (.int b :: .int a :: st) w cn sn = wp d 23 Q 35 L (.int (a - b) :: st) w cn sn := wp_row d_23_34 _ _ _ _ _
theorem d_23_35 : decode (mB 23) 35 = .ok (.putfield 106, 3) := by decide +kernel
theorem s_23_35 {d : Nat} {Q : wQ} {L : List (Option Value)} {st : List Value} {w : aw} {cn sn : Nat} {x : Int32} {a : Nat} : wp d 23 Q 35 L (.int x :: .ref a :: st) w cn sn = (kd w a = 7 ∧ wp d 23 Q 38 L st (uF w 395 a (.int x)) cn sn) := w_putfield d_23_35 (by decide +kernel : fT (mO 23) 106 = some (6, 11)) (by decide +kernel) ok_int
theorem d_23_38 : decode (mB 23) 38 = .ok (.aload_n 1, 1) := by decide +kernel
theorem s_23_38 {d : Nat} {Q : wQ} {L : List (Option Value)} {st : List Value} {w : aw} {cn sn : Nat} {a0 : Option Value} {v : Nat} : wp d 23 Q 38 (a0 :: some (.ref v) :: L) st w cn sn = wp d 23 Q 39 (a0 :: some (.ref v) :: L) (.ref v :: st) w cn sn := w_aload_n d_23_38 rfl
theorem s_23_38n {d : Nat} {Q : wQ} {L : List (Option Value)} {st : List Value} {w : aw} {cn sn : Nat} {a0 : Option Value} : wp d 23 Q 38 (a0 :: some .null :: L) st w cn sn = wp d 23 Q 39 (a0 :: some .null :: L) (.null :: st) w cn sn := w_aload_nN d_23_38 rfl
theorem d_23_39 : decode (mB 23) 39 = .ok (.getfield 106, 3) := by decide +kernel
theorem s_23_39 {d : Nat} {Q : wQ} {L : List (Option Value)} {st : List Value} {w : aw} {cn sn : Nat} {a : Nat} : wp d 23 Q 39 L (.ref a :: st) w cn sn = (kd w a = 7 ∧ wp d 23 Q 42 L (fd w 395 a :: st) w cn sn) := w_getfield d_23_39 (by decide +kernel : fT (mO 23) 106 = some (6, 11))
theorem d_23_42 : decode (mB 23) 42 = .ok (.ifCond .ne 8, 3) := by decide +kernel
theorem s_23_42 {d : Nat} {Q : wQ} {L : List (Option Value)} {st : List Value} {w : aw} {cn sn : Nat} {x : Int32} : wp d 23 Q 42 L (.int x :: st) w cn sn = ((¬ x = 0 → wp d 23 Q 50 L st w cn sn) ∧ (x = 0 → wp d 23 Q 45 L st w cn sn)) := w_ifne d_23_42 (by decide)
theorem d_23_45 : decode (mB 23) 45 = .ok (.aload_n 0, 1) := by decide +kernel
theorem s_23_45 {d : Nat} {Q : wQ} {L : List (Option Value)} {st : List Value} {w : aw} {cn sn : Nat} {v : Nat} : wp d 23 Q 45 (some (.ref v) :: L) st w cn sn = wp d 23 Q 46 (some (.ref v) :: L) (.ref v :: st) w cn sn := w_aload_n d_23_45 rfl
theorem d_23_46 : decode (mB 23) 46 = .ok (.aload_n 1, 1) := by decide +kernel
theorem s_23_46 {d : Nat} {Q : wQ} {L : List (Option Value)} {st : List Value} {w : aw} {cn sn : Nat} {a0 : Option Value} {v : Nat} : wp d 23 Q 46 (a0 :: some (.ref v) :: L) st w cn sn = wp d 23 Q 47 (a0 :: some (.ref v) :: L) (.ref v :: st) w cn sn := w_aload_n d_23_46 rfl
theorem s_23_46n {d : Nat} {Q : wQ} {L : List (Option Value)} {st : List Value} {w : aw} {cn sn : Nat} {a0 : Option Value} : wp d 23 Q 46 (a0 :: some .null :: L) st w cn sn = wp d 23 Q 47 (a0 :: some .null :: L) (.null :: st) w cn sn := w_aload_nN d_23_46 rfl
theorem d_23_47 : decode (mB 23) 47 = .ok (.invokevirtual 103, 3) := by decide +kernel
theorem s_23_47 {d : Nat} {Q : wQ} {L : List (Option Value)} {st : List Value} {w : aw} {cn sn : Nat} {v0 : Value} {b : Nat} : wp d 23 Q 47 L (v0 :: .ref b :: st) w cn sn = (kd w b = 2 ∧ catS st ≤ 8 ∧ wpD d 17 [.ref b, v0] w (fun v w' => wp d 23 Q 50 L (v.toList ++ st) w' cn sn)) := w_virtual (As := [v0]) d_23_47 (by decide +kernel : cT (mO 23) 103 = some (0, 17)) rfl (by decide +kernel) rfl (by decide +kernel) rfl
theorem d_23_50 : decode (mB 23) 50 = .ok (.return_, 1) := by decide +kernel
theorem s_23_50 {d : Nat} {Q : wQ} {L : List (Option Value)} {w : aw} {cn sn : Nat}  : wp d 23 Q 50 L [] w cn sn = Q none w := w_return d_23_50 rfl
theorem d_24_0 : decode (mB 24) 0 = .ok (.aload_n 1, 1) := by decide +kernel
theorem s_24_0 {d : Nat} {Q : wQ} {L : List (Option Value)} {st : List Value} {w : aw} {cn sn : Nat} {a0 : Option Value} {v : Nat} : wp d 24 Q 0 (a0 :: some (.ref v) :: L) st w cn sn = wp d 24 Q 1 (a0 :: some (.ref v) :: L) (.ref v :: st) w cn sn := w_aload_n d_24_0 rfl
theorem s_24_0n {d : Nat} {Q : wQ} {L : List (Option Value)} {st : List Value} {w : aw} {cn sn : Nat} {a0 : Option Value} : wp d 24 Q 0 (a0 :: some .null :: L) st w cn sn = wp d 24 Q 1 (a0 :: some .null :: L) (.null :: st) w cn sn := w_aload_nN d_24_0 rfl
theorem d_24_1 : decode (mB 24) 1 = .ok (.dup, 1) := by decide +kernel
theorem s_24_1 {d : Nat} {Q : wQ} {L : List (Option Value)} {st : List Value} {w : aw} {cn sn : Nat} {v : Value} : wp d 24 Q 1 L (v :: st) w cn sn = (v.category = 1 ∧ wp d 24 Q 2 L (v :: v :: st) w cn sn) := wp_row d_24_1 _ _ _ _ _
theorem d_24_2 : decode (mB 24) 2 = .ok (.getfield 52, 3) := by decide +kernel
theorem s_24_2 {d : Nat} {Q : wQ} {L : List (Option Value)} {st : List Value} {w : aw} {cn sn : Nat} {a : Nat} : wp d 24 Q 2 L (.ref a :: st) w cn sn = (kd w a = 7 ∧ wp d 24 Q 5 L (fd w 396 a :: st) w cn sn) := w_getfield d_24_2 (by decide +kernel : fT (mO 24) 52 = some (6, 12))
theorem d_24_5 : decode (mB 24) 5 = .ok (.iconst 1, 1) := by decide +kernel
theorem s_24_5 {d : Nat} {Q : wQ} {L : List (Option Value)} {st : List Value} {w : aw} {cn sn : Nat}  : wp d 24 Q 5 L st w cn sn = wp d 24 Q 6 L (.int 1 :: st) w cn sn := w_iconst d_24_5 (by decide)
theorem d_24_6 : decode (mB 24) 6 = .ok (.isub, 1) := by decide +kernel
theorem s_24_6 {d : Nat} {Q : wQ} {L : List (Option Value)} {st : List Value} {w : aw} {cn sn : Nat} {a b : Int32} : wp d 24 Q 6 L (.int b :: .int a :: st) w cn sn = wp d 24 Q 7 L (.int (a - b) :: st) w cn sn := wp_row d_24_6 _ _ _ _ _
theorem d_24_7 : decode (mB 24) 7 = .ok (.putfield 52, 3) := by decide +kernel
theorem s_24_7 {d : Nat} {Q : wQ} {L : List (Option Value)} {st : List Value} {w : aw} {cn sn : Nat} {x : Int32} {a : Nat} : wp d 24 Q 7 L (.int x :: .ref a :: st) w cn sn = (kd w a = 7 ∧ wp d 24 Q 10 L st (uF w 396 a (.int x)) cn sn) := w_putfield d_24_7 (by decide +kernel : fT (mO 24) 52 = some (6, 12)) (by decide +kernel) ok_int
theorem d_24_10 : decode (mB 24) 10 = .ok (.aload_n 1, 1) := by decide +kernel
theorem s_24_10 {d : Nat} {Q : wQ} {L : List (Option Value)} {st : List Value} {w : aw} {cn sn : Nat} {a0 : Option Value} {v : Nat} : wp d 24 Q 10 (a0 :: some (.ref v) :: L) st w cn sn = wp d 24 Q 11 (a0 :: some (.ref v) :: L) (.ref v :: st) w cn sn := w_aload_n d_24_10 rfl
theorem s_24_10n {d : Nat} {Q : wQ} {L : List (Option Value)} {st : List Value} {w : aw} {cn sn : Nat} {a0 : Option Value} : wp d 24 Q 10 (a0 :: some .null :: L) st w cn sn = wp d 24 Q 11 (a0 :: some .null :: L) (.null :: st) w cn sn := w_aload_nN d_24_10 rfl
theorem d_24_11 : decode (mB 24) 11 = .ok (.getfield 52, 3) := by decide +kernel
theorem s_24_11 {d : Nat} {Q : wQ} {L : List (Option Value)} {st : List Value} {w : aw} {cn sn : Nat} {a : Nat} : wp d 24 Q 11 L (.ref a :: st) w cn sn = (kd w a = 7 ∧ wp d 24 Q 14 L (fd w 396 a :: st) w cn sn) := w_getfield d_24_11 (by decide +kernel : fT (mO 24) 52 = some (6, 12))
theorem d_24_14 : decode (mB 24) 14 = .ok (.ifCond .ne 13, 3) := by decide +kernel
theorem s_24_14 {d : Nat} {Q : wQ} {L : List (Option Value)} {st : List Value} {w : aw} {cn sn : Nat} {x : Int32} : wp d 24 Q 14 L (.int x :: st) w cn sn = ((¬ x = 0 → wp d 24 Q 27 L st w cn sn) ∧ (x = 0 → wp d 24 Q 17 L st w cn sn)) := w_ifne d_24_14 (by decide)
theorem d_24_17 : decode (mB 24) 17 = .ok (.aload_n 0, 1) := by decide +kernel
theorem s_24_17 {d : Nat} {Q : wQ} {L : List (Option Value)} {st : List Value} {w : aw} {cn sn : Nat} {v : Nat} : wp d 24 Q 17 (some (.ref v) :: L) st w cn sn = wp d 24 Q 18 (some (.ref v) :: L) (.ref v :: st) w cn sn := w_aload_n d_24_17 rfl
theorem d_24_18 : decode (mB 24) 18 = .ok (.aconst_null, 1) := by decide +kernel
theorem s_24_18 {d : Nat} {Q : wQ} {L : List (Option Value)} {st : List Value} {w : aw} {cn sn : Nat}  : wp d 24 Q 18 L st w cn sn = wp d 24 Q 19 L (.null :: st) w cn sn := w_null d_24_18
theorem d_24_19 : decode (mB 24) 19 = .ok (.putfield 48, 3) := by decide +kernel
theorem s_24_19 {d : Nat} {Q : wQ} {L : List (Option Value)} {st : List Value} {w : aw} {cn sn : Nat} {x : Nat} {a : Nat} : wp d 24 Q 19 L (.ref x :: .ref a :: st) w cn sn = (kd w a = 2 ∧ wp d 24 Q 22 L st (uF w 73 a (.ref x)) cn sn) := w_putfield d_24_19 (by decide +kernel : fT (mO 24) 48 = some (1, 9)) (by decide +kernel) ok_ref
theorem s_24_19n {d : Nat} {Q : wQ} {L : List (Option Value)} {st : List Value} {w : aw} {cn sn : Nat} {a : Nat} : wp d 24 Q 19 L (.null :: .ref a :: st) w cn sn = (kd w a = 2 ∧ wp d 24 Q 22 L st (uF w 73 a (.null)) cn sn) := w_putfield d_24_19 (by decide +kernel : fT (mO 24) 48 = some (1, 9)) (by decide +kernel) ok_null
theorem d_24_22 : decode (mB 24) 22 = .ok (.aload_n 0, 1) := by decide +kernel
theorem s_24_22 {d : Nat} {Q : wQ} {L : List (Option Value)} {st : List Value} {w : aw} {cn sn : Nat} {v : Nat} : wp d 24 Q 22 (some (.ref v) :: L) st w cn sn = wp d 24 Q 23 (some (.ref v) :: L) (.ref v :: st) w cn sn := w_aload_n d_24_22 rfl
theorem d_24_23 : decode (mB 24) 23 = .ok (.aload_n 1, 1) := by decide +kernel
theorem s_24_23 {d : Nat} {Q : wQ} {L : List (Option Value)} {st : List Value} {w : aw} {cn sn : Nat} {a0 : Option Value} {v : Nat} : wp d 24 Q 23 (a0 :: some (.ref v) :: L) st w cn sn = wp d 24 Q 24 (a0 :: some (.ref v) :: L) (.ref v :: st) w cn sn := w_aload_n d_24_23 rfl
theorem s_24_23n {d : Nat} {Q : wQ} {L : List (Option Value)} {st : List Value} {w : aw} {cn sn : Nat} {a0 : Option Value} : wp d 24 Q 23 (a0 :: some .null :: L) st w cn sn = wp d 24 Q 24 (a0 :: some .null :: L) (.null :: st) w cn sn := w_aload_nN d_24_23 rfl
theorem d_24_24 : decode (mB 24) 24 = .ok (.invokevirtual 103, 3) := by decide +kernel
theorem s_24_24 {d : Nat} {Q : wQ} {L : List (Option Value)} {st : List Value} {w : aw} {cn sn : Nat} {v0 : Value} {b : Nat} : wp d 24 Q 24 L (v0 :: .ref b :: st) w cn sn = (kd w b = 2 ∧ catS st ≤ 8 ∧ wpD d 17 [.ref b, v0] w (fun v w' => wp d 24 Q 27 L (v.toList ++ st) w' cn sn)) := w_virtual (As := [v0]) d_24_24 (by decide +kernel : cT (mO 24) 103 = some (0, 17)) rfl (by decide +kernel) rfl (by decide +kernel) rfl
theorem d_24_27 : decode (mB 24) 27 = .ok (.return_, 1) := by decide +kernel
theorem s_24_27 {d : Nat} {Q : wQ} {L : List (Option Value)} {w : aw} {cn sn : Nat}  : wp d 24 Q 27 L [] w cn sn = Q none w := w_return d_24_27 rfl
theorem d_25_0 : decode (mB 25) 0 = .ok (.iload_n 1, 1) := by decide +kernel
theorem s_25_0 {d : Nat} {Q : wQ} {L : List (Option Value)} {st : List Value} {w : aw} {cn sn : Nat} {a0 : Option Value} {v : Int32} : wp d 25 Q 0 (a0 :: some (.int v) :: L) st w cn sn = wp d 25 Q 1 (a0 :: some (.int v) :: L) (.int v :: st) w cn sn := w_iload_n d_25_0 rfl
theorem d_25_1 : decode (mB 25) 1 = .ok (.ifCond .lt 20, 3) := by decide +kernel
theorem s_25_1 {d : Nat} {Q : wQ} {L : List (Option Value)} {st : List Value} {w : aw} {cn sn : Nat} {x : Int32} : wp d 25 Q 1 L (.int x :: st) w cn sn = ((x < 0 → wp d 25 Q 21 L st w cn sn) ∧ (¬ x < 0 → wp d 25 Q 4 L st w cn sn)) := w_iflt d_25_1 (by decide)
theorem d_25_4 : decode (mB 25) 4 = .ok (.iload_n 1, 1) := by decide +kernel
theorem s_25_4 {d : Nat} {Q : wQ} {L : List (Option Value)} {st : List Value} {w : aw} {cn sn : Nat} {a0 : Option Value} {v : Int32} : wp d 25 Q 4 (a0 :: some (.int v) :: L) st w cn sn = wp d 25 Q 5 (a0 :: some (.int v) :: L) (.int v :: st) w cn sn := w_iload_n d_25_4 rfl
theorem d_25_5 : decode (mB 25) 5 = .ok (.aload_n 0, 1) := by decide +kernel
theorem s_25_5 {d : Nat} {Q : wQ} {L : List (Option Value)} {st : List Value} {w : aw} {cn sn : Nat} {v : Nat} : wp d 25 Q 5 (some (.ref v) :: L) st w cn sn = wp d 25 Q 6 (some (.ref v) :: L) (.ref v :: st) w cn sn := w_aload_n d_25_5 rfl
theorem d_25_6 : decode (mB 25) 6 = .ok (.getfield 42, 3) := by decide +kernel
theorem s_25_6 {d : Nat} {Q : wQ} {L : List (Option Value)} {st : List Value} {w : aw} {cn sn : Nat} {a : Nat} : wp d 25 Q 6 L (.ref a :: st) w cn sn = (kd w a = 2 ∧ wp d 25 Q 9 L (fd w 70 a :: st) w cn sn) := w_getfield d_25_6 (by decide +kernel : fT (mO 25) 42 = some (1, 6))
theorem d_25_9 : decode (mB 25) 9 = .ok (.if_icmp .ge 12, 3) := by decide +kernel
theorem s_25_9 {d : Nat} {Q : wQ} {L : List (Option Value)} {st : List Value} {w : aw} {cn sn : Nat} {a b : Int32} : wp d 25 Q 9 L (.int b :: .int a :: st) w cn sn = ((b ≤ a → wp d 25 Q 21 L st w cn sn) ∧ (¬ b ≤ a → wp d 25 Q 12 L st w cn sn)) := w_icge d_25_9 (by decide)
theorem d_25_12 : decode (mB 25) 12 = .ok (.iload_n 1, 1) := by decide +kernel
theorem s_25_12 {d : Nat} {Q : wQ} {L : List (Option Value)} {st : List Value} {w : aw} {cn sn : Nat} {a0 : Option Value} {v : Int32} : wp d 25 Q 12 (a0 :: some (.int v) :: L) st w cn sn = wp d 25 Q 13 (a0 :: some (.int v) :: L) (.int v :: st) w cn sn := w_iload_n d_25_12 rfl
theorem d_25_13 : decode (mB 25) 13 = .ok (.aload_n 0, 1) := by decide +kernel
theorem s_25_13 {d : Nat} {Q : wQ} {L : List (Option Value)} {st : List Value} {w : aw} {cn sn : Nat} {v : Nat} : wp d 25 Q 13 (some (.ref v) :: L) st w cn sn = wp d 25 Q 14 (some (.ref v) :: L) (.ref v :: st) w cn sn := w_aload_n d_25_13 rfl
theorem d_25_14 : decode (mB 25) 14 = .ok (.getfield 17, 3) := by decide +kernel
theorem s_25_14 {d : Nat} {Q : wQ} {L : List (Option Value)} {st : List Value} {w : aw} {cn sn : Nat} {a : Nat} : wp d 25 Q 14 L (.ref a :: st) w cn sn = (kd w a = 2 ∧ wp d 25 Q 17 L (fd w 69 a :: st) w cn sn) := w_getfield d_25_14 (by decide +kernel : fT (mO 25) 17 = some (1, 5))
theorem d_25_17 : decode (mB 25) 17 = .ok (.arraylength, 1) := by decide +kernel
theorem s_25_17 {d : Nat} {Q : wQ} {L : List (Option Value)} {st : List Value} {w : aw} {cn sn : Nat} {a : Nat} : wp d 25 Q 17 L (.ref a :: st) w cn sn = ((tyA (kd w a)).isSome = true ∧ wp d 25 Q 18 L (.int (nI (ln w a)) :: st) w cn sn) := wp_row d_25_17 _ _ _ _ _
theorem d_25_18 : decode (mB 25) 18 = .ok (.if_icmp .lt 5, 3) := by decide +kernel
theorem s_25_18 {d : Nat} {Q : wQ} {L : List (Option Value)} {st : List Value} {w : aw} {cn sn : Nat} {a b : Int32} : wp d 25 Q 18 L (.int b :: .int a :: st) w cn sn = ((a < b → wp d 25 Q 23 L st w cn sn) ∧ (¬ a < b → wp d 25 Q 21 L st w cn sn)) := w_iclt d_25_18 (by decide)
theorem d_25_21 : decode (mB 25) 21 = .ok (.iconst (-1), 1) := by decide +kernel
theorem s_25_21 {d : Nat} {Q : wQ} {L : List (Option Value)} {st : List Value} {w : aw} {cn sn : Nat}  : wp d 25 Q 21 L st w cn sn = wp d 25 Q 22 L (.int (-1) :: st) w cn sn := w_iconst d_25_21 (by decide)
theorem d_25_22 : decode (mB 25) 22 = .ok (.ireturn, 1) := by decide +kernel
theorem s_25_22 {d : Nat} {Q : wQ} {L : List (Option Value)} {w : aw} {cn sn : Nat} {v : Int32} : wp d 25 Q 22 L [.int v] w cn sn = Q (some (.int v)) w := w_ireturn d_25_22 rfl
theorem d_25_23 : decode (mB 25) 23 = .ok (.aload_n 0, 1) := by decide +kernel
theorem s_25_23 {d : Nat} {Q : wQ} {L : List (Option Value)} {st : List Value} {w : aw} {cn sn : Nat} {v : Nat} : wp d 25 Q 23 (some (.ref v) :: L) st w cn sn = wp d 25 Q 24 (some (.ref v) :: L) (.ref v :: st) w cn sn := w_aload_n d_25_23 rfl
theorem d_25_24 : decode (mB 25) 24 = .ok (.getfield 17, 3) := by decide +kernel
theorem s_25_24 {d : Nat} {Q : wQ} {L : List (Option Value)} {st : List Value} {w : aw} {cn sn : Nat} {a : Nat} : wp d 25 Q 24 L (.ref a :: st) w cn sn = (kd w a = 2 ∧ wp d 25 Q 27 L (fd w 69 a :: st) w cn sn) := w_getfield d_25_24 (by decide +kernel : fT (mO 25) 17 = some (1, 5))
theorem d_25_27 : decode (mB 25) 27 = .ok (.iload_n 1, 1) := by decide +kernel
theorem s_25_27 {d : Nat} {Q : wQ} {L : List (Option Value)} {st : List Value} {w : aw} {cn sn : Nat} {a0 : Option Value} {v : Int32} : wp d 25 Q 27 (a0 :: some (.int v) :: L) st w cn sn = wp d 25 Q 28 (a0 :: some (.int v) :: L) (.int v :: st) w cn sn := w_iload_n d_25_27 rfl
theorem d_25_28 : decode (mB 25) 28 = .ok (.aaload, 1) := by decide +kernel
theorem s_25_28 {d : Nat} {Q : wQ} {L : List (Option Value)} {st : List Value} {w : aw} {cn sn : Nat} {a : Nat} {i : Int32} : wp d 25 Q 28 L (.int i :: .ref a :: st) w cn sn = (kd w a = 24 ∧ inR i (ln w a) ∧ wp d 25 Q 29 L (va_rf (ar w a i.toNatClampNeg) :: st) w cn sn) := wp_row d_25_28 _ _ _ _ _
theorem d_25_29 : decode (mB 25) 29 = .ok (.astore_n 2, 1) := by decide +kernel
theorem s_25_29 {d : Nat} {Q : wQ} {L : List (Option Value)} {st : List Value} {w : aw} {cn sn : Nat} {a0 a1 a2 : Option Value} {v : Nat} : wp d 25 Q 29 (a0 :: a1 :: a2 :: L) (.ref v :: st) w cn sn = wp d 25 Q 30 (a0 :: clr a1 :: some (.ref v) :: L) st w cn sn := w_astore_n d_25_29 (Nat.le_add_left 3 _) rfl
theorem s_25_29n {d : Nat} {Q : wQ} {L : List (Option Value)} {st : List Value} {w : aw} {cn sn : Nat} {a0 a1 a2 : Option Value} : wp d 25 Q 29 (a0 :: a1 :: a2 :: L) (.null :: st) w cn sn = wp d 25 Q 30 (a0 :: clr a1 :: some .null :: L) st w cn sn := w_astore_nN d_25_29 (Nat.le_add_left 3 _) rfl
theorem d_25_30 : decode (mB 25) 30 = .ok (.aload_n 2, 1) := by decide +kernel
theorem s_25_30 {d : Nat} {Q : wQ} {L : List (Option Value)} {st : List Value} {w : aw} {cn sn : Nat} {a0 a1 : Option Value} {v : Nat} : wp d 25 Q 30 (a0 :: a1 :: some (.ref v) :: L) st w cn sn = wp d 25 Q 31 (a0 :: a1 :: some (.ref v) :: L) (.ref v :: st) w cn sn := w_aload_n d_25_30 rfl
theorem s_25_30n {d : Nat} {Q : wQ} {L : List (Option Value)} {st : List Value} {w : aw} {cn sn : Nat} {a0 a1 : Option Value} : wp d 25 Q 30 (a0 :: a1 :: some .null :: L) st w cn sn = wp d 25 Q 31 (a0 :: a1 :: some .null :: L) (.null :: st) w cn sn := w_aload_nN d_25_30 rfl
theorem d_25_31 : decode (mB 25) 31 = .ok (.ifnonnull 7, 3) := by decide +kernel
theorem s_25_31 {d : Nat} {Q : wQ} {L : List (Option Value)} {st : List Value} {w : aw} {cn sn : Nat} {q : Nat} : wp d 25 Q 31 L (.ref q :: st) w cn sn = wp d 25 Q 38 L st w cn sn := w_ifnn d_25_31 (t := 38) (by decide)
theorem s_25_31n {d : Nat} {Q : wQ} {L : List (Option Value)} {st : List Value} {w : aw} {cn sn : Nat}  : wp d 25 Q 31 L (.null :: st) w cn sn = wp d 25 Q 34 L st w cn sn := w_ifnnN d_25_31 (t := 38) (by decide)
theorem d_25_34 : decode (mB 25) 34 = .ok (.iconst (-1), 1) := by decide +kernel
theorem s_25_34 {d : Nat} {Q : wQ} {L : List (Option Value)} {st : List Value} {w : aw} {cn sn : Nat}  : wp d 25 Q 34 L st w cn sn = wp d 25 Q 35 L (.int (-1) :: st) w cn sn := w_iconst d_25_34 (by decide)
theorem d_25_35 : decode (mB 25) 35 = .ok (.goto 7, 3) := by decide +kernel
theorem s_25_35 {d : Nat} {Q : wQ} {L : List (Option Value)} {st : List Value} {w : aw} {cn sn : Nat}  : wp d 25 Q 35 L st w cn sn = wp d 25 Q 42 L st w cn sn := w_goto d_25_35 (by decide)
theorem d_25_38 : decode (mB 25) 38 = .ok (.aload_n 2, 1) := by decide +kernel
theorem s_25_38 {d : Nat} {Q : wQ} {L : List (Option Value)} {st : List Value} {w : aw} {cn sn : Nat} {a0 a1 : Option Value} {v : Nat} : wp d 25 Q 38 (a0 :: a1 :: some (.ref v) :: L) st w cn sn = wp d 25 Q 39 (a0 :: a1 :: some (.ref v) :: L) (.ref v :: st) w cn sn := w_aload_n d_25_38 rfl
theorem s_25_38n {d : Nat} {Q : wQ} {L : List (Option Value)} {st : List Value} {w : aw} {cn sn : Nat} {a0 a1 : Option Value} : wp d 25 Q 38 (a0 :: a1 :: some .null :: L) st w cn sn = wp d 25 Q 39 (a0 :: a1 :: some .null :: L) (.null :: st) w cn sn := w_aload_nN d_25_38 rfl
theorem d_25_39 : decode (mB 25) 39 = .ok (.getfield 109, 3) := by decide +kernel
theorem s_25_39 {d : Nat} {Q : wQ} {L : List (Option Value)} {st : List Value} {w : aw} {cn sn : Nat} {a : Nat} : wp d 25 Q 39 L (.ref a :: st) w cn sn = (kd w a = 7 ∧ wp d 25 Q 42 L (fd w 384 a :: st) w cn sn) := w_getfield d_25_39 (by decide +kernel : fT (mO 25) 109 = some (6, 0))
theorem d_25_42 : decode (mB 25) 42 = .ok (.ireturn, 1) := by decide +kernel
theorem s_25_42 {d : Nat} {Q : wQ} {L : List (Option Value)} {w : aw} {cn sn : Nat} {v : Int32} : wp d 25 Q 42 L [.int v] w cn sn = Q (some (.int v)) w := w_ireturn d_25_42 rfl
theorem d_26_0 : decode (mB 26) 0 = .ok (.aload_n 0, 1) := by decide +kernel
theorem s_26_0 {d : Nat} {Q : wQ} {L : List (Option Value)} {st : List Value} {w : aw} {cn sn : Nat} {v : Nat} : wp d 26 Q 0 (some (.ref v) :: L) st w cn sn = wp d 26 Q 1 (some (.ref v) :: L) (.ref v :: st) w cn sn := w_aload_n d_26_0 rfl
theorem d_26_1 : decode (mB 26) 1 = .ok (.invokevirtual 112, 3) := by decide +kernel
theorem s_26_1 {d : Nat} {Q : wQ} {L : List (Option Value)} {st : List Value} {w : aw} {cn sn : Nat} {b : Nat} : wp d 26 Q 1 L (.ref b :: st) w cn sn = (kd w b = 2 ∧ catS st ≤ 8 ∧ wpD d 14 [.ref b] w (fun v w' => wp d 26 Q 4 L (v.toList ++ st) w' cn sn)) := w_virtual (As := []) d_26_1 (by decide +kernel : cT (mO 26) 112 = some (0, 14)) rfl (by decide +kernel) rfl (by decide +kernel) rfl
theorem d_26_4 : decode (mB 26) 4 = .ok (.ifCond .ne 5, 3) := by decide +kernel
theorem s_26_4 {d : Nat} {Q : wQ} {L : List (Option Value)} {st : List Value} {w : aw} {cn sn : Nat} {x : Int32} : wp d 26 Q 4 L (.int x :: st) w cn sn = ((¬ x = 0 → wp d 26 Q 9 L st w cn sn) ∧ (x = 0 → wp d 26 Q 7 L st w cn sn)) := w_ifne d_26_4 (by decide)
theorem d_26_7 : decode (mB 26) 7 = .ok (.iconst (-1), 1) := by decide +kernel
theorem s_26_7 {d : Nat} {Q : wQ} {L : List (Option Value)} {st : List Value} {w : aw} {cn sn : Nat}  : wp d 26 Q 7 L st w cn sn = wp d 26 Q 8 L (.int (-1) :: st) w cn sn := w_iconst d_26_7 (by decide)
theorem d_26_8 : decode (mB 26) 8 = .ok (.ireturn, 1) := by decide +kernel
theorem s_26_8 {d : Nat} {Q : wQ} {L : List (Option Value)} {w : aw} {cn sn : Nat} {v : Int32} : wp d 26 Q 8 L [.int v] w cn sn = Q (some (.int v)) w := w_ireturn d_26_8 rfl
theorem d_26_9 : decode (mB 26) 9 = .ok (.iload_n 1, 1) := by decide +kernel
theorem s_26_9 {d : Nat} {Q : wQ} {L : List (Option Value)} {st : List Value} {w : aw} {cn sn : Nat} {a0 : Option Value} {v : Int32} : wp d 26 Q 9 (a0 :: some (.int v) :: L) st w cn sn = wp d 26 Q 10 (a0 :: some (.int v) :: L) (.int v :: st) w cn sn := w_iload_n d_26_9 rfl
theorem d_26_10 : decode (mB 26) 10 = .ok (.tableswitch 127 0 10 #[58, 63, 68, 73, 78, 83, 88, 107, 112, 117, 122], 58) := by decide +kernel
theorem s_26_10 {d : Nat} {Q : wQ} {L : List (Option Value)} {st : List Value} {w : aw} {cn sn : Nat} {x : Int32} : wp d 26 Q 10 L (.int x :: st) w cn sn = ((x.toInt < 0 ∨ 10 < x.toInt → wp d 26 Q 137 L st w cn sn) ∧ ∀ (i t : Nat), ([68, 73, 78, 83, 88, 93, 98, 117, 122, 127, 132] : List Nat)[i]? = some t → x.toInt = 0 + i → wp d 26 Q t L st w cn sn) := w_table d_26_10 (by decide) (by decide) (by decide)
theorem d_26_68 : decode (mB 26) 68 = .ok (.aload_n 0, 1) := by decide +kernel
theorem s_26_68 {d : Nat} {Q : wQ} {L : List (Option Value)} {st : List Value} {w : aw} {cn sn : Nat} {v : Nat} : wp d 26 Q 68 (some (.ref v) :: L) st w cn sn = wp d 26 Q 69 (some (.ref v) :: L) (.ref v :: st) w cn sn := w_aload_n d_26_68 rfl
theorem d_26_69 : decode (mB 26) 69 = .ok (.getfield 30, 3) := by decide +kernel
theorem s_26_69 {d : Nat} {Q : wQ} {L : List (Option Value)} {st : List Value} {w : aw} {cn sn : Nat} {a : Nat} : wp d 26 Q 69 L (.ref a :: st) w cn sn = (kd w a = 2 ∧ wp d 26 Q 72 L (fd w 65 a :: st) w cn sn) := w_getfield d_26_69 (by decide +kernel : fT (mO 26) 30 = some (1, 1))
theorem d_26_72 : decode (mB 26) 72 = .ok (.ireturn, 1) := by decide +kernel
theorem s_26_72 {d : Nat} {Q : wQ} {L : List (Option Value)} {w : aw} {cn sn : Nat} {v : Int32} : wp d 26 Q 72 L [.int v] w cn sn = Q (some (.int v)) w := w_ireturn d_26_72 rfl
theorem d_26_73 : decode (mB 26) 73 = .ok (.aload_n 0, 1) := by decide +kernel
theorem s_26_73 {d : Nat} {Q : wQ} {L : List (Option Value)} {st : List Value} {w : aw} {cn sn : Nat} {v : Nat} : wp d 26 Q 73 (some (.ref v) :: L) st w cn sn = wp d 26 Q 74 (some (.ref v) :: L) (.ref v :: st) w cn sn := w_aload_n d_26_73 rfl
theorem d_26_74 : decode (mB 26) 74 = .ok (.getfield 33, 3) := by decide +kernel
theorem s_26_74 {d : Nat} {Q : wQ} {L : List (Option Value)} {st : List Value} {w : aw} {cn sn : Nat} {a : Nat} : wp d 26 Q 74 L (.ref a :: st) w cn sn = (kd w a = 2 ∧ wp d 26 Q 77 L (fd w 66 a :: st) w cn sn) := w_getfield d_26_74 (by decide +kernel : fT (mO 26) 33 = some (1, 2))
theorem d_26_77 : decode (mB 26) 77 = .ok (.ireturn, 1) := by decide +kernel
theorem s_26_77 {d : Nat} {Q : wQ} {L : List (Option Value)} {w : aw} {cn sn : Nat} {v : Int32} : wp d 26 Q 77 L [.int v] w cn sn = Q (some (.int v)) w := w_ireturn d_26_77 rfl
theorem d_26_78 : decode (mB 26) 78 = .ok (.aload_n 0, 1) := by decide +kernel
theorem s_26_78 {d : Nat} {Q : wQ} {L : List (Option Value)} {st : List Value} {w : aw} {cn sn : Nat} {v : Nat} : wp d 26 Q 78 (some (.ref v) :: L) st w cn sn = wp d 26 Q 79 (some (.ref v) :: L) (.ref v :: st) w cn sn := w_aload_n d_26_78 rfl
theorem d_26_79 : decode (mB 26) 79 = .ok (.getfield 36, 3) := by decide +kernel
theorem s_26_79 {d : Nat} {Q : wQ} {L : List (Option Value)} {st : List Value} {w : aw} {cn sn : Nat} {a : Nat} : wp d 26 Q 79 L (.ref a :: st) w cn sn = (kd w a = 2 ∧ wp d 26 Q 82 L (fd w 67 a :: st) w cn sn) := w_getfield d_26_79 (by decide +kernel : fT (mO 26) 36 = some (1, 3))
theorem d_26_82 : decode (mB 26) 82 = .ok (.ireturn, 1) := by decide +kernel
theorem s_26_82 {d : Nat} {Q : wQ} {L : List (Option Value)} {w : aw} {cn sn : Nat} {v : Int32} : wp d 26 Q 82 L [.int v] w cn sn = Q (some (.int v)) w := w_ireturn d_26_82 rfl
theorem d_26_83 : decode (mB 26) 83 = .ok (.aload_n 0, 1) := by decide +kernel
theorem s_26_83 {d : Nat} {Q : wQ} {L : List (Option Value)} {st : List Value} {w : aw} {cn sn : Nat} {v : Nat} : wp d 26 Q 83 (some (.ref v) :: L) st w cn sn = wp d 26 Q 84 (some (.ref v) :: L) (.ref v :: st) w cn sn := w_aload_n d_26_83 rfl
theorem d_26_84 : decode (mB 26) 84 = .ok (.getfield 39, 3) := by decide +kernel
theorem s_26_84 {d : Nat} {Q : wQ} {L : List (Option Value)} {st : List Value} {w : aw} {cn sn : Nat} {a : Nat} : wp d 26 Q 84 L (.ref a :: st) w cn sn = (kd w a = 2 ∧ wp d 26 Q 87 L (fd w 68 a :: st) w cn sn) := w_getfield d_26_84 (by decide +kernel : fT (mO 26) 39 = some (1, 4))
theorem d_26_87 : decode (mB 26) 87 = .ok (.ireturn, 1) := by decide +kernel
theorem s_26_87 {d : Nat} {Q : wQ} {L : List (Option Value)} {w : aw} {cn sn : Nat} {v : Int32} : wp d 26 Q 87 L [.int v] w cn sn = Q (some (.int v)) w := w_ireturn d_26_87 rfl
theorem d_26_88 : decode (mB 26) 88 = .ok (.aload_n 0, 1) := by decide +kernel
theorem s_26_88 {d : Nat} {Q : wQ} {L : List (Option Value)} {st : List Value} {w : aw} {cn sn : Nat} {v : Nat} : wp d 26 Q 88 (some (.ref v) :: L) st w cn sn = wp d 26 Q 89 (some (.ref v) :: L) (.ref v :: st) w cn sn := w_aload_n d_26_88 rfl
theorem d_26_89 : decode (mB 26) 89 = .ok (.getfield 71, 3) := by decide +kernel
theorem s_26_89 {d : Nat} {Q : wQ} {L : List (Option Value)} {st : List Value} {w : aw} {cn sn : Nat} {a : Nat} : wp d 26 Q 89 L (.ref a :: st) w cn sn = (kd w a = 2 ∧ wp d 26 Q 92 L (fd w 74 a :: st) w cn sn) := w_getfield d_26_89 (by decide +kernel : fT (mO 26) 71 = some (1, 10))
theorem d_26_92 : decode (mB 26) 92 = .ok (.ireturn, 1) := by decide +kernel
theorem s_26_92 {d : Nat} {Q : wQ} {L : List (Option Value)} {w : aw} {cn sn : Nat} {v : Int32} : wp d 26 Q 92 L [.int v] w cn sn = Q (some (.int v)) w := w_ireturn d_26_92 rfl
theorem d_26_93 : decode (mB 26) 93 = .ok (.aload_n 0, 1) := by decide +kernel
theorem s_26_93 {d : Nat} {Q : wQ} {L : List (Option Value)} {st : List Value} {w : aw} {cn sn : Nat} {v : Nat} : wp d 26 Q 93 (some (.ref v) :: L) st w cn sn = wp d 26 Q 94 (some (.ref v) :: L) (.ref v :: st) w cn sn := w_aload_n d_26_93 rfl
theorem d_26_94 : decode (mB 26) 94 = .ok (.getfield 86, 3) := by decide +kernel
theorem s_26_94 {d : Nat} {Q : wQ} {L : List (Option Value)} {st : List Value} {w : aw} {cn sn : Nat} {a : Nat} : wp d 26 Q 94 L (.ref a :: st) w cn sn = (kd w a = 2 ∧ wp d 26 Q 97 L (fd w 76 a :: st) w cn sn) := w_getfield d_26_94 (by decide +kernel : fT (mO 26) 86 = some (1, 12))
theorem d_26_97 : decode (mB 26) 97 = .ok (.ireturn, 1) := by decide +kernel
theorem s_26_97 {d : Nat} {Q : wQ} {L : List (Option Value)} {w : aw} {cn sn : Nat} {v : Int32} : wp d 26 Q 97 L [.int v] w cn sn = Q (some (.int v)) w := w_ireturn d_26_97 rfl
theorem d_26_98 : decode (mB 26) 98 = .ok (.aload_n 0, 1) := by decide +kernel
theorem s_26_98 {d : Nat} {Q : wQ} {L : List (Option Value)} {st : List Value} {w : aw} {cn sn : Nat} {v : Nat} : wp d 26 Q 98 (some (.ref v) :: L) st w cn sn = wp d 26 Q 99 (some (.ref v) :: L) (.ref v :: st) w cn sn := w_aload_n d_26_98 rfl
theorem d_26_99 : decode (mB 26) 99 = .ok (.getfield 48, 3) := by decide +kernel
theorem s_26_99 {d : Nat} {Q : wQ} {L : List (Option Value)} {st : List Value} {w : aw} {cn sn : Nat} {a : Nat} : wp d 26 Q 99 L (.ref a :: st) w cn sn = (kd w a = 2 ∧ wp d 26 Q 102 L (fd w 73 a :: st) w cn sn) := w_getfield d_26_99 (by decide +kernel : fT (mO 26) 48 = some (1, 9))
theorem d_26_102 : decode (mB 26) 102 = .ok (.ifnonnull 7, 3) := by decide +kernel
theorem s_26_102 {d : Nat} {Q : wQ} {L : List (Option Value)} {st : List Value} {w : aw} {cn sn : Nat} {q : Nat} : wp d 26 Q 102 L (.ref q :: st) w cn sn = wp d 26 Q 109 L st w cn sn := w_ifnn d_26_102 (t := 109) (by decide)
theorem s_26_102n {d : Nat} {Q : wQ} {L : List (Option Value)} {st : List Value} {w : aw} {cn sn : Nat}  : wp d 26 Q 102 L (.null :: st) w cn sn = wp d 26 Q 105 L st w cn sn := w_ifnnN d_26_102 (t := 109) (by decide)
theorem d_26_105 : decode (mB 26) 105 = .ok (.iconst (-1), 1) := by decide +kernel
theorem s_26_105 {d : Nat} {Q : wQ} {L : List (Option Value)} {st : List Value} {w : aw} {cn sn : Nat}  : wp d 26 Q 105 L st w cn sn = wp d 26 Q 106 L (.int (-1) :: st) w cn sn := w_iconst d_26_105 (by decide)
theorem d_26_106 : decode (mB 26) 106 = .ok (.goto 10, 3) := by decide +kernel
theorem s_26_106 {d : Nat} {Q : wQ} {L : List (Option Value)} {st : List Value} {w : aw} {cn sn : Nat}  : wp d 26 Q 106 L st w cn sn = wp d 26 Q 116 L st w cn sn := w_goto d_26_106 (by decide)
theorem d_26_109 : decode (mB 26) 109 = .ok (.aload_n 0, 1) := by decide +kernel
theorem s_26_109 {d : Nat} {Q : wQ} {L : List (Option Value)} {st : List Value} {w : aw} {cn sn : Nat} {v : Nat} : wp d 26 Q 109 (some (.ref v) :: L) st w cn sn = wp d 26 Q 110 (some (.ref v) :: L) (.ref v :: st) w cn sn := w_aload_n d_26_109 rfl
theorem d_26_110 : decode (mB 26) 110 = .ok (.getfield 48, 3) := by decide +kernel
theorem s_26_110 {d : Nat} {Q : wQ} {L : List (Option Value)} {st : List Value} {w : aw} {cn sn : Nat} {a : Nat} : wp d 26 Q 110 L (.ref a :: st) w cn sn = (kd w a = 2 ∧ wp d 26 Q 113 L (fd w 73 a :: st) w cn sn) := w_getfield d_26_110 (by decide +kernel : fT (mO 26) 48 = some (1, 9))
theorem d_26_113 : decode (mB 26) 113 = .ok (.getfield 109, 3) := by decide +kernel
theorem s_26_113 {d : Nat} {Q : wQ} {L : List (Option Value)} {st : List Value} {w : aw} {cn sn : Nat} {a : Nat} : wp d 26 Q 113 L (.ref a :: st) w cn sn = (kd w a = 7 ∧ wp d 26 Q 116 L (fd w 384 a :: st) w cn sn) := w_getfield d_26_113 (by decide +kernel : fT (mO 26) 109 = some (6, 0))
theorem d_26_116 : decode (mB 26) 116 = .ok (.ireturn, 1) := by decide +kernel
theorem s_26_116 {d : Nat} {Q : wQ} {L : List (Option Value)} {w : aw} {cn sn : Nat} {v : Int32} : wp d 26 Q 116 L [.int v] w cn sn = Q (some (.int v)) w := w_ireturn d_26_116 rfl
theorem d_26_117 : decode (mB 26) 117 = .ok (.aload_n 0, 1) := by decide +kernel
theorem s_26_117 {d : Nat} {Q : wQ} {L : List (Option Value)} {st : List Value} {w : aw} {cn sn : Nat} {v : Nat} : wp d 26 Q 117 (some (.ref v) :: L) st w cn sn = wp d 26 Q 118 (some (.ref v) :: L) (.ref v :: st) w cn sn := w_aload_n d_26_117 rfl
theorem d_26_118 : decode (mB 26) 118 = .ok (.getfield 42, 3) := by decide +kernel
theorem s_26_118 {d : Nat} {Q : wQ} {L : List (Option Value)} {st : List Value} {w : aw} {cn sn : Nat} {a : Nat} : wp d 26 Q 118 L (.ref a :: st) w cn sn = (kd w a = 2 ∧ wp d 26 Q 121 L (fd w 70 a :: st) w cn sn) := w_getfield d_26_118 (by decide +kernel : fT (mO 26) 42 = some (1, 6))
theorem d_26_121 : decode (mB 26) 121 = .ok (.ireturn, 1) := by decide +kernel
theorem s_26_121 {d : Nat} {Q : wQ} {L : List (Option Value)} {w : aw} {cn sn : Nat} {v : Int32} : wp d 26 Q 121 L [.int v] w cn sn = Q (some (.int v)) w := w_ireturn d_26_121 rfl
theorem d_26_122 : decode (mB 26) 122 = .ok (.aload_n 0, 1) := by decide +kernel
theorem s_26_122 {d : Nat} {Q : wQ} {L : List (Option Value)} {st : List Value} {w : aw} {cn sn : Nat} {v : Nat} : wp d 26 Q 122 (some (.ref v) :: L) st w cn sn = wp d 26 Q 123 (some (.ref v) :: L) (.ref v :: st) w cn sn := w_aload_n d_26_122 rfl
theorem d_26_123 : decode (mB 26) 123 = .ok (.getfield 62, 3) := by decide +kernel
theorem s_26_123 {d : Nat} {Q : wQ} {L : List (Option Value)} {st : List Value} {w : aw} {cn sn : Nat} {a : Nat} : wp d 26 Q 123 L (.ref a :: st) w cn sn = (kd w a = 2 ∧ wp d 26 Q 126 L (fd w 77 a :: st) w cn sn) := w_getfield d_26_123 (by decide +kernel : fT (mO 26) 62 = some (1, 13))
theorem d_26_126 : decode (mB 26) 126 = .ok (.ireturn, 1) := by decide +kernel
theorem s_26_126 {d : Nat} {Q : wQ} {L : List (Option Value)} {w : aw} {cn sn : Nat} {v : Int32} : wp d 26 Q 126 L [.int v] w cn sn = Q (some (.int v)) w := w_ireturn d_26_126 rfl
theorem d_26_127 : decode (mB 26) 127 = .ok (.aload_n 0, 1) := by decide +kernel
theorem s_26_127 {d : Nat} {Q : wQ} {L : List (Option Value)} {st : List Value} {w : aw} {cn sn : Nat} {v : Nat} : wp d 26 Q 127 (some (.ref v) :: L) st w cn sn = wp d 26 Q 128 (some (.ref v) :: L) (.ref v :: st) w cn sn := w_aload_n d_26_127 rfl
theorem d_26_128 : decode (mB 26) 128 = .ok (.getfield 23, 3) := by decide +kernel
theorem s_26_128 {d : Nat} {Q : wQ} {L : List (Option Value)} {st : List Value} {w : aw} {cn sn : Nat} {a : Nat} : wp d 26 Q 128 L (.ref a :: st) w cn sn = (kd w a = 2 ∧ wp d 26 Q 131 L (fd w 72 a :: st) w cn sn) := w_getfield d_26_128 (by decide +kernel : fT (mO 26) 23 = some (1, 8))
theorem d_26_131 : decode (mB 26) 131 = .ok (.ireturn, 1) := by decide +kernel
theorem s_26_131 {d : Nat} {Q : wQ} {L : List (Option Value)} {w : aw} {cn sn : Nat} {v : Int32} : wp d 26 Q 131 L [.int v] w cn sn = Q (some (.int v)) w := w_ireturn d_26_131 rfl
theorem d_26_132 : decode (mB 26) 132 = .ok (.aload_n 0, 1) := by decide +kernel
theorem s_26_132 {d : Nat} {Q : wQ} {L : List (Option Value)} {st : List Value} {w : aw} {cn sn : Nat} {v : Nat} : wp d 26 Q 132 (some (.ref v) :: L) st w cn sn = wp d 26 Q 133 (some (.ref v) :: L) (.ref v :: st) w cn sn := w_aload_n d_26_132 rfl
theorem d_26_133 : decode (mB 26) 133 = .ok (.getfield 68, 3) := by decide +kernel
theorem s_26_133 {d : Nat} {Q : wQ} {L : List (Option Value)} {st : List Value} {w : aw} {cn sn : Nat} {a : Nat} : wp d 26 Q 133 L (.ref a :: st) w cn sn = (kd w a = 2 ∧ wp d 26 Q 136 L (fd w 78 a :: st) w cn sn) := w_getfield d_26_133 (by decide +kernel : fT (mO 26) 68 = some (1, 14))
theorem d_26_136 : decode (mB 26) 136 = .ok (.ireturn, 1) := by decide +kernel
theorem s_26_136 {d : Nat} {Q : wQ} {L : List (Option Value)} {w : aw} {cn sn : Nat} {v : Int32} : wp d 26 Q 136 L [.int v] w cn sn = Q (some (.int v)) w := w_ireturn d_26_136 rfl
theorem d_26_137 : decode (mB 26) 137 = .ok (.iconst (-1), 1) := by decide +kernel
theorem s_26_137 {d : Nat} {Q : wQ} {L : List (Option Value)} {st : List Value} {w : aw} {cn sn : Nat}  : wp d 26 Q 137 L st w cn sn = wp d 26 Q 138 L (.int (-1) :: st) w cn sn := w_iconst d_26_137 (by decide)
theorem d_26_138 : decode (mB 26) 138 = .ok (.ireturn, 1) := by decide +kernel
theorem s_26_138 {d : Nat} {Q : wQ} {L : List (Option Value)} {w : aw} {cn sn : Nat} {v : Int32} : wp d 26 Q 138 L [.int v] w cn sn = Q (some (.int v)) w := w_ireturn d_26_138 rfl
