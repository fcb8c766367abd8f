theorem d_13_0 : decode (mB 13) 0 = .ok (.aload_n 0, 1) := by decide +kernel
theorem s_13_0 {d : Nat} {Q : wQ} {L : List (Option Value)} {st : List Value} {w : aw} {cn sn : Nat} {v : Nat} : wp d 13 Q 0 (some (.ref v) :: L) st w cn sn = wp d 13 Q 1 (some (.ref v) :: L) (.ref v :: st) w cn sn := w_aload_n d_13_0 rfl
theorem d_13_1 : decode (mB 13) 1 = .ok (.invokespecial 3, 3) := by decide +kernel
theorem s_13_1 {d : Nat} {Q : wQ} {L : List (Option Value)} {st : List Value} {w : aw} {cn sn : Nat} {b : Nat} : wp d 13 Q 1 L (.ref b :: st) w cn sn = (catS st ≤ 8 ∧ wp d 13 Q 4 L st w cn sn) := w_objinit d_13_1 (by decide +kernel : cT (mO 13) 3 = some (3, 0))
theorem d_13_4 : decode (mB 13) 4 = .ok (.aload_n 0, 1) := by decide +kernel
theorem s_13_4 {d : Nat} {Q : wQ} {L : List (Option Value)} {st : List Value} {w : aw} {cn sn : Nat} {v : Nat} : wp d 13 Q 4 (some (.ref v) :: L) st w cn sn = wp d 13 Q 5 (some (.ref v) :: L) (.ref v :: st) w cn sn := w_aload_n d_13_4 rfl
theorem d_13_5 : decode (mB 13) 5 = .ok (.bipush 8, 2) := by decide +kernel
theorem s_13_5 {d : Nat} {Q : wQ} {L : List (Option Value)} {st : List Value} {w : aw} {cn sn : Nat}  : wp d 13 Q 5 L st w cn sn = wp d 13 Q 7 L (.int 8 :: st) w cn sn := w_bipush d_13_5 (by decide)
theorem d_13_7 : decode (mB 13) 7 = .ok (.anewarray 9, 3) := by decide +kernel
theorem s_13_7 {d : Nat} {Q : wQ} {L : List (Option Value)} {st : List Value} {w : aw} {cn sn : Nat} {v : Int32} : wp d 13 Q 7 L (.int v :: st) w cn sn = (¬ v < 0 ∧ v.toNatClampNeg * 4 ≤ 536870912 ∧ cn + 1 ≤ 67 ∧ sn + v.toNatClampNeg ≤ 70096 ∧ wp d 13 Q 10 L (.ref (zs w) :: st) (nw w 24 v.toNatClampNeg) (cn + 1) (sn + v.toNatClampNeg)) := w_anewarray d_13_7 (by decide +kernel : nT (mO 13) 9 = some 6) rfl (by decide +kernel) (by decide +kernel)
theorem d_13_10 : decode (mB 13) 10 = .ok (.putfield 11, 3) := by decide +kernel
theorem s_13_10 {d : Nat} {Q : wQ} {L : List (Option Value)} {st : List Value} {w : aw} {cn sn : Nat} {x : Nat} {a : Nat} : wp d 13 Q 10 L (.ref x :: .ref a :: st) w cn sn = (kd w a = 2 ∧ wp d 13 Q 13 L st (uF w 68 a (.ref x)) cn sn) := w_putfield d_13_10 (by decide +kernel : fT (mO 13) 11 = some (1, 4)) (by decide +kernel) ok_arr
theorem d_13_13 : decode (mB 13) 13 = .ok (.aload_n 0, 1) := by decide +kernel
theorem s_13_13 {d : Nat} {Q : wQ} {L : List (Option Value)} {st : List Value} {w : aw} {cn sn : Nat} {v : Nat} : wp d 13 Q 13 (some (.ref v) :: L) st w cn sn = wp d 13 Q 14 (some (.ref v) :: L) (.ref v :: st) w cn sn := w_aload_n d_13_13 rfl
theorem d_13_14 : decode (mB 13) 14 = .ok (.bipush 8, 2) := by decide +kernel
theorem s_13_14 {d : Nat} {Q : wQ} {L : List (Option Value)} {st : List Value} {w : aw} {cn sn : Nat}  : wp d 13 Q 14 L st w cn sn = wp d 13 Q 16 L (.int 8 :: st) w cn sn := w_bipush d_13_14 (by decide)
theorem d_13_16 : decode (mB 13) 16 = .ok (.anewarray 9, 3) := by decide +kernel
theorem s_13_16 {d : Nat} {Q : wQ} {L : List (Option Value)} {st : List Value} {w : aw} {cn sn : Nat} {v : Int32} : wp d 13 Q 16 L (.int v :: st) w cn sn = (¬ v < 0 ∧ v.toNatClampNeg * 4 ≤ 536870912 ∧ cn + 1 ≤ 67 ∧ sn + v.toNatClampNeg ≤ 70096 ∧ wp d 13 Q 19 L (.ref (zs w) :: st) (nw w 24 v.toNatClampNeg) (cn + 1) (sn + v.toNatClampNeg)) := w_anewarray d_13_16 (by decide +kernel : nT (mO 13) 9 = some 6) rfl (by decide +kernel) (by decide +kernel)
theorem d_13_19 : decode (mB 13) 19 = .ok (.putfield 17, 3) := by decide +kernel
theorem s_13_19 {d : Nat} {Q : wQ} {L : List (Option Value)} {st : List Value} {w : aw} {cn sn : Nat} {x : Nat} {a : Nat} : wp d 13 Q 19 L (.ref x :: .ref a :: st) w cn sn = (kd w a = 2 ∧ wp d 13 Q 22 L st (uF w 70 a (.ref x)) cn sn) := w_putfield d_13_19 (by decide +kernel : fT (mO 13) 17 = some (1, 6)) (by decide +kernel) ok_arr
theorem d_13_22 : decode (mB 13) 22 = .ok (.aload_n 0, 1) := by decide +kernel
theorem s_13_22 {d : Nat} {Q : wQ} {L : List (Option Value)} {st : List Value} {w : aw} {cn sn : Nat} {v : Nat} : wp d 13 Q 22 (some (.ref v) :: L) st w cn sn = wp d 13 Q 23 (some (.ref v) :: L) (.ref v :: st) w cn sn := w_aload_n d_13_22 rfl
theorem d_13_23 : decode (mB 13) 23 = .ok (.iconst 1, 1) := by decide +kernel
theorem s_13_23 {d : Nat} {Q : wQ} {L : List (Option Value)} {st : List Value} {w : aw} {cn sn : Nat}  : wp d 13 Q 23 L st w cn sn = wp d 13 Q 24 L (.int 1 :: st) w cn sn := w_iconst d_13_23 (by decide)
theorem d_13_24 : decode (mB 13) 24 = .ok (.putfield 20, 3) := by decide +kernel
theorem s_13_24 {d : Nat} {Q : wQ} {L : List (Option Value)} {st : List Value} {w : aw} {cn sn : Nat} {x : Int32} {a : Nat} : wp d 13 Q 24 L (.int x :: .ref a :: st) w cn sn = (kd w a = 2 ∧ wp d 13 Q 27 L st (uF w 71 a (.int x)) cn sn) := w_putfield d_13_24 (by decide +kernel : fT (mO 13) 20 = some (1, 7)) (by decide +kernel) ok_int
theorem d_13_27 : decode (mB 13) 27 = .ok (.aload_n 0, 1) := by decide +kernel
theorem s_13_27 {d : Nat} {Q : wQ} {L : List (Option Value)} {st : List Value} {w : aw} {cn sn : Nat} {v : Nat} : wp d 13 Q 27 (some (.ref v) :: L) st w cn sn = wp d 13 Q 28 (some (.ref v) :: L) (.ref v :: st) w cn sn := w_aload_n d_13_27 rfl
theorem d_13_28 : decode (mB 13) 28 = .ok (.bipush 8, 2) := by decide +kernel
theorem s_13_28 {d : Nat} {Q : wQ} {L : List (Option Value)} {st : List Value} {w : aw} {cn sn : Nat}  : wp d 13 Q 28 L st w cn sn = wp d 13 Q 30 L (.int 8 :: st) w cn sn := w_bipush d_13_28 (by decide)
theorem d_13_30 : decode (mB 13) 30 = .ok (.iload_n 1, 1) := by decide +kernel
theorem s_13_30 {d : Nat} {Q : wQ} {L : List (Option Value)} {st : List Value} {w : aw} {cn sn : Nat} {a0 : Option Value} {v : Int32} : wp d 13 Q 30 (a0 :: some (.int v) :: L) st w cn sn = wp d 13 Q 31 (a0 :: some (.int v) :: L) (.int v :: st) w cn sn := w_iload_n d_13_30 rfl
theorem d_13_31 : decode (mB 13) 31 = .ok (.if_icmp .lt 7, 3) := by decide +kernel
theorem s_13_31 {d : Nat} {Q : wQ} {L : List (Option Value)} {st : List Value} {w : aw} {cn sn : Nat} {a b : Int32} : wp d 13 Q 31 L (.int b :: .int a :: st) w cn sn = ((a < b → wp d 13 Q 38 L st w cn sn) ∧ (¬ a < b → wp d 13 Q 34 L st w cn sn)) := w_iclt d_13_31 (by decide)
theorem d_13_34 : decode (mB 13) 34 = .ok (.iload_n 1, 1) := by decide +kernel
theorem s_13_34 {d : Nat} {Q : wQ} {L : List (Option Value)} {st : List Value} {w : aw} {cn sn : Nat} {a0 : Option Value} {v : Int32} : wp d 13 Q 34 (a0 :: some (.int v) :: L) st w cn sn = wp d 13 Q 35 (a0 :: some (.int v) :: L) (.int v :: st) w cn sn := w_iload_n d_13_34 rfl
theorem d_13_35 : decode (mB 13) 35 = .ok (.ifCond .ge 7, 3) := by decide +kernel
theorem s_13_35 {d : Nat} {Q : wQ} {L : List (Option Value)} {st : List Value} {w : aw} {cn sn : Nat} {x : Int32} : wp d 13 Q 35 L (.int x :: st) w cn sn = ((0 ≤ x → wp d 13 Q 42 L st w cn sn) ∧ (¬ 0 ≤ x → wp d 13 Q 38 L st w cn sn)) := w_ifge d_13_35 (by decide)
theorem d_13_38 : decode (mB 13) 38 = .ok (.iconst 0, 1) := by decide +kernel
theorem s_13_38 {d : Nat} {Q : wQ} {L : List (Option Value)} {st : List Value} {w : aw} {cn sn : Nat}  : wp d 13 Q 38 L st w cn sn = wp d 13 Q 39 L (.int 0 :: st) w cn sn := w_iconst d_13_38 (by decide)
theorem d_13_39 : decode (mB 13) 39 = .ok (.goto 4, 3) := by decide +kernel
theorem s_13_39 {d : Nat} {Q : wQ} {L : List (Option Value)} {st : List Value} {w : aw} {cn sn : Nat}  : wp d 13 Q 39 L st w cn sn = wp d 13 Q 43 L st w cn sn := w_goto d_13_39 (by decide)
theorem d_13_42 : decode (mB 13) 42 = .ok (.iload_n 1, 1) := by decide +kernel
theorem s_13_42 {d : Nat} {Q : wQ} {L : List (Option Value)} {st : List Value} {w : aw} {cn sn : Nat} {a0 : Option Value} {v : Int32} : wp d 13 Q 42 (a0 :: some (.int v) :: L) st w cn sn = wp d 13 Q 43 (a0 :: some (.int v) :: L) (.int v :: st) w cn sn := w_iload_n d_13_42 rfl
theorem d_13_43 : decode (mB 13) 43 = .ok (.anewarray 9, 3) := by decide +kernel
theorem s_13_43 {d : Nat} {Q : wQ} {L : List (Option Value)} {st : List Value} {w : aw} {cn sn : Nat} {v : Int32} : wp d 13 Q 43 L (.int v :: st) w cn sn = (¬ v < 0 ∧ v.toNatClampNeg * 4 ≤ 536870912 ∧ cn + 1 ≤ 67 ∧ sn + v.toNatClampNeg ≤ 70096 ∧ wp d 13 Q 46 L (.ref (zs w) :: st) (nw w 24 v.toNatClampNeg) (cn + 1) (sn + v.toNatClampNeg)) := w_anewarray d_13_43 (by decide +kernel : nT (mO 13) 9 = some 6) rfl (by decide +kernel) (by decide +kernel)
theorem d_13_46 : decode (mB 13) 46 = .ok (.putfield 24, 3) := by decide +kernel
theorem s_13_46 {d : Nat} {Q : wQ} {L : List (Option Value)} {st : List Value} {w : aw} {cn sn : Nat} {x : Nat} {a : Nat} : wp d 13 Q 46 L (.ref x :: .ref a :: st) w cn sn = (kd w a = 2 ∧ wp d 13 Q 49 L st (uF w 64 a (.ref x)) cn sn) := w_putfield d_13_46 (by decide +kernel : fT (mO 13) 24 = some (1, 0)) (by decide +kernel) ok_arr
theorem d_13_49 : decode (mB 13) 49 = .ok (.iconst 0, 1) := by decide +kernel
theorem s_13_49 {d : Nat} {Q : wQ} {L : List (Option Value)} {st : List Value} {w : aw} {cn sn : Nat}  : wp d 13 Q 49 L st w cn sn = wp d 13 Q 50 L (.int 0 :: st) w cn sn := w_iconst d_13_49 (by decide)
theorem d_13_50 : decode (mB 13) 50 = .ok (.istore 5, 2) := by decide +kernel
theorem s_13_50 {d : Nat} {Q : wQ} {L : List (Option Value)} {st : List Value} {w : aw} {cn sn : Nat} {a0 a1 a2 a3 a4 a5 : Option Value} {v : Int32} : wp d 13 Q 50 (a0 :: a1 :: a2 :: a3 :: a4 :: a5 :: L) (.int v :: st) w cn sn = wp d 13 Q 52 (a0 :: a1 :: a2 :: a3 :: clr a4 :: some (.int v) :: L) st w cn sn := w_istore d_13_50 (Nat.le_add_left 6 _) rfl
theorem d_13_52 : decode (mB 13) 52 = .ok (.iload 5, 2) := by decide +kernel
theorem s_13_52 {d : Nat} {Q : wQ} {L : List (Option Value)} {st : List Value} {w : aw} {cn sn : Nat} {a0 a1 a2 a3 a4 : Option Value} {v : Int32} : wp d 13 Q 52 (a0 :: a1 :: a2 :: a3 :: a4 :: some (.int v) :: L) st w cn sn = wp d 13 Q 54 (a0 :: a1 :: a2 :: a3 :: a4 :: some (.int v) :: L) (.int v :: st) w cn sn := w_iload d_13_52 rfl
theorem d_13_54 : decode (mB 13) 54 = .ok (.aload_n 0, 1) := by decide +kernel
theorem s_13_54 {d : Nat} {Q : wQ} {L : List (Option Value)} {st : List Value} {w : aw} {cn sn : Nat} {v : Nat} : wp d 13 Q 54 (some (.ref v) :: L) st w cn sn = wp d 13 Q 55 (some (.ref v) :: L) (.ref v :: st) w cn sn := w_aload_n d_13_54 rfl
theorem d_13_55 : decode (mB 13) 55 = .ok (.getfield 24, 3) := by decide +kernel
theorem s_13_55 {d : Nat} {Q : wQ} {L : List (Option Value)} {st : List Value} {w : aw} {cn sn : Nat} {a : Nat} : wp d 13 Q 55 L (.ref a :: st) w cn sn = (kd w a = 2 ∧ wp d 13 Q 58 L (fd w 64 a :: st) w cn sn) := w_getfield d_13_55 (by decide +kernel : fT (mO 13) 24 = some (1, 0))
theorem d_13_58 : decode (mB 13) 58 = .ok (.arraylength, 1) := by decide +kernel
theorem s_13_58 {d : Nat} {Q : wQ} {L : List (Option Value)} {st : List Value} {w : aw} {cn sn : Nat} {a : Nat} : wp d 13 Q 58 L (.ref a :: st) w cn sn = ((tyA (kd w a)).isSome = true ∧ wp d 13 Q 59 L (.int (nI (ln w a)) :: st) w cn sn) := wp_row d_13_58 _ _ _ _ _
theorem d_13_59 : decode (mB 13) 59 = .ok (.if_icmp .ge 25, 3) := by decide +kernel
theorem s_13_59 {d : Nat} {Q : wQ} {L : List (Option Value)} {st : List Value} {w : aw} {cn sn : Nat} {a b : Int32} : wp d 13 Q 59 L (.int b :: .int a :: st) w cn sn = ((b ≤ a → wp d 13 Q 84 L st w cn sn) ∧ (¬ b ≤ a → wp d 13 Q 62 L st w cn sn)) := w_icge d_13_59 (by decide)
theorem d_13_62 : decode (mB 13) 62 = .ok (.aload_n 0, 1) := by decide +kernel
theorem s_13_62 {d : Nat} {Q : wQ} {L : List (Option Value)} {st : List Value} {w : aw} {cn sn : Nat} {v : Nat} : wp d 13 Q 62 (some (.ref v) :: L) st w cn sn = wp d 13 Q 63 (some (.ref v) :: L) (.ref v :: st) w cn sn := w_aload_n d_13_62 rfl
theorem d_13_63 : decode (mB 13) 63 = .ok (.getfield 24, 3) := by decide +kernel
theorem s_13_63 {d : Nat} {Q : wQ} {L : List (Option Value)} {st : List Value} {w : aw} {cn sn : Nat} {a : Nat} : wp d 13 Q 63 L (.ref a :: st) w cn sn = (kd w a = 2 ∧ wp d 13 Q 66 L (fd w 64 a :: st) w cn sn) := w_getfield d_13_63 (by decide +kernel : fT (mO 13) 24 = some (1, 0))
theorem d_13_66 : decode (mB 13) 66 = .ok (.iload 5, 2) := by decide +kernel
theorem s_13_66 {d : Nat} {Q : wQ} {L : List (Option Value)} {st : List Value} {w : aw} {cn sn : Nat} {a0 a1 a2 a3 a4 : Option Value} {v : Int32} : wp d 13 Q 66 (a0 :: a1 :: a2 :: a3 :: a4 :: some (.int v) :: L) st w cn sn = wp d 13 Q 68 (a0 :: a1 :: a2 :: a3 :: a4 :: some (.int v) :: L) (.int v :: st) w cn sn := w_iload d_13_66 rfl
theorem d_13_68 : decode (mB 13) 68 = .ok (.new 9, 3) := by decide +kernel
theorem s_13_68 {d : Nat} {Q : wQ} {L : List (Option Value)} {st : List Value} {w : aw} {cn sn : Nat}  : wp d 13 Q 68 L st w cn sn = (cn + 1 ≤ 67 ∧ sn + 17 ≤ 70096 ∧ wp d 13 Q 71 L (.ref (zs w) :: st) (nw w 7 0) (cn + 1) (sn + 17)) := w_new d_13_68 (by decide +kernel : nT (mO 13) 9 = some 6) (by decide +kernel) (by decide +kernel) (by decide +kernel)
theorem d_13_71 : decode (mB 13) 71 = .ok (.dup, 1) := by decide +kernel
theorem s_13_71 {d : Nat} {Q : wQ} {L : List (Option Value)} {st : List Value} {w : aw} {cn sn : Nat} {v : Value} : wp d 13 Q 71 L (v :: st) w cn sn = (v.category = 1 ∧ wp d 13 Q 72 L (v :: v :: st) w cn sn) := wp_row d_13_71 _ _ _ _ _
theorem d_13_72 : decode (mB 13) 72 = .ok (.iload 5, 2) := by decide +kernel
theorem s_13_72 {d : Nat} {Q : wQ} {L : List (Option Value)} {st : List Value} {w : aw} {cn sn : Nat} {a0 a1 a2 a3 a4 : Option Value} {v : Int32} : wp d 13 Q 72 (a0 :: a1 :: a2 :: a3 :: a4 :: some (.int v) :: L) st w cn sn = wp d 13 Q 74 (a0 :: a1 :: a2 :: a3 :: a4 :: some (.int v) :: L) (.int v :: st) w cn sn := w_iload d_13_72 rfl
theorem d_13_74 : decode (mB 13) 74 = .ok (.invokespecial 27, 3) := by decide +kernel
theorem s_13_74 {d : Nat} {Q : wQ} {L : List (Option Value)} {st : List Value} {w : aw} {cn sn : Nat} {v0 : Value} {b : Nat} : wp d 13 Q 74 L (v0 :: .ref b :: st) w cn sn = (catS st ≤ 8 ∧ alc 13 58 cn sn (fun c2 s2 => wpD d 58 [.ref b, v0] w (fun v w' => wp d 13 Q 77 L (v.toList ++ st) w' c2 s2))) := w_special (As := [v0]) d_13_74 (by decide +kernel : cT (mO 13) 27 = some (1, 58)) (by decide +kernel) rfl rfl
theorem d_13_77 : decode (mB 13) 77 = .ok (.aastore, 1) := by decide +kernel
theorem s_13_77 {d : Nat} {Q : wQ} {L : List (Option Value)} {st : List Value} {w : aw} {cn sn : Nat} {a x : Nat} {i : Int32} : wp d 13 Q 77 L (.ref x :: .int i :: .ref a :: st) w cn sn = (kd w a = 24 ∧ inR i (ln w a) ∧ (∀ q, some x = some q → kd w q = 7) ∧ wp d 13 Q 78 L st (uR w a i.toNatClampNeg (some x)) cn sn) := wp_row d_13_77 _ _ _ _ _
theorem s_13_77n {d : Nat} {Q : wQ} {L : List (Option Value)} {st : List Value} {w : aw} {cn sn : Nat} {a : Nat} {i : Int32} : wp d 13 Q 77 L (.null :: .int i :: .ref a :: st) w cn sn = (kd w a = 24 ∧ inR i (ln w a) ∧ (∀ q, none = some q → kd w q = 7) ∧ wp d 13 Q 78 L st (uR w a i.toNatClampNeg none) cn sn) := wp_row d_13_77 _ _ _ _ _
theorem d_13_78 : decode (mB 13) 78 = .ok (.iinc 5 1, 3) := by decide +kernel
theorem s_13_78 {d : Nat} {Q : wQ} {L : List (Option Value)} {st : List Value} {w : aw} {cn sn : Nat} {a0 a1 a2 a3 a4 : Option Value} {v : Int32} : wp d 13 Q 78 (a0 :: a1 :: a2 :: a3 :: a4 :: some (.int v) :: L) st w cn sn = wp d 13 Q 81 (a0 :: a1 :: a2 :: a3 :: clr a4 :: some (.int (v + 1)) :: L) st w cn sn := w_iinc d_13_78 rfl (by decide) rfl
theorem d_13_81 : decode (mB 13) 81 = .ok (.goto (-29), 3) := by decide +kernel
theorem s_13_81 {d : Nat} {Q : wQ} {L : List (Option Value)} {st : List Value} {w : aw} {cn sn : Nat}  : wp d 13 Q 81 L st w cn sn = wp d 13 Q 52 L st w cn sn := w_goto d_13_81 (by decide)
theorem d_13_84 : decode (mB 13) 84 = .ok (.aload_n 0, 1) := by decide +kernel
theorem s_13_84 {d : Nat} {Q : wQ} {L : List (Option Value)} {st : List Value} {w : aw} {cn sn : Nat} {v : Nat} : wp d 13 Q 84 (some (.ref v) :: L) st w cn sn = wp d 13 Q 85 (some (.ref v) :: L) (.ref v :: st) w cn sn := w_aload_n d_13_84 rfl
theorem d_13_85 : decode (mB 13) 85 = .ok (.iload_n 2, 1) := by decide +kernel
theorem s_13_85 {d : Nat} {Q : wQ} {L : List (Option Value)} {st : List Value} {w : aw} {cn sn : Nat} {a0 a1 : Option Value} {v : Int32} : wp d 13 Q 85 (a0 :: a1 :: some (.int v) :: L) st w cn sn = wp d 13 Q 86 (a0 :: a1 :: some (.int v) :: L) (.int v :: st) w cn sn := w_iload_n d_13_85 rfl
theorem d_13_86 : decode (mB 13) 86 = .ok (.putfield 30, 3) := by decide +kernel
theorem s_13_86 {d : Nat} {Q : wQ} {L : List (Option Value)} {st : List Value} {w : aw} {cn sn : Nat} {x : Int32} {a : Nat} : wp d 13 Q 86 L (.int x :: .ref a :: st) w cn sn = (kd w a = 2 ∧ wp d 13 Q 89 L st (uF w 65 a (.int x)) cn sn) := w_putfield d_13_86 (by decide +kernel : fT (mO 13) 30 = some (1, 1)) (by decide +kernel) ok_int
theorem d_13_89 : decode (mB 13) 89 = .ok (.aload_n 0, 1) := by decide +kernel
theorem s_13_89 {d : Nat} {Q : wQ} {L : List (Option Value)} {st : List Value} {w : aw} {cn sn : Nat} {v : Nat} : wp d 13 Q 89 (some (.ref v) :: L) st w cn sn = wp d 13 Q 90 (some (.ref v) :: L) (.ref v :: st) w cn sn := w_aload_n d_13_89 rfl
theorem d_13_90 : decode (mB 13) 90 = .ok (.iload_n 3, 1) := by decide +kernel
theorem s_13_90 {d : Nat} {Q : wQ} {L : List (Option Value)} {st : List Value} {w : aw} {cn sn : Nat} {a0 a1 a2 : Option Value} {v : Int32} : wp d 13 Q 90 (a0 :: a1 :: a2 :: some (.int v) :: L) st w cn sn = wp d 13 Q 91 (a0 :: a1 :: a2 :: some (.int v) :: L) (.int v :: st) w cn sn := w_iload_n d_13_90 rfl
theorem d_13_91 : decode (mB 13) 91 = .ok (.putfield 33, 3) := by decide +kernel
theorem s_13_91 {d : Nat} {Q : wQ} {L : List (Option Value)} {st : List Value} {w : aw} {cn sn : Nat} {x : Int32} {a : Nat} : wp d 13 Q 91 L (.int x :: .ref a :: st) w cn sn = (kd w a = 2 ∧ wp d 13 Q 94 L st (uF w 66 a (.int x)) cn sn) := w_putfield d_13_91 (by decide +kernel : fT (mO 13) 33 = some (1, 2)) (by decide +kernel) ok_int
theorem d_13_94 : decode (mB 13) 94 = .ok (.aload_n 0, 1) := by decide +kernel
theorem s_13_94 {d : Nat} {Q : wQ} {L : List (Option Value)} {st : List Value} {w : aw} {cn sn : Nat} {v : Nat} : wp d 13 Q 94 (some (.ref v) :: L) st w cn sn = wp d 13 Q 95 (some (.ref v) :: L) (.ref v :: st) w cn sn := w_aload_n d_13_94 rfl
theorem d_13_95 : decode (mB 13) 95 = .ok (.iload 4, 2) := by decide +kernel
theorem s_13_95 {d : Nat} {Q : wQ} {L : List (Option Value)} {st : List Value} {w : aw} {cn sn : Nat} {a0 a1 a2 a3 : Option Value} {v : Int32} : wp d 13 Q 95 (a0 :: a1 :: a2 :: a3 :: some (.int v) :: L) st w cn sn = wp d 13 Q 97 (a0 :: a1 :: a2 :: a3 :: some (.int v) :: L) (.int v :: st) w cn sn := w_iload d_13_95 rfl
theorem d_13_97 : decode (mB 13) 97 = .ok (.putfield 36, 3) := by decide +kernel
theorem s_13_97 {d : Nat} {Q : wQ} {L : List (Option Value)} {st : List Value} {w : aw} {cn sn : Nat} {x : Int32} {a : Nat} : wp d 13 Q 97 L (.int x :: .ref a :: st) w cn sn = (kd w a = 2 ∧ wp d 13 Q 100 L st (uF w 67 a (.int x)) cn sn) := w_putfield d_13_97 (by decide +kernel : fT (mO 13) 36 = some (1, 3)) (by decide +kernel) ok_int
theorem d_13_100 : decode (mB 13) 100 = .ok (.return_, 1) := by decide +kernel
theorem s_13_100 {d : Nat} {Q : wQ} {L : List (Option Value)} {w : aw} {cn sn : Nat}  : wp d 13 Q 100 L [] w cn sn = Q none w := w_return d_13_100 rfl
theorem d_14_0 : decode (mB 14) 0 = .ok (.aload_n 0, 1) := by decide +kernel
theorem s_14_0 {d : Nat} {Q : wQ} {L : List (Option Value)} {st : List Value} {w : aw} {cn sn : Nat} {v : Nat} : wp d 14 Q 0 (some (.ref v) :: L) st w cn sn = wp d 14 Q 1 (some (.ref v) :: L) (.ref v :: st) w cn sn := w_aload_n d_14_0 rfl
theorem d_14_1 : decode (mB 14) 1 = .ok (.getfield 39, 3) := by decide +kernel
theorem s_14_1 {d : Nat} {Q : wQ} {L : List (Option Value)} {st : List Value} {w : aw} {cn sn : Nat} {a : Nat} : wp d 14 Q 1 L (.ref a :: st) w cn sn = (kd w a = 2 ∧ wp d 14 Q 4 L (fd w 69 a :: st) w cn sn) := w_getfield d_14_1 (by decide +kernel : fT (mO 14) 39 = some (1, 5))
theorem d_14_4 : decode (mB 14) 4 = .ok (.aload_n 0, 1) := by decide +kernel
theorem s_14_4 {d : Nat} {Q : wQ} {L : List (Option Value)} {st : List Value} {w : aw} {cn sn : Nat} {v : Nat} : wp d 14 Q 4 (some (.ref v) :: L) st w cn sn = wp d 14 Q 5 (some (.ref v) :: L) (.ref v :: st) w cn sn := w_aload_n d_14_4 rfl
theorem d_14_5 : decode (mB 14) 5 = .ok (.getfield 11, 3) := by decide +kernel
theorem s_14_5 {d : Nat} {Q : wQ} {L : List (Option Value)} {st : List Value} {w : aw} {cn sn : Nat} {a : Nat} : wp d 14 Q 5 L (.ref a :: st) w cn sn = (kd w a = 2 ∧ wp d 14 Q 8 L (fd w 68 a :: st) w cn sn) := w_getfield d_14_5 (by decide +kernel : fT (mO 14) 11 = some (1, 4))
theorem d_14_8 : decode (mB 14) 8 = .ok (.arraylength, 1) := by decide +kernel
theorem s_14_8 {d : Nat} {Q : wQ} {L : List (Option Value)} {st : List Value} {w : aw} {cn sn : Nat} {a : Nat} : wp d 14 Q 8 L (.ref a :: st) w cn sn = ((tyA (kd w a)).isSome = true ∧ wp d 14 Q 9 L (.int (nI (ln w a)) :: st) w cn sn) := wp_row d_14_8 _ _ _ _ _
theorem d_14_9 : decode (mB 14) 9 = .ok (.if_icmp .ge 28, 3) := by decide +kernel
theorem s_14_9 {d : Nat} {Q : wQ} {L : List (Option Value)} {st : List Value} {w : aw} {cn sn : Nat} {a b : Int32} : wp d 14 Q 9 L (.int b :: .int a :: st) w cn sn = ((b ≤ a → wp d 14 Q 37 L st w cn sn) ∧ (¬ b ≤ a → wp d 14 Q 12 L st w cn sn)) := w_icge d_14_9 (by decide)
theorem d_14_12 : decode (mB 14) 12 = .ok (.aload_n 1, 1) := by decide +kernel
theorem s_14_12 {d : Nat} {Q : wQ} {L : List (Option Value)} {st : List Value} {w : aw} {cn sn : Nat} {a0 : Option Value} {v : Nat} : wp d 14 Q 12 (a0 :: some (.ref v) :: L) st w cn sn = wp d 14 Q 13 (a0 :: some (.ref v) :: L) (.ref v :: st) w cn sn := w_aload_n d_14_12 rfl
theorem s_14_12n {d : Nat} {Q : wQ} {L : List (Option Value)} {st : List Value} {w : aw} {cn sn : Nat} {a0 : Option Value} : wp d 14 Q 12 (a0 :: some .null :: L) st w cn sn = wp d 14 Q 13 (a0 :: some .null :: L) (.null :: st) w cn sn := w_aload_nN d_14_12 rfl
theorem d_14_13 : decode (mB 14) 13 = .ok (.iconst 1, 1) := by decide +kernel
theorem s_14_13 {d : Nat} {Q : wQ} {L : List (Option Value)} {st : List Value} {w : aw} {cn sn : Nat}  : wp d 14 Q 13 L st w cn sn = wp d 14 Q 14 L (.int 1 :: st) w cn sn := w_iconst d_14_13 (by decide)
theorem d_14_14 : decode (mB 14) 14 = .ok (.putfield 42, 3) := by decide +kernel
theorem s_14_14 {d : Nat} {Q : wQ} {L : List (Option Value)} {st : List Value} {w : aw} {cn sn : Nat} {x : Int32} {a : Nat} : wp d 14 Q 14 L (.int x :: .ref a :: st) w cn sn = (kd w a = 7 ∧ wp d 14 Q 17 L st (uF w 394 a (.int x)) cn sn) := w_putfield d_14_14 (by decide +kernel : fT (mO 14) 42 = some (6, 10)) (by decide +kernel) ok_int
theorem d_14_17 : decode (mB 14) 17 = .ok (.aload_n 0, 1) := by decide +kernel
theorem s_14_17 {d : Nat} {Q : wQ} {L : List (Option Value)} {st : List Value} {w : aw} {cn sn : Nat} {v : Nat} : wp d 14 Q 17 (some (.ref v) :: L) st w cn sn = wp d 14 Q 18 (some (.ref v) :: L) (.ref v :: st) w cn sn := w_aload_n d_14_17 rfl
theorem d_14_18 : decode (mB 14) 18 = .ok (.getfield 11, 3) := by decide +kernel
theorem s_14_18 {d : Nat} {Q : wQ} {L : List (Option Value)} {st : List Value} {w : aw} {cn sn : Nat} {a : Nat} : wp d 14 Q 18 L (.ref a :: st) w cn sn = (kd w a = 2 ∧ wp d 14 Q 21 L (fd w 68 a :: st) w cn sn) := w_getfield d_14_18 (by decide +kernel : fT (mO 14) 11 = some (1, 4))
theorem d_14_21 : decode (mB 14) 21 = .ok (.aload_n 0, 1) := by decide +kernel
theorem s_14_21 {d : Nat} {Q : wQ} {L : List (Option Value)} {st : List Value} {w : aw} {cn sn : Nat} {v : Nat} : wp d 14 Q 21 (some (.ref v) :: L) st w cn sn = wp d 14 Q 22 (some (.ref v) :: L) (.ref v :: st) w cn sn := w_aload_n d_14_21 rfl
theorem d_14_22 : decode (mB 14) 22 = .ok (.getfield 39, 3) := by decide +kernel
theorem s_14_22 {d : Nat} {Q : wQ} {L : List (Option Value)} {st : List Value} {w : aw} {cn sn : Nat} {a : Nat} : wp d 14 Q 22 L (.ref a :: st) w cn sn = (kd w a = 2 ∧ wp d 14 Q 25 L (fd w 69 a :: st) w cn sn) := w_getfield d_14_22 (by decide +kernel : fT (mO 14) 39 = some (1, 5))
theorem d_14_25 : decode (mB 14) 25 = .ok (.aload_n 1, 1) := by decide +kernel
theorem s_14_25 {d : Nat} {Q : wQ} {L : List (Option Value)} {st : List Value} {w : aw} {cn sn : Nat} {a0 : Option Value} {v : Nat} : wp d 14 Q 25 (a0 :: some (.ref v) :: L) st w cn sn = wp d 14 Q 26 (a0 :: some (.ref v) :: L) (.ref v :: st) w cn sn := w_aload_n d_14_25 rfl
theorem s_14_25n {d : Nat} {Q : wQ} {L : List (Option Value)} {st : List Value} {w : aw} {cn sn : Nat} {a0 : Option Value} : wp d 14 Q 25 (a0 :: some .null :: L) st w cn sn = wp d 14 Q 26 (a0 :: some .null :: L) (.null :: st) w cn sn := w_aload_nN d_14_25 rfl
theorem d_14_26 : decode (mB 14) 26 = .ok (.aastore, 1) := by decide +kernel
theorem s_14_26 {d : Nat} {Q : wQ} {L : List (Option Value)} {st : List Value} {w : aw} {cn sn : Nat} {a x : Nat} {i : Int32} : wp d 14 Q 26 L (.ref x :: .int i :: .ref a :: st) w cn sn = (kd w a = 24 ∧ inR i (ln w a) ∧ (∀ q, some x = some q → kd w q = 7) ∧ wp d 14 Q 27 L st (uR w a i.toNatClampNeg (some x)) cn sn) := wp_row d_14_26 _ _ _ _ _
theorem s_14_26n {d : Nat} {Q : wQ} {L : List (Option Value)} {st : List Value} {w : aw} {cn sn : Nat} {a : Nat} {i : Int32} : wp d 14 Q 26 L (.null :: .int i :: .ref a :: st) w cn sn = (kd w a = 24 ∧ inR i (ln w a) ∧ (∀ q, none = some q → kd w q = 7) ∧ wp d 14 Q 27 L st (uR w a i.toNatClampNeg none) cn sn) := wp_row d_14_26 _ _ _ _ _
theorem d_14_27 : decode (mB 14) 27 = .ok (.aload_n 0, 1) := by decide +kernel
theorem s_14_27 {d : Nat} {Q : wQ} {L : List (Option Value)} {st : List Value} {w : aw} {cn sn : Nat} {v : Nat} : wp d 14 Q 27 (some (.ref v) :: L) st w cn sn = wp d 14 Q 28 (some (.ref v) :: L) (.ref v :: st) w cn sn := w_aload_n d_14_27 rfl
theorem d_14_28 : decode (mB 14) 28 = .ok (.dup, 1) := by decide +kernel
theorem s_14_28 {d : Nat} {Q : wQ} {L : List (Option Value)} {st : List Value} {w : aw} {cn sn : Nat} {v : Value} : wp d 14 Q 28 L (v :: st) w cn sn = (v.category = 1 ∧ wp d 14 Q 29 L (v :: v :: st) w cn sn) := wp_row d_14_28 _ _ _ _ _
theorem d_14_29 : decode (mB 14) 29 = .ok (.getfield 39, 3) := by decide +kernel
theorem s_14_29 {d : Nat} {Q : wQ} {L : List (Option Value)} {st : List Value} {w : aw} {cn sn : Nat} {a : Nat} : wp d 14 Q 29 L (.ref a :: st) w cn sn = (kd w a = 2 ∧ wp d 14 Q 32 L (fd w 69 a :: st) w cn sn) := w_getfield d_14_29 (by decide +kernel : fT (mO 14) 39 = some (1, 5))
theorem d_14_32 : decode (mB 14) 32 = .ok (.iconst 1, 1) := by decide +kernel
theorem s_14_32 {d : Nat} {Q : wQ} {L : List (Option Value)} {st : List Value} {w : aw} {cn sn : Nat}  : wp d 14 Q 32 L st w cn sn = wp d 14 Q 33 L (.int 1 :: st) w cn sn := w_iconst d_14_32 (by decide)
theorem d_14_33 : decode (mB 14) 33 = .ok (.iadd, 1) := by decide +kernel
theorem s_14_33 {d : Nat} {Q : wQ} {L : List (Option Value)} {st : List Value} {w : aw} {cn sn : Nat} {a b : Int32} : wp d 14 Q 33 L (.int b :: .int a :: st) w cn sn = wp d 14 Q 34 L (.int (a + b) :: st) w cn sn := wp_row d_14_33 _ _ _ _ _
theorem d_14_34 : decode (mB 14) 34 = .ok (.putfield 39, 3) := by decide +kernel
theorem s_14_34 {d : Nat} {Q : wQ} {L : List (Option Value)} {st : List Value} {w : aw} {cn sn : Nat} {x : Int32} {a : Nat} : wp d 14 Q 34 L (.int x :: .ref a :: st) w cn sn = (kd w a = 2 ∧ wp d 14 Q 37 L st (uF w 69 a (.int x)) cn sn) := w_putfield d_14_34 (by decide +kernel : fT (mO 14) 39 = some (1, 5)) (by decide +kernel) ok_int
theorem d_14_37 : decode (mB 14) 37 = .ok (.return_, 1) := by decide +kernel
theorem s_14_37 {d : Nat} {Q : wQ} {L : List (Option Value)} {w : aw} {cn sn : Nat}  : wp d 14 Q 37 L [] w cn sn = Q none w := w_return d_14_37 rfl
theorem d_15_0 : decode (mB 15) 0 = .ok (.aload_n 0, 1) := by decide +kernel
theorem s_15_0 {d : Nat} {Q : wQ} {L : List (Option Value)} {st : List Value} {w : aw} {cn sn : Nat} {v : Nat} : wp d 15 Q 0 (some (.ref v) :: L) st w cn sn = wp d 15 Q 1 (some (.ref v) :: L) (.ref v :: st) w cn sn := w_aload_n d_15_0 rfl
theorem d_15_1 : decode (mB 15) 1 = .ok (.getfield 11, 3) := by decide +kernel
theorem s_15_1 {d : Nat} {Q : wQ} {L : List (Option Value)} {st : List Value} {w : aw} {cn sn : Nat} {a : Nat} : wp d 15 Q 1 L (.ref a :: st) w cn sn = (kd w a = 2 ∧ wp d 15 Q 4 L (fd w 68 a :: st) w cn sn) := w_getfield d_15_1 (by decide +kernel : fT (mO 15) 11 = some (1, 4))
theorem d_15_4 : decode (mB 15) 4 = .ok (.iconst 0, 1) := by decide +kernel
theorem s_15_4 {d : Nat} {Q : wQ} {L : List (Option Value)} {st : List Value} {w : aw} {cn sn : Nat}  : wp d 15 Q 4 L st w cn sn = wp d 15 Q 5 L (.int 0 :: st) w cn sn := w_iconst d_15_4 (by decide)
theorem d_15_5 : decode (mB 15) 5 = .ok (.aaload, 1) := by decide +kernel
theorem s_15_5 {d : Nat} {Q : wQ} {L : List (Option Value)} {st : List Value} {w : aw} {cn sn : Nat} {a : Nat} {i : Int32} : wp d 15 Q 5 L (.int i :: .ref a :: st) w cn sn = (kd w a = 24 ∧ inR i (ln w a) ∧ wp d 15 Q 6 L (va_rf (ar w a i.toNatClampNeg) :: st) w cn sn) := wp_row d_15_5 _ _ _ _ _
theorem d_15_6 : decode (mB 15) 6 = .ok (.astore_n 1, 1) := by decide +kernel
theorem s_15_6 {d : Nat} {Q : wQ} {L : List (Option Value)} {st : List Value} {w : aw} {cn sn : Nat} {a0 a1 : Option Value} {v : Nat} : wp d 15 Q 6 (a0 :: a1 :: L) (.ref v :: st) w cn sn = wp d 15 Q 7 (clr a0 :: some (.ref v) :: L) st w cn sn := w_astore_n d_15_6 (Nat.le_add_left 2 _) rfl
theorem s_15_6n {d : Nat} {Q : wQ} {L : List (Option Value)} {st : List Value} {w : aw} {cn sn : Nat} {a0 a1 : Option Value} : wp d 15 Q 6 (a0 :: a1 :: L) (.null :: st) w cn sn = wp d 15 Q 7 (clr a0 :: some .null :: L) st w cn sn := w_astore_nN d_15_6 (Nat.le_add_left 2 _) rfl
theorem d_15_7 : decode (mB 15) 7 = .ok (.aload_n 0, 1) := by decide +kernel
theorem s_15_7 {d : Nat} {Q : wQ} {L : List (Option Value)} {st : List Value} {w : aw} {cn sn : Nat} {v : Nat} : wp d 15 Q 7 (some (.ref v) :: L) st w cn sn = wp d 15 Q 8 (some (.ref v) :: L) (.ref v :: st) w cn sn := w_aload_n d_15_7 rfl
theorem d_15_8 : decode (mB 15) 8 = .ok (.getfield 45, 3) := by decide +kernel
theorem s_15_8 {d : Nat} {Q : wQ} {L : List (Option Value)} {st : List Value} {w : aw} {cn sn : Nat} {a : Nat} : wp d 15 Q 8 L (.ref a :: st) w cn sn = (kd w a = 2 ∧ wp d 15 Q 11 L (fd w 72 a :: st) w cn sn) := w_getfield d_15_8 (by decide +kernel : fT (mO 15) 45 = some (1, 8))
theorem d_15_11 : decode (mB 15) 11 = .ok (.ifnonnull 14, 3) := by decide +kernel
theorem s_15_11 {d : Nat} {Q : wQ} {L : List (Option Value)} {st : List Value} {w : aw} {cn sn : Nat} {q : Nat} : wp d 15 Q 11 L (.ref q :: st) w cn sn = wp d 15 Q 25 L st w cn sn := w_ifnn d_15_11 (t := 25) (by decide)
theorem s_15_11n {d : Nat} {Q : wQ} {L : List (Option Value)} {st : List Value} {w : aw} {cn sn : Nat}  : wp d 15 Q 11 L (.null :: st) w cn sn = wp d 15 Q 14 L st w cn sn := w_ifnnN d_15_11 (t := 25) (by decide)
theorem d_15_14 : decode (mB 15) 14 = .ok (.aload_n 0, 1) := by decide +kernel
theorem s_15_14 {d : Nat} {Q : wQ} {L : List (Option Value)} {st : List Value} {w : aw} {cn sn : Nat} {v : Nat} : wp d 15 Q 14 (some (.ref v) :: L) st w cn sn = wp d 15 Q 15 (some (.ref v) :: L) (.ref v :: st) w cn sn := w_aload_n d_15_14 rfl
theorem d_15_15 : decode (mB 15) 15 = .ok (.getfield 39, 3) := by decide +kernel
theorem s_15_15 {d : Nat} {Q : wQ} {L : List (Option Value)} {st : List Value} {w : aw} {cn sn : Nat} {a : Nat} : wp d 15 Q 15 L (.ref a :: st) w cn sn = (kd w a = 2 ∧ wp d 15 Q 18 L (fd w 69 a :: st) w cn sn) := w_getfield d_15_15 (by decide +kernel : fT (mO 15) 39 = some (1, 5))
theorem d_15_18 : decode (mB 15) 18 = .ok (.ifCond .le 7, 3) := by decide +kernel
theorem s_15_18 {d : Nat} {Q : wQ} {L : List (Option Value)} {st : List Value} {w : aw} {cn sn : Nat} {x : Int32} : wp d 15 Q 18 L (.int x :: st) w cn sn = ((x ≤ 0 → wp d 15 Q 25 L st w cn sn) ∧ (¬ x ≤ 0 → wp d 15 Q 21 L st w cn sn)) := w_ifle d_15_18 (by decide)
theorem d_15_21 : decode (mB 15) 21 = .ok (.aload_n 1, 1) := by decide +kernel
theorem s_15_21 {d : Nat} {Q : wQ} {L : List (Option Value)} {st : List Value} {w : aw} {cn sn : Nat} {a0 : Option Value} {v : Nat} : wp d 15 Q 21 (a0 :: some (.ref v) :: L) st w cn sn = wp d 15 Q 22 (a0 :: some (.ref v) :: L) (.ref v :: st) w cn sn := w_aload_n d_15_21 rfl
theorem s_15_21n {d : Nat} {Q : wQ} {L : List (Option Value)} {st : List Value} {w : aw} {cn sn : Nat} {a0 : Option Value} : wp d 15 Q 21 (a0 :: some .null :: L) st w cn sn = wp d 15 Q 22 (a0 :: some .null :: L) (.null :: st) w cn sn := w_aload_nN d_15_21 rfl
theorem d_15_22 : decode (mB 15) 22 = .ok (.ifnonnull 4, 3) := by decide +kernel
theorem s_15_22 {d : Nat} {Q : wQ} {L : List (Option Value)} {st : List Value} {w : aw} {cn sn : Nat} {q : Nat} : wp d 15 Q 22 L (.ref q :: st) w cn sn = wp d 15 Q 26 L st w cn sn := w_ifnn d_15_22 (t := 26) (by decide)
theorem s_15_22n {d : Nat} {Q : wQ} {L : List (Option Value)} {st : List Value} {w : aw} {cn sn : Nat}  : wp d 15 Q 22 L (.null :: st) w cn sn = wp d 15 Q 25 L st w cn sn := w_ifnnN d_15_22 (t := 26) (by decide)
theorem d_15_25 : decode (mB 15) 25 = .ok (.return_, 1) := by decide +kernel
theorem s_15_25 {d : Nat} {Q : wQ} {L : List (Option Value)} {w : aw} {cn sn : Nat}  : wp d 15 Q 25 L [] w cn sn = Q none w := w_return d_15_25 rfl
theorem d_15_26 : decode (mB 15) 26 = .ok (.aload_n 0, 1) := by decide +kernel
theorem s_15_26 {d : Nat} {Q : wQ} {L : List (Option Value)} {st : List Value} {w : aw} {cn sn : Nat} {v : Nat} : wp d 15 Q 26 (some (.ref v) :: L) st w cn sn = wp d 15 Q 27 (some (.ref v) :: L) (.ref v :: st) w cn sn := w_aload_n d_15_26 rfl
theorem d_15_27 : decode (mB 15) 27 = .ok (.dup, 1) := by decide +kernel
theorem s_15_27 {d : Nat} {Q : wQ} {L : List (Option Value)} {st : List Value} {w : aw} {cn sn : Nat} {v : Value} : wp d 15 Q 27 L (v :: st) w cn sn = (v.category = 1 ∧ wp d 15 Q 28 L (v :: v :: st) w cn sn) := wp_row d_15_27 _ _ _ _ _
theorem d_15_28 : decode (mB 15) 28 = .ok (.getfield 39, 3) := by decide +kernel
theorem s_15_28 {d : Nat} {Q : wQ} {L : List (Option Value)} {st : List Value} {w : aw} {cn sn : Nat} {a : Nat} : wp d 15 Q 28 L (.ref a :: st) w cn sn = (kd w a = 2 ∧ wp d 15 Q 31 L (fd w 69 a :: st) w cn sn) := w_getfield d_15_28 (by decide +kernel : fT (mO 15) 39 = some (1, 5))
theorem d_15_31 : decode (mB 15) 31 = .ok (.iconst 1, 1) := by decide +kernel
theorem s_15_31 {d : Nat} {Q : wQ} {L : List (Option Value)} {st : List Value} {w : aw} {cn sn : Nat}  : wp d 15 Q 31 L st w cn sn = wp d 15 Q 32 L (.int 1 :: st) w cn sn := w_iconst d_15_31 (by decide)
theorem d_15_32 : decode (mB 15) 32 = .ok (.isub, 1) := by decide +kernel
theorem s_15_32 {d : Nat} {Q : wQ} {L : List (Option Value)} {st : List Value} {w : aw} {cn sn : Nat} {a b : Int32} : wp d 15 Q 32 L (.int b :: .int a :: st) w cn sn = wp d 15 Q 33 L (.int (a - b) :: st) w cn sn := wp_row d_15_32 _ _ _ _ _
theorem d_15_33 : decode (mB 15) 33 = .ok (.putfield 39, 3) := by decide +kernel
theorem s_15_33 {d : Nat} {Q : wQ} {L : List (Option Value)} {st : List Value} {w : aw} {cn sn : Nat} {x : Int32} {a : Nat} : wp d 15 Q 33 L (.int x :: .ref a :: st) w cn sn = (kd w a = 2 ∧ wp d 15 Q 36 L st (uF w 69 a (.int x)) cn sn) := w_putfield d_15_33 (by decide +kernel : fT (mO 15) 39 = some (1, 5)) (by decide +kernel) ok_int
theorem d_15_36 : decode (mB 15) 36 = .ok (.iconst 1, 1) := by decide +kernel
theorem s_15_36 {d : Nat} {Q : wQ} {L : List (Option Value)} {st : List Value} {w : aw} {cn sn : Nat}  : wp d 15 Q 36 L st w cn sn = wp d 15 Q 37 L (.int 1 :: st) w cn sn := w_iconst d_15_36 (by decide)
theorem d_15_37 : decode (mB 15) 37 = .ok (.istore_n 2, 1) := by decide +kernel
theorem s_15_37 {d : Nat} {Q : wQ} {L : List (Option Value)} {st : List Value} {w : aw} {cn sn : Nat} {a0 a1 a2 : Option Value} {v : Int32} : wp d 15 Q 37 (a0 :: a1 :: a2 :: L) (.int v :: st) w cn sn = wp d 15 Q 38 (a0 :: clr a1 :: some (.int v) :: L) st w cn sn := w_istore_n d_15_37 (Nat.le_add_left 3 _) rfl
theorem d_15_38 : decode (mB 15) 38 = .ok (.iload_n 2, 1) := by decide +kernel
theorem s_15_38 {d : Nat} {Q : wQ} {L : List (Option Value)} {st : List Value} {w : aw} {cn sn : Nat} {a0 a1 : Option Value} {v : Int32} : wp d 15 Q 38 (a0 :: a1 :: some (.int v) :: L) st w cn sn = wp d 15 Q 39 (a0 :: a1 :: some (.int v) :: L) (.int v :: st) w cn sn := w_iload_n d_15_38 rfl
theorem d_15_39 : decode (mB 15) 39 = .ok (.aload_n 0, 1) := by decide +kernel
theorem s_15_39 {d : Nat} {Q : wQ} {L : List (Option Value)} {st : List Value} {w : aw} {cn sn : Nat} {v : Nat} : wp d 15 Q 39 (some (.ref v) :: L) st w cn sn = wp d 15 Q 40 (some (.ref v) :: L) (.ref v :: st) w cn sn := w_aload_n d_15_39 rfl
theorem d_15_40 : decode (mB 15) 40 = .ok (.getfield 11, 3) := by decide +kernel
theorem s_15_40 {d : Nat} {Q : wQ} {L : List (Option Value)} {st : List Value} {w : aw} {cn sn : Nat} {a : Nat} : wp d 15 Q 40 L (.ref a :: st) w cn sn = (kd w a = 2 ∧ wp d 15 Q 43 L (fd w 68 a :: st) w cn sn) := w_getfield d_15_40 (by decide +kernel : fT (mO 15) 11 = some (1, 4))
theorem d_15_43 : decode (mB 15) 43 = .ok (.arraylength, 1) := by decide +kernel
theorem s_15_43 {d : Nat} {Q : wQ} {L : List (Option Value)} {st : List Value} {w : aw} {cn sn : Nat} {a : Nat} : wp d 15 Q 43 L (.ref a :: st) w cn sn = ((tyA (kd w a)).isSome = true ∧ wp d 15 Q 44 L (.int (nI (ln w a)) :: st) w cn sn) := wp_row d_15_43 _ _ _ _ _
theorem d_15_44 : decode (mB 15) 44 = .ok (.if_icmp .ge 23, 3) := by decide +kernel
theorem s_15_44 {d : Nat} {Q : wQ} {L : List (Option Value)} {st : List Value} {w : aw} {cn sn : Nat} {a b : Int32} : wp d 15 Q 44 L (.int b :: .int a :: st) w cn sn = ((b ≤ a → wp d 15 Q 67 L st w cn sn) ∧ (¬ b ≤ a → wp d 15 Q 47 L st w cn sn)) := w_icge d_15_44 (by decide)
theorem d_15_47 : decode (mB 15) 47 = .ok (.aload_n 0, 1) := by decide +kernel
theorem s_15_47 {d : Nat} {Q : wQ} {L : List (Option Value)} {st : List Value} {w : aw} {cn sn : Nat} {v : Nat} : wp d 15 Q 47 (some (.ref v) :: L) st w cn sn = wp d 15 Q 48 (some (.ref v) :: L) (.ref v :: st) w cn sn := w_aload_n d_15_47 rfl
theorem d_15_48 : decode (mB 15) 48 = .ok (.getfield 11, 3) := by decide +kernel
theorem s_15_48 {d : Nat} {Q : wQ} {L : List (Option Value)} {st : List Value} {w : aw} {cn sn : Nat} {a : Nat} : wp d 15 Q 48 L (.ref a :: st) w cn sn = (kd w a = 2 ∧ wp d 15 Q 51 L (fd w 68 a :: st) w cn sn) := w_getfield d_15_48 (by decide +kernel : fT (mO 15) 11 = some (1, 4))
theorem d_15_51 : decode (mB 15) 51 = .ok (.iload_n 2, 1) := by decide +kernel
theorem s_15_51 {d : Nat} {Q : wQ} {L : List (Option Value)} {st : List Value} {w : aw} {cn sn : Nat} {a0 a1 : Option Value} {v : Int32} : wp d 15 Q 51 (a0 :: a1 :: some (.int v) :: L) st w cn sn = wp d 15 Q 52 (a0 :: a1 :: some (.int v) :: L) (.int v :: st) w cn sn := w_iload_n d_15_51 rfl
theorem d_15_52 : decode (mB 15) 52 = .ok (.iconst 1, 1) := by decide +kernel
theorem s_15_52 {d : Nat} {Q : wQ} {L : List (Option Value)} {st : List Value} {w : aw} {cn sn : Nat}  : wp d 15 Q 52 L st w cn sn = wp d 15 Q 53 L (.int 1 :: st) w cn sn := w_iconst d_15_52 (by decide)
theorem d_15_53 : decode (mB 15) 53 = .ok (.isub, 1) := by decide +kernel
theorem s_15_53 {d : Nat} {Q : wQ} {L : List (Option Value)} {st : List Value} {w : aw} {cn sn : Nat} {a b : Int32} : wp d 15 Q 53 L (.int b :: .int a :: st) w cn sn = wp d 15 Q 54 L (.int (a - b) :: st) w cn sn := wp_row d_15_53 _ _ _ _ _
theorem d_15_54 : decode (mB 15) 54 = .ok (.aload_n 0, 1) := by decide +kernel
theorem s_15_54 {d : Nat} {Q : wQ} {L : List (Option Value)} {st : List Value} {w : aw} {cn sn : Nat} {v : Nat} : wp d 15 Q 54 (some (.ref v) :: L) st w cn sn = wp d 15 Q 55 (some (.ref v) :: L) (.ref v :: st) w cn sn := w_aload_n d_15_54 rfl
theorem d_15_55 : decode (mB 15) 55 = .ok (.getfield 11, 3) := by decide +kernel
theorem s_15_55 {d : Nat} {Q : wQ} {L : List (Option Value)} {st : List Value} {w : aw} {cn sn : Nat} {a : Nat} : wp d 15 Q 55 L (.ref a :: st) w cn sn = (kd w a = 2 ∧ wp d 15 Q 58 L (fd w 68 a :: st) w cn sn) := w_getfield d_15_55 (by decide +kernel : fT (mO 15) 11 = some (1, 4))
theorem d_15_58 : decode (mB 15) 58 = .ok (.iload_n 2, 1) := by decide +kernel
theorem s_15_58 {d : Nat} {Q : wQ} {L : List (Option Value)} {st : List Value} {w : aw} {cn sn : Nat} {a0 a1 : Option Value} {v : Int32} : wp d 15 Q 58 (a0 :: a1 :: some (.int v) :: L) st w cn sn = wp d 15 Q 59 (a0 :: a1 :: some (.int v) :: L) (.int v :: st) w cn sn := w_iload_n d_15_58 rfl
theorem d_15_59 : decode (mB 15) 59 = .ok (.aaload, 1) := by decide +kernel
theorem s_15_59 {d : Nat} {Q : wQ} {L : List (Option Value)} {st : List Value} {w : aw} {cn sn : Nat} {a : Nat} {i : Int32} : wp d 15 Q 59 L (.int i :: .ref a :: st) w cn sn = (kd w a = 24 ∧ inR i (ln w a) ∧ wp d 15 Q 60 L (va_rf (ar w a i.toNatClampNeg) :: st) w cn sn) := wp_row d_15_59 _ _ _ _ _
theorem d_15_60 : decode (mB 15) 60 = .ok (.aastore, 1) := by decide +kernel
theorem s_15_60 {d : Nat} {Q : wQ} {L : List (Option Value)} {st : List Value} {w : aw} {cn sn : Nat} {a x : Nat} {i : Int32} : wp d 15 Q 60 L (.ref x :: .int i :: .ref a :: st) w cn sn = (kd w a = 24 ∧ inR i (ln w a) ∧ (∀ q, some x = some q → kd w q = 7) ∧ wp d 15 Q 61 L st (uR w a i.toNatClampNeg (some x)) cn sn) := wp_row d_15_60 _ _ _ _ _
theorem s_15_60n {d : Nat} {Q : wQ} {L : List (Option Value)} {st : List Value} {w : aw} {cn sn : Nat} {a : Nat} {i : Int32} : wp d 15 Q 60 L (.null :: .int i :: .ref a :: st) w cn sn = (kd w a = 24 ∧ inR i (ln w a) ∧ (∀ q, none = some q → kd w q = 7) ∧ wp d 15 Q 61 L st (uR w a i.toNatClampNeg none) cn sn) := wp_row d_15_60 _ _ _ _ _
theorem d_15_61 : decode (mB 15) 61 = .ok (.iinc 2 1, 3) := by decide +kernel
theorem s_15_61 {d : Nat} {Q : wQ} {L : List (Option Value)} {st : List Value} {w : aw} {cn sn : Nat} {a0 a1 : Option Value} {v : Int32} : wp d 15 Q 61 (a0 :: a1 :: some (.int v) :: L) st w cn sn = wp d 15 Q 64 (a0 :: clr a1 :: some (.int (v + 1)) :: L) st w cn sn := w_iinc d_15_61 rfl (by decide) rfl
theorem d_15_64 : decode (mB 15) 64 = .ok (.goto (-26), 3) := by decide +kernel
theorem s_15_64 {d : Nat} {Q : wQ} {L : List (Option Value)} {st : List Value} {w : aw} {cn sn : Nat}  : wp d 15 Q 64 L st w cn sn = wp d 15 Q 38 L st w cn sn := w_goto d_15_64 (by decide)
theorem d_15_67 : decode (mB 15) 67 = .ok (.aload_n 1, 1) := by decide +kernel
theorem s_15_67 {d : Nat} {Q : wQ} {L : List (Option Value)} {st : List Value} {w : aw} {cn sn : Nat} {a0 : Option Value} {v : Nat} : wp d 15 Q 67 (a0 :: some (.ref v) :: L) st w cn sn = wp d 15 Q 68 (a0 :: some (.ref v) :: L) (.ref v :: st) w cn sn := w_aload_n d_15_67 rfl
theorem s_15_67n {d : Nat} {Q : wQ} {L : List (Option Value)} {st : List Value} {w : aw} {cn sn : Nat} {a0 : Option Value} : wp d 15 Q 67 (a0 :: some .null :: L) st w cn sn = wp d 15 Q 68 (a0 :: some .null :: L) (.null :: st) w cn sn := w_aload_nN d_15_67 rfl
theorem d_15_68 : decode (mB 15) 68 = .ok (.iconst 2, 1) := by decide +kernel
theorem s_15_68 {d : Nat} {Q : wQ} {L : List (Option Value)} {st : List Value} {w : aw} {cn sn : Nat}  : wp d 15 Q 68 L st w cn sn = wp d 15 Q 69 L (.int 2 :: st) w cn sn := w_iconst d_15_68 (by decide)
theorem d_15_69 : decode (mB 15) 69 = .ok (.putfield 42, 3) := by decide +kernel
theorem s_15_69 {d : Nat} {Q : wQ} {L : List (Option Value)} {st : List Value} {w : aw} {cn sn : Nat} {x : Int32} {a : Nat} : wp d 15 Q 69 L (.int x :: .ref a :: st) w cn sn = (kd w a = 7 ∧ wp d 15 Q 72 L st (uF w 394 a (.int x)) cn sn) := w_putfield d_15_69 (by decide +kernel : fT (mO 15) 42 = some (6, 10)) (by decide +kernel) ok_int
theorem d_15_72 : decode (mB 15) 72 = .ok (.aload_n 1, 1) := by decide +kernel
theorem s_15_72 {d : Nat} {Q : wQ} {L : List (Option Value)} {st : List Value} {w : aw} {cn sn : Nat} {a0 : Option Value} {v : Nat} : wp d 15 Q 72 (a0 :: some (.ref v) :: L) st w cn sn = wp d 15 Q 73 (a0 :: some (.ref v) :: L) (.ref v :: st) w cn sn := w_aload_n d_15_72 rfl
theorem s_15_72n {d : Nat} {Q : wQ} {L : List (Option Value)} {st : List Value} {w : aw} {cn sn : Nat} {a0 : Option Value} : wp d 15 Q 72 (a0 :: some .null :: L) st w cn sn = wp d 15 Q 73 (a0 :: some .null :: L) (.null :: st) w cn sn := w_aload_nN d_15_72 rfl
theorem d_15_73 : decode (mB 15) 73 = .ok (.aload_n 0, 1) := by decide +kernel
theorem s_15_73 {d : Nat} {Q : wQ} {L : List (Option Value)} {st : List Value} {w : aw} {cn sn : Nat} {v : Nat} : wp d 15 Q 73 (some (.ref v) :: L) st w cn sn = wp d 15 Q 74 (some (.ref v) :: L) (.ref v :: st) w cn sn := w_aload_n d_15_73 rfl
theorem d_15_74 : decode (mB 15) 74 = .ok (.getfield 33, 3) := by decide +kernel
theorem s_15_74 {d : Nat} {Q : wQ} {L : List (Option Value)} {st : List Value} {w : aw} {cn sn : Nat} {a : Nat} : wp d 15 Q 74 L (.ref a :: st) w cn sn = (kd w a = 2 ∧ wp d 15 Q 77 L (fd w 66 a :: st) w cn sn) := w_getfield d_15_74 (by decide +kernel : fT (mO 15) 33 = some (1, 2))
theorem d_15_77 : decode (mB 15) 77 = .ok (.putfield 49, 3) := by decide +kernel
theorem s_15_77 {d : Nat} {Q : wQ} {L : List (Option Value)} {st : List Value} {w : aw} {cn sn : Nat} {x : Int32} {a : Nat} : wp d 15 Q 77 L (.int x :: .ref a :: st) w cn sn = (kd w a = 7 ∧ wp d 15 Q 80 L st (uF w 396 a (.int x)) cn sn) := w_putfield d_15_77 (by decide +kernel : fT (mO 15) 49 = some (6, 12)) (by decide +kernel) ok_int
theorem d_15_80 : decode (mB 15) 80 = .ok (.aload_n 0, 1) := by decide +kernel
theorem s_15_80 {d : Nat} {Q : wQ} {L : List (Option Value)} {st : List Value} {w : aw} {cn sn : Nat} {v : Nat} : wp d 15 Q 80 (some (.ref v) :: L) st w cn sn = wp d 15 Q 81 (some (.ref v) :: L) (.ref v :: st) w cn sn := w_aload_n d_15_80 rfl
theorem d_15_81 : decode (mB 15) 81 = .ok (.aload_n 1, 1) := by decide +kernel
theorem s_15_81 {d : Nat} {Q : wQ} {L : List (Option Value)} {st : List Value} {w : aw} {cn sn : Nat} {a0 : Option Value} {v : Nat} : wp d 15 Q 81 (a0 :: some (.ref v) :: L) st w cn sn = wp d 15 Q 82 (a0 :: some (.ref v) :: L) (.ref v :: st) w cn sn := w_aload_n d_15_81 rfl
theorem s_15_81n {d : Nat} {Q : wQ} {L : List (Option Value)} {st : List Value} {w : aw} {cn sn : Nat} {a0 : Option Value} : wp d 15 Q 81 (a0 :: some .null :: L) st w cn sn = wp d 15 Q 82 (a0 :: some .null :: L) (.null :: st) w cn sn := w_aload_nN d_15_81 rfl
theorem d_15_82 : decode (mB 15) 82 = .ok (.putfield 45, 3) := by decide +kernel
theorem s_15_82 {d : Nat} {Q : wQ} {L : List (Option Value)} {st : List Value} {w : aw} {cn sn : Nat} {x : Nat} {a : Nat} : wp d 15 Q 82 L (.ref x :: .ref a :: st) w cn sn = (kd w a = 2 ∧ wp d 15 Q 85 L st (uF w 72 a (.ref x)) cn sn) := w_putfield d_15_82 (by decide +kernel : fT (mO 15) 45 = some (1, 8)) (by decide +kernel) ok_ref
theorem s_15_82n {d : Nat} {Q : wQ} {L : List (Option Value)} {st : List Value} {w : aw} {cn sn : Nat} {a : Nat} : wp d 15 Q 82 L (.null :: .ref a :: st) w cn sn = (kd w a = 2 ∧ wp d 15 Q 85 L st (uF w 72 a (.null)) cn sn) := w_putfield d_15_82 (by decide +kernel : fT (mO 15) 45 = some (1, 8)) (by decide +kernel) ok_null
theorem d_15_85 : decode (mB 15) 85 = .ok (.aload_n 1, 1) := by decide +kernel
theorem s_15_85 {d : Nat} {Q : wQ} {L : List (Option Value)} {st : List Value} {w : aw} {cn sn : Nat} {a0 : Option Value} {v : Nat} : wp d 15 Q 85 (a0 :: some (.ref v) :: L) st w cn sn = wp d 15 Q 86 (a0 :: some (.ref v) :: L) (.ref v :: st) w cn sn := w_aload_n d_15_85 rfl
theorem s_15_85n {d : Nat} {Q : wQ} {L : List (Option Value)} {st : List Value} {w : aw} {cn sn : Nat} {a0 : Option Value} : wp d 15 Q 85 (a0 :: some .null :: L) st w cn sn = wp d 15 Q 86 (a0 :: some .null :: L) (.null :: st) w cn sn := w_aload_nN d_15_85 rfl
theorem d_15_86 : decode (mB 15) 86 = .ok (.getfield 52, 3) := by decide +kernel
theorem s_15_86 {d : Nat} {Q : wQ} {L : List (Option Value)} {st : List Value} {w : aw} {cn sn : Nat} {a : Nat} : wp d 15 Q 86 L (.ref a :: st) w cn sn = (kd w a = 7 ∧ wp d 15 Q 89 L (fd w 398 a :: st) w cn sn) := w_getfield d_15_86 (by decide +kernel : fT (mO 15) 52 = some (6, 14))
theorem d_15_89 : decode (mB 15) 89 = .ok (.ifCond .ne 8, 3) := by decide +kernel
theorem s_15_89 {d : Nat} {Q : wQ} {L : List (Option Value)} {st : List Value} {w : aw} {cn sn : Nat} {x : Int32} : wp d 15 Q 89 L (.int x :: st) w cn sn = ((¬ x = 0 → wp d 15 Q 97 L st w cn sn) ∧ (x = 0 → wp d 15 Q 92 L st w cn sn)) := w_ifne d_15_89 (by decide)
theorem d_15_92 : decode (mB 15) 92 = .ok (.aload_n 0, 1) := by decide +kernel
theorem s_15_92 {d : Nat} {Q : wQ} {L : List (Option Value)} {st : List Value} {w : aw} {cn sn : Nat} {v : Nat} : wp d 15 Q 92 (some (.ref v) :: L) st w cn sn = wp d 15 Q 93 (some (.ref v) :: L) (.ref v :: st) w cn sn := w_aload_n d_15_92 rfl
theorem d_15_93 : decode (mB 15) 93 = .ok (.aload_n 1, 1) := by decide +kernel
theorem s_15_93 {d : Nat} {Q : wQ} {L : List (Option Value)} {st : List Value} {w : aw} {cn sn : Nat} {a0 : Option Value} {v : Nat} : wp d 15 Q 93 (a0 :: some (.ref v) :: L) st w cn sn = wp d 15 Q 94 (a0 :: some (.ref v) :: L) (.ref v :: st) w cn sn := w_aload_n d_15_93 rfl
theorem s_15_93n {d : Nat} {Q : wQ} {L : List (Option Value)} {st : List Value} {w : aw} {cn sn : Nat} {a0 : Option Value} : wp d 15 Q 93 (a0 :: some .null :: L) st w cn sn = wp d 15 Q 94 (a0 :: some .null :: L) (.null :: st) w cn sn := w_aload_nN d_15_93 rfl
theorem d_15_94 : decode (mB 15) 94 = .ok (.invokevirtual 55, 3) := by decide +kernel
theorem s_15_94 {d : Nat} {Q : wQ} {L : List (Option Value)} {st : List Value} {w : aw} {cn sn : Nat} {v0 : Value} {b : Nat} : wp d 15 Q 94 L (v0 :: .ref b :: st) w cn sn = (kd w b = 2 ∧ catS st ≤ 8 ∧ wpD d 16 [.ref b, v0] w (fun v w' => wp d 15 Q 97 L (v.toList ++ st) w' cn sn)) := w_virtual (As := [v0]) d_15_94 (by decide +kernel : cT (mO 15) 55 = some (0, 16)) rfl (by decide +kernel) rfl (by decide +kernel) rfl
theorem d_15_97 : decode (mB 15) 97 = .ok (.return_, 1) := by decide +kernel
theorem s_15_97 {d : Nat} {Q : wQ} {L : List (Option Value)} {w : aw} {cn sn : Nat}  : wp d 15 Q 97 L [] w cn sn = Q none w := w_return d_15_97 rfl
theorem d_16_0 : decode (mB 16) 0 = .ok (.aload_n 0, 1) := by decide +kernel
theorem s_16_0 {d : Nat} {Q : wQ} {L : List (Option Value)} {st : List Value} {w : aw} {cn sn : Nat} {v : Nat} : wp d 16 Q 0 (some (.ref v) :: L) st w cn sn = wp d 16 Q 1 (some (.ref v) :: L) (.ref v :: st) w cn sn := w_aload_n d_16_0 rfl
theorem d_16_1 : decode (mB 16) 1 = .ok (.getfield 20, 3) := by decide +kernel
theorem s_16_1 {d : Nat} {Q : wQ} {L : List (Option Value)} {st : List Value} {w : aw} {cn sn : Nat} {a : Nat} : wp d 16 Q 1 L (.ref a :: st) w cn sn = (kd w a = 2 ∧ wp d 16 Q 4 L (fd w 71 a :: st) w cn sn) := w_getfield d_16_1 (by decide +kernel : fT (mO 16) 20 = some (1, 7))
theorem d_16_4 : decode (mB 16) 4 = .ok (.aload_n 0, 1) := by decide +kernel
theorem s_16_4 {d : Nat} {Q : wQ} {L : List (Option Value)} {st : List Value} {w : aw} {cn sn : Nat} {v : Nat} : wp d 16 Q 4 (some (.ref v) :: L) st w cn sn = wp d 16 Q 5 (some (.ref v) :: L) (.ref v :: st) w cn sn := w_aload_n d_16_4 rfl
theorem d_16_5 : decode (mB 16) 5 = .ok (.getfield 17, 3) := by decide +kernel
theorem s_16_5 {d : Nat} {Q : wQ} {L : List (Option Value)} {st : List Value} {w : aw} {cn sn : Nat} {a : Nat} : wp d 16 Q 5 L (.ref a :: st) w cn sn = (kd w a = 2 ∧ wp d 16 Q 8 L (fd w 70 a :: st) w cn sn) := w_getfield d_16_5 (by decide +kernel : fT (mO 16) 17 = some (1, 6))
theorem d_16_8 : decode (mB 16) 8 = .ok (.arraylength, 1) := by decide +kernel
theorem s_16_8 {d : Nat} {Q : wQ} {L : List (Option Value)} {st : List Value} {w : aw} {cn sn : Nat} {a : Nat} : wp d 16 Q 8 L (.ref a :: st) w cn sn = ((tyA (kd w a)).isSome = true ∧ wp d 16 Q 9 L (.int (nI (ln w a)) :: st) w cn sn) := wp_row d_16_8 _ _ _ _ _
theorem d_16_9 : decode (mB 16) 9 = .ok (.if_icmp .lt 4, 3) := by decide +kernel
theorem s_16_9 {d : Nat} {Q : wQ} {L : List (Option Value)} {st : List Value} {w : aw} {cn sn : Nat} {a b : Int32} : wp d 16 Q 9 L (.int b :: .int a :: st) w cn sn = ((a < b → wp d 16 Q 13 L st w cn sn) ∧ (¬ a < b → wp d 16 Q 12 L st w cn sn)) := w_iclt d_16_9 (by decide)
theorem d_16_12 : decode (mB 16) 12 = .ok (.return_, 1) := by decide +kernel
theorem s_16_12 {d : Nat} {Q : wQ} {L : List (Option Value)} {w : aw} {cn sn : Nat}  : wp d 16 Q 12 L [] w cn sn = Q none w := w_return d_16_12 rfl
theorem d_16_13 : decode (mB 16) 13 = .ok (.aload_n 0, 1) := by decide +kernel
theorem s_16_13 {d : Nat} {Q : wQ} {L : List (Option Value)} {st : List Value} {w : aw} {cn sn : Nat} {v : Nat} : wp d 16 Q 13 (some (.ref v) :: L) st w cn sn = wp d 16 Q 14 (some (.ref v) :: L) (.ref v :: st) w cn sn := w_aload_n d_16_13 rfl
theorem d_16_14 : decode (mB 16) 14 = .ok (.getfield 17, 3) := by decide +kernel
theorem s_16_14 {d : Nat} {Q : wQ} {L : List (Option Value)} {st : List Value} {w : aw} {cn sn : Nat} {a : Nat} : wp d 16 Q 14 L (.ref a :: st) w cn sn = (kd w a = 2 ∧ wp d 16 Q 17 L (fd w 70 a :: st) w cn sn) := w_getfield d_16_14 (by decide +kernel : fT (mO 16) 17 = some (1, 6))
theorem d_16_17 : decode (mB 16) 17 = .ok (.aload_n 0, 1) := by decide +kernel
theorem s_16_17 {d : Nat} {Q : wQ} {L : List (Option Value)} {st : List Value} {w : aw} {cn sn : Nat} {v : Nat} : wp d 16 Q 17 (some (.ref v) :: L) st w cn sn = wp d 16 Q 18 (some (.ref v) :: L) (.ref v :: st) w cn sn := w_aload_n d_16_17 rfl
theorem d_16_18 : decode (mB 16) 18 = .ok (.getfield 20, 3) := by decide +kernel
theorem s_16_18 {d : Nat} {Q : wQ} {L : List (Option Value)} {st : List Value} {w : aw} {cn sn : Nat} {a : Nat} : wp d 16 Q 18 L (.ref a :: st) w cn sn = (kd w a = 2 ∧ wp d 16 Q 21 L (fd w 71 a :: st) w cn sn) := w_getfield d_16_18 (by decide +kernel : fT (mO 16) 20 = some (1, 7))
theorem d_16_21 : decode (mB 16) 21 = .ok (.aaload, 1) := by decide +kernel
theorem s_16_21 {d : Nat} {Q : wQ} {L : List (Option Value)} {st : List Value} {w : aw} {cn sn : Nat} {a : Nat} {i : Int32} : wp d 16 Q 21 L (.int i :: .ref a :: st) w cn sn = (kd w a = 24 ∧ inR i (ln w a) ∧ wp d 16 Q 22 L (va_rf (ar w a i.toNatClampNeg) :: st) w cn sn) := wp_row d_16_21 _ _ _ _ _
theorem d_16_22 : decode (mB 16) 22 = .ok (.astore_n 2, 1) := by decide +kernel
theorem s_16_22 {d : Nat} {Q : wQ} {L : List (Option Value)} {st : List Value} {w : aw} {cn sn : Nat} {a0 a1 a2 : Option Value} {v : Nat} : wp d 16 Q 22 (a0 :: a1 :: a2 :: L) (.ref v :: st) w cn sn = wp d 16 Q 23 (a0 :: clr a1 :: some (.ref v) :: L) st w cn sn := w_astore_n d_16_22 (Nat.le_add_left 3 _) rfl
theorem s_16_22n {d : Nat} {Q : wQ} {L : List (Option Value)} {st : List Value} {w : aw} {cn sn : Nat} {a0 a1 a2 : Option Value} : wp d 16 Q 22 (a0 :: a1 :: a2 :: L) (.null :: st) w cn sn = wp d 16 Q 23 (a0 :: clr a1 :: some .null :: L) st w cn sn := w_astore_nN d_16_22 (Nat.le_add_left 3 _) rfl
theorem d_16_23 : decode (mB 16) 23 = .ok (.aload_n 2, 1) := by decide +kernel
theorem s_16_23 {d : Nat} {Q : wQ} {L : List (Option Value)} {st : List Value} {w : aw} {cn sn : Nat} {a0 a1 : Option Value} {v : Nat} : wp d 16 Q 23 (a0 :: a1 :: some (.ref v) :: L) st w cn sn = wp d 16 Q 24 (a0 :: a1 :: some (.ref v) :: L) (.ref v :: st) w cn sn := w_aload_n d_16_23 rfl
theorem s_16_23n {d : Nat} {Q : wQ} {L : List (Option Value)} {st : List Value} {w : aw} {cn sn : Nat} {a0 a1 : Option Value} : wp d 16 Q 23 (a0 :: a1 :: some .null :: L) st w cn sn = wp d 16 Q 24 (a0 :: a1 :: some .null :: L) (.null :: st) w cn sn := w_aload_nN d_16_23 rfl
theorem d_16_24 : decode (mB 16) 24 = .ok (.ifnull 8, 3) := by decide +kernel
theorem s_16_24 {d : Nat} {Q : wQ} {L : List (Option Value)} {st : List Value} {w : aw} {cn sn : Nat} {q : Nat} : wp d 16 Q 24 L (.ref q :: st) w cn sn = wp d 16 Q 27 L st w cn sn := w_ifnull d_16_24 (t := 32) (by decide)
theorem s_16_24n {d : Nat} {Q : wQ} {L : List (Option Value)} {st : List Value} {w : aw} {cn sn : Nat}  : wp d 16 Q 24 L (.null :: st) w cn sn = wp d 16 Q 32 L st w cn sn := w_ifnullN d_16_24 (t := 32) (by decide)
theorem d_16_27 : decode (mB 16) 27 = .ok (.aload_n 2, 1) := by decide +kernel
theorem s_16_27 {d : Nat} {Q : wQ} {L : List (Option Value)} {st : List Value} {w : aw} {cn sn : Nat} {a0 a1 : Option Value} {v : Nat} : wp d 16 Q 27 (a0 :: a1 :: some (.ref v) :: L) st w cn sn = wp d 16 Q 28 (a0 :: a1 :: some (.ref v) :: L) (.ref v :: st) w cn sn := w_aload_n d_16_27 rfl
theorem s_16_27n {d : Nat} {Q : wQ} {L : List (Option Value)} {st : List Value} {w : aw} {cn sn : Nat} {a0 a1 : Option Value} : wp d 16 Q 27 (a0 :: a1 :: some .null :: L) st w cn sn = wp d 16 Q 28 (a0 :: a1 :: some .null :: L) (.null :: st) w cn sn := w_aload_nN d_16_27 rfl
theorem d_16_28 : decode (mB 16) 28 = .ok (.iconst 0, 1) := by decide +kernel
theorem s_16_28 {d : Nat} {Q : wQ} {L : List (Option Value)} {st : List Value} {w : aw} {cn sn : Nat}  : wp d 16 Q 28 L st w cn sn = wp d 16 Q 29 L (.int 0 :: st) w cn sn := w_iconst d_16_28 (by decide)
theorem d_16_29 : decode (mB 16) 29 = .ok (.putfield 52, 3) := by decide +kernel
theorem s_16_29 {d : Nat} {Q : wQ} {L : List (Option Value)} {st : List Value} {w : aw} {cn sn : Nat} {x : Int32} {a : Nat} : wp d 16 Q 29 L (.int x :: .ref a :: st) w cn sn = (kd w a = 7 ∧ wp d 16 Q 32 L st (uF w 398 a (.int x)) cn sn) := w_putfield d_16_29 (by decide +kernel : fT (mO 16) 52 = some (6, 14)) (by decide +kernel) ok_int
theorem d_16_32 : decode (mB 16) 32 = .ok (.aload_n 0, 1) := by decide +kernel
theorem s_16_32 {d : Nat} {Q : wQ} {L : List (Option Value)} {st : List Value} {w : aw} {cn sn : Nat} {v : Nat} : wp d 16 Q 32 (some (.ref v) :: L) st w cn sn = wp d 16 Q 33 (some (.ref v) :: L) (.ref v :: st) w cn sn := w_aload_n d_16_32 rfl
theorem d_16_33 : decode (mB 16) 33 = .ok (.getfield 17, 3) := by decide +kernel
theorem s_16_33 {d : Nat} {Q : wQ} {L : List (Option Value)} {st : List Value} {w : aw} {cn sn : Nat} {a : Nat} : wp d 16 Q 33 L (.ref a :: st) w cn sn = (kd w a = 2 ∧ wp d 16 Q 36 L (fd w 70 a :: st) w cn sn) := w_getfield d_16_33 (by decide +kernel : fT (mO 16) 17 = some (1, 6))
theorem d_16_36 : decode (mB 16) 36 = .ok (.aload_n 0, 1) := by decide +kernel
theorem s_16_36 {d : Nat} {Q : wQ} {L : List (Option Value)} {st : List Value} {w : aw} {cn sn : Nat} {v : Nat} : wp d 16 Q 36 (some (.ref v) :: L) st w cn sn = wp d 16 Q 37 (some (.ref v) :: L) (.ref v :: st) w cn sn := w_aload_n d_16_36 rfl
theorem d_16_37 : decode (mB 16) 37 = .ok (.getfield 20, 3) := by decide +kernel
theorem s_16_37 {d : Nat} {Q : wQ} {L : List (Option Value)} {st : List Value} {w : aw} {cn sn : Nat} {a : Nat} : wp d 16 Q 37 L (.ref a :: st) w cn sn = (kd w a = 2 ∧ wp d 16 Q 40 L (fd w 71 a :: st) w cn sn) := w_getfield d_16_37 (by decide +kernel : fT (mO 16) 20 = some (1, 7))
theorem d_16_40 : decode (mB 16) 40 = .ok (.aload_n 1, 1) := by decide +kernel
theorem s_16_40 {d : Nat} {Q : wQ} {L : List (Option Value)} {st : List Value} {w : aw} {cn sn : Nat} {a0 : Option Value} {v : Nat} : wp d 16 Q 40 (a0 :: some (.ref v) :: L) st w cn sn = wp d 16 Q 41 (a0 :: some (.ref v) :: L) (.ref v :: st) w cn sn := w_aload_n d_16_40 rfl
theorem s_16_40n {d : Nat} {Q : wQ} {L : List (Option Value)} {st : List Value} {w : aw} {cn sn : Nat} {a0 : Option Value} : wp d 16 Q 40 (a0 :: some .null :: L) st w cn sn = wp d 16 Q 41 (a0 :: some .null :: L) (.null :: st) w cn sn := w_aload_nN d_16_40 rfl
theorem d_16_41 : decode (mB 16) 41 = .ok (.aastore, 1) := by decide +kernel
theorem s_16_41 {d : Nat} {Q : wQ} {L : List (Option Value)} {st : List Value} {w : aw} {cn sn : Nat} {a x : Nat} {i : Int32} : wp d 16 Q 41 L (.ref x :: .int i :: .ref a :: st) w cn sn = (kd w a = 24 ∧ inR i (ln w a) ∧ (∀ q, some x = some q → kd w q = 7) ∧ wp d 16 Q 42 L st (uR w a i.toNatClampNeg (some x)) cn sn) := wp_row d_16_41 _ _ _ _ _
theorem s_16_41n {d : Nat} {Q : wQ} {L : List (Option Value)} {st : List Value} {w : aw} {cn sn : Nat} {a : Nat} {i : Int32} : wp d 16 Q 41 L (.null :: .int i :: .ref a :: st) w cn sn = (kd w a = 24 ∧ inR i (ln w a) ∧ (∀ q, none = some q → kd w q = 7) ∧ wp d 16 Q 42 L st (uR w a i.toNatClampNeg none) cn sn) := wp_row d_16_41 _ _ _ _ _
theorem d_16_42 : decode (mB 16) 42 = .ok (.aload_n 1, 1) := by decide +kernel
theorem s_16_42 {d : Nat} {Q : wQ} {L : List (Option Value)} {st : List Value} {w : aw} {cn sn : Nat} {a0 : Option Value} {v : Nat} : wp d 16 Q 42 (a0 :: some (.ref v) :: L) st w cn sn = wp d 16 Q 43 (a0 :: some (.ref v) :: L) (.ref v :: st) w cn sn := w_aload_n d_16_42 rfl
theorem s_16_42n {d : Nat} {Q : wQ} {L : List (Option Value)} {st : List Value} {w : aw} {cn sn : Nat} {a0 : Option Value} : wp d 16 Q 42 (a0 :: some .null :: L) st w cn sn = wp d 16 Q 43 (a0 :: some .null :: L) (.null :: st) w cn sn := w_aload_nN d_16_42 rfl
theorem d_16_43 : decode (mB 16) 43 = .ok (.aload_n 0, 1) := by decide +kernel
theorem s_16_43 {d : Nat} {Q : wQ} {L : List (Option Value)} {st : List Value} {w : aw} {cn sn : Nat} {v : Nat} : wp d 16 Q 43 (some (.ref v) :: L) st w cn sn = wp d 16 Q 44 (some (.ref v) :: L) (.ref v :: st) w cn sn := w_aload_n d_16_43 rfl
theorem d_16_44 : decode (mB 16) 44 = .ok (.getfield 20, 3) := by decide +kernel
theorem s_16_44 {d : Nat} {Q : wQ} {L : List (Option Value)} {st : List Value} {w : aw} {cn sn : Nat} {a : Nat} : wp d 16 Q 44 L (.ref a :: st) w cn sn = (kd w a = 2 ∧ wp d 16 Q 47 L (fd w 71 a :: st) w cn sn) := w_getfield d_16_44 (by decide +kernel : fT (mO 16) 20 = some (1, 7))
theorem d_16_47 : decode (mB 16) 47 = .ok (.putfield 52, 3) := by decide +kernel
theorem s_16_47 {d : Nat} {Q : wQ} {L : List (Option Value)} {st : List Value} {w : aw} {cn sn : Nat} {x : Int32} {a : Nat} : wp d 16 Q 47 L (.int x :: .ref a :: st) w cn sn = (kd w a = 7 ∧ wp d 16 Q 50 L st (uF w 398 a (.int x)) cn sn) := w_putfield d_16_47 (by decide +kernel : fT (mO 16) 52 = some (6, 14)) (by decide +kernel) ok_int
theorem d_16_50 : decode (mB 16) 50 = .ok (.aload_n 0, 1) := by decide +kernel
theorem s_16_50 {d : Nat} {Q : wQ} {L : List (Option Value)} {st : List Value} {w : aw} {cn sn : Nat} {v : Nat} : wp d 16 Q 50 (some (.ref v) :: L) st w cn sn = wp d 16 Q 51 (some (.ref v) :: L) (.ref v :: st) w cn sn := w_aload_n d_16_50 rfl
theorem d_16_51 : decode (mB 16) 51 = .ok (.aload_n 0, 1) := by decide +kernel
theorem s_16_51 {d : Nat} {Q : wQ} {L : List (Option Value)} {st : List Value} {w : aw} {cn sn : Nat} {v : Nat} : wp d 16 Q 51 (some (.ref v) :: L) st w cn sn = wp d 16 Q 52 (some (.ref v) :: L) (.ref v :: st) w cn sn := w_aload_n d_16_51 rfl
theorem d_16_52 : decode (mB 16) 52 = .ok (.getfield 59, 3) := by decide +kernel
theorem s_16_52 {d : Nat} {Q : wQ} {L : List (Option Value)} {st : List Value} {w : aw} {cn sn : Nat} {a : Nat} : wp d 16 Q 52 L (.ref a :: st) w cn sn = (kd w a = 2 ∧ wp d 16 Q 55 L (fd w 76 a :: st) w cn sn) := w_getfield d_16_52 (by decide +kernel : fT (mO 16) 59 = some (1, 12))
theorem d_16_55 : decode (mB 16) 55 = .ok (.iconst 1, 1) := by decide +kernel
theorem s_16_55 {d : Nat} {Q : wQ} {L : List (Option Value)} {st : List Value} {w : aw} {cn sn : Nat}  : wp d 16 Q 55 L st w cn sn = wp d 16 Q 56 L (.int 1 :: st) w cn sn := w_iconst d_16_55 (by decide)
theorem d_16_56 : decode (mB 16) 56 = .ok (.iadd, 1) := by decide +kernel
theorem s_16_56 {d : Nat} {Q : wQ} {L : List (Option Value)} {st : List Value} {w : aw} {cn sn : Nat} {a b : Int32} : wp d 16 Q 56 L (.int b :: .int a :: st) w cn sn = wp d 16 Q 57 L (.int (a + b) :: st) w cn sn := wp_row d_16_56 _ _ _ _ _
theorem d_16_57 : decode (mB 16) 57 = .ok (.sipush 4095, 3) := by decide +kernel
theorem s_16_57 {d : Nat} {Q : wQ} {L : List (Option Value)} {st : List Value} {w : aw} {cn sn : Nat}  : wp d 16 Q 57 L st w cn sn = wp d 16 Q 60 L (.int 4095 :: st) w cn sn := w_sipush d_16_57 (by decide)
theorem d_16_60 : decode (mB 16) 60 = .ok (.iand, 1) := by decide +kernel
theorem s_16_60 {d : Nat} {Q : wQ} {L : List (Option Value)} {st : List Value} {w : aw} {cn sn : Nat} {a b : Int32} : wp d 16 Q 60 L (.int b :: .int a :: st) w cn sn = wp d 16 Q 61 L (.int (a &&& b) :: st) w cn sn := wp_row d_16_60 _ _ _ _ _
theorem d_16_61 : decode (mB 16) 61 = .ok (.putfield 59, 3) := by decide +kernel
theorem s_16_61 {d : Nat} {Q : wQ} {L : List (Option Value)} {st : List Value} {w : aw} {cn sn : Nat} {x : Int32} {a : Nat} : wp d 16 Q 61 L (.int x :: .ref a :: st) w cn sn = (kd w a = 2 ∧ wp d 16 Q 64 L st (uF w 76 a (.int x)) cn sn) := w_putfield d_16_61 (by decide +kernel : fT (mO 16) 59 = some (1, 12)) (by decide +kernel) ok_int
theorem d_16_64 : decode (mB 16) 64 = .ok (.aload_n 0, 1) := by decide +kernel
theorem s_16_64 {d : Nat} {Q : wQ} {L : List (Option Value)} {st : List Value} {w : aw} {cn sn : Nat} {v : Nat} : wp d 16 Q 64 (some (.ref v) :: L) st w cn sn = wp d 16 Q 65 (some (.ref v) :: L) (.ref v :: st) w cn sn := w_aload_n d_16_64 rfl
theorem d_16_65 : decode (mB 16) 65 = .ok (.aload_n 0, 1) := by decide +kernel
theorem s_16_65 {d : Nat} {Q : wQ} {L : List (Option Value)} {st : List Value} {w : aw} {cn sn : Nat} {v : Nat} : wp d 16 Q 65 (some (.ref v) :: L) st w cn sn = wp d 16 Q 66 (some (.ref v) :: L) (.ref v :: st) w cn sn := w_aload_n d_16_65 rfl
theorem d_16_66 : decode (mB 16) 66 = .ok (.getfield 20, 3) := by decide +kernel
theorem s_16_66 {d : Nat} {Q : wQ} {L : List (Option Value)} {st : List Value} {w : aw} {cn sn : Nat} {a : Nat} : wp d 16 Q 66 L (.ref a :: st) w cn sn = (kd w a = 2 ∧ wp d 16 Q 69 L (fd w 71 a :: st) w cn sn) := w_getfield d_16_66 (by decide +kernel : fT (mO 16) 20 = some (1, 7))
theorem d_16_69 : decode (mB 16) 69 = .ok (.aload_n 0, 1) := by decide +kernel
theorem s_16_69 {d : Nat} {Q : wQ} {L : List (Option Value)} {st : List Value} {w : aw} {cn sn : Nat} {v : Nat} : wp d 16 Q 69 (some (.ref v) :: L) st w cn sn = wp d 16 Q 70 (some (.ref v) :: L) (.ref v :: st) w cn sn := w_aload_n d_16_69 rfl
theorem d_16_70 : decode (mB 16) 70 = .ok (.getfield 30, 3) := by decide +kernel
theorem s_16_70 {d : Nat} {Q : wQ} {L : List (Option Value)} {st : List Value} {w : aw} {cn sn : Nat} {a : Nat} : wp d 16 Q 70 L (.ref a :: st) w cn sn = (kd w a = 2 ∧ wp d 16 Q 73 L (fd w 65 a :: st) w cn sn) := w_getfield d_16_70 (by decide +kernel : fT (mO 16) 30 = some (1, 1))
theorem d_16_73 : decode (mB 16) 73 = .ok (.if_icmp .lt 7, 3) := by decide +kernel
theorem s_16_73 {d : Nat} {Q : wQ} {L : List (Option Value)} {st : List Value} {w : aw} {cn sn : Nat} {a b : Int32} : wp d 16 Q 73 L (.int b :: .int a :: st) w cn sn = ((a < b → wp d 16 Q 80 L st w cn sn) ∧ (¬ a < b → wp d 16 Q 76 L st w cn sn)) := w_iclt d_16_73 (by decide)
theorem d_16_76 : decode (mB 16) 76 = .ok (.iconst 1, 1) := by decide +kernel
theorem s_16_76 {d : Nat} {Q : wQ} {L : List (Option Value)} {st : List Value} {w : aw} {cn sn : Nat}  : wp d 16 Q 76 L st w cn sn = wp d 16 Q 77 L (.int 1 :: st) w cn sn := w_iconst d_16_76 (by decide)
theorem d_16_77 : decode (mB 16) 77 = .ok (.goto 9, 3) := by decide +kernel
theorem s_16_77 {d : Nat} {Q : wQ} {L : List (Option Value)} {st : List Value} {w : aw} {cn sn : Nat}  : wp d 16 Q 77 L st w cn sn = wp d 16 Q 86 L st w cn sn := w_goto d_16_77 (by decide)
theorem d_16_80 : decode (mB 16) 80 = .ok (.aload_n 0, 1) := by decide +kernel
theorem s_16_80 {d : Nat} {Q : wQ} {L : List (Option Value)} {st : List Value} {w : aw} {cn sn : Nat} {v : Nat} : wp d 16 Q 80 (some (.ref v) :: L) st w cn sn = wp d 16 Q 81 (some (.ref v) :: L) (.ref v :: st) w cn sn := w_aload_n d_16_80 rfl
theorem d_16_81 : decode (mB 16) 81 = .ok (.getfield 20, 3) := by decide +kernel
theorem s_16_81 {d : Nat} {Q : wQ} {L : List (Option Value)} {st : List Value} {w : aw} {cn sn : Nat} {a : Nat} : wp d 16 Q 81 L (.ref a :: st) w cn sn = (kd w a = 2 ∧ wp d 16 Q 84 L (fd w 71 a :: st) w cn sn) := w_getfield d_16_81 (by decide +kernel : fT (mO 16) 20 = some (1, 7))
theorem d_16_84 : decode (mB 16) 84 = .ok (.iconst 1, 1) := by decide +kernel
theorem s_16_84 {d : Nat} {Q : wQ} {L : List (Option Value)} {st : List Value} {w : aw} {cn sn : Nat}  : wp d 16 Q 84 L st w cn sn = wp d 16 Q 85 L (.int 1 :: st) w cn sn := w_iconst d_16_84 (by decide)
theorem d_16_85 : decode (mB 16) 85 = .ok (.iadd, 1) := by decide +kernel
theorem s_16_85 {d : Nat} {Q : wQ} {L : List (Option Value)} {st : List Value} {w : aw} {cn sn : Nat} {a b : Int32} : wp d 16 Q 85 L (.int b :: .int a :: st) w cn sn = wp d 16 Q 86 L (.int (a + b) :: st) w cn sn := wp_row d_16_85 _ _ _ _ _
theorem d_16_86 : decode (mB 16) 86 = .ok (.putfield 20, 3) := by decide +kernel
theorem s_16_86 {d : Nat} {Q : wQ} {L : List (Option Value)} {st : List Value} {w : aw} {cn sn : Nat} {x : Int32} {a : Nat} : wp d 16 Q 86 L (.int x :: .ref a :: st) w cn sn = (kd w a = 2 ∧ wp d 16 Q 89 L st (uF w 71 a (.int x)) cn sn) := w_putfield d_16_86 (by decide +kernel : fT (mO 16) 20 = some (1, 7)) (by decide +kernel) ok_int
theorem d_16_89 : decode (mB 16) 89 = .ok (.return_, 1) := by decide +kernel
theorem s_16_89 {d : Nat} {Q : wQ} {L : List (Option Value)} {w : aw} {cn sn : Nat}  : wp d 16 Q 89 L [] w cn sn = Q none w := w_return d_16_89 rfl
theorem d_17_0 : decode (mB 17) 0 = .ok (.aload_n 0, 1) := by decide +kernel
theorem s_17_0 {d : Nat} {Q : wQ} {L : List (Option Value)} {st : List Value} {w : aw} {cn sn : Nat} {v : Nat} : wp d 17 Q 0 (some (.ref v) :: L) st w cn sn = wp d 17 Q 1 (some (.ref v) :: L) (.ref v :: st) w cn sn := w_aload_n d_17_0 rfl
theorem d_17_1 : decode (mB 17) 1 = .ok (.getfield 45, 3) := by decide +kernel
theorem s_17_1 {d : Nat} {Q : wQ} {L : List (Option Value)} {st : List Value} {w : aw} {cn sn : Nat} {a : Nat} : wp d 17 Q 1 L (.ref a :: st) w cn sn = (kd w a = 2 ∧ wp d 17 Q 4 L (fd w 72 a :: st) w cn sn) := w_getfield d_17_1 (by decide +kernel : fT (mO 17) 45 = some (1, 8))
theorem d_17_4 : decode (mB 17) 4 = .ok (.ifnull 7, 3) := by decide +kernel
theorem s_17_4 {d : Nat} {Q : wQ} {L : List (Option Value)} {st : List Value} {w : aw} {cn sn : Nat} {q : Nat} : wp d 17 Q 4 L (.ref q :: st) w cn sn = wp d 17 Q 7 L st w cn sn := w_ifnull d_17_4 (t := 11) (by decide)
theorem s_17_4n {d : Nat} {Q : wQ} {L : List (Option Value)} {st : List Value} {w : aw} {cn sn : Nat}  : wp d 17 Q 4 L (.null :: st) w cn sn = wp d 17 Q 11 L st w cn sn := w_ifnullN d_17_4 (t := 11) (by decide)
theorem d_17_7 : decode (mB 17) 7 = .ok (.iconst 1, 1) := by decide +kernel
theorem s_17_7 {d : Nat} {Q : wQ} {L : List (Option Value)} {st : List Value} {w : aw} {cn sn : Nat}  : wp d 17 Q 7 L st w cn sn = wp d 17 Q 8 L (.int 1 :: st) w cn sn := w_iconst d_17_7 (by decide)
theorem d_17_8 : decode (mB 17) 8 = .ok (.goto 4, 3) := by decide +kernel
theorem s_17_8 {d : Nat} {Q : wQ} {L : List (Option Value)} {st : List Value} {w : aw} {cn sn : Nat}  : wp d 17 Q 8 L st w cn sn = wp d 17 Q 12 L st w cn sn := w_goto d_17_8 (by decide)
theorem d_17_11 : decode (mB 17) 11 = .ok (.iconst 0, 1) := by decide +kernel
theorem s_17_11 {d : Nat} {Q : wQ} {L : List (Option Value)} {st : List Value} {w : aw} {cn sn : Nat}  : wp d 17 Q 11 L st w cn sn = wp d 17 Q 12 L (.int 0 :: st) w cn sn := w_iconst d_17_11 (by decide)
theorem d_17_12 : decode (mB 17) 12 = .ok (.istore_n 1, 1) := by decide +kernel
theorem s_17_12 {d : Nat} {Q : wQ} {L : List (Option Value)} {st : List Value} {w : aw} {cn sn : Nat} {a0 a1 : Option Value} {v : Int32} : wp d 17 Q 12 (a0 :: a1 :: L) (.int v :: st) w cn sn = wp d 17 Q 13 (clr a0 :: some (.int v) :: L) st w cn sn := w_istore_n d_17_12 (Nat.le_add_left 2 _) rfl
theorem d_17_13 : decode (mB 17) 13 = .ok (.iload_n 1, 1) := by decide +kernel
theorem s_17_13 {d : Nat} {Q : wQ} {L : List (Option Value)} {st : List Value} {w : aw} {cn sn : Nat} {a0 : Option Value} {v : Int32} : wp d 17 Q 13 (a0 :: some (.int v) :: L) st w cn sn = wp d 17 Q 14 (a0 :: some (.int v) :: L) (.int v :: st) w cn sn := w_iload_n d_17_13 rfl
theorem d_17_14 : decode (mB 17) 14 = .ok (.ifCond .eq 14, 3) := by decide +kernel
theorem s_17_14 {d : Nat} {Q : wQ} {L : List (Option Value)} {st : List Value} {w : aw} {cn sn : Nat} {x : Int32} : wp d 17 Q 14 L (.int x :: st) w cn sn = ((x = 0 → wp d 17 Q 28 L st w cn sn) ∧ (¬ x = 0 → wp d 17 Q 17 L st w cn sn)) := w_ifeq d_17_14 (by decide)
theorem d_17_17 : decode (mB 17) 17 = .ok (.aload_n 0, 1) := by decide +kernel
theorem s_17_17 {d : Nat} {Q : wQ} {L : List (Option Value)} {st : List Value} {w : aw} {cn sn : Nat} {v : Nat} : wp d 17 Q 17 (some (.ref v) :: L) st w cn sn = wp d 17 Q 18 (some (.ref v) :: L) (.ref v :: st) w cn sn := w_aload_n d_17_17 rfl
theorem d_17_18 : decode (mB 17) 18 = .ok (.aload_n 0, 1) := by decide +kernel
theorem s_17_18 {d : Nat} {Q : wQ} {L : List (Option Value)} {st : List Value} {w : aw} {cn sn : Nat} {v : Nat} : wp d 17 Q 18 (some (.ref v) :: L) st w cn sn = wp d 17 Q 19 (some (.ref v) :: L) (.ref v :: st) w cn sn := w_aload_n d_17_18 rfl
theorem d_17_19 : decode (mB 17) 19 = .ok (.getfield 45, 3) := by decide +kernel
theorem s_17_19 {d : Nat} {Q : wQ} {L : List (Option Value)} {st : List Value} {w : aw} {cn sn : Nat} {a : Nat} : wp d 17 Q 19 L (.ref a :: st) w cn sn = (kd w a = 2 ∧ wp d 17 Q 22 L (fd w 72 a :: st) w cn sn) := w_getfield d_17_19 (by decide +kernel : fT (mO 17) 45 = some (1, 8))
theorem d_17_22 : decode (mB 17) 22 = .ok (.invokevirtual 62, 3) := by decide +kernel
theorem s_17_22 {d : Nat} {Q : wQ} {L : List (Option Value)} {st : List Value} {w : aw} {cn sn : Nat} {v0 : Value} {b : Nat} : wp d 17 Q 22 L (v0 :: .ref b :: st) w cn sn = (kd w b = 2 ∧ catS st ≤ 8 ∧ wpD d 18 [.ref b, v0] w (fun v w' => wp d 17 Q 25 L (v.toList ++ st) w' cn sn)) := w_virtual (As := [v0]) d_17_22 (by decide +kernel : cT (mO 17) 62 = some (0, 18)) rfl (by decide +kernel) rfl (by decide +kernel) rfl
theorem d_17_25 : decode (mB 17) 25 = .ok (.goto 13, 3) := by decide +kernel
theorem s_17_25 {d : Nat} {Q : wQ} {L : List (Option Value)} {st : List Value} {w : aw} {cn sn : Nat}  : wp d 17 Q 25 L st w cn sn = wp d 17 Q 38 L st w cn sn := w_goto d_17_25 (by decide)
theorem d_17_28 : decode (mB 17) 28 = .ok (.aload_n 0, 1) := by decide +kernel
theorem s_17_28 {d : Nat} {Q : wQ} {L : List (Option Value)} {st : List Value} {w : aw} {cn sn : Nat} {v : Nat} : wp d 17 Q 28 (some (.ref v) :: L) st w cn sn = wp d 17 Q 29 (some (.ref v) :: L) (.ref v :: st) w cn sn := w_aload_n d_17_28 rfl
theorem d_17_29 : decode (mB 17) 29 = .ok (.dup, 1) := by decide +kernel
theorem s_17_29 {d : Nat} {Q : wQ} {L : List (Option Value)} {st : List Value} {w : aw} {cn sn : Nat} {v : Value} : wp d 17 Q 29 L (v :: st) w cn sn = (v.category = 1 ∧ wp d 17 Q 30 L (v :: v :: st) w cn sn) := wp_row d_17_29 _ _ _ _ _
theorem d_17_30 : decode (mB 17) 30 = .ok (.getfield 65, 3) := by decide +kernel
theorem s_17_30 {d : Nat} {Q : wQ} {L : List (Option Value)} {st : List Value} {w : aw} {cn sn : Nat} {a : Nat} : wp d 17 Q 30 L (.ref a :: st) w cn sn = (kd w a = 2 ∧ wp d 17 Q 33 L (fd w 77 a :: st) w cn sn) := w_getfield d_17_30 (by decide +kernel : fT (mO 17) 65 = some (1, 13))
theorem d_17_33 : decode (mB 17) 33 = .ok (.iconst 1, 1) := by decide +kernel
theorem s_17_33 {d : Nat} {Q : wQ} {L : List (Option Value)} {st : List Value} {w : aw} {cn sn : Nat}  : wp d 17 Q 33 L st w cn sn = wp d 17 Q 34 L (.int 1 :: st) w cn sn := w_iconst d_17_33 (by decide)
theorem d_17_34 : decode (mB 17) 34 = .ok (.iadd, 1) := by decide +kernel
theorem s_17_34 {d : Nat} {Q : wQ} {L : List (Option Value)} {st : List Value} {w : aw} {cn sn : Nat} {a b : Int32} : wp d 17 Q 34 L (.int b :: .int a :: st) w cn sn = wp d 17 Q 35 L (.int (a + b) :: st) w cn sn := wp_row d_17_34 _ _ _ _ _
theorem d_17_35 : decode (mB 17) 35 = .ok (.putfield 65, 3) := by decide +kernel
theorem s_17_35 {d : Nat} {Q : wQ} {L : List (Option Value)} {st : List Value} {w : aw} {cn sn : Nat} {x : Int32} {a : Nat} : wp d 17 Q 35 L (.int x :: .ref a :: st) w cn sn = (kd w a = 2 ∧ wp d 17 Q 38 L st (uF w 77 a (.int x)) cn sn) := w_putfield d_17_35 (by decide +kernel : fT (mO 17) 65 = some (1, 13)) (by decide +kernel) ok_int
theorem d_17_38 : decode (mB 17) 38 = .ok (.aload_n 0, 1) := by decide +kernel
theorem s_17_38 {d : Nat} {Q : wQ} {L : List (Option Value)} {st : List Value} {w : aw} {cn sn : Nat} {v : Nat} : wp d 17 Q 38 (some (.ref v) :: L) st w cn sn = wp d 17 Q 39 (some (.ref v) :: L) (.ref v :: st) w cn sn := w_aload_n d_17_38 rfl
theorem d_17_39 : decode (mB 17) 39 = .ok (.dup, 1) := by decide +kernel
theorem s_17_39 {d : Nat} {Q : wQ} {L : List (Option Value)} {st : List Value} {w : aw} {cn sn : Nat} {v : Value} : wp d 17 Q 39 L (v :: st) w cn sn = (v.category = 1 ∧ wp d 17 Q 40 L (v :: v :: st) w cn sn) := wp_row d_17_39 _ _ _ _ _
theorem d_17_40 : decode (mB 17) 40 = .ok (.getfield 68, 3) := by decide +kernel
theorem s_17_40 {d : Nat} {Q : wQ} {L : List (Option Value)} {st : List Value} {w : aw} {cn sn : Nat} {a : Nat} : wp d 17 Q 40 L (.ref a :: st) w cn sn = (kd w a = 2 ∧ wp d 17 Q 43 L (fd w 73 a :: st) w cn sn) := w_getfield d_17_40 (by decide +kernel : fT (mO 17) 68 = some (1, 9))
theorem d_17_43 : decode (mB 17) 43 = .ok (.iconst 1, 1) := by decide +kernel
theorem s_17_43 {d : Nat} {Q : wQ} {L : List (Option Value)} {st : List Value} {w : aw} {cn sn : Nat}  : wp d 17 Q 43 L st w cn sn = wp d 17 Q 44 L (.int 1 :: st) w cn sn := w_iconst d_17_43 (by decide)
theorem d_17_44 : decode (mB 17) 44 = .ok (.iadd, 1) := by decide +kernel
theorem s_17_44 {d : Nat} {Q : wQ} {L : List (Option Value)} {st : List Value} {w : aw} {cn sn : Nat} {a b : Int32} : wp d 17 Q 44 L (.int b :: .int a :: st) w cn sn = wp d 17 Q 45 L (.int (a + b) :: st) w cn sn := wp_row d_17_44 _ _ _ _ _
theorem d_17_45 : decode (mB 17) 45 = .ok (.putfield 68, 3) := by decide +kernel
theorem s_17_45 {d : Nat} {Q : wQ} {L : List (Option Value)} {st : List Value} {w : aw} {cn sn : Nat} {x : Int32} {a : Nat} : wp d 17 Q 45 L (.int x :: .ref a :: st) w cn sn = (kd w a = 2 ∧ wp d 17 Q 48 L st (uF w 73 a (.int x)) cn sn) := w_putfield d_17_45 (by decide +kernel : fT (mO 17) 68 = some (1, 9)) (by decide +kernel) ok_int
theorem d_17_48 : decode (mB 17) 48 = .ok (.aload_n 0, 1) := by decide +kernel
theorem s_17_48 {d : Nat} {Q : wQ} {L : List (Option Value)} {st : List Value} {w : aw} {cn sn : Nat} {v : Nat} : wp d 17 Q 48 (some (.ref v) :: L) st w cn sn = wp d 17 Q 49 (some (.ref v) :: L) (.ref v :: st) w cn sn := w_aload_n d_17_48 rfl
theorem d_17_49 : decode (mB 17) 49 = .ok (.dup, 1) := by decide +kernel
theorem s_17_49 {d : Nat} {Q : wQ} {L : List (Option Value)} {st : List Value} {w : aw} {cn sn : Nat} {v : Value} : wp d 17 Q 49 L (v :: st) w cn sn = (v.category = 1 ∧ wp d 17 Q 50 L (v :: v :: st) w cn sn) := wp_row d_17_49 _ _ _ _ _
theorem d_17_50 : decode (mB 17) 50 = .ok (.getfield 71, 3) := by decide +kernel
theorem s_17_50 {d : Nat} {Q : wQ} {L : List (Option Value)} {st : List Value} {w : aw} {cn sn : Nat} {a : Nat} : wp d 17 Q 50 L (.ref a :: st) w cn sn = (kd w a = 2 ∧ wp d 17 Q 53 L (fd w 74 a :: st) w cn sn) := w_getfield d_17_50 (by decide +kernel : fT (mO 17) 71 = some (1, 10))
theorem d_17_53 : decode (mB 17) 53 = .ok (.iconst 1, 1) := by decide +kernel
theorem s_17_53 {d : Nat} {Q : wQ} {L : List (Option Value)} {st : List Value} {w : aw} {cn sn : Nat}  : wp d 17 Q 53 L st w cn sn = wp d 17 Q 54 L (.int 1 :: st) w cn sn := w_iconst d_17_53 (by decide)
theorem d_17_54 : decode (mB 17) 54 = .ok (.iadd, 1) := by decide +kernel
theorem s_17_54 {d : Nat} {Q : wQ} {L : List (Option Value)} {st : List Value} {w : aw} {cn sn : Nat} {a b : Int32} : wp d 17 Q 54 L (.int b :: .int a :: st) w cn sn = wp d 17 Q 55 L (.int (a + b) :: st) w cn sn := wp_row d_17_54 _ _ _ _ _
theorem d_17_55 : decode (mB 17) 55 = .ok (.putfield 71, 3) := by decide +kernel
theorem s_17_55 {d : Nat} {Q : wQ} {L : List (Option Value)} {st : List Value} {w : aw} {cn sn : Nat} {x : Int32} {a : Nat} : wp d 17 Q 55 L (.int x :: .ref a :: st) w cn sn = (kd w a = 2 ∧ wp d 17 Q 58 L st (uF w 74 a (.int x)) cn sn) := w_putfield d_17_55 (by decide +kernel : fT (mO 17) 71 = some (1, 10)) (by decide +kernel) ok_int
theorem d_17_58 : decode (mB 17) 58 = .ok (.aload_n 0, 1) := by decide +kernel
theorem s_17_58 {d : Nat} {Q : wQ} {L : List (Option Value)} {st : List Value} {w : aw} {cn sn : Nat} {v : Nat} : wp d 17 Q 58 (some (.ref v) :: L) st w cn sn = wp d 17 Q 59 (some (.ref v) :: L) (.ref v :: st) w cn sn := w_aload_n d_17_58 rfl
theorem d_17_59 : decode (mB 17) 59 = .ok (.getfield 71, 3) := by decide +kernel
theorem s_17_59 {d : Nat} {Q : wQ} {L : List (Option Value)} {st : List Value} {w : aw} {cn sn : Nat} {a : Nat} : wp d 17 Q 59 L (.ref a :: st) w cn sn = (kd w a = 2 ∧ wp d 17 Q 62 L (fd w 74 a :: st) w cn sn) := w_getfield d_17_59 (by decide +kernel : fT (mO 17) 71 = some (1, 10))
theorem d_17_62 : decode (mB 17) 62 = .ok (.aload_n 0, 1) := by decide +kernel
theorem s_17_62 {d : Nat} {Q : wQ} {L : List (Option Value)} {st : List Value} {w : aw} {cn sn : Nat} {v : Nat} : wp d 17 Q 62 (some (.ref v) :: L) st w cn sn = wp d 17 Q 63 (some (.ref v) :: L) (.ref v :: st) w cn sn := w_aload_n d_17_62 rfl
theorem d_17_63 : decode (mB 17) 63 = .ok (.getfield 36, 3) := by decide +kernel
theorem s_17_63 {d : Nat} {Q : wQ} {L : List (Option Value)} {st : List Value} {w : aw} {cn sn : Nat} {a : Nat} : wp d 17 Q 63 L (.ref a :: st) w cn sn = (kd w a = 2 ∧ wp d 17 Q 66 L (fd w 67 a :: st) w cn sn) := w_getfield d_17_63 (by decide +kernel : fT (mO 17) 36 = some (1, 3))
theorem d_17_66 : decode (mB 17) 66 = .ok (.if_icmp .lt 12, 3) := by decide +kernel
theorem s_17_66 {d : Nat} {Q : wQ} {L : List (Option Value)} {st : List Value} {w : aw} {cn sn : Nat} {a b : Int32} : wp d 17 Q 66 L (.int b :: .int a :: st) w cn sn = ((a < b → wp d 17 Q 78 L st w cn sn) ∧ (¬ a < b → wp d 17 Q 69 L st w cn sn)) := w_iclt d_17_66 (by decide)
theorem d_17_69 : decode (mB 17) 69 = .ok (.aload_n 0, 1) := by decide +kernel
theorem s_17_69 {d : Nat} {Q : wQ} {L : List (Option Value)} {st : List Value} {w : aw} {cn sn : Nat} {v : Nat} : wp d 17 Q 69 (some (.ref v) :: L) st w cn sn = wp d 17 Q 70 (some (.ref v) :: L) (.ref v :: st) w cn sn := w_aload_n d_17_69 rfl
theorem d_17_70 : decode (mB 17) 70 = .ok (.iconst 0, 1) := by decide +kernel
theorem s_17_70 {d : Nat} {Q : wQ} {L : List (Option Value)} {st : List Value} {w : aw} {cn sn : Nat}  : wp d 17 Q 70 L st w cn sn = wp d 17 Q 71 L (.int 0 :: st) w cn sn := w_iconst d_17_70 (by decide)
theorem d_17_71 : decode (mB 17) 71 = .ok (.putfield 71, 3) := by decide +kernel
theorem s_17_71 {d : Nat} {Q : wQ} {L : List (Option Value)} {st : List Value} {w : aw} {cn sn : Nat} {x : Int32} {a : Nat} : wp d 17 Q 71 L (.int x :: .ref a :: st) w cn sn = (kd w a = 2 ∧ wp d 17 Q 74 L st (uF w 74 a (.int x)) cn sn) := w_putfield d_17_71 (by decide +kernel : fT (mO 17) 71 = some (1, 10)) (by decide +kernel) ok_int
theorem d_17_74 : decode (mB 17) 74 = .ok (.aload_n 0, 1) := by decide +kernel
theorem s_17_74 {d : Nat} {Q : wQ} {L : List (Option Value)} {st : List Value} {w : aw} {cn sn : Nat} {v : Nat} : wp d 17 Q 74 (some (.ref v) :: L) st w cn sn = wp d 17 Q 75 (some (.ref v) :: L) (.ref v :: st) w cn sn := w_aload_n d_17_74 rfl
theorem d_17_75 : decode (mB 17) 75 = .ok (.invokevirtual 74, 3) := by decide +kernel
theorem s_17_75 {d : Nat} {Q : wQ} {L : List (Option Value)} {st : List Value} {w : aw} {cn sn : Nat} {b : Nat} : wp d 17 Q 75 L (.ref b :: st) w cn sn = (kd w b = 2 ∧ catS st ≤ 8 ∧ wpD d 19 [.ref b] w (fun v w' => wp d 17 Q 78 L (v.toList ++ st) w' cn sn)) := w_virtual (As := []) d_17_75 (by decide +kernel : cT (mO 17) 74 = some (0, 19)) rfl (by decide +kernel) rfl (by decide +kernel) rfl
theorem d_17_78 : decode (mB 17) 78 = .ok (.aload_n 0, 1) := by decide +kernel
theorem s_17_78 {d : Nat} {Q : wQ} {L : List (Option Value)} {st : List Value} {w : aw} {cn sn : Nat} {v : Nat} : wp d 17 Q 78 (some (.ref v) :: L) st w cn sn = wp d 17 Q 79 (some (.ref v) :: L) (.ref v :: st) w cn sn := w_aload_n d_17_78 rfl
theorem d_17_79 : decode (mB 17) 79 = .ok (.invokevirtual 77, 3) := by decide +kernel
theorem s_17_79 {d : Nat} {Q : wQ} {L : List (Option Value)} {st : List Value} {w : aw} {cn sn : Nat} {b : Nat} : wp d 17 Q 79 L (.ref b :: st) w cn sn = (kd w b = 2 ∧ catS st ≤ 8 ∧ wpD d 15 [.ref b] w (fun v w' => wp d 17 Q 82 L (v.toList ++ st) w' cn sn)) := w_virtual (As := []) d_17_79 (by decide +kernel : cT (mO 17) 77 = some (0, 15)) rfl (by decide +kernel) rfl (by decide +kernel) rfl
theorem d_17_82 : decode (mB 17) 82 = .ok (.iload_n 1, 1) := by decide +kernel
theorem s_17_82 {d : Nat} {Q : wQ} {L : List (Option Value)} {st : List Value} {w : aw} {cn sn : Nat} {a0 : Option Value} {v : Int32} : wp d 17 Q 82 (a0 :: some (.int v) :: L) st w cn sn = wp d 17 Q 83 (a0 :: some (.int v) :: L) (.int v :: st) w cn sn := w_iload_n d_17_82 rfl
theorem d_17_83 : decode (mB 17) 83 = .ok (.ireturn, 1) := by decide +kernel
theorem s_17_83 {d : Nat} {Q : wQ} {L : List (Option Value)} {w : aw} {cn sn : Nat} {v : Int32} : wp d 17 Q 83 L [.int v] w cn sn = (narrow .boolean (.int v) = .int v ∧ Q (some (.int v)) w) := w_zreturn d_17_83 rfl
theorem d_18_0 : decode (mB 18) 0 = .ok (.aload_n 1, 1) := by decide +kernel
theorem s_18_0 {d : Nat} {Q : wQ} {L : List (Option Value)} {st : List Value} {w : aw} {cn sn : Nat} {a0 : Option Value} {v : Nat} : wp d 18 Q 0 (a0 :: some (.ref v) :: L) st w cn sn = wp d 18 Q 1 (a0 :: some (.ref v) :: L) (.ref v :: st) w cn sn := w_aload_n d_18_0 rfl
theorem s_18_0n {d : Nat} {Q : wQ} {L : List (Option Value)} {st : List Value} {w : aw} {cn sn : Nat} {a0 : Option Value} : wp d 18 Q 0 (a0 :: some .null :: L) st w cn sn = wp d 18 Q 1 (a0 :: some .null :: L) (.null :: st) w cn sn := w_aload_nN d_18_0 rfl
theorem d_18_1 : decode (mB 18) 1 = .ok (.invokevirtual 80, 3) := by decide +kernel
theorem s_18_1 {d : Nat} {Q : wQ} {L : List (Option Value)} {st : List Value} {w : aw} {cn sn : Nat} {b : Nat} : wp d 18 Q 1 L (.ref b :: st) w cn sn = (kd w b = 7 ∧ catS st ≤ 8 ∧ wpD d 59 [.ref b] w (fun v w' => wp d 18 Q 4 L (v.toList ++ st) w' cn sn)) := w_virtual (As := []) d_18_1 (by decide +kernel : cT (mO 18) 80 = some (0, 59)) rfl (by decide +kernel) rfl (by decide +kernel) rfl
theorem d_18_4 : decode (mB 18) 4 = .ok (.aload_n 1, 1) := by decide +kernel
theorem s_18_4 {d : Nat} {Q : wQ} {L : List (Option Value)} {st : List Value} {w : aw} {cn sn : Nat} {a0 : Option Value} {v : Nat} : wp d 18 Q 4 (a0 :: some (.ref v) :: L) st w cn sn = wp d 18 Q 5 (a0 :: some (.ref v) :: L) (.ref v :: st) w cn sn := w_aload_n d_18_4 rfl
theorem s_18_4n {d : Nat} {Q : wQ} {L : List (Option Value)} {st : List Value} {w : aw} {cn sn : Nat} {a0 : Option Value} : wp d 18 Q 4 (a0 :: some .null :: L) st w cn sn = wp d 18 Q 5 (a0 :: some .null :: L) (.null :: st) w cn sn := w_aload_nN d_18_4 rfl
theorem d_18_5 : decode (mB 18) 5 = .ok (.getfield 42, 3) := by decide +kernel
theorem s_18_5 {d : Nat} {Q : wQ} {L : List (Option Value)} {st : List Value} {w : aw} {cn sn : Nat} {a : Nat} : wp d 18 Q 5 L (.ref a :: st) w cn sn = (kd w a = 7 ∧ wp d 18 Q 8 L (fd w 394 a :: st) w cn sn) := w_getfield d_18_5 (by decide +kernel : fT (mO 18) 42 = some (6, 10))
theorem d_18_8 : decode (mB 18) 8 = .ok (.iconst 2, 1) := by decide +kernel
theorem s_18_8 {d : Nat} {Q : wQ} {L : List (Option Value)} {st : List Value} {w : aw} {cn sn : Nat}  : wp d 18 Q 8 L st w cn sn = wp d 18 Q 9 L (.int 2 :: st) w cn sn := w_iconst d_18_8 (by decide)
theorem d_18_9 : decode (mB 18) 9 = .ok (.if_icmp .eq 13, 3) := by decide +kernel
theorem s_18_9 {d : Nat} {Q : wQ} {L : List (Option Value)} {st : List Value} {w : aw} {cn sn : Nat} {a b : Int32} : wp d 18 Q 9 L (.int b :: .int a :: st) w cn sn = ((a = b → wp d 18 Q 22 L st w cn sn) ∧ (¬ a = b → wp d 18 Q 12 L st w cn sn)) := w_iceq d_18_9 (by decide)
theorem d_18_12 : decode (mB 18) 12 = .ok (.aload_n 1, 1) := by decide +kernel
theorem s_18_12 {d : Nat} {Q : wQ} {L : List (Option Value)} {st : List Value} {w : aw} {cn sn : Nat} {a0 : Option Value} {v : Nat} : wp d 18 Q 12 (a0 :: some (.ref v) :: L) st w cn sn = wp d 18 Q 13 (a0 :: some (.ref v) :: L) (.ref v :: st) w cn sn := w_aload_n d_18_12 rfl
theorem s_18_12n {d : Nat} {Q : wQ} {L : List (Option Value)} {st : List Value} {w : aw} {cn sn : Nat} {a0 : Option Value} : wp d 18 Q 12 (a0 :: some .null :: L) st w cn sn = wp d 18 Q 13 (a0 :: some .null :: L) (.null :: st) w cn sn := w_aload_nN d_18_12 rfl
theorem d_18_13 : decode (mB 18) 13 = .ok (.iconst 0, 1) := by decide +kernel
theorem s_18_13 {d : Nat} {Q : wQ} {L : List (Option Value)} {st : List Value} {w : aw} {cn sn : Nat}  : wp d 18 Q 13 L st w cn sn = wp d 18 Q 14 L (.int 0 :: st) w cn sn := w_iconst d_18_13 (by decide)
theorem d_18_14 : decode (mB 18) 14 = .ok (.putfield 49, 3) := by decide +kernel
theorem s_18_14 {d : Nat} {Q : wQ} {L : List (Option Value)} {st : List Value} {w : aw} {cn sn : Nat} {x : Int32} {a : Nat} : wp d 18 Q 14 L (.int x :: .ref a :: st) w cn sn = (kd w a = 7 ∧ wp d 18 Q 17 L st (uF w 396 a (.int x)) cn sn) := w_putfield d_18_14 (by decide +kernel : fT (mO 18) 49 = some (6, 12)) (by decide +kernel) ok_int
theorem d_18_17 : decode (mB 18) 17 = .ok (.aload_n 0, 1) := by decide +kernel
theorem s_18_17 {d : Nat} {Q : wQ} {L : List (Option Value)} {st : List Value} {w : aw} {cn sn : Nat} {v : Nat} : wp d 18 Q 17 (some (.ref v) :: L) st w cn sn = wp d 18 Q 18 (some (.ref v) :: L) (.ref v :: st) w cn sn := w_aload_n d_18_17 rfl
theorem d_18_18 : decode (mB 18) 18 = .ok (.aconst_null, 1) := by decide +kernel
theorem s_18_18 {d : Nat} {Q : wQ} {L : List (Option Value)} {st : List Value} {w : aw} {cn sn : Nat}  : wp d 18 Q 18 L st w cn sn = wp d 18 Q 19 L (.null :: st) w cn sn := w_null d_18_18
theorem d_18_19 : decode (mB 18) 19 = .ok (.putfield 45, 3) := by decide +kernel
theorem s_18_19 {d : Nat} {Q : wQ} {L : List (Option Value)} {st : List Value} {w : aw} {cn sn : Nat} {x : Nat} {a : Nat} : wp d 18 Q 19 L (.ref x :: .ref a :: st) w cn sn = (kd w a = 2 ∧ wp d 18 Q 22 L st (uF w 72 a (.ref x)) cn sn) := w_putfield d_18_19 (by decide +kernel : fT (mO 18) 45 = some (1, 8)) (by decide +kernel) ok_ref
theorem s_18_19n {d : Nat} {Q : wQ} {L : List (Option Value)} {st : List Value} {w : aw} {cn sn : Nat} {a : Nat} : wp d 18 Q 19 L (.null :: .ref a :: st) w cn sn = (kd w a = 2 ∧ wp d 18 Q 22 L st (uF w 72 a (.null)) cn sn) := w_putfield d_18_19 (by decide +kernel : fT (mO 18) 45 = some (1, 8)) (by decide +kernel) ok_null
theorem d_18_22 : decode (mB 18) 22 = .ok (.return_, 1) := by decide +kernel
theorem s_18_22 {d : Nat} {Q : wQ} {L : List (Option Value)} {w : aw} {cn sn : Nat}  : wp d 18 Q 22 L [] w cn sn = Q none w := w_return d_18_22 rfl
theorem d_19_0 : decode (mB 19) 0 = .ok (.aload_n 0, 1) := by decide +kernel
theorem s_19_0 {d : Nat} {Q : wQ} {L : List (Option Value)} {st : List Value} {w : aw} {cn sn : Nat} {v : Nat} : wp d 19 Q 0 (some (.ref v) :: L) st w cn sn = wp d 19 Q 1 (some (.ref v) :: L) (.ref v :: st) w cn sn := w_aload_n d_19_0 rfl
theorem d_19_1 : decode (mB 19) 1 = .ok (.dup, 1) := by decide +kernel
theorem s_19_1 {d : Nat} {Q : wQ} {L : List (Option Value)} {st : List Value} {w : aw} {cn sn : Nat} {v : Value} : wp d 19 Q 1 L (v :: st) w cn sn = (v.category = 1 ∧ wp d 19 Q 2 L (v :: v :: st) w cn sn) := wp_row d_19_1 _ _ _ _ _
theorem d_19_2 : decode (mB 19) 2 = .ok (.getfield 83, 3) := by decide +kernel
theorem s_19_2 {d : Nat} {Q : wQ} {L : List (Option Value)} {st : List Value} {w : aw} {cn sn : Nat} {a : Nat} : wp d 19 Q 2 L (.ref a :: st) w cn sn = (kd w a = 2 ∧ wp d 19 Q 5 L (fd w 75 a :: st) w cn sn) := w_getfield d_19_2 (by decide +kernel : fT (mO 19) 83 = some (1, 11))
theorem d_19_5 : decode (mB 19) 5 = .ok (.iconst 1, 1) := by decide +kernel
theorem s_19_5 {d : Nat} {Q : wQ} {L : List (Option Value)} {st : List Value} {w : aw} {cn sn : Nat}  : wp d 19 Q 5 L st w cn sn = wp d 19 Q 6 L (.int 1 :: st) w cn sn := w_iconst d_19_5 (by decide)
theorem d_19_6 : decode (mB 19) 6 = .ok (.iadd, 1) := by decide +kernel
theorem s_19_6 {d : Nat} {Q : wQ} {L : List (Option Value)} {st : List Value} {w : aw} {cn sn : Nat} {a b : Int32} : wp d 19 Q 6 L (.int b :: .int a :: st) w cn sn = wp d 19 Q 7 L (.int (a + b) :: st) w cn sn := wp_row d_19_6 _ _ _ _ _
theorem d_19_7 : decode (mB 19) 7 = .ok (.putfield 83, 3) := by decide +kernel
theorem s_19_7 {d : Nat} {Q : wQ} {L : List (Option Value)} {st : List Value} {w : aw} {cn sn : Nat} {x : Int32} {a : Nat} : wp d 19 Q 7 L (.int x :: .ref a :: st) w cn sn = (kd w a = 2 ∧ wp d 19 Q 10 L st (uF w 75 a (.int x)) cn sn) := w_putfield d_19_7 (by decide +kernel : fT (mO 19) 83 = some (1, 11)) (by decide +kernel) ok_int
theorem d_19_10 : decode (mB 19) 10 = .ok (.aload_n 0, 1) := by decide +kernel
theorem s_19_10 {d : Nat} {Q : wQ} {L : List (Option Value)} {st : List Value} {w : aw} {cn sn : Nat} {v : Nat} : wp d 19 Q 10 (some (.ref v) :: L) st w cn sn = wp d 19 Q 11 (some (.ref v) :: L) (.ref v :: st) w cn sn := w_aload_n d_19_10 rfl
theorem d_19_11 : decode (mB 19) 11 = .ok (.getfield 24, 3) := by decide +kernel
theorem s_19_11 {d : Nat} {Q : wQ} {L : List (Option Value)} {st : List Value} {w : aw} {cn sn : Nat} {a : Nat} : wp d 19 Q 11 L (.ref a :: st) w cn sn = (kd w a = 2 ∧ wp d 19 Q 14 L (fd w 64 a :: st) w cn sn) := w_getfield d_19_11 (by decide +kernel : fT (mO 19) 24 = some (1, 0))
theorem d_19_14 : decode (mB 19) 14 = .ok (.astore_n 1, 1) := by decide +kernel
theorem s_19_14 {d : Nat} {Q : wQ} {L : List (Option Value)} {st : List Value} {w : aw} {cn sn : Nat} {a0 a1 : Option Value} {v : Nat} : wp d 19 Q 14 (a0 :: a1 :: L) (.ref v :: st) w cn sn = wp d 19 Q 15 (clr a0 :: some (.ref v) :: L) st w cn sn := w_astore_n d_19_14 (Nat.le_add_left 2 _) rfl
theorem s_19_14n {d : Nat} {Q : wQ} {L : List (Option Value)} {st : List Value} {w : aw} {cn sn : Nat} {a0 a1 : Option Value} : wp d 19 Q 14 (a0 :: a1 :: L) (.null :: st) w cn sn = wp d 19 Q 15 (clr a0 :: some .null :: L) st w cn sn := w_astore_nN d_19_14 (Nat.le_add_left 2 _) rfl
theorem d_19_15 : decode (mB 19) 15 = .ok (.aload_n 1, 1) := by decide +kernel
theorem s_19_15 {d : Nat} {Q : wQ} {L : List (Option Value)} {st : List Value} {w : aw} {cn sn : Nat} {a0 : Option Value} {v : Nat} : wp d 19 Q 15 (a0 :: some (.ref v) :: L) st w cn sn = wp d 19 Q 16 (a0 :: some (.ref v) :: L) (.ref v :: st) w cn sn := w_aload_n d_19_15 rfl
theorem s_19_15n {d : Nat} {Q : wQ} {L : List (Option Value)} {st : List Value} {w : aw} {cn sn : Nat} {a0 : Option Value} : wp d 19 Q 15 (a0 :: some .null :: L) st w cn sn = wp d 19 Q 16 (a0 :: some .null :: L) (.null :: st) w cn sn := w_aload_nN d_19_15 rfl
theorem d_19_16 : decode (mB 19) 16 = .ok (.arraylength, 1) := by decide +kernel
theorem s_19_16 {d : Nat} {Q : wQ} {L : List (Option Value)} {st : List Value} {w : aw} {cn sn : Nat} {a : Nat} : wp d 19 Q 16 L (.ref a :: st) w cn sn = ((tyA (kd w a)).isSome = true ∧ wp d 19 Q 17 L (.int (nI (ln w a)) :: st) w cn sn) := wp_row d_19_16 _ _ _ _ _
theorem d_19_17 : decode (mB 19) 17 = .ok (.istore_n 2, 1) := by decide +kernel
theorem s_19_17 {d : Nat} {Q : wQ} {L : List (Option Value)} {st : List Value} {w : aw} {cn sn : Nat} {a0 a1 a2 : Option Value} {v : Int32} : wp d 19 Q 17 (a0 :: a1 :: a2 :: L) (.int v :: st) w cn sn = wp d 19 Q 18 (a0 :: clr a1 :: some (.int v) :: L) st w cn sn := w_istore_n d_19_17 (Nat.le_add_left 3 _) rfl
theorem d_19_18 : decode (mB 19) 18 = .ok (.iconst 0, 1) := by decide +kernel
theorem s_19_18 {d : Nat} {Q : wQ} {L : List (Option Value)} {st : List Value} {w : aw} {cn sn : Nat}  : wp d 19 Q 18 L st w cn sn = wp d 19 Q 19 L (.int 0 :: st) w cn sn := w_iconst d_19_18 (by decide)
theorem d_19_19 : decode (mB 19) 19 = .ok (.istore_n 3, 1) := by decide +kernel
theorem s_19_19 {d : Nat} {Q : wQ} {L : List (Option Value)} {st : List Value} {w : aw} {cn sn : Nat} {a0 a1 a2 a3 : Option Value} {v : Int32} : wp d 19 Q 19 (a0 :: a1 :: a2 :: a3 :: L) (.int v :: st) w cn sn = wp d 19 Q 20 (a0 :: a1 :: clr a2 :: some (.int v) :: L) st w cn sn := w_istore_n d_19_19 (Nat.le_add_left 4 _) rfl
theorem d_19_20 : decode (mB 19) 20 = .ok (.iload_n 3, 1) := by decide +kernel
theorem s_19_20 {d : Nat} {Q : wQ} {L : List (Option Value)} {st : List Value} {w : aw} {cn sn : Nat} {a0 a1 a2 : Option Value} {v : Int32} : wp d 19 Q 20 (a0 :: a1 :: a2 :: some (.int v) :: L) st w cn sn = wp d 19 Q 21 (a0 :: a1 :: a2 :: some (.int v) :: L) (.int v :: st) w cn sn := w_iload_n d_19_20 rfl
theorem d_19_21 : decode (mB 19) 21 = .ok (.iload_n 2, 1) := by decide +kernel
theorem s_19_21 {d : Nat} {Q : wQ} {L : List (Option Value)} {st : List Value} {w : aw} {cn sn : Nat} {a0 a1 : Option Value} {v : Int32} : wp d 19 Q 21 (a0 :: a1 :: some (.int v) :: L) st w cn sn = wp d 19 Q 22 (a0 :: a1 :: some (.int v) :: L) (.int v :: st) w cn sn := w_iload_n d_19_21 rfl
theorem d_19_22 : decode (mB 19) 22 = .ok (.if_icmp .ge 25, 3) := by decide +kernel
theorem s_19_22 {d : Nat} {Q : wQ} {L : List (Option Value)} {st : List Value} {w : aw} {cn sn : Nat} {a b : Int32} : wp d 19 Q 22 L (.int b :: .int a :: st) w cn sn = ((b ≤ a → wp d 19 Q 47 L st w cn sn) ∧ (¬ b ≤ a → wp d 19 Q 25 L st w cn sn)) := w_icge d_19_22 (by decide)
theorem d_19_25 : decode (mB 19) 25 = .ok (.aload_n 1, 1) := by decide +kernel
theorem s_19_25 {d : Nat} {Q : wQ} {L : List (Option Value)} {st : List Value} {w : aw} {cn sn : Nat} {a0 : Option Value} {v : Nat} : wp d 19 Q 25 (a0 :: some (.ref v) :: L) st w cn sn = wp d 19 Q 26 (a0 :: some (.ref v) :: L) (.ref v :: st) w cn sn := w_aload_n d_19_25 rfl
theorem s_19_25n {d : Nat} {Q : wQ} {L : List (Option Value)} {st : List Value} {w : aw} {cn sn : Nat} {a0 : Option Value} : wp d 19 Q 25 (a0 :: some .null :: L) st w cn sn = wp d 19 Q 26 (a0 :: some .null :: L) (.null :: st) w cn sn := w_aload_nN d_19_25 rfl
theorem d_19_26 : decode (mB 19) 26 = .ok (.iload_n 3, 1) := by decide +kernel
theorem s_19_26 {d : Nat} {Q : wQ} {L : List (Option Value)} {st : List Value} {w : aw} {cn sn : Nat} {a0 a1 a2 : Option Value} {v : Int32} : wp d 19 Q 26 (a0 :: a1 :: a2 :: some (.int v) :: L) st w cn sn = wp d 19 Q 27 (a0 :: a1 :: a2 :: some (.int v) :: L) (.int v :: st) w cn sn := w_iload_n d_19_26 rfl
theorem d_19_27 : decode (mB 19) 27 = .ok (.aaload, 1) := by decide +kernel
theorem s_19_27 {d : Nat} {Q : wQ} {L : List (Option Value)} {st : List Value} {w : aw} {cn sn : Nat} {a : Nat} {i : Int32} : wp d 19 Q 27 L (.int i :: .ref a :: st) w cn sn = (kd w a = 24 ∧ inR i (ln w a) ∧ wp d 19 Q 28 L (va_rf (ar w a i.toNatClampNeg) :: st) w cn sn) := wp_row d_19_27 _ _ _ _ _
theorem d_19_28 : decode (mB 19) 28 = .ok (.astore 4, 2) := by decide +kernel
theorem s_19_28 {d : Nat} {Q : wQ} {L : List (Option Value)} {st : List Value} {w : aw} {cn sn : Nat} {a0 a1 a2 a3 a4 : Option Value} {v : Nat} : wp d 19 Q 28 (a0 :: a1 :: a2 :: a3 :: a4 :: L) (.ref v :: st) w cn sn = wp d 19 Q 30 (a0 :: a1 :: a2 :: clr a3 :: some (.ref v) :: L) st w cn sn := w_astore d_19_28 (Nat.le_add_left 5 _) rfl
theorem s_19_28n {d : Nat} {Q : wQ} {L : List (Option Value)} {st : List Value} {w : aw} {cn sn : Nat} {a0 a1 a2 a3 a4 : Option Value} : wp d 19 Q 28 (a0 :: a1 :: a2 :: a3 :: a4 :: L) (.null :: st) w cn sn = wp d 19 Q 30 (a0 :: a1 :: a2 :: clr a3 :: some .null :: L) st w cn sn := w_astoreN d_19_28 (Nat.le_add_left 5 _) rfl
theorem d_19_30 : decode (mB 19) 30 = .ok (.aload 4, 2) := by decide +kernel
theorem s_19_30 {d : Nat} {Q : wQ} {L : List (Option Value)} {st : List Value} {w : aw} {cn sn : Nat} {a0 a1 a2 a3 : Option Value} {v : Nat} : wp d 19 Q 30 (a0 :: a1 :: a2 :: a3 :: some (.ref v) :: L) st w cn sn = wp d 19 Q 32 (a0 :: a1 :: a2 :: a3 :: some (.ref v) :: L) (.ref v :: st) w cn sn := w_aload d_19_30 rfl
theorem s_19_30n {d : Nat} {Q : wQ} {L : List (Option Value)} {st : List Value} {w : aw} {cn sn : Nat} {a0 a1 a2 a3 : Option Value} : wp d 19 Q 30 (a0 :: a1 :: a2 :: a3 :: some .null :: L) st w cn sn = wp d 19 Q 32 (a0 :: a1 :: a2 :: a3 :: some .null :: L) (.null :: st) w cn sn := w_aloadN d_19_30 rfl
theorem d_19_32 : decode (mB 19) 32 = .ok (.ifnull 9, 3) := by decide +kernel
theorem s_19_32 {d : Nat} {Q : wQ} {L : List (Option Value)} {st : List Value} {w : aw} {cn sn : Nat} {q : Nat} : wp d 19 Q 32 L (.ref q :: st) w cn sn = wp d 19 Q 35 L st w cn sn := w_ifnull d_19_32 (t := 41) (by decide)
theorem s_19_32n {d : Nat} {Q : wQ} {L : List (Option Value)} {st : List Value} {w : aw} {cn sn : Nat}  : wp d 19 Q 32 L (.null :: st) w cn sn = wp d 19 Q 41 L st w cn sn := w_ifnullN d_19_32 (t := 41) (by decide)
theorem d_19_35 : decode (mB 19) 35 = .ok (.aload_n 0, 1) := by decide +kernel
theorem s_19_35 {d : Nat} {Q : wQ} {L : List (Option Value)} {st : List Value} {w : aw} {cn sn : Nat} {v : Nat} : wp d 19 Q 35 (some (.ref v) :: L) st w cn sn = wp d 19 Q 36 (some (.ref v) :: L) (.ref v :: st) w cn sn := w_aload_n d_19_35 rfl
theorem d_19_36 : decode (mB 19) 36 = .ok (.aload 4, 2) := by decide +kernel
theorem s_19_36 {d : Nat} {Q : wQ} {L : List (Option Value)} {st : List Value} {w : aw} {cn sn : Nat} {a0 a1 a2 a3 : Option Value} {v : Nat} : wp d 19 Q 36 (a0 :: a1 :: a2 :: a3 :: some (.ref v) :: L) st w cn sn = wp d 19 Q 38 (a0 :: a1 :: a2 :: a3 :: some (.ref v) :: L) (.ref v :: st) w cn sn := w_aload d_19_36 rfl
theorem s_19_36n {d : Nat} {Q : wQ} {L : List (Option Value)} {st : List Value} {w : aw} {cn sn : Nat} {a0 a1 a2 a3 : Option Value} : wp d 19 Q 36 (a0 :: a1 :: a2 :: a3 :: some .null :: L) st w cn sn = wp d 19 Q 38 (a0 :: a1 :: a2 :: a3 :: some .null :: L) (.null :: st) w cn sn := w_aloadN d_19_36 rfl
theorem d_19_38 : decode (mB 19) 38 = .ok (.invokevirtual 86, 3) := by decide +kernel
theorem s_19_38 {d : Nat} {Q : wQ} {L : List (Option Value)} {st : List Value} {w : aw} {cn sn : Nat} {v0 : Value} {b : Nat} : wp d 19 Q 38 L (v0 :: .ref b :: st) w cn sn = (kd w b = 2 ∧ catS st ≤ 8 ∧ wpD d 20 [.ref b, v0] w (fun v w' => wp d 19 Q 41 L (v.toList ++ st) w' cn sn)) := w_virtual (As := [v0]) d_19_38 (by decide +kernel : cT (mO 19) 86 = some (0, 20)) rfl (by decide +kernel) rfl (by decide +kernel) rfl
theorem d_19_41 : decode (mB 19) 41 = .ok (.iinc 3 1, 3) := by decide +kernel
theorem s_19_41 {d : Nat} {Q : wQ} {L : List (Option Value)} {st : List Value} {w : aw} {cn sn : Nat} {a0 a1 a2 : Option Value} {v : Int32} : wp d 19 Q 41 (a0 :: a1 :: a2 :: some (.int v) :: L) st w cn sn = wp d 19 Q 44 (a0 :: a1 :: clr a2 :: some (.int (v + 1)) :: L) st w cn sn := w_iinc d_19_41 rfl (by decide) rfl
theorem d_19_44 : decode (mB 19) 44 = .ok (.goto (-24), 3) := by decide +kernel
theorem s_19_44 {d : Nat} {Q : wQ} {L : List (Option Value)} {st : List Value} {w : aw} {cn sn : Nat}  : wp d 19 Q 44 L st w cn sn = wp d 19 Q 20 L st w cn sn := w_goto d_19_44 (by decide)
theorem d_19_47 : decode (mB 19) 47 = .ok (.aload_n 0, 1) := by decide +kernel
theorem s_19_47 {d : Nat} {Q : wQ} {L : List (Option Value)} {st : List Value} {w : aw} {cn sn : Nat} {v : Nat} : wp d 19 Q 47 (some (.ref v) :: L) st w cn sn = wp d 19 Q 48 (some (.ref v) :: L) (.ref v :: st) w cn sn := w_aload_n d_19_47 rfl
theorem d_19_48 : decode (mB 19) 48 = .ok (.getfield 45, 3) := by decide +kernel
theorem s_19_48 {d : Nat} {Q : wQ} {L : List (Option Value)} {st : List Value} {w : aw} {cn sn : Nat} {a : Nat} : wp d 19 Q 48 L (.ref a :: st) w cn sn = (kd w a = 2 ∧ wp d 19 Q 51 L (fd w 72 a :: st) w cn sn) := w_getfield d_19_48 (by decide +kernel : fT (mO 19) 45 = some (1, 8))
theorem d_19_51 : decode (mB 19) 51 = .ok (.ifnull 11, 3) := by decide +kernel
theorem s_19_51 {d : Nat} {Q : wQ} {L : List (Option Value)} {st : List Value} {w : aw} {cn sn : Nat} {q : Nat} : wp d 19 Q 51 L (.ref q :: st) w cn sn = wp d 19 Q 54 L st w cn sn := w_ifnull d_19_51 (t := 62) (by decide)
theorem s_19_51n {d : Nat} {Q : wQ} {L : List (Option Value)} {st : List Value} {w : aw} {cn sn : Nat}  : wp d 19 Q 51 L (.null :: st) w cn sn = wp d 19 Q 62 L st w cn sn := w_ifnullN d_19_51 (t := 62) (by decide)
theorem d_19_54 : decode (mB 19) 54 = .ok (.aload_n 0, 1) := by decide +kernel
theorem s_19_54 {d : Nat} {Q : wQ} {L : List (Option Value)} {st : List Value} {w : aw} {cn sn : Nat} {v : Nat} : wp d 19 Q 54 (some (.ref v) :: L) st w cn sn = wp d 19 Q 55 (some (.ref v) :: L) (.ref v :: st) w cn sn := w_aload_n d_19_54 rfl
theorem d_19_55 : decode (mB 19) 55 = .ok (.aload_n 0, 1) := by decide +kernel
theorem s_19_55 {d : Nat} {Q : wQ} {L : List (Option Value)} {st : List Value} {w : aw} {cn sn : Nat} {v : Nat} : wp d 19 Q 55 (some (.ref v) :: L) st w cn sn = wp d 19 Q 56 (some (.ref v) :: L) (.ref v :: st) w cn sn := w_aload_n d_19_55 rfl
theorem d_19_56 : decode (mB 19) 56 = .ok (.getfield 45, 3) := by decide +kernel
theorem s_19_56 {d : Nat} {Q : wQ} {L : List (Option Value)} {st : List Value} {w : aw} {cn sn : Nat} {a : Nat} : wp d 19 Q 56 L (.ref a :: st) w cn sn = (kd w a = 2 ∧ wp d 19 Q 59 L (fd w 72 a :: st) w cn sn) := w_getfield d_19_56 (by decide +kernel : fT (mO 19) 45 = some (1, 8))
theorem d_19_59 : decode (mB 19) 59 = .ok (.invokevirtual 89, 3) := by decide +kernel
theorem s_19_59 {d : Nat} {Q : wQ} {L : List (Option Value)} {st : List Value} {w : aw} {cn sn : Nat} {v0 : Value} {b : Nat} : wp d 19 Q 59 L (v0 :: .ref b :: st) w cn sn = (kd w b = 2 ∧ catS st ≤ 8 ∧ wpD d 21 [.ref b, v0] w (fun v w' => wp d 19 Q 62 L (v.toList ++ st) w' cn sn)) := w_virtual (As := [v0]) d_19_59 (by decide +kernel : cT (mO 19) 89 = some (0, 21)) rfl (by decide +kernel) rfl (by decide +kernel) rfl
theorem d_19_62 : decode (mB 19) 62 = .ok (.return_, 1) := by decide +kernel
theorem s_19_62 {d : Nat} {Q : wQ} {L : List (Option Value)} {w : aw} {cn sn : Nat}  : wp d 19 Q 62 L [] w cn sn = Q none w := w_return d_19_62 rfl
theorem d_20_0 : decode (mB 20) 0 = .ok (.aload_n 1, 1) := by decide +kernel
theorem s_20_0 {d : Nat} {Q : wQ} {L : List (Option Value)} {st : List Value} {w : aw} {cn sn : Nat} {a0 : Option Value} {v : Nat} : wp d 20 Q 0 (a0 :: some (.ref v) :: L) st w cn sn = wp d 20 Q 1 (a0 :: some (.ref v) :: L) (.ref v :: st) w cn sn := w_aload_n d_20_0 rfl
theorem s_20_0n {d : Nat} {Q : wQ} {L : List (Option Value)} {st : List Value} {w : aw} {cn sn : Nat} {a0 : Option Value} : wp d 20 Q 0 (a0 :: some .null :: L) st w cn sn = wp d 20 Q 1 (a0 :: some .null :: L) (.null :: st) w cn sn := w_aload_nN d_20_0 rfl
theorem d_20_1 : decode (mB 20) 1 = .ok (.invokevirtual 92, 3) := by decide +kernel
theorem s_20_1 {d : Nat} {Q : wQ} {L : List (Option Value)} {st : List Value} {w : aw} {cn sn : Nat} {b : Nat} : wp d 20 Q 1 L (.ref b :: st) w cn sn = (kd w b = 7 ∧ catS st ≤ 8 ∧ wpD d 72 [.ref b] w (fun v w' => wp d 20 Q 4 L (v.toList ++ st) w' cn sn)) := w_virtual (As := []) d_20_1 (by decide +kernel : cT (mO 20) 92 = some (0, 72)) rfl (by decide +kernel) rfl (by decide +kernel) rfl
theorem d_20_4 : decode (mB 20) 4 = .ok (.ifCond .eq 16, 3) := by decide +kernel
theorem s_20_4 {d : Nat} {Q : wQ} {L : List (Option Value)} {st : List Value} {w : aw} {cn sn : Nat} {x : Int32} : wp d 20 Q 4 L (.int x :: st) w cn sn = ((x = 0 → wp d 20 Q 20 L st w cn sn) ∧ (¬ x = 0 → wp d 20 Q 7 L st w cn sn)) := w_ifeq d_20_4 (by decide)
theorem d_20_7 : decode (mB 20) 7 = .ok (.aload_n 1, 1) := by decide +kernel
theorem s_20_7 {d : Nat} {Q : wQ} {L : List (Option Value)} {st : List Value} {w : aw} {cn sn : Nat} {a0 : Option Value} {v : Nat} : wp d 20 Q 7 (a0 :: some (.ref v) :: L) st w cn sn = wp d 20 Q 8 (a0 :: some (.ref v) :: L) (.ref v :: st) w cn sn := w_aload_n d_20_7 rfl
theorem s_20_7n {d : Nat} {Q : wQ} {L : List (Option Value)} {st : List Value} {w : aw} {cn sn : Nat} {a0 : Option Value} : wp d 20 Q 7 (a0 :: some .null :: L) st w cn sn = wp d 20 Q 8 (a0 :: some .null :: L) (.null :: st) w cn sn := w_aload_nN d_20_7 rfl
theorem d_20_8 : decode (mB 20) 8 = .ok (.getfield 42, 3) := by decide +kernel
theorem s_20_8 {d : Nat} {Q : wQ} {L : List (Option Value)} {st : List Value} {w : aw} {cn sn : Nat} {a : Nat} : wp d 20 Q 8 L (.ref a :: st) w cn sn = (kd w a = 7 ∧ wp d 20 Q 11 L (fd w 394 a :: st) w cn sn) := w_getfield d_20_8 (by decide +kernel : fT (mO 20) 42 = some (6, 10))
theorem d_20_11 : decode (mB 20) 11 = .ok (.iconst 4, 1) := by decide +kernel
theorem s_20_11 {d : Nat} {Q : wQ} {L : List (Option Value)} {st : List Value} {w : aw} {cn sn : Nat}  : wp d 20 Q 11 L st w cn sn = wp d 20 Q 12 L (.int 4 :: st) w cn sn := w_iconst d_20_11 (by decide)
theorem d_20_12 : decode (mB 20) 12 = .ok (.if_icmp .ne 8, 3) := by decide +kernel
theorem s_20_12 {d : Nat} {Q : wQ} {L : List (Option Value)} {st : List Value} {w : aw} {cn sn : Nat} {a b : Int32} : wp d 20 Q 12 L (.int b :: .int a :: st) w cn sn = ((¬ a = b → wp d 20 Q 20 L st w cn sn) ∧ (a = b → wp d 20 Q 15 L st w cn sn)) := w_icne d_20_12 (by decide)
theorem d_20_15 : decode (mB 20) 15 = .ok (.aload_n 0, 1) := by decide +kernel
theorem s_20_15 {d : Nat} {Q : wQ} {L : List (Option Value)} {st : List Value} {w : aw} {cn sn : Nat} {v : Nat} : wp d 20 Q 15 (some (.ref v) :: L) st w cn sn = wp d 20 Q 16 (some (.ref v) :: L) (.ref v :: st) w cn sn := w_aload_n d_20_15 rfl
theorem d_20_16 : decode (mB 20) 16 = .ok (.aload_n 1, 1) := by decide +kernel
theorem s_20_16 {d : Nat} {Q : wQ} {L : List (Option Value)} {st : List Value} {w : aw} {cn sn : Nat} {a0 : Option Value} {v : Nat} : wp d 20 Q 16 (a0 :: some (.ref v) :: L) st w cn sn = wp d 20 Q 17 (a0 :: some (.ref v) :: L) (.ref v :: st) w cn sn := w_aload_n d_20_16 rfl
theorem s_20_16n {d : Nat} {Q : wQ} {L : List (Option Value)} {st : List Value} {w : aw} {cn sn : Nat} {a0 : Option Value} : wp d 20 Q 16 (a0 :: some .null :: L) st w cn sn = wp d 20 Q 17 (a0 :: some .null :: L) (.null :: st) w cn sn := w_aload_nN d_20_16 rfl
theorem d_20_17 : decode (mB 20) 17 = .ok (.invokevirtual 96, 3) := by decide +kernel
theorem s_20_17 {d : Nat} {Q : wQ} {L : List (Option Value)} {st : List Value} {w : aw} {cn sn : Nat} {v0 : Value} {b : Nat} : wp d 20 Q 17 L (v0 :: .ref b :: st) w cn sn = (kd w b = 2 ∧ catS st ≤ 8 ∧ wpD d 14 [.ref b, v0] w (fun v w' => wp d 20 Q 20 L (v.toList ++ st) w' cn sn)) := w_virtual (As := [v0]) d_20_17 (by decide +kernel : cT (mO 20) 96 = some (0, 14)) rfl (by decide +kernel) rfl (by decide +kernel) rfl
theorem d_20_20 : decode (mB 20) 20 = .ok (.aload_n 1, 1) := by decide +kernel
theorem s_20_20 {d : Nat} {Q : wQ} {L : List (Option Value)} {st : List Value} {w : aw} {cn sn : Nat} {a0 : Option Value} {v : Nat} : wp d 20 Q 20 (a0 :: some (.ref v) :: L) st w cn sn = wp d 20 Q 21 (a0 :: some (.ref v) :: L) (.ref v :: st) w cn sn := w_aload_n d_20_20 rfl
theorem s_20_20n {d : Nat} {Q : wQ} {L : List (Option Value)} {st : List Value} {w : aw} {cn sn : Nat} {a0 : Option Value} : wp d 20 Q 20 (a0 :: some .null :: L) st w cn sn = wp d 20 Q 21 (a0 :: some .null :: L) (.null :: st) w cn sn := w_aload_nN d_20_20 rfl
theorem d_20_21 : decode (mB 20) 21 = .ok (.getfield 42, 3) := by decide +kernel
theorem s_20_21 {d : Nat} {Q : wQ} {L : List (Option Value)} {st : List Value} {w : aw} {cn sn : Nat} {a : Nat} : wp d 20 Q 21 L (.ref a :: st) w cn sn = (kd w a = 7 ∧ wp d 20 Q 24 L (fd w 394 a :: st) w cn sn) := w_getfield d_20_21 (by decide +kernel : fT (mO 20) 42 = some (6, 10))
theorem d_20_24 : decode (mB 20) 24 = .ok (.iconst 5, 1) := by decide +kernel
theorem s_20_24 {d : Nat} {Q : wQ} {L : List (Option Value)} {st : List Value} {w : aw} {cn sn : Nat}  : wp d 20 Q 24 L st w cn sn = wp d 20 Q 25 L (.int 5 :: st) w cn sn := w_iconst d_20_24 (by decide)
theorem d_20_25 : decode (mB 20) 25 = .ok (.if_icmp .ne 25, 3) := by decide +kernel
theorem s_20_25 {d : Nat} {Q : wQ} {L : List (Option Value)} {st : List Value} {w : aw} {cn sn : Nat} {a b : Int32} : wp d 20 Q 25 L (.int b :: .int a :: st) w cn sn = ((¬ a = b → wp d 20 Q 50 L st w cn sn) ∧ (a = b → wp d 20 Q 28 L st w cn sn)) := w_icne d_20_25 (by decide)
theorem d_20_28 : decode (mB 20) 28 = .ok (.aload_n 1, 1) := by decide +kernel
theorem s_20_28 {d : Nat} {Q : wQ} {L : List (Option Value)} {st : List Value} {w : aw} {cn sn : Nat} {a0 : Option Value} {v : Nat} : wp d 20 Q 28 (a0 :: some (.ref v) :: L) st w cn sn = wp d 20 Q 29 (a0 :: some (.ref v) :: L) (.ref v :: st) w cn sn := w_aload_n d_20_28 rfl
theorem s_20_28n {d : Nat} {Q : wQ} {L : List (Option Value)} {st : List Value} {w : aw} {cn sn : Nat} {a0 : Option Value} : wp d 20 Q 28 (a0 :: some .null :: L) st w cn sn = wp d 20 Q 29 (a0 :: some .null :: L) (.null :: st) w cn sn := w_aload_nN d_20_28 rfl
theorem d_20_29 : decode (mB 20) 29 = .ok (.dup, 1) := by decide +kernel
theorem s_20_29 {d : Nat} {Q : wQ} {L : List (Option Value)} {st : List Value} {w : aw} {cn sn : Nat} {v : Value} : wp d 20 Q 29 L (v :: st) w cn sn = (v.category = 1 ∧ wp d 20 Q 30 L (v :: v :: st) w cn sn) := wp_row d_20_29 _ _ _ _ _
theorem d_20_30 : decode (mB 20) 30 = .ok (.getfield 99, 3) := by decide +kernel
theorem s_20_30 {d : Nat} {Q : wQ} {L : List (Option Value)} {st : List Value} {w : aw} {cn sn : Nat} {a : Nat} : wp d 20 Q 30 L (.ref a :: st) w cn sn = (kd w a = 7 ∧ wp d 20 Q 33 L (fd w 395 a :: st) w cn sn) := w_getfield d_20_30 (by decide +kernel : fT (mO 20) 99 = some (6, 11))
theorem d_20_33 : decode (mB 20) 33 = .ok (.iconst 1, 1) := by decide +kernel
theorem s_20_33 {d : Nat} {Q : wQ} {L : List (Option Value)} {st : List Value} {w : aw} {cn sn : Nat}  : wp d 20 Q 33 L st w cn sn = wp d 20 Q 34 L (.int 1 :: st) w cn sn := w_iconst d_20_33 (by decide)
theorem d_20_34 : decode (mB 20) 34 = .ok (.isub, 1) := by decide +kernel
theorem s_20_34 {d : Nat} {Q : wQ} {L : List (Option Value)} {st : List Value} {w : aw} {cn sn : Nat} {a b : Int32} : wp d 20 Q 34 L (.int b :: .int a :: st) w cn sn = wp d 20 Q 35 L (.int (a - b) :: st) w cn sn := wp_row d_20_34 _ _ _ _ _
theorem d_20_35 : decode (mB 20) 35 = .ok (.putfield 99, 3) := by decide +kernel
theorem s_20_35 {d : Nat} {Q : wQ} {L : List (Option Value)} {st : List Value} {w : aw} {cn sn : Nat} {x : Int32} {a : Nat} : wp d 20 Q 35 L (.int x :: .ref a :: st) w cn sn = (kd w a = 7 ∧ wp d 20 Q 38 L st (uF w 395 a (.int x)) cn sn) := w_putfield d_20_35 (by decide +kernel : fT (mO 20) 99 = some (6, 11)) (by decide +kernel) ok_int
theorem d_20_38 : decode (mB 20) 38 = .ok (.aload_n 1, 1) := by decide +kernel
theorem s_20_38 {d : Nat} {Q : wQ} {L : List (Option Value)} {st : List Value} {w : aw} {cn sn : Nat} {a0 : Option Value} {v : Nat} : wp d 20 Q 38 (a0 :: some (.ref v) :: L) st w cn sn = wp d 20 Q 39 (a0 :: some (.ref v) :: L) (.ref v :: st) w cn sn := w_aload_n d_20_38 rfl
theorem s_20_38n {d : Nat} {Q : wQ} {L : List (Option Value)} {st : List Value} {w : aw} {cn sn : Nat} {a0 : Option Value} : wp d 20 Q 38 (a0 :: some .null :: L) st w cn sn = wp d 20 Q 39 (a0 :: some .null :: L) (.null :: st) w cn sn := w_aload_nN d_20_38 rfl
theorem d_20_39 : decode (mB 20) 39 = .ok (.getfield 99, 3) := by decide +kernel
theorem s_20_39 {d : Nat} {Q : wQ} {L : List (Option Value)} {st : List Value} {w : aw} {cn sn : Nat} {a : Nat} : wp d 20 Q 39 L (.ref a :: st) w cn sn = (kd w a = 7 ∧ wp d 20 Q 42 L (fd w 395 a :: st) w cn sn) := w_getfield d_20_39 (by decide +kernel : fT (mO 20) 99 = some (6, 11))
theorem d_20_42 : decode (mB 20) 42 = .ok (.ifCond .ne 8, 3) := by decide +kernel
theorem s_20_42 {d : Nat} {Q : wQ} {L : List (Option Value)} {st : List Value} {w : aw} {cn sn : Nat} {x : Int32} : wp d 20 Q 42 L (.int x :: st) w cn sn = ((¬ x = 0 → wp d 20 Q 50 L st w cn sn) ∧ (x = 0 → wp d 20 Q 45 L st w cn sn)) := w_ifne d_20_42 (by decide)
theorem d_20_45 : decode (mB 20) 45 = .ok (.aload_n 0, 1) := by decide +kernel
theorem s_20_45 {d : Nat} {Q : wQ} {L : List (Option Value)} {st : List Value} {w : aw} {cn sn : Nat} {v : Nat} : wp d 20 Q 45 (some (.ref v) :: L) st w cn sn = wp d 20 Q 46 (some (.ref v) :: L) (.ref v :: st) w cn sn := w_aload_n d_20_45 rfl
theorem d_20_46 : decode (mB 20) 46 = .ok (.aload_n 1, 1) := by decide +kernel
theorem s_20_46 {d : Nat} {Q : wQ} {L : List (Option Value)} {st : List Value} {w : aw} {cn sn : Nat} {a0 : Option Value} {v : Nat} : wp d 20 Q 46 (a0 :: some (.ref v) :: L) st w cn sn = wp d 20 Q 47 (a0 :: some (.ref v) :: L) (.ref v :: st) w cn sn := w_aload_n d_20_46 rfl
theorem s_20_46n {d : Nat} {Q : wQ} {L : List (Option Value)} {st : List Value} {w : aw} {cn sn : Nat} {a0 : Option Value} : wp d 20 Q 46 (a0 :: some .null :: L) st w cn sn = wp d 20 Q 47 (a0 :: some .null :: L) (.null :: st) w cn sn := w_aload_nN d_20_46 rfl
theorem d_20_47 : decode (mB 20) 47 = .ok (.invokevirtual 96, 3) := by decide +kernel
theorem s_20_47 {d : Nat} {Q : wQ} {L : List (Option Value)} {st : List Value} {w : aw} {cn sn : Nat} {v0 : Value} {b : Nat} : wp d 20 Q 47 L (v0 :: .ref b :: st) w cn sn = (kd w b = 2 ∧ catS st ≤ 8 ∧ wpD d 14 [.ref b, v0] w (fun v w' => wp d 20 Q 50 L (v.toList ++ st) w' cn sn)) := w_virtual (As := [v0]) d_20_47 (by decide +kernel : cT (mO 20) 96 = some (0, 14)) rfl (by decide +kernel) rfl (by decide +kernel) rfl
theorem d_20_50 : decode (mB 20) 50 = .ok (.return_, 1) := by decide +kernel
theorem s_20_50 {d : Nat} {Q : wQ} {L : List (Option Value)} {w : aw} {cn sn : Nat}  : wp d 20 Q 50 L [] w cn sn = Q none w := w_return d_20_50 rfl
theorem d_21_0 : decode (mB 21) 0 = .ok (.aload_n 1, 1) := by decide +kernel
theorem s_21_0 {d : Nat} {Q : wQ} {L : List (Option Value)} {st : List Value} {w : aw} {cn sn : Nat} {a0 : Option Value} {v : Nat} : wp d 21 Q 0 (a0 :: some (.ref v) :: L) st w cn sn = wp d 21 Q 1 (a0 :: some (.ref v) :: L) (.ref v :: st) w cn sn := w_aload_n d_21_0 rfl
theorem s_21_0n {d : Nat} {Q : wQ} {L : List (Option Value)} {st : List Value} {w : aw} {cn sn : Nat} {a0 : Option Value} : wp d 21 Q 0 (a0 :: some .null :: L) st w cn sn = wp d 21 Q 1 (a0 :: some .null :: L) (.null :: st) w cn sn := w_aload_nN d_21_0 rfl
theorem d_21_1 : decode (mB 21) 1 = .ok (.dup, 1) := by decide +kernel
theorem s_21_1 {d : Nat} {Q : wQ} {L : List (Option Value)} {st : List Value} {w : aw} {cn sn : Nat} {v : Value} : wp d 21 Q 1 L (v :: st) w cn sn = (v.category = 1 ∧ wp d 21 Q 2 L (v :: v :: st) w cn sn) := wp_row d_21_1 _ _ _ _ _
theorem d_21_2 : decode (mB 21) 2 = .ok (.getfield 49, 3) := by decide +kernel
theorem s_21_2 {d : Nat} {Q : wQ} {L : List (Option Value)} {st : List Value} {w : aw} {cn sn : Nat} {a : Nat} : wp d 21 Q 2 L (.ref a :: st) w cn sn = (kd w a = 7 ∧ wp d 21 Q 5 L (fd w 396 a :: st) w cn sn) := w_getfield d_21_2 (by decide +kernel : fT (mO 21) 49 = some (6, 12))
theorem d_21_5 : decode (mB 21) 5 = .ok (.iconst 1, 1) := by decide +kernel
theorem s_21_5 {d : Nat} {Q : wQ} {L : List (Option Value)} {st : List Value} {w : aw} {cn sn : Nat}  : wp d 21 Q 5 L st w cn sn = wp d 21 Q 6 L (.int 1 :: st) w cn sn := w_iconst d_21_5 (by decide)
theorem d_21_6 : decode (mB 21) 6 = .ok (.isub, 1) := by decide +kernel
theorem s_21_6 {d : Nat} {Q : wQ} {L : List (Option Value)} {st : List Value} {w : aw} {cn sn : Nat} {a b : Int32} : wp d 21 Q 6 L (.int b :: .int a :: st) w cn sn = wp d 21 Q 7 L (.int (a - b) :: st) w cn sn := wp_row d_21_6 _ _ _ _ _
theorem d_21_7 : decode (mB 21) 7 = .ok (.putfield 49, 3) := by decide +kernel
theorem s_21_7 {d : Nat} {Q : wQ} {L : List (Option Value)} {st : List Value} {w : aw} {cn sn : Nat} {x : Int32} {a : Nat} : wp d 21 Q 7 L (.int x :: .ref a :: st) w cn sn = (kd w a = 7 ∧ wp d 21 Q 10 L st (uF w 396 a (.int x)) cn sn) := w_putfield d_21_7 (by decide +kernel : fT (mO 21) 49 = some (6, 12)) (by decide +kernel) ok_int
theorem d_21_10 : decode (mB 21) 10 = .ok (.aload_n 1, 1) := by decide +kernel
theorem s_21_10 {d : Nat} {Q : wQ} {L : List (Option Value)} {st : List Value} {w : aw} {cn sn : Nat} {a0 : Option Value} {v : Nat} : wp d 21 Q 10 (a0 :: some (.ref v) :: L) st w cn sn = wp d 21 Q 11 (a0 :: some (.ref v) :: L) (.ref v :: st) w cn sn := w_aload_n d_21_10 rfl
theorem s_21_10n {d : Nat} {Q : wQ} {L : List (Option Value)} {st : List Value} {w : aw} {cn sn : Nat} {a0 : Option Value} : wp d 21 Q 10 (a0 :: some .null :: L) st w cn sn = wp d 21 Q 11 (a0 :: some .null :: L) (.null :: st) w cn sn := w_aload_nN d_21_10 rfl
theorem d_21_11 : decode (mB 21) 11 = .ok (.getfield 49, 3) := by decide +kernel
theorem s_21_11 {d : Nat} {Q : wQ} {L : List (Option Value)} {st : List Value} {w : aw} {cn sn : Nat} {a : Nat} : wp d 21 Q 11 L (.ref a :: st) w cn sn = (kd w a = 7 ∧ wp d 21 Q 14 L (fd w 396 a :: st) w cn sn) := w_getfield d_21_11 (by decide +kernel : fT (mO 21) 49 = some (6, 12))
theorem d_21_14 : decode (mB 21) 14 = .ok (.ifCond .ne 13, 3) := by decide +kernel
theorem s_21_14 {d : Nat} {Q : wQ} {L : List (Option Value)} {st : List Value} {w : aw} {cn sn : Nat} {x : Int32} : wp d 21 Q 14 L (.int x :: st) w cn sn = ((¬ x = 0 → wp d 21 Q 27 L st w cn sn) ∧ (x = 0 → wp d 21 Q 17 L st w cn sn)) := w_ifne d_21_14 (by decide)
theorem d_21_17 : decode (mB 21) 17 = .ok (.aload_n 0, 1) := by decide +kernel
theorem s_21_17 {d : Nat} {Q : wQ} {L : List (Option Value)} {st : List Value} {w : aw} {cn sn : Nat} {v : Nat} : wp d 21 Q 17 (some (.ref v) :: L) st w cn sn = wp d 21 Q 18 (some (.ref v) :: L) (.ref v :: st) w cn sn := w_aload_n d_21_17 rfl
theorem d_21_18 : decode (mB 21) 18 = .ok (.aconst_null, 1) := by decide +kernel
theorem s_21_18 {d : Nat} {Q : wQ} {L : List (Option Value)} {st : List Value} {w : aw} {cn sn : Nat}  : wp d 21 Q 18 L st w cn sn = wp d 21 Q 19 L (.null :: st) w cn sn := w_null d_21_18
theorem d_21_19 : decode (mB 21) 19 = .ok (.putfield 45, 3) := by decide +kernel
theorem s_21_19 {d : Nat} {Q : wQ} {L : List (Option Value)} {st : List Value} {w : aw} {cn sn : Nat} {x : Nat} {a : Nat} : wp d 21 Q 19 L (.ref x :: .ref a :: st) w cn sn = (kd w a = 2 ∧ wp d 21 Q 22 L st (uF w 72 a (.ref x)) cn sn) := w_putfield d_21_19 (by decide +kernel : fT (mO 21) 45 = some (1, 8)) (by decide +kernel) ok_ref
theorem s_21_19n {d : Nat} {Q : wQ} {L : List (Option Value)} {st : List Value} {w : aw} {cn sn : Nat} {a : Nat} : wp d 21 Q 19 L (.null :: .ref a :: st) w cn sn = (kd w a = 2 ∧ wp d 21 Q 22 L st (uF w 72 a (.null)) cn sn) := w_putfield d_21_19 (by decide +kernel : fT (mO 21) 45 = some (1, 8)) (by decide +kernel) ok_null
theorem d_21_22 : decode (mB 21) 22 = .ok (.aload_n 0, 1) := by decide +kernel
theorem s_21_22 {d : Nat} {Q : wQ} {L : List (Option Value)} {st : List Value} {w : aw} {cn sn : Nat} {v : Nat} : wp d 21 Q 22 (some (.ref v) :: L) st w cn sn = wp d 21 Q 23 (some (.ref v) :: L) (.ref v :: st) w cn sn := w_aload_n d_21_22 rfl
theorem d_21_23 : decode (mB 21) 23 = .ok (.aload_n 1, 1) := by decide +kernel
theorem s_21_23 {d : Nat} {Q : wQ} {L : List (Option Value)} {st : List Value} {w : aw} {cn sn : Nat} {a0 : Option Value} {v : Nat} : wp d 21 Q 23 (a0 :: some (.ref v) :: L) st w cn sn = wp d 21 Q 24 (a0 :: some (.ref v) :: L) (.ref v :: st) w cn sn := w_aload_n d_21_23 rfl
theorem s_21_23n {d : Nat} {Q : wQ} {L : List (Option Value)} {st : List Value} {w : aw} {cn sn : Nat} {a0 : Option Value} : wp d 21 Q 23 (a0 :: some .null :: L) st w cn sn = wp d 21 Q 24 (a0 :: some .null :: L) (.null :: st) w cn sn := w_aload_nN d_21_23 rfl
theorem d_21_24 : decode (mB 21) 24 = .ok (.invokevirtual 96, 3) := by decide +kernel
theorem s_21_24 {d : Nat} {Q : wQ} {L : List (Option Value)} {st : List Value} {w : aw} {cn sn : Nat} {v0 : Value} {b : Nat} : wp d 21 Q 24 L (v0 :: .ref b :: st) w cn sn = (kd w b = 2 ∧ catS st ≤ 8 ∧ wpD d 14 [.ref b, v0] w (fun v w' => wp d 21 Q 27 L (v.toList ++ st) w' cn sn)) := w_virtual (As := [v0]) d_21_24 (by decide +kernel : cT (mO 21) 96 = some (0, 14)) rfl (by decide +kernel) rfl (by decide +kernel) rfl
theorem d_21_27 : decode (mB 21) 27 = .ok (.return_, 1) := by decide +kernel
theorem s_21_27 {d : Nat} {Q : wQ} {L : List (Option Value)} {w : aw} {cn sn : Nat}  : wp d 21 Q 27 L [] w cn sn = Q none w := w_return d_21_27 rfl
theorem d_22_0 : decode (mB 22) 0 = .ok (.iload_n 1, 1) := by decide +kernel
theorem s_22_0 {d : Nat} {Q : wQ} {L : List (Option Value)} {st : List Value} {w : aw} {cn sn : Nat} {a0 : Option Value} {v : Int32} : wp d 22 Q 0 (a0 :: some (.int v) :: L) st w cn sn = wp d 22 Q 1 (a0 :: some (.int v) :: L) (.int v :: st) w cn sn := w_iload_n d_22_0 rfl
theorem d_22_1 : decode (mB 22) 1 = .ok (.ifCond .lt 20, 3) := by decide +kernel
theorem s_22_1 {d : Nat} {Q : wQ} {L : List (Option Value)} {st : List Value} {w : aw} {cn sn : Nat} {x : Int32} : wp d 22 Q 1 L (.int x :: st) w cn sn = ((x < 0 → wp d 22 Q 21 L st w cn sn) ∧ (¬ x < 0 → wp d 22 Q 4 L st w cn sn)) := w_iflt d_22_1 (by decide)
theorem d_22_4 : decode (mB 22) 4 = .ok (.iload_n 1, 1) := by decide +kernel
theorem s_22_4 {d : Nat} {Q : wQ} {L : List (Option Value)} {st : List Value} {w : aw} {cn sn : Nat} {a0 : Option Value} {v : Int32} : wp d 22 Q 4 (a0 :: some (.int v) :: L) st w cn sn = wp d 22 Q 5 (a0 :: some (.int v) :: L) (.int v :: st) w cn sn := w_iload_n d_22_4 rfl
theorem d_22_5 : decode (mB 22) 5 = .ok (.aload_n 0, 1) := by decide +kernel
theorem s_22_5 {d : Nat} {Q : wQ} {L : List (Option Value)} {st : List Value} {w : aw} {cn sn : Nat} {v : Nat} : wp d 22 Q 5 (some (.ref v) :: L) st w cn sn = wp d 22 Q 6 (some (.ref v) :: L) (.ref v :: st) w cn sn := w_aload_n d_22_5 rfl
theorem d_22_6 : decode (mB 22) 6 = .ok (.getfield 39, 3) := by decide +kernel
theorem s_22_6 {d : Nat} {Q : wQ} {L : List (Option Value)} {st : List Value} {w : aw} {cn sn : Nat} {a : Nat} : wp d 22 Q 6 L (.ref a :: st) w cn sn = (kd w a = 2 ∧ wp d 22 Q 9 L (fd w 69 a :: st) w cn sn) := w_getfield d_22_6 (by decide +kernel : fT (mO 22) 39 = some (1, 5))
theorem d_22_9 : decode (mB 22) 9 = .ok (.if_icmp .ge 12, 3) := by decide +kernel
theorem s_22_9 {d : Nat} {Q : wQ} {L : List (Option Value)} {st : List Value} {w : aw} {cn sn : Nat} {a b : Int32} : wp d 22 Q 9 L (.int b :: .int a :: st) w cn sn = ((b ≤ a → wp d 22 Q 21 L st w cn sn) ∧ (¬ b ≤ a → wp d 22 Q 12 L st w cn sn)) := w_icge d_22_9 (by decide)
theorem d_22_12 : decode (mB 22) 12 = .ok (.iload_n 1, 1) := by decide +kernel
theorem s_22_12 {d : Nat} {Q : wQ} {L : List (Option Value)} {st : List Value} {w : aw} {cn sn : Nat} {a0 : Option Value} {v : Int32} : wp d 22 Q 12 (a0 :: some (.int v) :: L) st w cn sn = wp d 22 Q 13 (a0 :: some (.int v) :: L) (.int v :: st) w cn sn := w_iload_n d_22_12 rfl
theorem d_22_13 : decode (mB 22) 13 = .ok (.aload_n 0, 1) := by decide +kernel
theorem s_22_13 {d : Nat} {Q : wQ} {L : List (Option Value)} {st : List Value} {w : aw} {cn sn : Nat} {v : Nat} : wp d 22 Q 13 (some (.ref v) :: L) st w cn sn = wp d 22 Q 14 (some (.ref v) :: L) (.ref v :: st) w cn sn := w_aload_n d_22_13 rfl
theorem d_22_14 : decode (mB 22) 14 = .ok (.getfield 11, 3) := by decide +kernel
theorem s_22_14 {d : Nat} {Q : wQ} {L : List (Option Value)} {st : List Value} {w : aw} {cn sn : Nat} {a : Nat} : wp d 22 Q 14 L (.ref a :: st) w cn sn = (kd w a = 2 ∧ wp d 22 Q 17 L (fd w 68 a :: st) w cn sn) := w_getfield d_22_14 (by decide +kernel : fT (mO 22) 11 = some (1, 4))
theorem d_22_17 : decode (mB 22) 17 = .ok (.arraylength, 1) := by decide +kernel
theorem s_22_17 {d : Nat} {Q : wQ} {L : List (Option Value)} {st : List Value} {w : aw} {cn sn : Nat} {a : Nat} : wp d 22 Q 17 L (.ref a :: st) w cn sn = ((tyA (kd w a)).isSome = true ∧ wp d 22 Q 18 L (.int (nI (ln w a)) :: st) w cn sn) := wp_row d_22_17 _ _ _ _ _
theorem d_22_18 : decode (mB 22) 18 = .ok (.if_icmp .lt 5, 3) := by decide +kernel
theorem s_22_18 {d : Nat} {Q : wQ} {L : List (Option Value)} {st : List Value} {w : aw} {cn sn : Nat} {a b : Int32} : wp d 22 Q 18 L (.int b :: .int a :: st) w cn sn = ((a < b → wp d 22 Q 23 L st w cn sn) ∧ (¬ a < b → wp d 22 Q 21 L st w cn sn)) := w_iclt d_22_18 (by decide)
theorem d_22_21 : decode (mB 22) 21 = .ok (.iconst (-1), 1) := by decide +kernel
theorem s_22_21 {d : Nat} {Q : wQ} {L : List (Option Value)} {st : List Value} {w : aw} {cn sn : Nat}  : wp d 22 Q 21 L st w cn sn = wp d 22 Q 22 L (.int (-1) :: st) w cn sn := w_iconst d_22_21 (by decide)
theorem d_22_22 : decode (mB 22) 22 = .ok (.ireturn, 1) := by decide +kernel
theorem s_22_22 {d : Nat} {Q : wQ} {L : List (Option Value)} {w : aw} {cn sn : Nat} {v : Int32} : wp d 22 Q 22 L [.int v] w cn sn = Q (some (.int v)) w := w_ireturn d_22_22 rfl
theorem d_22_23 : decode (mB 22) 23 = .ok (.aload_n 0, 1) := by decide +kernel
theorem s_22_23 {d : Nat} {Q : wQ} {L : List (Option Value)} {st : List Value} {w : aw} {cn sn : Nat} {v : Nat} : wp d 22 Q 23 (some (.ref v) :: L) st w cn sn = wp d 22 Q 24 (some (.ref v) :: L) (.ref v :: st) w cn sn := w_aload_n d_22_23 rfl
theorem d_22_24 : decode (mB 22) 24 = .ok (.getfield 11, 3) := by decide +kernel
theorem s_22_24 {d : Nat} {Q : wQ} {L : List (Option Value)} {st : List Value} {w : aw} {cn sn : Nat} {a : Nat} : wp d 22 Q 24 L (.ref a :: st) w cn sn = (kd w a = 2 ∧ wp d 22 Q 27 L (fd w 68 a :: st) w cn sn) := w_getfield d_22_24 (by decide +kernel : fT (mO 22) 11 = some (1, 4))
theorem d_22_27 : decode (mB 22) 27 = .ok (.iload_n 1, 1) := by decide +kernel
theorem s_22_27 {d : Nat} {Q : wQ} {L : List (Option Value)} {st : List Value} {w : aw} {cn sn : Nat} {a0 : Option Value} {v : Int32} : wp d 22 Q 27 (a0 :: some (.int v) :: L) st w cn sn = wp d 22 Q 28 (a0 :: some (.int v) :: L) (.int v :: st) w cn sn := w_iload_n d_22_27 rfl
theorem d_22_28 : decode (mB 22) 28 = .ok (.aaload, 1) := by decide +kernel
theorem s_22_28 {d : Nat} {Q : wQ} {L : List (Option Value)} {st : List Value} {w : aw} {cn sn : Nat} {a : Nat} {i : Int32} : wp d 22 Q 28 L (.int i :: .ref a :: st) w cn sn = (kd w a = 24 ∧ inR i (ln w a) ∧ wp d 22 Q 29 L (va_rf (ar w a i.toNatClampNeg) :: st) w cn sn) := wp_row d_22_28 _ _ _ _ _
theorem d_22_29 : decode (mB 22) 29 = .ok (.astore_n 2, 1) := by decide +kernel
theorem s_22_29 {d : Nat} {Q : wQ} {L : List (Option Value)} {st : List Value} {w : aw} {cn sn : Nat} {a0 a1 a2 : Option Value} {v : Nat} : wp d 22 Q 29 (a0 :: a1 :: a2 :: L) (.ref v :: st) w cn sn = wp d 22 Q 30 (a0 :: clr a1 :: some (.ref v) :: L) st w cn sn := w_astore_n d_22_29 (Nat.le_add_left 3 _) rfl
theorem s_22_29n {d : Nat} {Q : wQ} {L : List (Option Value)} {st : List Value} {w : aw} {cn sn : Nat} {a0 a1 a2 : Option Value} : wp d 22 Q 29 (a0 :: a1 :: a2 :: L) (.null :: st) w cn sn = wp d 22 Q 30 (a0 :: clr a1 :: some .null :: L) st w cn sn := w_astore_nN d_22_29 (Nat.le_add_left 3 _) rfl
theorem d_22_30 : decode (mB 22) 30 = .ok (.aload_n 2, 1) := by decide +kernel
theorem s_22_30 {d : Nat} {Q : wQ} {L : List (Option Value)} {st : List Value} {w : aw} {cn sn : Nat} {a0 a1 : Option Value} {v : Nat} : wp d 22 Q 30 (a0 :: a1 :: some (.ref v) :: L) st w cn sn = wp d 22 Q 31 (a0 :: a1 :: some (.ref v) :: L) (.ref v :: st) w cn sn := w_aload_n d_22_30 rfl
theorem s_22_30n {d : Nat} {Q : wQ} {L : List (Option Value)} {st : List Value} {w : aw} {cn sn : Nat} {a0 a1 : Option Value} : wp d 22 Q 30 (a0 :: a1 :: some .null :: L) st w cn sn = wp d 22 Q 31 (a0 :: a1 :: some .null :: L) (.null :: st) w cn sn := w_aload_nN d_22_30 rfl
theorem d_22_31 : decode (mB 22) 31 = .ok (.ifnonnull 7, 3) := by decide +kernel
theorem s_22_31 {d : Nat} {Q : wQ} {L : List (Option Value)} {st : List Value} {w : aw} {cn sn : Nat} {q : Nat} : wp d 22 Q 31 L (.ref q :: st) w cn sn = wp d 22 Q 38 L st w cn sn := w_ifnn d_22_31 (t := 38) (by decide)
theorem s_22_31n {d : Nat} {Q : wQ} {L : List (Option Value)} {st : List Value} {w : aw} {cn sn : Nat}  : wp d 22 Q 31 L (.null :: st) w cn sn = wp d 22 Q 34 L st w cn sn := w_ifnnN d_22_31 (t := 38) (by decide)
theorem d_22_34 : decode (mB 22) 34 = .ok (.iconst (-1), 1) := by decide +kernel
theorem s_22_34 {d : Nat} {Q : wQ} {L : List (Option Value)} {st : List Value} {w : aw} {cn sn : Nat}  : wp d 22 Q 34 L st w cn sn = wp d 22 Q 35 L (.int (-1) :: st) w cn sn := w_iconst d_22_34 (by decide)
theorem d_22_35 : decode (mB 22) 35 = .ok (.goto 7, 3) := by decide +kernel
theorem s_22_35 {d : Nat} {Q : wQ} {L : List (Option Value)} {st : List Value} {w : aw} {cn sn : Nat}  : wp d 22 Q 35 L st w cn sn = wp d 22 Q 42 L st w cn sn := w_goto d_22_35 (by decide)
theorem d_22_38 : decode (mB 22) 38 = .ok (.aload_n 2, 1) := by decide +kernel
theorem s_22_38 {d : Nat} {Q : wQ} {L : List (Option Value)} {st : List Value} {w : aw} {cn sn : Nat} {a0 a1 : Option Value} {v : Nat} : wp d 22 Q 38 (a0 :: a1 :: some (.ref v) :: L) st w cn sn = wp d 22 Q 39 (a0 :: a1 :: some (.ref v) :: L) (.ref v :: st) w cn sn := w_aload_n d_22_38 rfl
theorem s_22_38n {d : Nat} {Q : wQ} {L : List (Option Value)} {st : List Value} {w : aw} {cn sn : Nat} {a0 a1 : Option Value} : wp d 22 Q 38 (a0 :: a1 :: some .null :: L) st w cn sn = wp d 22 Q 39 (a0 :: a1 :: some .null :: L) (.null :: st) w cn sn := w_aload_nN d_22_38 rfl
theorem d_22_39 : decode (mB 22) 39 = .ok (.getfield 102, 3) := by decide +kernel
theorem s_22_39 {d : Nat} {Q : wQ} {L : List (Option Value)} {st : List Value} {w : aw} {cn sn : Nat} {a : Nat} : wp d 22 Q 39 L (.ref a :: st) w cn sn = (kd w a = 7 ∧ wp d 22 Q 42 L (fd w 384 a :: st) w cn sn) := w_getfield d_22_39 (by decide +kernel : fT (mO 22) 102 = some (6, 0))
theorem d_22_42 : decode (mB 22) 42 = .ok (.ireturn, 1) := by decide +kernel
theorem s_22_42 {d : Nat} {Q : wQ} {L : List (Option Value)} {w : aw} {cn sn : Nat} {v : Int32} : wp d 22 Q 42 L [.int v] w cn sn = Q (some (.int v)) w := w_ireturn d_22_42 rfl
theorem d_23_0 : decode (mB 23) 0 = .ok (.iload_n 1, 1) := by decide +kernel
theorem s_23_0 {d : Nat} {Q : wQ} {L : List (Option Value)} {st : List Value} {w : aw} {cn sn : Nat} {a0 : Option Value} {v : Int32} : wp d 23 Q 0 (a0 :: some (.int v) :: L) st w cn sn = wp d 23 Q 1 (a0 :: some (.int v) :: L) (.int v :: st) w cn sn := w_iload_n d_23_0 rfl
theorem d_23_1 : decode (mB 23) 1 = .ok (.tableswitch 129 0 10 #[59, 65, 70, 75, 80, 85, 90, 109, 114, 119, 124], 59) := by decide +kernel
theorem s_23_1 {d : Nat} {Q : wQ} {L : List (Option Value)} {st : List Value} {w : aw} {cn sn : Nat} {x : Int32} : wp d 23 Q 1 L (.int x :: st) w cn sn = ((x.toInt < 0 ∨ 10 < x.toInt → wp d 23 Q 130 L st w cn sn) ∧ ∀ (i t : Nat), ([60, 66, 71, 76, 81, 86, 91, 110, 115, 120, 125] : List Nat)[i]? = some t → x.toInt = 0 + i → wp d 23 Q t L st w cn sn) := w_table d_23_1 (by decide) (by decide) (by decide)
theorem d_23_60 : decode (mB 23) 60 = .ok (.aload_n 0, 1) := by decide +kernel
theorem s_23_60 {d : Nat} {Q : wQ} {L : List (Option Value)} {st : List Value} {w : aw} {cn sn : Nat} {v : Nat} : wp d 23 Q 60 (some (.ref v) :: L) st w cn sn = wp d 23 Q 61 (some (.ref v) :: L) (.ref v :: st) w cn sn := w_aload_n d_23_60 rfl
theorem d_23_61 : decode (mB 23) 61 = .ok (.getfield 24, 3) := by decide +kernel
theorem s_23_61 {d : Nat} {Q : wQ} {L : List (Option Value)} {st : List Value} {w : aw} {cn sn : Nat} {a : Nat} : wp d 23 Q 61 L (.ref a :: st) w cn sn = (kd w a = 2 ∧ wp d 23 Q 64 L (fd w 64 a :: st) w cn sn) := w_getfield d_23_61 (by decide +kernel : fT (mO 23) 24 = some (1, 0))
theorem d_23_64 : decode (mB 23) 64 = .ok (.arraylength, 1) := by decide +kernel
theorem s_23_64 {d : Nat} {Q : wQ} {L : List (Option Value)} {st : List Value} {w : aw} {cn sn : Nat} {a : Nat} : wp d 23 Q 64 L (.ref a :: st) w cn sn = ((tyA (kd w a)).isSome = true ∧ wp d 23 Q 65 L (.int (nI (ln w a)) :: st) w cn sn) := wp_row d_23_64 _ _ _ _ _
theorem d_23_65 : decode (mB 23) 65 = .ok (.ireturn, 1) := by decide +kernel
theorem s_23_65 {d : Nat} {Q : wQ} {L : List (Option Value)} {w : aw} {cn sn : Nat} {v : Int32} : wp d 23 Q 65 L [.int v] w cn sn = Q (some (.int v)) w := w_ireturn d_23_65 rfl
theorem d_23_66 : decode (mB 23) 66 = .ok (.aload_n 0, 1) := by decide +kernel
theorem s_23_66 {d : Nat} {Q : wQ} {L : List (Option Value)} {st : List Value} {w : aw} {cn sn : Nat} {v : Nat} : wp d 23 Q 66 (some (.ref v) :: L) st w cn sn = wp d 23 Q 67 (some (.ref v) :: L) (.ref v :: st) w cn sn := w_aload_n d_23_66 rfl
theorem d_23_67 : decode (mB 23) 67 = .ok (.getfield 30, 3) := by decide +kernel
theorem s_23_67 {d : Nat} {Q : wQ} {L : List (Option Value)} {st : List Value} {w : aw} {cn sn : Nat} {a : Nat} : wp d 23 Q 67 L (.ref a :: st) w cn sn = (kd w a = 2 ∧ wp d 23 Q 70 L (fd w 65 a :: st) w cn sn) := w_getfield d_23_67 (by decide +kernel : fT (mO 23) 30 = some (1, 1))
theorem d_23_70 : decode (mB 23) 70 = .ok (.ireturn, 1) := by decide +kernel
theorem s_23_70 {d : Nat} {Q : wQ} {L : List (Option Value)} {w : aw} {cn sn : Nat} {v : Int32} : wp d 23 Q 70 L [.int v] w cn sn = Q (some (.int v)) w := w_ireturn d_23_70 rfl
theorem d_23_71 : decode (mB 23) 71 = .ok (.aload_n 0, 1) := by decide +kernel
theorem s_23_71 {d : Nat} {Q : wQ} {L : List (Option Value)} {st : List Value} {w : aw} {cn sn : Nat} {v : Nat} : wp d 23 Q 71 (some (.ref v) :: L) st w cn sn = wp d 23 Q 72 (some (.ref v) :: L) (.ref v :: st) w cn sn := w_aload_n d_23_71 rfl
theorem d_23_72 : decode (mB 23) 72 = .ok (.getfield 33, 3) := by decide +kernel
theorem s_23_72 {d : Nat} {Q : wQ} {L : List (Option Value)} {st : List Value} {w : aw} {cn sn : Nat} {a : Nat} : wp d 23 Q 72 L (.ref a :: st) w cn sn = (kd w a = 2 ∧ wp d 23 Q 75 L (fd w 66 a :: st) w cn sn) := w_getfield d_23_72 (by decide +kernel : fT (mO 23) 33 = some (1, 2))
theorem d_23_75 : decode (mB 23) 75 = .ok (.ireturn, 1) := by decide +kernel
theorem s_23_75 {d : Nat} {Q : wQ} {L : List (Option Value)} {w : aw} {cn sn : Nat} {v : Int32} : wp d 23 Q 75 L [.int v] w cn sn = Q (some (.int v)) w := w_ireturn d_23_75 rfl
theorem d_23_76 : decode (mB 23) 76 = .ok (.aload_n 0, 1) := by decide +kernel
theorem s_23_76 {d : Nat} {Q : wQ} {L : List (Option Value)} {st : List Value} {w : aw} {cn sn : Nat} {v : Nat} : wp d 23 Q 76 (some (.ref v) :: L) st w cn sn = wp d 23 Q 77 (some (.ref v) :: L) (.ref v :: st) w cn sn := w_aload_n d_23_76 rfl
theorem d_23_77 : decode (mB 23) 77 = .ok (.getfield 36, 3) := by decide +kernel
theorem s_23_77 {d : Nat} {Q : wQ} {L : List (Option Value)} {st : List Value} {w : aw} {cn sn : Nat} {a : Nat} : wp d 23 Q 77 L (.ref a :: st) w cn sn = (kd w a = 2 ∧ wp d 23 Q 80 L (fd w 67 a :: st) w cn sn) := w_getfield d_23_77 (by decide +kernel : fT (mO 23) 36 = some (1, 3))
theorem d_23_80 : decode (mB 23) 80 = .ok (.ireturn, 1) := by decide +kernel
theorem s_23_80 {d : Nat} {Q : wQ} {L : List (Option Value)} {w : aw} {cn sn : Nat} {v : Int32} : wp d 23 Q 80 L [.int v] w cn sn = Q (some (.int v)) w := w_ireturn d_23_80 rfl
theorem d_23_81 : decode (mB 23) 81 = .ok (.aload_n 0, 1) := by decide +kernel
theorem s_23_81 {d : Nat} {Q : wQ} {L : List (Option Value)} {st : List Value} {w : aw} {cn sn : Nat} {v : Nat} : wp d 23 Q 81 (some (.ref v) :: L) st w cn sn = wp d 23 Q 82 (some (.ref v) :: L) (.ref v :: st) w cn sn := w_aload_n d_23_81 rfl
theorem d_23_82 : decode (mB 23) 82 = .ok (.getfield 68, 3) := by decide +kernel
theorem s_23_82 {d : Nat} {Q : wQ} {L : List (Option Value)} {st : List Value} {w : aw} {cn sn : Nat} {a : Nat} : wp d 23 Q 82 L (.ref a :: st) w cn sn = (kd w a = 2 ∧ wp d 23 Q 85 L (fd w 73 a :: st) w cn sn) := w_getfield d_23_82 (by decide +kernel : fT (mO 23) 68 = some (1, 9))
theorem d_23_85 : decode (mB 23) 85 = .ok (.ireturn, 1) := by decide +kernel
theorem s_23_85 {d : Nat} {Q : wQ} {L : List (Option Value)} {w : aw} {cn sn : Nat} {v : Int32} : wp d 23 Q 85 L [.int v] w cn sn = Q (some (.int v)) w := w_ireturn d_23_85 rfl
theorem d_23_86 : decode (mB 23) 86 = .ok (.aload_n 0, 1) := by decide +kernel
theorem s_23_86 {d : Nat} {Q : wQ} {L : List (Option Value)} {st : List Value} {w : aw} {cn sn : Nat} {v : Nat} : wp d 23 Q 86 (some (.ref v) :: L) st w cn sn = wp d 23 Q 87 (some (.ref v) :: L) (.ref v :: st) w cn sn := w_aload_n d_23_86 rfl
theorem d_23_87 : decode (mB 23) 87 = .ok (.getfield 83, 3) := by decide +kernel
theorem s_23_87 {d : Nat} {Q : wQ} {L : List (Option Value)} {st : List Value} {w : aw} {cn sn : Nat} {a : Nat} : wp d 23 Q 87 L (.ref a :: st) w cn sn = (kd w a = 2 ∧ wp d 23 Q 90 L (fd w 75 a :: st) w cn sn) := w_getfield d_23_87 (by decide +kernel : fT (mO 23) 83 = some (1, 11))
theorem d_23_90 : decode (mB 23) 90 = .ok (.ireturn, 1) := by decide +kernel
theorem s_23_90 {d : Nat} {Q : wQ} {L : List (Option Value)} {w : aw} {cn sn : Nat} {v : Int32} : wp d 23 Q 90 L [.int v] w cn sn = Q (some (.int v)) w := w_ireturn d_23_90 rfl
theorem d_23_91 : decode (mB 23) 91 = .ok (.aload_n 0, 1) := by decide +kernel
theorem s_23_91 {d : Nat} {Q : wQ} {L : List (Option Value)} {st : List Value} {w : aw} {cn sn : Nat} {v : Nat} : wp d 23 Q 91 (some (.ref v) :: L) st w cn sn = wp d 23 Q 92 (some (.ref v) :: L) (.ref v :: st) w cn sn := w_aload_n d_23_91 rfl
theorem d_23_92 : decode (mB 23) 92 = .ok (.getfield 45, 3) := by decide +kernel
theorem s_23_92 {d : Nat} {Q : wQ} {L : List (Option Value)} {st : List Value} {w : aw} {cn sn : Nat} {a : Nat} : wp d 23 Q 92 L (.ref a :: st) w cn sn = (kd w a = 2 ∧ wp d 23 Q 95 L (fd w 72 a :: st) w cn sn) := w_getfield d_23_92 (by decide +kernel : fT (mO 23) 45 = some (1, 8))
theorem d_23_95 : decode (mB 23) 95 = .ok (.ifnonnull 7, 3) := by decide +kernel
theorem s_23_95 {d : Nat} {Q : wQ} {L : List (Option Value)} {st : List Value} {w : aw} {cn sn : Nat} {q : Nat} : wp d 23 Q 95 L (.ref q :: st) w cn sn = wp d 23 Q 102 L st w cn sn := w_ifnn d_23_95 (t := 102) (by decide)
theorem s_23_95n {d : Nat} {Q : wQ} {L : List (Option Value)} {st : List Value} {w : aw} {cn sn : Nat}  : wp d 23 Q 95 L (.null :: st) w cn sn = wp d 23 Q 98 L st w cn sn := w_ifnnN d_23_95 (t := 102) (by decide)
theorem d_23_98 : decode (mB 23) 98 = .ok (.iconst (-1), 1) := by decide +kernel
theorem s_23_98 {d : Nat} {Q : wQ} {L : List (Option Value)} {st : List Value} {w : aw} {cn sn : Nat}  : wp d 23 Q 98 L st w cn sn = wp d 23 Q 99 L (.int (-1) :: st) w cn sn := w_iconst d_23_98 (by decide)
theorem d_23_99 : decode (mB 23) 99 = .ok (.goto 10, 3) := by decide +kernel
theorem s_23_99 {d : Nat} {Q : wQ} {L : List (Option Value)} {st : List Value} {w : aw} {cn sn : Nat}  : wp d 23 Q 99 L st w cn sn = wp d 23 Q 109 L st w cn sn := w_goto d_23_99 (by decide)
theorem d_23_102 : decode (mB 23) 102 = .ok (.aload_n 0, 1) := by decide +kernel
theorem s_23_102 {d : Nat} {Q : wQ} {L : List (Option Value)} {st : List Value} {w : aw} {cn sn : Nat} {v : Nat} : wp d 23 Q 102 (some (.ref v) :: L) st w cn sn = wp d 23 Q 103 (some (.ref v) :: L) (.ref v :: st) w cn sn := w_aload_n d_23_102 rfl
theorem d_23_103 : decode (mB 23) 103 = .ok (.getfield 45, 3) := by decide +kernel
theorem s_23_103 {d : Nat} {Q : wQ} {L : List (Option Value)} {st : List Value} {w : aw} {cn sn : Nat} {a : Nat} : wp d 23 Q 103 L (.ref a :: st) w cn sn = (kd w a = 2 ∧ wp d 23 Q 106 L (fd w 72 a :: st) w cn sn) := w_getfield d_23_103 (by decide +kernel : fT (mO 23) 45 = some (1, 8))
theorem d_23_106 : decode (mB 23) 106 = .ok (.getfield 102, 3) := by decide +kernel
theorem s_23_106 {d : Nat} {Q : wQ} {L : List (Option Value)} {st : List Value} {w : aw} {cn sn : Nat} {a : Nat} : wp d 23 Q 106 L (.ref a :: st) w cn sn = (kd w a = 7 ∧ wp d 23 Q 109 L (fd w 384 a :: st) w cn sn) := w_getfield d_23_106 (by decide +kernel : fT (mO 23) 102 = some (6, 0))
theorem d_23_109 : decode (mB 23) 109 = .ok (.ireturn, 1) := by decide +kernel
theorem s_23_109 {d : Nat} {Q : wQ} {L : List (Option Value)} {w : aw} {cn sn : Nat} {v : Int32} : wp d 23 Q 109 L [.int v] w cn sn = Q (some (.int v)) w := w_ireturn d_23_109 rfl
theorem d_23_110 : decode (mB 23) 110 = .ok (.aload_n 0, 1) := by decide +kernel
theorem s_23_110 {d : Nat} {Q : wQ} {L : List (Option Value)} {st : List Value} {w : aw} {cn sn : Nat} {v : Nat} : wp d 23 Q 110 (some (.ref v) :: L) st w cn sn = wp d 23 Q 111 (some (.ref v) :: L) (.ref v :: st) w cn sn := w_aload_n d_23_110 rfl
theorem d_23_111 : decode (mB 23) 111 = .ok (.getfield 39, 3) := by decide +kernel
theorem s_23_111 {d : Nat} {Q : wQ} {L : List (Option Value)} {st : List Value} {w : aw} {cn sn : Nat} {a : Nat} : wp d 23 Q 111 L (.ref a :: st) w cn sn = (kd w a = 2 ∧ wp d 23 Q 114 L (fd w 69 a :: st) w cn sn) := w_getfield d_23_111 (by decide +kernel : fT (mO 23) 39 = some (1, 5))
theorem d_23_114 : decode (mB 23) 114 = .ok (.ireturn, 1) := by decide +kernel
theorem s_23_114 {d : Nat} {Q : wQ} {L : List (Option Value)} {w : aw} {cn sn : Nat} {v : Int32} : wp d 23 Q 114 L [.int v] w cn sn = Q (some (.int v)) w := w_ireturn d_23_114 rfl
theorem d_23_115 : decode (mB 23) 115 = .ok (.aload_n 0, 1) := by decide +kernel
theorem s_23_115 {d : Nat} {Q : wQ} {L : List (Option Value)} {st : List Value} {w : aw} {cn sn : Nat} {v : Nat} : wp d 23 Q 115 (some (.ref v) :: L) st w cn sn = wp d 23 Q 116 (some (.ref v) :: L) (.ref v :: st) w cn sn := w_aload_n d_23_115 rfl
theorem d_23_116 : decode (mB 23) 116 = .ok (.getfield 59, 3) := by decide +kernel
theorem s_23_116 {d : Nat} {Q : wQ} {L : List (Option Value)} {st : List Value} {w : aw} {cn sn : Nat} {a : Nat} : wp d 23 Q 116 L (.ref a :: st) w cn sn = (kd w a = 2 ∧ wp d 23 Q 119 L (fd w 76 a :: st) w cn sn) := w_getfield d_23_116 (by decide +kernel : fT (mO 23) 59 = some (1, 12))
theorem d_23_119 : decode (mB 23) 119 = .ok (.ireturn, 1) := by decide +kernel
theorem s_23_119 {d : Nat} {Q : wQ} {L : List (Option Value)} {w : aw} {cn sn : Nat} {v : Int32} : wp d 23 Q 119 L [.int v] w cn sn = Q (some (.int v)) w := w_ireturn d_23_119 rfl
theorem d_23_120 : decode (mB 23) 120 = .ok (.aload_n 0, 1) := by decide +kernel
theorem s_23_120 {d : Nat} {Q : wQ} {L : List (Option Value)} {st : List Value} {w : aw} {cn sn : Nat} {v : Nat} : wp d 23 Q 120 (some (.ref v) :: L) st w cn sn = wp d 23 Q 121 (some (.ref v) :: L) (.ref v :: st) w cn sn := w_aload_n d_23_120 rfl
theorem d_23_121 : decode (mB 23) 121 = .ok (.getfield 20, 3) := by decide +kernel
theorem s_23_121 {d : Nat} {Q : wQ} {L : List (Option Value)} {st : List Value} {w : aw} {cn sn : Nat} {a : Nat} : wp d 23 Q 121 L (.ref a :: st) w cn sn = (kd w a = 2 ∧ wp d 23 Q 124 L (fd w 71 a :: st) w cn sn) := w_getfield d_23_121 (by decide +kernel : fT (mO 23) 20 = some (1, 7))
theorem d_23_124 : decode (mB 23) 124 = .ok (.ireturn, 1) := by decide +kernel
theorem s_23_124 {d : Nat} {Q : wQ} {L : List (Option Value)} {w : aw} {cn sn : Nat} {v : Int32} : wp d 23 Q 124 L [.int v] w cn sn = Q (some (.int v)) w := w_ireturn d_23_124 rfl
theorem d_23_125 : decode (mB 23) 125 = .ok (.aload_n 0, 1) := by decide +kernel
theorem s_23_125 {d : Nat} {Q : wQ} {L : List (Option Value)} {st : List Value} {w : aw} {cn sn : Nat} {v : Nat} : wp d 23 Q 125 (some (.ref v) :: L) st w cn sn = wp d 23 Q 126 (some (.ref v) :: L) (.ref v :: st) w cn sn := w_aload_n d_23_125 rfl
theorem d_23_126 : decode (mB 23) 126 = .ok (.getfield 65, 3) := by decide +kernel
theorem s_23_126 {d : Nat} {Q : wQ} {L : List (Option Value)} {st : List Value} {w : aw} {cn sn : Nat} {a : Nat} : wp d 23 Q 126 L (.ref a :: st) w cn sn = (kd w a = 2 ∧ wp d 23 Q 129 L (fd w 77 a :: st) w cn sn) := w_getfield d_23_126 (by decide +kernel : fT (mO 23) 65 = some (1, 13))
theorem d_23_129 : decode (mB 23) 129 = .ok (.ireturn, 1) := by decide +kernel
theorem s_23_129 {d : Nat} {Q : wQ} {L : List (Option Value)} {w : aw} {cn sn : Nat} {v : Int32} : wp d 23 Q 129 L [.int v] w cn sn = Q (some (.int v)) w := w_ireturn d_23_129 rfl
theorem d_23_130 : decode (mB 23) 130 = .ok (.iconst (-1), 1) := by decide +kernel
theorem s_23_130 {d : Nat} {Q : wQ} {L : List (Option Value)} {st : List Value} {w : aw} {cn sn : Nat}  : wp d 23 Q 130 L st w cn sn = wp d 23 Q 131 L (.int (-1) :: st) w cn sn := w_iconst d_23_130 (by decide)
theorem d_23_131 : decode (mB 23) 131 = .ok (.ireturn, 1) := by decide +kernel
theorem s_23_131 {d : Nat} {Q : wQ} {L : List (Option Value)} {w : aw} {cn sn : Nat} {v : Int32} : wp d 23 Q 131 L [.int v] w cn sn = Q (some (.int v)) w := w_ireturn d_23_131 rfl
