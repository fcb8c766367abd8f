theorem d_28_0 : decode (mB 28) 0 = .ok (.aload_n 0, 1) := by decide +kernel
theorem s_28_0 {d : Nat} {Q : wQ} {L : List (Option Value)} {st : List Value} {w : aw} {cn sn : Nat} {v : Nat} : wp d 28 Q 0 (some (.ref v) :: L) st w cn sn = wp d 28 Q 1 (some (.ref v) :: L) (.ref v :: st) w cn sn := w_aload_n d_28_0 rfl
theorem d_28_1 : decode (mB 28) 1 = .ok (.invokespecial 3, 3) := by decide +kernel
theorem s_28_1 {d : Nat} {Q : wQ} {L : List (Option Value)} {st : List Value} {w : aw} {cn sn : Nat} {b : Nat} : wp d 28 Q 1 L (.ref b :: st) w cn sn = (catS st ≤ 8 ∧ wp d 28 Q 4 L st w cn sn) := w_objinit d_28_1 (by decide +kernel : cT (mO 28) 3 = some (3, 0))
theorem d_28_4 : decode (mB 28) 4 = .ok (.aload_n 0, 1) := by decide +kernel
theorem s_28_4 {d : Nat} {Q : wQ} {L : List (Option Value)} {st : List Value} {w : aw} {cn sn : Nat} {v : Nat} : wp d 28 Q 4 (some (.ref v) :: L) st w cn sn = wp d 28 Q 5 (some (.ref v) :: L) (.ref v :: st) w cn sn := w_aload_n d_28_4 rfl
theorem d_28_5 : decode (mB 28) 5 = .ok (.sipush 235, 3) := by decide +kernel
theorem s_28_5 {d : Nat} {Q : wQ} {L : List (Option Value)} {st : List Value} {w : aw} {cn sn : Nat}  : wp d 28 Q 5 L st w cn sn = wp d 28 Q 8 L (.int 235 :: st) w cn sn := w_sipush d_28_5 (by decide)
theorem d_28_8 : decode (mB 28) 8 = .ok (.newarray .long, 2) := by decide +kernel
theorem s_28_8 {d : Nat} {Q : wQ} {L : List (Option Value)} {st : List Value} {w : aw} {cn sn : Nat} {v : Int32} : wp d 28 Q 8 L (.int v :: st) w cn sn = (¬ v < 0 ∧ v.toNatClampNeg * 8 ≤ 536870912 ∧ cn + 1 ≤ 2 ∧ sn + v.toNatClampNeg ≤ 470 ∧ wp d 28 Q 10 L (.ref (zs w) :: st) (nw w 22 v.toNatClampNeg) (cn + 1) (sn + v.toNatClampNeg)) := w_newarray d_28_8 rfl (by decide +kernel) (by decide +kernel)
theorem d_28_10 : decode (mB 28) 10 = .ok (.putfield 11, 3) := by decide +kernel
theorem s_28_10 {d : Nat} {Q : wQ} {L : List (Option Value)} {st : List Value} {w : aw} {cn sn : Nat} {x : Nat} {a : Nat} : wp d 28 Q 10 L (.ref x :: .ref a :: st) w cn sn = (kd w a = 4 ∧ wp d 28 Q 13 L st (uF w 192 a (.ref x)) cn sn) := w_putfield d_28_10 (by decide +kernel : fT (mO 28) 11 = some (3, 0)) (by decide +kernel) ok_arr
theorem d_28_13 : decode (mB 28) 13 = .ok (.aload_n 0, 1) := by decide +kernel
theorem s_28_13 {d : Nat} {Q : wQ} {L : List (Option Value)} {st : List Value} {w : aw} {cn sn : Nat} {v : Nat} : wp d 28 Q 13 (some (.ref v) :: L) st w cn sn = wp d 28 Q 14 (some (.ref v) :: L) (.ref v :: st) w cn sn := w_aload_n d_28_13 rfl
theorem d_28_14 : decode (mB 28) 14 = .ok (.sipush 235, 3) := by decide +kernel
theorem s_28_14 {d : Nat} {Q : wQ} {L : List (Option Value)} {st : List Value} {w : aw} {cn sn : Nat}  : wp d 28 Q 14 L st w cn sn = wp d 28 Q 17 L (.int 235 :: st) w cn sn := w_sipush d_28_14 (by decide)
theorem d_28_17 : decode (mB 28) 17 = .ok (.newarray .int, 2) := by decide +kernel
theorem s_28_17 {d : Nat} {Q : wQ} {L : List (Option Value)} {st : List Value} {w : aw} {cn sn : Nat} {v : Int32} : wp d 28 Q 17 L (.int v :: st) w cn sn = (¬ v < 0 ∧ v.toNatClampNeg * 4 ≤ 536870912 ∧ cn + 1 ≤ 2 ∧ sn + v.toNatClampNeg ≤ 470 ∧ wp d 28 Q 19 L (.ref (zs w) :: st) (nw w 20 v.toNatClampNeg) (cn + 1) (sn + v.toNatClampNeg)) := w_newarray d_28_17 rfl (by decide +kernel) (by decide +kernel)
theorem d_28_19 : decode (mB 28) 19 = .ok (.putfield 15, 3) := by decide +kernel
theorem s_28_19 {d : Nat} {Q : wQ} {L : List (Option Value)} {st : List Value} {w : aw} {cn sn : Nat} {x : Nat} {a : Nat} : wp d 28 Q 19 L (.ref x :: .ref a :: st) w cn sn = (kd w a = 4 ∧ wp d 28 Q 22 L st (uF w 193 a (.ref x)) cn sn) := w_putfield d_28_19 (by decide +kernel : fT (mO 28) 15 = some (3, 1)) (by decide +kernel) ok_arr
theorem d_28_22 : decode (mB 28) 22 = .ok (.aload_n 0, 1) := by decide +kernel
theorem s_28_22 {d : Nat} {Q : wQ} {L : List (Option Value)} {st : List Value} {w : aw} {cn sn : Nat} {v : Nat} : wp d 28 Q 22 (some (.ref v) :: L) st w cn sn = wp d 28 Q 23 (some (.ref v) :: L) (.ref v :: st) w cn sn := w_aload_n d_28_22 rfl
theorem d_28_23 : decode (mB 28) 23 = .ok (.ldc 19, 2) := by decide +kernel
theorem d_28_25 : decode (mB 28) 25 = .ok (.getstatic 21, 3) := by decide +kernel
theorem s_28_25 {d : Nat} {Q : wQ} {L : List (Option Value)} {st : List Value} {w : aw} {cn sn : Nat}  : wp d 28 Q 25 L st w cn sn = wp d 28 Q 28 L (fd w 10000 0 :: st) w cn sn := w_getstatic d_28_25 (by decide +kernel : sT (mO 28) 21 = some 0)
theorem d_28_28 : decode (mB 28) 28 = .ok (.invokevirtual 24, 3) := by decide +kernel
theorem s_28_28 {d : Nat} {Q : wQ} {L : List (Option Value)} {st : List Value} {w : aw} {cn sn : Nat} {v0 v1 : Value} {b : Nat} : wp d 28 Q 28 L (v1 :: v0 :: .ref b :: st) w cn sn = (kd w b = 4 ∧ catS st ≤ 8 ∧ wpD d 29 [.ref b, v0, v1] w (fun v w' => wp d 28 Q 31 L (v.toList ++ st) w' cn sn)) := w_virtual (As := [v0, v1]) d_28_28 (by decide +kernel : cT (mO 28) 24 = some (0, 29)) rfl (by decide +kernel) rfl (by decide +kernel) rfl
theorem d_28_31 : decode (mB 28) 31 = .ok (.aload_n 0, 1) := by decide +kernel
theorem s_28_31 {d : Nat} {Q : wQ} {L : List (Option Value)} {st : List Value} {w : aw} {cn sn : Nat} {v : Nat} : wp d 28 Q 31 (some (.ref v) :: L) st w cn sn = wp d 28 Q 32 (some (.ref v) :: L) (.ref v :: st) w cn sn := w_aload_n d_28_31 rfl
theorem d_28_32 : decode (mB 28) 32 = .ok (.ldc 28, 2) := by decide +kernel
theorem d_28_34 : decode (mB 28) 34 = .ok (.getstatic 30, 3) := by decide +kernel
theorem s_28_34 {d : Nat} {Q : wQ} {L : List (Option Value)} {st : List Value} {w : aw} {cn sn : Nat}  : wp d 28 Q 34 L st w cn sn = wp d 28 Q 37 L (fd w 10006 0 :: st) w cn sn := w_getstatic d_28_34 (by decide +kernel : sT (mO 28) 30 = some 6)
theorem d_28_37 : decode (mB 28) 37 = .ok (.invokevirtual 24, 3) := by decide +kernel
theorem s_28_37 {d : Nat} {Q : wQ} {L : List (Option Value)} {st : List Value} {w : aw} {cn sn : Nat} {v0 v1 : Value} {b : Nat} : wp d 28 Q 37 L (v1 :: v0 :: .ref b :: st) w cn sn = (kd w b = 4 ∧ catS st ≤ 8 ∧ wpD d 29 [.ref b, v0, v1] w (fun v w' => wp d 28 Q 40 L (v.toList ++ st) w' cn sn)) := w_virtual (As := [v0, v1]) d_28_37 (by decide +kernel : cT (mO 28) 24 = some (0, 29)) rfl (by decide +kernel) rfl (by decide +kernel) rfl
theorem d_28_40 : decode (mB 28) 40 = .ok (.aload_n 0, 1) := by decide +kernel
theorem s_28_40 {d : Nat} {Q : wQ} {L : List (Option Value)} {st : List Value} {w : aw} {cn sn : Nat} {v : Nat} : wp d 28 Q 40 (some (.ref v) :: L) st w cn sn = wp d 28 Q 41 (some (.ref v) :: L) (.ref v :: st) w cn sn := w_aload_n d_28_40 rfl
theorem d_28_41 : decode (mB 28) 41 = .ok (.ldc 33, 2) := by decide +kernel
theorem d_28_43 : decode (mB 28) 43 = .ok (.getstatic 35, 3) := by decide +kernel
theorem s_28_43 {d : Nat} {Q : wQ} {L : List (Option Value)} {st : List Value} {w : aw} {cn sn : Nat}  : wp d 28 Q 43 L st w cn sn = wp d 28 Q 46 L (fd w 10007 0 :: st) w cn sn := w_getstatic d_28_43 (by decide +kernel : sT (mO 28) 35 = some 7)
theorem d_28_46 : decode (mB 28) 46 = .ok (.invokevirtual 24, 3) := by decide +kernel
theorem s_28_46 {d : Nat} {Q : wQ} {L : List (Option Value)} {st : List Value} {w : aw} {cn sn : Nat} {v0 v1 : Value} {b : Nat} : wp d 28 Q 46 L (v1 :: v0 :: .ref b :: st) w cn sn = (kd w b = 4 ∧ catS st ≤ 8 ∧ wpD d 29 [.ref b, v0, v1] w (fun v w' => wp d 28 Q 49 L (v.toList ++ st) w' cn sn)) := w_virtual (As := [v0, v1]) d_28_46 (by decide +kernel : cT (mO 28) 24 = some (0, 29)) rfl (by decide +kernel) rfl (by decide +kernel) rfl
theorem d_28_49 : decode (mB 28) 49 = .ok (.aload_n 0, 1) := by decide +kernel
theorem s_28_49 {d : Nat} {Q : wQ} {L : List (Option Value)} {st : List Value} {w : aw} {cn sn : Nat} {v : Nat} : wp d 28 Q 49 (some (.ref v) :: L) st w cn sn = wp d 28 Q 50 (some (.ref v) :: L) (.ref v :: st) w cn sn := w_aload_n d_28_49 rfl
theorem d_28_50 : decode (mB 28) 50 = .ok (.ldc 38, 2) := by decide +kernel
theorem d_28_52 : decode (mB 28) 52 = .ok (.getstatic 40, 3) := by decide +kernel
theorem s_28_52 {d : Nat} {Q : wQ} {L : List (Option Value)} {st : List Value} {w : aw} {cn sn : Nat}  : wp d 28 Q 52 L st w cn sn = wp d 28 Q 55 L (fd w 10008 0 :: st) w cn sn := w_getstatic d_28_52 (by decide +kernel : sT (mO 28) 40 = some 8)
theorem d_28_55 : decode (mB 28) 55 = .ok (.invokevirtual 24, 3) := by decide +kernel
theorem s_28_55 {d : Nat} {Q : wQ} {L : List (Option Value)} {st : List Value} {w : aw} {cn sn : Nat} {v0 v1 : Value} {b : Nat} : wp d 28 Q 55 L (v1 :: v0 :: .ref b :: st) w cn sn = (kd w b = 4 ∧ catS st ≤ 8 ∧ wpD d 29 [.ref b, v0, v1] w (fun v w' => wp d 28 Q 58 L (v.toList ++ st) w' cn sn)) := w_virtual (As := [v0, v1]) d_28_55 (by decide +kernel : cT (mO 28) 24 = some (0, 29)) rfl (by decide +kernel) rfl (by decide +kernel) rfl
theorem d_28_58 : decode (mB 28) 58 = .ok (.aload_n 0, 1) := by decide +kernel
theorem s_28_58 {d : Nat} {Q : wQ} {L : List (Option Value)} {st : List Value} {w : aw} {cn sn : Nat} {v : Nat} : wp d 28 Q 58 (some (.ref v) :: L) st w cn sn = wp d 28 Q 59 (some (.ref v) :: L) (.ref v :: st) w cn sn := w_aload_n d_28_58 rfl
theorem d_28_59 : decode (mB 28) 59 = .ok (.lconst 0, 1) := by decide +kernel
theorem s_28_59 {d : Nat} {Q : wQ} {L : List (Option Value)} {st : List Value} {w : aw} {cn sn : Nat}  : wp d 28 Q 59 L st w cn sn = wp d 28 Q 60 L (.long 0 :: st) w cn sn := w_lconst d_28_59 (by decide)
theorem d_28_60 : decode (mB 28) 60 = .ok (.bipush 73, 2) := by decide +kernel
theorem s_28_60 {d : Nat} {Q : wQ} {L : List (Option Value)} {st : List Value} {w : aw} {cn sn : Nat}  : wp d 28 Q 60 L st w cn sn = wp d 28 Q 62 L (.int 73 :: st) w cn sn := w_bipush d_28_60 (by decide)
theorem d_28_62 : decode (mB 28) 62 = .ok (.invokestatic 43, 3) := by decide +kernel
theorem s_28_62 {d : Nat} {Q : wQ} {L : List (Option Value)} {st : List Value} {w : aw} {cn sn : Nat} {v0 v1 : Value} : wp d 28 Q 62 L (v1 :: v0 :: st) w cn sn = (catS st ≤ 8 ∧ wpD d 30 [v0, v1] w (fun v w' => wp d 28 Q 65 L (v.toList ++ st) w' cn sn)) := w_static (As := [v0, v1]) d_28_62 (by decide +kernel : cT (mO 28) 43 = some (2, 30)) rfl (by decide +kernel) rfl
theorem d_28_65 : decode (mB 28) 65 = .ok (.iconst (-1), 1) := by decide +kernel
theorem s_28_65 {d : Nat} {Q : wQ} {L : List (Option Value)} {st : List Value} {w : aw} {cn sn : Nat}  : wp d 28 Q 65 L st w cn sn = wp d 28 Q 66 L (.int (-1) :: st) w cn sn := w_iconst d_28_65 (by decide)
theorem d_28_66 : decode (mB 28) 66 = .ok (.invokevirtual 47, 3) := by decide +kernel
theorem s_28_66 {d : Nat} {Q : wQ} {L : List (Option Value)} {st : List Value} {w : aw} {cn sn : Nat} {v0 v1 : Value} {b : Nat} : wp d 28 Q 66 L (v1 :: v0 :: .ref b :: st) w cn sn = (kd w b = 4 ∧ catS st ≤ 8 ∧ wpD d 31 [.ref b, v0, v1] w (fun v w' => wp d 28 Q 69 L (v.toList ++ st) w' cn sn)) := w_virtual (As := [v0, v1]) d_28_66 (by decide +kernel : cT (mO 28) 47 = some (0, 31)) rfl (by decide +kernel) rfl (by decide +kernel) rfl
theorem d_28_69 : decode (mB 28) 69 = .ok (.return_, 1) := by decide +kernel
theorem s_28_69 {d : Nat} {Q : wQ} {L : List (Option Value)} {w : aw} {cn sn : Nat}  : wp d 28 Q 69 L [] w cn sn = Q none w := w_return d_28_69 rfl
theorem d_29_0 : decode (mB 29) 0 = .ok (.lconst 0, 1) := by decide +kernel
theorem s_29_0 {d : Nat} {Q : wQ} {L : List (Option Value)} {st : List Value} {w : aw} {cn sn : Nat}  : wp d 29 Q 0 L st w cn sn = wp d 29 Q 1 L (.long 0 :: st) w cn sn := w_lconst d_29_0 (by decide)
theorem d_29_1 : decode (mB 29) 1 = .ok (.lstore_n 3, 1) := by decide +kernel
theorem s_29_1 {d : Nat} {Q : wQ} {L : List (Option Value)} {st : List Value} {w : aw} {cn sn : Nat} {a0 a1 a2 a3 a4 : Option Value} {v : Int64} : wp d 29 Q 1 (a0 :: a1 :: a2 :: a3 :: a4 :: L) (.long v :: st) w cn sn = wp d 29 Q 2 (a0 :: a1 :: clr a2 :: some (.long v) :: none :: L) st w cn sn := w_lstore_n d_29_1 (Nat.le_add_left 5 _) rfl
theorem d_29_2 : decode (mB 29) 2 = .ok (.iconst 0, 1) := by decide +kernel
theorem s_29_2 {d : Nat} {Q : wQ} {L : List (Option Value)} {st : List Value} {w : aw} {cn sn : Nat}  : wp d 29 Q 2 L st w cn sn = wp d 29 Q 3 L (.int 0 :: st) w cn sn := w_iconst d_29_2 (by decide)
theorem d_29_3 : decode (mB 29) 3 = .ok (.istore 5, 2) := by decide +kernel
theorem s_29_3 {d : Nat} {Q : wQ} {L : List (Option Value)} {st : List Value} {w : aw} {cn sn : Nat} {a0 a1 a2 a3 a4 a5 : Option Value} {v : Int32} : wp d 29 Q 3 (a0 :: a1 :: a2 :: a3 :: a4 :: a5 :: L) (.int v :: st) w cn sn = wp d 29 Q 5 (a0 :: a1 :: a2 :: a3 :: clr a4 :: some (.int v) :: L) st w cn sn := w_istore d_29_3 (Nat.le_add_left 6 _) rfl
theorem d_29_5 : decode (mB 29) 5 = .ok (.iconst 0, 1) := by decide +kernel
theorem s_29_5 {d : Nat} {Q : wQ} {L : List (Option Value)} {st : List Value} {w : aw} {cn sn : Nat}  : wp d 29 Q 5 L st w cn sn = wp d 29 Q 6 L (.int 0 :: st) w cn sn := w_iconst d_29_5 (by decide)
theorem d_29_6 : decode (mB 29) 6 = .ok (.istore 6, 2) := by decide +kernel
theorem s_29_6 {d : Nat} {Q : wQ} {L : List (Option Value)} {st : List Value} {w : aw} {cn sn : Nat} {a0 a1 a2 a3 a4 a5 a6 : Option Value} {v : Int32} : wp d 29 Q 6 (a0 :: a1 :: a2 :: a3 :: a4 :: a5 :: a6 :: L) (.int v :: st) w cn sn = wp d 29 Q 8 (a0 :: a1 :: a2 :: a3 :: a4 :: clr a5 :: some (.int v) :: L) st w cn sn := w_istore d_29_6 (Nat.le_add_left 7 _) rfl
theorem d_29_8 : decode (mB 29) 8 = .ok (.iload 6, 2) := by decide +kernel
theorem s_29_8 {d : Nat} {Q : wQ} {L : List (Option Value)} {st : List Value} {w : aw} {cn sn : Nat} {a0 a1 a2 a3 a4 a5 : Option Value} {v : Int32} : wp d 29 Q 8 (a0 :: a1 :: a2 :: a3 :: a4 :: a5 :: some (.int v) :: L) st w cn sn = wp d 29 Q 10 (a0 :: a1 :: a2 :: a3 :: a4 :: a5 :: some (.int v) :: L) (.int v :: st) w cn sn := w_iload d_29_8 rfl
theorem d_29_10 : decode (mB 29) 10 = .ok (.aload_n 1, 1) := by decide +kernel
theorem s_29_10 {d : Nat} {Q : wQ} {L : List (Option Value)} {st : List Value} {w : aw} {cn sn : Nat} {a0 : Option Value} {v : Nat} : wp d 29 Q 10 (a0 :: some (.ref v) :: L) st w cn sn = wp d 29 Q 11 (a0 :: some (.ref v) :: L) (.ref v :: st) w cn sn := w_aload_n d_29_10 rfl
theorem s_29_10n {d : Nat} {Q : wQ} {L : List (Option Value)} {st : List Value} {w : aw} {cn sn : Nat} {a0 : Option Value} : wp d 29 Q 10 (a0 :: some .null :: L) st w cn sn = wp d 29 Q 11 (a0 :: some .null :: L) (.null :: st) w cn sn := w_aload_nN d_29_10 rfl
theorem d_29_11 : decode (mB 29) 11 = .ok (.invokevirtual 51, 3) := by decide +kernel
theorem d_29_14 : decode (mB 29) 14 = .ok (.if_icmp .ge 55, 3) := by decide +kernel
theorem s_29_14 {d : Nat} {Q : wQ} {L : List (Option Value)} {st : List Value} {w : aw} {cn sn : Nat} {a b : Int32} : wp d 29 Q 14 L (.int b :: .int a :: st) w cn sn = ((b ≤ a → wp d 29 Q 69 L st w cn sn) ∧ (¬ b ≤ a → wp d 29 Q 17 L st w cn sn)) := w_icge d_29_14 (by decide)
theorem d_29_17 : decode (mB 29) 17 = .ok (.iload 5, 2) := by decide +kernel
theorem s_29_17 {d : Nat} {Q : wQ} {L : List (Option Value)} {st : List Value} {w : aw} {cn sn : Nat} {a0 a1 a2 a3 a4 : Option Value} {v : Int32} : wp d 29 Q 17 (a0 :: a1 :: a2 :: a3 :: a4 :: some (.int v) :: L) st w cn sn = wp d 29 Q 19 (a0 :: a1 :: a2 :: a3 :: a4 :: some (.int v) :: L) (.int v :: st) w cn sn := w_iload d_29_17 rfl
theorem d_29_19 : decode (mB 29) 19 = .ok (.aload_n 2, 1) := by decide +kernel
theorem s_29_19 {d : Nat} {Q : wQ} {L : List (Option Value)} {st : List Value} {w : aw} {cn sn : Nat} {a0 a1 : Option Value} {v : Nat} : wp d 29 Q 19 (a0 :: a1 :: some (.ref v) :: L) st w cn sn = wp d 29 Q 20 (a0 :: a1 :: some (.ref v) :: L) (.ref v :: st) w cn sn := w_aload_n d_29_19 rfl
theorem s_29_19n {d : Nat} {Q : wQ} {L : List (Option Value)} {st : List Value} {w : aw} {cn sn : Nat} {a0 a1 : Option Value} : wp d 29 Q 19 (a0 :: a1 :: some .null :: L) st w cn sn = wp d 29 Q 20 (a0 :: a1 :: some .null :: L) (.null :: st) w cn sn := w_aload_nN d_29_19 rfl
theorem d_29_20 : decode (mB 29) 20 = .ok (.arraylength, 1) := by decide +kernel
theorem s_29_20 {d : Nat} {Q : wQ} {L : List (Option Value)} {st : List Value} {w : aw} {cn sn : Nat} {a : Nat} : wp d 29 Q 20 L (.ref a :: st) w cn sn = ((tyA (kd w a)).isSome = true ∧ wp d 29 Q 21 L (.int (nI (ln w a)) :: st) w cn sn) := wp_row d_29_20 _ _ _ _ _
theorem d_29_21 : decode (mB 29) 21 = .ok (.if_icmp .ge 48, 3) := by decide +kernel
theorem s_29_21 {d : Nat} {Q : wQ} {L : List (Option Value)} {st : List Value} {w : aw} {cn sn : Nat} {a b : Int32} : wp d 29 Q 21 L (.int b :: .int a :: st) w cn sn = ((b ≤ a → wp d 29 Q 69 L st w cn sn) ∧ (¬ b ≤ a → wp d 29 Q 24 L st w cn sn)) := w_icge d_29_21 (by decide)
theorem d_29_24 : decode (mB 29) 24 = .ok (.aload_n 1, 1) := by decide +kernel
theorem s_29_24 {d : Nat} {Q : wQ} {L : List (Option Value)} {st : List Value} {w : aw} {cn sn : Nat} {a0 : Option Value} {v : Nat} : wp d 29 Q 24 (a0 :: some (.ref v) :: L) st w cn sn = wp d 29 Q 25 (a0 :: some (.ref v) :: L) (.ref v :: st) w cn sn := w_aload_n d_29_24 rfl
theorem s_29_24n {d : Nat} {Q : wQ} {L : List (Option Value)} {st : List Value} {w : aw} {cn sn : Nat} {a0 : Option Value} : wp d 29 Q 24 (a0 :: some .null :: L) st w cn sn = wp d 29 Q 25 (a0 :: some .null :: L) (.null :: st) w cn sn := w_aload_nN d_29_24 rfl
theorem d_29_25 : decode (mB 29) 25 = .ok (.iload 6, 2) := by decide +kernel
theorem s_29_25 {d : Nat} {Q : wQ} {L : List (Option Value)} {st : List Value} {w : aw} {cn sn : Nat} {a0 a1 a2 a3 a4 a5 : Option Value} {v : Int32} : wp d 29 Q 25 (a0 :: a1 :: a2 :: a3 :: a4 :: a5 :: some (.int v) :: L) st w cn sn = wp d 29 Q 27 (a0 :: a1 :: a2 :: a3 :: a4 :: a5 :: some (.int v) :: L) (.int v :: st) w cn sn := w_iload d_29_25 rfl
theorem d_29_27 : decode (mB 29) 27 = .ok (.invokevirtual 57, 3) := by decide +kernel
theorem d_29_30 : decode (mB 29) 30 = .ok (.istore 7, 2) := by decide +kernel
theorem s_29_30 {d : Nat} {Q : wQ} {L : List (Option Value)} {st : List Value} {w : aw} {cn sn : Nat} {a0 a1 a2 a3 a4 a5 a6 a7 : Option Value} {v : Int32} : wp d 29 Q 30 (a0 :: a1 :: a2 :: a3 :: a4 :: a5 :: a6 :: a7 :: L) (.int v :: st) w cn sn = wp d 29 Q 32 (a0 :: a1 :: a2 :: a3 :: a4 :: a5 :: clr a6 :: some (.int v) :: L) st w cn sn := w_istore d_29_30 (Nat.le_add_left 8 _) rfl
theorem d_29_32 : decode (mB 29) 32 = .ok (.iload 7, 2) := by decide +kernel
theorem s_29_32 {d : Nat} {Q : wQ} {L : List (Option Value)} {st : List Value} {w : aw} {cn sn : Nat} {a0 a1 a2 a3 a4 a5 a6 : Option Value} {v : Int32} : wp d 29 Q 32 (a0 :: a1 :: a2 :: a3 :: a4 :: a5 :: a6 :: some (.int v) :: L) st w cn sn = wp d 29 Q 34 (a0 :: a1 :: a2 :: a3 :: a4 :: a5 :: a6 :: some (.int v) :: L) (.int v :: st) w cn sn := w_iload d_29_32 rfl
theorem d_29_34 : decode (mB 29) 34 = .ok (.bipush 32, 2) := by decide +kernel
theorem s_29_34 {d : Nat} {Q : wQ} {L : List (Option Value)} {st : List Value} {w : aw} {cn sn : Nat}  : wp d 29 Q 34 L st w cn sn = wp d 29 Q 36 L (.int 32 :: st) w cn sn := w_bipush d_29_34 (by decide)
theorem d_29_36 : decode (mB 29) 36 = .ok (.if_icmp .ne 20, 3) := by decide +kernel
theorem s_29_36 {d : Nat} {Q : wQ} {L : List (Option Value)} {st : List Value} {w : aw} {cn sn : Nat} {a b : Int32} : wp d 29 Q 36 L (.int b :: .int a :: st) w cn sn = ((¬ a = b → wp d 29 Q 56 L st w cn sn) ∧ (a = b → wp d 29 Q 39 L st w cn sn)) := w_icne d_29_36 (by decide)
theorem d_29_39 : decode (mB 29) 39 = .ok (.aload_n 0, 1) := by decide +kernel
theorem s_29_39 {d : Nat} {Q : wQ} {L : List (Option Value)} {st : List Value} {w : aw} {cn sn : Nat} {v : Nat} : wp d 29 Q 39 (some (.ref v) :: L) st w cn sn = wp d 29 Q 40 (some (.ref v) :: L) (.ref v :: st) w cn sn := w_aload_n d_29_39 rfl
theorem d_29_40 : decode (mB 29) 40 = .ok (.lload_n 3, 1) := by decide +kernel
theorem s_29_40 {d : Nat} {Q : wQ} {L : List (Option Value)} {st : List Value} {w : aw} {cn sn : Nat} {a0 a1 a2 : Option Value} {v : Int64} : wp d 29 Q 40 (a0 :: a1 :: a2 :: some (.long v) :: L) st w cn sn = wp d 29 Q 41 (a0 :: a1 :: a2 :: some (.long v) :: L) (.long v :: st) w cn sn := w_lload_n d_29_40 rfl
theorem d_29_41 : decode (mB 29) 41 = .ok (.aload_n 2, 1) := by decide +kernel
theorem s_29_41 {d : Nat} {Q : wQ} {L : List (Option Value)} {st : List Value} {w : aw} {cn sn : Nat} {a0 a1 : Option Value} {v : Nat} : wp d 29 Q 41 (a0 :: a1 :: some (.ref v) :: L) st w cn sn = wp d 29 Q 42 (a0 :: a1 :: some (.ref v) :: L) (.ref v :: st) w cn sn := w_aload_n d_29_41 rfl
theorem s_29_41n {d : Nat} {Q : wQ} {L : List (Option Value)} {st : List Value} {w : aw} {cn sn : Nat} {a0 a1 : Option Value} : wp d 29 Q 41 (a0 :: a1 :: some .null :: L) st w cn sn = wp d 29 Q 42 (a0 :: a1 :: some .null :: L) (.null :: st) w cn sn := w_aload_nN d_29_41 rfl
theorem d_29_42 : decode (mB 29) 42 = .ok (.iload 5, 2) := by decide +kernel
theorem s_29_42 {d : Nat} {Q : wQ} {L : List (Option Value)} {st : List Value} {w : aw} {cn sn : Nat} {a0 a1 a2 a3 a4 : Option Value} {v : Int32} : wp d 29 Q 42 (a0 :: a1 :: a2 :: a3 :: a4 :: some (.int v) :: L) st w cn sn = wp d 29 Q 44 (a0 :: a1 :: a2 :: a3 :: a4 :: some (.int v) :: L) (.int v :: st) w cn sn := w_iload d_29_42 rfl
theorem d_29_44 : decode (mB 29) 44 = .ok (.iaload, 1) := by decide +kernel
theorem s_29_44 {d : Nat} {Q : wQ} {L : List (Option Value)} {st : List Value} {w : aw} {cn sn : Nat} {a : Nat} {i : Int32} : wp d 29 Q 44 L (.int i :: .ref a :: st) w cn sn = ((kd w a = 20 ∨ kd w a = 30) ∧ inR i (ln w a) ∧ wp d 29 Q 45 L (.int (ai w a i.toNatClampNeg) :: st) w cn sn) := wp_row d_29_44 _ _ _ _ _
theorem d_29_45 : decode (mB 29) 45 = .ok (.invokevirtual 47, 3) := by decide +kernel
theorem s_29_45 {d : Nat} {Q : wQ} {L : List (Option Value)} {st : List Value} {w : aw} {cn sn : Nat} {v0 v1 : Value} {b : Nat} : wp d 29 Q 45 L (v1 :: v0 :: .ref b :: st) w cn sn = (kd w b = 4 ∧ catS st ≤ 8 ∧ wpD d 31 [.ref b, v0, v1] w (fun v w' => wp d 29 Q 48 L (v.toList ++ st) w' cn sn)) := w_virtual (As := [v0, v1]) d_29_45 (by decide +kernel : cT (mO 29) 47 = some (0, 31)) rfl (by decide +kernel) rfl (by decide +kernel) rfl
theorem d_29_48 : decode (mB 29) 48 = .ok (.lconst 0, 1) := by decide +kernel
theorem s_29_48 {d : Nat} {Q : wQ} {L : List (Option Value)} {st : List Value} {w : aw} {cn sn : Nat}  : wp d 29 Q 48 L st w cn sn = wp d 29 Q 49 L (.long 0 :: st) w cn sn := w_lconst d_29_48 (by decide)
theorem d_29_49 : decode (mB 29) 49 = .ok (.lstore_n 3, 1) := by decide +kernel
theorem s_29_49 {d : Nat} {Q : wQ} {L : List (Option Value)} {st : List Value} {w : aw} {cn sn : Nat} {a0 a1 a2 a3 a4 : Option Value} {v : Int64} : wp d 29 Q 49 (a0 :: a1 :: a2 :: a3 :: a4 :: L) (.long v :: st) w cn sn = wp d 29 Q 50 (a0 :: a1 :: clr a2 :: some (.long v) :: none :: L) st w cn sn := w_lstore_n d_29_49 (Nat.le_add_left 5 _) rfl
theorem d_29_50 : decode (mB 29) 50 = .ok (.iinc 5 1, 3) := by decide +kernel
theorem s_29_50 {d : Nat} {Q : wQ} {L : List (Option Value)} {st : List Value} {w : aw} {cn sn : Nat} {a0 a1 a2 a3 a4 : Option Value} {v : Int32} : wp d 29 Q 50 (a0 :: a1 :: a2 :: a3 :: a4 :: some (.int v) :: L) st w cn sn = wp d 29 Q 53 (a0 :: a1 :: a2 :: a3 :: clr a4 :: some (.int (v + 1)) :: L) st w cn sn := w_iinc d_29_50 rfl (by decide) rfl
theorem d_29_53 : decode (mB 29) 53 = .ok (.goto 10, 3) := by decide +kernel
theorem s_29_53 {d : Nat} {Q : wQ} {L : List (Option Value)} {st : List Value} {w : aw} {cn sn : Nat}  : wp d 29 Q 53 L st w cn sn = wp d 29 Q 63 L st w cn sn := w_goto d_29_53 (by decide)
theorem d_29_56 : decode (mB 29) 56 = .ok (.lload_n 3, 1) := by decide +kernel
theorem s_29_56 {d : Nat} {Q : wQ} {L : List (Option Value)} {st : List Value} {w : aw} {cn sn : Nat} {a0 a1 a2 : Option Value} {v : Int64} : wp d 29 Q 56 (a0 :: a1 :: a2 :: some (.long v) :: L) st w cn sn = wp d 29 Q 57 (a0 :: a1 :: a2 :: some (.long v) :: L) (.long v :: st) w cn sn := w_lload_n d_29_56 rfl
theorem d_29_57 : decode (mB 29) 57 = .ok (.iload 7, 2) := by decide +kernel
theorem s_29_57 {d : Nat} {Q : wQ} {L : List (Option Value)} {st : List Value} {w : aw} {cn sn : Nat} {a0 a1 a2 a3 a4 a5 a6 : Option Value} {v : Int32} : wp d 29 Q 57 (a0 :: a1 :: a2 :: a3 :: a4 :: a5 :: a6 :: some (.int v) :: L) st w cn sn = wp d 29 Q 59 (a0 :: a1 :: a2 :: a3 :: a4 :: a5 :: a6 :: some (.int v) :: L) (.int v :: st) w cn sn := w_iload d_29_57 rfl
theorem d_29_59 : decode (mB 29) 59 = .ok (.invokestatic 43, 3) := by decide +kernel
theorem s_29_59 {d : Nat} {Q : wQ} {L : List (Option Value)} {st : List Value} {w : aw} {cn sn : Nat} {v0 v1 : Value} : wp d 29 Q 59 L (v1 :: v0 :: st) w cn sn = (catS st ≤ 8 ∧ wpD d 30 [v0, v1] w (fun v w' => wp d 29 Q 62 L (v.toList ++ st) w' cn sn)) := w_static (As := [v0, v1]) d_29_59 (by decide +kernel : cT (mO 29) 43 = some (2, 30)) rfl (by decide +kernel) rfl
theorem d_29_62 : decode (mB 29) 62 = .ok (.lstore_n 3, 1) := by decide +kernel
theorem s_29_62 {d : Nat} {Q : wQ} {L : List (Option Value)} {st : List Value} {w : aw} {cn sn : Nat} {a0 a1 a2 a3 a4 : Option Value} {v : Int64} : wp d 29 Q 62 (a0 :: a1 :: a2 :: a3 :: a4 :: L) (.long v :: st) w cn sn = wp d 29 Q 63 (a0 :: a1 :: clr a2 :: some (.long v) :: none :: L) st w cn sn := w_lstore_n d_29_62 (Nat.le_add_left 5 _) rfl
theorem d_29_63 : decode (mB 29) 63 = .ok (.iinc 6 1, 3) := by decide +kernel
theorem s_29_63 {d : Nat} {Q : wQ} {L : List (Option Value)} {st : List Value} {w : aw} {cn sn : Nat} {a0 a1 a2 a3 a4 a5 : Option Value} {v : Int32} : wp d 29 Q 63 (a0 :: a1 :: a2 :: a3 :: a4 :: a5 :: some (.int v) :: L) st w cn sn = wp d 29 Q 66 (a0 :: a1 :: a2 :: a3 :: a4 :: clr a5 :: some (.int (v + 1)) :: L) st w cn sn := w_iinc d_29_63 rfl (by decide) rfl
theorem d_29_66 : decode (mB 29) 66 = .ok (.goto (-58), 3) := by decide +kernel
theorem s_29_66 {d : Nat} {Q : wQ} {L : List (Option Value)} {st : List Value} {w : aw} {cn sn : Nat}  : wp d 29 Q 66 L st w cn sn = wp d 29 Q 8 L st w cn sn := w_goto d_29_66 (by decide)
theorem d_29_69 : decode (mB 29) 69 = .ok (.return_, 1) := by decide +kernel
theorem s_29_69 {d : Nat} {Q : wQ} {L : List (Option Value)} {w : aw} {cn sn : Nat}  : wp d 29 Q 69 L [] w cn sn = Q none w := w_return d_29_69 rfl
theorem d_30_0 : decode (mB 30) 0 = .ok (.lload_n 0, 1) := by decide +kernel
theorem s_30_0 {d : Nat} {Q : wQ} {L : List (Option Value)} {st : List Value} {w : aw} {cn sn : Nat} {v : Int64} : wp d 30 Q 0 (some (.long v) :: L) st w cn sn = wp d 30 Q 1 (some (.long v) :: L) (.long v :: st) w cn sn := w_lload_n d_30_0 rfl
theorem d_30_1 : decode (mB 30) 1 = .ok (.bipush 8, 2) := by decide +kernel
theorem s_30_1 {d : Nat} {Q : wQ} {L : List (Option Value)} {st : List Value} {w : aw} {cn sn : Nat}  : wp d 30 Q 1 L st w cn sn = wp d 30 Q 3 L (.int 8 :: st) w cn sn := w_bipush d_30_1 (by decide)
theorem d_30_3 : decode (mB 30) 3 = .ok (.lshl, 1) := by decide +kernel
theorem s_30_3 {d : Nat} {Q : wQ} {L : List (Option Value)} {st : List Value} {w : aw} {cn sn : Nat} {a : Int64} {b : Int32} : wp d 30 Q 3 L (.int b :: .long a :: st) w cn sn = wp d 30 Q 4 L (.long (a <<< (b.toInt64 &&& 63)) :: st) w cn sn := wp_row d_30_3 _ _ _ _ _
theorem d_30_4 : decode (mB 30) 4 = .ok (.iload_n 2, 1) := by decide +kernel
theorem s_30_4 {d : Nat} {Q : wQ} {L : List (Option Value)} {st : List Value} {w : aw} {cn sn : Nat} {a0 a1 : Option Value} {v : Int32} : wp d 30 Q 4 (a0 :: a1 :: some (.int v) :: L) st w cn sn = wp d 30 Q 5 (a0 :: a1 :: some (.int v) :: L) (.int v :: st) w cn sn := w_iload_n d_30_4 rfl
theorem d_30_5 : decode (mB 30) 5 = .ok (.i2l, 1) := by decide +kernel
theorem s_30_5 {d : Nat} {Q : wQ} {L : List (Option Value)} {st : List Value} {w : aw} {cn sn : Nat} {a : Int32} : wp d 30 Q 5 L (.int a :: st) w cn sn = wp d 30 Q 6 L (.long a.toInt64 :: st) w cn sn := wp_row d_30_5 _ _ _ _ _
theorem d_30_6 : decode (mB 30) 6 = .ok (.lor, 1) := by decide +kernel
theorem s_30_6 {d : Nat} {Q : wQ} {L : List (Option Value)} {st : List Value} {w : aw} {cn sn : Nat} {a b : Int64} : wp d 30 Q 6 L (.long b :: .long a :: st) w cn sn = wp d 30 Q 7 L (.long (a ||| b) :: st) w cn sn := wp_row d_30_6 _ _ _ _ _
theorem d_30_7 : decode (mB 30) 7 = .ok (.lreturn, 1) := by decide +kernel
theorem s_30_7 {d : Nat} {Q : wQ} {L : List (Option Value)} {w : aw} {cn sn : Nat} {v : Int64} : wp d 30 Q 7 L [.long v] w cn sn = Q (some (.long v)) w := w_lreturn d_30_7 rfl
theorem d_31_0 : decode (mB 31) 0 = .ok (.aload_n 0, 1) := by decide +kernel
theorem s_31_0 {d : Nat} {Q : wQ} {L : List (Option Value)} {st : List Value} {w : aw} {cn sn : Nat} {v : Nat} : wp d 31 Q 0 (some (.ref v) :: L) st w cn sn = wp d 31 Q 1 (some (.ref v) :: L) (.ref v :: st) w cn sn := w_aload_n d_31_0 rfl
theorem d_31_1 : decode (mB 31) 1 = .ok (.getfield 61, 3) := by decide +kernel
theorem s_31_1 {d : Nat} {Q : wQ} {L : List (Option Value)} {st : List Value} {w : aw} {cn sn : Nat} {a : Nat} : wp d 31 Q 1 L (.ref a :: st) w cn sn = (kd w a = 4 ∧ wp d 31 Q 4 L (fd w 194 a :: st) w cn sn) := w_getfield d_31_1 (by decide +kernel : fT (mO 31) 61 = some (3, 2))
theorem d_31_4 : decode (mB 31) 4 = .ok (.aload_n 0, 1) := by decide +kernel
theorem s_31_4 {d : Nat} {Q : wQ} {L : List (Option Value)} {st : List Value} {w : aw} {cn sn : Nat} {v : Nat} : wp d 31 Q 4 (some (.ref v) :: L) st w cn sn = wp d 31 Q 5 (some (.ref v) :: L) (.ref v :: st) w cn sn := w_aload_n d_31_4 rfl
theorem d_31_5 : decode (mB 31) 5 = .ok (.getfield 11, 3) := by decide +kernel
theorem s_31_5 {d : Nat} {Q : wQ} {L : List (Option Value)} {st : List Value} {w : aw} {cn sn : Nat} {a : Nat} : wp d 31 Q 5 L (.ref a :: st) w cn sn = (kd w a = 4 ∧ wp d 31 Q 8 L (fd w 192 a :: st) w cn sn) := w_getfield d_31_5 (by decide +kernel : fT (mO 31) 11 = some (3, 0))
theorem d_31_8 : decode (mB 31) 8 = .ok (.arraylength, 1) := by decide +kernel
theorem s_31_8 {d : Nat} {Q : wQ} {L : List (Option Value)} {st : List Value} {w : aw} {cn sn : Nat} {a : Nat} : wp d 31 Q 8 L (.ref a :: st) w cn sn = ((tyA (kd w a)).isSome = true ∧ wp d 31 Q 9 L (.int (nI (ln w a)) :: st) w cn sn) := wp_row d_31_8 _ _ _ _ _
theorem d_31_9 : decode (mB 31) 9 = .ok (.if_icmp .ge 33, 3) := by decide +kernel
theorem s_31_9 {d : Nat} {Q : wQ} {L : List (Option Value)} {st : List Value} {w : aw} {cn sn : Nat} {a b : Int32} : wp d 31 Q 9 L (.int b :: .int a :: st) w cn sn = ((b ≤ a → wp d 31 Q 42 L st w cn sn) ∧ (¬ b ≤ a → wp d 31 Q 12 L st w cn sn)) := w_icge d_31_9 (by decide)
theorem d_31_12 : decode (mB 31) 12 = .ok (.aload_n 0, 1) := by decide +kernel
theorem s_31_12 {d : Nat} {Q : wQ} {L : List (Option Value)} {st : List Value} {w : aw} {cn sn : Nat} {v : Nat} : wp d 31 Q 12 (some (.ref v) :: L) st w cn sn = wp d 31 Q 13 (some (.ref v) :: L) (.ref v :: st) w cn sn := w_aload_n d_31_12 rfl
theorem d_31_13 : decode (mB 31) 13 = .ok (.getfield 11, 3) := by decide +kernel
theorem s_31_13 {d : Nat} {Q : wQ} {L : List (Option Value)} {st : List Value} {w : aw} {cn sn : Nat} {a : Nat} : wp d 31 Q 13 L (.ref a :: st) w cn sn = (kd w a = 4 ∧ wp d 31 Q 16 L (fd w 192 a :: st) w cn sn) := w_getfield d_31_13 (by decide +kernel : fT (mO 31) 11 = some (3, 0))
theorem d_31_16 : decode (mB 31) 16 = .ok (.aload_n 0, 1) := by decide +kernel
theorem s_31_16 {d : Nat} {Q : wQ} {L : List (Option Value)} {st : List Value} {w : aw} {cn sn : Nat} {v : Nat} : wp d 31 Q 16 (some (.ref v) :: L) st w cn sn = wp d 31 Q 17 (some (.ref v) :: L) (.ref v :: st) w cn sn := w_aload_n d_31_16 rfl
theorem d_31_17 : decode (mB 31) 17 = .ok (.getfield 61, 3) := by decide +kernel
theorem s_31_17 {d : Nat} {Q : wQ} {L : List (Option Value)} {st : List Value} {w : aw} {cn sn : Nat} {a : Nat} : wp d 31 Q 17 L (.ref a :: st) w cn sn = (kd w a = 4 ∧ wp d 31 Q 20 L (fd w 194 a :: st) w cn sn) := w_getfield d_31_17 (by decide +kernel : fT (mO 31) 61 = some (3, 2))
theorem d_31_20 : decode (mB 31) 20 = .ok (.lload_n 1, 1) := by decide +kernel
theorem s_31_20 {d : Nat} {Q : wQ} {L : List (Option Value)} {st : List Value} {w : aw} {cn sn : Nat} {a0 : Option Value} {v : Int64} : wp d 31 Q 20 (a0 :: some (.long v) :: L) st w cn sn = wp d 31 Q 21 (a0 :: some (.long v) :: L) (.long v :: st) w cn sn := w_lload_n d_31_20 rfl
theorem d_31_21 : decode (mB 31) 21 = .ok (.lastore, 1) := by decide +kernel
theorem s_31_21 {d : Nat} {Q : wQ} {L : List (Option Value)} {st : List Value} {w : aw} {cn sn : Nat} {a : Nat} {i : Int32} {x : Int64} : wp d 31 Q 21 L (.long x :: .int i :: .ref a :: st) w cn sn = (kd w a = 22 ∧ inR i (ln w a) ∧ wp d 31 Q 22 L st (uL w a i.toNatClampNeg x) cn sn) := wp_row d_31_21 _ _ _ _ _
theorem d_31_22 : decode (mB 31) 22 = .ok (.aload_n 0, 1) := by decide +kernel
theorem s_31_22 {d : Nat} {Q : wQ} {L : List (Option Value)} {st : List Value} {w : aw} {cn sn : Nat} {v : Nat} : wp d 31 Q 22 (some (.ref v) :: L) st w cn sn = wp d 31 Q 23 (some (.ref v) :: L) (.ref v :: st) w cn sn := w_aload_n d_31_22 rfl
theorem d_31_23 : decode (mB 31) 23 = .ok (.getfield 15, 3) := by decide +kernel
theorem s_31_23 {d : Nat} {Q : wQ} {L : List (Option Value)} {st : List Value} {w : aw} {cn sn : Nat} {a : Nat} : wp d 31 Q 23 L (.ref a :: st) w cn sn = (kd w a = 4 ∧ wp d 31 Q 26 L (fd w 193 a :: st) w cn sn) := w_getfield d_31_23 (by decide +kernel : fT (mO 31) 15 = some (3, 1))
theorem d_31_26 : decode (mB 31) 26 = .ok (.aload_n 0, 1) := by decide +kernel
theorem s_31_26 {d : Nat} {Q : wQ} {L : List (Option Value)} {st : List Value} {w : aw} {cn sn : Nat} {v : Nat} : wp d 31 Q 26 (some (.ref v) :: L) st w cn sn = wp d 31 Q 27 (some (.ref v) :: L) (.ref v :: st) w cn sn := w_aload_n d_31_26 rfl
theorem d_31_27 : decode (mB 31) 27 = .ok (.getfield 61, 3) := by decide +kernel
theorem s_31_27 {d : Nat} {Q : wQ} {L : List (Option Value)} {st : List Value} {w : aw} {cn sn : Nat} {a : Nat} : wp d 31 Q 27 L (.ref a :: st) w cn sn = (kd w a = 4 ∧ wp d 31 Q 30 L (fd w 194 a :: st) w cn sn) := w_getfield d_31_27 (by decide +kernel : fT (mO 31) 61 = some (3, 2))
theorem d_31_30 : decode (mB 31) 30 = .ok (.iload_n 3, 1) := by decide +kernel
theorem s_31_30 {d : Nat} {Q : wQ} {L : List (Option Value)} {st : List Value} {w : aw} {cn sn : Nat} {a0 a1 a2 : Option Value} {v : Int32} : wp d 31 Q 30 (a0 :: a1 :: a2 :: some (.int v) :: L) st w cn sn = wp d 31 Q 31 (a0 :: a1 :: a2 :: some (.int v) :: L) (.int v :: st) w cn sn := w_iload_n d_31_30 rfl
theorem d_31_31 : decode (mB 31) 31 = .ok (.iastore, 1) := by decide +kernel
theorem s_31_31 {d : Nat} {Q : wQ} {L : List (Option Value)} {st : List Value} {w : aw} {cn sn : Nat} {a : Nat} {i x : Int32} : wp d 31 Q 31 L (.int x :: .int i :: .ref a :: st) w cn sn = (kd w a = 20 ∧ inR i (ln w a) ∧ wp d 31 Q 32 L st (uA w a i.toNatClampNeg x) cn sn) := wp_row d_31_31 _ _ _ _ _
theorem d_31_32 : decode (mB 31) 32 = .ok (.aload_n 0, 1) := by decide +kernel
theorem s_31_32 {d : Nat} {Q : wQ} {L : List (Option Value)} {st : List Value} {w : aw} {cn sn : Nat} {v : Nat} : wp d 31 Q 32 (some (.ref v) :: L) st w cn sn = wp d 31 Q 33 (some (.ref v) :: L) (.ref v :: st) w cn sn := w_aload_n d_31_32 rfl
theorem d_31_33 : decode (mB 31) 33 = .ok (.dup, 1) := by decide +kernel
theorem s_31_33 {d : Nat} {Q : wQ} {L : List (Option Value)} {st : List Value} {w : aw} {cn sn : Nat} {v : Value} : wp d 31 Q 33 L (v :: st) w cn sn = (v.category = 1 ∧ wp d 31 Q 34 L (v :: v :: st) w cn sn) := wp_row d_31_33 _ _ _ _ _
theorem d_31_34 : decode (mB 31) 34 = .ok (.getfield 61, 3) := by decide +kernel
theorem s_31_34 {d : Nat} {Q : wQ} {L : List (Option Value)} {st : List Value} {w : aw} {cn sn : Nat} {a : Nat} : wp d 31 Q 34 L (.ref a :: st) w cn sn = (kd w a = 4 ∧ wp d 31 Q 37 L (fd w 194 a :: st) w cn sn) := w_getfield d_31_34 (by decide +kernel : fT (mO 31) 61 = some (3, 2))
theorem d_31_37 : decode (mB 31) 37 = .ok (.iconst 1, 1) := by decide +kernel
theorem s_31_37 {d : Nat} {Q : wQ} {L : List (Option Value)} {st : List Value} {w : aw} {cn sn : Nat}  : wp d 31 Q 37 L st w cn sn = wp d 31 Q 38 L (.int 1 :: st) w cn sn := w_iconst d_31_37 (by decide)
theorem d_31_38 : decode (mB 31) 38 = .ok (.iadd, 1) := by decide +kernel
theorem s_31_38 {d : Nat} {Q : wQ} {L : List (Option Value)} {st : List Value} {w : aw} {cn sn : Nat} {a b : Int32} : wp d 31 Q 38 L (.int b :: .int a :: st) w cn sn = wp d 31 Q 39 L (.int (a + b) :: st) w cn sn := wp_row d_31_38 _ _ _ _ _
theorem d_31_39 : decode (mB 31) 39 = .ok (.putfield 61, 3) := by decide +kernel
theorem s_31_39 {d : Nat} {Q : wQ} {L : List (Option Value)} {st : List Value} {w : aw} {cn sn : Nat} {x : Int32} {a : Nat} : wp d 31 Q 39 L (.int x :: .ref a :: st) w cn sn = (kd w a = 4 ∧ wp d 31 Q 42 L st (uF w 194 a (.int x)) cn sn) := w_putfield d_31_39 (by decide +kernel : fT (mO 31) 61 = some (3, 2)) (by decide +kernel) ok_int
theorem d_31_42 : decode (mB 31) 42 = .ok (.return_, 1) := by decide +kernel
theorem s_31_42 {d : Nat} {Q : wQ} {L : List (Option Value)} {w : aw} {cn sn : Nat}  : wp d 31 Q 42 L [] w cn sn = Q none w := w_return d_31_42 rfl
theorem d_32_0 : decode (mB 32) 0 = .ok (.aload_n 0, 1) := by decide +kernel
theorem s_32_0 {d : Nat} {Q : wQ} {L : List (Option Value)} {st : List Value} {w : aw} {cn sn : Nat} {v : Nat} : wp d 32 Q 0 (some (.ref v) :: L) st w cn sn = wp d 32 Q 1 (some (.ref v) :: L) (.ref v :: st) w cn sn := w_aload_n d_32_0 rfl
theorem d_32_1 : decode (mB 32) 1 = .ok (.bipush 35, 2) := by decide +kernel
theorem s_32_1 {d : Nat} {Q : wQ} {L : List (Option Value)} {st : List Value} {w : aw} {cn sn : Nat}  : wp d 32 Q 1 L st w cn sn = wp d 32 Q 3 L (.int 35 :: st) w cn sn := w_bipush d_32_1 (by decide)
theorem d_32_3 : decode (mB 32) 3 = .ok (.putfield 61, 3) := by decide +kernel
theorem s_32_3 {d : Nat} {Q : wQ} {L : List (Option Value)} {st : List Value} {w : aw} {cn sn : Nat} {x : Int32} {a : Nat} : wp d 32 Q 3 L (.int x :: .ref a :: st) w cn sn = (kd w a = 4 ∧ wp d 32 Q 6 L st (uF w 194 a (.int x)) cn sn) := w_putfield d_32_3 (by decide +kernel : fT (mO 32) 61 = some (3, 2)) (by decide +kernel) ok_int
theorem d_32_6 : decode (mB 32) 6 = .ok (.return_, 1) := by decide +kernel
theorem s_32_6 {d : Nat} {Q : wQ} {L : List (Option Value)} {w : aw} {cn sn : Nat}  : wp d 32 Q 6 L [] w cn sn = Q none w := w_return d_32_6 rfl
theorem d_33_0 : decode (mB 33) 0 = .ok (.iconst 0, 1) := by decide +kernel
theorem s_33_0 {d : Nat} {Q : wQ} {L : List (Option Value)} {st : List Value} {w : aw} {cn sn : Nat}  : wp d 33 Q 0 L st w cn sn = wp d 33 Q 1 L (.int 0 :: st) w cn sn := w_iconst d_33_0 (by decide)
theorem d_33_1 : decode (mB 33) 1 = .ok (.istore_n 3, 1) := by decide +kernel
theorem s_33_1 {d : Nat} {Q : wQ} {L : List (Option Value)} {st : List Value} {w : aw} {cn sn : Nat} {a0 a1 a2 a3 : Option Value} {v : Int32} : wp d 33 Q 1 (a0 :: a1 :: a2 :: a3 :: L) (.int v :: st) w cn sn = wp d 33 Q 2 (a0 :: a1 :: clr a2 :: some (.int v) :: L) st w cn sn := w_istore_n d_33_1 (Nat.le_add_left 4 _) rfl
theorem d_33_2 : decode (mB 33) 2 = .ok (.iload_n 3, 1) := by decide +kernel
theorem s_33_2 {d : Nat} {Q : wQ} {L : List (Option Value)} {st : List Value} {w : aw} {cn sn : Nat} {a0 a1 a2 : Option Value} {v : Int32} : wp d 33 Q 2 (a0 :: a1 :: a2 :: some (.int v) :: L) st w cn sn = wp d 33 Q 3 (a0 :: a1 :: a2 :: some (.int v) :: L) (.int v :: st) w cn sn := w_iload_n d_33_2 rfl
theorem d_33_3 : decode (mB 33) 3 = .ok (.aload_n 0, 1) := by decide +kernel
theorem s_33_3 {d : Nat} {Q : wQ} {L : List (Option Value)} {st : List Value} {w : aw} {cn sn : Nat} {v : Nat} : wp d 33 Q 3 (some (.ref v) :: L) st w cn sn = wp d 33 Q 4 (some (.ref v) :: L) (.ref v :: st) w cn sn := w_aload_n d_33_3 rfl
theorem d_33_4 : decode (mB 33) 4 = .ok (.getfield 61, 3) := by decide +kernel
theorem s_33_4 {d : Nat} {Q : wQ} {L : List (Option Value)} {st : List Value} {w : aw} {cn sn : Nat} {a : Nat} : wp d 33 Q 4 L (.ref a :: st) w cn sn = (kd w a = 4 ∧ wp d 33 Q 7 L (fd w 194 a :: st) w cn sn) := w_getfield d_33_4 (by decide +kernel : fT (mO 33) 61 = some (3, 2))
theorem d_33_7 : decode (mB 33) 7 = .ok (.if_icmp .ge 31, 3) := by decide +kernel
theorem s_33_7 {d : Nat} {Q : wQ} {L : List (Option Value)} {st : List Value} {w : aw} {cn sn : Nat} {a b : Int32} : wp d 33 Q 7 L (.int b :: .int a :: st) w cn sn = ((b ≤ a → wp d 33 Q 38 L st w cn sn) ∧ (¬ b ≤ a → wp d 33 Q 10 L st w cn sn)) := w_icge d_33_7 (by decide)
theorem d_33_10 : decode (mB 33) 10 = .ok (.iload_n 3, 1) := by decide +kernel
theorem s_33_10 {d : Nat} {Q : wQ} {L : List (Option Value)} {st : List Value} {w : aw} {cn sn : Nat} {a0 a1 a2 : Option Value} {v : Int32} : wp d 33 Q 10 (a0 :: a1 :: a2 :: some (.int v) :: L) st w cn sn = wp d 33 Q 11 (a0 :: a1 :: a2 :: some (.int v) :: L) (.int v :: st) w cn sn := w_iload_n d_33_10 rfl
theorem d_33_11 : decode (mB 33) 11 = .ok (.aload_n 0, 1) := by decide +kernel
theorem s_33_11 {d : Nat} {Q : wQ} {L : List (Option Value)} {st : List Value} {w : aw} {cn sn : Nat} {v : Nat} : wp d 33 Q 11 (some (.ref v) :: L) st w cn sn = wp d 33 Q 12 (some (.ref v) :: L) (.ref v :: st) w cn sn := w_aload_n d_33_11 rfl
theorem d_33_12 : decode (mB 33) 12 = .ok (.getfield 11, 3) := by decide +kernel
theorem s_33_12 {d : Nat} {Q : wQ} {L : List (Option Value)} {st : List Value} {w : aw} {cn sn : Nat} {a : Nat} : wp d 33 Q 12 L (.ref a :: st) w cn sn = (kd w a = 4 ∧ wp d 33 Q 15 L (fd w 192 a :: st) w cn sn) := w_getfield d_33_12 (by decide +kernel : fT (mO 33) 11 = some (3, 0))
theorem d_33_15 : decode (mB 33) 15 = .ok (.arraylength, 1) := by decide +kernel
theorem s_33_15 {d : Nat} {Q : wQ} {L : List (Option Value)} {st : List Value} {w : aw} {cn sn : Nat} {a : Nat} : wp d 33 Q 15 L (.ref a :: st) w cn sn = ((tyA (kd w a)).isSome = true ∧ wp d 33 Q 16 L (.int (nI (ln w a)) :: st) w cn sn) := wp_row d_33_15 _ _ _ _ _
theorem d_33_16 : decode (mB 33) 16 = .ok (.if_icmp .ge 22, 3) := by decide +kernel
theorem s_33_16 {d : Nat} {Q : wQ} {L : List (Option Value)} {st : List Value} {w : aw} {cn sn : Nat} {a b : Int32} : wp d 33 Q 16 L (.int b :: .int a :: st) w cn sn = ((b ≤ a → wp d 33 Q 38 L st w cn sn) ∧ (¬ b ≤ a → wp d 33 Q 19 L st w cn sn)) := w_icge d_33_16 (by decide)
theorem d_33_19 : decode (mB 33) 19 = .ok (.aload_n 0, 1) := by decide +kernel
theorem s_33_19 {d : Nat} {Q : wQ} {L : List (Option Value)} {st : List Value} {w : aw} {cn sn : Nat} {v : Nat} : wp d 33 Q 19 (some (.ref v) :: L) st w cn sn = wp d 33 Q 20 (some (.ref v) :: L) (.ref v :: st) w cn sn := w_aload_n d_33_19 rfl
theorem d_33_20 : decode (mB 33) 20 = .ok (.getfield 11, 3) := by decide +kernel
theorem s_33_20 {d : Nat} {Q : wQ} {L : List (Option Value)} {st : List Value} {w : aw} {cn sn : Nat} {a : Nat} : wp d 33 Q 20 L (.ref a :: st) w cn sn = (kd w a = 4 ∧ wp d 33 Q 23 L (fd w 192 a :: st) w cn sn) := w_getfield d_33_20 (by decide +kernel : fT (mO 33) 11 = some (3, 0))
theorem d_33_23 : decode (mB 33) 23 = .ok (.iload_n 3, 1) := by decide +kernel
theorem s_33_23 {d : Nat} {Q : wQ} {L : List (Option Value)} {st : List Value} {w : aw} {cn sn : Nat} {a0 a1 a2 : Option Value} {v : Int32} : wp d 33 Q 23 (a0 :: a1 :: a2 :: some (.int v) :: L) st w cn sn = wp d 33 Q 24 (a0 :: a1 :: a2 :: some (.int v) :: L) (.int v :: st) w cn sn := w_iload_n d_33_23 rfl
theorem d_33_24 : decode (mB 33) 24 = .ok (.laload, 1) := by decide +kernel
theorem s_33_24 {d : Nat} {Q : wQ} {L : List (Option Value)} {st : List Value} {w : aw} {cn sn : Nat} {a : Nat} {i : Int32} : wp d 33 Q 24 L (.int i :: .ref a :: st) w cn sn = (kd w a = 22 ∧ inR i (ln w a) ∧ wp d 33 Q 25 L (.long (al w a i.toNatClampNeg) :: st) w cn sn) := wp_row d_33_24 _ _ _ _ _
theorem d_33_25 : decode (mB 33) 25 = .ok (.lload_n 1, 1) := by decide +kernel
theorem s_33_25 {d : Nat} {Q : wQ} {L : List (Option Value)} {st : List Value} {w : aw} {cn sn : Nat} {a0 : Option Value} {v : Int64} : wp d 33 Q 25 (a0 :: some (.long v) :: L) st w cn sn = wp d 33 Q 26 (a0 :: some (.long v) :: L) (.long v :: st) w cn sn := w_lload_n d_33_25 rfl
theorem d_33_26 : decode (mB 33) 26 = .ok (.lcmp, 1) := by decide +kernel
theorem s_33_26 {d : Nat} {Q : wQ} {L : List (Option Value)} {st : List Value} {w : aw} {cn sn : Nat} {a b : Int64} : wp d 33 Q 26 L (.long b :: .long a :: st) w cn sn = wp d 33 Q 27 L (.int (lg_cmp a b) :: st) w cn sn := wp_row d_33_26 _ _ _ _ _
theorem d_33_27 : decode (mB 33) 27 = .ok (.ifCond .ne 5, 3) := by decide +kernel
theorem s_33_27 {d : Nat} {Q : wQ} {L : List (Option Value)} {st : List Value} {w : aw} {cn sn : Nat} {x : Int32} : wp d 33 Q 27 L (.int x :: st) w cn sn = ((¬ x = 0 → wp d 33 Q 32 L st w cn sn) ∧ (x = 0 → wp d 33 Q 30 L st w cn sn)) := w_ifne d_33_27 (by decide)
theorem d_33_30 : decode (mB 33) 30 = .ok (.iload_n 3, 1) := by decide +kernel
theorem s_33_30 {d : Nat} {Q : wQ} {L : List (Option Value)} {st : List Value} {w : aw} {cn sn : Nat} {a0 a1 a2 : Option Value} {v : Int32} : wp d 33 Q 30 (a0 :: a1 :: a2 :: some (.int v) :: L) st w cn sn = wp d 33 Q 31 (a0 :: a1 :: a2 :: some (.int v) :: L) (.int v :: st) w cn sn := w_iload_n d_33_30 rfl
theorem d_33_31 : decode (mB 33) 31 = .ok (.ireturn, 1) := by decide +kernel
theorem s_33_31 {d : Nat} {Q : wQ} {L : List (Option Value)} {w : aw} {cn sn : Nat} {v : Int32} : wp d 33 Q 31 L [.int v] w cn sn = Q (some (.int v)) w := w_ireturn d_33_31 rfl
theorem d_33_32 : decode (mB 33) 32 = .ok (.iinc 3 1, 3) := by decide +kernel
theorem s_33_32 {d : Nat} {Q : wQ} {L : List (Option Value)} {st : List Value} {w : aw} {cn sn : Nat} {a0 a1 a2 : Option Value} {v : Int32} : wp d 33 Q 32 (a0 :: a1 :: a2 :: some (.int v) :: L) st w cn sn = wp d 33 Q 35 (a0 :: a1 :: clr a2 :: some (.int (v + 1)) :: L) st w cn sn := w_iinc d_33_32 rfl (by decide) rfl
theorem d_33_35 : decode (mB 33) 35 = .ok (.goto (-33), 3) := by decide +kernel
theorem s_33_35 {d : Nat} {Q : wQ} {L : List (Option Value)} {st : List Value} {w : aw} {cn sn : Nat}  : wp d 33 Q 35 L st w cn sn = wp d 33 Q 2 L st w cn sn := w_goto d_33_35 (by decide)
theorem d_33_38 : decode (mB 33) 38 = .ok (.iconst (-1), 1) := by decide +kernel
theorem s_33_38 {d : Nat} {Q : wQ} {L : List (Option Value)} {st : List Value} {w : aw} {cn sn : Nat}  : wp d 33 Q 38 L st w cn sn = wp d 33 Q 39 L (.int (-1) :: st) w cn sn := w_iconst d_33_38 (by decide)
theorem d_33_39 : decode (mB 33) 39 = .ok (.ireturn, 1) := by decide +kernel
theorem s_33_39 {d : Nat} {Q : wQ} {L : List (Option Value)} {w : aw} {cn sn : Nat} {v : Int32} : wp d 33 Q 39 L [.int v] w cn sn = Q (some (.int v)) w := w_ireturn d_33_39 rfl
theorem d_34_0 : decode (mB 34) 0 = .ok (.aload_n 0, 1) := by decide +kernel
theorem s_34_0 {d : Nat} {Q : wQ} {L : List (Option Value)} {st : List Value} {w : aw} {cn sn : Nat} {v : Nat} : wp d 34 Q 0 (some (.ref v) :: L) st w cn sn = wp d 34 Q 1 (some (.ref v) :: L) (.ref v :: st) w cn sn := w_aload_n d_34_0 rfl
theorem d_34_1 : decode (mB 34) 1 = .ok (.lload_n 1, 1) := by decide +kernel
theorem s_34_1 {d : Nat} {Q : wQ} {L : List (Option Value)} {st : List Value} {w : aw} {cn sn : Nat} {a0 : Option Value} {v : Int64} : wp d 34 Q 1 (a0 :: some (.long v) :: L) st w cn sn = wp d 34 Q 2 (a0 :: some (.long v) :: L) (.long v :: st) w cn sn := w_lload_n d_34_1 rfl
theorem d_34_2 : decode (mB 34) 2 = .ok (.invokevirtual 65, 3) := by decide +kernel
theorem s_34_2 {d : Nat} {Q : wQ} {L : List (Option Value)} {st : List Value} {w : aw} {cn sn : Nat} {v0 : Value} {b : Nat} : wp d 34 Q 2 L (v0 :: .ref b :: st) w cn sn = (kd w b = 4 ∧ catS st ≤ 8 ∧ wpD d 33 [.ref b, v0] w (fun v w' => wp d 34 Q 5 L (v.toList ++ st) w' cn sn)) := w_virtual (As := [v0]) d_34_2 (by decide +kernel : cT (mO 34) 65 = some (0, 33)) rfl (by decide +kernel) rfl (by decide +kernel) rfl
theorem d_34_5 : decode (mB 34) 5 = .ok (.istore_n 3, 1) := by decide +kernel
theorem s_34_5 {d : Nat} {Q : wQ} {L : List (Option Value)} {st : List Value} {w : aw} {cn sn : Nat} {a0 a1 a2 a3 : Option Value} {v : Int32} : wp d 34 Q 5 (a0 :: a1 :: a2 :: a3 :: L) (.int v :: st) w cn sn = wp d 34 Q 6 (a0 :: a1 :: clr a2 :: some (.int v) :: L) st w cn sn := w_istore_n d_34_5 (Nat.le_add_left 4 _) rfl
theorem d_34_6 : decode (mB 34) 6 = .ok (.iload_n 3, 1) := by decide +kernel
theorem s_34_6 {d : Nat} {Q : wQ} {L : List (Option Value)} {st : List Value} {w : aw} {cn sn : Nat} {a0 a1 a2 : Option Value} {v : Int32} : wp d 34 Q 6 (a0 :: a1 :: a2 :: some (.int v) :: L) st w cn sn = wp d 34 Q 7 (a0 :: a1 :: a2 :: some (.int v) :: L) (.int v :: st) w cn sn := w_iload_n d_34_6 rfl
theorem d_34_7 : decode (mB 34) 7 = .ok (.ifCond .lt 12, 3) := by decide +kernel
theorem s_34_7 {d : Nat} {Q : wQ} {L : List (Option Value)} {st : List Value} {w : aw} {cn sn : Nat} {x : Int32} : wp d 34 Q 7 L (.int x :: st) w cn sn = ((x < 0 → wp d 34 Q 19 L st w cn sn) ∧ (¬ x < 0 → wp d 34 Q 10 L st w cn sn)) := w_iflt d_34_7 (by decide)
theorem d_34_10 : decode (mB 34) 10 = .ok (.iload_n 3, 1) := by decide +kernel
theorem s_34_10 {d : Nat} {Q : wQ} {L : List (Option Value)} {st : List Value} {w : aw} {cn sn : Nat} {a0 a1 a2 : Option Value} {v : Int32} : wp d 34 Q 10 (a0 :: a1 :: a2 :: some (.int v) :: L) st w cn sn = wp d 34 Q 11 (a0 :: a1 :: a2 :: some (.int v) :: L) (.int v :: st) w cn sn := w_iload_n d_34_10 rfl
theorem d_34_11 : decode (mB 34) 11 = .ok (.aload_n 0, 1) := by decide +kernel
theorem s_34_11 {d : Nat} {Q : wQ} {L : List (Option Value)} {st : List Value} {w : aw} {cn sn : Nat} {v : Nat} : wp d 34 Q 11 (some (.ref v) :: L) st w cn sn = wp d 34 Q 12 (some (.ref v) :: L) (.ref v :: st) w cn sn := w_aload_n d_34_11 rfl
theorem d_34_12 : decode (mB 34) 12 = .ok (.getfield 15, 3) := by decide +kernel
theorem s_34_12 {d : Nat} {Q : wQ} {L : List (Option Value)} {st : List Value} {w : aw} {cn sn : Nat} {a : Nat} : wp d 34 Q 12 L (.ref a :: st) w cn sn = (kd w a = 4 ∧ wp d 34 Q 15 L (fd w 193 a :: st) w cn sn) := w_getfield d_34_12 (by decide +kernel : fT (mO 34) 15 = some (3, 1))
theorem d_34_15 : decode (mB 34) 15 = .ok (.arraylength, 1) := by decide +kernel
theorem s_34_15 {d : Nat} {Q : wQ} {L : List (Option Value)} {st : List Value} {w : aw} {cn sn : Nat} {a : Nat} : wp d 34 Q 15 L (.ref a :: st) w cn sn = ((tyA (kd w a)).isSome = true ∧ wp d 34 Q 16 L (.int (nI (ln w a)) :: st) w cn sn) := wp_row d_34_15 _ _ _ _ _
theorem d_34_16 : decode (mB 34) 16 = .ok (.if_icmp .lt 7, 3) := by decide +kernel
theorem s_34_16 {d : Nat} {Q : wQ} {L : List (Option Value)} {st : List Value} {w : aw} {cn sn : Nat} {a b : Int32} : wp d 34 Q 16 L (.int b :: .int a :: st) w cn sn = ((a < b → wp d 34 Q 23 L st w cn sn) ∧ (¬ a < b → wp d 34 Q 19 L st w cn sn)) := w_iclt d_34_16 (by decide)
theorem d_34_19 : decode (mB 34) 19 = .ok (.iconst (-1), 1) := by decide +kernel
theorem s_34_19 {d : Nat} {Q : wQ} {L : List (Option Value)} {st : List Value} {w : aw} {cn sn : Nat}  : wp d 34 Q 19 L st w cn sn = wp d 34 Q 20 L (.int (-1) :: st) w cn sn := w_iconst d_34_19 (by decide)
theorem d_34_20 : decode (mB 34) 20 = .ok (.goto 9, 3) := by decide +kernel
theorem s_34_20 {d : Nat} {Q : wQ} {L : List (Option Value)} {st : List Value} {w : aw} {cn sn : Nat}  : wp d 34 Q 20 L st w cn sn = wp d 34 Q 29 L st w cn sn := w_goto d_34_20 (by decide)
theorem d_34_23 : decode (mB 34) 23 = .ok (.aload_n 0, 1) := by decide +kernel
theorem s_34_23 {d : Nat} {Q : wQ} {L : List (Option Value)} {st : List Value} {w : aw} {cn sn : Nat} {v : Nat} : wp d 34 Q 23 (some (.ref v) :: L) st w cn sn = wp d 34 Q 24 (some (.ref v) :: L) (.ref v :: st) w cn sn := w_aload_n d_34_23 rfl
theorem d_34_24 : decode (mB 34) 24 = .ok (.getfield 15, 3) := by decide +kernel
theorem s_34_24 {d : Nat} {Q : wQ} {L : List (Option Value)} {st : List Value} {w : aw} {cn sn : Nat} {a : Nat} : wp d 34 Q 24 L (.ref a :: st) w cn sn = (kd w a = 4 ∧ wp d 34 Q 27 L (fd w 193 a :: st) w cn sn) := w_getfield d_34_24 (by decide +kernel : fT (mO 34) 15 = some (3, 1))
theorem d_34_27 : decode (mB 34) 27 = .ok (.iload_n 3, 1) := by decide +kernel
theorem s_34_27 {d : Nat} {Q : wQ} {L : List (Option Value)} {st : List Value} {w : aw} {cn sn : Nat} {a0 a1 a2 : Option Value} {v : Int32} : wp d 34 Q 27 (a0 :: a1 :: a2 :: some (.int v) :: L) st w cn sn = wp d 34 Q 28 (a0 :: a1 :: a2 :: some (.int v) :: L) (.int v :: st) w cn sn := w_iload_n d_34_27 rfl
theorem d_34_28 : decode (mB 34) 28 = .ok (.iaload, 1) := by decide +kernel
theorem s_34_28 {d : Nat} {Q : wQ} {L : List (Option Value)} {st : List Value} {w : aw} {cn sn : Nat} {a : Nat} {i : Int32} : wp d 34 Q 28 L (.int i :: .ref a :: st) w cn sn = ((kd w a = 20 ∨ kd w a = 30) ∧ inR i (ln w a) ∧ wp d 34 Q 29 L (.int (ai w a i.toNatClampNeg) :: st) w cn sn) := wp_row d_34_28 _ _ _ _ _
theorem d_34_29 : decode (mB 34) 29 = .ok (.ireturn, 1) := by decide +kernel
theorem s_34_29 {d : Nat} {Q : wQ} {L : List (Option Value)} {w : aw} {cn sn : Nat} {v : Int32} : wp d 34 Q 29 L [.int v] w cn sn = Q (some (.int v)) w := w_ireturn d_34_29 rfl
theorem d_35_0 : decode (mB 35) 0 = .ok (.aload_n 0, 1) := by decide +kernel
theorem s_35_0 {d : Nat} {Q : wQ} {L : List (Option Value)} {st : List Value} {w : aw} {cn sn : Nat} {v : Nat} : wp d 35 Q 0 (some (.ref v) :: L) st w cn sn = wp d 35 Q 1 (some (.ref v) :: L) (.ref v :: st) w cn sn := w_aload_n d_35_0 rfl
theorem d_35_1 : decode (mB 35) 1 = .ok (.lload_n 1, 1) := by decide +kernel
theorem s_35_1 {d : Nat} {Q : wQ} {L : List (Option Value)} {st : List Value} {w : aw} {cn sn : Nat} {a0 : Option Value} {v : Int64} : wp d 35 Q 1 (a0 :: some (.long v) :: L) st w cn sn = wp d 35 Q 2 (a0 :: some (.long v) :: L) (.long v :: st) w cn sn := w_lload_n d_35_1 rfl
theorem d_35_2 : decode (mB 35) 2 = .ok (.invokevirtual 65, 3) := by decide +kernel
theorem s_35_2 {d : Nat} {Q : wQ} {L : List (Option Value)} {st : List Value} {w : aw} {cn sn : Nat} {v0 : Value} {b : Nat} : wp d 35 Q 2 L (v0 :: .ref b :: st) w cn sn = (kd w b = 4 ∧ catS st ≤ 8 ∧ wpD d 33 [.ref b, v0] w (fun v w' => wp d 35 Q 5 L (v.toList ++ st) w' cn sn)) := w_virtual (As := [v0]) d_35_2 (by decide +kernel : cT (mO 35) 65 = some (0, 33)) rfl (by decide +kernel) rfl (by decide +kernel) rfl
theorem d_35_5 : decode (mB 35) 5 = .ok (.iconst (-1), 1) := by decide +kernel
theorem s_35_5 {d : Nat} {Q : wQ} {L : List (Option Value)} {st : List Value} {w : aw} {cn sn : Nat}  : wp d 35 Q 5 L st w cn sn = wp d 35 Q 6 L (.int (-1) :: st) w cn sn := w_iconst d_35_5 (by decide)
theorem d_35_6 : decode (mB 35) 6 = .ok (.if_icmp .eq 5, 3) := by decide +kernel
theorem s_35_6 {d : Nat} {Q : wQ} {L : List (Option Value)} {st : List Value} {w : aw} {cn sn : Nat} {a b : Int32} : wp d 35 Q 6 L (.int b :: .int a :: st) w cn sn = ((a = b → wp d 35 Q 11 L st w cn sn) ∧ (¬ a = b → wp d 35 Q 9 L st w cn sn)) := w_iceq d_35_6 (by decide)
theorem d_35_9 : decode (mB 35) 9 = .ok (.iconst 3, 1) := by decide +kernel
theorem s_35_9 {d : Nat} {Q : wQ} {L : List (Option Value)} {st : List Value} {w : aw} {cn sn : Nat}  : wp d 35 Q 9 L st w cn sn = wp d 35 Q 10 L (.int 3 :: st) w cn sn := w_iconst d_35_9 (by decide)
theorem d_35_10 : decode (mB 35) 10 = .ok (.ireturn, 1) := by decide +kernel
theorem s_35_10 {d : Nat} {Q : wQ} {L : List (Option Value)} {w : aw} {cn sn : Nat} {v : Int32} : wp d 35 Q 10 L [.int v] w cn sn = Q (some (.int v)) w := w_ireturn d_35_10 rfl
theorem d_35_11 : decode (mB 35) 11 = .ok (.aload_n 0, 1) := by decide +kernel
theorem s_35_11 {d : Nat} {Q : wQ} {L : List (Option Value)} {st : List Value} {w : aw} {cn sn : Nat} {v : Nat} : wp d 35 Q 11 (some (.ref v) :: L) st w cn sn = wp d 35 Q 12 (some (.ref v) :: L) (.ref v :: st) w cn sn := w_aload_n d_35_11 rfl
theorem d_35_12 : decode (mB 35) 12 = .ok (.getfield 61, 3) := by decide +kernel
theorem s_35_12 {d : Nat} {Q : wQ} {L : List (Option Value)} {st : List Value} {w : aw} {cn sn : Nat} {a : Nat} : wp d 35 Q 12 L (.ref a :: st) w cn sn = (kd w a = 4 ∧ wp d 35 Q 15 L (fd w 194 a :: st) w cn sn) := w_getfield d_35_12 (by decide +kernel : fT (mO 35) 61 = some (3, 2))
theorem d_35_15 : decode (mB 35) 15 = .ok (.sipush 235, 3) := by decide +kernel
theorem s_35_15 {d : Nat} {Q : wQ} {L : List (Option Value)} {st : List Value} {w : aw} {cn sn : Nat}  : wp d 35 Q 15 L st w cn sn = wp d 35 Q 18 L (.int 235 :: st) w cn sn := w_sipush d_35_15 (by decide)
theorem d_35_18 : decode (mB 35) 18 = .ok (.if_icmp .lt 6, 3) := by decide +kernel
theorem s_35_18 {d : Nat} {Q : wQ} {L : List (Option Value)} {st : List Value} {w : aw} {cn sn : Nat} {a b : Int32} : wp d 35 Q 18 L (.int b :: .int a :: st) w cn sn = ((a < b → wp d 35 Q 24 L st w cn sn) ∧ (¬ a < b → wp d 35 Q 21 L st w cn sn)) := w_iclt d_35_18 (by decide)
theorem d_35_21 : decode (mB 35) 21 = .ok (.bipush 6, 2) := by decide +kernel
theorem s_35_21 {d : Nat} {Q : wQ} {L : List (Option Value)} {st : List Value} {w : aw} {cn sn : Nat}  : wp d 35 Q 21 L st w cn sn = wp d 35 Q 23 L (.int 6 :: st) w cn sn := w_bipush d_35_21 (by decide)
theorem d_35_23 : decode (mB 35) 23 = .ok (.ireturn, 1) := by decide +kernel
theorem s_35_23 {d : Nat} {Q : wQ} {L : List (Option Value)} {w : aw} {cn sn : Nat} {v : Int32} : wp d 35 Q 23 L [.int v] w cn sn = Q (some (.int v)) w := w_ireturn d_35_23 rfl
theorem d_35_24 : decode (mB 35) 24 = .ok (.aload_n 0, 1) := by decide +kernel
theorem s_35_24 {d : Nat} {Q : wQ} {L : List (Option Value)} {st : List Value} {w : aw} {cn sn : Nat} {v : Nat} : wp d 35 Q 24 (some (.ref v) :: L) st w cn sn = wp d 35 Q 25 (some (.ref v) :: L) (.ref v :: st) w cn sn := w_aload_n d_35_24 rfl
theorem d_35_25 : decode (mB 35) 25 = .ok (.lload_n 1, 1) := by decide +kernel
theorem s_35_25 {d : Nat} {Q : wQ} {L : List (Option Value)} {st : List Value} {w : aw} {cn sn : Nat} {a0 : Option Value} {v : Int64} : wp d 35 Q 25 (a0 :: some (.long v) :: L) st w cn sn = wp d 35 Q 26 (a0 :: some (.long v) :: L) (.long v :: st) w cn sn := w_lload_n d_35_25 rfl
theorem d_35_26 : decode (mB 35) 26 = .ok (.iload_n 3, 1) := by decide +kernel
theorem s_35_26 {d : Nat} {Q : wQ} {L : List (Option Value)} {st : List Value} {w : aw} {cn sn : Nat} {a0 a1 a2 : Option Value} {v : Int32} : wp d 35 Q 26 (a0 :: a1 :: a2 :: some (.int v) :: L) st w cn sn = wp d 35 Q 27 (a0 :: a1 :: a2 :: some (.int v) :: L) (.int v :: st) w cn sn := w_iload_n d_35_26 rfl
theorem d_35_27 : decode (mB 35) 27 = .ok (.invokevirtual 47, 3) := by decide +kernel
theorem s_35_27 {d : Nat} {Q : wQ} {L : List (Option Value)} {st : List Value} {w : aw} {cn sn : Nat} {v0 v1 : Value} {b : Nat} : wp d 35 Q 27 L (v1 :: v0 :: .ref b :: st) w cn sn = (kd w b = 4 ∧ catS st ≤ 8 ∧ wpD d 31 [.ref b, v0, v1] w (fun v w' => wp d 35 Q 30 L (v.toList ++ st) w' cn sn)) := w_virtual (As := [v0, v1]) d_35_27 (by decide +kernel : cT (mO 35) 47 = some (0, 31)) rfl (by decide +kernel) rfl (by decide +kernel) rfl
theorem d_35_30 : decode (mB 35) 30 = .ok (.iconst 0, 1) := by decide +kernel
theorem s_35_30 {d : Nat} {Q : wQ} {L : List (Option Value)} {st : List Value} {w : aw} {cn sn : Nat}  : wp d 35 Q 30 L st w cn sn = wp d 35 Q 31 L (.int 0 :: st) w cn sn := w_iconst d_35_30 (by decide)
theorem d_35_31 : decode (mB 35) 31 = .ok (.ireturn, 1) := by decide +kernel
theorem s_35_31 {d : Nat} {Q : wQ} {L : List (Option Value)} {w : aw} {cn sn : Nat} {v : Int32} : wp d 35 Q 31 L [.int v] w cn sn = Q (some (.int v)) w := w_ireturn d_35_31 rfl
theorem d_182_0 : decode (mB 182) 0 = .ok (.iconst 0, 1) := by decide +kernel
theorem s_182_0 {d : Nat} {Q : wQ} {L : List (Option Value)} {st : List Value} {w : aw} {cn sn : Nat}  : wp d 182 Q 0 L st w cn sn = wp d 182 Q 1 L (.int 0 :: st) w cn sn := w_iconst d_182_0 (by decide)
theorem d_182_1 : decode (mB 182) 1 = .ok (.istore_n 2, 1) := by decide +kernel
theorem s_182_1 {d : Nat} {Q : wQ} {L : List (Option Value)} {st : List Value} {w : aw} {cn sn : Nat} {a0 a1 a2 : Option Value} {v : Int32} : wp d 182 Q 1 (a0 :: a1 :: a2 :: L) (.int v :: st) w cn sn = wp d 182 Q 2 (a0 :: clr a1 :: some (.int v) :: L) st w cn sn := w_istore_n d_182_1 (Nat.le_add_left 3 _) rfl
theorem d_182_2 : decode (mB 182) 2 = .ok (.aload_n 0, 1) := by decide +kernel
theorem s_182_2 {d : Nat} {Q : wQ} {L : List (Option Value)} {st : List Value} {w : aw} {cn sn : Nat} {v : Nat} : wp d 182 Q 2 (some (.ref v) :: L) st w cn sn = wp d 182 Q 3 (some (.ref v) :: L) (.ref v :: st) w cn sn := w_aload_n d_182_2 rfl
theorem s_182_2n {d : Nat} {Q : wQ} {L : List (Option Value)} {st : List Value} {w : aw} {cn sn : Nat}  : wp d 182 Q 2 (some .null :: L) st w cn sn = wp d 182 Q 3 (some .null :: L) (.null :: st) w cn sn := w_aload_nN d_182_2 rfl
theorem d_182_3 : decode (mB 182) 3 = .ok (.arraylength, 1) := by decide +kernel
theorem s_182_3 {d : Nat} {Q : wQ} {L : List (Option Value)} {st : List Value} {w : aw} {cn sn : Nat} {a : Nat} : wp d 182 Q 3 L (.ref a :: st) w cn sn = ((tyA (kd w a)).isSome = true ∧ wp d 182 Q 4 L (.int (nI (ln w a)) :: st) w cn sn) := wp_row d_182_3 _ _ _ _ _
theorem d_182_4 : decode (mB 182) 4 = .ok (.istore_n 3, 1) := by decide +kernel
theorem s_182_4 {d : Nat} {Q : wQ} {L : List (Option Value)} {st : List Value} {w : aw} {cn sn : Nat} {a0 a1 a2 a3 : Option Value} {v : Int32} : wp d 182 Q 4 (a0 :: a1 :: a2 :: a3 :: L) (.int v :: st) w cn sn = wp d 182 Q 5 (a0 :: a1 :: clr a2 :: some (.int v) :: L) st w cn sn := w_istore_n d_182_4 (Nat.le_add_left 4 _) rfl
theorem d_182_5 : decode (mB 182) 5 = .ok (.iload_n 2, 1) := by decide +kernel
theorem s_182_5 {d : Nat} {Q : wQ} {L : List (Option Value)} {st : List Value} {w : aw} {cn sn : Nat} {a0 a1 : Option Value} {v : Int32} : wp d 182 Q 5 (a0 :: a1 :: some (.int v) :: L) st w cn sn = wp d 182 Q 6 (a0 :: a1 :: some (.int v) :: L) (.int v :: st) w cn sn := w_iload_n d_182_5 rfl
theorem d_182_6 : decode (mB 182) 6 = .ok (.iload_n 3, 1) := by decide +kernel
theorem s_182_6 {d : Nat} {Q : wQ} {L : List (Option Value)} {st : List Value} {w : aw} {cn sn : Nat} {a0 a1 a2 : Option Value} {v : Int32} : wp d 182 Q 6 (a0 :: a1 :: a2 :: some (.int v) :: L) st w cn sn = wp d 182 Q 7 (a0 :: a1 :: a2 :: some (.int v) :: L) (.int v :: st) w cn sn := w_iload_n d_182_6 rfl
theorem d_182_7 : decode (mB 182) 7 = .ok (.if_icmp .ge 13, 3) := by decide +kernel
theorem s_182_7 {d : Nat} {Q : wQ} {L : List (Option Value)} {st : List Value} {w : aw} {cn sn : Nat} {a b : Int32} : wp d 182 Q 7 L (.int b :: .int a :: st) w cn sn = ((b ≤ a → wp d 182 Q 20 L st w cn sn) ∧ (¬ b ≤ a → wp d 182 Q 10 L st w cn sn)) := w_icge d_182_7 (by decide)
theorem d_182_10 : decode (mB 182) 10 = .ok (.aload_n 0, 1) := by decide +kernel
theorem s_182_10 {d : Nat} {Q : wQ} {L : List (Option Value)} {st : List Value} {w : aw} {cn sn : Nat} {v : Nat} : wp d 182 Q 10 (some (.ref v) :: L) st w cn sn = wp d 182 Q 11 (some (.ref v) :: L) (.ref v :: st) w cn sn := w_aload_n d_182_10 rfl
theorem s_182_10n {d : Nat} {Q : wQ} {L : List (Option Value)} {st : List Value} {w : aw} {cn sn : Nat}  : wp d 182 Q 10 (some .null :: L) st w cn sn = wp d 182 Q 11 (some .null :: L) (.null :: st) w cn sn := w_aload_nN d_182_10 rfl
theorem d_182_11 : decode (mB 182) 11 = .ok (.iload_n 2, 1) := by decide +kernel
theorem s_182_11 {d : Nat} {Q : wQ} {L : List (Option Value)} {st : List Value} {w : aw} {cn sn : Nat} {a0 a1 : Option Value} {v : Int32} : wp d 182 Q 11 (a0 :: a1 :: some (.int v) :: L) st w cn sn = wp d 182 Q 12 (a0 :: a1 :: some (.int v) :: L) (.int v :: st) w cn sn := w_iload_n d_182_11 rfl
theorem d_182_12 : decode (mB 182) 12 = .ok (.iload_n 1, 1) := by decide +kernel
theorem s_182_12 {d : Nat} {Q : wQ} {L : List (Option Value)} {st : List Value} {w : aw} {cn sn : Nat} {a0 : Option Value} {v : Int32} : wp d 182 Q 12 (a0 :: some (.int v) :: L) st w cn sn = wp d 182 Q 13 (a0 :: some (.int v) :: L) (.int v :: st) w cn sn := w_iload_n d_182_12 rfl
theorem d_182_13 : decode (mB 182) 13 = .ok (.iastore, 1) := by decide +kernel
theorem s_182_13 {d : Nat} {Q : wQ} {L : List (Option Value)} {st : List Value} {w : aw} {cn sn : Nat} {a : Nat} {i x : Int32} : wp d 182 Q 13 L (.int x :: .int i :: .ref a :: st) w cn sn = (kd w a = 20 ∧ inR i (ln w a) ∧ wp d 182 Q 14 L st (uA w a i.toNatClampNeg x) cn sn) := wp_row d_182_13 _ _ _ _ _
theorem d_182_14 : decode (mB 182) 14 = .ok (.iinc 2 1, 3) := by decide +kernel
theorem s_182_14 {d : Nat} {Q : wQ} {L : List (Option Value)} {st : List Value} {w : aw} {cn sn : Nat} {a0 a1 : Option Value} {v : Int32} : wp d 182 Q 14 (a0 :: a1 :: some (.int v) :: L) st w cn sn = wp d 182 Q 17 (a0 :: clr a1 :: some (.int (v + 1)) :: L) st w cn sn := w_iinc d_182_14 rfl (by decide) rfl
theorem d_182_17 : decode (mB 182) 17 = .ok (.goto (-12), 3) := by decide +kernel
theorem s_182_17 {d : Nat} {Q : wQ} {L : List (Option Value)} {st : List Value} {w : aw} {cn sn : Nat}  : wp d 182 Q 17 L st w cn sn = wp d 182 Q 5 L st w cn sn := w_goto d_182_17 (by decide)
theorem d_182_20 : decode (mB 182) 20 = .ok (.return_, 1) := by decide +kernel
theorem s_182_20 {d : Nat} {Q : wQ} {L : List (Option Value)} {w : aw} {cn sn : Nat}  : wp d 182 Q 20 L [] w cn sn = Q none w := w_return d_182_20 rfl
