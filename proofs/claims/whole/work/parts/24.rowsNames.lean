theorem d_31_0 : decode (mB 31) 0 = .ok (.aload_n 0, 1) := by decide +kernel
theorem s_31_0 {d : Nat} {Q : wQ} {L : List (Option Value)} {st : List Value} {w : aw} {cn sn : Nat} {v : Nat} : wp d 31 Q 0 (some (.ref v) :: L) st w cn sn = wp d 31 Q 1 (some (.ref v) :: L) (.ref v :: st) w cn sn := w_aload_n d_31_0 rfl
theorem d_31_1 : decode (mB 31) 1 = .ok (.invokespecial 3, 3) := by decide +kernel
theorem s_31_1 {d : Nat} {Q : wQ} {L : List (Option Value)} {st : List Value} {w : aw} {cn sn : Nat} {b : Nat} : wp d 31 Q 1 L (.ref b :: st) w cn sn = (catS st ≤ 8 ∧ wp d 31 Q 4 L st w cn sn) := w_objinit d_31_1 (by decide +kernel : cT (mO 31) 3 = some (3, 0))
theorem d_31_4 : decode (mB 31) 4 = .ok (.aload_n 0, 1) := by decide +kernel
theorem s_31_4 {d : Nat} {Q : wQ} {L : List (Option Value)} {st : List Value} {w : aw} {cn sn : Nat} {v : Nat} : wp d 31 Q 4 (some (.ref v) :: L) st w cn sn = wp d 31 Q 5 (some (.ref v) :: L) (.ref v :: st) w cn sn := w_aload_n d_31_4 rfl
theorem d_31_5 : decode (mB 31) 5 = .ok (.sipush 235, 3) := by decide +kernel
theorem s_31_5 {d : Nat} {Q : wQ} {L : List (Option Value)} {st : List Value} {w : aw} {cn sn : Nat}  : wp d 31 Q 5 L st w cn sn = wp d 31 Q 8 L (.int 235 :: st) w cn sn := w_sipush d_31_5 (by decide)
theorem d_31_8 : decode (mB 31) 8 = .ok (.newarray .long, 2) := by decide +kernel
theorem s_31_8 {d : Nat} {Q : wQ} {L : List (Option Value)} {st : List Value} {w : aw} {cn sn : Nat} {v : Int32} : wp d 31 Q 8 L (.int v :: st) w cn sn = (¬ v < 0 ∧ v.toNatClampNeg * 8 ≤ 536870912 ∧ cn + 1 ≤ 2 ∧ sn + v.toNatClampNeg ≤ 470 ∧ wp d 31 Q 10 L (.ref (zs w) :: st) (nw w 22 v.toNatClampNeg) (cn + 1) (sn + v.toNatClampNeg)) := w_newarray d_31_8 rfl (by decide +kernel) (by decide +kernel)
theorem d_31_10 : decode (mB 31) 10 = .ok (.putfield 11, 3) := by decide +kernel
theorem s_31_10 {d : Nat} {Q : wQ} {L : List (Option Value)} {st : List Value} {w : aw} {cn sn : Nat} {x : Nat} {a : Nat} : wp d 31 Q 10 L (.ref x :: .ref a :: st) w cn sn = (kd w a = 4 ∧ wp d 31 Q 13 L st (uF w 192 a (.ref x)) cn sn) := w_putfield d_31_10 (by decide +kernel : fT (mO 31) 11 = some (3, 0)) (by decide +kernel) ok_arr
theorem d_31_13 : decode (mB 31) 13 = .ok (.aload_n 0, 1) := by decide +kernel
theorem s_31_13 {d : Nat} {Q : wQ} {L : List (Option Value)} {st : List Value} {w : aw} {cn sn : Nat} {v : Nat} : wp d 31 Q 13 (some (.ref v) :: L) st w cn sn = wp d 31 Q 14 (some (.ref v) :: L) (.ref v :: st) w cn sn := w_aload_n d_31_13 rfl
theorem d_31_14 : decode (mB 31) 14 = .ok (.sipush 235, 3) := by decide +kernel
theorem s_31_14 {d : Nat} {Q : wQ} {L : List (Option Value)} {st : List Value} {w : aw} {cn sn : Nat}  : wp d 31 Q 14 L st w cn sn = wp d 31 Q 17 L (.int 235 :: st) w cn sn := w_sipush d_31_14 (by decide)
theorem d_31_17 : decode (mB 31) 17 = .ok (.newarray .int, 2) := by decide +kernel
theorem s_31_17 {d : Nat} {Q : wQ} {L : List (Option Value)} {st : List Value} {w : aw} {cn sn : Nat} {v : Int32} : wp d 31 Q 17 L (.int v :: st) w cn sn = (¬ v < 0 ∧ v.toNatClampNeg * 4 ≤ 536870912 ∧ cn + 1 ≤ 2 ∧ sn + v.toNatClampNeg ≤ 470 ∧ wp d 31 Q 19 L (.ref (zs w) :: st) (nw w 20 v.toNatClampNeg) (cn + 1) (sn + v.toNatClampNeg)) := w_newarray d_31_17 rfl (by decide +kernel) (by decide +kernel)
theorem d_31_19 : decode (mB 31) 19 = .ok (.putfield 15, 3) := by decide +kernel
theorem s_31_19 {d : Nat} {Q : wQ} {L : List (Option Value)} {st : List Value} {w : aw} {cn sn : Nat} {x : Nat} {a : Nat} : wp d 31 Q 19 L (.ref x :: .ref a :: st) w cn sn = (kd w a = 4 ∧ wp d 31 Q 22 L st (uF w 193 a (.ref x)) cn sn) := w_putfield d_31_19 (by decide +kernel : fT (mO 31) 15 = some (3, 1)) (by decide +kernel) ok_arr
theorem d_31_22 : decode (mB 31) 22 = .ok (.aload_n 0, 1) := by decide +kernel
theorem s_31_22 {d : Nat} {Q : wQ} {L : List (Option Value)} {st : List Value} {w : aw} {cn sn : Nat} {v : Nat} : wp d 31 Q 22 (some (.ref v) :: L) st w cn sn = wp d 31 Q 23 (some (.ref v) :: L) (.ref v :: st) w cn sn := w_aload_n d_31_22 rfl
theorem d_31_23 : decode (mB 31) 23 = .ok (.ldc 19, 2) := by decide +kernel
theorem s_31_23 {d : Nat} {Q : wQ} {L : List (Option Value)} {st : List Value} {w : aw} {cn sn : Nat}  : wp d 31 Q 23 L st w cn sn = wp d 31 Q 25 L (fd w 20000 0 :: st) w cn sn := w_ldcS d_31_23 (by decide +kernel : kT (mO 31) 19 = some (.ref 0))
theorem d_31_25 : decode (mB 31) 25 = .ok (.getstatic 21, 3) := by decide +kernel
theorem s_31_25 {d : Nat} {Q : wQ} {L : List (Option Value)} {st : List Value} {w : aw} {cn sn : Nat}  : wp d 31 Q 25 L st w cn sn = wp d 31 Q 28 L (fd w 10000 0 :: st) w cn sn := w_getstatic d_31_25 (by decide +kernel : sT (mO 31) 21 = some 0)
theorem d_31_28 : decode (mB 31) 28 = .ok (.invokevirtual 24, 3) := by decide +kernel
theorem s_31_28 {d : Nat} {Q : wQ} {L : List (Option Value)} {st : List Value} {w : aw} {cn sn : Nat} {v0 v1 : Value} {b : Nat} : wp d 31 Q 28 L (v1 :: v0 :: .ref b :: st) w cn sn = (kd w b = 4 ∧ catS st ≤ 8 ∧ wpD d 32 [.ref b, v0, v1] w (fun v w' => wp d 31 Q 31 L (v.toList ++ st) w' cn sn)) := w_virtual (As := [v0, v1]) d_31_28 (by decide +kernel : cT (mO 31) 24 = some (0, 32)) rfl (by decide +kernel) rfl (by decide +kernel) rfl
theorem d_31_31 : decode (mB 31) 31 = .ok (.aload_n 0, 1) := by decide +kernel
theorem s_31_31 {d : Nat} {Q : wQ} {L : List (Option Value)} {st : List Value} {w : aw} {cn sn : Nat} {v : Nat} : wp d 31 Q 31 (some (.ref v) :: L) st w cn sn = wp d 31 Q 32 (some (.ref v) :: L) (.ref v :: st) w cn sn := w_aload_n d_31_31 rfl
theorem d_31_32 : decode (mB 31) 32 = .ok (.ldc 28, 2) := by decide +kernel
theorem s_31_32 {d : Nat} {Q : wQ} {L : List (Option Value)} {st : List Value} {w : aw} {cn sn : Nat}  : wp d 31 Q 32 L st w cn sn = wp d 31 Q 34 L (fd w 20001 0 :: st) w cn sn := w_ldcS d_31_32 (by decide +kernel : kT (mO 31) 28 = some (.ref 1))
theorem d_31_34 : decode (mB 31) 34 = .ok (.getstatic 30, 3) := by decide +kernel
theorem s_31_34 {d : Nat} {Q : wQ} {L : List (Option Value)} {st : List Value} {w : aw} {cn sn : Nat}  : wp d 31 Q 34 L st w cn sn = wp d 31 Q 37 L (fd w 10006 0 :: st) w cn sn := w_getstatic d_31_34 (by decide +kernel : sT (mO 31) 30 = some 6)
theorem d_31_37 : decode (mB 31) 37 = .ok (.invokevirtual 24, 3) := by decide +kernel
theorem s_31_37 {d : Nat} {Q : wQ} {L : List (Option Value)} {st : List Value} {w : aw} {cn sn : Nat} {v0 v1 : Value} {b : Nat} : wp d 31 Q 37 L (v1 :: v0 :: .ref b :: st) w cn sn = (kd w b = 4 ∧ catS st ≤ 8 ∧ wpD d 32 [.ref b, v0, v1] w (fun v w' => wp d 31 Q 40 L (v.toList ++ st) w' cn sn)) := w_virtual (As := [v0, v1]) d_31_37 (by decide +kernel : cT (mO 31) 24 = some (0, 32)) rfl (by decide +kernel) rfl (by decide +kernel) rfl
theorem d_31_40 : decode (mB 31) 40 = .ok (.aload_n 0, 1) := by decide +kernel
theorem s_31_40 {d : Nat} {Q : wQ} {L : List (Option Value)} {st : List Value} {w : aw} {cn sn : Nat} {v : Nat} : wp d 31 Q 40 (some (.ref v) :: L) st w cn sn = wp d 31 Q 41 (some (.ref v) :: L) (.ref v :: st) w cn sn := w_aload_n d_31_40 rfl
theorem d_31_41 : decode (mB 31) 41 = .ok (.ldc 33, 2) := by decide +kernel
theorem s_31_41 {d : Nat} {Q : wQ} {L : List (Option Value)} {st : List Value} {w : aw} {cn sn : Nat}  : wp d 31 Q 41 L st w cn sn = wp d 31 Q 43 L (fd w 20002 0 :: st) w cn sn := w_ldcS d_31_41 (by decide +kernel : kT (mO 31) 33 = some (.ref 2))
theorem d_31_43 : decode (mB 31) 43 = .ok (.getstatic 35, 3) := by decide +kernel
theorem s_31_43 {d : Nat} {Q : wQ} {L : List (Option Value)} {st : List Value} {w : aw} {cn sn : Nat}  : wp d 31 Q 43 L st w cn sn = wp d 31 Q 46 L (fd w 10007 0 :: st) w cn sn := w_getstatic d_31_43 (by decide +kernel : sT (mO 31) 35 = some 7)
theorem d_31_46 : decode (mB 31) 46 = .ok (.invokevirtual 24, 3) := by decide +kernel
theorem s_31_46 {d : Nat} {Q : wQ} {L : List (Option Value)} {st : List Value} {w : aw} {cn sn : Nat} {v0 v1 : Value} {b : Nat} : wp d 31 Q 46 L (v1 :: v0 :: .ref b :: st) w cn sn = (kd w b = 4 ∧ catS st ≤ 8 ∧ wpD d 32 [.ref b, v0, v1] w (fun v w' => wp d 31 Q 49 L (v.toList ++ st) w' cn sn)) := w_virtual (As := [v0, v1]) d_31_46 (by decide +kernel : cT (mO 31) 24 = some (0, 32)) rfl (by decide +kernel) rfl (by decide +kernel) rfl
theorem d_31_49 : decode (mB 31) 49 = .ok (.aload_n 0, 1) := by decide +kernel
theorem s_31_49 {d : Nat} {Q : wQ} {L : List (Option Value)} {st : List Value} {w : aw} {cn sn : Nat} {v : Nat} : wp d 31 Q 49 (some (.ref v) :: L) st w cn sn = wp d 31 Q 50 (some (.ref v) :: L) (.ref v :: st) w cn sn := w_aload_n d_31_49 rfl
theorem d_31_50 : decode (mB 31) 50 = .ok (.ldc 38, 2) := by decide +kernel
theorem s_31_50 {d : Nat} {Q : wQ} {L : List (Option Value)} {st : List Value} {w : aw} {cn sn : Nat}  : wp d 31 Q 50 L st w cn sn = wp d 31 Q 52 L (fd w 20003 0 :: st) w cn sn := w_ldcS d_31_50 (by decide +kernel : kT (mO 31) 38 = some (.ref 3))
theorem d_31_52 : decode (mB 31) 52 = .ok (.getstatic 40, 3) := by decide +kernel
theorem s_31_52 {d : Nat} {Q : wQ} {L : List (Option Value)} {st : List Value} {w : aw} {cn sn : Nat}  : wp d 31 Q 52 L st w cn sn = wp d 31 Q 55 L (fd w 10008 0 :: st) w cn sn := w_getstatic d_31_52 (by decide +kernel : sT (mO 31) 40 = some 8)
theorem d_31_55 : decode (mB 31) 55 = .ok (.invokevirtual 24, 3) := by decide +kernel
theorem s_31_55 {d : Nat} {Q : wQ} {L : List (Option Value)} {st : List Value} {w : aw} {cn sn : Nat} {v0 v1 : Value} {b : Nat} : wp d 31 Q 55 L (v1 :: v0 :: .ref b :: st) w cn sn = (kd w b = 4 ∧ catS st ≤ 8 ∧ wpD d 32 [.ref b, v0, v1] w (fun v w' => wp d 31 Q 58 L (v.toList ++ st) w' cn sn)) := w_virtual (As := [v0, v1]) d_31_55 (by decide +kernel : cT (mO 31) 24 = some (0, 32)) rfl (by decide +kernel) rfl (by decide +kernel) rfl
theorem d_31_58 : decode (mB 31) 58 = .ok (.aload_n 0, 1) := by decide +kernel
theorem s_31_58 {d : Nat} {Q : wQ} {L : List (Option Value)} {st : List Value} {w : aw} {cn sn : Nat} {v : Nat} : wp d 31 Q 58 (some (.ref v) :: L) st w cn sn = wp d 31 Q 59 (some (.ref v) :: L) (.ref v :: st) w cn sn := w_aload_n d_31_58 rfl
theorem d_31_59 : decode (mB 31) 59 = .ok (.lconst 0, 1) := by decide +kernel
theorem s_31_59 {d : Nat} {Q : wQ} {L : List (Option Value)} {st : List Value} {w : aw} {cn sn : Nat}  : wp d 31 Q 59 L st w cn sn = wp d 31 Q 60 L (.long 0 :: st) w cn sn := w_lconst d_31_59 (by decide)
theorem d_31_60 : decode (mB 31) 60 = .ok (.bipush 73, 2) := by decide +kernel
theorem s_31_60 {d : Nat} {Q : wQ} {L : List (Option Value)} {st : List Value} {w : aw} {cn sn : Nat}  : wp d 31 Q 60 L st w cn sn = wp d 31 Q 62 L (.int 73 :: st) w cn sn := w_bipush d_31_60 (by decide)
theorem d_31_62 : decode (mB 31) 62 = .ok (.invokestatic 43, 3) := by decide +kernel
theorem s_31_62 {d : Nat} {Q : wQ} {L : List (Option Value)} {st : List Value} {w : aw} {cn sn : Nat} {v0 v1 : Value} : wp d 31 Q 62 L (v1 :: v0 :: st) w cn sn = (catS st ≤ 8 ∧ wpD d 33 [v0, v1] w (fun v w' => wp d 31 Q 65 L (v.toList ++ st) w' cn sn)) := w_static (As := [v0, v1]) d_31_62 (by decide +kernel : cT (mO 31) 43 = some (2, 33)) (by decide +kernel) rfl (by decide +kernel) rfl
theorem d_31_65 : decode (mB 31) 65 = .ok (.iconst (-1), 1) := by decide +kernel
theorem s_31_65 {d : Nat} {Q : wQ} {L : List (Option Value)} {st : List Value} {w : aw} {cn sn : Nat}  : wp d 31 Q 65 L st w cn sn = wp d 31 Q 66 L (.int (-1) :: st) w cn sn := w_iconst d_31_65 (by decide)
theorem d_31_66 : decode (mB 31) 66 = .ok (.invokevirtual 47, 3) := by decide +kernel
theorem s_31_66 {d : Nat} {Q : wQ} {L : List (Option Value)} {st : List Value} {w : aw} {cn sn : Nat} {v0 v1 : Value} {b : Nat} : wp d 31 Q 66 L (v1 :: v0 :: .ref b :: st) w cn sn = (kd w b = 4 ∧ catS st ≤ 8 ∧ wpD d 34 [.ref b, v0, v1] w (fun v w' => wp d 31 Q 69 L (v.toList ++ st) w' cn sn)) := w_virtual (As := [v0, v1]) d_31_66 (by decide +kernel : cT (mO 31) 47 = some (0, 34)) rfl (by decide +kernel) rfl (by decide +kernel) rfl
theorem d_31_69 : decode (mB 31) 69 = .ok (.return_, 1) := by decide +kernel
theorem s_31_69 {d : Nat} {Q : wQ} {L : List (Option Value)} {w : aw} {cn sn : Nat}  : wp d 31 Q 69 L [] w cn sn = Q none w := w_return d_31_69 rfl
theorem d_32_0 : decode (mB 32) 0 = .ok (.lconst 0, 1) := by decide +kernel
theorem s_32_0 {d : Nat} {Q : wQ} {L : List (Option Value)} {st : List Value} {w : aw} {cn sn : Nat}  : wp d 32 Q 0 L st w cn sn = wp d 32 Q 1 L (.long 0 :: st) w cn sn := w_lconst d_32_0 (by decide)
theorem d_32_1 : decode (mB 32) 1 = .ok (.lstore_n 3, 1) := by decide +kernel
theorem s_32_1 {d : Nat} {Q : wQ} {L : List (Option Value)} {st : List Value} {w : aw} {cn sn : Nat} {a0 a1 a2 a3 a4 : Option Value} {v : Int64} : wp d 32 Q 1 (a0 :: a1 :: a2 :: a3 :: a4 :: L) (.long v :: st) w cn sn = wp d 32 Q 2 (a0 :: a1 :: clr a2 :: some (.long v) :: none :: L) st w cn sn := w_lstore_n d_32_1 (Nat.le_add_left 5 _) rfl
theorem d_32_2 : decode (mB 32) 2 = .ok (.iconst 0, 1) := by decide +kernel
theorem s_32_2 {d : Nat} {Q : wQ} {L : List (Option Value)} {st : List Value} {w : aw} {cn sn : Nat}  : wp d 32 Q 2 L st w cn sn = wp d 32 Q 3 L (.int 0 :: st) w cn sn := w_iconst d_32_2 (by decide)
theorem d_32_3 : decode (mB 32) 3 = .ok (.istore 5, 2) := by decide +kernel
theorem s_32_3 {d : Nat} {Q : wQ} {L : List (Option Value)} {st : List Value} {w : aw} {cn sn : Nat} {a0 a1 a2 a3 a4 a5 : Option Value} {v : Int32} : wp d 32 Q 3 (a0 :: a1 :: a2 :: a3 :: a4 :: a5 :: L) (.int v :: st) w cn sn = wp d 32 Q 5 (a0 :: a1 :: a2 :: a3 :: clr a4 :: some (.int v) :: L) st w cn sn := w_istore d_32_3 (Nat.le_add_left 6 _) rfl
theorem d_32_5 : decode (mB 32) 5 = .ok (.iconst 0, 1) := by decide +kernel
theorem s_32_5 {d : Nat} {Q : wQ} {L : List (Option Value)} {st : List Value} {w : aw} {cn sn : Nat}  : wp d 32 Q 5 L st w cn sn = wp d 32 Q 6 L (.int 0 :: st) w cn sn := w_iconst d_32_5 (by decide)
theorem d_32_6 : decode (mB 32) 6 = .ok (.istore 6, 2) := by decide +kernel
theorem s_32_6 {d : Nat} {Q : wQ} {L : List (Option Value)} {st : List Value} {w : aw} {cn sn : Nat} {a0 a1 a2 a3 a4 a5 a6 : Option Value} {v : Int32} : wp d 32 Q 6 (a0 :: a1 :: a2 :: a3 :: a4 :: a5 :: a6 :: L) (.int v :: st) w cn sn = wp d 32 Q 8 (a0 :: a1 :: a2 :: a3 :: a4 :: clr a5 :: some (.int v) :: L) st w cn sn := w_istore d_32_6 (Nat.le_add_left 7 _) rfl
theorem d_32_8 : decode (mB 32) 8 = .ok (.iload 6, 2) := by decide +kernel
theorem s_32_8 {d : Nat} {Q : wQ} {L : List (Option Value)} {st : List Value} {w : aw} {cn sn : Nat} {a0 a1 a2 a3 a4 a5 : Option Value} {v : Int32} : wp d 32 Q 8 (a0 :: a1 :: a2 :: a3 :: a4 :: a5 :: some (.int v) :: L) st w cn sn = wp d 32 Q 10 (a0 :: a1 :: a2 :: a3 :: a4 :: a5 :: some (.int v) :: L) (.int v :: st) w cn sn := w_iload d_32_8 rfl
theorem d_32_10 : decode (mB 32) 10 = .ok (.aload_n 1, 1) := by decide +kernel
theorem s_32_10 {d : Nat} {Q : wQ} {L : List (Option Value)} {st : List Value} {w : aw} {cn sn : Nat} {a0 : Option Value} {v : Nat} : wp d 32 Q 10 (a0 :: some (.ref v) :: L) st w cn sn = wp d 32 Q 11 (a0 :: some (.ref v) :: L) (.ref v :: st) w cn sn := w_aload_n d_32_10 rfl
theorem s_32_10n {d : Nat} {Q : wQ} {L : List (Option Value)} {st : List Value} {w : aw} {cn sn : Nat} {a0 : Option Value} : wp d 32 Q 10 (a0 :: some .null :: L) st w cn sn = wp d 32 Q 11 (a0 :: some .null :: L) (.null :: st) w cn sn := w_aload_nN d_32_10 rfl
theorem d_32_11 : decode (mB 32) 11 = .ok (.invokevirtual 51, 3) := by decide +kernel
theorem s_32_11 {d : Nat} {Q : wQ} {L : List (Option Value)} {st : List Value} {w : aw} {cn sn : Nat} {b : Nat} : wp d 32 Q 11 L (.ref b :: st) w cn sn = (kd w b = 11 ∧ catS st ≤ 8 ∧ wpD d 174 [.ref b] w (fun v w' => wp d 32 Q 14 L (v.toList ++ st) w' cn sn)) := w_virtual (As := []) d_32_11 (by decide +kernel : cT (mO 32) 51 = some (0, 174)) rfl (by decide +kernel) rfl (by decide +kernel) rfl
theorem d_32_14 : decode (mB 32) 14 = .ok (.if_icmp .ge 55, 3) := by decide +kernel
theorem s_32_14 {d : Nat} {Q : wQ} {L : List (Option Value)} {st : List Value} {w : aw} {cn sn : Nat} {a b : Int32} : wp d 32 Q 14 L (.int b :: .int a :: st) w cn sn = ((b ≤ a → wp d 32 Q 69 L st w cn sn) ∧ (¬ b ≤ a → wp d 32 Q 17 L st w cn sn)) := w_icge d_32_14 (by decide)
theorem d_32_17 : decode (mB 32) 17 = .ok (.iload 5, 2) := by decide +kernel
theorem s_32_17 {d : Nat} {Q : wQ} {L : List (Option Value)} {st : List Value} {w : aw} {cn sn : Nat} {a0 a1 a2 a3 a4 : Option Value} {v : Int32} : wp d 32 Q 17 (a0 :: a1 :: a2 :: a3 :: a4 :: some (.int v) :: L) st w cn sn = wp d 32 Q 19 (a0 :: a1 :: a2 :: a3 :: a4 :: some (.int v) :: L) (.int v :: st) w cn sn := w_iload d_32_17 rfl
theorem d_32_19 : decode (mB 32) 19 = .ok (.aload_n 2, 1) := by decide +kernel
theorem s_32_19 {d : Nat} {Q : wQ} {L : List (Option Value)} {st : List Value} {w : aw} {cn sn : Nat} {a0 a1 : Option Value} {v : Nat} : wp d 32 Q 19 (a0 :: a1 :: some (.ref v) :: L) st w cn sn = wp d 32 Q 20 (a0 :: a1 :: some (.ref v) :: L) (.ref v :: st) w cn sn := w_aload_n d_32_19 rfl
theorem s_32_19n {d : Nat} {Q : wQ} {L : List (Option Value)} {st : List Value} {w : aw} {cn sn : Nat} {a0 a1 : Option Value} : wp d 32 Q 19 (a0 :: a1 :: some .null :: L) st w cn sn = wp d 32 Q 20 (a0 :: a1 :: some .null :: L) (.null :: st) w cn sn := w_aload_nN d_32_19 rfl
theorem d_32_20 : decode (mB 32) 20 = .ok (.arraylength, 1) := by decide +kernel
theorem s_32_20 {d : Nat} {Q : wQ} {L : List (Option Value)} {st : List Value} {w : aw} {cn sn : Nat} {a : Nat} : wp d 32 Q 20 L (.ref a :: st) w cn sn = ((tyA (kd w a)).isSome = true ∧ wp d 32 Q 21 L (.int (nI (ln w a)) :: st) w cn sn) := wp_row d_32_20 _ _ _ _ _
theorem d_32_21 : decode (mB 32) 21 = .ok (.if_icmp .ge 48, 3) := by decide +kernel
theorem s_32_21 {d : Nat} {Q : wQ} {L : List (Option Value)} {st : List Value} {w : aw} {cn sn : Nat} {a b : Int32} : wp d 32 Q 21 L (.int b :: .int a :: st) w cn sn = ((b ≤ a → wp d 32 Q 69 L st w cn sn) ∧ (¬ b ≤ a → wp d 32 Q 24 L st w cn sn)) := w_icge d_32_21 (by decide)
theorem d_32_24 : decode (mB 32) 24 = .ok (.aload_n 1, 1) := by decide +kernel
theorem s_32_24 {d : Nat} {Q : wQ} {L : List (Option Value)} {st : List Value} {w : aw} {cn sn : Nat} {a0 : Option Value} {v : Nat} : wp d 32 Q 24 (a0 :: some (.ref v) :: L) st w cn sn = wp d 32 Q 25 (a0 :: some (.ref v) :: L) (.ref v :: st) w cn sn := w_aload_n d_32_24 rfl
theorem s_32_24n {d : Nat} {Q : wQ} {L : List (Option Value)} {st : List Value} {w : aw} {cn sn : Nat} {a0 : Option Value} : wp d 32 Q 24 (a0 :: some .null :: L) st w cn sn = wp d 32 Q 25 (a0 :: some .null :: L) (.null :: st) w cn sn := w_aload_nN d_32_24 rfl
theorem d_32_25 : decode (mB 32) 25 = .ok (.iload 6, 2) := by decide +kernel
theorem s_32_25 {d : Nat} {Q : wQ} {L : List (Option Value)} {st : List Value} {w : aw} {cn sn : Nat} {a0 a1 a2 a3 a4 a5 : Option Value} {v : Int32} : wp d 32 Q 25 (a0 :: a1 :: a2 :: a3 :: a4 :: a5 :: some (.int v) :: L) st w cn sn = wp d 32 Q 27 (a0 :: a1 :: a2 :: a3 :: a4 :: a5 :: some (.int v) :: L) (.int v :: st) w cn sn := w_iload d_32_25 rfl
theorem d_32_27 : decode (mB 32) 27 = .ok (.invokevirtual 57, 3) := by decide +kernel
theorem s_32_27 {d : Nat} {Q : wQ} {L : List (Option Value)} {st : List Value} {w : aw} {cn sn : Nat} {v0 : Value} {b : Nat} : wp d 32 Q 27 L (v0 :: .ref b :: st) w cn sn = (kd w b = 11 ∧ catS st ≤ 8 ∧ wpD d 175 [.ref b, v0] w (fun v w' => wp d 32 Q 30 L (v.toList ++ st) w' cn sn)) := w_virtual (As := [v0]) d_32_27 (by decide +kernel : cT (mO 32) 57 = some (0, 175)) rfl (by decide +kernel) rfl (by decide +kernel) rfl
theorem d_32_30 : decode (mB 32) 30 = .ok (.istore 7, 2) := by decide +kernel
theorem s_32_30 {d : Nat} {Q : wQ} {L : List (Option Value)} {st : List Value} {w : aw} {cn sn : Nat} {a0 a1 a2 a3 a4 a5 a6 a7 : Option Value} {v : Int32} : wp d 32 Q 30 (a0 :: a1 :: a2 :: a3 :: a4 :: a5 :: a6 :: a7 :: L) (.int v :: st) w cn sn = wp d 32 Q 32 (a0 :: a1 :: a2 :: a3 :: a4 :: a5 :: clr a6 :: some (.int v) :: L) st w cn sn := w_istore d_32_30 (Nat.le_add_left 8 _) rfl
theorem d_32_32 : decode (mB 32) 32 = .ok (.iload 7, 2) := by decide +kernel
theorem s_32_32 {d : Nat} {Q : wQ} {L : List (Option Value)} {st : List Value} {w : aw} {cn sn : Nat} {a0 a1 a2 a3 a4 a5 a6 : Option Value} {v : Int32} : wp d 32 Q 32 (a0 :: a1 :: a2 :: a3 :: a4 :: a5 :: a6 :: some (.int v) :: L) st w cn sn = wp d 32 Q 34 (a0 :: a1 :: a2 :: a3 :: a4 :: a5 :: a6 :: some (.int v) :: L) (.int v :: st) w cn sn := w_iload d_32_32 rfl
theorem d_32_34 : decode (mB 32) 34 = .ok (.bipush 32, 2) := by decide +kernel
theorem s_32_34 {d : Nat} {Q : wQ} {L : List (Option Value)} {st : List Value} {w : aw} {cn sn : Nat}  : wp d 32 Q 34 L st w cn sn = wp d 32 Q 36 L (.int 32 :: st) w cn sn := w_bipush d_32_34 (by decide)
theorem d_32_36 : decode (mB 32) 36 = .ok (.if_icmp .ne 20, 3) := by decide +kernel
theorem s_32_36 {d : Nat} {Q : wQ} {L : List (Option Value)} {st : List Value} {w : aw} {cn sn : Nat} {a b : Int32} : wp d 32 Q 36 L (.int b :: .int a :: st) w cn sn = ((¬ a = b → wp d 32 Q 56 L st w cn sn) ∧ (a = b → wp d 32 Q 39 L st w cn sn)) := w_icne d_32_36 (by decide)
theorem d_32_39 : decode (mB 32) 39 = .ok (.aload_n 0, 1) := by decide +kernel
theorem s_32_39 {d : Nat} {Q : wQ} {L : List (Option Value)} {st : List Value} {w : aw} {cn sn : Nat} {v : Nat} : wp d 32 Q 39 (some (.ref v) :: L) st w cn sn = wp d 32 Q 40 (some (.ref v) :: L) (.ref v :: st) w cn sn := w_aload_n d_32_39 rfl
theorem d_32_40 : decode (mB 32) 40 = .ok (.lload_n 3, 1) := by decide +kernel
theorem s_32_40 {d : Nat} {Q : wQ} {L : List (Option Value)} {st : List Value} {w : aw} {cn sn : Nat} {a0 a1 a2 : Option Value} {v : Int64} : wp d 32 Q 40 (a0 :: a1 :: a2 :: some (.long v) :: L) st w cn sn = wp d 32 Q 41 (a0 :: a1 :: a2 :: some (.long v) :: L) (.long v :: st) w cn sn := w_lload_n d_32_40 rfl
theorem d_32_41 : decode (mB 32) 41 = .ok (.aload_n 2, 1) := by decide +kernel
theorem s_32_41 {d : Nat} {Q : wQ} {L : List (Option Value)} {st : List Value} {w : aw} {cn sn : Nat} {a0 a1 : Option Value} {v : Nat} : wp d 32 Q 41 (a0 :: a1 :: some (.ref v) :: L) st w cn sn = wp d 32 Q 42 (a0 :: a1 :: some (.ref v) :: L) (.ref v :: st) w cn sn := w_aload_n d_32_41 rfl
theorem s_32_41n {d : Nat} {Q : wQ} {L : List (Option Value)} {st : List Value} {w : aw} {cn sn : Nat} {a0 a1 : Option Value} : wp d 32 Q 41 (a0 :: a1 :: some .null :: L) st w cn sn = wp d 32 Q 42 (a0 :: a1 :: some .null :: L) (.null :: st) w cn sn := w_aload_nN d_32_41 rfl
theorem d_32_42 : decode (mB 32) 42 = .ok (.iload 5, 2) := by decide +kernel
theorem s_32_42 {d : Nat} {Q : wQ} {L : List (Option Value)} {st : List Value} {w : aw} {cn sn : Nat} {a0 a1 a2 a3 a4 : Option Value} {v : Int32} : wp d 32 Q 42 (a0 :: a1 :: a2 :: a3 :: a4 :: some (.int v) :: L) st w cn sn = wp d 32 Q 44 (a0 :: a1 :: a2 :: a3 :: a4 :: some (.int v) :: L) (.int v :: st) w cn sn := w_iload d_32_42 rfl
theorem d_32_44 : decode (mB 32) 44 = .ok (.iaload, 1) := by decide +kernel
theorem s_32_44 {d : Nat} {Q : wQ} {L : List (Option Value)} {st : List Value} {w : aw} {cn sn : Nat} {a : Nat} {i : Int32} : wp d 32 Q 44 L (.int i :: .ref a :: st) w cn sn = ((kd w a = 20 ∨ kd w a = 30) ∧ inR i (ln w a) ∧ wp d 32 Q 45 L (.int (ai w a i.toNatClampNeg) :: st) w cn sn) := wp_row d_32_44 _ _ _ _ _
theorem d_32_45 : decode (mB 32) 45 = .ok (.invokevirtual 47, 3) := by decide +kernel
theorem s_32_45 {d : Nat} {Q : wQ} {L : List (Option Value)} {st : List Value} {w : aw} {cn sn : Nat} {v0 v1 : Value} {b : Nat} : wp d 32 Q 45 L (v1 :: v0 :: .ref b :: st) w cn sn = (kd w b = 4 ∧ catS st ≤ 8 ∧ wpD d 34 [.ref b, v0, v1] w (fun v w' => wp d 32 Q 48 L (v.toList ++ st) w' cn sn)) := w_virtual (As := [v0, v1]) d_32_45 (by decide +kernel : cT (mO 32) 47 = some (0, 34)) rfl (by decide +kernel) rfl (by decide +kernel) rfl
theorem d_32_48 : decode (mB 32) 48 = .ok (.lconst 0, 1) := by decide +kernel
theorem s_32_48 {d : Nat} {Q : wQ} {L : List (Option Value)} {st : List Value} {w : aw} {cn sn : Nat}  : wp d 32 Q 48 L st w cn sn = wp d 32 Q 49 L (.long 0 :: st) w cn sn := w_lconst d_32_48 (by decide)
theorem d_32_49 : decode (mB 32) 49 = .ok (.lstore_n 3, 1) := by decide +kernel
theorem s_32_49 {d : Nat} {Q : wQ} {L : List (Option Value)} {st : List Value} {w : aw} {cn sn : Nat} {a0 a1 a2 a3 a4 : Option Value} {v : Int64} : wp d 32 Q 49 (a0 :: a1 :: a2 :: a3 :: a4 :: L) (.long v :: st) w cn sn = wp d 32 Q 50 (a0 :: a1 :: clr a2 :: some (.long v) :: none :: L) st w cn sn := w_lstore_n d_32_49 (Nat.le_add_left 5 _) rfl
theorem d_32_50 : decode (mB 32) 50 = .ok (.iinc 5 1, 3) := by decide +kernel
theorem s_32_50 {d : Nat} {Q : wQ} {L : List (Option Value)} {st : List Value} {w : aw} {cn sn : Nat} {a0 a1 a2 a3 a4 : Option Value} {v : Int32} : wp d 32 Q 50 (a0 :: a1 :: a2 :: a3 :: a4 :: some (.int v) :: L) st w cn sn = wp d 32 Q 53 (a0 :: a1 :: a2 :: a3 :: clr a4 :: some (.int (v + 1)) :: L) st w cn sn := w_iinc d_32_50 rfl (by decide) rfl
theorem d_32_53 : decode (mB 32) 53 = .ok (.goto 10, 3) := by decide +kernel
theorem s_32_53 {d : Nat} {Q : wQ} {L : List (Option Value)} {st : List Value} {w : aw} {cn sn : Nat}  : wp d 32 Q 53 L st w cn sn = wp d 32 Q 63 L st w cn sn := w_goto d_32_53 (by decide)
theorem d_32_56 : decode (mB 32) 56 = .ok (.lload_n 3, 1) := by decide +kernel
theorem s_32_56 {d : Nat} {Q : wQ} {L : List (Option Value)} {st : List Value} {w : aw} {cn sn : Nat} {a0 a1 a2 : Option Value} {v : Int64} : wp d 32 Q 56 (a0 :: a1 :: a2 :: some (.long v) :: L) st w cn sn = wp d 32 Q 57 (a0 :: a1 :: a2 :: some (.long v) :: L) (.long v :: st) w cn sn := w_lload_n d_32_56 rfl
theorem d_32_57 : decode (mB 32) 57 = .ok (.iload 7, 2) := by decide +kernel
theorem s_32_57 {d : Nat} {Q : wQ} {L : List (Option Value)} {st : List Value} {w : aw} {cn sn : Nat} {a0 a1 a2 a3 a4 a5 a6 : Option Value} {v : Int32} : wp d 32 Q 57 (a0 :: a1 :: a2 :: a3 :: a4 :: a5 :: a6 :: some (.int v) :: L) st w cn sn = wp d 32 Q 59 (a0 :: a1 :: a2 :: a3 :: a4 :: a5 :: a6 :: some (.int v) :: L) (.int v :: st) w cn sn := w_iload d_32_57 rfl
theorem d_32_59 : decode (mB 32) 59 = .ok (.invokestatic 43, 3) := by decide +kernel
theorem s_32_59 {d : Nat} {Q : wQ} {L : List (Option Value)} {st : List Value} {w : aw} {cn sn : Nat} {v0 v1 : Value} : wp d 32 Q 59 L (v1 :: v0 :: st) w cn sn = (catS st ≤ 8 ∧ wpD d 33 [v0, v1] w (fun v w' => wp d 32 Q 62 L (v.toList ++ st) w' cn sn)) := w_static (As := [v0, v1]) d_32_59 (by decide +kernel : cT (mO 32) 43 = some (2, 33)) (by decide +kernel) rfl (by decide +kernel) rfl
theorem d_32_62 : decode (mB 32) 62 = .ok (.lstore_n 3, 1) := by decide +kernel
theorem s_32_62 {d : Nat} {Q : wQ} {L : List (Option Value)} {st : List Value} {w : aw} {cn sn : Nat} {a0 a1 a2 a3 a4 : Option Value} {v : Int64} : wp d 32 Q 62 (a0 :: a1 :: a2 :: a3 :: a4 :: L) (.long v :: st) w cn sn = wp d 32 Q 63 (a0 :: a1 :: clr a2 :: some (.long v) :: none :: L) st w cn sn := w_lstore_n d_32_62 (Nat.le_add_left 5 _) rfl
theorem d_32_63 : decode (mB 32) 63 = .ok (.iinc 6 1, 3) := by decide +kernel
theorem s_32_63 {d : Nat} {Q : wQ} {L : List (Option Value)} {st : List Value} {w : aw} {cn sn : Nat} {a0 a1 a2 a3 a4 a5 : Option Value} {v : Int32} : wp d 32 Q 63 (a0 :: a1 :: a2 :: a3 :: a4 :: a5 :: some (.int v) :: L) st w cn sn = wp d 32 Q 66 (a0 :: a1 :: a2 :: a3 :: a4 :: clr a5 :: some (.int (v + 1)) :: L) st w cn sn := w_iinc d_32_63 rfl (by decide) rfl
theorem d_32_66 : decode (mB 32) 66 = .ok (.goto (-58), 3) := by decide +kernel
theorem s_32_66 {d : Nat} {Q : wQ} {L : List (Option Value)} {st : List Value} {w : aw} {cn sn : Nat}  : wp d 32 Q 66 L st w cn sn = wp d 32 Q 8 L st w cn sn := w_goto d_32_66 (by decide)
theorem d_32_69 : decode (mB 32) 69 = .ok (.return_, 1) := by decide +kernel
theorem s_32_69 {d : Nat} {Q : wQ} {L : List (Option Value)} {w : aw} {cn sn : Nat}  : wp d 32 Q 69 L [] w cn sn = Q none w := w_return d_32_69 rfl
theorem d_33_0 : decode (mB 33) 0 = .ok (.lload_n 0, 1) := by decide +kernel
theorem s_33_0 {d : Nat} {Q : wQ} {L : List (Option Value)} {st : List Value} {w : aw} {cn sn : Nat} {v : Int64} : wp d 33 Q 0 (some (.long v) :: L) st w cn sn = wp d 33 Q 1 (some (.long v) :: L) (.long v :: st) w cn sn := w_lload_n d_33_0 rfl
theorem d_33_1 : decode (mB 33) 1 = .ok (.bipush 8, 2) := by decide +kernel
theorem s_33_1 {d : Nat} {Q : wQ} {L : List (Option Value)} {st : List Value} {w : aw} {cn sn : Nat}  : wp d 33 Q 1 L st w cn sn = wp d 33 Q 3 L (.int 8 :: st) w cn sn := w_bipush d_33_1 (by decide)
theorem d_33_3 : decode (mB 33) 3 = .ok (.lshl, 1) := by decide +kernel
theorem s_33_3 {d : Nat} {Q : wQ} {L : List (Option Value)} {st : List Value} {w : aw} {cn sn : Nat} {a : Int64} {b : Int32} : wp d 33 Q 3 L (.int b :: .long a :: st) w cn sn = wp d 33 Q 4 L (.long (a <<< (b.toInt64 &&& 63)) :: st) w cn sn := wp_row d_33_3 _ _ _ _ _
theorem d_33_4 : decode (mB 33) 4 = .ok (.iload_n 2, 1) := by decide +kernel
theorem s_33_4 {d : Nat} {Q : wQ} {L : List (Option Value)} {st : List Value} {w : aw} {cn sn : Nat} {a0 a1 : Option Value} {v : Int32} : wp d 33 Q 4 (a0 :: a1 :: some (.int v) :: L) st w cn sn = wp d 33 Q 5 (a0 :: a1 :: some (.int v) :: L) (.int v :: st) w cn sn := w_iload_n d_33_4 rfl
theorem d_33_5 : decode (mB 33) 5 = .ok (.i2l, 1) := by decide +kernel
theorem s_33_5 {d : Nat} {Q : wQ} {L : List (Option Value)} {st : List Value} {w : aw} {cn sn : Nat} {a : Int32} : wp d 33 Q 5 L (.int a :: st) w cn sn = wp d 33 Q 6 L (.long a.toInt64 :: st) w cn sn := wp_row d_33_5 _ _ _ _ _
theorem d_33_6 : decode (mB 33) 6 = .ok (.lor, 1) := by decide +kernel
theorem s_33_6 {d : Nat} {Q : wQ} {L : List (Option Value)} {st : List Value} {w : aw} {cn sn : Nat} {a b : Int64} : wp d 33 Q 6 L (.long b :: .long a :: st) w cn sn = wp d 33 Q 7 L (.long (a ||| b) :: st) w cn sn := wp_row d_33_6 _ _ _ _ _
theorem d_33_7 : decode (mB 33) 7 = .ok (.lreturn, 1) := by decide +kernel
theorem s_33_7 {d : Nat} {Q : wQ} {L : List (Option Value)} {w : aw} {cn sn : Nat} {v : Int64} : wp d 33 Q 7 L [.long v] w cn sn = Q (some (.long v)) w := w_lreturn d_33_7 rfl
theorem d_34_0 : decode (mB 34) 0 = .ok (.aload_n 0, 1) := by decide +kernel
theorem s_34_0 {d : Nat} {Q : wQ} {L : List (Option Value)} {st : List Value} {w : aw} {cn sn : Nat} {v : Nat} : wp d 34 Q 0 (some (.ref v) :: L) st w cn sn = wp d 34 Q 1 (some (.ref v) :: L) (.ref v :: st) w cn sn := w_aload_n d_34_0 rfl
theorem d_34_1 : decode (mB 34) 1 = .ok (.getfield 61, 3) := by decide +kernel
theorem s_34_1 {d : Nat} {Q : wQ} {L : List (Option Value)} {st : List Value} {w : aw} {cn sn : Nat} {a : Nat} : wp d 34 Q 1 L (.ref a :: st) w cn sn = (kd w a = 4 ∧ wp d 34 Q 4 L (fd w 194 a :: st) w cn sn) := w_getfield d_34_1 (by decide +kernel : fT (mO 34) 61 = some (3, 2))
theorem d_34_4 : decode (mB 34) 4 = .ok (.aload_n 0, 1) := by decide +kernel
theorem s_34_4 {d : Nat} {Q : wQ} {L : List (Option Value)} {st : List Value} {w : aw} {cn sn : Nat} {v : Nat} : wp d 34 Q 4 (some (.ref v) :: L) st w cn sn = wp d 34 Q 5 (some (.ref v) :: L) (.ref v :: st) w cn sn := w_aload_n d_34_4 rfl
theorem d_34_5 : decode (mB 34) 5 = .ok (.getfield 11, 3) := by decide +kernel
theorem s_34_5 {d : Nat} {Q : wQ} {L : List (Option Value)} {st : List Value} {w : aw} {cn sn : Nat} {a : Nat} : wp d 34 Q 5 L (.ref a :: st) w cn sn = (kd w a = 4 ∧ wp d 34 Q 8 L (fd w 192 a :: st) w cn sn) := w_getfield d_34_5 (by decide +kernel : fT (mO 34) 11 = some (3, 0))
theorem d_34_8 : decode (mB 34) 8 = .ok (.arraylength, 1) := by decide +kernel
theorem s_34_8 {d : Nat} {Q : wQ} {L : List (Option Value)} {st : List Value} {w : aw} {cn sn : Nat} {a : Nat} : wp d 34 Q 8 L (.ref a :: st) w cn sn = ((tyA (kd w a)).isSome = true ∧ wp d 34 Q 9 L (.int (nI (ln w a)) :: st) w cn sn) := wp_row d_34_8 _ _ _ _ _
theorem d_34_9 : decode (mB 34) 9 = .ok (.if_icmp .ge 33, 3) := by decide +kernel
theorem s_34_9 {d : Nat} {Q : wQ} {L : List (Option Value)} {st : List Value} {w : aw} {cn sn : Nat} {a b : Int32} : wp d 34 Q 9 L (.int b :: .int a :: st) w cn sn = ((b ≤ a → wp d 34 Q 42 L st w cn sn) ∧ (¬ b ≤ a → wp d 34 Q 12 L st w cn sn)) := w_icge d_34_9 (by decide)
theorem d_34_12 : decode (mB 34) 12 = .ok (.aload_n 0, 1) := by decide +kernel
theorem s_34_12 {d : Nat} {Q : wQ} {L : List (Option Value)} {st : List Value} {w : aw} {cn sn : Nat} {v : Nat} : wp d 34 Q 12 (some (.ref v) :: L) st w cn sn = wp d 34 Q 13 (some (.ref v) :: L) (.ref v :: st) w cn sn := w_aload_n d_34_12 rfl
theorem d_34_13 : decode (mB 34) 13 = .ok (.getfield 11, 3) := by decide +kernel
theorem s_34_13 {d : Nat} {Q : wQ} {L : List (Option Value)} {st : List Value} {w : aw} {cn sn : Nat} {a : Nat} : wp d 34 Q 13 L (.ref a :: st) w cn sn = (kd w a = 4 ∧ wp d 34 Q 16 L (fd w 192 a :: st) w cn sn) := w_getfield d_34_13 (by decide +kernel : fT (mO 34) 11 = some (3, 0))
theorem d_34_16 : decode (mB 34) 16 = .ok (.aload_n 0, 1) := by decide +kernel
theorem s_34_16 {d : Nat} {Q : wQ} {L : List (Option Value)} {st : List Value} {w : aw} {cn sn : Nat} {v : Nat} : wp d 34 Q 16 (some (.ref v) :: L) st w cn sn = wp d 34 Q 17 (some (.ref v) :: L) (.ref v :: st) w cn sn := w_aload_n d_34_16 rfl
theorem d_34_17 : decode (mB 34) 17 = .ok (.getfield 61, 3) := by decide +kernel
theorem s_34_17 {d : Nat} {Q : wQ} {L : List (Option Value)} {st : List Value} {w : aw} {cn sn : Nat} {a : Nat} : wp d 34 Q 17 L (.ref a :: st) w cn sn = (kd w a = 4 ∧ wp d 34 Q 20 L (fd w 194 a :: st) w cn sn) := w_getfield d_34_17 (by decide +kernel : fT (mO 34) 61 = some (3, 2))
theorem d_34_20 : decode (mB 34) 20 = .ok (.lload_n 1, 1) := by decide +kernel
theorem s_34_20 {d : Nat} {Q : wQ} {L : List (Option Value)} {st : List Value} {w : aw} {cn sn : Nat} {a0 : Option Value} {v : Int64} : wp d 34 Q 20 (a0 :: some (.long v) :: L) st w cn sn = wp d 34 Q 21 (a0 :: some (.long v) :: L) (.long v :: st) w cn sn := w_lload_n d_34_20 rfl
theorem d_34_21 : decode (mB 34) 21 = .ok (.lastore, 1) := by decide +kernel
theorem s_34_21 {d : Nat} {Q : wQ} {L : List (Option Value)} {st : List Value} {w : aw} {cn sn : Nat} {a : Nat} {i : Int32} {x : Int64} : wp d 34 Q 21 L (.long x :: .int i :: .ref a :: st) w cn sn = (kd w a = 22 ∧ inR i (ln w a) ∧ wp d 34 Q 22 L st (uL w a i.toNatClampNeg x) cn sn) := wp_row d_34_21 _ _ _ _ _
theorem d_34_22 : decode (mB 34) 22 = .ok (.aload_n 0, 1) := by decide +kernel
theorem s_34_22 {d : Nat} {Q : wQ} {L : List (Option Value)} {st : List Value} {w : aw} {cn sn : Nat} {v : Nat} : wp d 34 Q 22 (some (.ref v) :: L) st w cn sn = wp d 34 Q 23 (some (.ref v) :: L) (.ref v :: st) w cn sn := w_aload_n d_34_22 rfl
theorem d_34_23 : decode (mB 34) 23 = .ok (.getfield 15, 3) := by decide +kernel
theorem s_34_23 {d : Nat} {Q : wQ} {L : List (Option Value)} {st : List Value} {w : aw} {cn sn : Nat} {a : Nat} : wp d 34 Q 23 L (.ref a :: st) w cn sn = (kd w a = 4 ∧ wp d 34 Q 26 L (fd w 193 a :: st) w cn sn) := w_getfield d_34_23 (by decide +kernel : fT (mO 34) 15 = some (3, 1))
theorem d_34_26 : decode (mB 34) 26 = .ok (.aload_n 0, 1) := by decide +kernel
theorem s_34_26 {d : Nat} {Q : wQ} {L : List (Option Value)} {st : List Value} {w : aw} {cn sn : Nat} {v : Nat} : wp d 34 Q 26 (some (.ref v) :: L) st w cn sn = wp d 34 Q 27 (some (.ref v) :: L) (.ref v :: st) w cn sn := w_aload_n d_34_26 rfl
theorem d_34_27 : decode (mB 34) 27 = .ok (.getfield 61, 3) := by decide +kernel
theorem s_34_27 {d : Nat} {Q : wQ} {L : List (Option Value)} {st : List Value} {w : aw} {cn sn : Nat} {a : Nat} : wp d 34 Q 27 L (.ref a :: st) w cn sn = (kd w a = 4 ∧ wp d 34 Q 30 L (fd w 194 a :: st) w cn sn) := w_getfield d_34_27 (by decide +kernel : fT (mO 34) 61 = some (3, 2))
theorem d_34_30 : decode (mB 34) 30 = .ok (.iload_n 3, 1) := by decide +kernel
theorem s_34_30 {d : Nat} {Q : wQ} {L : List (Option Value)} {st : List Value} {w : aw} {cn sn : Nat} {a0 a1 a2 : Option Value} {v : Int32} : wp d 34 Q 30 (a0 :: a1 :: a2 :: some (.int v) :: L) st w cn sn = wp d 34 Q 31 (a0 :: a1 :: a2 :: some (.int v) :: L) (.int v :: st) w cn sn := w_iload_n d_34_30 rfl
theorem d_34_31 : decode (mB 34) 31 = .ok (.iastore, 1) := by decide +kernel
theorem s_34_31 {d : Nat} {Q : wQ} {L : List (Option Value)} {st : List Value} {w : aw} {cn sn : Nat} {a : Nat} {i x : Int32} : wp d 34 Q 31 L (.int x :: .int i :: .ref a :: st) w cn sn = (kd w a = 20 ∧ inR i (ln w a) ∧ wp d 34 Q 32 L st (uA w a i.toNatClampNeg x) cn sn) := wp_row d_34_31 _ _ _ _ _
theorem d_34_32 : decode (mB 34) 32 = .ok (.aload_n 0, 1) := by decide +kernel
theorem s_34_32 {d : Nat} {Q : wQ} {L : List (Option Value)} {st : List Value} {w : aw} {cn sn : Nat} {v : Nat} : wp d 34 Q 32 (some (.ref v) :: L) st w cn sn = wp d 34 Q 33 (some (.ref v) :: L) (.ref v :: st) w cn sn := w_aload_n d_34_32 rfl
theorem d_34_33 : decode (mB 34) 33 = .ok (.dup, 1) := by decide +kernel
theorem s_34_33 {d : Nat} {Q : wQ} {L : List (Option Value)} {st : List Value} {w : aw} {cn sn : Nat} {v : Value} : wp d 34 Q 33 L (v :: st) w cn sn = (v.category = 1 ∧ wp d 34 Q 34 L (v :: v :: st) w cn sn) := wp_row d_34_33 _ _ _ _ _
theorem d_34_34 : decode (mB 34) 34 = .ok (.getfield 61, 3) := by decide +kernel
theorem s_34_34 {d : Nat} {Q : wQ} {L : List (Option Value)} {st : List Value} {w : aw} {cn sn : Nat} {a : Nat} : wp d 34 Q 34 L (.ref a :: st) w cn sn = (kd w a = 4 ∧ wp d 34 Q 37 L (fd w 194 a :: st) w cn sn) := w_getfield d_34_34 (by decide +kernel : fT (mO 34) 61 = some (3, 2))
theorem d_34_37 : decode (mB 34) 37 = .ok (.iconst 1, 1) := by decide +kernel
theorem s_34_37 {d : Nat} {Q : wQ} {L : List (Option Value)} {st : List Value} {w : aw} {cn sn : Nat}  : wp d 34 Q 37 L st w cn sn = wp d 34 Q 38 L (.int 1 :: st) w cn sn := w_iconst d_34_37 (by decide)
theorem d_34_38 : decode (mB 34) 38 = .ok (.iadd, 1) := by decide +kernel
theorem s_34_38 {d : Nat} {Q : wQ} {L : List (Option Value)} {st : List Value} {w : aw} {cn sn : Nat} {a b : Int32} : wp d 34 Q 38 L (.int b :: .int a :: st) w cn sn = wp d 34 Q 39 L (.int (a + b) :: st) w cn sn := wp_row d_34_38 _ _ _ _ _
theorem d_34_39 : decode (mB 34) 39 = .ok (.putfield 61, 3) := by decide +kernel
theorem s_34_39 {d : Nat} {Q : wQ} {L : List (Option Value)} {st : List Value} {w : aw} {cn sn : Nat} {x : Int32} {a : Nat} : wp d 34 Q 39 L (.int x :: .ref a :: st) w cn sn = (kd w a = 4 ∧ wp d 34 Q 42 L st (uF w 194 a (.int x)) cn sn) := w_putfield d_34_39 (by decide +kernel : fT (mO 34) 61 = some (3, 2)) (by decide +kernel) ok_int
theorem d_34_42 : decode (mB 34) 42 = .ok (.return_, 1) := by decide +kernel
theorem s_34_42 {d : Nat} {Q : wQ} {L : List (Option Value)} {w : aw} {cn sn : Nat}  : wp d 34 Q 42 L [] w cn sn = Q none w := w_return d_34_42 rfl
theorem d_35_0 : decode (mB 35) 0 = .ok (.aload_n 0, 1) := by decide +kernel
theorem s_35_0 {d : Nat} {Q : wQ} {L : List (Option Value)} {st : List Value} {w : aw} {cn sn : Nat} {v : Nat} : wp d 35 Q 0 (some (.ref v) :: L) st w cn sn = wp d 35 Q 1 (some (.ref v) :: L) (.ref v :: st) w cn sn := w_aload_n d_35_0 rfl
theorem d_35_1 : decode (mB 35) 1 = .ok (.bipush 35, 2) := by decide +kernel
theorem s_35_1 {d : Nat} {Q : wQ} {L : List (Option Value)} {st : List Value} {w : aw} {cn sn : Nat}  : wp d 35 Q 1 L st w cn sn = wp d 35 Q 3 L (.int 35 :: st) w cn sn := w_bipush d_35_1 (by decide)
theorem d_35_3 : decode (mB 35) 3 = .ok (.putfield 61, 3) := by decide +kernel
theorem s_35_3 {d : Nat} {Q : wQ} {L : List (Option Value)} {st : List Value} {w : aw} {cn sn : Nat} {x : Int32} {a : Nat} : wp d 35 Q 3 L (.int x :: .ref a :: st) w cn sn = (kd w a = 4 ∧ wp d 35 Q 6 L st (uF w 194 a (.int x)) cn sn) := w_putfield d_35_3 (by decide +kernel : fT (mO 35) 61 = some (3, 2)) (by decide +kernel) ok_int
theorem d_35_6 : decode (mB 35) 6 = .ok (.return_, 1) := by decide +kernel
theorem s_35_6 {d : Nat} {Q : wQ} {L : List (Option Value)} {w : aw} {cn sn : Nat}  : wp d 35 Q 6 L [] w cn sn = Q none w := w_return d_35_6 rfl
theorem d_36_0 : decode (mB 36) 0 = .ok (.iconst 0, 1) := by decide +kernel
theorem s_36_0 {d : Nat} {Q : wQ} {L : List (Option Value)} {st : List Value} {w : aw} {cn sn : Nat}  : wp d 36 Q 0 L st w cn sn = wp d 36 Q 1 L (.int 0 :: st) w cn sn := w_iconst d_36_0 (by decide)
theorem d_36_1 : decode (mB 36) 1 = .ok (.istore_n 3, 1) := by decide +kernel
theorem s_36_1 {d : Nat} {Q : wQ} {L : List (Option Value)} {st : List Value} {w : aw} {cn sn : Nat} {a0 a1 a2 a3 : Option Value} {v : Int32} : wp d 36 Q 1 (a0 :: a1 :: a2 :: a3 :: L) (.int v :: st) w cn sn = wp d 36 Q 2 (a0 :: a1 :: clr a2 :: some (.int v) :: L) st w cn sn := w_istore_n d_36_1 (Nat.le_add_left 4 _) rfl
theorem d_36_2 : decode (mB 36) 2 = .ok (.iload_n 3, 1) := by decide +kernel
theorem s_36_2 {d : Nat} {Q : wQ} {L : List (Option Value)} {st : List Value} {w : aw} {cn sn : Nat} {a0 a1 a2 : Option Value} {v : Int32} : wp d 36 Q 2 (a0 :: a1 :: a2 :: some (.int v) :: L) st w cn sn = wp d 36 Q 3 (a0 :: a1 :: a2 :: some (.int v) :: L) (.int v :: st) w cn sn := w_iload_n d_36_2 rfl
theorem d_36_3 : decode (mB 36) 3 = .ok (.aload_n 0, 1) := by decide +kernel
theorem s_36_3 {d : Nat} {Q : wQ} {L : List (Option Value)} {st : List Value} {w : aw} {cn sn : Nat} {v : Nat} : wp d 36 Q 3 (some (.ref v) :: L) st w cn sn = wp d 36 Q 4 (some (.ref v) :: L) (.ref v :: st) w cn sn := w_aload_n d_36_3 rfl
theorem d_36_4 : decode (mB 36) 4 = .ok (.getfield 61, 3) := by decide +kernel
theorem s_36_4 {d : Nat} {Q : wQ} {L : List (Option Value)} {st : List Value} {w : aw} {cn sn : Nat} {a : Nat} : wp d 36 Q 4 L (.ref a :: st) w cn sn = (kd w a = 4 ∧ wp d 36 Q 7 L (fd w 194 a :: st) w cn sn) := w_getfield d_36_4 (by decide +kernel : fT (mO 36) 61 = some (3, 2))
theorem d_36_7 : decode (mB 36) 7 = .ok (.if_icmp .ge 31, 3) := by decide +kernel
theorem s_36_7 {d : Nat} {Q : wQ} {L : List (Option Value)} {st : List Value} {w : aw} {cn sn : Nat} {a b : Int32} : wp d 36 Q 7 L (.int b :: .int a :: st) w cn sn = ((b ≤ a → wp d 36 Q 38 L st w cn sn) ∧ (¬ b ≤ a → wp d 36 Q 10 L st w cn sn)) := w_icge d_36_7 (by decide)
theorem d_36_10 : decode (mB 36) 10 = .ok (.iload_n 3, 1) := by decide +kernel
theorem s_36_10 {d : Nat} {Q : wQ} {L : List (Option Value)} {st : List Value} {w : aw} {cn sn : Nat} {a0 a1 a2 : Option Value} {v : Int32} : wp d 36 Q 10 (a0 :: a1 :: a2 :: some (.int v) :: L) st w cn sn = wp d 36 Q 11 (a0 :: a1 :: a2 :: some (.int v) :: L) (.int v :: st) w cn sn := w_iload_n d_36_10 rfl
theorem d_36_11 : decode (mB 36) 11 = .ok (.aload_n 0, 1) := by decide +kernel
theorem s_36_11 {d : Nat} {Q : wQ} {L : List (Option Value)} {st : List Value} {w : aw} {cn sn : Nat} {v : Nat} : wp d 36 Q 11 (some (.ref v) :: L) st w cn sn = wp d 36 Q 12 (some (.ref v) :: L) (.ref v :: st) w cn sn := w_aload_n d_36_11 rfl
theorem d_36_12 : decode (mB 36) 12 = .ok (.getfield 11, 3) := by decide +kernel
theorem s_36_12 {d : Nat} {Q : wQ} {L : List (Option Value)} {st : List Value} {w : aw} {cn sn : Nat} {a : Nat} : wp d 36 Q 12 L (.ref a :: st) w cn sn = (kd w a = 4 ∧ wp d 36 Q 15 L (fd w 192 a :: st) w cn sn) := w_getfield d_36_12 (by decide +kernel : fT (mO 36) 11 = some (3, 0))
theorem d_36_15 : decode (mB 36) 15 = .ok (.arraylength, 1) := by decide +kernel
theorem s_36_15 {d : Nat} {Q : wQ} {L : List (Option Value)} {st : List Value} {w : aw} {cn sn : Nat} {a : Nat} : wp d 36 Q 15 L (.ref a :: st) w cn sn = ((tyA (kd w a)).isSome = true ∧ wp d 36 Q 16 L (.int (nI (ln w a)) :: st) w cn sn) := wp_row d_36_15 _ _ _ _ _
theorem d_36_16 : decode (mB 36) 16 = .ok (.if_icmp .ge 22, 3) := by decide +kernel
theorem s_36_16 {d : Nat} {Q : wQ} {L : List (Option Value)} {st : List Value} {w : aw} {cn sn : Nat} {a b : Int32} : wp d 36 Q 16 L (.int b :: .int a :: st) w cn sn = ((b ≤ a → wp d 36 Q 38 L st w cn sn) ∧ (¬ b ≤ a → wp d 36 Q 19 L st w cn sn)) := w_icge d_36_16 (by decide)
theorem d_36_19 : decode (mB 36) 19 = .ok (.aload_n 0, 1) := by decide +kernel
theorem s_36_19 {d : Nat} {Q : wQ} {L : List (Option Value)} {st : List Value} {w : aw} {cn sn : Nat} {v : Nat} : wp d 36 Q 19 (some (.ref v) :: L) st w cn sn = wp d 36 Q 20 (some (.ref v) :: L) (.ref v :: st) w cn sn := w_aload_n d_36_19 rfl
theorem d_36_20 : decode (mB 36) 20 = .ok (.getfield 11, 3) := by decide +kernel
theorem s_36_20 {d : Nat} {Q : wQ} {L : List (Option Value)} {st : List Value} {w : aw} {cn sn : Nat} {a : Nat} : wp d 36 Q 20 L (.ref a :: st) w cn sn = (kd w a = 4 ∧ wp d 36 Q 23 L (fd w 192 a :: st) w cn sn) := w_getfield d_36_20 (by decide +kernel : fT (mO 36) 11 = some (3, 0))
theorem d_36_23 : decode (mB 36) 23 = .ok (.iload_n 3, 1) := by decide +kernel
theorem s_36_23 {d : Nat} {Q : wQ} {L : List (Option Value)} {st : List Value} {w : aw} {cn sn : Nat} {a0 a1 a2 : Option Value} {v : Int32} : wp d 36 Q 23 (a0 :: a1 :: a2 :: some (.int v) :: L) st w cn sn = wp d 36 Q 24 (a0 :: a1 :: a2 :: some (.int v) :: L) (.int v :: st) w cn sn := w_iload_n d_36_23 rfl
theorem d_36_24 : decode (mB 36) 24 = .ok (.laload, 1) := by decide +kernel
theorem s_36_24 {d : Nat} {Q : wQ} {L : List (Option Value)} {st : List Value} {w : aw} {cn sn : Nat} {a : Nat} {i : Int32} : wp d 36 Q 24 L (.int i :: .ref a :: st) w cn sn = (kd w a = 22 ∧ inR i (ln w a) ∧ wp d 36 Q 25 L (.long (al w a i.toNatClampNeg) :: st) w cn sn) := wp_row d_36_24 _ _ _ _ _
theorem d_36_25 : decode (mB 36) 25 = .ok (.lload_n 1, 1) := by decide +kernel
theorem s_36_25 {d : Nat} {Q : wQ} {L : List (Option Value)} {st : List Value} {w : aw} {cn sn : Nat} {a0 : Option Value} {v : Int64} : wp d 36 Q 25 (a0 :: some (.long v) :: L) st w cn sn = wp d 36 Q 26 (a0 :: some (.long v) :: L) (.long v :: st) w cn sn := w_lload_n d_36_25 rfl
theorem d_36_26 : decode (mB 36) 26 = .ok (.lcmp, 1) := by decide +kernel
theorem s_36_26 {d : Nat} {Q : wQ} {L : List (Option Value)} {st : List Value} {w : aw} {cn sn : Nat} {a b : Int64} : wp d 36 Q 26 L (.long b :: .long a :: st) w cn sn = wp d 36 Q 27 L (.int (lg_cmp a b) :: st) w cn sn := wp_row d_36_26 _ _ _ _ _
theorem d_36_27 : decode (mB 36) 27 = .ok (.ifCond .ne 5, 3) := by decide +kernel
theorem s_36_27 {d : Nat} {Q : wQ} {L : List (Option Value)} {st : List Value} {w : aw} {cn sn : Nat} {x : Int32} : wp d 36 Q 27 L (.int x :: st) w cn sn = ((¬ x = 0 → wp d 36 Q 32 L st w cn sn) ∧ (x = 0 → wp d 36 Q 30 L st w cn sn)) := w_ifne d_36_27 (by decide)
theorem d_36_30 : decode (mB 36) 30 = .ok (.iload_n 3, 1) := by decide +kernel
theorem s_36_30 {d : Nat} {Q : wQ} {L : List (Option Value)} {st : List Value} {w : aw} {cn sn : Nat} {a0 a1 a2 : Option Value} {v : Int32} : wp d 36 Q 30 (a0 :: a1 :: a2 :: some (.int v) :: L) st w cn sn = wp d 36 Q 31 (a0 :: a1 :: a2 :: some (.int v) :: L) (.int v :: st) w cn sn := w_iload_n d_36_30 rfl
theorem d_36_31 : decode (mB 36) 31 = .ok (.ireturn, 1) := by decide +kernel
theorem s_36_31 {d : Nat} {Q : wQ} {L : List (Option Value)} {w : aw} {cn sn : Nat} {v : Int32} : wp d 36 Q 31 L [.int v] w cn sn = Q (some (.int v)) w := w_ireturn d_36_31 rfl
theorem d_36_32 : decode (mB 36) 32 = .ok (.iinc 3 1, 3) := by decide +kernel
theorem s_36_32 {d : Nat} {Q : wQ} {L : List (Option Value)} {st : List Value} {w : aw} {cn sn : Nat} {a0 a1 a2 : Option Value} {v : Int32} : wp d 36 Q 32 (a0 :: a1 :: a2 :: some (.int v) :: L) st w cn sn = wp d 36 Q 35 (a0 :: a1 :: clr a2 :: some (.int (v + 1)) :: L) st w cn sn := w_iinc d_36_32 rfl (by decide) rfl
theorem d_36_35 : decode (mB 36) 35 = .ok (.goto (-33), 3) := by decide +kernel
theorem s_36_35 {d : Nat} {Q : wQ} {L : List (Option Value)} {st : List Value} {w : aw} {cn sn : Nat}  : wp d 36 Q 35 L st w cn sn = wp d 36 Q 2 L st w cn sn := w_goto d_36_35 (by decide)
theorem d_36_38 : decode (mB 36) 38 = .ok (.iconst (-1), 1) := by decide +kernel
theorem s_36_38 {d : Nat} {Q : wQ} {L : List (Option Value)} {st : List Value} {w : aw} {cn sn : Nat}  : wp d 36 Q 38 L st w cn sn = wp d 36 Q 39 L (.int (-1) :: st) w cn sn := w_iconst d_36_38 (by decide)
theorem d_36_39 : decode (mB 36) 39 = .ok (.ireturn, 1) := by decide +kernel
theorem s_36_39 {d : Nat} {Q : wQ} {L : List (Option Value)} {w : aw} {cn sn : Nat} {v : Int32} : wp d 36 Q 39 L [.int v] w cn sn = Q (some (.int v)) w := w_ireturn d_36_39 rfl
theorem d_37_0 : decode (mB 37) 0 = .ok (.aload_n 0, 1) := by decide +kernel
theorem s_37_0 {d : Nat} {Q : wQ} {L : List (Option Value)} {st : List Value} {w : aw} {cn sn : Nat} {v : Nat} : wp d 37 Q 0 (some (.ref v) :: L) st w cn sn = wp d 37 Q 1 (some (.ref v) :: L) (.ref v :: st) w cn sn := w_aload_n d_37_0 rfl
theorem d_37_1 : decode (mB 37) 1 = .ok (.lload_n 1, 1) := by decide +kernel
theorem s_37_1 {d : Nat} {Q : wQ} {L : List (Option Value)} {st : List Value} {w : aw} {cn sn : Nat} {a0 : Option Value} {v : Int64} : wp d 37 Q 1 (a0 :: some (.long v) :: L) st w cn sn = wp d 37 Q 2 (a0 :: some (.long v) :: L) (.long v :: st) w cn sn := w_lload_n d_37_1 rfl
theorem d_37_2 : decode (mB 37) 2 = .ok (.invokevirtual 65, 3) := by decide +kernel
theorem s_37_2 {d : Nat} {Q : wQ} {L : List (Option Value)} {st : List Value} {w : aw} {cn sn : Nat} {v0 : Value} {b : Nat} : wp d 37 Q 2 L (v0 :: .ref b :: st) w cn sn = (kd w b = 4 ∧ catS st ≤ 8 ∧ wpD d 36 [.ref b, v0] w (fun v w' => wp d 37 Q 5 L (v.toList ++ st) w' cn sn)) := w_virtual (As := [v0]) d_37_2 (by decide +kernel : cT (mO 37) 65 = some (0, 36)) rfl (by decide +kernel) rfl (by decide +kernel) rfl
theorem d_37_5 : decode (mB 37) 5 = .ok (.istore_n 3, 1) := by decide +kernel
theorem s_37_5 {d : Nat} {Q : wQ} {L : List (Option Value)} {st : List Value} {w : aw} {cn sn : Nat} {a0 a1 a2 a3 : Option Value} {v : Int32} : wp d 37 Q 5 (a0 :: a1 :: a2 :: a3 :: L) (.int v :: st) w cn sn = wp d 37 Q 6 (a0 :: a1 :: clr a2 :: some (.int v) :: L) st w cn sn := w_istore_n d_37_5 (Nat.le_add_left 4 _) rfl
theorem d_37_6 : decode (mB 37) 6 = .ok (.iload_n 3, 1) := by decide +kernel
theorem s_37_6 {d : Nat} {Q : wQ} {L : List (Option Value)} {st : List Value} {w : aw} {cn sn : Nat} {a0 a1 a2 : Option Value} {v : Int32} : wp d 37 Q 6 (a0 :: a1 :: a2 :: some (.int v) :: L) st w cn sn = wp d 37 Q 7 (a0 :: a1 :: a2 :: some (.int v) :: L) (.int v :: st) w cn sn := w_iload_n d_37_6 rfl
theorem d_37_7 : decode (mB 37) 7 = .ok (.ifCond .lt 12, 3) := by decide +kernel
theorem s_37_7 {d : Nat} {Q : wQ} {L : List (Option Value)} {st : List Value} {w : aw} {cn sn : Nat} {x : Int32} : wp d 37 Q 7 L (.int x :: st) w cn sn = ((x < 0 → wp d 37 Q 19 L st w cn sn) ∧ (¬ x < 0 → wp d 37 Q 10 L st w cn sn)) := w_iflt d_37_7 (by decide)
theorem d_37_10 : decode (mB 37) 10 = .ok (.iload_n 3, 1) := by decide +kernel
theorem s_37_10 {d : Nat} {Q : wQ} {L : List (Option Value)} {st : List Value} {w : aw} {cn sn : Nat} {a0 a1 a2 : Option Value} {v : Int32} : wp d 37 Q 10 (a0 :: a1 :: a2 :: some (.int v) :: L) st w cn sn = wp d 37 Q 11 (a0 :: a1 :: a2 :: some (.int v) :: L) (.int v :: st) w cn sn := w_iload_n d_37_10 rfl
theorem d_37_11 : decode (mB 37) 11 = .ok (.aload_n 0, 1) := by decide +kernel
theorem s_37_11 {d : Nat} {Q : wQ} {L : List (Option Value)} {st : List Value} {w : aw} {cn sn : Nat} {v : Nat} : wp d 37 Q 11 (some (.ref v) :: L) st w cn sn = wp d 37 Q 12 (some (.ref v) :: L) (.ref v :: st) w cn sn := w_aload_n d_37_11 rfl
theorem d_37_12 : decode (mB 37) 12 = .ok (.getfield 15, 3) := by decide +kernel
theorem s_37_12 {d : Nat} {Q : wQ} {L : List (Option Value)} {st : List Value} {w : aw} {cn sn : Nat} {a : Nat} : wp d 37 Q 12 L (.ref a :: st) w cn sn = (kd w a = 4 ∧ wp d 37 Q 15 L (fd w 193 a :: st) w cn sn) := w_getfield d_37_12 (by decide +kernel : fT (mO 37) 15 = some (3, 1))
theorem d_37_15 : decode (mB 37) 15 = .ok (.arraylength, 1) := by decide +kernel
theorem s_37_15 {d : Nat} {Q : wQ} {L : List (Option Value)} {st : List Value} {w : aw} {cn sn : Nat} {a : Nat} : wp d 37 Q 15 L (.ref a :: st) w cn sn = ((tyA (kd w a)).isSome = true ∧ wp d 37 Q 16 L (.int (nI (ln w a)) :: st) w cn sn) := wp_row d_37_15 _ _ _ _ _
theorem d_37_16 : decode (mB 37) 16 = .ok (.if_icmp .lt 7, 3) := by decide +kernel
theorem s_37_16 {d : Nat} {Q : wQ} {L : List (Option Value)} {st : List Value} {w : aw} {cn sn : Nat} {a b : Int32} : wp d 37 Q 16 L (.int b :: .int a :: st) w cn sn = ((a < b → wp d 37 Q 23 L st w cn sn) ∧ (¬ a < b → wp d 37 Q 19 L st w cn sn)) := w_iclt d_37_16 (by decide)
theorem d_37_19 : decode (mB 37) 19 = .ok (.iconst (-1), 1) := by decide +kernel
theorem s_37_19 {d : Nat} {Q : wQ} {L : List (Option Value)} {st : List Value} {w : aw} {cn sn : Nat}  : wp d 37 Q 19 L st w cn sn = wp d 37 Q 20 L (.int (-1) :: st) w cn sn := w_iconst d_37_19 (by decide)
theorem d_37_20 : decode (mB 37) 20 = .ok (.goto 9, 3) := by decide +kernel
theorem s_37_20 {d : Nat} {Q : wQ} {L : List (Option Value)} {st : List Value} {w : aw} {cn sn : Nat}  : wp d 37 Q 20 L st w cn sn = wp d 37 Q 29 L st w cn sn := w_goto d_37_20 (by decide)
theorem d_37_23 : decode (mB 37) 23 = .ok (.aload_n 0, 1) := by decide +kernel
theorem s_37_23 {d : Nat} {Q : wQ} {L : List (Option Value)} {st : List Value} {w : aw} {cn sn : Nat} {v : Nat} : wp d 37 Q 23 (some (.ref v) :: L) st w cn sn = wp d 37 Q 24 (some (.ref v) :: L) (.ref v :: st) w cn sn := w_aload_n d_37_23 rfl
theorem d_37_24 : decode (mB 37) 24 = .ok (.getfield 15, 3) := by decide +kernel
theorem s_37_24 {d : Nat} {Q : wQ} {L : List (Option Value)} {st : List Value} {w : aw} {cn sn : Nat} {a : Nat} : wp d 37 Q 24 L (.ref a :: st) w cn sn = (kd w a = 4 ∧ wp d 37 Q 27 L (fd w 193 a :: st) w cn sn) := w_getfield d_37_24 (by decide +kernel : fT (mO 37) 15 = some (3, 1))
theorem d_37_27 : decode (mB 37) 27 = .ok (.iload_n 3, 1) := by decide +kernel
theorem s_37_27 {d : Nat} {Q : wQ} {L : List (Option Value)} {st : List Value} {w : aw} {cn sn : Nat} {a0 a1 a2 : Option Value} {v : Int32} : wp d 37 Q 27 (a0 :: a1 :: a2 :: some (.int v) :: L) st w cn sn = wp d 37 Q 28 (a0 :: a1 :: a2 :: some (.int v) :: L) (.int v :: st) w cn sn := w_iload_n d_37_27 rfl
theorem d_37_28 : decode (mB 37) 28 = .ok (.iaload, 1) := by decide +kernel
theorem s_37_28 {d : Nat} {Q : wQ} {L : List (Option Value)} {st : List Value} {w : aw} {cn sn : Nat} {a : Nat} {i : Int32} : wp d 37 Q 28 L (.int i :: .ref a :: st) w cn sn = ((kd w a = 20 ∨ kd w a = 30) ∧ inR i (ln w a) ∧ wp d 37 Q 29 L (.int (ai w a i.toNatClampNeg) :: st) w cn sn) := wp_row d_37_28 _ _ _ _ _
theorem d_37_29 : decode (mB 37) 29 = .ok (.ireturn, 1) := by decide +kernel
theorem s_37_29 {d : Nat} {Q : wQ} {L : List (Option Value)} {w : aw} {cn sn : Nat} {v : Int32} : wp d 37 Q 29 L [.int v] w cn sn = Q (some (.int v)) w := w_ireturn d_37_29 rfl
theorem d_38_0 : decode (mB 38) 0 = .ok (.aload_n 0, 1) := by decide +kernel
theorem s_38_0 {d : Nat} {Q : wQ} {L : List (Option Value)} {st : List Value} {w : aw} {cn sn : Nat} {v : Nat} : wp d 38 Q 0 (some (.ref v) :: L) st w cn sn = wp d 38 Q 1 (some (.ref v) :: L) (.ref v :: st) w cn sn := w_aload_n d_38_0 rfl
theorem d_38_1 : decode (mB 38) 1 = .ok (.lload_n 1, 1) := by decide +kernel
theorem s_38_1 {d : Nat} {Q : wQ} {L : List (Option Value)} {st : List Value} {w : aw} {cn sn : Nat} {a0 : Option Value} {v : Int64} : wp d 38 Q 1 (a0 :: some (.long v) :: L) st w cn sn = wp d 38 Q 2 (a0 :: some (.long v) :: L) (.long v :: st) w cn sn := w_lload_n d_38_1 rfl
theorem d_38_2 : decode (mB 38) 2 = .ok (.invokevirtual 65, 3) := by decide +kernel
theorem s_38_2 {d : Nat} {Q : wQ} {L : List (Option Value)} {st : List Value} {w : aw} {cn sn : Nat} {v0 : Value} {b : Nat} : wp d 38 Q 2 L (v0 :: .ref b :: st) w cn sn = (kd w b = 4 ∧ catS st ≤ 8 ∧ wpD d 36 [.ref b, v0] w (fun v w' => wp d 38 Q 5 L (v.toList ++ st) w' cn sn)) := w_virtual (As := [v0]) d_38_2 (by decide +kernel : cT (mO 38) 65 = some (0, 36)) rfl (by decide +kernel) rfl (by decide +kernel) rfl
theorem d_38_5 : decode (mB 38) 5 = .ok (.iconst (-1), 1) := by decide +kernel
theorem s_38_5 {d : Nat} {Q : wQ} {L : List (Option Value)} {st : List Value} {w : aw} {cn sn : Nat}  : wp d 38 Q 5 L st w cn sn = wp d 38 Q 6 L (.int (-1) :: st) w cn sn := w_iconst d_38_5 (by decide)
theorem d_38_6 : decode (mB 38) 6 = .ok (.if_icmp .eq 5, 3) := by decide +kernel
theorem s_38_6 {d : Nat} {Q : wQ} {L : List (Option Value)} {st : List Value} {w : aw} {cn sn : Nat} {a b : Int32} : wp d 38 Q 6 L (.int b :: .int a :: st) w cn sn = ((a = b → wp d 38 Q 11 L st w cn sn) ∧ (¬ a = b → wp d 38 Q 9 L st w cn sn)) := w_iceq d_38_6 (by decide)
theorem d_38_9 : decode (mB 38) 9 = .ok (.iconst 3, 1) := by decide +kernel
theorem s_38_9 {d : Nat} {Q : wQ} {L : List (Option Value)} {st : List Value} {w : aw} {cn sn : Nat}  : wp d 38 Q 9 L st w cn sn = wp d 38 Q 10 L (.int 3 :: st) w cn sn := w_iconst d_38_9 (by decide)
theorem d_38_10 : decode (mB 38) 10 = .ok (.ireturn, 1) := by decide +kernel
theorem s_38_10 {d : Nat} {Q : wQ} {L : List (Option Value)} {w : aw} {cn sn : Nat} {v : Int32} : wp d 38 Q 10 L [.int v] w cn sn = Q (some (.int v)) w := w_ireturn d_38_10 rfl
theorem d_38_11 : decode (mB 38) 11 = .ok (.aload_n 0, 1) := by decide +kernel
theorem s_38_11 {d : Nat} {Q : wQ} {L : List (Option Value)} {st : List Value} {w : aw} {cn sn : Nat} {v : Nat} : wp d 38 Q 11 (some (.ref v) :: L) st w cn sn = wp d 38 Q 12 (some (.ref v) :: L) (.ref v :: st) w cn sn := w_aload_n d_38_11 rfl
theorem d_38_12 : decode (mB 38) 12 = .ok (.getfield 61, 3) := by decide +kernel
theorem s_38_12 {d : Nat} {Q : wQ} {L : List (Option Value)} {st : List Value} {w : aw} {cn sn : Nat} {a : Nat} : wp d 38 Q 12 L (.ref a :: st) w cn sn = (kd w a = 4 ∧ wp d 38 Q 15 L (fd w 194 a :: st) w cn sn) := w_getfield d_38_12 (by decide +kernel : fT (mO 38) 61 = some (3, 2))
theorem d_38_15 : decode (mB 38) 15 = .ok (.sipush 235, 3) := by decide +kernel
theorem s_38_15 {d : Nat} {Q : wQ} {L : List (Option Value)} {st : List Value} {w : aw} {cn sn : Nat}  : wp d 38 Q 15 L st w cn sn = wp d 38 Q 18 L (.int 235 :: st) w cn sn := w_sipush d_38_15 (by decide)
theorem d_38_18 : decode (mB 38) 18 = .ok (.if_icmp .lt 6, 3) := by decide +kernel
theorem s_38_18 {d : Nat} {Q : wQ} {L : List (Option Value)} {st : List Value} {w : aw} {cn sn : Nat} {a b : Int32} : wp d 38 Q 18 L (.int b :: .int a :: st) w cn sn = ((a < b → wp d 38 Q 24 L st w cn sn) ∧ (¬ a < b → wp d 38 Q 21 L st w cn sn)) := w_iclt d_38_18 (by decide)
theorem d_38_21 : decode (mB 38) 21 = .ok (.bipush 6, 2) := by decide +kernel
theorem s_38_21 {d : Nat} {Q : wQ} {L : List (Option Value)} {st : List Value} {w : aw} {cn sn : Nat}  : wp d 38 Q 21 L st w cn sn = wp d 38 Q 23 L (.int 6 :: st) w cn sn := w_bipush d_38_21 (by decide)
theorem d_38_23 : decode (mB 38) 23 = .ok (.ireturn, 1) := by decide +kernel
theorem s_38_23 {d : Nat} {Q : wQ} {L : List (Option Value)} {w : aw} {cn sn : Nat} {v : Int32} : wp d 38 Q 23 L [.int v] w cn sn = Q (some (.int v)) w := w_ireturn d_38_23 rfl
theorem d_38_24 : decode (mB 38) 24 = .ok (.aload_n 0, 1) := by decide +kernel
theorem s_38_24 {d : Nat} {Q : wQ} {L : List (Option Value)} {st : List Value} {w : aw} {cn sn : Nat} {v : Nat} : wp d 38 Q 24 (some (.ref v) :: L) st w cn sn = wp d 38 Q 25 (some (.ref v) :: L) (.ref v :: st) w cn sn := w_aload_n d_38_24 rfl
theorem d_38_25 : decode (mB 38) 25 = .ok (.lload_n 1, 1) := by decide +kernel
theorem s_38_25 {d : Nat} {Q : wQ} {L : List (Option Value)} {st : List Value} {w : aw} {cn sn : Nat} {a0 : Option Value} {v : Int64} : wp d 38 Q 25 (a0 :: some (.long v) :: L) st w cn sn = wp d 38 Q 26 (a0 :: some (.long v) :: L) (.long v :: st) w cn sn := w_lload_n d_38_25 rfl
theorem d_38_26 : decode (mB 38) 26 = .ok (.iload_n 3, 1) := by decide +kernel
theorem s_38_26 {d : Nat} {Q : wQ} {L : List (Option Value)} {st : List Value} {w : aw} {cn sn : Nat} {a0 a1 a2 : Option Value} {v : Int32} : wp d 38 Q 26 (a0 :: a1 :: a2 :: some (.int v) :: L) st w cn sn = wp d 38 Q 27 (a0 :: a1 :: a2 :: some (.int v) :: L) (.int v :: st) w cn sn := w_iload_n d_38_26 rfl
theorem d_38_27 : decode (mB 38) 27 = .ok (.invokevirtual 47, 3) := by decide +kernel
theorem s_38_27 {d : Nat} {Q : wQ} {L : List (Option Value)} {st : List Value} {w : aw} {cn sn : Nat} {v0 v1 : Value} {b : Nat} : wp d 38 Q 27 L (v1 :: v0 :: .ref b :: st) w cn sn = (kd w b = 4 ∧ catS st ≤ 8 ∧ wpD d 34 [.ref b, v0, v1] w (fun v w' => wp d 38 Q 30 L (v.toList ++ st) w' cn sn)) := w_virtual (As := [v0, v1]) d_38_27 (by decide +kernel : cT (mO 38) 47 = some (0, 34)) rfl (by decide +kernel) rfl (by decide +kernel) rfl
theorem d_38_30 : decode (mB 38) 30 = .ok (.iconst 0, 1) := by decide +kernel
theorem s_38_30 {d : Nat} {Q : wQ} {L : List (Option Value)} {st : List Value} {w : aw} {cn sn : Nat}  : wp d 38 Q 30 L st w cn sn = wp d 38 Q 31 L (.int 0 :: st) w cn sn := w_iconst d_38_30 (by decide)
theorem d_38_31 : decode (mB 38) 31 = .ok (.ireturn, 1) := by decide +kernel
theorem s_38_31 {d : Nat} {Q : wQ} {L : List (Option Value)} {w : aw} {cn sn : Nat} {v : Int32} : wp d 38 Q 31 L [.int v] w cn sn = Q (some (.int v)) w := w_ireturn d_38_31 rfl
theorem d_174_0 : decode (mB 174) 0 = .ok (.aload_n 0, 1) := by decide +kernel
theorem s_174_0 {d : Nat} {Q : wQ} {L : List (Option Value)} {st : List Value} {w : aw} {cn sn : Nat} {v : Nat} : wp d 174 Q 0 (some (.ref v) :: L) st w cn sn = wp d 174 Q 1 (some (.ref v) :: L) (.ref v :: st) w cn sn := w_aload_n d_174_0 rfl
theorem d_174_1 : decode (mB 174) 1 = .ok (.getfield 9, 3) := by decide +kernel
theorem s_174_1 {d : Nat} {Q : wQ} {L : List (Option Value)} {st : List Value} {w : aw} {cn sn : Nat} {a : Nat} : wp d 174 Q 1 L (.ref a :: st) w cn sn = (kd w a = 11 ∧ wp d 174 Q 4 L (fd w 640 a :: st) w cn sn) := w_getfield d_174_1 (by decide +kernel : fT (mO 174) 9 = some (10, 0))
theorem d_174_4 : decode (mB 174) 4 = .ok (.arraylength, 1) := by decide +kernel
theorem s_174_4 {d : Nat} {Q : wQ} {L : List (Option Value)} {st : List Value} {w : aw} {cn sn : Nat} {a : Nat} : wp d 174 Q 4 L (.ref a :: st) w cn sn = ((tyA (kd w a)).isSome = true ∧ wp d 174 Q 5 L (.int (nI (ln w a)) :: st) w cn sn) := wp_row d_174_4 _ _ _ _ _
theorem d_174_5 : decode (mB 174) 5 = .ok (.aload_n 0, 1) := by decide +kernel
theorem s_174_5 {d : Nat} {Q : wQ} {L : List (Option Value)} {st : List Value} {w : aw} {cn sn : Nat} {v : Nat} : wp d 174 Q 5 (some (.ref v) :: L) st w cn sn = wp d 174 Q 6 (some (.ref v) :: L) (.ref v :: st) w cn sn := w_aload_n d_174_5 rfl
theorem d_174_6 : decode (mB 174) 6 = .ok (.invokevirtual 335, 3) := by decide +kernel
theorem s_174_6 {d : Nat} {Q : wQ} {L : List (Option Value)} {st : List Value} {w : aw} {cn sn : Nat} {b : Nat} : wp d 174 Q 6 L (.ref b :: st) w cn sn = (kd w b = 11 ∧ catS st ≤ 8 ∧ wpD d 176 [.ref b] w (fun v w' => wp d 174 Q 9 L (v.toList ++ st) w' cn sn)) := w_virtual (As := []) d_174_6 (by decide +kernel : cT (mO 174) 335 = some (0, 176)) rfl (by decide +kernel) rfl (by decide +kernel) rfl
theorem d_174_9 : decode (mB 174) 9 = .ok (.ishr, 1) := by decide +kernel
theorem s_174_9 {d : Nat} {Q : wQ} {L : List (Option Value)} {st : List Value} {w : aw} {cn sn : Nat} {a b : Int32} : wp d 174 Q 9 L (.int b :: .int a :: st) w cn sn = wp d 174 Q 10 L (.int (a >>> (b &&& 31)) :: st) w cn sn := wp_row d_174_9 _ _ _ _ _
theorem d_174_10 : decode (mB 174) 10 = .ok (.ireturn, 1) := by decide +kernel
theorem s_174_10 {d : Nat} {Q : wQ} {L : List (Option Value)} {w : aw} {cn sn : Nat} {v : Int32} : wp d 174 Q 10 L [.int v] w cn sn = Q (some (.int v)) w := w_ireturn d_174_10 rfl
theorem d_175_0 : decode (mB 175) 0 = .ok (.aload_n 0, 1) := by decide +kernel
theorem s_175_0 {d : Nat} {Q : wQ} {L : List (Option Value)} {st : List Value} {w : aw} {cn sn : Nat} {v : Nat} : wp d 175 Q 0 (some (.ref v) :: L) st w cn sn = wp d 175 Q 1 (some (.ref v) :: L) (.ref v :: st) w cn sn := w_aload_n d_175_0 rfl
theorem d_175_1 : decode (mB 175) 1 = .ok (.invokevirtual 492, 3) := by decide +kernel
theorem s_175_1 {d : Nat} {Q : wQ} {L : List (Option Value)} {st : List Value} {w : aw} {cn sn : Nat} {b : Nat} : wp d 175 Q 1 L (.ref b :: st) w cn sn = (kd w b = 11 ∧ catS st ≤ 8 ∧ wpD d 177 [.ref b] w (fun v w' => wp d 175 Q 4 L (v.toList ++ st) w' cn sn)) := w_virtual (As := []) d_175_1 (by decide +kernel : cT (mO 175) 492 = some (0, 177)) rfl (by decide +kernel) rfl (by decide +kernel) rfl
theorem d_175_4 : decode (mB 175) 4 = .ok (.ifCond .eq 12, 3) := by decide +kernel
theorem s_175_4 {d : Nat} {Q : wQ} {L : List (Option Value)} {st : List Value} {w : aw} {cn sn : Nat} {x : Int32} : wp d 175 Q 4 L (.int x :: st) w cn sn = ((x = 0 → wp d 175 Q 16 L st w cn sn) ∧ (¬ x = 0 → wp d 175 Q 7 L st w cn sn)) := w_ifeq d_175_4 (by decide)
theorem d_175_7 : decode (mB 175) 7 = .ok (.aload_n 0, 1) := by decide +kernel
theorem s_175_7 {d : Nat} {Q : wQ} {L : List (Option Value)} {st : List Value} {w : aw} {cn sn : Nat} {v : Nat} : wp d 175 Q 7 (some (.ref v) :: L) st w cn sn = wp d 175 Q 8 (some (.ref v) :: L) (.ref v :: st) w cn sn := w_aload_n d_175_7 rfl
theorem d_175_8 : decode (mB 175) 8 = .ok (.getfield 9, 3) := by decide +kernel
theorem s_175_8 {d : Nat} {Q : wQ} {L : List (Option Value)} {st : List Value} {w : aw} {cn sn : Nat} {a : Nat} : wp d 175 Q 8 L (.ref a :: st) w cn sn = (kd w a = 11 ∧ wp d 175 Q 11 L (fd w 640 a :: st) w cn sn) := w_getfield d_175_8 (by decide +kernel : fT (mO 175) 9 = some (10, 0))
theorem d_175_11 : decode (mB 175) 11 = .ok (.iload_n 1, 1) := by decide +kernel
theorem s_175_11 {d : Nat} {Q : wQ} {L : List (Option Value)} {st : List Value} {w : aw} {cn sn : Nat} {a0 : Option Value} {v : Int32} : wp d 175 Q 11 (a0 :: some (.int v) :: L) st w cn sn = wp d 175 Q 12 (a0 :: some (.int v) :: L) (.int v :: st) w cn sn := w_iload_n d_175_11 rfl
theorem d_175_12 : decode (mB 175) 12 = .ok (.invokestatic 495, 3) := by decide +kernel
theorem s_175_12 {d : Nat} {Q : wQ} {L : List (Option Value)} {st : List Value} {w : aw} {cn sn : Nat} {v0 v1 : Value} : wp d 175 Q 12 L (v1 :: v0 :: st) w cn sn = (catS st ≤ 8 ∧ wpD d 179 [v0, v1] w (fun v w' => wp d 175 Q 15 L (v.toList ++ st) w' cn sn)) := w_static (As := [v0, v1]) d_175_12 (by decide +kernel : cT (mO 175) 495 = some (2, 179)) (by decide +kernel) rfl (by decide +kernel) rfl
theorem d_175_15 : decode (mB 175) 15 = .ok (.ireturn, 1) := by decide +kernel
theorem s_175_15 {d : Nat} {Q : wQ} {L : List (Option Value)} {w : aw} {cn sn : Nat} {v : Int32} : wp d 175 Q 15 L [.int v] w cn sn = (narrow .char (.int v) = .int v ∧ Q (some (.int v)) w) := w_creturn d_175_15 rfl
theorem d_175_16 : decode (mB 175) 16 = .ok (.aload_n 0, 1) := by decide +kernel
theorem s_175_16 {d : Nat} {Q : wQ} {L : List (Option Value)} {st : List Value} {w : aw} {cn sn : Nat} {v : Nat} : wp d 175 Q 16 (some (.ref v) :: L) st w cn sn = wp d 175 Q 17 (some (.ref v) :: L) (.ref v :: st) w cn sn := w_aload_n d_175_16 rfl
theorem d_175_17 : decode (mB 175) 17 = .ok (.getfield 9, 3) := by decide +kernel
theorem s_175_17 {d : Nat} {Q : wQ} {L : List (Option Value)} {st : List Value} {w : aw} {cn sn : Nat} {a : Nat} : wp d 175 Q 17 L (.ref a :: st) w cn sn = (kd w a = 11 ∧ wp d 175 Q 20 L (fd w 640 a :: st) w cn sn) := w_getfield d_175_17 (by decide +kernel : fT (mO 175) 9 = some (10, 0))
theorem d_175_20 : decode (mB 175) 20 = .ok (.iload_n 1, 1) := by decide +kernel
theorem s_175_20 {d : Nat} {Q : wQ} {L : List (Option Value)} {st : List Value} {w : aw} {cn sn : Nat} {a0 : Option Value} {v : Int32} : wp d 175 Q 20 (a0 :: some (.int v) :: L) st w cn sn = wp d 175 Q 21 (a0 :: some (.int v) :: L) (.int v :: st) w cn sn := w_iload_n d_175_20 rfl
theorem d_175_21 : decode (mB 175) 21 = .ok (.invokestatic 498, 3) := by decide +kernel
theorem s_175_21 {d : Nat} {Q : wQ} {L : List (Option Value)} {st : List Value} {w : aw} {cn sn : Nat} {v0 v1 : Value} : wp d 175 Q 21 L (v1 :: v0 :: st) w cn sn = (catS st ≤ 8 ∧ wpD d 182 [v0, v1] w (fun v w' => wp d 175 Q 24 L (v.toList ++ st) w' cn sn)) := w_static (As := [v0, v1]) d_175_21 (by decide +kernel : cT (mO 175) 498 = some (2, 182)) (by decide +kernel) rfl (by decide +kernel) rfl
theorem d_175_24 : decode (mB 175) 24 = .ok (.ireturn, 1) := by decide +kernel
theorem s_175_24 {d : Nat} {Q : wQ} {L : List (Option Value)} {w : aw} {cn sn : Nat} {v : Int32} : wp d 175 Q 24 L [.int v] w cn sn = (narrow .char (.int v) = .int v ∧ Q (some (.int v)) w) := w_creturn d_175_24 rfl
theorem d_176_0 : decode (mB 176) 0 = .ok (.getstatic 38, 3) := by decide +kernel
theorem s_176_0 {d : Nat} {Q : wQ} {L : List (Option Value)} {st : List Value} {w : aw} {cn sn : Nat}  : wp d 176 Q 0 L st w cn sn = wp d 176 Q 3 L (fd w 10001 0 :: st) w cn sn := w_getstatic d_176_0 (by decide +kernel : sT (mO 176) 38 = some 1)
theorem d_176_3 : decode (mB 176) 3 = .ok (.ifCond .eq 10, 3) := by decide +kernel
theorem s_176_3 {d : Nat} {Q : wQ} {L : List (Option Value)} {st : List Value} {w : aw} {cn sn : Nat} {x : Int32} : wp d 176 Q 3 L (.int x :: st) w cn sn = ((x = 0 → wp d 176 Q 13 L st w cn sn) ∧ (¬ x = 0 → wp d 176 Q 6 L st w cn sn)) := w_ifeq d_176_3 (by decide)
theorem d_176_6 : decode (mB 176) 6 = .ok (.aload_n 0, 1) := by decide +kernel
theorem s_176_6 {d : Nat} {Q : wQ} {L : List (Option Value)} {st : List Value} {w : aw} {cn sn : Nat} {v : Nat} : wp d 176 Q 6 (some (.ref v) :: L) st w cn sn = wp d 176 Q 7 (some (.ref v) :: L) (.ref v :: st) w cn sn := w_aload_n d_176_6 rfl
theorem d_176_7 : decode (mB 176) 7 = .ok (.getfield 15, 3) := by decide +kernel
theorem s_176_7 {d : Nat} {Q : wQ} {L : List (Option Value)} {st : List Value} {w : aw} {cn sn : Nat} {a : Nat} : wp d 176 Q 7 L (.ref a :: st) w cn sn = (kd w a = 11 ∧ wp d 176 Q 10 L (fd w 641 a :: st) w cn sn) := w_getfield d_176_7 (by decide +kernel : fT (mO 176) 15 = some (10, 1))
theorem d_176_10 : decode (mB 176) 10 = .ok (.goto 4, 3) := by decide +kernel
theorem s_176_10 {d : Nat} {Q : wQ} {L : List (Option Value)} {st : List Value} {w : aw} {cn sn : Nat}  : wp d 176 Q 10 L st w cn sn = wp d 176 Q 14 L st w cn sn := w_goto d_176_10 (by decide)
theorem d_176_13 : decode (mB 176) 13 = .ok (.iconst 1, 1) := by decide +kernel
theorem s_176_13 {d : Nat} {Q : wQ} {L : List (Option Value)} {st : List Value} {w : aw} {cn sn : Nat}  : wp d 176 Q 13 L st w cn sn = wp d 176 Q 14 L (.int 1 :: st) w cn sn := w_iconst d_176_13 (by decide)
theorem d_176_14 : decode (mB 176) 14 = .ok (.ireturn, 1) := by decide +kernel
theorem s_176_14 {d : Nat} {Q : wQ} {L : List (Option Value)} {w : aw} {cn sn : Nat} {v : Int32} : wp d 176 Q 14 L [.int v] w cn sn = (narrow .byte (.int v) = .int v ∧ Q (some (.int v)) w) := w_breturn d_176_14 rfl
theorem d_177_0 : decode (mB 177) 0 = .ok (.getstatic 38, 3) := by decide +kernel
theorem s_177_0 {d : Nat} {Q : wQ} {L : List (Option Value)} {st : List Value} {w : aw} {cn sn : Nat}  : wp d 177 Q 0 L st w cn sn = wp d 177 Q 3 L (fd w 10001 0 :: st) w cn sn := w_getstatic d_177_0 (by decide +kernel : sT (mO 177) 38 = some 1)
theorem d_177_3 : decode (mB 177) 3 = .ok (.ifCond .eq 14, 3) := by decide +kernel
theorem s_177_3 {d : Nat} {Q : wQ} {L : List (Option Value)} {st : List Value} {w : aw} {cn sn : Nat} {x : Int32} : wp d 177 Q 3 L (.int x :: st) w cn sn = ((x = 0 → wp d 177 Q 17 L st w cn sn) ∧ (¬ x = 0 → wp d 177 Q 6 L st w cn sn)) := w_ifeq d_177_3 (by decide)
theorem d_177_6 : decode (mB 177) 6 = .ok (.aload_n 0, 1) := by decide +kernel
theorem s_177_6 {d : Nat} {Q : wQ} {L : List (Option Value)} {st : List Value} {w : aw} {cn sn : Nat} {v : Nat} : wp d 177 Q 6 (some (.ref v) :: L) st w cn sn = wp d 177 Q 7 (some (.ref v) :: L) (.ref v :: st) w cn sn := w_aload_n d_177_6 rfl
theorem d_177_7 : decode (mB 177) 7 = .ok (.getfield 15, 3) := by decide +kernel
theorem s_177_7 {d : Nat} {Q : wQ} {L : List (Option Value)} {st : List Value} {w : aw} {cn sn : Nat} {a : Nat} : wp d 177 Q 7 L (.ref a :: st) w cn sn = (kd w a = 11 ∧ wp d 177 Q 10 L (fd w 641 a :: st) w cn sn) := w_getfield d_177_7 (by decide +kernel : fT (mO 177) 15 = some (10, 1))
theorem d_177_10 : decode (mB 177) 10 = .ok (.ifCond .ne 7, 3) := by decide +kernel
theorem s_177_10 {d : Nat} {Q : wQ} {L : List (Option Value)} {st : List Value} {w : aw} {cn sn : Nat} {x : Int32} : wp d 177 Q 10 L (.int x :: st) w cn sn = ((¬ x = 0 → wp d 177 Q 17 L st w cn sn) ∧ (x = 0 → wp d 177 Q 13 L st w cn sn)) := w_ifne d_177_10 (by decide)
theorem d_177_13 : decode (mB 177) 13 = .ok (.iconst 1, 1) := by decide +kernel
theorem s_177_13 {d : Nat} {Q : wQ} {L : List (Option Value)} {st : List Value} {w : aw} {cn sn : Nat}  : wp d 177 Q 13 L st w cn sn = wp d 177 Q 14 L (.int 1 :: st) w cn sn := w_iconst d_177_13 (by decide)
theorem d_177_14 : decode (mB 177) 14 = .ok (.goto 4, 3) := by decide +kernel
theorem s_177_14 {d : Nat} {Q : wQ} {L : List (Option Value)} {st : List Value} {w : aw} {cn sn : Nat}  : wp d 177 Q 14 L st w cn sn = wp d 177 Q 18 L st w cn sn := w_goto d_177_14 (by decide)
theorem d_177_17 : decode (mB 177) 17 = .ok (.iconst 0, 1) := by decide +kernel
theorem s_177_17 {d : Nat} {Q : wQ} {L : List (Option Value)} {st : List Value} {w : aw} {cn sn : Nat}  : wp d 177 Q 17 L st w cn sn = wp d 177 Q 18 L (.int 0 :: st) w cn sn := w_iconst d_177_17 (by decide)
theorem d_177_18 : decode (mB 177) 18 = .ok (.ireturn, 1) := by decide +kernel
theorem s_177_18 {d : Nat} {Q : wQ} {L : List (Option Value)} {w : aw} {cn sn : Nat} {v : Int32} : wp d 177 Q 18 L [.int v] w cn sn = (narrow .boolean (.int v) = .int v ∧ Q (some (.int v)) w) := w_zreturn d_177_18 rfl
theorem d_178_0 : decode (mB 178) 0 = .ok (.iload_n 0, 1) := by decide +kernel
theorem s_178_0 {d : Nat} {Q : wQ} {L : List (Option Value)} {st : List Value} {w : aw} {cn sn : Nat} {v : Int32} : wp d 178 Q 0 (some (.int v) :: L) st w cn sn = wp d 178 Q 1 (some (.int v) :: L) (.int v :: st) w cn sn := w_iload_n d_178_0 rfl
theorem d_178_1 : decode (mB 178) 1 = .ok (.iload_n 1, 1) := by decide +kernel
theorem s_178_1 {d : Nat} {Q : wQ} {L : List (Option Value)} {st : List Value} {w : aw} {cn sn : Nat} {a0 : Option Value} {v : Int32} : wp d 178 Q 1 (a0 :: some (.int v) :: L) st w cn sn = wp d 178 Q 2 (a0 :: some (.int v) :: L) (.int v :: st) w cn sn := w_iload_n d_178_1 rfl
theorem d_178_2 : decode (mB 178) 2 = .ok (.getstatic 1053, 3) := by decide +kernel
theorem s_178_2 {d : Nat} {Q : wQ} {L : List (Option Value)} {st : List Value} {w : aw} {cn sn : Nat}  : wp d 178 Q 2 L st w cn sn = wp d 178 Q 5 L (fd w 10002 0 :: st) w cn sn := w_getstatic d_178_2 (by decide +kernel : sT (mO 178) 1053 = some 2)
theorem d_178_5 : decode (mB 178) 5 = .ok (.invokestatic 1059, 3) := by decide +kernel
theorem s_178_5 {d : Nat} {Q : wQ} {L : List (Option Value)} {st : List Value} {w : aw} {cn sn : Nat} {v0 v1 v2 : Value} : wp d 178 Q 5 L (v2 :: v1 :: v0 :: st) w cn sn = (catS st ≤ 8 ∧ wpD d 185 [v0, v1, v2] w (fun v w' => wp d 178 Q 8 L (v.toList ++ st) w' cn sn)) := w_static (As := [v0, v1, v2]) d_178_5 (by decide +kernel : cT (mO 178) 1059 = some (2, 185)) (by decide +kernel) rfl (by decide +kernel) rfl
theorem d_178_8 : decode (mB 178) 8 = .ok (.pop, 1) := by decide +kernel
theorem s_178_8 {d : Nat} {Q : wQ} {L : List (Option Value)} {st : List Value} {w : aw} {cn sn : Nat} {v : Value} : wp d 178 Q 8 L (v :: st) w cn sn = (v.category = 1 ∧ wp d 178 Q 9 L st w cn sn) := wp_row d_178_8 _ _ _ _ _
theorem d_178_9 : decode (mB 178) 9 = .ok (.return_, 1) := by decide +kernel
theorem s_178_9 {d : Nat} {Q : wQ} {L : List (Option Value)} {w : aw} {cn sn : Nat}  : wp d 178 Q 9 L [] w cn sn = Q none w := w_return d_178_9 rfl
theorem d_179_0 : decode (mB 179) 0 = .ok (.iload_n 1, 1) := by decide +kernel
theorem s_179_0 {d : Nat} {Q : wQ} {L : List (Option Value)} {st : List Value} {w : aw} {cn sn : Nat} {a0 : Option Value} {v : Int32} : wp d 179 Q 0 (a0 :: some (.int v) :: L) st w cn sn = wp d 179 Q 1 (a0 :: some (.int v) :: L) (.int v :: st) w cn sn := w_iload_n d_179_0 rfl
theorem d_179_1 : decode (mB 179) 1 = .ok (.aload_n 0, 1) := by decide +kernel
theorem s_179_1 {d : Nat} {Q : wQ} {L : List (Option Value)} {st : List Value} {w : aw} {cn sn : Nat} {v : Nat} : wp d 179 Q 1 (some (.ref v) :: L) st w cn sn = wp d 179 Q 2 (some (.ref v) :: L) (.ref v :: st) w cn sn := w_aload_n d_179_1 rfl
theorem s_179_1n {d : Nat} {Q : wQ} {L : List (Option Value)} {st : List Value} {w : aw} {cn sn : Nat}  : wp d 179 Q 1 (some .null :: L) st w cn sn = wp d 179 Q 2 (some .null :: L) (.null :: st) w cn sn := w_aload_nN d_179_1 rfl
theorem d_179_2 : decode (mB 179) 2 = .ok (.arraylength, 1) := by decide +kernel
theorem s_179_2 {d : Nat} {Q : wQ} {L : List (Option Value)} {st : List Value} {w : aw} {cn sn : Nat} {a : Nat} : wp d 179 Q 2 L (.ref a :: st) w cn sn = ((tyA (kd w a)).isSome = true ∧ wp d 179 Q 3 L (.int (nI (ln w a)) :: st) w cn sn) := wp_row d_179_2 _ _ _ _ _
theorem d_179_3 : decode (mB 179) 3 = .ok (.invokestatic 9, 3) := by decide +kernel
theorem s_179_3 {d : Nat} {Q : wQ} {L : List (Option Value)} {st : List Value} {w : aw} {cn sn : Nat} {v0 v1 : Value} : wp d 179 Q 3 L (v1 :: v0 :: st) w cn sn = (catS st ≤ 8 ∧ wpD d 178 [v0, v1] w (fun v w' => wp d 179 Q 6 L (v.toList ++ st) w' cn sn)) := w_static (As := [v0, v1]) d_179_3 (by decide +kernel : cT (mO 179) 9 = some (2, 178)) (by decide +kernel) rfl (by decide +kernel) rfl
theorem d_179_6 : decode (mB 179) 6 = .ok (.aload_n 0, 1) := by decide +kernel
theorem s_179_6 {d : Nat} {Q : wQ} {L : List (Option Value)} {st : List Value} {w : aw} {cn sn : Nat} {v : Nat} : wp d 179 Q 6 (some (.ref v) :: L) st w cn sn = wp d 179 Q 7 (some (.ref v) :: L) (.ref v :: st) w cn sn := w_aload_n d_179_6 rfl
theorem s_179_6n {d : Nat} {Q : wQ} {L : List (Option Value)} {st : List Value} {w : aw} {cn sn : Nat}  : wp d 179 Q 6 (some .null :: L) st w cn sn = wp d 179 Q 7 (some .null :: L) (.null :: st) w cn sn := w_aload_nN d_179_6 rfl
theorem d_179_7 : decode (mB 179) 7 = .ok (.iload_n 1, 1) := by decide +kernel
theorem s_179_7 {d : Nat} {Q : wQ} {L : List (Option Value)} {st : List Value} {w : aw} {cn sn : Nat} {a0 : Option Value} {v : Int32} : wp d 179 Q 7 (a0 :: some (.int v) :: L) st w cn sn = wp d 179 Q 8 (a0 :: some (.int v) :: L) (.int v :: st) w cn sn := w_iload_n d_179_7 rfl
theorem d_179_8 : decode (mB 179) 8 = .ok (.baload, 1) := by decide +kernel
theorem s_179_8 {d : Nat} {Q : wQ} {L : List (Option Value)} {st : List Value} {w : aw} {cn sn : Nat} {a : Nat} {i : Int32} : wp d 179 Q 8 L (.int i :: .ref a :: st) w cn sn = ((kd w a = 21 ∨ kd w a = 23 ∨ kd w a = 31) ∧ inR i (ln w a) ∧ wp d 179 Q 9 L (.int (ai w a i.toNatClampNeg) :: st) w cn sn) := wp_row d_179_8 _ _ _ _ _
theorem d_179_9 : decode (mB 179) 9 = .ok (.sipush 255, 3) := by decide +kernel
theorem s_179_9 {d : Nat} {Q : wQ} {L : List (Option Value)} {st : List Value} {w : aw} {cn sn : Nat}  : wp d 179 Q 9 L st w cn sn = wp d 179 Q 12 L (.int 255 :: st) w cn sn := w_sipush d_179_9 (by decide)
theorem d_179_12 : decode (mB 179) 12 = .ok (.iand, 1) := by decide +kernel
theorem s_179_12 {d : Nat} {Q : wQ} {L : List (Option Value)} {st : List Value} {w : aw} {cn sn : Nat} {a b : Int32} : wp d 179 Q 12 L (.int b :: .int a :: st) w cn sn = wp d 179 Q 13 L (.int (a &&& b) :: st) w cn sn := wp_row d_179_12 _ _ _ _ _
theorem d_179_13 : decode (mB 179) 13 = .ok (.i2c, 1) := by decide +kernel
theorem s_179_13 {d : Nat} {Q : wQ} {L : List (Option Value)} {st : List Value} {w : aw} {cn sn : Nat} {a : Int32} : wp d 179 Q 13 L (.int a :: st) w cn sn = wp d 179 Q 14 L (.int (a.toUInt32 % 65536).toInt32 :: st) w cn sn := wp_row d_179_13 _ _ _ _ _
theorem d_179_14 : decode (mB 179) 14 = .ok (.ireturn, 1) := by decide +kernel
theorem s_179_14 {d : Nat} {Q : wQ} {L : List (Option Value)} {w : aw} {cn sn : Nat} {v : Int32} : wp d 179 Q 14 L [.int v] w cn sn = (narrow .char (.int v) = .int v ∧ Q (some (.int v)) w) := w_creturn d_179_14 rfl
theorem d_184_0 : decode (mB 184) 0 = .ok (.iconst 0, 1) := by decide +kernel
theorem s_184_0 {d : Nat} {Q : wQ} {L : List (Option Value)} {st : List Value} {w : aw} {cn sn : Nat}  : wp d 184 Q 0 L st w cn sn = wp d 184 Q 1 L (.int 0 :: st) w cn sn := w_iconst d_184_0 (by decide)
theorem d_184_1 : decode (mB 184) 1 = .ok (.istore_n 2, 1) := by decide +kernel
theorem s_184_1 {d : Nat} {Q : wQ} {L : List (Option Value)} {st : List Value} {w : aw} {cn sn : Nat} {a0 a1 a2 : Option Value} {v : Int32} : wp d 184 Q 1 (a0 :: a1 :: a2 :: L) (.int v :: st) w cn sn = wp d 184 Q 2 (a0 :: clr a1 :: some (.int v) :: L) st w cn sn := w_istore_n d_184_1 (Nat.le_add_left 3 _) rfl
theorem d_184_2 : decode (mB 184) 2 = .ok (.aload_n 0, 1) := by decide +kernel
theorem s_184_2 {d : Nat} {Q : wQ} {L : List (Option Value)} {st : List Value} {w : aw} {cn sn : Nat} {v : Nat} : wp d 184 Q 2 (some (.ref v) :: L) st w cn sn = wp d 184 Q 3 (some (.ref v) :: L) (.ref v :: st) w cn sn := w_aload_n d_184_2 rfl
theorem s_184_2n {d : Nat} {Q : wQ} {L : List (Option Value)} {st : List Value} {w : aw} {cn sn : Nat}  : wp d 184 Q 2 (some .null :: L) st w cn sn = wp d 184 Q 3 (some .null :: L) (.null :: st) w cn sn := w_aload_nN d_184_2 rfl
theorem d_184_3 : decode (mB 184) 3 = .ok (.arraylength, 1) := by decide +kernel
theorem s_184_3 {d : Nat} {Q : wQ} {L : List (Option Value)} {st : List Value} {w : aw} {cn sn : Nat} {a : Nat} : wp d 184 Q 3 L (.ref a :: st) w cn sn = ((tyA (kd w a)).isSome = true ∧ wp d 184 Q 4 L (.int (nI (ln w a)) :: st) w cn sn) := wp_row d_184_3 _ _ _ _ _
theorem d_184_4 : decode (mB 184) 4 = .ok (.istore_n 3, 1) := by decide +kernel
theorem s_184_4 {d : Nat} {Q : wQ} {L : List (Option Value)} {st : List Value} {w : aw} {cn sn : Nat} {a0 a1 a2 a3 : Option Value} {v : Int32} : wp d 184 Q 4 (a0 :: a1 :: a2 :: a3 :: L) (.int v :: st) w cn sn = wp d 184 Q 5 (a0 :: a1 :: clr a2 :: some (.int v) :: L) st w cn sn := w_istore_n d_184_4 (Nat.le_add_left 4 _) rfl
theorem d_184_5 : decode (mB 184) 5 = .ok (.iload_n 2, 1) := by decide +kernel
theorem s_184_5 {d : Nat} {Q : wQ} {L : List (Option Value)} {st : List Value} {w : aw} {cn sn : Nat} {a0 a1 : Option Value} {v : Int32} : wp d 184 Q 5 (a0 :: a1 :: some (.int v) :: L) st w cn sn = wp d 184 Q 6 (a0 :: a1 :: some (.int v) :: L) (.int v :: st) w cn sn := w_iload_n d_184_5 rfl
theorem d_184_6 : decode (mB 184) 6 = .ok (.iload_n 3, 1) := by decide +kernel
theorem s_184_6 {d : Nat} {Q : wQ} {L : List (Option Value)} {st : List Value} {w : aw} {cn sn : Nat} {a0 a1 a2 : Option Value} {v : Int32} : wp d 184 Q 6 (a0 :: a1 :: a2 :: some (.int v) :: L) st w cn sn = wp d 184 Q 7 (a0 :: a1 :: a2 :: some (.int v) :: L) (.int v :: st) w cn sn := w_iload_n d_184_6 rfl
theorem d_184_7 : decode (mB 184) 7 = .ok (.if_icmp .ge 13, 3) := by decide +kernel
theorem s_184_7 {d : Nat} {Q : wQ} {L : List (Option Value)} {st : List Value} {w : aw} {cn sn : Nat} {a b : Int32} : wp d 184 Q 7 L (.int b :: .int a :: st) w cn sn = ((b ≤ a → wp d 184 Q 20 L st w cn sn) ∧ (¬ b ≤ a → wp d 184 Q 10 L st w cn sn)) := w_icge d_184_7 (by decide)
theorem d_184_10 : decode (mB 184) 10 = .ok (.aload_n 0, 1) := by decide +kernel
theorem s_184_10 {d : Nat} {Q : wQ} {L : List (Option Value)} {st : List Value} {w : aw} {cn sn : Nat} {v : Nat} : wp d 184 Q 10 (some (.ref v) :: L) st w cn sn = wp d 184 Q 11 (some (.ref v) :: L) (.ref v :: st) w cn sn := w_aload_n d_184_10 rfl
theorem s_184_10n {d : Nat} {Q : wQ} {L : List (Option Value)} {st : List Value} {w : aw} {cn sn : Nat}  : wp d 184 Q 10 (some .null :: L) st w cn sn = wp d 184 Q 11 (some .null :: L) (.null :: st) w cn sn := w_aload_nN d_184_10 rfl
theorem d_184_11 : decode (mB 184) 11 = .ok (.iload_n 2, 1) := by decide +kernel
theorem s_184_11 {d : Nat} {Q : wQ} {L : List (Option Value)} {st : List Value} {w : aw} {cn sn : Nat} {a0 a1 : Option Value} {v : Int32} : wp d 184 Q 11 (a0 :: a1 :: some (.int v) :: L) st w cn sn = wp d 184 Q 12 (a0 :: a1 :: some (.int v) :: L) (.int v :: st) w cn sn := w_iload_n d_184_11 rfl
theorem d_184_12 : decode (mB 184) 12 = .ok (.iload_n 1, 1) := by decide +kernel
theorem s_184_12 {d : Nat} {Q : wQ} {L : List (Option Value)} {st : List Value} {w : aw} {cn sn : Nat} {a0 : Option Value} {v : Int32} : wp d 184 Q 12 (a0 :: some (.int v) :: L) st w cn sn = wp d 184 Q 13 (a0 :: some (.int v) :: L) (.int v :: st) w cn sn := w_iload_n d_184_12 rfl
theorem d_184_13 : decode (mB 184) 13 = .ok (.iastore, 1) := by decide +kernel
theorem s_184_13 {d : Nat} {Q : wQ} {L : List (Option Value)} {st : List Value} {w : aw} {cn sn : Nat} {a : Nat} {i x : Int32} : wp d 184 Q 13 L (.int x :: .int i :: .ref a :: st) w cn sn = (kd w a = 20 ∧ inR i (ln w a) ∧ wp d 184 Q 14 L st (uA w a i.toNatClampNeg x) cn sn) := wp_row d_184_13 _ _ _ _ _
theorem d_184_14 : decode (mB 184) 14 = .ok (.iinc 2 1, 3) := by decide +kernel
theorem s_184_14 {d : Nat} {Q : wQ} {L : List (Option Value)} {st : List Value} {w : aw} {cn sn : Nat} {a0 a1 : Option Value} {v : Int32} : wp d 184 Q 14 (a0 :: a1 :: some (.int v) :: L) st w cn sn = wp d 184 Q 17 (a0 :: clr a1 :: some (.int (v + 1)) :: L) st w cn sn := w_iinc d_184_14 rfl (by decide) rfl
theorem d_184_17 : decode (mB 184) 17 = .ok (.goto (-12), 3) := by decide +kernel
theorem s_184_17 {d : Nat} {Q : wQ} {L : List (Option Value)} {st : List Value} {w : aw} {cn sn : Nat}  : wp d 184 Q 17 L st w cn sn = wp d 184 Q 5 L st w cn sn := w_goto d_184_17 (by decide)
theorem d_184_20 : decode (mB 184) 20 = .ok (.return_, 1) := by decide +kernel
theorem s_184_20 {d : Nat} {Q : wQ} {L : List (Option Value)} {w : aw} {cn sn : Nat}  : wp d 184 Q 20 L [] w cn sn = Q none w := w_return d_184_20 rfl
theorem d_185_0 : decode (mB 185) 0 = .ok (.iload_n 0, 1) := by decide +kernel
theorem s_185_0 {d : Nat} {Q : wQ} {L : List (Option Value)} {st : List Value} {w : aw} {cn sn : Nat} {v : Int32} : wp d 185 Q 0 (some (.int v) :: L) st w cn sn = wp d 185 Q 1 (some (.int v) :: L) (.int v :: st) w cn sn := w_iload_n d_185_0 rfl
theorem d_185_1 : decode (mB 185) 1 = .ok (.ifCond .lt 8, 3) := by decide +kernel
theorem s_185_1 {d : Nat} {Q : wQ} {L : List (Option Value)} {st : List Value} {w : aw} {cn sn : Nat} {x : Int32} : wp d 185 Q 1 L (.int x :: st) w cn sn = ((x < 0 → wp d 185 Q 9 L st w cn sn) ∧ (¬ x < 0 → wp d 185 Q 4 L st w cn sn)) := w_iflt d_185_1 (by decide)
theorem d_185_4 : decode (mB 185) 4 = .ok (.iload_n 0, 1) := by decide +kernel
theorem s_185_4 {d : Nat} {Q : wQ} {L : List (Option Value)} {st : List Value} {w : aw} {cn sn : Nat} {v : Int32} : wp d 185 Q 4 (some (.int v) :: L) st w cn sn = wp d 185 Q 5 (some (.int v) :: L) (.int v :: st) w cn sn := w_iload_n d_185_4 rfl
theorem d_185_5 : decode (mB 185) 5 = .ok (.iload_n 1, 1) := by decide +kernel
theorem s_185_5 {d : Nat} {Q : wQ} {L : List (Option Value)} {st : List Value} {w : aw} {cn sn : Nat} {a0 : Option Value} {v : Int32} : wp d 185 Q 5 (a0 :: some (.int v) :: L) st w cn sn = wp d 185 Q 6 (a0 :: some (.int v) :: L) (.int v :: st) w cn sn := w_iload_n d_185_5 rfl
theorem d_185_6 : decode (mB 185) 6 = .ok (.if_icmp .lt 10, 3) := by decide +kernel
theorem s_185_6 {d : Nat} {Q : wQ} {L : List (Option Value)} {st : List Value} {w : aw} {cn sn : Nat} {a b : Int32} : wp d 185 Q 6 L (.int b :: .int a :: st) w cn sn = ((a < b → wp d 185 Q 16 L st w cn sn) ∧ (¬ a < b → wp d 185 Q 9 L st w cn sn)) := w_iclt d_185_6 (by decide)
theorem d_185_9 : decode (mB 185) 9 = .ok (.aload_n 2, 1) := by decide +kernel
theorem s_185_9 {d : Nat} {Q : wQ} {L : List (Option Value)} {st : List Value} {w : aw} {cn sn : Nat} {a0 a1 : Option Value} {v : Nat} : wp d 185 Q 9 (a0 :: a1 :: some (.ref v) :: L) st w cn sn = wp d 185 Q 10 (a0 :: a1 :: some (.ref v) :: L) (.ref v :: st) w cn sn := w_aload_n d_185_9 rfl
theorem s_185_9n {d : Nat} {Q : wQ} {L : List (Option Value)} {st : List Value} {w : aw} {cn sn : Nat} {a0 a1 : Option Value} : wp d 185 Q 9 (a0 :: a1 :: some .null :: L) st w cn sn = wp d 185 Q 10 (a0 :: a1 :: some .null :: L) (.null :: st) w cn sn := w_aload_nN d_185_9 rfl
theorem d_185_10 : decode (mB 185) 10 = .ok (.iload_n 0, 1) := by decide +kernel
theorem s_185_10 {d : Nat} {Q : wQ} {L : List (Option Value)} {st : List Value} {w : aw} {cn sn : Nat} {v : Int32} : wp d 185 Q 10 (some (.int v) :: L) st w cn sn = wp d 185 Q 11 (some (.int v) :: L) (.int v :: st) w cn sn := w_iload_n d_185_10 rfl
theorem d_185_11 : decode (mB 185) 11 = .ok (.iload_n 1, 1) := by decide +kernel
theorem s_185_11 {d : Nat} {Q : wQ} {L : List (Option Value)} {st : List Value} {w : aw} {cn sn : Nat} {a0 : Option Value} {v : Int32} : wp d 185 Q 11 (a0 :: some (.int v) :: L) st w cn sn = wp d 185 Q 12 (a0 :: some (.int v) :: L) (.int v :: st) w cn sn := w_iload_n d_185_11 rfl
theorem d_185_12 : decode (mB 185) 12 = .ok (.invokestatic 95, 3) := by decide +kernel
theorem d_185_15 : decode (mB 185) 15 = .ok (.athrow, 1) := by decide +kernel
theorem d_185_16 : decode (mB 185) 16 = .ok (.iload_n 0, 1) := by decide +kernel
theorem s_185_16 {d : Nat} {Q : wQ} {L : List (Option Value)} {st : List Value} {w : aw} {cn sn : Nat} {v : Int32} : wp d 185 Q 16 (some (.int v) :: L) st w cn sn = wp d 185 Q 17 (some (.int v) :: L) (.int v :: st) w cn sn := w_iload_n d_185_16 rfl
theorem d_185_17 : decode (mB 185) 17 = .ok (.ireturn, 1) := by decide +kernel
theorem s_185_17 {d : Nat} {Q : wQ} {L : List (Option Value)} {w : aw} {cn sn : Nat} {v : Int32} : wp d 185 Q 17 L [.int v] w cn sn = Q (some (.int v)) w := w_ireturn d_185_17 rfl
