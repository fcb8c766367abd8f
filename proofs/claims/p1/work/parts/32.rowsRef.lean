theorem d_112_0 : decode (mB 112) 0 = .ok (.iload_n 2, 1) := by decide +kernel
theorem s_112_0 {d : Nat} {Q : wQ} {L : List (Option Value)} {st : List Value} {w : aw} {cn sn : Nat} {a0 a1 : Option Value} {v : Int32} : wp d 112 Q 0 (a0 :: a1 :: some (.int v) :: L) st w cn sn = wp d 112 Q 1 (a0 :: a1 :: some (.int v) :: L) (.int v :: st) w cn sn := w_iload_n d_112_0 rfl
theorem d_112_1 : decode (mB 112) 1 = .ok (.bipush 64, 2) := by decide +kernel
theorem s_112_1 {d : Nat} {Q : wQ} {L : List (Option Value)} {st : List Value} {w : aw} {cn sn : Nat}  : wp d 112 Q 1 L st w cn sn = wp d 112 Q 3 L (.int 64 :: st) w cn sn := w_bipush d_112_1 (by decide)
theorem d_112_3 : decode (mB 112) 3 = .ok (.iand, 1) := by decide +kernel
theorem s_112_3 {d : Nat} {Q : wQ} {L : List (Option Value)} {st : List Value} {w : aw} {cn sn : Nat} {a b : Int32} : wp d 112 Q 3 L (.int b :: .int a :: st) w cn sn = wp d 112 Q 4 L (.int (a &&& b) :: st) w cn sn := wp_row d_112_3 _ _ _ _ _
theorem d_112_4 : decode (mB 112) 4 = .ok (.ifCond .le 15, 3) := by decide +kernel
theorem s_112_4 {d : Nat} {Q : wQ} {L : List (Option Value)} {st : List Value} {w : aw} {cn sn : Nat} {x : Int32} : wp d 112 Q 4 L (.int x :: st) w cn sn = ((x ≤ 0 → wp d 112 Q 19 L st w cn sn) ∧ (¬ x ≤ 0 → wp d 112 Q 7 L st w cn sn)) := w_ifle d_112_4 (by decide)
theorem d_112_7 : decode (mB 112) 7 = .ok (.aload_n 0, 1) := by decide +kernel
theorem s_112_7 {d : Nat} {Q : wQ} {L : List (Option Value)} {st : List Value} {w : aw} {cn sn : Nat} {v : Nat} : wp d 112 Q 7 (some (.ref v) :: L) st w cn sn = wp d 112 Q 8 (some (.ref v) :: L) (.ref v :: st) w cn sn := w_aload_n d_112_7 rfl
theorem d_112_8 : decode (mB 112) 8 = .ok (.getfield 30, 3) := by decide +kernel
theorem s_112_8 {d : Nat} {Q : wQ} {L : List (Option Value)} {st : List Value} {w : aw} {cn sn : Nat} {a : Nat} : wp d 112 Q 8 L (.ref a :: st) w cn sn = (kd w a = 9 ∧ wp d 112 Q 11 L (fd w 528 a :: st) w cn sn) := w_getfield d_112_8 (by decide +kernel : fT (mO 112) 30 = some (8, 16))
theorem d_112_11 : decode (mB 112) 11 = .ok (.iload_n 1, 1) := by decide +kernel
theorem s_112_11 {d : Nat} {Q : wQ} {L : List (Option Value)} {st : List Value} {w : aw} {cn sn : Nat} {a0 : Option Value} {v : Int32} : wp d 112 Q 11 (a0 :: some (.int v) :: L) st w cn sn = wp d 112 Q 12 (a0 :: some (.int v) :: L) (.int v :: st) w cn sn := w_iload_n d_112_11 rfl
theorem d_112_12 : decode (mB 112) 12 = .ok (.iaload, 1) := by decide +kernel
theorem s_112_12 {d : Nat} {Q : wQ} {L : List (Option Value)} {st : List Value} {w : aw} {cn sn : Nat} {a : Nat} {i : Int32} : wp d 112 Q 12 L (.int i :: .ref a :: st) w cn sn = ((kd w a = 20 ∨ kd w a = 30) ∧ inR i (ln w a) ∧ wp d 112 Q 13 L (.int (ai w a i.toNatClampNeg) :: st) w cn sn) := wp_row d_112_12 _ _ _ _ _
theorem d_112_13 : decode (mB 112) 13 = .ok (.sipush 2048, 3) := by decide +kernel
theorem s_112_13 {d : Nat} {Q : wQ} {L : List (Option Value)} {st : List Value} {w : aw} {cn sn : Nat}  : wp d 112 Q 13 L st w cn sn = wp d 112 Q 16 L (.int 2048 :: st) w cn sn := w_sipush d_112_13 (by decide)
theorem d_112_16 : decode (mB 112) 16 = .ok (.if_icmp .ge 36, 3) := by decide +kernel
theorem s_112_16 {d : Nat} {Q : wQ} {L : List (Option Value)} {st : List Value} {w : aw} {cn sn : Nat} {a b : Int32} : wp d 112 Q 16 L (.int b :: .int a :: st) w cn sn = ((b ≤ a → wp d 112 Q 52 L st w cn sn) ∧ (¬ b ≤ a → wp d 112 Q 19 L st w cn sn)) := w_icge d_112_16 (by decide)
theorem d_112_19 : decode (mB 112) 19 = .ok (.iload_n 2, 1) := by decide +kernel
theorem s_112_19 {d : Nat} {Q : wQ} {L : List (Option Value)} {st : List Value} {w : aw} {cn sn : Nat} {a0 a1 : Option Value} {v : Int32} : wp d 112 Q 19 (a0 :: a1 :: some (.int v) :: L) st w cn sn = wp d 112 Q 20 (a0 :: a1 :: some (.int v) :: L) (.int v :: st) w cn sn := w_iload_n d_112_19 rfl
theorem d_112_20 : decode (mB 112) 20 = .ok (.bipush 32, 2) := by decide +kernel
theorem s_112_20 {d : Nat} {Q : wQ} {L : List (Option Value)} {st : List Value} {w : aw} {cn sn : Nat}  : wp d 112 Q 20 L st w cn sn = wp d 112 Q 22 L (.int 32 :: st) w cn sn := w_bipush d_112_20 (by decide)
theorem d_112_22 : decode (mB 112) 22 = .ok (.iand, 1) := by decide +kernel
theorem s_112_22 {d : Nat} {Q : wQ} {L : List (Option Value)} {st : List Value} {w : aw} {cn sn : Nat} {a b : Int32} : wp d 112 Q 22 L (.int b :: .int a :: st) w cn sn = wp d 112 Q 23 L (.int (a &&& b) :: st) w cn sn := wp_row d_112_22 _ _ _ _ _
theorem d_112_23 : decode (mB 112) 23 = .ok (.ifCond .le 12, 3) := by decide +kernel
theorem s_112_23 {d : Nat} {Q : wQ} {L : List (Option Value)} {st : List Value} {w : aw} {cn sn : Nat} {x : Int32} : wp d 112 Q 23 L (.int x :: st) w cn sn = ((x ≤ 0 → wp d 112 Q 35 L st w cn sn) ∧ (¬ x ≤ 0 → wp d 112 Q 26 L st w cn sn)) := w_ifle d_112_23 (by decide)
theorem d_112_26 : decode (mB 112) 26 = .ok (.aload_n 0, 1) := by decide +kernel
theorem s_112_26 {d : Nat} {Q : wQ} {L : List (Option Value)} {st : List Value} {w : aw} {cn sn : Nat} {v : Nat} : wp d 112 Q 26 (some (.ref v) :: L) st w cn sn = wp d 112 Q 27 (some (.ref v) :: L) (.ref v :: st) w cn sn := w_aload_n d_112_26 rfl
theorem d_112_27 : decode (mB 112) 27 = .ok (.getfield 30, 3) := by decide +kernel
theorem s_112_27 {d : Nat} {Q : wQ} {L : List (Option Value)} {st : List Value} {w : aw} {cn sn : Nat} {a : Nat} : wp d 112 Q 27 L (.ref a :: st) w cn sn = (kd w a = 9 ∧ wp d 112 Q 30 L (fd w 528 a :: st) w cn sn) := w_getfield d_112_27 (by decide +kernel : fT (mO 112) 30 = some (8, 16))
theorem d_112_30 : decode (mB 112) 30 = .ok (.iload_n 1, 1) := by decide +kernel
theorem s_112_30 {d : Nat} {Q : wQ} {L : List (Option Value)} {st : List Value} {w : aw} {cn sn : Nat} {a0 : Option Value} {v : Int32} : wp d 112 Q 30 (a0 :: some (.int v) :: L) st w cn sn = wp d 112 Q 31 (a0 :: some (.int v) :: L) (.int v :: st) w cn sn := w_iload_n d_112_30 rfl
theorem d_112_31 : decode (mB 112) 31 = .ok (.iaload, 1) := by decide +kernel
theorem s_112_31 {d : Nat} {Q : wQ} {L : List (Option Value)} {st : List Value} {w : aw} {cn sn : Nat} {a : Nat} {i : Int32} : wp d 112 Q 31 L (.int i :: .ref a :: st) w cn sn = ((kd w a = 20 ∨ kd w a = 30) ∧ inR i (ln w a) ∧ wp d 112 Q 32 L (.int (ai w a i.toNatClampNeg) :: st) w cn sn) := wp_row d_112_31 _ _ _ _ _
theorem d_112_32 : decode (mB 112) 32 = .ok (.ifCond .eq 20, 3) := by decide +kernel
theorem s_112_32 {d : Nat} {Q : wQ} {L : List (Option Value)} {st : List Value} {w : aw} {cn sn : Nat} {x : Int32} : wp d 112 Q 32 L (.int x :: st) w cn sn = ((x = 0 → wp d 112 Q 52 L st w cn sn) ∧ (¬ x = 0 → wp d 112 Q 35 L st w cn sn)) := w_ifeq d_112_32 (by decide)
theorem d_112_35 : decode (mB 112) 35 = .ok (.iload_n 2, 1) := by decide +kernel
theorem s_112_35 {d : Nat} {Q : wQ} {L : List (Option Value)} {st : List Value} {w : aw} {cn sn : Nat} {a0 a1 : Option Value} {v : Int32} : wp d 112 Q 35 (a0 :: a1 :: some (.int v) :: L) st w cn sn = wp d 112 Q 36 (a0 :: a1 :: some (.int v) :: L) (.int v :: st) w cn sn := w_iload_n d_112_35 rfl
theorem d_112_36 : decode (mB 112) 36 = .ok (.bipush 16, 2) := by decide +kernel
theorem s_112_36 {d : Nat} {Q : wQ} {L : List (Option Value)} {st : List Value} {w : aw} {cn sn : Nat}  : wp d 112 Q 36 L st w cn sn = wp d 112 Q 38 L (.int 16 :: st) w cn sn := w_bipush d_112_36 (by decide)
theorem d_112_38 : decode (mB 112) 38 = .ok (.iand, 1) := by decide +kernel
theorem s_112_38 {d : Nat} {Q : wQ} {L : List (Option Value)} {st : List Value} {w : aw} {cn sn : Nat} {a b : Int32} : wp d 112 Q 38 L (.int b :: .int a :: st) w cn sn = wp d 112 Q 39 L (.int (a &&& b) :: st) w cn sn := wp_row d_112_38 _ _ _ _ _
theorem d_112_39 : decode (mB 112) 39 = .ok (.ifCond .le 17, 3) := by decide +kernel
theorem s_112_39 {d : Nat} {Q : wQ} {L : List (Option Value)} {st : List Value} {w : aw} {cn sn : Nat} {x : Int32} : wp d 112 Q 39 L (.int x :: st) w cn sn = ((x ≤ 0 → wp d 112 Q 56 L st w cn sn) ∧ (¬ x ≤ 0 → wp d 112 Q 42 L st w cn sn)) := w_ifle d_112_39 (by decide)
theorem d_112_42 : decode (mB 112) 42 = .ok (.aload_n 0, 1) := by decide +kernel
theorem s_112_42 {d : Nat} {Q : wQ} {L : List (Option Value)} {st : List Value} {w : aw} {cn sn : Nat} {v : Nat} : wp d 112 Q 42 (some (.ref v) :: L) st w cn sn = wp d 112 Q 43 (some (.ref v) :: L) (.ref v :: st) w cn sn := w_aload_n d_112_42 rfl
theorem d_112_43 : decode (mB 112) 43 = .ok (.getfield 36, 3) := by decide +kernel
theorem s_112_43 {d : Nat} {Q : wQ} {L : List (Option Value)} {st : List Value} {w : aw} {cn sn : Nat} {a : Nat} : wp d 112 Q 43 L (.ref a :: st) w cn sn = (kd w a = 9 ∧ wp d 112 Q 46 L (fd w 530 a :: st) w cn sn) := w_getfield d_112_43 (by decide +kernel : fT (mO 112) 36 = some (8, 18))
theorem d_112_46 : decode (mB 112) 46 = .ok (.iload_n 1, 1) := by decide +kernel
theorem s_112_46 {d : Nat} {Q : wQ} {L : List (Option Value)} {st : List Value} {w : aw} {cn sn : Nat} {a0 : Option Value} {v : Int32} : wp d 112 Q 46 (a0 :: some (.int v) :: L) st w cn sn = wp d 112 Q 47 (a0 :: some (.int v) :: L) (.int v :: st) w cn sn := w_iload_n d_112_46 rfl
theorem d_112_47 : decode (mB 112) 47 = .ok (.iaload, 1) := by decide +kernel
theorem s_112_47 {d : Nat} {Q : wQ} {L : List (Option Value)} {st : List Value} {w : aw} {cn sn : Nat} {a : Nat} {i : Int32} : wp d 112 Q 47 L (.int i :: .ref a :: st) w cn sn = ((kd w a = 20 ∨ kd w a = 30) ∧ inR i (ln w a) ∧ wp d 112 Q 48 L (.int (ai w a i.toNatClampNeg) :: st) w cn sn) := wp_row d_112_47 _ _ _ _ _
theorem d_112_48 : decode (mB 112) 48 = .ok (.iconst 1, 1) := by decide +kernel
theorem s_112_48 {d : Nat} {Q : wQ} {L : List (Option Value)} {st : List Value} {w : aw} {cn sn : Nat}  : wp d 112 Q 48 L st w cn sn = wp d 112 Q 49 L (.int 1 :: st) w cn sn := w_iconst d_112_48 (by decide)
theorem d_112_49 : decode (mB 112) 49 = .ok (.if_icmp .ne 7, 3) := by decide +kernel
theorem s_112_49 {d : Nat} {Q : wQ} {L : List (Option Value)} {st : List Value} {w : aw} {cn sn : Nat} {a b : Int32} : wp d 112 Q 49 L (.int b :: .int a :: st) w cn sn = ((¬ a = b → wp d 112 Q 56 L st w cn sn) ∧ (a = b → wp d 112 Q 52 L st w cn sn)) := w_icne d_112_49 (by decide)
theorem d_112_52 : decode (mB 112) 52 = .ok (.iconst 1, 1) := by decide +kernel
theorem s_112_52 {d : Nat} {Q : wQ} {L : List (Option Value)} {st : List Value} {w : aw} {cn sn : Nat}  : wp d 112 Q 52 L st w cn sn = wp d 112 Q 53 L (.int 1 :: st) w cn sn := w_iconst d_112_52 (by decide)
theorem d_112_53 : decode (mB 112) 53 = .ok (.goto 4, 3) := by decide +kernel
theorem s_112_53 {d : Nat} {Q : wQ} {L : List (Option Value)} {st : List Value} {w : aw} {cn sn : Nat}  : wp d 112 Q 53 L st w cn sn = wp d 112 Q 57 L st w cn sn := w_goto d_112_53 (by decide)
theorem d_112_56 : decode (mB 112) 56 = .ok (.iconst 0, 1) := by decide +kernel
theorem s_112_56 {d : Nat} {Q : wQ} {L : List (Option Value)} {st : List Value} {w : aw} {cn sn : Nat}  : wp d 112 Q 56 L st w cn sn = wp d 112 Q 57 L (.int 0 :: st) w cn sn := w_iconst d_112_56 (by decide)
theorem d_112_57 : decode (mB 112) 57 = .ok (.istore_n 3, 1) := by decide +kernel
theorem s_112_57 {d : Nat} {Q : wQ} {L : List (Option Value)} {st : List Value} {w : aw} {cn sn : Nat} {a0 a1 a2 a3 : Option Value} {v : Int32} : wp d 112 Q 57 (a0 :: a1 :: a2 :: a3 :: L) (.int v :: st) w cn sn = wp d 112 Q 58 (a0 :: a1 :: clr a2 :: some (.int v) :: L) st w cn sn := w_istore_n d_112_57 (Nat.le_add_left 4 _) rfl
theorem d_112_58 : decode (mB 112) 58 = .ok (.aload_n 0, 1) := by decide +kernel
theorem s_112_58 {d : Nat} {Q : wQ} {L : List (Option Value)} {st : List Value} {w : aw} {cn sn : Nat} {v : Nat} : wp d 112 Q 58 (some (.ref v) :: L) st w cn sn = wp d 112 Q 59 (some (.ref v) :: L) (.ref v :: st) w cn sn := w_aload_n d_112_58 rfl
theorem d_112_59 : decode (mB 112) 59 = .ok (.iload_n 1, 1) := by decide +kernel
theorem s_112_59 {d : Nat} {Q : wQ} {L : List (Option Value)} {st : List Value} {w : aw} {cn sn : Nat} {a0 : Option Value} {v : Int32} : wp d 112 Q 59 (a0 :: some (.int v) :: L) st w cn sn = wp d 112 Q 60 (a0 :: some (.int v) :: L) (.int v :: st) w cn sn := w_iload_n d_112_59 rfl
theorem d_112_60 : decode (mB 112) 60 = .ok (.iload_n 3, 1) := by decide +kernel
theorem s_112_60 {d : Nat} {Q : wQ} {L : List (Option Value)} {st : List Value} {w : aw} {cn sn : Nat} {a0 a1 a2 : Option Value} {v : Int32} : wp d 112 Q 60 (a0 :: a1 :: a2 :: some (.int v) :: L) st w cn sn = wp d 112 Q 61 (a0 :: a1 :: a2 :: some (.int v) :: L) (.int v :: st) w cn sn := w_iload_n d_112_60 rfl
theorem d_112_61 : decode (mB 112) 61 = .ok (.iload_n 2, 1) := by decide +kernel
theorem s_112_61 {d : Nat} {Q : wQ} {L : List (Option Value)} {st : List Value} {w : aw} {cn sn : Nat} {a0 a1 : Option Value} {v : Int32} : wp d 112 Q 61 (a0 :: a1 :: some (.int v) :: L) st w cn sn = wp d 112 Q 62 (a0 :: a1 :: some (.int v) :: L) (.int v :: st) w cn sn := w_iload_n d_112_61 rfl
theorem d_112_62 : decode (mB 112) 62 = .ok (.bipush 8, 2) := by decide +kernel
theorem s_112_62 {d : Nat} {Q : wQ} {L : List (Option Value)} {st : List Value} {w : aw} {cn sn : Nat}  : wp d 112 Q 62 L st w cn sn = wp d 112 Q 64 L (.int 8 :: st) w cn sn := w_bipush d_112_62 (by decide)
theorem d_112_64 : decode (mB 112) 64 = .ok (.iand, 1) := by decide +kernel
theorem s_112_64 {d : Nat} {Q : wQ} {L : List (Option Value)} {st : List Value} {w : aw} {cn sn : Nat} {a b : Int32} : wp d 112 Q 64 L (.int b :: .int a :: st) w cn sn = wp d 112 Q 65 L (.int (a &&& b) :: st) w cn sn := wp_row d_112_64 _ _ _ _ _
theorem d_112_65 : decode (mB 112) 65 = .ok (.ifCond .le 7, 3) := by decide +kernel
theorem s_112_65 {d : Nat} {Q : wQ} {L : List (Option Value)} {st : List Value} {w : aw} {cn sn : Nat} {x : Int32} : wp d 112 Q 65 L (.int x :: st) w cn sn = ((x ≤ 0 → wp d 112 Q 72 L st w cn sn) ∧ (¬ x ≤ 0 → wp d 112 Q 68 L st w cn sn)) := w_ifle d_112_65 (by decide)
theorem d_112_68 : decode (mB 112) 68 = .ok (.iconst 1, 1) := by decide +kernel
theorem s_112_68 {d : Nat} {Q : wQ} {L : List (Option Value)} {st : List Value} {w : aw} {cn sn : Nat}  : wp d 112 Q 68 L st w cn sn = wp d 112 Q 69 L (.int 1 :: st) w cn sn := w_iconst d_112_68 (by decide)
theorem d_112_69 : decode (mB 112) 69 = .ok (.goto 4, 3) := by decide +kernel
theorem s_112_69 {d : Nat} {Q : wQ} {L : List (Option Value)} {st : List Value} {w : aw} {cn sn : Nat}  : wp d 112 Q 69 L st w cn sn = wp d 112 Q 73 L st w cn sn := w_goto d_112_69 (by decide)
theorem d_112_72 : decode (mB 112) 72 = .ok (.iconst 0, 1) := by decide +kernel
theorem s_112_72 {d : Nat} {Q : wQ} {L : List (Option Value)} {st : List Value} {w : aw} {cn sn : Nat}  : wp d 112 Q 72 L st w cn sn = wp d 112 Q 73 L (.int 0 :: st) w cn sn := w_iconst d_112_72 (by decide)
theorem d_112_73 : decode (mB 112) 73 = .ok (.if_icmp .eq 7, 3) := by decide +kernel
theorem s_112_73 {d : Nat} {Q : wQ} {L : List (Option Value)} {st : List Value} {w : aw} {cn sn : Nat} {a b : Int32} : wp d 112 Q 73 L (.int b :: .int a :: st) w cn sn = ((a = b → wp d 112 Q 80 L st w cn sn) ∧ (¬ a = b → wp d 112 Q 76 L st w cn sn)) := w_iceq d_112_73 (by decide)
theorem d_112_76 : decode (mB 112) 76 = .ok (.iconst 1, 1) := by decide +kernel
theorem s_112_76 {d : Nat} {Q : wQ} {L : List (Option Value)} {st : List Value} {w : aw} {cn sn : Nat}  : wp d 112 Q 76 L st w cn sn = wp d 112 Q 77 L (.int 1 :: st) w cn sn := w_iconst d_112_76 (by decide)
theorem d_112_77 : decode (mB 112) 77 = .ok (.goto 4, 3) := by decide +kernel
theorem s_112_77 {d : Nat} {Q : wQ} {L : List (Option Value)} {st : List Value} {w : aw} {cn sn : Nat}  : wp d 112 Q 77 L st w cn sn = wp d 112 Q 81 L st w cn sn := w_goto d_112_77 (by decide)
theorem d_112_80 : decode (mB 112) 80 = .ok (.iconst 0, 1) := by decide +kernel
theorem s_112_80 {d : Nat} {Q : wQ} {L : List (Option Value)} {st : List Value} {w : aw} {cn sn : Nat}  : wp d 112 Q 80 L st w cn sn = wp d 112 Q 81 L (.int 0 :: st) w cn sn := w_iconst d_112_80 (by decide)
theorem d_112_81 : decode (mB 112) 81 = .ok (.invokevirtual 139, 3) := by decide +kernel
theorem s_112_81 {d : Nat} {Q : wQ} {L : List (Option Value)} {st : List Value} {w : aw} {cn sn : Nat} {v0 v1 : Value} {b : Nat} : wp d 112 Q 81 L (v1 :: v0 :: .ref b :: st) w cn sn = (kd w b = 9 ∧ catS st ≤ 8 ∧ wpD d 108 [.ref b, v0, v1] w (fun v w' => wp d 112 Q 84 L (v.toList ++ st) w' cn sn)) := w_virtual (As := [v0, v1]) d_112_81 (by decide +kernel : cT (mO 112) 139 = some (0, 108)) rfl (by decide +kernel) rfl (by decide +kernel) rfl
theorem d_112_84 : decode (mB 112) 84 = .ok (.iload_n 2, 1) := by decide +kernel
theorem s_112_84 {d : Nat} {Q : wQ} {L : List (Option Value)} {st : List Value} {w : aw} {cn sn : Nat} {a0 a1 : Option Value} {v : Int32} : wp d 112 Q 84 (a0 :: a1 :: some (.int v) :: L) st w cn sn = wp d 112 Q 85 (a0 :: a1 :: some (.int v) :: L) (.int v :: st) w cn sn := w_iload_n d_112_84 rfl
theorem d_112_85 : decode (mB 112) 85 = .ok (.sipush 128, 3) := by decide +kernel
theorem s_112_85 {d : Nat} {Q : wQ} {L : List (Option Value)} {st : List Value} {w : aw} {cn sn : Nat}  : wp d 112 Q 85 L st w cn sn = wp d 112 Q 88 L (.int 128 :: st) w cn sn := w_sipush d_112_85 (by decide)
theorem d_112_88 : decode (mB 112) 88 = .ok (.iand, 1) := by decide +kernel
theorem s_112_88 {d : Nat} {Q : wQ} {L : List (Option Value)} {st : List Value} {w : aw} {cn sn : Nat} {a b : Int32} : wp d 112 Q 88 L (.int b :: .int a :: st) w cn sn = wp d 112 Q 89 L (.int (a &&& b) :: st) w cn sn := wp_row d_112_88 _ _ _ _ _
theorem d_112_89 : decode (mB 112) 89 = .ok (.ifCond .le 10, 3) := by decide +kernel
theorem s_112_89 {d : Nat} {Q : wQ} {L : List (Option Value)} {st : List Value} {w : aw} {cn sn : Nat} {x : Int32} : wp d 112 Q 89 L (.int x :: st) w cn sn = ((x ≤ 0 → wp d 112 Q 99 L st w cn sn) ∧ (¬ x ≤ 0 → wp d 112 Q 92 L st w cn sn)) := w_ifle d_112_89 (by decide)
theorem d_112_92 : decode (mB 112) 92 = .ok (.aload_n 0, 1) := by decide +kernel
theorem s_112_92 {d : Nat} {Q : wQ} {L : List (Option Value)} {st : List Value} {w : aw} {cn sn : Nat} {v : Nat} : wp d 112 Q 92 (some (.ref v) :: L) st w cn sn = wp d 112 Q 93 (some (.ref v) :: L) (.ref v :: st) w cn sn := w_aload_n d_112_92 rfl
theorem d_112_93 : decode (mB 112) 93 = .ok (.getfield 30, 3) := by decide +kernel
theorem s_112_93 {d : Nat} {Q : wQ} {L : List (Option Value)} {st : List Value} {w : aw} {cn sn : Nat} {a : Nat} : wp d 112 Q 93 L (.ref a :: st) w cn sn = (kd w a = 9 ∧ wp d 112 Q 96 L (fd w 528 a :: st) w cn sn) := w_getfield d_112_93 (by decide +kernel : fT (mO 112) 30 = some (8, 16))
theorem d_112_96 : decode (mB 112) 96 = .ok (.iload_n 1, 1) := by decide +kernel
theorem s_112_96 {d : Nat} {Q : wQ} {L : List (Option Value)} {st : List Value} {w : aw} {cn sn : Nat} {a0 : Option Value} {v : Int32} : wp d 112 Q 96 (a0 :: some (.int v) :: L) st w cn sn = wp d 112 Q 97 (a0 :: some (.int v) :: L) (.int v :: st) w cn sn := w_iload_n d_112_96 rfl
theorem d_112_97 : decode (mB 112) 97 = .ok (.iconst 0, 1) := by decide +kernel
theorem s_112_97 {d : Nat} {Q : wQ} {L : List (Option Value)} {st : List Value} {w : aw} {cn sn : Nat}  : wp d 112 Q 97 L st w cn sn = wp d 112 Q 98 L (.int 0 :: st) w cn sn := w_iconst d_112_97 (by decide)
theorem d_112_98 : decode (mB 112) 98 = .ok (.iastore, 1) := by decide +kernel
theorem s_112_98 {d : Nat} {Q : wQ} {L : List (Option Value)} {st : List Value} {w : aw} {cn sn : Nat} {a : Nat} {i x : Int32} : wp d 112 Q 98 L (.int x :: .int i :: .ref a :: st) w cn sn = (kd w a = 20 ∧ inR i (ln w a) ∧ wp d 112 Q 99 L st (uA w a i.toNatClampNeg x) cn sn) := wp_row d_112_98 _ _ _ _ _
theorem d_112_99 : decode (mB 112) 99 = .ok (.iload_n 2, 1) := by decide +kernel
theorem s_112_99 {d : Nat} {Q : wQ} {L : List (Option Value)} {st : List Value} {w : aw} {cn sn : Nat} {a0 a1 : Option Value} {v : Int32} : wp d 112 Q 99 (a0 :: a1 :: some (.int v) :: L) st w cn sn = wp d 112 Q 100 (a0 :: a1 :: some (.int v) :: L) (.int v :: st) w cn sn := w_iload_n d_112_99 rfl
theorem d_112_100 : decode (mB 112) 100 = .ok (.iconst 4, 1) := by decide +kernel
theorem s_112_100 {d : Nat} {Q : wQ} {L : List (Option Value)} {st : List Value} {w : aw} {cn sn : Nat}  : wp d 112 Q 100 L st w cn sn = wp d 112 Q 101 L (.int 4 :: st) w cn sn := w_iconst d_112_100 (by decide)
theorem d_112_101 : decode (mB 112) 101 = .ok (.iand, 1) := by decide +kernel
theorem s_112_101 {d : Nat} {Q : wQ} {L : List (Option Value)} {st : List Value} {w : aw} {cn sn : Nat} {a b : Int32} : wp d 112 Q 101 L (.int b :: .int a :: st) w cn sn = wp d 112 Q 102 L (.int (a &&& b) :: st) w cn sn := wp_row d_112_101 _ _ _ _ _
theorem d_112_102 : decode (mB 112) 102 = .ok (.ifCond .le 18, 3) := by decide +kernel
theorem s_112_102 {d : Nat} {Q : wQ} {L : List (Option Value)} {st : List Value} {w : aw} {cn sn : Nat} {x : Int32} : wp d 112 Q 102 L (.int x :: st) w cn sn = ((x ≤ 0 → wp d 112 Q 120 L st w cn sn) ∧ (¬ x ≤ 0 → wp d 112 Q 105 L st w cn sn)) := w_ifle d_112_102 (by decide)
theorem d_112_105 : decode (mB 112) 105 = .ok (.aload_n 0, 1) := by decide +kernel
theorem s_112_105 {d : Nat} {Q : wQ} {L : List (Option Value)} {st : List Value} {w : aw} {cn sn : Nat} {v : Nat} : wp d 112 Q 105 (some (.ref v) :: L) st w cn sn = wp d 112 Q 106 (some (.ref v) :: L) (.ref v :: st) w cn sn := w_aload_n d_112_105 rfl
theorem d_112_106 : decode (mB 112) 106 = .ok (.getfield 30, 3) := by decide +kernel
theorem s_112_106 {d : Nat} {Q : wQ} {L : List (Option Value)} {st : List Value} {w : aw} {cn sn : Nat} {a : Nat} : wp d 112 Q 106 L (.ref a :: st) w cn sn = (kd w a = 9 ∧ wp d 112 Q 109 L (fd w 528 a :: st) w cn sn) := w_getfield d_112_106 (by decide +kernel : fT (mO 112) 30 = some (8, 16))
theorem d_112_109 : decode (mB 112) 109 = .ok (.iload_n 1, 1) := by decide +kernel
theorem s_112_109 {d : Nat} {Q : wQ} {L : List (Option Value)} {st : List Value} {w : aw} {cn sn : Nat} {a0 : Option Value} {v : Int32} : wp d 112 Q 109 (a0 :: some (.int v) :: L) st w cn sn = wp d 112 Q 110 (a0 :: some (.int v) :: L) (.int v :: st) w cn sn := w_iload_n d_112_109 rfl
theorem d_112_110 : decode (mB 112) 110 = .ok (.dup2, 1) := by decide +kernel
theorem s_112_110 {d : Nat} {Q : wQ} {L : List (Option Value)} {st : List Value} {w : aw} {cn sn : Nat} {a b : Value} : wp d 112 Q 110 L (a :: b :: st) w cn sn = (a.category = 1 ∧ b.category = 1 ∧ wp d 112 Q 111 L (a :: b :: a :: b :: st) w cn sn) := wp_row d_112_110 _ _ _ _ _
theorem d_112_111 : decode (mB 112) 111 = .ok (.iaload, 1) := by decide +kernel
theorem s_112_111 {d : Nat} {Q : wQ} {L : List (Option Value)} {st : List Value} {w : aw} {cn sn : Nat} {a : Nat} {i : Int32} : wp d 112 Q 111 L (.int i :: .ref a :: st) w cn sn = ((kd w a = 20 ∨ kd w a = 30) ∧ inR i (ln w a) ∧ wp d 112 Q 112 L (.int (ai w a i.toNatClampNeg) :: st) w cn sn) := wp_row d_112_111 _ _ _ _ _
theorem d_112_112 : decode (mB 112) 112 = .ok (.aload_n 0, 1) := by decide +kernel
theorem s_112_112 {d : Nat} {Q : wQ} {L : List (Option Value)} {st : List Value} {w : aw} {cn sn : Nat} {v : Nat} : wp d 112 Q 112 (some (.ref v) :: L) st w cn sn = wp d 112 Q 113 (some (.ref v) :: L) (.ref v :: st) w cn sn := w_aload_n d_112_112 rfl
theorem d_112_113 : decode (mB 112) 113 = .ok (.getfield 45, 3) := by decide +kernel
theorem s_112_113 {d : Nat} {Q : wQ} {L : List (Option Value)} {st : List Value} {w : aw} {cn sn : Nat} {a : Nat} : wp d 112 Q 113 L (.ref a :: st) w cn sn = (kd w a = 9 ∧ wp d 112 Q 116 L (fd w 533 a :: st) w cn sn) := w_getfield d_112_113 (by decide +kernel : fT (mO 112) 45 = some (8, 21))
theorem d_112_116 : decode (mB 112) 116 = .ok (.iload_n 1, 1) := by decide +kernel
theorem s_112_116 {d : Nat} {Q : wQ} {L : List (Option Value)} {st : List Value} {w : aw} {cn sn : Nat} {a0 : Option Value} {v : Int32} : wp d 112 Q 116 (a0 :: some (.int v) :: L) st w cn sn = wp d 112 Q 117 (a0 :: some (.int v) :: L) (.int v :: st) w cn sn := w_iload_n d_112_116 rfl
theorem d_112_117 : decode (mB 112) 117 = .ok (.iaload, 1) := by decide +kernel
theorem s_112_117 {d : Nat} {Q : wQ} {L : List (Option Value)} {st : List Value} {w : aw} {cn sn : Nat} {a : Nat} {i : Int32} : wp d 112 Q 117 L (.int i :: .ref a :: st) w cn sn = ((kd w a = 20 ∨ kd w a = 30) ∧ inR i (ln w a) ∧ wp d 112 Q 118 L (.int (ai w a i.toNatClampNeg) :: st) w cn sn) := wp_row d_112_117 _ _ _ _ _
theorem d_112_118 : decode (mB 112) 118 = .ok (.ior, 1) := by decide +kernel
theorem s_112_118 {d : Nat} {Q : wQ} {L : List (Option Value)} {st : List Value} {w : aw} {cn sn : Nat} {a b : Int32} : wp d 112 Q 118 L (.int b :: .int a :: st) w cn sn = wp d 112 Q 119 L (.int (a ||| b) :: st) w cn sn := wp_row d_112_118 _ _ _ _ _
theorem d_112_119 : decode (mB 112) 119 = .ok (.iastore, 1) := by decide +kernel
theorem s_112_119 {d : Nat} {Q : wQ} {L : List (Option Value)} {st : List Value} {w : aw} {cn sn : Nat} {a : Nat} {i x : Int32} : wp d 112 Q 119 L (.int x :: .int i :: .ref a :: st) w cn sn = (kd w a = 20 ∧ inR i (ln w a) ∧ wp d 112 Q 120 L st (uA w a i.toNatClampNeg x) cn sn) := wp_row d_112_119 _ _ _ _ _
theorem d_112_120 : decode (mB 112) 120 = .ok (.iload_n 2, 1) := by decide +kernel
theorem s_112_120 {d : Nat} {Q : wQ} {L : List (Option Value)} {st : List Value} {w : aw} {cn sn : Nat} {a0 a1 : Option Value} {v : Int32} : wp d 112 Q 120 (a0 :: a1 :: some (.int v) :: L) st w cn sn = wp d 112 Q 121 (a0 :: a1 :: some (.int v) :: L) (.int v :: st) w cn sn := w_iload_n d_112_120 rfl
theorem d_112_121 : decode (mB 112) 121 = .ok (.iconst 2, 1) := by decide +kernel
theorem s_112_121 {d : Nat} {Q : wQ} {L : List (Option Value)} {st : List Value} {w : aw} {cn sn : Nat}  : wp d 112 Q 121 L st w cn sn = wp d 112 Q 122 L (.int 2 :: st) w cn sn := w_iconst d_112_121 (by decide)
theorem d_112_122 : decode (mB 112) 122 = .ok (.iand, 1) := by decide +kernel
theorem s_112_122 {d : Nat} {Q : wQ} {L : List (Option Value)} {st : List Value} {w : aw} {cn sn : Nat} {a b : Int32} : wp d 112 Q 122 L (.int b :: .int a :: st) w cn sn = wp d 112 Q 123 L (.int (a &&& b) :: st) w cn sn := wp_row d_112_122 _ _ _ _ _
theorem d_112_123 : decode (mB 112) 123 = .ok (.ifCond .le 9, 3) := by decide +kernel
theorem s_112_123 {d : Nat} {Q : wQ} {L : List (Option Value)} {st : List Value} {w : aw} {cn sn : Nat} {x : Int32} : wp d 112 Q 123 L (.int x :: st) w cn sn = ((x ≤ 0 → wp d 112 Q 132 L st w cn sn) ∧ (¬ x ≤ 0 → wp d 112 Q 126 L st w cn sn)) := w_ifle d_112_123 (by decide)
theorem d_112_126 : decode (mB 112) 126 = .ok (.aload_n 0, 1) := by decide +kernel
theorem s_112_126 {d : Nat} {Q : wQ} {L : List (Option Value)} {st : List Value} {w : aw} {cn sn : Nat} {v : Nat} : wp d 112 Q 126 (some (.ref v) :: L) st w cn sn = wp d 112 Q 127 (some (.ref v) :: L) (.ref v :: st) w cn sn := w_aload_n d_112_126 rfl
theorem d_112_127 : decode (mB 112) 127 = .ok (.iload_n 1, 1) := by decide +kernel
theorem s_112_127 {d : Nat} {Q : wQ} {L : List (Option Value)} {st : List Value} {w : aw} {cn sn : Nat} {a0 : Option Value} {v : Int32} : wp d 112 Q 127 (a0 :: some (.int v) :: L) st w cn sn = wp d 112 Q 128 (a0 :: some (.int v) :: L) (.int v :: st) w cn sn := w_iload_n d_112_127 rfl
theorem d_112_128 : decode (mB 112) 128 = .ok (.iconst 0, 1) := by decide +kernel
theorem s_112_128 {d : Nat} {Q : wQ} {L : List (Option Value)} {st : List Value} {w : aw} {cn sn : Nat}  : wp d 112 Q 128 L st w cn sn = wp d 112 Q 129 L (.int 0 :: st) w cn sn := w_iconst d_112_128 (by decide)
theorem d_112_129 : decode (mB 112) 129 = .ok (.invokevirtual 143, 3) := by decide +kernel
theorem s_112_129 {d : Nat} {Q : wQ} {L : List (Option Value)} {st : List Value} {w : aw} {cn sn : Nat} {v0 v1 : Value} {b : Nat} : wp d 112 Q 129 L (v1 :: v0 :: .ref b :: st) w cn sn = (kd w b = 9 ∧ catS st ≤ 8 ∧ wpD d 116 [.ref b, v0, v1] w (fun v w' => wp d 112 Q 132 L (v.toList ++ st) w' cn sn)) := w_virtual (As := [v0, v1]) d_112_129 (by decide +kernel : cT (mO 112) 143 = some (0, 116)) rfl (by decide +kernel) rfl (by decide +kernel) rfl
theorem d_112_132 : decode (mB 112) 132 = .ok (.return_, 1) := by decide +kernel
theorem s_112_132 {d : Nat} {Q : wQ} {L : List (Option Value)} {w : aw} {cn sn : Nat}  : wp d 112 Q 132 L [] w cn sn = Q none w := w_return d_112_132 rfl
theorem d_113_0 : decode (mB 113) 0 = .ok (.iload_n 2, 1) := by decide +kernel
theorem s_113_0 {d : Nat} {Q : wQ} {L : List (Option Value)} {st : List Value} {w : aw} {cn sn : Nat} {a0 a1 : Option Value} {v : Int32} : wp d 113 Q 0 (a0 :: a1 :: some (.int v) :: L) st w cn sn = wp d 113 Q 1 (a0 :: a1 :: some (.int v) :: L) (.int v :: st) w cn sn := w_iload_n d_113_0 rfl
theorem d_113_1 : decode (mB 113) 1 = .ok (.tableswitch 320 3097 3116 #[95, 320, 320, 320, 320, 117, 320, 320, 163, 320, 320, 320, 320, 187, 320, 320, 253, 290, 290, 310], 95) := by decide +kernel
theorem s_113_1 {d : Nat} {Q : wQ} {L : List (Option Value)} {st : List Value} {w : aw} {cn sn : Nat} {x : Int32} : wp d 113 Q 1 L (.int x :: st) w cn sn = ((x.toInt < 3097 ∨ 3116 < x.toInt → wp d 113 Q 321 L st w cn sn) ∧ ∀ (i t : Nat), ([96, 321, 321, 321, 321, 118, 321, 321, 164, 321, 321, 321, 321, 188, 321, 321, 254, 291, 291, 311] : List Nat)[i]? = some t → x.toInt = 3097 + i → wp d 113 Q t L st w cn sn) := w_table d_113_1 (by decide) (by decide) (by decide)
theorem d_113_96 : decode (mB 113) 96 = .ok (.aload_n 0, 1) := by decide +kernel
theorem s_113_96 {d : Nat} {Q : wQ} {L : List (Option Value)} {st : List Value} {w : aw} {cn sn : Nat} {v : Nat} : wp d 113 Q 96 (some (.ref v) :: L) st w cn sn = wp d 113 Q 97 (some (.ref v) :: L) (.ref v :: st) w cn sn := w_aload_n d_113_96 rfl
theorem d_113_97 : decode (mB 113) 97 = .ok (.iload_n 1, 1) := by decide +kernel
theorem s_113_97 {d : Nat} {Q : wQ} {L : List (Option Value)} {st : List Value} {w : aw} {cn sn : Nat} {a0 : Option Value} {v : Int32} : wp d 113 Q 97 (a0 :: some (.int v) :: L) st w cn sn = wp d 113 Q 98 (a0 :: some (.int v) :: L) (.int v :: st) w cn sn := w_iload_n d_113_97 rfl
theorem d_113_98 : decode (mB 113) 98 = .ok (.aload_n 0, 1) := by decide +kernel
theorem s_113_98 {d : Nat} {Q : wQ} {L : List (Option Value)} {st : List Value} {w : aw} {cn sn : Nat} {v : Nat} : wp d 113 Q 98 (some (.ref v) :: L) st w cn sn = wp d 113 Q 99 (some (.ref v) :: L) (.ref v :: st) w cn sn := w_aload_n d_113_98 rfl
theorem d_113_99 : decode (mB 113) 99 = .ok (.getfield 57, 3) := by decide +kernel
theorem s_113_99 {d : Nat} {Q : wQ} {L : List (Option Value)} {st : List Value} {w : aw} {cn sn : Nat} {a : Nat} : wp d 113 Q 99 L (.ref a :: st) w cn sn = (kd w a = 9 ∧ wp d 113 Q 102 L (fd w 537 a :: st) w cn sn) := w_getfield d_113_99 (by decide +kernel : fT (mO 113) 57 = some (8, 25))
theorem d_113_102 : decode (mB 113) 102 = .ok (.iload_n 1, 1) := by decide +kernel
theorem s_113_102 {d : Nat} {Q : wQ} {L : List (Option Value)} {st : List Value} {w : aw} {cn sn : Nat} {a0 : Option Value} {v : Int32} : wp d 113 Q 102 (a0 :: some (.int v) :: L) st w cn sn = wp d 113 Q 103 (a0 :: some (.int v) :: L) (.int v :: st) w cn sn := w_iload_n d_113_102 rfl
theorem d_113_103 : decode (mB 113) 103 = .ok (.iaload, 1) := by decide +kernel
theorem s_113_103 {d : Nat} {Q : wQ} {L : List (Option Value)} {st : List Value} {w : aw} {cn sn : Nat} {a : Nat} {i : Int32} : wp d 113 Q 103 L (.int i :: .ref a :: st) w cn sn = ((kd w a = 20 ∨ kd w a = 30) ∧ inR i (ln w a) ∧ wp d 113 Q 104 L (.int (ai w a i.toNatClampNeg) :: st) w cn sn) := wp_row d_113_103 _ _ _ _ _
theorem d_113_104 : decode (mB 113) 104 = .ok (.ifCond .le 7, 3) := by decide +kernel
theorem s_113_104 {d : Nat} {Q : wQ} {L : List (Option Value)} {st : List Value} {w : aw} {cn sn : Nat} {x : Int32} : wp d 113 Q 104 L (.int x :: st) w cn sn = ((x ≤ 0 → wp d 113 Q 111 L st w cn sn) ∧ (¬ x ≤ 0 → wp d 113 Q 107 L st w cn sn)) := w_ifle d_113_104 (by decide)
theorem d_113_107 : decode (mB 113) 107 = .ok (.iconst 1, 1) := by decide +kernel
theorem s_113_107 {d : Nat} {Q : wQ} {L : List (Option Value)} {st : List Value} {w : aw} {cn sn : Nat}  : wp d 113 Q 107 L st w cn sn = wp d 113 Q 108 L (.int 1 :: st) w cn sn := w_iconst d_113_107 (by decide)
theorem d_113_108 : decode (mB 113) 108 = .ok (.goto 4, 3) := by decide +kernel
theorem s_113_108 {d : Nat} {Q : wQ} {L : List (Option Value)} {st : List Value} {w : aw} {cn sn : Nat}  : wp d 113 Q 108 L st w cn sn = wp d 113 Q 112 L st w cn sn := w_goto d_113_108 (by decide)
theorem d_113_111 : decode (mB 113) 111 = .ok (.iconst 0, 1) := by decide +kernel
theorem s_113_111 {d : Nat} {Q : wQ} {L : List (Option Value)} {st : List Value} {w : aw} {cn sn : Nat}  : wp d 113 Q 111 L st w cn sn = wp d 113 Q 112 L (.int 0 :: st) w cn sn := w_iconst d_113_111 (by decide)
theorem d_113_112 : decode (mB 113) 112 = .ok (.invokevirtual 139, 3) := by decide +kernel
theorem s_113_112 {d : Nat} {Q : wQ} {L : List (Option Value)} {st : List Value} {w : aw} {cn sn : Nat} {v0 v1 : Value} {b : Nat} : wp d 113 Q 112 L (v1 :: v0 :: .ref b :: st) w cn sn = (kd w b = 9 ∧ catS st ≤ 8 ∧ wpD d 108 [.ref b, v0, v1] w (fun v w' => wp d 113 Q 115 L (v.toList ++ st) w' cn sn)) := w_virtual (As := [v0, v1]) d_113_112 (by decide +kernel : cT (mO 113) 139 = some (0, 108)) rfl (by decide +kernel) rfl (by decide +kernel) rfl
theorem d_113_115 : decode (mB 113) 115 = .ok (.goto 206, 3) := by decide +kernel
theorem s_113_115 {d : Nat} {Q : wQ} {L : List (Option Value)} {st : List Value} {w : aw} {cn sn : Nat}  : wp d 113 Q 115 L st w cn sn = wp d 113 Q 321 L st w cn sn := w_goto d_113_115 (by decide)
theorem d_113_118 : decode (mB 113) 118 = .ok (.aload_n 0, 1) := by decide +kernel
theorem s_113_118 {d : Nat} {Q : wQ} {L : List (Option Value)} {st : List Value} {w : aw} {cn sn : Nat} {v : Nat} : wp d 113 Q 118 (some (.ref v) :: L) st w cn sn = wp d 113 Q 119 (some (.ref v) :: L) (.ref v :: st) w cn sn := w_aload_n d_113_118 rfl
theorem d_113_119 : decode (mB 113) 119 = .ok (.getfield 57, 3) := by decide +kernel
theorem s_113_119 {d : Nat} {Q : wQ} {L : List (Option Value)} {st : List Value} {w : aw} {cn sn : Nat} {a : Nat} : wp d 113 Q 119 L (.ref a :: st) w cn sn = (kd w a = 9 ∧ wp d 113 Q 122 L (fd w 537 a :: st) w cn sn) := w_getfield d_113_119 (by decide +kernel : fT (mO 113) 57 = some (8, 25))
theorem d_113_122 : decode (mB 113) 122 = .ok (.iload_n 1, 1) := by decide +kernel
theorem s_113_122 {d : Nat} {Q : wQ} {L : List (Option Value)} {st : List Value} {w : aw} {cn sn : Nat} {a0 : Option Value} {v : Int32} : wp d 113 Q 122 (a0 :: some (.int v) :: L) st w cn sn = wp d 113 Q 123 (a0 :: some (.int v) :: L) (.int v :: st) w cn sn := w_iload_n d_113_122 rfl
theorem d_113_123 : decode (mB 113) 123 = .ok (.iaload, 1) := by decide +kernel
theorem s_113_123 {d : Nat} {Q : wQ} {L : List (Option Value)} {st : List Value} {w : aw} {cn sn : Nat} {a : Nat} {i : Int32} : wp d 113 Q 123 L (.int i :: .ref a :: st) w cn sn = ((kd w a = 20 ∨ kd w a = 30) ∧ inR i (ln w a) ∧ wp d 113 Q 124 L (.int (ai w a i.toNatClampNeg) :: st) w cn sn) := wp_row d_113_123 _ _ _ _ _
theorem d_113_124 : decode (mB 113) 124 = .ok (.ifCond .ne 19, 3) := by decide +kernel
theorem s_113_124 {d : Nat} {Q : wQ} {L : List (Option Value)} {st : List Value} {w : aw} {cn sn : Nat} {x : Int32} : wp d 113 Q 124 L (.int x :: st) w cn sn = ((¬ x = 0 → wp d 113 Q 143 L st w cn sn) ∧ (x = 0 → wp d 113 Q 127 L st w cn sn)) := w_ifne d_113_124 (by decide)
theorem d_113_127 : decode (mB 113) 127 = .ok (.aload_n 0, 1) := by decide +kernel
theorem s_113_127 {d : Nat} {Q : wQ} {L : List (Option Value)} {st : List Value} {w : aw} {cn sn : Nat} {v : Nat} : wp d 113 Q 127 (some (.ref v) :: L) st w cn sn = wp d 113 Q 128 (some (.ref v) :: L) (.ref v :: st) w cn sn := w_aload_n d_113_127 rfl
theorem d_113_128 : decode (mB 113) 128 = .ok (.getfield 33, 3) := by decide +kernel
theorem s_113_128 {d : Nat} {Q : wQ} {L : List (Option Value)} {st : List Value} {w : aw} {cn sn : Nat} {a : Nat} : wp d 113 Q 128 L (.ref a :: st) w cn sn = (kd w a = 9 ∧ wp d 113 Q 131 L (fd w 529 a :: st) w cn sn) := w_getfield d_113_128 (by decide +kernel : fT (mO 113) 33 = some (8, 17))
theorem d_113_131 : decode (mB 113) 131 = .ok (.iload_n 1, 1) := by decide +kernel
theorem s_113_131 {d : Nat} {Q : wQ} {L : List (Option Value)} {st : List Value} {w : aw} {cn sn : Nat} {a0 : Option Value} {v : Int32} : wp d 113 Q 131 (a0 :: some (.int v) :: L) st w cn sn = wp d 113 Q 132 (a0 :: some (.int v) :: L) (.int v :: st) w cn sn := w_iload_n d_113_131 rfl
theorem d_113_132 : decode (mB 113) 132 = .ok (.iload_n 3, 1) := by decide +kernel
theorem s_113_132 {d : Nat} {Q : wQ} {L : List (Option Value)} {st : List Value} {w : aw} {cn sn : Nat} {a0 a1 a2 : Option Value} {v : Int32} : wp d 113 Q 132 (a0 :: a1 :: a2 :: some (.int v) :: L) st w cn sn = wp d 113 Q 133 (a0 :: a1 :: a2 :: some (.int v) :: L) (.int v :: st) w cn sn := w_iload_n d_113_132 rfl
theorem d_113_133 : decode (mB 113) 133 = .ok (.iastore, 1) := by decide +kernel
theorem s_113_133 {d : Nat} {Q : wQ} {L : List (Option Value)} {st : List Value} {w : aw} {cn sn : Nat} {a : Nat} {i x : Int32} : wp d 113 Q 133 L (.int x :: .int i :: .ref a :: st) w cn sn = (kd w a = 20 ∧ inR i (ln w a) ∧ wp d 113 Q 134 L st (uA w a i.toNatClampNeg x) cn sn) := wp_row d_113_133 _ _ _ _ _
theorem d_113_134 : decode (mB 113) 134 = .ok (.aload_n 0, 1) := by decide +kernel
theorem s_113_134 {d : Nat} {Q : wQ} {L : List (Option Value)} {st : List Value} {w : aw} {cn sn : Nat} {v : Nat} : wp d 113 Q 134 (some (.ref v) :: L) st w cn sn = wp d 113 Q 135 (some (.ref v) :: L) (.ref v :: st) w cn sn := w_aload_n d_113_134 rfl
theorem d_113_135 : decode (mB 113) 135 = .ok (.iload_n 1, 1) := by decide +kernel
theorem s_113_135 {d : Nat} {Q : wQ} {L : List (Option Value)} {st : List Value} {w : aw} {cn sn : Nat} {a0 : Option Value} {v : Int32} : wp d 113 Q 135 (a0 :: some (.int v) :: L) st w cn sn = wp d 113 Q 136 (a0 :: some (.int v) :: L) (.int v :: st) w cn sn := w_iload_n d_113_135 rfl
theorem d_113_136 : decode (mB 113) 136 = .ok (.iconst 3, 1) := by decide +kernel
theorem s_113_136 {d : Nat} {Q : wQ} {L : List (Option Value)} {st : List Value} {w : aw} {cn sn : Nat}  : wp d 113 Q 136 L st w cn sn = wp d 113 Q 137 L (.int 3 :: st) w cn sn := w_iconst d_113_136 (by decide)
theorem d_113_137 : decode (mB 113) 137 = .ok (.invokevirtual 143, 3) := by decide +kernel
theorem s_113_137 {d : Nat} {Q : wQ} {L : List (Option Value)} {st : List Value} {w : aw} {cn sn : Nat} {v0 v1 : Value} {b : Nat} : wp d 113 Q 137 L (v1 :: v0 :: .ref b :: st) w cn sn = (kd w b = 9 ∧ catS st ≤ 8 ∧ wpD d 116 [.ref b, v0, v1] w (fun v w' => wp d 113 Q 140 L (v.toList ++ st) w' cn sn)) := w_virtual (As := [v0, v1]) d_113_137 (by decide +kernel : cT (mO 113) 143 = some (0, 116)) rfl (by decide +kernel) rfl (by decide +kernel) rfl
theorem d_113_140 : decode (mB 113) 140 = .ok (.goto 181, 3) := by decide +kernel
theorem s_113_140 {d : Nat} {Q : wQ} {L : List (Option Value)} {st : List Value} {w : aw} {cn sn : Nat}  : wp d 113 Q 140 L st w cn sn = wp d 113 Q 321 L st w cn sn := w_goto d_113_140 (by decide)
theorem d_113_143 : decode (mB 113) 143 = .ok (.aload_n 0, 1) := by decide +kernel
theorem s_113_143 {d : Nat} {Q : wQ} {L : List (Option Value)} {st : List Value} {w : aw} {cn sn : Nat} {v : Nat} : wp d 113 Q 143 (some (.ref v) :: L) st w cn sn = wp d 113 Q 144 (some (.ref v) :: L) (.ref v :: st) w cn sn := w_aload_n d_113_143 rfl
theorem d_113_144 : decode (mB 113) 144 = .ok (.getfield 30, 3) := by decide +kernel
theorem s_113_144 {d : Nat} {Q : wQ} {L : List (Option Value)} {st : List Value} {w : aw} {cn sn : Nat} {a : Nat} : wp d 113 Q 144 L (.ref a :: st) w cn sn = (kd w a = 9 ∧ wp d 113 Q 147 L (fd w 528 a :: st) w cn sn) := w_getfield d_113_144 (by decide +kernel : fT (mO 113) 30 = some (8, 16))
theorem d_113_147 : decode (mB 113) 147 = .ok (.iload_n 1, 1) := by decide +kernel
theorem s_113_147 {d : Nat} {Q : wQ} {L : List (Option Value)} {st : List Value} {w : aw} {cn sn : Nat} {a0 : Option Value} {v : Int32} : wp d 113 Q 147 (a0 :: some (.int v) :: L) st w cn sn = wp d 113 Q 148 (a0 :: some (.int v) :: L) (.int v :: st) w cn sn := w_iload_n d_113_147 rfl
theorem d_113_148 : decode (mB 113) 148 = .ok (.aload_n 0, 1) := by decide +kernel
theorem s_113_148 {d : Nat} {Q : wQ} {L : List (Option Value)} {st : List Value} {w : aw} {cn sn : Nat} {v : Nat} : wp d 113 Q 148 (some (.ref v) :: L) st w cn sn = wp d 113 Q 149 (some (.ref v) :: L) (.ref v :: st) w cn sn := w_aload_n d_113_148 rfl
theorem d_113_149 : decode (mB 113) 149 = .ok (.getfield 54, 3) := by decide +kernel
theorem s_113_149 {d : Nat} {Q : wQ} {L : List (Option Value)} {st : List Value} {w : aw} {cn sn : Nat} {a : Nat} : wp d 113 Q 149 L (.ref a :: st) w cn sn = (kd w a = 9 ∧ wp d 113 Q 152 L (fd w 536 a :: st) w cn sn) := w_getfield d_113_149 (by decide +kernel : fT (mO 113) 54 = some (8, 24))
theorem d_113_152 : decode (mB 113) 152 = .ok (.aload_n 0, 1) := by decide +kernel
theorem s_113_152 {d : Nat} {Q : wQ} {L : List (Option Value)} {st : List Value} {w : aw} {cn sn : Nat} {v : Nat} : wp d 113 Q 152 (some (.ref v) :: L) st w cn sn = wp d 113 Q 153 (some (.ref v) :: L) (.ref v :: st) w cn sn := w_aload_n d_113_152 rfl
theorem d_113_153 : decode (mB 113) 153 = .ok (.getfield 57, 3) := by decide +kernel
theorem s_113_153 {d : Nat} {Q : wQ} {L : List (Option Value)} {st : List Value} {w : aw} {cn sn : Nat} {a : Nat} : wp d 113 Q 153 L (.ref a :: st) w cn sn = (kd w a = 9 ∧ wp d 113 Q 156 L (fd w 537 a :: st) w cn sn) := w_getfield d_113_153 (by decide +kernel : fT (mO 113) 57 = some (8, 25))
theorem d_113_156 : decode (mB 113) 156 = .ok (.iload_n 1, 1) := by decide +kernel
theorem s_113_156 {d : Nat} {Q : wQ} {L : List (Option Value)} {st : List Value} {w : aw} {cn sn : Nat} {a0 : Option Value} {v : Int32} : wp d 113 Q 156 (a0 :: some (.int v) :: L) st w cn sn = wp d 113 Q 157 (a0 :: some (.int v) :: L) (.int v :: st) w cn sn := w_iload_n d_113_156 rfl
theorem d_113_157 : decode (mB 113) 157 = .ok (.invokestatic 146, 3) := by decide +kernel
theorem s_113_157 {d : Nat} {Q : wQ} {L : List (Option Value)} {st : List Value} {w : aw} {cn sn : Nat} {v0 v1 v2 : Value} : wp d 113 Q 157 L (v2 :: v1 :: v0 :: st) w cn sn = (catS st ≤ 8 ∧ wpD d 114 [v0, v1, v2] w (fun v w' => wp d 113 Q 160 L (v.toList ++ st) w' cn sn)) := w_static (As := [v0, v1, v2]) d_113_157 (by decide +kernel : cT (mO 113) 146 = some (2, 114)) rfl (by decide +kernel) rfl
theorem d_113_160 : decode (mB 113) 160 = .ok (.iastore, 1) := by decide +kernel
theorem s_113_160 {d : Nat} {Q : wQ} {L : List (Option Value)} {st : List Value} {w : aw} {cn sn : Nat} {a : Nat} {i x : Int32} : wp d 113 Q 160 L (.int x :: .int i :: .ref a :: st) w cn sn = (kd w a = 20 ∧ inR i (ln w a) ∧ wp d 113 Q 161 L st (uA w a i.toNatClampNeg x) cn sn) := wp_row d_113_160 _ _ _ _ _
theorem d_113_161 : decode (mB 113) 161 = .ok (.goto 160, 3) := by decide +kernel
theorem s_113_161 {d : Nat} {Q : wQ} {L : List (Option Value)} {st : List Value} {w : aw} {cn sn : Nat}  : wp d 113 Q 161 L st w cn sn = wp d 113 Q 321 L st w cn sn := w_goto d_113_161 (by decide)
theorem d_113_164 : decode (mB 113) 164 = .ok (.aload_n 0, 1) := by decide +kernel
theorem s_113_164 {d : Nat} {Q : wQ} {L : List (Option Value)} {st : List Value} {w : aw} {cn sn : Nat} {v : Nat} : wp d 113 Q 164 (some (.ref v) :: L) st w cn sn = wp d 113 Q 165 (some (.ref v) :: L) (.ref v :: st) w cn sn := w_aload_n d_113_164 rfl
theorem d_113_165 : decode (mB 113) 165 = .ok (.iload_n 1, 1) := by decide +kernel
theorem s_113_165 {d : Nat} {Q : wQ} {L : List (Option Value)} {st : List Value} {w : aw} {cn sn : Nat} {a0 : Option Value} {v : Int32} : wp d 113 Q 165 (a0 :: some (.int v) :: L) st w cn sn = wp d 113 Q 166 (a0 :: some (.int v) :: L) (.int v :: st) w cn sn := w_iload_n d_113_165 rfl
theorem d_113_166 : decode (mB 113) 166 = .ok (.aload_n 0, 1) := by decide +kernel
theorem s_113_166 {d : Nat} {Q : wQ} {L : List (Option Value)} {st : List Value} {w : aw} {cn sn : Nat} {v : Nat} : wp d 113 Q 166 (some (.ref v) :: L) st w cn sn = wp d 113 Q 167 (some (.ref v) :: L) (.ref v :: st) w cn sn := w_aload_n d_113_166 rfl
theorem d_113_167 : decode (mB 113) 167 = .ok (.getfield 63, 3) := by decide +kernel
theorem s_113_167 {d : Nat} {Q : wQ} {L : List (Option Value)} {st : List Value} {w : aw} {cn sn : Nat} {a : Nat} : wp d 113 Q 167 L (.ref a :: st) w cn sn = (kd w a = 9 ∧ wp d 113 Q 170 L (fd w 539 a :: st) w cn sn) := w_getfield d_113_167 (by decide +kernel : fT (mO 113) 63 = some (8, 27))
theorem d_113_170 : decode (mB 113) 170 = .ok (.iload_n 1, 1) := by decide +kernel
theorem s_113_170 {d : Nat} {Q : wQ} {L : List (Option Value)} {st : List Value} {w : aw} {cn sn : Nat} {a0 : Option Value} {v : Int32} : wp d 113 Q 170 (a0 :: some (.int v) :: L) st w cn sn = wp d 113 Q 171 (a0 :: some (.int v) :: L) (.int v :: st) w cn sn := w_iload_n d_113_170 rfl
theorem d_113_171 : decode (mB 113) 171 = .ok (.iaload, 1) := by decide +kernel
theorem s_113_171 {d : Nat} {Q : wQ} {L : List (Option Value)} {st : List Value} {w : aw} {cn sn : Nat} {a : Nat} {i : Int32} : wp d 113 Q 171 L (.int i :: .ref a :: st) w cn sn = ((kd w a = 20 ∨ kd w a = 30) ∧ inR i (ln w a) ∧ wp d 113 Q 172 L (.int (ai w a i.toNatClampNeg) :: st) w cn sn) := wp_row d_113_171 _ _ _ _ _
theorem d_113_172 : decode (mB 113) 172 = .ok (.bipush 16, 2) := by decide +kernel
theorem s_113_172 {d : Nat} {Q : wQ} {L : List (Option Value)} {st : List Value} {w : aw} {cn sn : Nat}  : wp d 113 Q 172 L st w cn sn = wp d 113 Q 174 L (.int 16 :: st) w cn sn := w_bipush d_113_172 (by decide)
theorem d_113_174 : decode (mB 113) 174 = .ok (.if_icmp .ge 7, 3) := by decide +kernel
theorem s_113_174 {d : Nat} {Q : wQ} {L : List (Option Value)} {st : List Value} {w : aw} {cn sn : Nat} {a b : Int32} : wp d 113 Q 174 L (.int b :: .int a :: st) w cn sn = ((b ≤ a → wp d 113 Q 181 L st w cn sn) ∧ (¬ b ≤ a → wp d 113 Q 177 L st w cn sn)) := w_icge d_113_174 (by decide)
theorem d_113_177 : decode (mB 113) 177 = .ok (.iconst 1, 1) := by decide +kernel
theorem s_113_177 {d : Nat} {Q : wQ} {L : List (Option Value)} {st : List Value} {w : aw} {cn sn : Nat}  : wp d 113 Q 177 L st w cn sn = wp d 113 Q 178 L (.int 1 :: st) w cn sn := w_iconst d_113_177 (by decide)
theorem d_113_178 : decode (mB 113) 178 = .ok (.goto 4, 3) := by decide +kernel
theorem s_113_178 {d : Nat} {Q : wQ} {L : List (Option Value)} {st : List Value} {w : aw} {cn sn : Nat}  : wp d 113 Q 178 L st w cn sn = wp d 113 Q 182 L st w cn sn := w_goto d_113_178 (by decide)
theorem d_113_181 : decode (mB 113) 181 = .ok (.iconst 0, 1) := by decide +kernel
theorem s_113_181 {d : Nat} {Q : wQ} {L : List (Option Value)} {st : List Value} {w : aw} {cn sn : Nat}  : wp d 113 Q 181 L st w cn sn = wp d 113 Q 182 L (.int 0 :: st) w cn sn := w_iconst d_113_181 (by decide)
theorem d_113_182 : decode (mB 113) 182 = .ok (.invokevirtual 139, 3) := by decide +kernel
theorem s_113_182 {d : Nat} {Q : wQ} {L : List (Option Value)} {st : List Value} {w : aw} {cn sn : Nat} {v0 v1 : Value} {b : Nat} : wp d 113 Q 182 L (v1 :: v0 :: .ref b :: st) w cn sn = (kd w b = 9 ∧ catS st ≤ 8 ∧ wpD d 108 [.ref b, v0, v1] w (fun v w' => wp d 113 Q 185 L (v.toList ++ st) w' cn sn)) := w_virtual (As := [v0, v1]) d_113_182 (by decide +kernel : cT (mO 113) 139 = some (0, 108)) rfl (by decide +kernel) rfl (by decide +kernel) rfl
theorem d_113_185 : decode (mB 113) 185 = .ok (.goto 136, 3) := by decide +kernel
theorem s_113_185 {d : Nat} {Q : wQ} {L : List (Option Value)} {st : List Value} {w : aw} {cn sn : Nat}  : wp d 113 Q 185 L st w cn sn = wp d 113 Q 321 L st w cn sn := w_goto d_113_185 (by decide)
theorem d_113_188 : decode (mB 113) 188 = .ok (.aload_n 0, 1) := by decide +kernel
theorem s_113_188 {d : Nat} {Q : wQ} {L : List (Option Value)} {st : List Value} {w : aw} {cn sn : Nat} {v : Nat} : wp d 113 Q 188 (some (.ref v) :: L) st w cn sn = wp d 113 Q 189 (some (.ref v) :: L) (.ref v :: st) w cn sn := w_aload_n d_113_188 rfl
theorem d_113_189 : decode (mB 113) 189 = .ok (.getfield 63, 3) := by decide +kernel
theorem s_113_189 {d : Nat} {Q : wQ} {L : List (Option Value)} {st : List Value} {w : aw} {cn sn : Nat} {a : Nat} : wp d 113 Q 189 L (.ref a :: st) w cn sn = (kd w a = 9 ∧ wp d 113 Q 192 L (fd w 539 a :: st) w cn sn) := w_getfield d_113_189 (by decide +kernel : fT (mO 113) 63 = some (8, 27))
theorem d_113_192 : decode (mB 113) 192 = .ok (.iload_n 1, 1) := by decide +kernel
theorem s_113_192 {d : Nat} {Q : wQ} {L : List (Option Value)} {st : List Value} {w : aw} {cn sn : Nat} {a0 : Option Value} {v : Int32} : wp d 113 Q 192 (a0 :: some (.int v) :: L) st w cn sn = wp d 113 Q 193 (a0 :: some (.int v) :: L) (.int v :: st) w cn sn := w_iload_n d_113_192 rfl
theorem d_113_193 : decode (mB 113) 193 = .ok (.iaload, 1) := by decide +kernel
theorem s_113_193 {d : Nat} {Q : wQ} {L : List (Option Value)} {st : List Value} {w : aw} {cn sn : Nat} {a : Nat} {i : Int32} : wp d 113 Q 193 L (.int i :: .ref a :: st) w cn sn = ((kd w a = 20 ∨ kd w a = 30) ∧ inR i (ln w a) ∧ wp d 113 Q 194 L (.int (ai w a i.toNatClampNeg) :: st) w cn sn) := wp_row d_113_193 _ _ _ _ _
theorem d_113_194 : decode (mB 113) 194 = .ok (.bipush 16, 2) := by decide +kernel
theorem s_113_194 {d : Nat} {Q : wQ} {L : List (Option Value)} {st : List Value} {w : aw} {cn sn : Nat}  : wp d 113 Q 194 L st w cn sn = wp d 113 Q 196 L (.int 16 :: st) w cn sn := w_bipush d_113_194 (by decide)
theorem d_113_196 : decode (mB 113) 196 = .ok (.if_icmp .ne 19, 3) := by decide +kernel
theorem s_113_196 {d : Nat} {Q : wQ} {L : List (Option Value)} {st : List Value} {w : aw} {cn sn : Nat} {a b : Int32} : wp d 113 Q 196 L (.int b :: .int a :: st) w cn sn = ((¬ a = b → wp d 113 Q 215 L st w cn sn) ∧ (a = b → wp d 113 Q 199 L st w cn sn)) := w_icne d_113_196 (by decide)
theorem d_113_199 : decode (mB 113) 199 = .ok (.aload_n 0, 1) := by decide +kernel
theorem s_113_199 {d : Nat} {Q : wQ} {L : List (Option Value)} {st : List Value} {w : aw} {cn sn : Nat} {v : Nat} : wp d 113 Q 199 (some (.ref v) :: L) st w cn sn = wp d 113 Q 200 (some (.ref v) :: L) (.ref v :: st) w cn sn := w_aload_n d_113_199 rfl
theorem d_113_200 : decode (mB 113) 200 = .ok (.getfield 33, 3) := by decide +kernel
theorem s_113_200 {d : Nat} {Q : wQ} {L : List (Option Value)} {st : List Value} {w : aw} {cn sn : Nat} {a : Nat} : wp d 113 Q 200 L (.ref a :: st) w cn sn = (kd w a = 9 ∧ wp d 113 Q 203 L (fd w 529 a :: st) w cn sn) := w_getfield d_113_200 (by decide +kernel : fT (mO 113) 33 = some (8, 17))
theorem d_113_203 : decode (mB 113) 203 = .ok (.iload_n 1, 1) := by decide +kernel
theorem s_113_203 {d : Nat} {Q : wQ} {L : List (Option Value)} {st : List Value} {w : aw} {cn sn : Nat} {a0 : Option Value} {v : Int32} : wp d 113 Q 203 (a0 :: some (.int v) :: L) st w cn sn = wp d 113 Q 204 (a0 :: some (.int v) :: L) (.int v :: st) w cn sn := w_iload_n d_113_203 rfl
theorem d_113_204 : decode (mB 113) 204 = .ok (.iload_n 3, 1) := by decide +kernel
theorem s_113_204 {d : Nat} {Q : wQ} {L : List (Option Value)} {st : List Value} {w : aw} {cn sn : Nat} {a0 a1 a2 : Option Value} {v : Int32} : wp d 113 Q 204 (a0 :: a1 :: a2 :: some (.int v) :: L) st w cn sn = wp d 113 Q 205 (a0 :: a1 :: a2 :: some (.int v) :: L) (.int v :: st) w cn sn := w_iload_n d_113_204 rfl
theorem d_113_205 : decode (mB 113) 205 = .ok (.iastore, 1) := by decide +kernel
theorem s_113_205 {d : Nat} {Q : wQ} {L : List (Option Value)} {st : List Value} {w : aw} {cn sn : Nat} {a : Nat} {i x : Int32} : wp d 113 Q 205 L (.int x :: .int i :: .ref a :: st) w cn sn = (kd w a = 20 ∧ inR i (ln w a) ∧ wp d 113 Q 206 L st (uA w a i.toNatClampNeg x) cn sn) := wp_row d_113_205 _ _ _ _ _
theorem d_113_206 : decode (mB 113) 206 = .ok (.aload_n 0, 1) := by decide +kernel
theorem s_113_206 {d : Nat} {Q : wQ} {L : List (Option Value)} {st : List Value} {w : aw} {cn sn : Nat} {v : Nat} : wp d 113 Q 206 (some (.ref v) :: L) st w cn sn = wp d 113 Q 207 (some (.ref v) :: L) (.ref v :: st) w cn sn := w_aload_n d_113_206 rfl
theorem d_113_207 : decode (mB 113) 207 = .ok (.iload_n 1, 1) := by decide +kernel
theorem s_113_207 {d : Nat} {Q : wQ} {L : List (Option Value)} {st : List Value} {w : aw} {cn sn : Nat} {a0 : Option Value} {v : Int32} : wp d 113 Q 207 (a0 :: some (.int v) :: L) st w cn sn = wp d 113 Q 208 (a0 :: some (.int v) :: L) (.int v :: st) w cn sn := w_iload_n d_113_207 rfl
theorem d_113_208 : decode (mB 113) 208 = .ok (.iconst 4, 1) := by decide +kernel
theorem s_113_208 {d : Nat} {Q : wQ} {L : List (Option Value)} {st : List Value} {w : aw} {cn sn : Nat}  : wp d 113 Q 208 L st w cn sn = wp d 113 Q 209 L (.int 4 :: st) w cn sn := w_iconst d_113_208 (by decide)
theorem d_113_209 : decode (mB 113) 209 = .ok (.invokevirtual 143, 3) := by decide +kernel
theorem s_113_209 {d : Nat} {Q : wQ} {L : List (Option Value)} {st : List Value} {w : aw} {cn sn : Nat} {v0 v1 : Value} {b : Nat} : wp d 113 Q 209 L (v1 :: v0 :: .ref b :: st) w cn sn = (kd w b = 9 ∧ catS st ≤ 8 ∧ wpD d 116 [.ref b, v0, v1] w (fun v w' => wp d 113 Q 212 L (v.toList ++ st) w' cn sn)) := w_virtual (As := [v0, v1]) d_113_209 (by decide +kernel : cT (mO 113) 143 = some (0, 116)) rfl (by decide +kernel) rfl (by decide +kernel) rfl
theorem d_113_212 : decode (mB 113) 212 = .ok (.goto 109, 3) := by decide +kernel
theorem s_113_212 {d : Nat} {Q : wQ} {L : List (Option Value)} {st : List Value} {w : aw} {cn sn : Nat}  : wp d 113 Q 212 L st w cn sn = wp d 113 Q 321 L st w cn sn := w_goto d_113_212 (by decide)
theorem d_113_215 : decode (mB 113) 215 = .ok (.aload_n 0, 1) := by decide +kernel
theorem s_113_215 {d : Nat} {Q : wQ} {L : List (Option Value)} {st : List Value} {w : aw} {cn sn : Nat} {v : Nat} : wp d 113 Q 215 (some (.ref v) :: L) st w cn sn = wp d 113 Q 216 (some (.ref v) :: L) (.ref v :: st) w cn sn := w_aload_n d_113_215 rfl
theorem d_113_216 : decode (mB 113) 216 = .ok (.getfield 60, 3) := by decide +kernel
theorem s_113_216 {d : Nat} {Q : wQ} {L : List (Option Value)} {st : List Value} {w : aw} {cn sn : Nat} {a : Nat} : wp d 113 Q 216 L (.ref a :: st) w cn sn = (kd w a = 9 ∧ wp d 113 Q 219 L (fd w 538 a :: st) w cn sn) := w_getfield d_113_216 (by decide +kernel : fT (mO 113) 60 = some (8, 26))
theorem d_113_219 : decode (mB 113) 219 = .ok (.bipush 16, 2) := by decide +kernel
theorem s_113_219 {d : Nat} {Q : wQ} {L : List (Option Value)} {st : List Value} {w : aw} {cn sn : Nat}  : wp d 113 Q 219 L st w cn sn = wp d 113 Q 221 L (.int 16 :: st) w cn sn := w_bipush d_113_219 (by decide)
theorem d_113_221 : decode (mB 113) 221 = .ok (.iload_n 1, 1) := by decide +kernel
theorem s_113_221 {d : Nat} {Q : wQ} {L : List (Option Value)} {st : List Value} {w : aw} {cn sn : Nat} {a0 : Option Value} {v : Int32} : wp d 113 Q 221 (a0 :: some (.int v) :: L) st w cn sn = wp d 113 Q 222 (a0 :: some (.int v) :: L) (.int v :: st) w cn sn := w_iload_n d_113_221 rfl
theorem d_113_222 : decode (mB 113) 222 = .ok (.imul, 1) := by decide +kernel
theorem s_113_222 {d : Nat} {Q : wQ} {L : List (Option Value)} {st : List Value} {w : aw} {cn sn : Nat} {a b : Int32} : wp d 113 Q 222 L (.int b :: .int a :: st) w cn sn = wp d 113 Q 223 L (.int (a * b) :: st) w cn sn := wp_row d_113_222 _ _ _ _ _
theorem d_113_223 : decode (mB 113) 223 = .ok (.aload_n 0, 1) := by decide +kernel
theorem s_113_223 {d : Nat} {Q : wQ} {L : List (Option Value)} {st : List Value} {w : aw} {cn sn : Nat} {v : Nat} : wp d 113 Q 223 (some (.ref v) :: L) st w cn sn = wp d 113 Q 224 (some (.ref v) :: L) (.ref v :: st) w cn sn := w_aload_n d_113_223 rfl
theorem d_113_224 : decode (mB 113) 224 = .ok (.getfield 63, 3) := by decide +kernel
theorem s_113_224 {d : Nat} {Q : wQ} {L : List (Option Value)} {st : List Value} {w : aw} {cn sn : Nat} {a : Nat} : wp d 113 Q 224 L (.ref a :: st) w cn sn = (kd w a = 9 ∧ wp d 113 Q 227 L (fd w 539 a :: st) w cn sn) := w_getfield d_113_224 (by decide +kernel : fT (mO 113) 63 = some (8, 27))
theorem d_113_227 : decode (mB 113) 227 = .ok (.iload_n 1, 1) := by decide +kernel
theorem s_113_227 {d : Nat} {Q : wQ} {L : List (Option Value)} {st : List Value} {w : aw} {cn sn : Nat} {a0 : Option Value} {v : Int32} : wp d 113 Q 227 (a0 :: some (.int v) :: L) st w cn sn = wp d 113 Q 228 (a0 :: some (.int v) :: L) (.int v :: st) w cn sn := w_iload_n d_113_227 rfl
theorem d_113_228 : decode (mB 113) 228 = .ok (.iaload, 1) := by decide +kernel
theorem s_113_228 {d : Nat} {Q : wQ} {L : List (Option Value)} {st : List Value} {w : aw} {cn sn : Nat} {a : Nat} {i : Int32} : wp d 113 Q 228 L (.int i :: .ref a :: st) w cn sn = ((kd w a = 20 ∨ kd w a = 30) ∧ inR i (ln w a) ∧ wp d 113 Q 229 L (.int (ai w a i.toNatClampNeg) :: st) w cn sn) := wp_row d_113_228 _ _ _ _ _
theorem d_113_229 : decode (mB 113) 229 = .ok (.iadd, 1) := by decide +kernel
theorem s_113_229 {d : Nat} {Q : wQ} {L : List (Option Value)} {st : List Value} {w : aw} {cn sn : Nat} {a b : Int32} : wp d 113 Q 229 L (.int b :: .int a :: st) w cn sn = wp d 113 Q 230 L (.int (a + b) :: st) w cn sn := wp_row d_113_229 _ _ _ _ _
theorem d_113_230 : decode (mB 113) 230 = .ok (.aload_n 0, 1) := by decide +kernel
theorem s_113_230 {d : Nat} {Q : wQ} {L : List (Option Value)} {st : List Value} {w : aw} {cn sn : Nat} {v : Nat} : wp d 113 Q 230 (some (.ref v) :: L) st w cn sn = wp d 113 Q 231 (some (.ref v) :: L) (.ref v :: st) w cn sn := w_aload_n d_113_230 rfl
theorem d_113_231 : decode (mB 113) 231 = .ok (.getfield 30, 3) := by decide +kernel
theorem s_113_231 {d : Nat} {Q : wQ} {L : List (Option Value)} {st : List Value} {w : aw} {cn sn : Nat} {a : Nat} : wp d 113 Q 231 L (.ref a :: st) w cn sn = (kd w a = 9 ∧ wp d 113 Q 234 L (fd w 528 a :: st) w cn sn) := w_getfield d_113_231 (by decide +kernel : fT (mO 113) 30 = some (8, 16))
theorem d_113_234 : decode (mB 113) 234 = .ok (.iload_n 1, 1) := by decide +kernel
theorem s_113_234 {d : Nat} {Q : wQ} {L : List (Option Value)} {st : List Value} {w : aw} {cn sn : Nat} {a0 : Option Value} {v : Int32} : wp d 113 Q 234 (a0 :: some (.int v) :: L) st w cn sn = wp d 113 Q 235 (a0 :: some (.int v) :: L) (.int v :: st) w cn sn := w_iload_n d_113_234 rfl
theorem d_113_235 : decode (mB 113) 235 = .ok (.iaload, 1) := by decide +kernel
theorem s_113_235 {d : Nat} {Q : wQ} {L : List (Option Value)} {st : List Value} {w : aw} {cn sn : Nat} {a : Nat} {i : Int32} : wp d 113 Q 235 L (.int i :: .ref a :: st) w cn sn = ((kd w a = 20 ∨ kd w a = 30) ∧ inR i (ln w a) ∧ wp d 113 Q 236 L (.int (ai w a i.toNatClampNeg) :: st) w cn sn) := wp_row d_113_235 _ _ _ _ _
theorem d_113_236 : decode (mB 113) 236 = .ok (.sipush 255, 3) := by decide +kernel
theorem s_113_236 {d : Nat} {Q : wQ} {L : List (Option Value)} {st : List Value} {w : aw} {cn sn : Nat}  : wp d 113 Q 236 L st w cn sn = wp d 113 Q 239 L (.int 255 :: st) w cn sn := w_sipush d_113_236 (by decide)
theorem d_113_239 : decode (mB 113) 239 = .ok (.iand, 1) := by decide +kernel
theorem s_113_239 {d : Nat} {Q : wQ} {L : List (Option Value)} {st : List Value} {w : aw} {cn sn : Nat} {a b : Int32} : wp d 113 Q 239 L (.int b :: .int a :: st) w cn sn = wp d 113 Q 240 L (.int (a &&& b) :: st) w cn sn := wp_row d_113_239 _ _ _ _ _
theorem d_113_240 : decode (mB 113) 240 = .ok (.iastore, 1) := by decide +kernel
theorem s_113_240 {d : Nat} {Q : wQ} {L : List (Option Value)} {st : List Value} {w : aw} {cn sn : Nat} {a : Nat} {i x : Int32} : wp d 113 Q 240 L (.int x :: .int i :: .ref a :: st) w cn sn = (kd w a = 20 ∧ inR i (ln w a) ∧ wp d 113 Q 241 L st (uA w a i.toNatClampNeg x) cn sn) := wp_row d_113_240 _ _ _ _ _
theorem d_113_241 : decode (mB 113) 241 = .ok (.aload_n 0, 1) := by decide +kernel
theorem s_113_241 {d : Nat} {Q : wQ} {L : List (Option Value)} {st : List Value} {w : aw} {cn sn : Nat} {v : Nat} : wp d 113 Q 241 (some (.ref v) :: L) st w cn sn = wp d 113 Q 242 (some (.ref v) :: L) (.ref v :: st) w cn sn := w_aload_n d_113_241 rfl
theorem d_113_242 : decode (mB 113) 242 = .ok (.getfield 63, 3) := by decide +kernel
theorem s_113_242 {d : Nat} {Q : wQ} {L : List (Option Value)} {st : List Value} {w : aw} {cn sn : Nat} {a : Nat} : wp d 113 Q 242 L (.ref a :: st) w cn sn = (kd w a = 9 ∧ wp d 113 Q 245 L (fd w 539 a :: st) w cn sn) := w_getfield d_113_242 (by decide +kernel : fT (mO 113) 63 = some (8, 27))
theorem d_113_245 : decode (mB 113) 245 = .ok (.iload_n 1, 1) := by decide +kernel
theorem s_113_245 {d : Nat} {Q : wQ} {L : List (Option Value)} {st : List Value} {w : aw} {cn sn : Nat} {a0 : Option Value} {v : Int32} : wp d 113 Q 245 (a0 :: some (.int v) :: L) st w cn sn = wp d 113 Q 246 (a0 :: some (.int v) :: L) (.int v :: st) w cn sn := w_iload_n d_113_245 rfl
theorem d_113_246 : decode (mB 113) 246 = .ok (.dup2, 1) := by decide +kernel
theorem s_113_246 {d : Nat} {Q : wQ} {L : List (Option Value)} {st : List Value} {w : aw} {cn sn : Nat} {a b : Value} : wp d 113 Q 246 L (a :: b :: st) w cn sn = (a.category = 1 ∧ b.category = 1 ∧ wp d 113 Q 247 L (a :: b :: a :: b :: st) w cn sn) := wp_row d_113_246 _ _ _ _ _
theorem d_113_247 : decode (mB 113) 247 = .ok (.iaload, 1) := by decide +kernel
theorem s_113_247 {d : Nat} {Q : wQ} {L : List (Option Value)} {st : List Value} {w : aw} {cn sn : Nat} {a : Nat} {i : Int32} : wp d 113 Q 247 L (.int i :: .ref a :: st) w cn sn = ((kd w a = 20 ∨ kd w a = 30) ∧ inR i (ln w a) ∧ wp d 113 Q 248 L (.int (ai w a i.toNatClampNeg) :: st) w cn sn) := wp_row d_113_247 _ _ _ _ _
theorem d_113_248 : decode (mB 113) 248 = .ok (.iconst 1, 1) := by decide +kernel
theorem s_113_248 {d : Nat} {Q : wQ} {L : List (Option Value)} {st : List Value} {w : aw} {cn sn : Nat}  : wp d 113 Q 248 L st w cn sn = wp d 113 Q 249 L (.int 1 :: st) w cn sn := w_iconst d_113_248 (by decide)
theorem d_113_249 : decode (mB 113) 249 = .ok (.iadd, 1) := by decide +kernel
theorem s_113_249 {d : Nat} {Q : wQ} {L : List (Option Value)} {st : List Value} {w : aw} {cn sn : Nat} {a b : Int32} : wp d 113 Q 249 L (.int b :: .int a :: st) w cn sn = wp d 113 Q 250 L (.int (a + b) :: st) w cn sn := wp_row d_113_249 _ _ _ _ _
theorem d_113_250 : decode (mB 113) 250 = .ok (.iastore, 1) := by decide +kernel
theorem s_113_250 {d : Nat} {Q : wQ} {L : List (Option Value)} {st : List Value} {w : aw} {cn sn : Nat} {a : Nat} {i x : Int32} : wp d 113 Q 250 L (.int x :: .int i :: .ref a :: st) w cn sn = (kd w a = 20 ∧ inR i (ln w a) ∧ wp d 113 Q 251 L st (uA w a i.toNatClampNeg x) cn sn) := wp_row d_113_250 _ _ _ _ _
theorem d_113_251 : decode (mB 113) 251 = .ok (.goto 70, 3) := by decide +kernel
theorem s_113_251 {d : Nat} {Q : wQ} {L : List (Option Value)} {st : List Value} {w : aw} {cn sn : Nat}  : wp d 113 Q 251 L st w cn sn = wp d 113 Q 321 L st w cn sn := w_goto d_113_251 (by decide)
theorem d_113_254 : decode (mB 113) 254 = .ok (.aload_n 0, 1) := by decide +kernel
theorem s_113_254 {d : Nat} {Q : wQ} {L : List (Option Value)} {st : List Value} {w : aw} {cn sn : Nat} {v : Nat} : wp d 113 Q 254 (some (.ref v) :: L) st w cn sn = wp d 113 Q 255 (some (.ref v) :: L) (.ref v :: st) w cn sn := w_aload_n d_113_254 rfl
theorem d_113_255 : decode (mB 113) 255 = .ok (.getfield 30, 3) := by decide +kernel
theorem s_113_255 {d : Nat} {Q : wQ} {L : List (Option Value)} {st : List Value} {w : aw} {cn sn : Nat} {a : Nat} : wp d 113 Q 255 L (.ref a :: st) w cn sn = (kd w a = 9 ∧ wp d 113 Q 258 L (fd w 528 a :: st) w cn sn) := w_getfield d_113_255 (by decide +kernel : fT (mO 113) 30 = some (8, 16))
theorem d_113_258 : decode (mB 113) 258 = .ok (.iload_n 1, 1) := by decide +kernel
theorem s_113_258 {d : Nat} {Q : wQ} {L : List (Option Value)} {st : List Value} {w : aw} {cn sn : Nat} {a0 : Option Value} {v : Int32} : wp d 113 Q 258 (a0 :: some (.int v) :: L) st w cn sn = wp d 113 Q 259 (a0 :: some (.int v) :: L) (.int v :: st) w cn sn := w_iload_n d_113_258 rfl
theorem d_113_259 : decode (mB 113) 259 = .ok (.iaload, 1) := by decide +kernel
theorem s_113_259 {d : Nat} {Q : wQ} {L : List (Option Value)} {st : List Value} {w : aw} {cn sn : Nat} {a : Nat} {i : Int32} : wp d 113 Q 259 L (.int i :: .ref a :: st) w cn sn = ((kd w a = 20 ∨ kd w a = 30) ∧ inR i (ln w a) ∧ wp d 113 Q 260 L (.int (ai w a i.toNatClampNeg) :: st) w cn sn) := wp_row d_113_259 _ _ _ _ _
theorem d_113_260 : decode (mB 113) 260 = .ok (.ifCond .le 61, 3) := by decide +kernel
theorem s_113_260 {d : Nat} {Q : wQ} {L : List (Option Value)} {st : List Value} {w : aw} {cn sn : Nat} {x : Int32} : wp d 113 Q 260 L (.int x :: st) w cn sn = ((x ≤ 0 → wp d 113 Q 321 L st w cn sn) ∧ (¬ x ≤ 0 → wp d 113 Q 263 L st w cn sn)) := w_ifle d_113_260 (by decide)
theorem d_113_263 : decode (mB 113) 263 = .ok (.aload_n 0, 1) := by decide +kernel
theorem s_113_263 {d : Nat} {Q : wQ} {L : List (Option Value)} {st : List Value} {w : aw} {cn sn : Nat} {v : Nat} : wp d 113 Q 263 (some (.ref v) :: L) st w cn sn = wp d 113 Q 264 (some (.ref v) :: L) (.ref v :: st) w cn sn := w_aload_n d_113_263 rfl
theorem d_113_264 : decode (mB 113) 264 = .ok (.getfield 42, 3) := by decide +kernel
theorem s_113_264 {d : Nat} {Q : wQ} {L : List (Option Value)} {st : List Value} {w : aw} {cn sn : Nat} {a : Nat} : wp d 113 Q 264 L (.ref a :: st) w cn sn = (kd w a = 9 ∧ wp d 113 Q 267 L (fd w 532 a :: st) w cn sn) := w_getfield d_113_264 (by decide +kernel : fT (mO 113) 42 = some (8, 20))
theorem d_113_267 : decode (mB 113) 267 = .ok (.iload_n 1, 1) := by decide +kernel
theorem s_113_267 {d : Nat} {Q : wQ} {L : List (Option Value)} {st : List Value} {w : aw} {cn sn : Nat} {a0 : Option Value} {v : Int32} : wp d 113 Q 267 (a0 :: some (.int v) :: L) st w cn sn = wp d 113 Q 268 (a0 :: some (.int v) :: L) (.int v :: st) w cn sn := w_iload_n d_113_267 rfl
theorem d_113_268 : decode (mB 113) 268 = .ok (.aload_n 0, 1) := by decide +kernel
theorem s_113_268 {d : Nat} {Q : wQ} {L : List (Option Value)} {st : List Value} {w : aw} {cn sn : Nat} {v : Nat} : wp d 113 Q 268 (some (.ref v) :: L) st w cn sn = wp d 113 Q 269 (some (.ref v) :: L) (.ref v :: st) w cn sn := w_aload_n d_113_268 rfl
theorem d_113_269 : decode (mB 113) 269 = .ok (.getfield 30, 3) := by decide +kernel
theorem s_113_269 {d : Nat} {Q : wQ} {L : List (Option Value)} {st : List Value} {w : aw} {cn sn : Nat} {a : Nat} : wp d 113 Q 269 L (.ref a :: st) w cn sn = (kd w a = 9 ∧ wp d 113 Q 272 L (fd w 528 a :: st) w cn sn) := w_getfield d_113_269 (by decide +kernel : fT (mO 113) 30 = some (8, 16))
theorem d_113_272 : decode (mB 113) 272 = .ok (.iload_n 1, 1) := by decide +kernel
theorem s_113_272 {d : Nat} {Q : wQ} {L : List (Option Value)} {st : List Value} {w : aw} {cn sn : Nat} {a0 : Option Value} {v : Int32} : wp d 113 Q 272 (a0 :: some (.int v) :: L) st w cn sn = wp d 113 Q 273 (a0 :: some (.int v) :: L) (.int v :: st) w cn sn := w_iload_n d_113_272 rfl
theorem d_113_273 : decode (mB 113) 273 = .ok (.iaload, 1) := by decide +kernel
theorem s_113_273 {d : Nat} {Q : wQ} {L : List (Option Value)} {st : List Value} {w : aw} {cn sn : Nat} {a : Nat} {i : Int32} : wp d 113 Q 273 L (.int i :: .ref a :: st) w cn sn = ((kd w a = 20 ∨ kd w a = 30) ∧ inR i (ln w a) ∧ wp d 113 Q 274 L (.int (ai w a i.toNatClampNeg) :: st) w cn sn) := wp_row d_113_273 _ _ _ _ _
theorem d_113_274 : decode (mB 113) 274 = .ok (.iastore, 1) := by decide +kernel
theorem s_113_274 {d : Nat} {Q : wQ} {L : List (Option Value)} {st : List Value} {w : aw} {cn sn : Nat} {a : Nat} {i x : Int32} : wp d 113 Q 274 L (.int x :: .int i :: .ref a :: st) w cn sn = (kd w a = 20 ∧ inR i (ln w a) ∧ wp d 113 Q 275 L st (uA w a i.toNatClampNeg x) cn sn) := wp_row d_113_274 _ _ _ _ _
theorem d_113_275 : decode (mB 113) 275 = .ok (.aload_n 0, 1) := by decide +kernel
theorem s_113_275 {d : Nat} {Q : wQ} {L : List (Option Value)} {st : List Value} {w : aw} {cn sn : Nat} {v : Nat} : wp d 113 Q 275 (some (.ref v) :: L) st w cn sn = wp d 113 Q 276 (some (.ref v) :: L) (.ref v :: st) w cn sn := w_aload_n d_113_275 rfl
theorem d_113_276 : decode (mB 113) 276 = .ok (.getfield 30, 3) := by decide +kernel
theorem s_113_276 {d : Nat} {Q : wQ} {L : List (Option Value)} {st : List Value} {w : aw} {cn sn : Nat} {a : Nat} : wp d 113 Q 276 L (.ref a :: st) w cn sn = (kd w a = 9 ∧ wp d 113 Q 279 L (fd w 528 a :: st) w cn sn) := w_getfield d_113_276 (by decide +kernel : fT (mO 113) 30 = some (8, 16))
theorem d_113_279 : decode (mB 113) 279 = .ok (.iload_n 1, 1) := by decide +kernel
theorem s_113_279 {d : Nat} {Q : wQ} {L : List (Option Value)} {st : List Value} {w : aw} {cn sn : Nat} {a0 : Option Value} {v : Int32} : wp d 113 Q 279 (a0 :: some (.int v) :: L) st w cn sn = wp d 113 Q 280 (a0 :: some (.int v) :: L) (.int v :: st) w cn sn := w_iload_n d_113_279 rfl
theorem d_113_280 : decode (mB 113) 280 = .ok (.iconst 0, 1) := by decide +kernel
theorem s_113_280 {d : Nat} {Q : wQ} {L : List (Option Value)} {st : List Value} {w : aw} {cn sn : Nat}  : wp d 113 Q 280 L st w cn sn = wp d 113 Q 281 L (.int 0 :: st) w cn sn := w_iconst d_113_280 (by decide)
theorem d_113_281 : decode (mB 113) 281 = .ok (.iastore, 1) := by decide +kernel
theorem s_113_281 {d : Nat} {Q : wQ} {L : List (Option Value)} {st : List Value} {w : aw} {cn sn : Nat} {a : Nat} {i x : Int32} : wp d 113 Q 281 L (.int x :: .int i :: .ref a :: st) w cn sn = (kd w a = 20 ∧ inR i (ln w a) ∧ wp d 113 Q 282 L st (uA w a i.toNatClampNeg x) cn sn) := wp_row d_113_281 _ _ _ _ _
theorem d_113_282 : decode (mB 113) 282 = .ok (.aload_n 0, 1) := by decide +kernel
theorem s_113_282 {d : Nat} {Q : wQ} {L : List (Option Value)} {st : List Value} {w : aw} {cn sn : Nat} {v : Nat} : wp d 113 Q 282 (some (.ref v) :: L) st w cn sn = wp d 113 Q 283 (some (.ref v) :: L) (.ref v :: st) w cn sn := w_aload_n d_113_282 rfl
theorem d_113_283 : decode (mB 113) 283 = .ok (.iload_n 1, 1) := by decide +kernel
theorem s_113_283 {d : Nat} {Q : wQ} {L : List (Option Value)} {st : List Value} {w : aw} {cn sn : Nat} {a0 : Option Value} {v : Int32} : wp d 113 Q 283 (a0 :: some (.int v) :: L) st w cn sn = wp d 113 Q 284 (a0 :: some (.int v) :: L) (.int v :: st) w cn sn := w_iload_n d_113_283 rfl
theorem d_113_284 : decode (mB 113) 284 = .ok (.iconst 5, 1) := by decide +kernel
theorem s_113_284 {d : Nat} {Q : wQ} {L : List (Option Value)} {st : List Value} {w : aw} {cn sn : Nat}  : wp d 113 Q 284 L st w cn sn = wp d 113 Q 285 L (.int 5 :: st) w cn sn := w_iconst d_113_284 (by decide)
theorem d_113_285 : decode (mB 113) 285 = .ok (.invokevirtual 143, 3) := by decide +kernel
theorem s_113_285 {d : Nat} {Q : wQ} {L : List (Option Value)} {st : List Value} {w : aw} {cn sn : Nat} {v0 v1 : Value} {b : Nat} : wp d 113 Q 285 L (v1 :: v0 :: .ref b :: st) w cn sn = (kd w b = 9 ∧ catS st ≤ 8 ∧ wpD d 116 [.ref b, v0, v1] w (fun v w' => wp d 113 Q 288 L (v.toList ++ st) w' cn sn)) := w_virtual (As := [v0, v1]) d_113_285 (by decide +kernel : cT (mO 113) 143 = some (0, 116)) rfl (by decide +kernel) rfl (by decide +kernel) rfl
theorem d_113_288 : decode (mB 113) 288 = .ok (.goto 33, 3) := by decide +kernel
theorem s_113_288 {d : Nat} {Q : wQ} {L : List (Option Value)} {st : List Value} {w : aw} {cn sn : Nat}  : wp d 113 Q 288 L st w cn sn = wp d 113 Q 321 L st w cn sn := w_goto d_113_288 (by decide)
theorem d_113_291 : decode (mB 113) 291 = .ok (.aload_n 0, 1) := by decide +kernel
theorem s_113_291 {d : Nat} {Q : wQ} {L : List (Option Value)} {st : List Value} {w : aw} {cn sn : Nat} {v : Nat} : wp d 113 Q 291 (some (.ref v) :: L) st w cn sn = wp d 113 Q 292 (some (.ref v) :: L) (.ref v :: st) w cn sn := w_aload_n d_113_291 rfl
theorem d_113_292 : decode (mB 113) 292 = .ok (.iload_n 1, 1) := by decide +kernel
theorem s_113_292 {d : Nat} {Q : wQ} {L : List (Option Value)} {st : List Value} {w : aw} {cn sn : Nat} {a0 : Option Value} {v : Int32} : wp d 113 Q 292 (a0 :: some (.int v) :: L) st w cn sn = wp d 113 Q 293 (a0 :: some (.int v) :: L) (.int v :: st) w cn sn := w_iload_n d_113_292 rfl
theorem d_113_293 : decode (mB 113) 293 = .ok (.iload_n 2, 1) := by decide +kernel
theorem s_113_293 {d : Nat} {Q : wQ} {L : List (Option Value)} {st : List Value} {w : aw} {cn sn : Nat} {a0 a1 : Option Value} {v : Int32} : wp d 113 Q 293 (a0 :: a1 :: some (.int v) :: L) st w cn sn = wp d 113 Q 294 (a0 :: a1 :: some (.int v) :: L) (.int v :: st) w cn sn := w_iload_n d_113_293 rfl
theorem d_113_294 : decode (mB 113) 294 = .ok (.sipush 3114, 3) := by decide +kernel
theorem s_113_294 {d : Nat} {Q : wQ} {L : List (Option Value)} {st : List Value} {w : aw} {cn sn : Nat}  : wp d 113 Q 294 L st w cn sn = wp d 113 Q 297 L (.int 3114 :: st) w cn sn := w_sipush d_113_294 (by decide)
theorem d_113_297 : decode (mB 113) 297 = .ok (.if_icmp .ne 7, 3) := by decide +kernel
theorem s_113_297 {d : Nat} {Q : wQ} {L : List (Option Value)} {st : List Value} {w : aw} {cn sn : Nat} {a b : Int32} : wp d 113 Q 297 L (.int b :: .int a :: st) w cn sn = ((¬ a = b → wp d 113 Q 304 L st w cn sn) ∧ (a = b → wp d 113 Q 300 L st w cn sn)) := w_icne d_113_297 (by decide)
theorem d_113_300 : decode (mB 113) 300 = .ok (.iconst 1, 1) := by decide +kernel
theorem s_113_300 {d : Nat} {Q : wQ} {L : List (Option Value)} {st : List Value} {w : aw} {cn sn : Nat}  : wp d 113 Q 300 L st w cn sn = wp d 113 Q 301 L (.int 1 :: st) w cn sn := w_iconst d_113_300 (by decide)
theorem d_113_301 : decode (mB 113) 301 = .ok (.goto 4, 3) := by decide +kernel
theorem s_113_301 {d : Nat} {Q : wQ} {L : List (Option Value)} {st : List Value} {w : aw} {cn sn : Nat}  : wp d 113 Q 301 L st w cn sn = wp d 113 Q 305 L st w cn sn := w_goto d_113_301 (by decide)
theorem d_113_304 : decode (mB 113) 304 = .ok (.iconst 0, 1) := by decide +kernel
theorem s_113_304 {d : Nat} {Q : wQ} {L : List (Option Value)} {st : List Value} {w : aw} {cn sn : Nat}  : wp d 113 Q 304 L st w cn sn = wp d 113 Q 305 L (.int 0 :: st) w cn sn := w_iconst d_113_304 (by decide)
theorem d_113_305 : decode (mB 113) 305 = .ok (.invokevirtual 150, 3) := by decide +kernel
theorem s_113_305 {d : Nat} {Q : wQ} {L : List (Option Value)} {st : List Value} {w : aw} {cn sn : Nat} {v0 v1 : Value} {b : Nat} : wp d 113 Q 305 L (v1 :: v0 :: .ref b :: st) w cn sn = (kd w b = 9 ∧ catS st ≤ 8 ∧ wpD d 115 [.ref b, v0, v1] w (fun v w' => wp d 113 Q 308 L (v.toList ++ st) w' cn sn)) := w_virtual (As := [v0, v1]) d_113_305 (by decide +kernel : cT (mO 113) 150 = some (0, 115)) rfl (by decide +kernel) rfl (by decide +kernel) rfl
theorem d_113_308 : decode (mB 113) 308 = .ok (.goto 13, 3) := by decide +kernel
theorem s_113_308 {d : Nat} {Q : wQ} {L : List (Option Value)} {st : List Value} {w : aw} {cn sn : Nat}  : wp d 113 Q 308 L st w cn sn = wp d 113 Q 321 L st w cn sn := w_goto d_113_308 (by decide)
theorem d_113_311 : decode (mB 113) 311 = .ok (.aload_n 0, 1) := by decide +kernel
theorem s_113_311 {d : Nat} {Q : wQ} {L : List (Option Value)} {st : List Value} {w : aw} {cn sn : Nat} {v : Nat} : wp d 113 Q 311 (some (.ref v) :: L) st w cn sn = wp d 113 Q 312 (some (.ref v) :: L) (.ref v :: st) w cn sn := w_aload_n d_113_311 rfl
theorem d_113_312 : decode (mB 113) 312 = .ok (.getfield 30, 3) := by decide +kernel
theorem s_113_312 {d : Nat} {Q : wQ} {L : List (Option Value)} {st : List Value} {w : aw} {cn sn : Nat} {a : Nat} : wp d 113 Q 312 L (.ref a :: st) w cn sn = (kd w a = 9 ∧ wp d 113 Q 315 L (fd w 528 a :: st) w cn sn) := w_getfield d_113_312 (by decide +kernel : fT (mO 113) 30 = some (8, 16))
theorem d_113_315 : decode (mB 113) 315 = .ok (.iload_n 1, 1) := by decide +kernel
theorem s_113_315 {d : Nat} {Q : wQ} {L : List (Option Value)} {st : List Value} {w : aw} {cn sn : Nat} {a0 : Option Value} {v : Int32} : wp d 113 Q 315 (a0 :: some (.int v) :: L) st w cn sn = wp d 113 Q 316 (a0 :: some (.int v) :: L) (.int v :: st) w cn sn := w_iload_n d_113_315 rfl
theorem d_113_316 : decode (mB 113) 316 = .ok (.iload_n 1, 1) := by decide +kernel
theorem s_113_316 {d : Nat} {Q : wQ} {L : List (Option Value)} {st : List Value} {w : aw} {cn sn : Nat} {a0 : Option Value} {v : Int32} : wp d 113 Q 316 (a0 :: some (.int v) :: L) st w cn sn = wp d 113 Q 317 (a0 :: some (.int v) :: L) (.int v :: st) w cn sn := w_iload_n d_113_316 rfl
theorem d_113_317 : decode (mB 113) 317 = .ok (.iastore, 1) := by decide +kernel
theorem s_113_317 {d : Nat} {Q : wQ} {L : List (Option Value)} {st : List Value} {w : aw} {cn sn : Nat} {a : Nat} {i x : Int32} : wp d 113 Q 317 L (.int x :: .int i :: .ref a :: st) w cn sn = (kd w a = 20 ∧ inR i (ln w a) ∧ wp d 113 Q 318 L st (uA w a i.toNatClampNeg x) cn sn) := wp_row d_113_317 _ _ _ _ _
theorem d_113_318 : decode (mB 113) 318 = .ok (.goto 3, 3) := by decide +kernel
theorem s_113_318 {d : Nat} {Q : wQ} {L : List (Option Value)} {st : List Value} {w : aw} {cn sn : Nat}  : wp d 113 Q 318 L st w cn sn = wp d 113 Q 321 L st w cn sn := w_goto d_113_318 (by decide)
theorem d_113_321 : decode (mB 113) 321 = .ok (.return_, 1) := by decide +kernel
theorem s_113_321 {d : Nat} {Q : wQ} {L : List (Option Value)} {w : aw} {cn sn : Nat}  : wp d 113 Q 321 L [] w cn sn = Q none w := w_return d_113_321 rfl
theorem d_114_0 : decode (mB 114) 0 = .ok (.aload_n 0, 1) := by decide +kernel
theorem s_114_0 {d : Nat} {Q : wQ} {L : List (Option Value)} {st : List Value} {w : aw} {cn sn : Nat} {v : Nat} : wp d 114 Q 0 (some (.ref v) :: L) st w cn sn = wp d 114 Q 1 (some (.ref v) :: L) (.ref v :: st) w cn sn := w_aload_n d_114_0 rfl
theorem s_114_0n {d : Nat} {Q : wQ} {L : List (Option Value)} {st : List Value} {w : aw} {cn sn : Nat}  : wp d 114 Q 0 (some .null :: L) st w cn sn = wp d 114 Q 1 (some .null :: L) (.null :: st) w cn sn := w_aload_nN d_114_0 rfl
theorem d_114_1 : decode (mB 114) 1 = .ok (.bipush 16, 2) := by decide +kernel
theorem s_114_1 {d : Nat} {Q : wQ} {L : List (Option Value)} {st : List Value} {w : aw} {cn sn : Nat}  : wp d 114 Q 1 L st w cn sn = wp d 114 Q 3 L (.int 16 :: st) w cn sn := w_bipush d_114_1 (by decide)
theorem d_114_3 : decode (mB 114) 3 = .ok (.iload_n 2, 1) := by decide +kernel
theorem s_114_3 {d : Nat} {Q : wQ} {L : List (Option Value)} {st : List Value} {w : aw} {cn sn : Nat} {a0 a1 : Option Value} {v : Int32} : wp d 114 Q 3 (a0 :: a1 :: some (.int v) :: L) st w cn sn = wp d 114 Q 4 (a0 :: a1 :: some (.int v) :: L) (.int v :: st) w cn sn := w_iload_n d_114_3 rfl
theorem d_114_4 : decode (mB 114) 4 = .ok (.imul, 1) := by decide +kernel
theorem s_114_4 {d : Nat} {Q : wQ} {L : List (Option Value)} {st : List Value} {w : aw} {cn sn : Nat} {a b : Int32} : wp d 114 Q 4 L (.int b :: .int a :: st) w cn sn = wp d 114 Q 5 L (.int (a * b) :: st) w cn sn := wp_row d_114_4 _ _ _ _ _
theorem d_114_5 : decode (mB 114) 5 = .ok (.iaload, 1) := by decide +kernel
theorem s_114_5 {d : Nat} {Q : wQ} {L : List (Option Value)} {st : List Value} {w : aw} {cn sn : Nat} {a : Nat} {i : Int32} : wp d 114 Q 5 L (.int i :: .ref a :: st) w cn sn = ((kd w a = 20 ∨ kd w a = 30) ∧ inR i (ln w a) ∧ wp d 114 Q 6 L (.int (ai w a i.toNatClampNeg) :: st) w cn sn) := wp_row d_114_5 _ _ _ _ _
theorem d_114_6 : decode (mB 114) 6 = .ok (.istore_n 3, 1) := by decide +kernel
theorem s_114_6 {d : Nat} {Q : wQ} {L : List (Option Value)} {st : List Value} {w : aw} {cn sn : Nat} {a0 a1 a2 a3 : Option Value} {v : Int32} : wp d 114 Q 6 (a0 :: a1 :: a2 :: a3 :: L) (.int v :: st) w cn sn = wp d 114 Q 7 (a0 :: a1 :: clr a2 :: some (.int v) :: L) st w cn sn := w_istore_n d_114_6 (Nat.le_add_left 4 _) rfl
theorem d_114_7 : decode (mB 114) 7 = .ok (.aload_n 1, 1) := by decide +kernel
theorem s_114_7 {d : Nat} {Q : wQ} {L : List (Option Value)} {st : List Value} {w : aw} {cn sn : Nat} {a0 : Option Value} {v : Nat} : wp d 114 Q 7 (a0 :: some (.ref v) :: L) st w cn sn = wp d 114 Q 8 (a0 :: some (.ref v) :: L) (.ref v :: st) w cn sn := w_aload_n d_114_7 rfl
theorem s_114_7n {d : Nat} {Q : wQ} {L : List (Option Value)} {st : List Value} {w : aw} {cn sn : Nat} {a0 : Option Value} : wp d 114 Q 7 (a0 :: some .null :: L) st w cn sn = wp d 114 Q 8 (a0 :: some .null :: L) (.null :: st) w cn sn := w_aload_nN d_114_7 rfl
theorem d_114_8 : decode (mB 114) 8 = .ok (.iload_n 2, 1) := by decide +kernel
theorem s_114_8 {d : Nat} {Q : wQ} {L : List (Option Value)} {st : List Value} {w : aw} {cn sn : Nat} {a0 a1 : Option Value} {v : Int32} : wp d 114 Q 8 (a0 :: a1 :: some (.int v) :: L) st w cn sn = wp d 114 Q 9 (a0 :: a1 :: some (.int v) :: L) (.int v :: st) w cn sn := w_iload_n d_114_8 rfl
theorem d_114_9 : decode (mB 114) 9 = .ok (.dup2, 1) := by decide +kernel
theorem s_114_9 {d : Nat} {Q : wQ} {L : List (Option Value)} {st : List Value} {w : aw} {cn sn : Nat} {a b : Value} : wp d 114 Q 9 L (a :: b :: st) w cn sn = (a.category = 1 ∧ b.category = 1 ∧ wp d 114 Q 10 L (a :: b :: a :: b :: st) w cn sn) := wp_row d_114_9 _ _ _ _ _
theorem d_114_10 : decode (mB 114) 10 = .ok (.iaload, 1) := by decide +kernel
theorem s_114_10 {d : Nat} {Q : wQ} {L : List (Option Value)} {st : List Value} {w : aw} {cn sn : Nat} {a : Nat} {i : Int32} : wp d 114 Q 10 L (.int i :: .ref a :: st) w cn sn = ((kd w a = 20 ∨ kd w a = 30) ∧ inR i (ln w a) ∧ wp d 114 Q 11 L (.int (ai w a i.toNatClampNeg) :: st) w cn sn) := wp_row d_114_10 _ _ _ _ _
theorem d_114_11 : decode (mB 114) 11 = .ok (.iconst 1, 1) := by decide +kernel
theorem s_114_11 {d : Nat} {Q : wQ} {L : List (Option Value)} {st : List Value} {w : aw} {cn sn : Nat}  : wp d 114 Q 11 L st w cn sn = wp d 114 Q 12 L (.int 1 :: st) w cn sn := w_iconst d_114_11 (by decide)
theorem d_114_12 : decode (mB 114) 12 = .ok (.isub, 1) := by decide +kernel
theorem s_114_12 {d : Nat} {Q : wQ} {L : List (Option Value)} {st : List Value} {w : aw} {cn sn : Nat} {a b : Int32} : wp d 114 Q 12 L (.int b :: .int a :: st) w cn sn = wp d 114 Q 13 L (.int (a - b) :: st) w cn sn := wp_row d_114_12 _ _ _ _ _
theorem d_114_13 : decode (mB 114) 13 = .ok (.iastore, 1) := by decide +kernel
theorem s_114_13 {d : Nat} {Q : wQ} {L : List (Option Value)} {st : List Value} {w : aw} {cn sn : Nat} {a : Nat} {i x : Int32} : wp d 114 Q 13 L (.int x :: .int i :: .ref a :: st) w cn sn = (kd w a = 20 ∧ inR i (ln w a) ∧ wp d 114 Q 14 L st (uA w a i.toNatClampNeg x) cn sn) := wp_row d_114_13 _ _ _ _ _
theorem d_114_14 : decode (mB 114) 14 = .ok (.iconst 0, 1) := by decide +kernel
theorem s_114_14 {d : Nat} {Q : wQ} {L : List (Option Value)} {st : List Value} {w : aw} {cn sn : Nat}  : wp d 114 Q 14 L st w cn sn = wp d 114 Q 15 L (.int 0 :: st) w cn sn := w_iconst d_114_14 (by decide)
theorem d_114_15 : decode (mB 114) 15 = .ok (.istore 4, 2) := by decide +kernel
theorem s_114_15 {d : Nat} {Q : wQ} {L : List (Option Value)} {st : List Value} {w : aw} {cn sn : Nat} {a0 a1 a2 a3 a4 : Option Value} {v : Int32} : wp d 114 Q 15 (a0 :: a1 :: a2 :: a3 :: a4 :: L) (.int v :: st) w cn sn = wp d 114 Q 17 (a0 :: a1 :: a2 :: clr a3 :: some (.int v) :: L) st w cn sn := w_istore d_114_15 (Nat.le_add_left 5 _) rfl
theorem d_114_17 : decode (mB 114) 17 = .ok (.iload 4, 2) := by decide +kernel
theorem s_114_17 {d : Nat} {Q : wQ} {L : List (Option Value)} {st : List Value} {w : aw} {cn sn : Nat} {a0 a1 a2 a3 : Option Value} {v : Int32} : wp d 114 Q 17 (a0 :: a1 :: a2 :: a3 :: some (.int v) :: L) st w cn sn = wp d 114 Q 19 (a0 :: a1 :: a2 :: a3 :: some (.int v) :: L) (.int v :: st) w cn sn := w_iload d_114_17 rfl
theorem d_114_19 : decode (mB 114) 19 = .ok (.aload_n 1, 1) := by decide +kernel
theorem s_114_19 {d : Nat} {Q : wQ} {L : List (Option Value)} {st : List Value} {w : aw} {cn sn : Nat} {a0 : Option Value} {v : Nat} : wp d 114 Q 19 (a0 :: some (.ref v) :: L) st w cn sn = wp d 114 Q 20 (a0 :: some (.ref v) :: L) (.ref v :: st) w cn sn := w_aload_n d_114_19 rfl
theorem s_114_19n {d : Nat} {Q : wQ} {L : List (Option Value)} {st : List Value} {w : aw} {cn sn : Nat} {a0 : Option Value} : wp d 114 Q 19 (a0 :: some .null :: L) st w cn sn = wp d 114 Q 20 (a0 :: some .null :: L) (.null :: st) w cn sn := w_aload_nN d_114_19 rfl
theorem d_114_20 : decode (mB 114) 20 = .ok (.iload_n 2, 1) := by decide +kernel
theorem s_114_20 {d : Nat} {Q : wQ} {L : List (Option Value)} {st : List Value} {w : aw} {cn sn : Nat} {a0 a1 : Option Value} {v : Int32} : wp d 114 Q 20 (a0 :: a1 :: some (.int v) :: L) st w cn sn = wp d 114 Q 21 (a0 :: a1 :: some (.int v) :: L) (.int v :: st) w cn sn := w_iload_n d_114_20 rfl
theorem d_114_21 : decode (mB 114) 21 = .ok (.iaload, 1) := by decide +kernel
theorem s_114_21 {d : Nat} {Q : wQ} {L : List (Option Value)} {st : List Value} {w : aw} {cn sn : Nat} {a : Nat} {i : Int32} : wp d 114 Q 21 L (.int i :: .ref a :: st) w cn sn = ((kd w a = 20 ∨ kd w a = 30) ∧ inR i (ln w a) ∧ wp d 114 Q 22 L (.int (ai w a i.toNatClampNeg) :: st) w cn sn) := wp_row d_114_21 _ _ _ _ _
theorem d_114_22 : decode (mB 114) 22 = .ok (.if_icmp .ge 29, 3) := by decide +kernel
theorem s_114_22 {d : Nat} {Q : wQ} {L : List (Option Value)} {st : List Value} {w : aw} {cn sn : Nat} {a b : Int32} : wp d 114 Q 22 L (.int b :: .int a :: st) w cn sn = ((b ≤ a → wp d 114 Q 51 L st w cn sn) ∧ (¬ b ≤ a → wp d 114 Q 25 L st w cn sn)) := w_icge d_114_22 (by decide)
theorem d_114_25 : decode (mB 114) 25 = .ok (.aload_n 0, 1) := by decide +kernel
theorem s_114_25 {d : Nat} {Q : wQ} {L : List (Option Value)} {st : List Value} {w : aw} {cn sn : Nat} {v : Nat} : wp d 114 Q 25 (some (.ref v) :: L) st w cn sn = wp d 114 Q 26 (some (.ref v) :: L) (.ref v :: st) w cn sn := w_aload_n d_114_25 rfl
theorem s_114_25n {d : Nat} {Q : wQ} {L : List (Option Value)} {st : List Value} {w : aw} {cn sn : Nat}  : wp d 114 Q 25 (some .null :: L) st w cn sn = wp d 114 Q 26 (some .null :: L) (.null :: st) w cn sn := w_aload_nN d_114_25 rfl
theorem d_114_26 : decode (mB 114) 26 = .ok (.bipush 16, 2) := by decide +kernel
theorem s_114_26 {d : Nat} {Q : wQ} {L : List (Option Value)} {st : List Value} {w : aw} {cn sn : Nat}  : wp d 114 Q 26 L st w cn sn = wp d 114 Q 28 L (.int 16 :: st) w cn sn := w_bipush d_114_26 (by decide)
theorem d_114_28 : decode (mB 114) 28 = .ok (.iload_n 2, 1) := by decide +kernel
theorem s_114_28 {d : Nat} {Q : wQ} {L : List (Option Value)} {st : List Value} {w : aw} {cn sn : Nat} {a0 a1 : Option Value} {v : Int32} : wp d 114 Q 28 (a0 :: a1 :: some (.int v) :: L) st w cn sn = wp d 114 Q 29 (a0 :: a1 :: some (.int v) :: L) (.int v :: st) w cn sn := w_iload_n d_114_28 rfl
theorem d_114_29 : decode (mB 114) 29 = .ok (.imul, 1) := by decide +kernel
theorem s_114_29 {d : Nat} {Q : wQ} {L : List (Option Value)} {st : List Value} {w : aw} {cn sn : Nat} {a b : Int32} : wp d 114 Q 29 L (.int b :: .int a :: st) w cn sn = wp d 114 Q 30 L (.int (a * b) :: st) w cn sn := wp_row d_114_29 _ _ _ _ _
theorem d_114_30 : decode (mB 114) 30 = .ok (.iload 4, 2) := by decide +kernel
theorem s_114_30 {d : Nat} {Q : wQ} {L : List (Option Value)} {st : List Value} {w : aw} {cn sn : Nat} {a0 a1 a2 a3 : Option Value} {v : Int32} : wp d 114 Q 30 (a0 :: a1 :: a2 :: a3 :: some (.int v) :: L) st w cn sn = wp d 114 Q 32 (a0 :: a1 :: a2 :: a3 :: some (.int v) :: L) (.int v :: st) w cn sn := w_iload d_114_30 rfl
theorem d_114_32 : decode (mB 114) 32 = .ok (.iadd, 1) := by decide +kernel
theorem s_114_32 {d : Nat} {Q : wQ} {L : List (Option Value)} {st : List Value} {w : aw} {cn sn : Nat} {a b : Int32} : wp d 114 Q 32 L (.int b :: .int a :: st) w cn sn = wp d 114 Q 33 L (.int (a + b) :: st) w cn sn := wp_row d_114_32 _ _ _ _ _
theorem d_114_33 : decode (mB 114) 33 = .ok (.aload_n 0, 1) := by decide +kernel
theorem s_114_33 {d : Nat} {Q : wQ} {L : List (Option Value)} {st : List Value} {w : aw} {cn sn : Nat} {v : Nat} : wp d 114 Q 33 (some (.ref v) :: L) st w cn sn = wp d 114 Q 34 (some (.ref v) :: L) (.ref v :: st) w cn sn := w_aload_n d_114_33 rfl
theorem s_114_33n {d : Nat} {Q : wQ} {L : List (Option Value)} {st : List Value} {w : aw} {cn sn : Nat}  : wp d 114 Q 33 (some .null :: L) st w cn sn = wp d 114 Q 34 (some .null :: L) (.null :: st) w cn sn := w_aload_nN d_114_33 rfl
theorem d_114_34 : decode (mB 114) 34 = .ok (.bipush 16, 2) := by decide +kernel
theorem s_114_34 {d : Nat} {Q : wQ} {L : List (Option Value)} {st : List Value} {w : aw} {cn sn : Nat}  : wp d 114 Q 34 L st w cn sn = wp d 114 Q 36 L (.int 16 :: st) w cn sn := w_bipush d_114_34 (by decide)
theorem d_114_36 : decode (mB 114) 36 = .ok (.iload_n 2, 1) := by decide +kernel
theorem s_114_36 {d : Nat} {Q : wQ} {L : List (Option Value)} {st : List Value} {w : aw} {cn sn : Nat} {a0 a1 : Option Value} {v : Int32} : wp d 114 Q 36 (a0 :: a1 :: some (.int v) :: L) st w cn sn = wp d 114 Q 37 (a0 :: a1 :: some (.int v) :: L) (.int v :: st) w cn sn := w_iload_n d_114_36 rfl
theorem d_114_37 : decode (mB 114) 37 = .ok (.imul, 1) := by decide +kernel
theorem s_114_37 {d : Nat} {Q : wQ} {L : List (Option Value)} {st : List Value} {w : aw} {cn sn : Nat} {a b : Int32} : wp d 114 Q 37 L (.int b :: .int a :: st) w cn sn = wp d 114 Q 38 L (.int (a * b) :: st) w cn sn := wp_row d_114_37 _ _ _ _ _
theorem d_114_38 : decode (mB 114) 38 = .ok (.iload 4, 2) := by decide +kernel
theorem s_114_38 {d : Nat} {Q : wQ} {L : List (Option Value)} {st : List Value} {w : aw} {cn sn : Nat} {a0 a1 a2 a3 : Option Value} {v : Int32} : wp d 114 Q 38 (a0 :: a1 :: a2 :: a3 :: some (.int v) :: L) st w cn sn = wp d 114 Q 40 (a0 :: a1 :: a2 :: a3 :: some (.int v) :: L) (.int v :: st) w cn sn := w_iload d_114_38 rfl
theorem d_114_40 : decode (mB 114) 40 = .ok (.iadd, 1) := by decide +kernel
theorem s_114_40 {d : Nat} {Q : wQ} {L : List (Option Value)} {st : List Value} {w : aw} {cn sn : Nat} {a b : Int32} : wp d 114 Q 40 L (.int b :: .int a :: st) w cn sn = wp d 114 Q 41 L (.int (a + b) :: st) w cn sn := wp_row d_114_40 _ _ _ _ _
theorem d_114_41 : decode (mB 114) 41 = .ok (.iconst 1, 1) := by decide +kernel
theorem s_114_41 {d : Nat} {Q : wQ} {L : List (Option Value)} {st : List Value} {w : aw} {cn sn : Nat}  : wp d 114 Q 41 L st w cn sn = wp d 114 Q 42 L (.int 1 :: st) w cn sn := w_iconst d_114_41 (by decide)
theorem d_114_42 : decode (mB 114) 42 = .ok (.iadd, 1) := by decide +kernel
theorem s_114_42 {d : Nat} {Q : wQ} {L : List (Option Value)} {st : List Value} {w : aw} {cn sn : Nat} {a b : Int32} : wp d 114 Q 42 L (.int b :: .int a :: st) w cn sn = wp d 114 Q 43 L (.int (a + b) :: st) w cn sn := wp_row d_114_42 _ _ _ _ _
theorem d_114_43 : decode (mB 114) 43 = .ok (.iaload, 1) := by decide +kernel
theorem s_114_43 {d : Nat} {Q : wQ} {L : List (Option Value)} {st : List Value} {w : aw} {cn sn : Nat} {a : Nat} {i : Int32} : wp d 114 Q 43 L (.int i :: .ref a :: st) w cn sn = ((kd w a = 20 ∨ kd w a = 30) ∧ inR i (ln w a) ∧ wp d 114 Q 44 L (.int (ai w a i.toNatClampNeg) :: st) w cn sn) := wp_row d_114_43 _ _ _ _ _
theorem d_114_44 : decode (mB 114) 44 = .ok (.iastore, 1) := by decide +kernel
theorem s_114_44 {d : Nat} {Q : wQ} {L : List (Option Value)} {st : List Value} {w : aw} {cn sn : Nat} {a : Nat} {i x : Int32} : wp d 114 Q 44 L (.int x :: .int i :: .ref a :: st) w cn sn = (kd w a = 20 ∧ inR i (ln w a) ∧ wp d 114 Q 45 L st (uA w a i.toNatClampNeg x) cn sn) := wp_row d_114_44 _ _ _ _ _
theorem d_114_45 : decode (mB 114) 45 = .ok (.iinc 4 1, 3) := by decide +kernel
theorem s_114_45 {d : Nat} {Q : wQ} {L : List (Option Value)} {st : List Value} {w : aw} {cn sn : Nat} {a0 a1 a2 a3 : Option Value} {v : Int32} : wp d 114 Q 45 (a0 :: a1 :: a2 :: a3 :: some (.int v) :: L) st w cn sn = wp d 114 Q 48 (a0 :: a1 :: a2 :: clr a3 :: some (.int (v + 1)) :: L) st w cn sn := w_iinc d_114_45 rfl (by decide) rfl
theorem d_114_48 : decode (mB 114) 48 = .ok (.goto (-31), 3) := by decide +kernel
theorem s_114_48 {d : Nat} {Q : wQ} {L : List (Option Value)} {st : List Value} {w : aw} {cn sn : Nat}  : wp d 114 Q 48 L st w cn sn = wp d 114 Q 17 L st w cn sn := w_goto d_114_48 (by decide)
theorem d_114_51 : decode (mB 114) 51 = .ok (.iload_n 3, 1) := by decide +kernel
theorem s_114_51 {d : Nat} {Q : wQ} {L : List (Option Value)} {st : List Value} {w : aw} {cn sn : Nat} {a0 a1 a2 : Option Value} {v : Int32} : wp d 114 Q 51 (a0 :: a1 :: a2 :: some (.int v) :: L) st w cn sn = wp d 114 Q 52 (a0 :: a1 :: a2 :: some (.int v) :: L) (.int v :: st) w cn sn := w_iload_n d_114_51 rfl
theorem d_114_52 : decode (mB 114) 52 = .ok (.ireturn, 1) := by decide +kernel
theorem s_114_52 {d : Nat} {Q : wQ} {L : List (Option Value)} {w : aw} {cn sn : Nat} {v : Int32} : wp d 114 Q 52 L [.int v] w cn sn = Q (some (.int v)) w := w_ireturn d_114_52 rfl
theorem d_115_0 : decode (mB 115) 0 = .ok (.aload_n 0, 1) := by decide +kernel
theorem s_115_0 {d : Nat} {Q : wQ} {L : List (Option Value)} {st : List Value} {w : aw} {cn sn : Nat} {v : Nat} : wp d 115 Q 0 (some (.ref v) :: L) st w cn sn = wp d 115 Q 1 (some (.ref v) :: L) (.ref v :: st) w cn sn := w_aload_n d_115_0 rfl
theorem d_115_1 : decode (mB 115) 1 = .ok (.iload_n 1, 1) := by decide +kernel
theorem s_115_1 {d : Nat} {Q : wQ} {L : List (Option Value)} {st : List Value} {w : aw} {cn sn : Nat} {a0 : Option Value} {v : Int32} : wp d 115 Q 1 (a0 :: some (.int v) :: L) st w cn sn = wp d 115 Q 2 (a0 :: some (.int v) :: L) (.int v :: st) w cn sn := w_iload_n d_115_1 rfl
theorem d_115_2 : decode (mB 115) 2 = .ok (.aload_n 0, 1) := by decide +kernel
theorem s_115_2 {d : Nat} {Q : wQ} {L : List (Option Value)} {st : List Value} {w : aw} {cn sn : Nat} {v : Nat} : wp d 115 Q 2 (some (.ref v) :: L) st w cn sn = wp d 115 Q 3 (some (.ref v) :: L) (.ref v :: st) w cn sn := w_aload_n d_115_2 rfl
theorem d_115_3 : decode (mB 115) 3 = .ok (.getfield 33, 3) := by decide +kernel
theorem s_115_3 {d : Nat} {Q : wQ} {L : List (Option Value)} {st : List Value} {w : aw} {cn sn : Nat} {a : Nat} : wp d 115 Q 3 L (.ref a :: st) w cn sn = (kd w a = 9 ∧ wp d 115 Q 6 L (fd w 529 a :: st) w cn sn) := w_getfield d_115_3 (by decide +kernel : fT (mO 115) 33 = some (8, 17))
theorem d_115_6 : decode (mB 115) 6 = .ok (.iload_n 1, 1) := by decide +kernel
theorem s_115_6 {d : Nat} {Q : wQ} {L : List (Option Value)} {st : List Value} {w : aw} {cn sn : Nat} {a0 : Option Value} {v : Int32} : wp d 115 Q 6 (a0 :: some (.int v) :: L) st w cn sn = wp d 115 Q 7 (a0 :: some (.int v) :: L) (.int v :: st) w cn sn := w_iload_n d_115_6 rfl
theorem d_115_7 : decode (mB 115) 7 = .ok (.iaload, 1) := by decide +kernel
theorem s_115_7 {d : Nat} {Q : wQ} {L : List (Option Value)} {st : List Value} {w : aw} {cn sn : Nat} {a : Nat} {i : Int32} : wp d 115 Q 7 L (.int i :: .ref a :: st) w cn sn = ((kd w a = 20 ∨ kd w a = 30) ∧ inR i (ln w a) ∧ wp d 115 Q 8 L (.int (ai w a i.toNatClampNeg) :: st) w cn sn) := wp_row d_115_7 _ _ _ _ _
theorem d_115_8 : decode (mB 115) 8 = .ok (.invokevirtual 115, 3) := by decide +kernel
theorem s_115_8 {d : Nat} {Q : wQ} {L : List (Option Value)} {st : List Value} {w : aw} {cn sn : Nat} {v0 v1 : Value} {b : Nat} : wp d 115 Q 8 L (v1 :: v0 :: .ref b :: st) w cn sn = (kd w b = 9 ∧ catS st ≤ 8 ∧ wpD d 105 [.ref b, v0, v1] w (fun v w' => wp d 115 Q 11 L (v.toList ++ st) w' cn sn)) := w_virtual (As := [v0, v1]) d_115_8 (by decide +kernel : cT (mO 115) 115 = some (0, 105)) rfl (by decide +kernel) rfl (by decide +kernel) rfl
theorem d_115_11 : decode (mB 115) 11 = .ok (.istore_n 3, 1) := by decide +kernel
theorem s_115_11 {d : Nat} {Q : wQ} {L : List (Option Value)} {st : List Value} {w : aw} {cn sn : Nat} {a0 a1 a2 a3 : Option Value} {v : Int32} : wp d 115 Q 11 (a0 :: a1 :: a2 :: a3 :: L) (.int v :: st) w cn sn = wp d 115 Q 12 (a0 :: a1 :: clr a2 :: some (.int v) :: L) st w cn sn := w_istore_n d_115_11 (Nat.le_add_left 4 _) rfl
theorem d_115_12 : decode (mB 115) 12 = .ok (.aload_n 0, 1) := by decide +kernel
theorem s_115_12 {d : Nat} {Q : wQ} {L : List (Option Value)} {st : List Value} {w : aw} {cn sn : Nat} {v : Nat} : wp d 115 Q 12 (some (.ref v) :: L) st w cn sn = wp d 115 Q 13 (some (.ref v) :: L) (.ref v :: st) w cn sn := w_aload_n d_115_12 rfl
theorem d_115_13 : decode (mB 115) 13 = .ok (.getfield 33, 3) := by decide +kernel
theorem s_115_13 {d : Nat} {Q : wQ} {L : List (Option Value)} {st : List Value} {w : aw} {cn sn : Nat} {a : Nat} : wp d 115 Q 13 L (.ref a :: st) w cn sn = (kd w a = 9 ∧ wp d 115 Q 16 L (fd w 529 a :: st) w cn sn) := w_getfield d_115_13 (by decide +kernel : fT (mO 115) 33 = some (8, 17))
theorem d_115_16 : decode (mB 115) 16 = .ok (.iload_n 1, 1) := by decide +kernel
theorem s_115_16 {d : Nat} {Q : wQ} {L : List (Option Value)} {st : List Value} {w : aw} {cn sn : Nat} {a0 : Option Value} {v : Int32} : wp d 115 Q 16 (a0 :: some (.int v) :: L) st w cn sn = wp d 115 Q 17 (a0 :: some (.int v) :: L) (.int v :: st) w cn sn := w_iload_n d_115_16 rfl
theorem d_115_17 : decode (mB 115) 17 = .ok (.aload_n 0, 1) := by decide +kernel
theorem s_115_17 {d : Nat} {Q : wQ} {L : List (Option Value)} {st : List Value} {w : aw} {cn sn : Nat} {v : Nat} : wp d 115 Q 17 (some (.ref v) :: L) st w cn sn = wp d 115 Q 18 (some (.ref v) :: L) (.ref v :: st) w cn sn := w_aload_n d_115_17 rfl
theorem d_115_18 : decode (mB 115) 18 = .ok (.getfield 33, 3) := by decide +kernel
theorem s_115_18 {d : Nat} {Q : wQ} {L : List (Option Value)} {st : List Value} {w : aw} {cn sn : Nat} {a : Nat} : wp d 115 Q 18 L (.ref a :: st) w cn sn = (kd w a = 9 ∧ wp d 115 Q 21 L (fd w 529 a :: st) w cn sn) := w_getfield d_115_18 (by decide +kernel : fT (mO 115) 33 = some (8, 17))
theorem d_115_21 : decode (mB 115) 21 = .ok (.iload_n 1, 1) := by decide +kernel
theorem s_115_21 {d : Nat} {Q : wQ} {L : List (Option Value)} {st : List Value} {w : aw} {cn sn : Nat} {a0 : Option Value} {v : Int32} : wp d 115 Q 21 (a0 :: some (.int v) :: L) st w cn sn = wp d 115 Q 22 (a0 :: some (.int v) :: L) (.int v :: st) w cn sn := w_iload_n d_115_21 rfl
theorem d_115_22 : decode (mB 115) 22 = .ok (.iaload, 1) := by decide +kernel
theorem s_115_22 {d : Nat} {Q : wQ} {L : List (Option Value)} {st : List Value} {w : aw} {cn sn : Nat} {a : Nat} {i : Int32} : wp d 115 Q 22 L (.int i :: .ref a :: st) w cn sn = ((kd w a = 20 ∨ kd w a = 30) ∧ inR i (ln w a) ∧ wp d 115 Q 23 L (.int (ai w a i.toNatClampNeg) :: st) w cn sn) := wp_row d_115_22 _ _ _ _ _
theorem d_115_23 : decode (mB 115) 23 = .ok (.iconst 1, 1) := by decide +kernel
theorem s_115_23 {d : Nat} {Q : wQ} {L : List (Option Value)} {st : List Value} {w : aw} {cn sn : Nat}  : wp d 115 Q 23 L st w cn sn = wp d 115 Q 24 L (.int 1 :: st) w cn sn := w_iconst d_115_23 (by decide)
theorem d_115_24 : decode (mB 115) 24 = .ok (.iadd, 1) := by decide +kernel
theorem s_115_24 {d : Nat} {Q : wQ} {L : List (Option Value)} {st : List Value} {w : aw} {cn sn : Nat} {a b : Int32} : wp d 115 Q 24 L (.int b :: .int a :: st) w cn sn = wp d 115 Q 25 L (.int (a + b) :: st) w cn sn := wp_row d_115_24 _ _ _ _ _
theorem d_115_25 : decode (mB 115) 25 = .ok (.sipush 4095, 3) := by decide +kernel
theorem s_115_25 {d : Nat} {Q : wQ} {L : List (Option Value)} {st : List Value} {w : aw} {cn sn : Nat}  : wp d 115 Q 25 L st w cn sn = wp d 115 Q 28 L (.int 4095 :: st) w cn sn := w_sipush d_115_25 (by decide)
theorem d_115_28 : decode (mB 115) 28 = .ok (.iand, 1) := by decide +kernel
theorem s_115_28 {d : Nat} {Q : wQ} {L : List (Option Value)} {st : List Value} {w : aw} {cn sn : Nat} {a b : Int32} : wp d 115 Q 28 L (.int b :: .int a :: st) w cn sn = wp d 115 Q 29 L (.int (a &&& b) :: st) w cn sn := wp_row d_115_28 _ _ _ _ _
theorem d_115_29 : decode (mB 115) 29 = .ok (.iastore, 1) := by decide +kernel
theorem s_115_29 {d : Nat} {Q : wQ} {L : List (Option Value)} {st : List Value} {w : aw} {cn sn : Nat} {a : Nat} {i x : Int32} : wp d 115 Q 29 L (.int x :: .int i :: .ref a :: st) w cn sn = (kd w a = 20 ∧ inR i (ln w a) ∧ wp d 115 Q 30 L st (uA w a i.toNatClampNeg x) cn sn) := wp_row d_115_29 _ _ _ _ _
theorem d_115_30 : decode (mB 115) 30 = .ok (.aload_n 0, 1) := by decide +kernel
theorem s_115_30 {d : Nat} {Q : wQ} {L : List (Option Value)} {st : List Value} {w : aw} {cn sn : Nat} {v : Nat} : wp d 115 Q 30 (some (.ref v) :: L) st w cn sn = wp d 115 Q 31 (some (.ref v) :: L) (.ref v :: st) w cn sn := w_aload_n d_115_30 rfl
theorem d_115_31 : decode (mB 115) 31 = .ok (.getfield 30, 3) := by decide +kernel
theorem s_115_31 {d : Nat} {Q : wQ} {L : List (Option Value)} {st : List Value} {w : aw} {cn sn : Nat} {a : Nat} : wp d 115 Q 31 L (.ref a :: st) w cn sn = (kd w a = 9 ∧ wp d 115 Q 34 L (fd w 528 a :: st) w cn sn) := w_getfield d_115_31 (by decide +kernel : fT (mO 115) 30 = some (8, 16))
theorem d_115_34 : decode (mB 115) 34 = .ok (.iload_n 1, 1) := by decide +kernel
theorem s_115_34 {d : Nat} {Q : wQ} {L : List (Option Value)} {st : List Value} {w : aw} {cn sn : Nat} {a0 : Option Value} {v : Int32} : wp d 115 Q 34 (a0 :: some (.int v) :: L) st w cn sn = wp d 115 Q 35 (a0 :: some (.int v) :: L) (.int v :: st) w cn sn := w_iload_n d_115_34 rfl
theorem d_115_35 : decode (mB 115) 35 = .ok (.iaload, 1) := by decide +kernel
theorem s_115_35 {d : Nat} {Q : wQ} {L : List (Option Value)} {st : List Value} {w : aw} {cn sn : Nat} {a : Nat} {i : Int32} : wp d 115 Q 35 L (.int i :: .ref a :: st) w cn sn = ((kd w a = 20 ∨ kd w a = 30) ∧ inR i (ln w a) ∧ wp d 115 Q 36 L (.int (ai w a i.toNatClampNeg) :: st) w cn sn) := wp_row d_115_35 _ _ _ _ _
theorem d_115_36 : decode (mB 115) 36 = .ok (.bipush 32, 2) := by decide +kernel
theorem s_115_36 {d : Nat} {Q : wQ} {L : List (Option Value)} {st : List Value} {w : aw} {cn sn : Nat}  : wp d 115 Q 36 L st w cn sn = wp d 115 Q 38 L (.int 32 :: st) w cn sn := w_bipush d_115_36 (by decide)
theorem d_115_38 : decode (mB 115) 38 = .ok (.if_icmp .lt 13, 3) := by decide +kernel
theorem s_115_38 {d : Nat} {Q : wQ} {L : List (Option Value)} {st : List Value} {w : aw} {cn sn : Nat} {a b : Int32} : wp d 115 Q 38 L (.int b :: .int a :: st) w cn sn = ((a < b → wp d 115 Q 51 L st w cn sn) ∧ (¬ a < b → wp d 115 Q 41 L st w cn sn)) := w_iclt d_115_38 (by decide)
theorem d_115_41 : decode (mB 115) 41 = .ok (.aload_n 0, 1) := by decide +kernel
theorem s_115_41 {d : Nat} {Q : wQ} {L : List (Option Value)} {st : List Value} {w : aw} {cn sn : Nat} {v : Nat} : wp d 115 Q 41 (some (.ref v) :: L) st w cn sn = wp d 115 Q 42 (some (.ref v) :: L) (.ref v :: st) w cn sn := w_aload_n d_115_41 rfl
theorem d_115_42 : decode (mB 115) 42 = .ok (.getfield 30, 3) := by decide +kernel
theorem s_115_42 {d : Nat} {Q : wQ} {L : List (Option Value)} {st : List Value} {w : aw} {cn sn : Nat} {a : Nat} : wp d 115 Q 42 L (.ref a :: st) w cn sn = (kd w a = 9 ∧ wp d 115 Q 45 L (fd w 528 a :: st) w cn sn) := w_getfield d_115_42 (by decide +kernel : fT (mO 115) 30 = some (8, 16))
theorem d_115_45 : decode (mB 115) 45 = .ok (.iload_n 1, 1) := by decide +kernel
theorem s_115_45 {d : Nat} {Q : wQ} {L : List (Option Value)} {st : List Value} {w : aw} {cn sn : Nat} {a0 : Option Value} {v : Int32} : wp d 115 Q 45 (a0 :: some (.int v) :: L) st w cn sn = wp d 115 Q 46 (a0 :: some (.int v) :: L) (.int v :: st) w cn sn := w_iload_n d_115_45 rfl
theorem d_115_46 : decode (mB 115) 46 = .ok (.sipush 4095, 3) := by decide +kernel
theorem s_115_46 {d : Nat} {Q : wQ} {L : List (Option Value)} {st : List Value} {w : aw} {cn sn : Nat}  : wp d 115 Q 46 L st w cn sn = wp d 115 Q 49 L (.int 4095 :: st) w cn sn := w_sipush d_115_46 (by decide)
theorem d_115_49 : decode (mB 115) 49 = .ok (.iastore, 1) := by decide +kernel
theorem s_115_49 {d : Nat} {Q : wQ} {L : List (Option Value)} {st : List Value} {w : aw} {cn sn : Nat} {a : Nat} {i x : Int32} : wp d 115 Q 49 L (.int x :: .int i :: .ref a :: st) w cn sn = (kd w a = 20 ∧ inR i (ln w a) ∧ wp d 115 Q 50 L st (uA w a i.toNatClampNeg x) cn sn) := wp_row d_115_49 _ _ _ _ _
theorem d_115_50 : decode (mB 115) 50 = .ok (.return_, 1) := by decide +kernel
theorem s_115_50 {d : Nat} {Q : wQ} {L : List (Option Value)} {w : aw} {cn sn : Nat}  : wp d 115 Q 50 L [] w cn sn = Q none w := w_return d_115_50 rfl
theorem d_115_51 : decode (mB 115) 51 = .ok (.sipush 4096, 3) := by decide +kernel
theorem s_115_51 {d : Nat} {Q : wQ} {L : List (Option Value)} {st : List Value} {w : aw} {cn sn : Nat}  : wp d 115 Q 51 L st w cn sn = wp d 115 Q 54 L (.int 4096 :: st) w cn sn := w_sipush d_115_51 (by decide)
theorem d_115_54 : decode (mB 115) 54 = .ok (.iload_n 1, 1) := by decide +kernel
theorem s_115_54 {d : Nat} {Q : wQ} {L : List (Option Value)} {st : List Value} {w : aw} {cn sn : Nat} {a0 : Option Value} {v : Int32} : wp d 115 Q 54 (a0 :: some (.int v) :: L) st w cn sn = wp d 115 Q 55 (a0 :: some (.int v) :: L) (.int v :: st) w cn sn := w_iload_n d_115_54 rfl
theorem d_115_55 : decode (mB 115) 55 = .ok (.imul, 1) := by decide +kernel
theorem s_115_55 {d : Nat} {Q : wQ} {L : List (Option Value)} {st : List Value} {w : aw} {cn sn : Nat} {a b : Int32} : wp d 115 Q 55 L (.int b :: .int a :: st) w cn sn = wp d 115 Q 56 L (.int (a * b) :: st) w cn sn := wp_row d_115_55 _ _ _ _ _
theorem d_115_56 : decode (mB 115) 56 = .ok (.sipush 128, 3) := by decide +kernel
theorem s_115_56 {d : Nat} {Q : wQ} {L : List (Option Value)} {st : List Value} {w : aw} {cn sn : Nat}  : wp d 115 Q 56 L st w cn sn = wp d 115 Q 59 L (.int 128 :: st) w cn sn := w_sipush d_115_56 (by decide)
theorem d_115_59 : decode (mB 115) 59 = .ok (.aload_n 0, 1) := by decide +kernel
theorem s_115_59 {d : Nat} {Q : wQ} {L : List (Option Value)} {st : List Value} {w : aw} {cn sn : Nat} {v : Nat} : wp d 115 Q 59 (some (.ref v) :: L) st w cn sn = wp d 115 Q 60 (some (.ref v) :: L) (.ref v :: st) w cn sn := w_aload_n d_115_59 rfl
theorem d_115_60 : decode (mB 115) 60 = .ok (.getfield 30, 3) := by decide +kernel
theorem s_115_60 {d : Nat} {Q : wQ} {L : List (Option Value)} {st : List Value} {w : aw} {cn sn : Nat} {a : Nat} : wp d 115 Q 60 L (.ref a :: st) w cn sn = (kd w a = 9 ∧ wp d 115 Q 63 L (fd w 528 a :: st) w cn sn) := w_getfield d_115_60 (by decide +kernel : fT (mO 115) 30 = some (8, 16))
theorem d_115_63 : decode (mB 115) 63 = .ok (.iload_n 1, 1) := by decide +kernel
theorem s_115_63 {d : Nat} {Q : wQ} {L : List (Option Value)} {st : List Value} {w : aw} {cn sn : Nat} {a0 : Option Value} {v : Int32} : wp d 115 Q 63 (a0 :: some (.int v) :: L) st w cn sn = wp d 115 Q 64 (a0 :: some (.int v) :: L) (.int v :: st) w cn sn := w_iload_n d_115_63 rfl
theorem d_115_64 : decode (mB 115) 64 = .ok (.iaload, 1) := by decide +kernel
theorem s_115_64 {d : Nat} {Q : wQ} {L : List (Option Value)} {st : List Value} {w : aw} {cn sn : Nat} {a : Nat} {i : Int32} : wp d 115 Q 64 L (.int i :: .ref a :: st) w cn sn = ((kd w a = 20 ∨ kd w a = 30) ∧ inR i (ln w a) ∧ wp d 115 Q 65 L (.int (ai w a i.toNatClampNeg) :: st) w cn sn) := wp_row d_115_64 _ _ _ _ _
theorem d_115_65 : decode (mB 115) 65 = .ok (.imul, 1) := by decide +kernel
theorem s_115_65 {d : Nat} {Q : wQ} {L : List (Option Value)} {st : List Value} {w : aw} {cn sn : Nat} {a b : Int32} : wp d 115 Q 65 L (.int b :: .int a :: st) w cn sn = wp d 115 Q 66 L (.int (a * b) :: st) w cn sn := wp_row d_115_65 _ _ _ _ _
theorem d_115_66 : decode (mB 115) 66 = .ok (.iadd, 1) := by decide +kernel
theorem s_115_66 {d : Nat} {Q : wQ} {L : List (Option Value)} {st : List Value} {w : aw} {cn sn : Nat} {a b : Int32} : wp d 115 Q 66 L (.int b :: .int a :: st) w cn sn = wp d 115 Q 67 L (.int (a + b) :: st) w cn sn := wp_row d_115_66 _ _ _ _ _
theorem d_115_67 : decode (mB 115) 67 = .ok (.istore 4, 2) := by decide +kernel
theorem s_115_67 {d : Nat} {Q : wQ} {L : List (Option Value)} {st : List Value} {w : aw} {cn sn : Nat} {a0 a1 a2 a3 a4 : Option Value} {v : Int32} : wp d 115 Q 67 (a0 :: a1 :: a2 :: a3 :: a4 :: L) (.int v :: st) w cn sn = wp d 115 Q 69 (a0 :: a1 :: a2 :: clr a3 :: some (.int v) :: L) st w cn sn := w_istore d_115_67 (Nat.le_add_left 5 _) rfl
theorem d_115_69 : decode (mB 115) 69 = .ok (.iconst 0, 1) := by decide +kernel
theorem s_115_69 {d : Nat} {Q : wQ} {L : List (Option Value)} {st : List Value} {w : aw} {cn sn : Nat}  : wp d 115 Q 69 L st w cn sn = wp d 115 Q 70 L (.int 0 :: st) w cn sn := w_iconst d_115_69 (by decide)
theorem d_115_70 : decode (mB 115) 70 = .ok (.istore 5, 2) := by decide +kernel
theorem s_115_70 {d : Nat} {Q : wQ} {L : List (Option Value)} {st : List Value} {w : aw} {cn sn : Nat} {a0 a1 a2 a3 a4 a5 : Option Value} {v : Int32} : wp d 115 Q 70 (a0 :: a1 :: a2 :: a3 :: a4 :: a5 :: L) (.int v :: st) w cn sn = wp d 115 Q 72 (a0 :: a1 :: a2 :: a3 :: clr a4 :: some (.int v) :: L) st w cn sn := w_istore d_115_70 (Nat.le_add_left 6 _) rfl
theorem d_115_72 : decode (mB 115) 72 = .ok (.iload 5, 2) := by decide +kernel
theorem s_115_72 {d : Nat} {Q : wQ} {L : List (Option Value)} {st : List Value} {w : aw} {cn sn : Nat} {a0 a1 a2 a3 a4 : Option Value} {v : Int32} : wp d 115 Q 72 (a0 :: a1 :: a2 :: a3 :: a4 :: some (.int v) :: L) st w cn sn = wp d 115 Q 74 (a0 :: a1 :: a2 :: a3 :: a4 :: some (.int v) :: L) (.int v :: st) w cn sn := w_iload d_115_72 rfl
theorem d_115_74 : decode (mB 115) 74 = .ok (.sipush 128, 3) := by decide +kernel
theorem s_115_74 {d : Nat} {Q : wQ} {L : List (Option Value)} {st : List Value} {w : aw} {cn sn : Nat}  : wp d 115 Q 74 L st w cn sn = wp d 115 Q 77 L (.int 128 :: st) w cn sn := w_sipush d_115_74 (by decide)
theorem d_115_77 : decode (mB 115) 77 = .ok (.if_icmp .ge 62, 3) := by decide +kernel
theorem s_115_77 {d : Nat} {Q : wQ} {L : List (Option Value)} {st : List Value} {w : aw} {cn sn : Nat} {a b : Int32} : wp d 115 Q 77 L (.int b :: .int a :: st) w cn sn = ((b ≤ a → wp d 115 Q 139 L st w cn sn) ∧ (¬ b ≤ a → wp d 115 Q 80 L st w cn sn)) := w_icge d_115_77 (by decide)
theorem d_115_80 : decode (mB 115) 80 = .ok (.iload_n 2, 1) := by decide +kernel
theorem s_115_80 {d : Nat} {Q : wQ} {L : List (Option Value)} {st : List Value} {w : aw} {cn sn : Nat} {a0 a1 : Option Value} {v : Int32} : wp d 115 Q 80 (a0 :: a1 :: some (.int v) :: L) st w cn sn = wp d 115 Q 81 (a0 :: a1 :: some (.int v) :: L) (.int v :: st) w cn sn := w_iload_n d_115_80 rfl
theorem d_115_81 : decode (mB 115) 81 = .ok (.ifCond .eq 29, 3) := by decide +kernel
theorem s_115_81 {d : Nat} {Q : wQ} {L : List (Option Value)} {st : List Value} {w : aw} {cn sn : Nat} {x : Int32} : wp d 115 Q 81 L (.int x :: st) w cn sn = ((x = 0 → wp d 115 Q 110 L st w cn sn) ∧ (¬ x = 0 → wp d 115 Q 84 L st w cn sn)) := w_ifeq d_115_81 (by decide)
theorem d_115_84 : decode (mB 115) 84 = .ok (.aload_n 0, 1) := by decide +kernel
theorem s_115_84 {d : Nat} {Q : wQ} {L : List (Option Value)} {st : List Value} {w : aw} {cn sn : Nat} {v : Nat} : wp d 115 Q 84 (some (.ref v) :: L) st w cn sn = wp d 115 Q 85 (some (.ref v) :: L) (.ref v :: st) w cn sn := w_aload_n d_115_84 rfl
theorem d_115_85 : decode (mB 115) 85 = .ok (.iload_n 1, 1) := by decide +kernel
theorem s_115_85 {d : Nat} {Q : wQ} {L : List (Option Value)} {st : List Value} {w : aw} {cn sn : Nat} {a0 : Option Value} {v : Int32} : wp d 115 Q 85 (a0 :: some (.int v) :: L) st w cn sn = wp d 115 Q 86 (a0 :: some (.int v) :: L) (.int v :: st) w cn sn := w_iload_n d_115_85 rfl
theorem d_115_86 : decode (mB 115) 86 = .ok (.iload_n 3, 1) := by decide +kernel
theorem s_115_86 {d : Nat} {Q : wQ} {L : List (Option Value)} {st : List Value} {w : aw} {cn sn : Nat} {a0 a1 a2 : Option Value} {v : Int32} : wp d 115 Q 86 (a0 :: a1 :: a2 :: some (.int v) :: L) st w cn sn = wp d 115 Q 87 (a0 :: a1 :: a2 :: some (.int v) :: L) (.int v :: st) w cn sn := w_iload_n d_115_86 rfl
theorem d_115_87 : decode (mB 115) 87 = .ok (.iload 5, 2) := by decide +kernel
theorem s_115_87 {d : Nat} {Q : wQ} {L : List (Option Value)} {st : List Value} {w : aw} {cn sn : Nat} {a0 a1 a2 a3 a4 : Option Value} {v : Int32} : wp d 115 Q 87 (a0 :: a1 :: a2 :: a3 :: a4 :: some (.int v) :: L) st w cn sn = wp d 115 Q 89 (a0 :: a1 :: a2 :: a3 :: a4 :: some (.int v) :: L) (.int v :: st) w cn sn := w_iload d_115_87 rfl
theorem d_115_89 : decode (mB 115) 89 = .ok (.iadd, 1) := by decide +kernel
theorem s_115_89 {d : Nat} {Q : wQ} {L : List (Option Value)} {st : List Value} {w : aw} {cn sn : Nat} {a b : Int32} : wp d 115 Q 89 L (.int b :: .int a :: st) w cn sn = wp d 115 Q 90 L (.int (a + b) :: st) w cn sn := wp_row d_115_89 _ _ _ _ _
theorem d_115_90 : decode (mB 115) 90 = .ok (.sipush 4095, 3) := by decide +kernel
theorem s_115_90 {d : Nat} {Q : wQ} {L : List (Option Value)} {st : List Value} {w : aw} {cn sn : Nat}  : wp d 115 Q 90 L st w cn sn = wp d 115 Q 93 L (.int 4095 :: st) w cn sn := w_sipush d_115_90 (by decide)
theorem d_115_93 : decode (mB 115) 93 = .ok (.iand, 1) := by decide +kernel
theorem s_115_93 {d : Nat} {Q : wQ} {L : List (Option Value)} {st : List Value} {w : aw} {cn sn : Nat} {a b : Int32} : wp d 115 Q 93 L (.int b :: .int a :: st) w cn sn = wp d 115 Q 94 L (.int (a &&& b) :: st) w cn sn := wp_row d_115_93 _ _ _ _ _
theorem d_115_94 : decode (mB 115) 94 = .ok (.aload_n 0, 1) := by decide +kernel
theorem s_115_94 {d : Nat} {Q : wQ} {L : List (Option Value)} {st : List Value} {w : aw} {cn sn : Nat} {v : Nat} : wp d 115 Q 94 (some (.ref v) :: L) st w cn sn = wp d 115 Q 95 (some (.ref v) :: L) (.ref v :: st) w cn sn := w_aload_n d_115_94 rfl
theorem d_115_95 : decode (mB 115) 95 = .ok (.getfield 27, 3) := by decide +kernel
theorem s_115_95 {d : Nat} {Q : wQ} {L : List (Option Value)} {st : List Value} {w : aw} {cn sn : Nat} {a : Nat} : wp d 115 Q 95 L (.ref a :: st) w cn sn = (kd w a = 9 ∧ wp d 115 Q 98 L (fd w 527 a :: st) w cn sn) := w_getfield d_115_95 (by decide +kernel : fT (mO 115) 27 = some (8, 15))
theorem d_115_98 : decode (mB 115) 98 = .ok (.iload 4, 2) := by decide +kernel
theorem s_115_98 {d : Nat} {Q : wQ} {L : List (Option Value)} {st : List Value} {w : aw} {cn sn : Nat} {a0 a1 a2 a3 : Option Value} {v : Int32} : wp d 115 Q 98 (a0 :: a1 :: a2 :: a3 :: some (.int v) :: L) st w cn sn = wp d 115 Q 100 (a0 :: a1 :: a2 :: a3 :: some (.int v) :: L) (.int v :: st) w cn sn := w_iload d_115_98 rfl
theorem d_115_100 : decode (mB 115) 100 = .ok (.iload 5, 2) := by decide +kernel
theorem s_115_100 {d : Nat} {Q : wQ} {L : List (Option Value)} {st : List Value} {w : aw} {cn sn : Nat} {a0 a1 a2 a3 a4 : Option Value} {v : Int32} : wp d 115 Q 100 (a0 :: a1 :: a2 :: a3 :: a4 :: some (.int v) :: L) st w cn sn = wp d 115 Q 102 (a0 :: a1 :: a2 :: a3 :: a4 :: some (.int v) :: L) (.int v :: st) w cn sn := w_iload d_115_100 rfl
theorem d_115_102 : decode (mB 115) 102 = .ok (.iadd, 1) := by decide +kernel
theorem s_115_102 {d : Nat} {Q : wQ} {L : List (Option Value)} {st : List Value} {w : aw} {cn sn : Nat} {a b : Int32} : wp d 115 Q 102 L (.int b :: .int a :: st) w cn sn = wp d 115 Q 103 L (.int (a + b) :: st) w cn sn := wp_row d_115_102 _ _ _ _ _
theorem d_115_103 : decode (mB 115) 103 = .ok (.iaload, 1) := by decide +kernel
theorem s_115_103 {d : Nat} {Q : wQ} {L : List (Option Value)} {st : List Value} {w : aw} {cn sn : Nat} {a : Nat} {i : Int32} : wp d 115 Q 103 L (.int i :: .ref a :: st) w cn sn = ((kd w a = 20 ∨ kd w a = 30) ∧ inR i (ln w a) ∧ wp d 115 Q 104 L (.int (ai w a i.toNatClampNeg) :: st) w cn sn) := wp_row d_115_103 _ _ _ _ _
theorem d_115_104 : decode (mB 115) 104 = .ok (.invokevirtual 133, 3) := by decide +kernel
theorem s_115_104 {d : Nat} {Q : wQ} {L : List (Option Value)} {st : List Value} {w : aw} {cn sn : Nat} {v0 v1 v2 : Value} {b : Nat} : wp d 115 Q 104 L (v2 :: v1 :: v0 :: .ref b :: st) w cn sn = (kd w b = 9 ∧ catS st ≤ 8 ∧ wpD d 106 [.ref b, v0, v1, v2] w (fun v w' => wp d 115 Q 107 L (v.toList ++ st) w' cn sn)) := w_virtual (As := [v0, v1, v2]) d_115_104 (by decide +kernel : cT (mO 115) 133 = some (0, 106)) rfl (by decide +kernel) rfl (by decide +kernel) rfl
theorem d_115_107 : decode (mB 115) 107 = .ok (.goto 26, 3) := by decide +kernel
theorem s_115_107 {d : Nat} {Q : wQ} {L : List (Option Value)} {st : List Value} {w : aw} {cn sn : Nat}  : wp d 115 Q 107 L st w cn sn = wp d 115 Q 133 L st w cn sn := w_goto d_115_107 (by decide)
theorem d_115_110 : decode (mB 115) 110 = .ok (.aload_n 0, 1) := by decide +kernel
theorem s_115_110 {d : Nat} {Q : wQ} {L : List (Option Value)} {st : List Value} {w : aw} {cn sn : Nat} {v : Nat} : wp d 115 Q 110 (some (.ref v) :: L) st w cn sn = wp d 115 Q 111 (some (.ref v) :: L) (.ref v :: st) w cn sn := w_aload_n d_115_110 rfl
theorem d_115_111 : decode (mB 115) 111 = .ok (.getfield 27, 3) := by decide +kernel
theorem s_115_111 {d : Nat} {Q : wQ} {L : List (Option Value)} {st : List Value} {w : aw} {cn sn : Nat} {a : Nat} : wp d 115 Q 111 L (.ref a :: st) w cn sn = (kd w a = 9 ∧ wp d 115 Q 114 L (fd w 527 a :: st) w cn sn) := w_getfield d_115_111 (by decide +kernel : fT (mO 115) 27 = some (8, 15))
theorem d_115_114 : decode (mB 115) 114 = .ok (.iload 4, 2) := by decide +kernel
theorem s_115_114 {d : Nat} {Q : wQ} {L : List (Option Value)} {st : List Value} {w : aw} {cn sn : Nat} {a0 a1 a2 a3 : Option Value} {v : Int32} : wp d 115 Q 114 (a0 :: a1 :: a2 :: a3 :: some (.int v) :: L) st w cn sn = wp d 115 Q 116 (a0 :: a1 :: a2 :: a3 :: some (.int v) :: L) (.int v :: st) w cn sn := w_iload d_115_114 rfl
theorem d_115_116 : decode (mB 115) 116 = .ok (.iload 5, 2) := by decide +kernel
theorem s_115_116 {d : Nat} {Q : wQ} {L : List (Option Value)} {st : List Value} {w : aw} {cn sn : Nat} {a0 a1 a2 a3 a4 : Option Value} {v : Int32} : wp d 115 Q 116 (a0 :: a1 :: a2 :: a3 :: a4 :: some (.int v) :: L) st w cn sn = wp d 115 Q 118 (a0 :: a1 :: a2 :: a3 :: a4 :: some (.int v) :: L) (.int v :: st) w cn sn := w_iload d_115_116 rfl
theorem d_115_118 : decode (mB 115) 118 = .ok (.iadd, 1) := by decide +kernel
theorem s_115_118 {d : Nat} {Q : wQ} {L : List (Option Value)} {st : List Value} {w : aw} {cn sn : Nat} {a b : Int32} : wp d 115 Q 118 L (.int b :: .int a :: st) w cn sn = wp d 115 Q 119 L (.int (a + b) :: st) w cn sn := wp_row d_115_118 _ _ _ _ _
theorem d_115_119 : decode (mB 115) 119 = .ok (.aload_n 0, 1) := by decide +kernel
theorem s_115_119 {d : Nat} {Q : wQ} {L : List (Option Value)} {st : List Value} {w : aw} {cn sn : Nat} {v : Nat} : wp d 115 Q 119 (some (.ref v) :: L) st w cn sn = wp d 115 Q 120 (some (.ref v) :: L) (.ref v :: st) w cn sn := w_aload_n d_115_119 rfl
theorem d_115_120 : decode (mB 115) 120 = .ok (.iload_n 1, 1) := by decide +kernel
theorem s_115_120 {d : Nat} {Q : wQ} {L : List (Option Value)} {st : List Value} {w : aw} {cn sn : Nat} {a0 : Option Value} {v : Int32} : wp d 115 Q 120 (a0 :: some (.int v) :: L) st w cn sn = wp d 115 Q 121 (a0 :: some (.int v) :: L) (.int v :: st) w cn sn := w_iload_n d_115_120 rfl
theorem d_115_121 : decode (mB 115) 121 = .ok (.iload_n 3, 1) := by decide +kernel
theorem s_115_121 {d : Nat} {Q : wQ} {L : List (Option Value)} {st : List Value} {w : aw} {cn sn : Nat} {a0 a1 a2 : Option Value} {v : Int32} : wp d 115 Q 121 (a0 :: a1 :: a2 :: some (.int v) :: L) st w cn sn = wp d 115 Q 122 (a0 :: a1 :: a2 :: some (.int v) :: L) (.int v :: st) w cn sn := w_iload_n d_115_121 rfl
theorem d_115_122 : decode (mB 115) 122 = .ok (.iload 5, 2) := by decide +kernel
theorem s_115_122 {d : Nat} {Q : wQ} {L : List (Option Value)} {st : List Value} {w : aw} {cn sn : Nat} {a0 a1 a2 a3 a4 : Option Value} {v : Int32} : wp d 115 Q 122 (a0 :: a1 :: a2 :: a3 :: a4 :: some (.int v) :: L) st w cn sn = wp d 115 Q 124 (a0 :: a1 :: a2 :: a3 :: a4 :: some (.int v) :: L) (.int v :: st) w cn sn := w_iload d_115_122 rfl
theorem d_115_124 : decode (mB 115) 124 = .ok (.iadd, 1) := by decide +kernel
theorem s_115_124 {d : Nat} {Q : wQ} {L : List (Option Value)} {st : List Value} {w : aw} {cn sn : Nat} {a b : Int32} : wp d 115 Q 124 L (.int b :: .int a :: st) w cn sn = wp d 115 Q 125 L (.int (a + b) :: st) w cn sn := wp_row d_115_124 _ _ _ _ _
theorem d_115_125 : decode (mB 115) 125 = .ok (.sipush 4095, 3) := by decide +kernel
theorem s_115_125 {d : Nat} {Q : wQ} {L : List (Option Value)} {st : List Value} {w : aw} {cn sn : Nat}  : wp d 115 Q 125 L st w cn sn = wp d 115 Q 128 L (.int 4095 :: st) w cn sn := w_sipush d_115_125 (by decide)
theorem d_115_128 : decode (mB 115) 128 = .ok (.iand, 1) := by decide +kernel
theorem s_115_128 {d : Nat} {Q : wQ} {L : List (Option Value)} {st : List Value} {w : aw} {cn sn : Nat} {a b : Int32} : wp d 115 Q 128 L (.int b :: .int a :: st) w cn sn = wp d 115 Q 129 L (.int (a &&& b) :: st) w cn sn := wp_row d_115_128 _ _ _ _ _
theorem d_115_129 : decode (mB 115) 129 = .ok (.invokevirtual 115, 3) := by decide +kernel
theorem s_115_129 {d : Nat} {Q : wQ} {L : List (Option Value)} {st : List Value} {w : aw} {cn sn : Nat} {v0 v1 : Value} {b : Nat} : wp d 115 Q 129 L (v1 :: v0 :: .ref b :: st) w cn sn = (kd w b = 9 ∧ catS st ≤ 8 ∧ wpD d 105 [.ref b, v0, v1] w (fun v w' => wp d 115 Q 132 L (v.toList ++ st) w' cn sn)) := w_virtual (As := [v0, v1]) d_115_129 (by decide +kernel : cT (mO 115) 115 = some (0, 105)) rfl (by decide +kernel) rfl (by decide +kernel) rfl
theorem d_115_132 : decode (mB 115) 132 = .ok (.iastore, 1) := by decide +kernel
theorem s_115_132 {d : Nat} {Q : wQ} {L : List (Option Value)} {st : List Value} {w : aw} {cn sn : Nat} {a : Nat} {i x : Int32} : wp d 115 Q 132 L (.int x :: .int i :: .ref a :: st) w cn sn = (kd w a = 20 ∧ inR i (ln w a) ∧ wp d 115 Q 133 L st (uA w a i.toNatClampNeg x) cn sn) := wp_row d_115_132 _ _ _ _ _
theorem d_115_133 : decode (mB 115) 133 = .ok (.iinc 5 1, 3) := by decide +kernel
theorem s_115_133 {d : Nat} {Q : wQ} {L : List (Option Value)} {st : List Value} {w : aw} {cn sn : Nat} {a0 a1 a2 a3 a4 : Option Value} {v : Int32} : wp d 115 Q 133 (a0 :: a1 :: a2 :: a3 :: a4 :: some (.int v) :: L) st w cn sn = wp d 115 Q 136 (a0 :: a1 :: a2 :: a3 :: clr a4 :: some (.int (v + 1)) :: L) st w cn sn := w_iinc d_115_133 rfl (by decide) rfl
theorem d_115_136 : decode (mB 115) 136 = .ok (.goto (-64), 3) := by decide +kernel
theorem s_115_136 {d : Nat} {Q : wQ} {L : List (Option Value)} {st : List Value} {w : aw} {cn sn : Nat}  : wp d 115 Q 136 L st w cn sn = wp d 115 Q 72 L st w cn sn := w_goto d_115_136 (by decide)
theorem d_115_139 : decode (mB 115) 139 = .ok (.aload_n 0, 1) := by decide +kernel
theorem s_115_139 {d : Nat} {Q : wQ} {L : List (Option Value)} {st : List Value} {w : aw} {cn sn : Nat} {v : Nat} : wp d 115 Q 139 (some (.ref v) :: L) st w cn sn = wp d 115 Q 140 (some (.ref v) :: L) (.ref v :: st) w cn sn := w_aload_n d_115_139 rfl
theorem d_115_140 : decode (mB 115) 140 = .ok (.getfield 30, 3) := by decide +kernel
theorem s_115_140 {d : Nat} {Q : wQ} {L : List (Option Value)} {st : List Value} {w : aw} {cn sn : Nat} {a : Nat} : wp d 115 Q 140 L (.ref a :: st) w cn sn = (kd w a = 9 ∧ wp d 115 Q 143 L (fd w 528 a :: st) w cn sn) := w_getfield d_115_140 (by decide +kernel : fT (mO 115) 30 = some (8, 16))
theorem d_115_143 : decode (mB 115) 143 = .ok (.iload_n 1, 1) := by decide +kernel
theorem s_115_143 {d : Nat} {Q : wQ} {L : List (Option Value)} {st : List Value} {w : aw} {cn sn : Nat} {a0 : Option Value} {v : Int32} : wp d 115 Q 143 (a0 :: some (.int v) :: L) st w cn sn = wp d 115 Q 144 (a0 :: some (.int v) :: L) (.int v :: st) w cn sn := w_iload_n d_115_143 rfl
theorem d_115_144 : decode (mB 115) 144 = .ok (.iconst 0, 1) := by decide +kernel
theorem s_115_144 {d : Nat} {Q : wQ} {L : List (Option Value)} {st : List Value} {w : aw} {cn sn : Nat}  : wp d 115 Q 144 L st w cn sn = wp d 115 Q 145 L (.int 0 :: st) w cn sn := w_iconst d_115_144 (by decide)
theorem d_115_145 : decode (mB 115) 145 = .ok (.iastore, 1) := by decide +kernel
theorem s_115_145 {d : Nat} {Q : wQ} {L : List (Option Value)} {st : List Value} {w : aw} {cn sn : Nat} {a : Nat} {i x : Int32} : wp d 115 Q 145 L (.int x :: .int i :: .ref a :: st) w cn sn = (kd w a = 20 ∧ inR i (ln w a) ∧ wp d 115 Q 146 L st (uA w a i.toNatClampNeg x) cn sn) := wp_row d_115_145 _ _ _ _ _
theorem d_115_146 : decode (mB 115) 146 = .ok (.return_, 1) := by decide +kernel
theorem s_115_146 {d : Nat} {Q : wQ} {L : List (Option Value)} {w : aw} {cn sn : Nat}  : wp d 115 Q 146 L [] w cn sn = Q none w := w_return d_115_146 rfl
theorem d_116_0 : decode (mB 116) 0 = .ok (.aload_n 0, 1) := by decide +kernel
theorem s_116_0 {d : Nat} {Q : wQ} {L : List (Option Value)} {st : List Value} {w : aw} {cn sn : Nat} {v : Nat} : wp d 116 Q 0 (some (.ref v) :: L) st w cn sn = wp d 116 Q 1 (some (.ref v) :: L) (.ref v :: st) w cn sn := w_aload_n d_116_0 rfl
theorem d_116_1 : decode (mB 116) 1 = .ok (.getfield 39, 3) := by decide +kernel
theorem s_116_1 {d : Nat} {Q : wQ} {L : List (Option Value)} {st : List Value} {w : aw} {cn sn : Nat} {a : Nat} : wp d 116 Q 1 L (.ref a :: st) w cn sn = (kd w a = 9 ∧ wp d 116 Q 4 L (fd w 531 a :: st) w cn sn) := w_getfield d_116_1 (by decide +kernel : fT (mO 116) 39 = some (8, 19))
theorem d_116_4 : decode (mB 116) 4 = .ok (.iload_n 1, 1) := by decide +kernel
theorem s_116_4 {d : Nat} {Q : wQ} {L : List (Option Value)} {st : List Value} {w : aw} {cn sn : Nat} {a0 : Option Value} {v : Int32} : wp d 116 Q 4 (a0 :: some (.int v) :: L) st w cn sn = wp d 116 Q 5 (a0 :: some (.int v) :: L) (.int v :: st) w cn sn := w_iload_n d_116_4 rfl
theorem d_116_5 : decode (mB 116) 5 = .ok (.iload_n 2, 1) := by decide +kernel
theorem s_116_5 {d : Nat} {Q : wQ} {L : List (Option Value)} {st : List Value} {w : aw} {cn sn : Nat} {a0 a1 : Option Value} {v : Int32} : wp d 116 Q 5 (a0 :: a1 :: some (.int v) :: L) st w cn sn = wp d 116 Q 6 (a0 :: a1 :: some (.int v) :: L) (.int v :: st) w cn sn := w_iload_n d_116_5 rfl
theorem d_116_6 : decode (mB 116) 6 = .ok (.iastore, 1) := by decide +kernel
theorem s_116_6 {d : Nat} {Q : wQ} {L : List (Option Value)} {st : List Value} {w : aw} {cn sn : Nat} {a : Nat} {i x : Int32} : wp d 116 Q 6 L (.int x :: .int i :: .ref a :: st) w cn sn = (kd w a = 20 ∧ inR i (ln w a) ∧ wp d 116 Q 7 L st (uA w a i.toNatClampNeg x) cn sn) := wp_row d_116_6 _ _ _ _ _
theorem d_116_7 : decode (mB 116) 7 = .ok (.aload_n 0, 1) := by decide +kernel
theorem s_116_7 {d : Nat} {Q : wQ} {L : List (Option Value)} {st : List Value} {w : aw} {cn sn : Nat} {v : Nat} : wp d 116 Q 7 (some (.ref v) :: L) st w cn sn = wp d 116 Q 8 (some (.ref v) :: L) (.ref v :: st) w cn sn := w_aload_n d_116_7 rfl
theorem d_116_8 : decode (mB 116) 8 = .ok (.iconst (-1), 1) := by decide +kernel
theorem s_116_8 {d : Nat} {Q : wQ} {L : List (Option Value)} {st : List Value} {w : aw} {cn sn : Nat}  : wp d 116 Q 8 L st w cn sn = wp d 116 Q 9 L (.int (-1) :: st) w cn sn := w_iconst d_116_8 (by decide)
theorem d_116_9 : decode (mB 116) 9 = .ok (.putfield 13, 3) := by decide +kernel
theorem s_116_9 {d : Nat} {Q : wQ} {L : List (Option Value)} {st : List Value} {w : aw} {cn sn : Nat} {x : Int32} {a : Nat} : wp d 116 Q 9 L (.int x :: .ref a :: st) w cn sn = (kd w a = 9 ∧ wp d 116 Q 12 L st (uF w 521 a (.int x)) cn sn) := w_putfield d_116_9 (by decide +kernel : fT (mO 116) 13 = some (8, 9)) (by decide +kernel) ok_int
theorem d_116_12 : decode (mB 116) 12 = .ok (.aload_n 0, 1) := by decide +kernel
theorem s_116_12 {d : Nat} {Q : wQ} {L : List (Option Value)} {st : List Value} {w : aw} {cn sn : Nat} {v : Nat} : wp d 116 Q 12 (some (.ref v) :: L) st w cn sn = wp d 116 Q 13 (some (.ref v) :: L) (.ref v :: st) w cn sn := w_aload_n d_116_12 rfl
theorem d_116_13 : decode (mB 116) 13 = .ok (.iconst 0, 1) := by decide +kernel
theorem s_116_13 {d : Nat} {Q : wQ} {L : List (Option Value)} {st : List Value} {w : aw} {cn sn : Nat}  : wp d 116 Q 13 L st w cn sn = wp d 116 Q 14 L (.int 0 :: st) w cn sn := w_iconst d_116_13 (by decide)
theorem d_116_14 : decode (mB 116) 14 = .ok (.putfield 153, 3) := by decide +kernel
theorem s_116_14 {d : Nat} {Q : wQ} {L : List (Option Value)} {st : List Value} {w : aw} {cn sn : Nat} {x : Int32} {a : Nat} : wp d 116 Q 14 L (.int x :: .ref a :: st) w cn sn = (kd w a = 9 ∧ wp d 116 Q 17 L st (uF w 522 a (.int x)) cn sn) := w_putfield d_116_14 (by decide +kernel : fT (mO 116) 153 = some (8, 10)) (by decide +kernel) ok_int
theorem d_116_17 : decode (mB 116) 17 = .ok (.return_, 1) := by decide +kernel
theorem s_116_17 {d : Nat} {Q : wQ} {L : List (Option Value)} {w : aw} {cn sn : Nat}  : wp d 116 Q 17 L [] w cn sn = Q none w := w_return d_116_17 rfl
