theorem d_114_0 : decode (mB 114) 0 = .ok (.iload_n 2, 1) := by decide +kernel
theorem s_114_0 {d : Nat} {Q : wQ} {L : List (Option Value)} {st : List Value} {w : aw} {cn sn : Nat} {a0 a1 : Option Value} {v : Int32} : wp d 114 Q 0 (a0 :: a1 :: some (.int v) :: L) st w cn sn = wp d 114 Q 1 (a0 :: a1 :: some (.int v) :: L) (.int v :: st) w cn sn := w_iload_n d_114_0 rfl
theorem d_114_1 : decode (mB 114) 1 = .ok (.bipush 64, 2) := by decide +kernel
theorem s_114_1 {d : Nat} {Q : wQ} {L : List (Option Value)} {st : List Value} {w : aw} {cn sn : Nat}  : wp d 114 Q 1 L st w cn sn = wp d 114 Q 3 L (.int 64 :: st) w cn sn := w_bipush d_114_1 (by decide)
theorem d_114_3 : decode (mB 114) 3 = .ok (.iand, 1) := by decide +kernel
theorem s_114_3 {d : Nat} {Q : wQ} {L : List (Option Value)} {st : List Value} {w : aw} {cn sn : Nat} {a b : Int32} : wp d 114 Q 3 L (.int b :: .int a :: st) w cn sn = wp d 114 Q 4 L (.int (a &&& b) :: st) w cn sn := wp_row d_114_3 _ _ _ _ _
theorem d_114_4 : decode (mB 114) 4 = .ok (.ifCond .le 15, 3) := by decide +kernel
theorem s_114_4 {d : Nat} {Q : wQ} {L : List (Option Value)} {st : List Value} {w : aw} {cn sn : Nat} {x : Int32} : wp d 114 Q 4 L (.int x :: st) w cn sn = ((x ≤ 0 → wp d 114 Q 19 L st w cn sn) ∧ (¬ x ≤ 0 → wp d 114 Q 7 L st w cn sn)) := w_ifle d_114_4 (by decide)
theorem d_114_7 : decode (mB 114) 7 = .ok (.aload_n 0, 1) := by decide +kernel
theorem s_114_7 {d : Nat} {Q : wQ} {L : List (Option Value)} {st : List Value} {w : aw} {cn sn : Nat} {v : Nat} : wp d 114 Q 7 (some (.ref v) :: L) st w cn sn = wp d 114 Q 8 (some (.ref v) :: L) (.ref v :: st) w cn sn := w_aload_n d_114_7 rfl
theorem d_114_8 : decode (mB 114) 8 = .ok (.getfield 30, 3) := by decide +kernel
theorem s_114_8 {d : Nat} {Q : wQ} {L : List (Option Value)} {st : List Value} {w : aw} {cn sn : Nat} {a : Nat} : wp d 114 Q 8 L (.ref a :: st) w cn sn = (kd w a = 9 ∧ wp d 114 Q 11 L (fd w 528 a :: st) w cn sn) := w_getfield d_114_8 (by decide +kernel : fT (mO 114) 30 = some (8, 16))
theorem d_114_11 : decode (mB 114) 11 = .ok (.iload_n 1, 1) := by decide +kernel
theorem s_114_11 {d : Nat} {Q : wQ} {L : List (Option Value)} {st : List Value} {w : aw} {cn sn : Nat} {a0 : Option Value} {v : Int32} : wp d 114 Q 11 (a0 :: some (.int v) :: L) st w cn sn = wp d 114 Q 12 (a0 :: some (.int v) :: L) (.int v :: st) w cn sn := w_iload_n d_114_11 rfl
theorem d_114_12 : decode (mB 114) 12 = .ok (.iaload, 1) := by decide +kernel
theorem s_114_12 {d : Nat} {Q : wQ} {L : List (Option Value)} {st : List Value} {w : aw} {cn sn : Nat} {a : Nat} {i : Int32} : wp d 114 Q 12 L (.int i :: .ref a :: st) w cn sn = ((kd w a = 20 ∨ kd w a = 30) ∧ inR i (ln w a) ∧ wp d 114 Q 13 L (.int (ai w a i.toNatClampNeg) :: st) w cn sn) := wp_row d_114_12 _ _ _ _ _
theorem d_114_13 : decode (mB 114) 13 = .ok (.sipush 2048, 3) := by decide +kernel
theorem s_114_13 {d : Nat} {Q : wQ} {L : List (Option Value)} {st : List Value} {w : aw} {cn sn : Nat}  : wp d 114 Q 13 L st w cn sn = wp d 114 Q 16 L (.int 2048 :: st) w cn sn := w_sipush d_114_13 (by decide)
theorem d_114_16 : decode (mB 114) 16 = .ok (.if_icmp .ge 36, 3) := by decide +kernel
theorem s_114_16 {d : Nat} {Q : wQ} {L : List (Option Value)} {st : List Value} {w : aw} {cn sn : Nat} {a b : Int32} : wp d 114 Q 16 L (.int b :: .int a :: st) w cn sn = ((b ≤ a → wp d 114 Q 52 L st w cn sn) ∧ (¬ b ≤ a → wp d 114 Q 19 L st w cn sn)) := w_icge d_114_16 (by decide)
theorem d_114_19 : decode (mB 114) 19 = .ok (.iload_n 2, 1) := by decide +kernel
theorem s_114_19 {d : Nat} {Q : wQ} {L : List (Option Value)} {st : List Value} {w : aw} {cn sn : Nat} {a0 a1 : Option Value} {v : Int32} : wp d 114 Q 19 (a0 :: a1 :: some (.int v) :: L) st w cn sn = wp d 114 Q 20 (a0 :: a1 :: some (.int v) :: L) (.int v :: st) w cn sn := w_iload_n d_114_19 rfl
theorem d_114_20 : decode (mB 114) 20 = .ok (.bipush 32, 2) := by decide +kernel
theorem s_114_20 {d : Nat} {Q : wQ} {L : List (Option Value)} {st : List Value} {w : aw} {cn sn : Nat}  : wp d 114 Q 20 L st w cn sn = wp d 114 Q 22 L (.int 32 :: st) w cn sn := w_bipush d_114_20 (by decide)
theorem d_114_22 : decode (mB 114) 22 = .ok (.iand, 1) := by decide +kernel
theorem s_114_22 {d : Nat} {Q : wQ} {L : List (Option Value)} {st : List Value} {w : aw} {cn sn : Nat} {a b : Int32} : wp d 114 Q 22 L (.int b :: .int a :: st) w cn sn = wp d 114 Q 23 L (.int (a &&& b) :: st) w cn sn := wp_row d_114_22 _ _ _ _ _
theorem d_114_23 : decode (mB 114) 23 = .ok (.ifCond .le 12, 3) := by decide +kernel
theorem s_114_23 {d : Nat} {Q : wQ} {L : List (Option Value)} {st : List Value} {w : aw} {cn sn : Nat} {x : Int32} : wp d 114 Q 23 L (.int x :: st) w cn sn = ((x ≤ 0 → wp d 114 Q 35 L st w cn sn) ∧ (¬ x ≤ 0 → wp d 114 Q 26 L st w cn sn)) := w_ifle d_114_23 (by decide)
theorem d_114_26 : decode (mB 114) 26 = .ok (.aload_n 0, 1) := by decide +kernel
theorem s_114_26 {d : Nat} {Q : wQ} {L : List (Option Value)} {st : List Value} {w : aw} {cn sn : Nat} {v : Nat} : wp d 114 Q 26 (some (.ref v) :: L) st w cn sn = wp d 114 Q 27 (some (.ref v) :: L) (.ref v :: st) w cn sn := w_aload_n d_114_26 rfl
theorem d_114_27 : decode (mB 114) 27 = .ok (.getfield 30, 3) := by decide +kernel
theorem s_114_27 {d : Nat} {Q : wQ} {L : List (Option Value)} {st : List Value} {w : aw} {cn sn : Nat} {a : Nat} : wp d 114 Q 27 L (.ref a :: st) w cn sn = (kd w a = 9 ∧ wp d 114 Q 30 L (fd w 528 a :: st) w cn sn) := w_getfield d_114_27 (by decide +kernel : fT (mO 114) 30 = some (8, 16))
theorem d_114_30 : decode (mB 114) 30 = .ok (.iload_n 1, 1) := by decide +kernel
theorem s_114_30 {d : Nat} {Q : wQ} {L : List (Option Value)} {st : List Value} {w : aw} {cn sn : Nat} {a0 : Option Value} {v : Int32} : wp d 114 Q 30 (a0 :: some (.int v) :: L) st w cn sn = wp d 114 Q 31 (a0 :: some (.int v) :: L) (.int v :: st) w cn sn := w_iload_n d_114_30 rfl
theorem d_114_31 : decode (mB 114) 31 = .ok (.iaload, 1) := by decide +kernel
theorem s_114_31 {d : Nat} {Q : wQ} {L : List (Option Value)} {st : List Value} {w : aw} {cn sn : Nat} {a : Nat} {i : Int32} : wp d 114 Q 31 L (.int i :: .ref a :: st) w cn sn = ((kd w a = 20 ∨ kd w a = 30) ∧ inR i (ln w a) ∧ wp d 114 Q 32 L (.int (ai w a i.toNatClampNeg) :: st) w cn sn) := wp_row d_114_31 _ _ _ _ _
theorem d_114_32 : decode (mB 114) 32 = .ok (.ifCond .eq 20, 3) := by decide +kernel
theorem s_114_32 {d : Nat} {Q : wQ} {L : List (Option Value)} {st : List Value} {w : aw} {cn sn : Nat} {x : Int32} : wp d 114 Q 32 L (.int x :: st) w cn sn = ((x = 0 → wp d 114 Q 52 L st w cn sn) ∧ (¬ x = 0 → wp d 114 Q 35 L st w cn sn)) := w_ifeq d_114_32 (by decide)
theorem d_114_35 : decode (mB 114) 35 = .ok (.iload_n 2, 1) := by decide +kernel
theorem s_114_35 {d : Nat} {Q : wQ} {L : List (Option Value)} {st : List Value} {w : aw} {cn sn : Nat} {a0 a1 : Option Value} {v : Int32} : wp d 114 Q 35 (a0 :: a1 :: some (.int v) :: L) st w cn sn = wp d 114 Q 36 (a0 :: a1 :: some (.int v) :: L) (.int v :: st) w cn sn := w_iload_n d_114_35 rfl
theorem d_114_36 : decode (mB 114) 36 = .ok (.bipush 16, 2) := by decide +kernel
theorem s_114_36 {d : Nat} {Q : wQ} {L : List (Option Value)} {st : List Value} {w : aw} {cn sn : Nat}  : wp d 114 Q 36 L st w cn sn = wp d 114 Q 38 L (.int 16 :: st) w cn sn := w_bipush d_114_36 (by decide)
theorem d_114_38 : decode (mB 114) 38 = .ok (.iand, 1) := by decide +kernel
theorem s_114_38 {d : Nat} {Q : wQ} {L : List (Option Value)} {st : List Value} {w : aw} {cn sn : Nat} {a b : Int32} : wp d 114 Q 38 L (.int b :: .int a :: st) w cn sn = wp d 114 Q 39 L (.int (a &&& b) :: st) w cn sn := wp_row d_114_38 _ _ _ _ _
theorem d_114_39 : decode (mB 114) 39 = .ok (.ifCond .le 17, 3) := by decide +kernel
theorem s_114_39 {d : Nat} {Q : wQ} {L : List (Option Value)} {st : List Value} {w : aw} {cn sn : Nat} {x : Int32} : wp d 114 Q 39 L (.int x :: st) w cn sn = ((x ≤ 0 → wp d 114 Q 56 L st w cn sn) ∧ (¬ x ≤ 0 → wp d 114 Q 42 L st w cn sn)) := w_ifle d_114_39 (by decide)
theorem d_114_42 : decode (mB 114) 42 = .ok (.aload_n 0, 1) := by decide +kernel
theorem s_114_42 {d : Nat} {Q : wQ} {L : List (Option Value)} {st : List Value} {w : aw} {cn sn : Nat} {v : Nat} : wp d 114 Q 42 (some (.ref v) :: L) st w cn sn = wp d 114 Q 43 (some (.ref v) :: L) (.ref v :: st) w cn sn := w_aload_n d_114_42 rfl
theorem d_114_43 : decode (mB 114) 43 = .ok (.getfield 36, 3) := by decide +kernel
theorem s_114_43 {d : Nat} {Q : wQ} {L : List (Option Value)} {st : List Value} {w : aw} {cn sn : Nat} {a : Nat} : wp d 114 Q 43 L (.ref a :: st) w cn sn = (kd w a = 9 ∧ wp d 114 Q 46 L (fd w 530 a :: st) w cn sn) := w_getfield d_114_43 (by decide +kernel : fT (mO 114) 36 = some (8, 18))
theorem d_114_46 : decode (mB 114) 46 = .ok (.iload_n 1, 1) := by decide +kernel
theorem s_114_46 {d : Nat} {Q : wQ} {L : List (Option Value)} {st : List Value} {w : aw} {cn sn : Nat} {a0 : Option Value} {v : Int32} : wp d 114 Q 46 (a0 :: some (.int v) :: L) st w cn sn = wp d 114 Q 47 (a0 :: some (.int v) :: L) (.int v :: st) w cn sn := w_iload_n d_114_46 rfl
theorem d_114_47 : decode (mB 114) 47 = .ok (.iaload, 1) := by decide +kernel
theorem s_114_47 {d : Nat} {Q : wQ} {L : List (Option Value)} {st : List Value} {w : aw} {cn sn : Nat} {a : Nat} {i : Int32} : wp d 114 Q 47 L (.int i :: .ref a :: st) w cn sn = ((kd w a = 20 ∨ kd w a = 30) ∧ inR i (ln w a) ∧ wp d 114 Q 48 L (.int (ai w a i.toNatClampNeg) :: st) w cn sn) := wp_row d_114_47 _ _ _ _ _
theorem d_114_48 : decode (mB 114) 48 = .ok (.iconst 1, 1) := by decide +kernel
theorem s_114_48 {d : Nat} {Q : wQ} {L : List (Option Value)} {st : List Value} {w : aw} {cn sn : Nat}  : wp d 114 Q 48 L st w cn sn = wp d 114 Q 49 L (.int 1 :: st) w cn sn := w_iconst d_114_48 (by decide)
theorem d_114_49 : decode (mB 114) 49 = .ok (.if_icmp .ne 7, 3) := by decide +kernel
theorem s_114_49 {d : Nat} {Q : wQ} {L : List (Option Value)} {st : List Value} {w : aw} {cn sn : Nat} {a b : Int32} : wp d 114 Q 49 L (.int b :: .int a :: st) w cn sn = ((¬ a = b → wp d 114 Q 56 L st w cn sn) ∧ (a = b → wp d 114 Q 52 L st w cn sn)) := w_icne d_114_49 (by decide)
theorem d_114_52 : decode (mB 114) 52 = .ok (.iconst 1, 1) := by decide +kernel
theorem s_114_52 {d : Nat} {Q : wQ} {L : List (Option Value)} {st : List Value} {w : aw} {cn sn : Nat}  : wp d 114 Q 52 L st w cn sn = wp d 114 Q 53 L (.int 1 :: st) w cn sn := w_iconst d_114_52 (by decide)
theorem d_114_53 : decode (mB 114) 53 = .ok (.goto 4, 3) := by decide +kernel
theorem s_114_53 {d : Nat} {Q : wQ} {L : List (Option Value)} {st : List Value} {w : aw} {cn sn : Nat}  : wp d 114 Q 53 L st w cn sn = wp d 114 Q 57 L st w cn sn := w_goto d_114_53 (by decide)
theorem d_114_56 : decode (mB 114) 56 = .ok (.iconst 0, 1) := by decide +kernel
theorem s_114_56 {d : Nat} {Q : wQ} {L : List (Option Value)} {st : List Value} {w : aw} {cn sn : Nat}  : wp d 114 Q 56 L st w cn sn = wp d 114 Q 57 L (.int 0 :: st) w cn sn := w_iconst d_114_56 (by decide)
theorem d_114_57 : decode (mB 114) 57 = .ok (.istore_n 3, 1) := by decide +kernel
theorem s_114_57 {d : Nat} {Q : wQ} {L : List (Option Value)} {st : List Value} {w : aw} {cn sn : Nat} {a0 a1 a2 a3 : Option Value} {v : Int32} : wp d 114 Q 57 (a0 :: a1 :: a2 :: a3 :: L) (.int v :: st) w cn sn = wp d 114 Q 58 (a0 :: a1 :: clr a2 :: some (.int v) :: L) st w cn sn := w_istore_n d_114_57 (Nat.le_add_left 4 _) rfl
theorem d_114_58 : decode (mB 114) 58 = .ok (.aload_n 0, 1) := by decide +kernel
theorem s_114_58 {d : Nat} {Q : wQ} {L : List (Option Value)} {st : List Value} {w : aw} {cn sn : Nat} {v : Nat} : wp d 114 Q 58 (some (.ref v) :: L) st w cn sn = wp d 114 Q 59 (some (.ref v) :: L) (.ref v :: st) w cn sn := w_aload_n d_114_58 rfl
theorem d_114_59 : decode (mB 114) 59 = .ok (.iload_n 1, 1) := by decide +kernel
theorem s_114_59 {d : Nat} {Q : wQ} {L : List (Option Value)} {st : List Value} {w : aw} {cn sn : Nat} {a0 : Option Value} {v : Int32} : wp d 114 Q 59 (a0 :: some (.int v) :: L) st w cn sn = wp d 114 Q 60 (a0 :: some (.int v) :: L) (.int v :: st) w cn sn := w_iload_n d_114_59 rfl
theorem d_114_60 : decode (mB 114) 60 = .ok (.iload_n 3, 1) := by decide +kernel
theorem s_114_60 {d : Nat} {Q : wQ} {L : List (Option Value)} {st : List Value} {w : aw} {cn sn : Nat} {a0 a1 a2 : Option Value} {v : Int32} : wp d 114 Q 60 (a0 :: a1 :: a2 :: some (.int v) :: L) st w cn sn = wp d 114 Q 61 (a0 :: a1 :: a2 :: some (.int v) :: L) (.int v :: st) w cn sn := w_iload_n d_114_60 rfl
theorem d_114_61 : decode (mB 114) 61 = .ok (.iload_n 2, 1) := by decide +kernel
theorem s_114_61 {d : Nat} {Q : wQ} {L : List (Option Value)} {st : List Value} {w : aw} {cn sn : Nat} {a0 a1 : Option Value} {v : Int32} : wp d 114 Q 61 (a0 :: a1 :: some (.int v) :: L) st w cn sn = wp d 114 Q 62 (a0 :: a1 :: some (.int v) :: L) (.int v :: st) w cn sn := w_iload_n d_114_61 rfl
theorem d_114_62 : decode (mB 114) 62 = .ok (.bipush 8, 2) := by decide +kernel
theorem s_114_62 {d : Nat} {Q : wQ} {L : List (Option Value)} {st : List Value} {w : aw} {cn sn : Nat}  : wp d 114 Q 62 L st w cn sn = wp d 114 Q 64 L (.int 8 :: st) w cn sn := w_bipush d_114_62 (by decide)
theorem d_114_64 : decode (mB 114) 64 = .ok (.iand, 1) := by decide +kernel
theorem s_114_64 {d : Nat} {Q : wQ} {L : List (Option Value)} {st : List Value} {w : aw} {cn sn : Nat} {a b : Int32} : wp d 114 Q 64 L (.int b :: .int a :: st) w cn sn = wp d 114 Q 65 L (.int (a &&& b) :: st) w cn sn := wp_row d_114_64 _ _ _ _ _
theorem d_114_65 : decode (mB 114) 65 = .ok (.ifCond .le 7, 3) := by decide +kernel
theorem s_114_65 {d : Nat} {Q : wQ} {L : List (Option Value)} {st : List Value} {w : aw} {cn sn : Nat} {x : Int32} : wp d 114 Q 65 L (.int x :: st) w cn sn = ((x ≤ 0 → wp d 114 Q 72 L st w cn sn) ∧ (¬ x ≤ 0 → wp d 114 Q 68 L st w cn sn)) := w_ifle d_114_65 (by decide)
theorem d_114_68 : decode (mB 114) 68 = .ok (.iconst 1, 1) := by decide +kernel
theorem s_114_68 {d : Nat} {Q : wQ} {L : List (Option Value)} {st : List Value} {w : aw} {cn sn : Nat}  : wp d 114 Q 68 L st w cn sn = wp d 114 Q 69 L (.int 1 :: st) w cn sn := w_iconst d_114_68 (by decide)
theorem d_114_69 : decode (mB 114) 69 = .ok (.goto 4, 3) := by decide +kernel
theorem s_114_69 {d : Nat} {Q : wQ} {L : List (Option Value)} {st : List Value} {w : aw} {cn sn : Nat}  : wp d 114 Q 69 L st w cn sn = wp d 114 Q 73 L st w cn sn := w_goto d_114_69 (by decide)
theorem d_114_72 : decode (mB 114) 72 = .ok (.iconst 0, 1) := by decide +kernel
theorem s_114_72 {d : Nat} {Q : wQ} {L : List (Option Value)} {st : List Value} {w : aw} {cn sn : Nat}  : wp d 114 Q 72 L st w cn sn = wp d 114 Q 73 L (.int 0 :: st) w cn sn := w_iconst d_114_72 (by decide)
theorem d_114_73 : decode (mB 114) 73 = .ok (.if_icmp .eq 7, 3) := by decide +kernel
theorem s_114_73 {d : Nat} {Q : wQ} {L : List (Option Value)} {st : List Value} {w : aw} {cn sn : Nat} {a b : Int32} : wp d 114 Q 73 L (.int b :: .int a :: st) w cn sn = ((a = b → wp d 114 Q 80 L st w cn sn) ∧ (¬ a = b → wp d 114 Q 76 L st w cn sn)) := w_iceq d_114_73 (by decide)
theorem d_114_76 : decode (mB 114) 76 = .ok (.iconst 1, 1) := by decide +kernel
theorem s_114_76 {d : Nat} {Q : wQ} {L : List (Option Value)} {st : List Value} {w : aw} {cn sn : Nat}  : wp d 114 Q 76 L st w cn sn = wp d 114 Q 77 L (.int 1 :: st) w cn sn := w_iconst d_114_76 (by decide)
theorem d_114_77 : decode (mB 114) 77 = .ok (.goto 4, 3) := by decide +kernel
theorem s_114_77 {d : Nat} {Q : wQ} {L : List (Option Value)} {st : List Value} {w : aw} {cn sn : Nat}  : wp d 114 Q 77 L st w cn sn = wp d 114 Q 81 L st w cn sn := w_goto d_114_77 (by decide)
theorem d_114_80 : decode (mB 114) 80 = .ok (.iconst 0, 1) := by decide +kernel
theorem s_114_80 {d : Nat} {Q : wQ} {L : List (Option Value)} {st : List Value} {w : aw} {cn sn : Nat}  : wp d 114 Q 80 L st w cn sn = wp d 114 Q 81 L (.int 0 :: st) w cn sn := w_iconst d_114_80 (by decide)
theorem d_114_81 : decode (mB 114) 81 = .ok (.invokevirtual 139, 3) := by decide +kernel
theorem s_114_81 {d : Nat} {Q : wQ} {L : List (Option Value)} {st : List Value} {w : aw} {cn sn : Nat} {v0 v1 : Value} {b : Nat} : wp d 114 Q 81 L (v1 :: v0 :: .ref b :: st) w cn sn = (kd w b = 9 ∧ catS st ≤ 8 ∧ wpD d 110 [.ref b, v0, v1] w (fun v w' => wp d 114 Q 84 L (v.toList ++ st) w' cn sn)) := w_virtual (As := [v0, v1]) d_114_81 (by decide +kernel : cT (mO 114) 139 = some (0, 110)) rfl (by decide +kernel) rfl (by decide +kernel) rfl
theorem d_114_84 : decode (mB 114) 84 = .ok (.iload_n 2, 1) := by decide +kernel
theorem s_114_84 {d : Nat} {Q : wQ} {L : List (Option Value)} {st : List Value} {w : aw} {cn sn : Nat} {a0 a1 : Option Value} {v : Int32} : wp d 114 Q 84 (a0 :: a1 :: some (.int v) :: L) st w cn sn = wp d 114 Q 85 (a0 :: a1 :: some (.int v) :: L) (.int v :: st) w cn sn := w_iload_n d_114_84 rfl
theorem d_114_85 : decode (mB 114) 85 = .ok (.sipush 128, 3) := by decide +kernel
theorem s_114_85 {d : Nat} {Q : wQ} {L : List (Option Value)} {st : List Value} {w : aw} {cn sn : Nat}  : wp d 114 Q 85 L st w cn sn = wp d 114 Q 88 L (.int 128 :: st) w cn sn := w_sipush d_114_85 (by decide)
theorem d_114_88 : decode (mB 114) 88 = .ok (.iand, 1) := by decide +kernel
theorem s_114_88 {d : Nat} {Q : wQ} {L : List (Option Value)} {st : List Value} {w : aw} {cn sn : Nat} {a b : Int32} : wp d 114 Q 88 L (.int b :: .int a :: st) w cn sn = wp d 114 Q 89 L (.int (a &&& b) :: st) w cn sn := wp_row d_114_88 _ _ _ _ _
theorem d_114_89 : decode (mB 114) 89 = .ok (.ifCond .le 10, 3) := by decide +kernel
theorem s_114_89 {d : Nat} {Q : wQ} {L : List (Option Value)} {st : List Value} {w : aw} {cn sn : Nat} {x : Int32} : wp d 114 Q 89 L (.int x :: st) w cn sn = ((x ≤ 0 → wp d 114 Q 99 L st w cn sn) ∧ (¬ x ≤ 0 → wp d 114 Q 92 L st w cn sn)) := w_ifle d_114_89 (by decide)
theorem d_114_92 : decode (mB 114) 92 = .ok (.aload_n 0, 1) := by decide +kernel
theorem s_114_92 {d : Nat} {Q : wQ} {L : List (Option Value)} {st : List Value} {w : aw} {cn sn : Nat} {v : Nat} : wp d 114 Q 92 (some (.ref v) :: L) st w cn sn = wp d 114 Q 93 (some (.ref v) :: L) (.ref v :: st) w cn sn := w_aload_n d_114_92 rfl
theorem d_114_93 : decode (mB 114) 93 = .ok (.getfield 30, 3) := by decide +kernel
theorem s_114_93 {d : Nat} {Q : wQ} {L : List (Option Value)} {st : List Value} {w : aw} {cn sn : Nat} {a : Nat} : wp d 114 Q 93 L (.ref a :: st) w cn sn = (kd w a = 9 ∧ wp d 114 Q 96 L (fd w 528 a :: st) w cn sn) := w_getfield d_114_93 (by decide +kernel : fT (mO 114) 30 = some (8, 16))
theorem d_114_96 : decode (mB 114) 96 = .ok (.iload_n 1, 1) := by decide +kernel
theorem s_114_96 {d : Nat} {Q : wQ} {L : List (Option Value)} {st : List Value} {w : aw} {cn sn : Nat} {a0 : Option Value} {v : Int32} : wp d 114 Q 96 (a0 :: some (.int v) :: L) st w cn sn = wp d 114 Q 97 (a0 :: some (.int v) :: L) (.int v :: st) w cn sn := w_iload_n d_114_96 rfl
theorem d_114_97 : decode (mB 114) 97 = .ok (.iconst 0, 1) := by decide +kernel
theorem s_114_97 {d : Nat} {Q : wQ} {L : List (Option Value)} {st : List Value} {w : aw} {cn sn : Nat}  : wp d 114 Q 97 L st w cn sn = wp d 114 Q 98 L (.int 0 :: st) w cn sn := w_iconst d_114_97 (by decide)
theorem d_114_98 : decode (mB 114) 98 = .ok (.iastore, 1) := by decide +kernel
theorem s_114_98 {d : Nat} {Q : wQ} {L : List (Option Value)} {st : List Value} {w : aw} {cn sn : Nat} {a : Nat} {i x : Int32} : wp d 114 Q 98 L (.int x :: .int i :: .ref a :: st) w cn sn = (kd w a = 20 ∧ inR i (ln w a) ∧ wp d 114 Q 99 L st (uA w a i.toNatClampNeg x) cn sn) := wp_row d_114_98 _ _ _ _ _
theorem d_114_99 : decode (mB 114) 99 = .ok (.iload_n 2, 1) := by decide +kernel
theorem s_114_99 {d : Nat} {Q : wQ} {L : List (Option Value)} {st : List Value} {w : aw} {cn sn : Nat} {a0 a1 : Option Value} {v : Int32} : wp d 114 Q 99 (a0 :: a1 :: some (.int v) :: L) st w cn sn = wp d 114 Q 100 (a0 :: a1 :: some (.int v) :: L) (.int v :: st) w cn sn := w_iload_n d_114_99 rfl
theorem d_114_100 : decode (mB 114) 100 = .ok (.iconst 4, 1) := by decide +kernel
theorem s_114_100 {d : Nat} {Q : wQ} {L : List (Option Value)} {st : List Value} {w : aw} {cn sn : Nat}  : wp d 114 Q 100 L st w cn sn = wp d 114 Q 101 L (.int 4 :: st) w cn sn := w_iconst d_114_100 (by decide)
theorem d_114_101 : decode (mB 114) 101 = .ok (.iand, 1) := by decide +kernel
theorem s_114_101 {d : Nat} {Q : wQ} {L : List (Option Value)} {st : List Value} {w : aw} {cn sn : Nat} {a b : Int32} : wp d 114 Q 101 L (.int b :: .int a :: st) w cn sn = wp d 114 Q 102 L (.int (a &&& b) :: st) w cn sn := wp_row d_114_101 _ _ _ _ _
theorem d_114_102 : decode (mB 114) 102 = .ok (.ifCond .le 18, 3) := by decide +kernel
theorem s_114_102 {d : Nat} {Q : wQ} {L : List (Option Value)} {st : List Value} {w : aw} {cn sn : Nat} {x : Int32} : wp d 114 Q 102 L (.int x :: st) w cn sn = ((x ≤ 0 → wp d 114 Q 120 L st w cn sn) ∧ (¬ x ≤ 0 → wp d 114 Q 105 L st w cn sn)) := w_ifle d_114_102 (by decide)
theorem d_114_105 : decode (mB 114) 105 = .ok (.aload_n 0, 1) := by decide +kernel
theorem s_114_105 {d : Nat} {Q : wQ} {L : List (Option Value)} {st : List Value} {w : aw} {cn sn : Nat} {v : Nat} : wp d 114 Q 105 (some (.ref v) :: L) st w cn sn = wp d 114 Q 106 (some (.ref v) :: L) (.ref v :: st) w cn sn := w_aload_n d_114_105 rfl
theorem d_114_106 : decode (mB 114) 106 = .ok (.getfield 30, 3) := by decide +kernel
theorem s_114_106 {d : Nat} {Q : wQ} {L : List (Option Value)} {st : List Value} {w : aw} {cn sn : Nat} {a : Nat} : wp d 114 Q 106 L (.ref a :: st) w cn sn = (kd w a = 9 ∧ wp d 114 Q 109 L (fd w 528 a :: st) w cn sn) := w_getfield d_114_106 (by decide +kernel : fT (mO 114) 30 = some (8, 16))
theorem d_114_109 : decode (mB 114) 109 = .ok (.iload_n 1, 1) := by decide +kernel
theorem s_114_109 {d : Nat} {Q : wQ} {L : List (Option Value)} {st : List Value} {w : aw} {cn sn : Nat} {a0 : Option Value} {v : Int32} : wp d 114 Q 109 (a0 :: some (.int v) :: L) st w cn sn = wp d 114 Q 110 (a0 :: some (.int v) :: L) (.int v :: st) w cn sn := w_iload_n d_114_109 rfl
theorem d_114_110 : decode (mB 114) 110 = .ok (.dup2, 1) := by decide +kernel
theorem s_114_110 {d : Nat} {Q : wQ} {L : List (Option Value)} {st : List Value} {w : aw} {cn sn : Nat} {a b : Value} : wp d 114 Q 110 L (a :: b :: st) w cn sn = (a.category = 1 ∧ b.category = 1 ∧ wp d 114 Q 111 L (a :: b :: a :: b :: st) w cn sn) := wp_row d_114_110 _ _ _ _ _
theorem d_114_111 : decode (mB 114) 111 = .ok (.iaload, 1) := by decide +kernel
theorem s_114_111 {d : Nat} {Q : wQ} {L : List (Option Value)} {st : List Value} {w : aw} {cn sn : Nat} {a : Nat} {i : Int32} : wp d 114 Q 111 L (.int i :: .ref a :: st) w cn sn = ((kd w a = 20 ∨ kd w a = 30) ∧ inR i (ln w a) ∧ wp d 114 Q 112 L (.int (ai w a i.toNatClampNeg) :: st) w cn sn) := wp_row d_114_111 _ _ _ _ _
theorem d_114_112 : decode (mB 114) 112 = .ok (.aload_n 0, 1) := by decide +kernel
theorem s_114_112 {d : Nat} {Q : wQ} {L : List (Option Value)} {st : List Value} {w : aw} {cn sn : Nat} {v : Nat} : wp d 114 Q 112 (some (.ref v) :: L) st w cn sn = wp d 114 Q 113 (some (.ref v) :: L) (.ref v :: st) w cn sn := w_aload_n d_114_112 rfl
theorem d_114_113 : decode (mB 114) 113 = .ok (.getfield 45, 3) := by decide +kernel
theorem s_114_113 {d : Nat} {Q : wQ} {L : List (Option Value)} {st : List Value} {w : aw} {cn sn : Nat} {a : Nat} : wp d 114 Q 113 L (.ref a :: st) w cn sn = (kd w a = 9 ∧ wp d 114 Q 116 L (fd w 533 a :: st) w cn sn) := w_getfield d_114_113 (by decide +kernel : fT (mO 114) 45 = some (8, 21))
theorem d_114_116 : decode (mB 114) 116 = .ok (.iload_n 1, 1) := by decide +kernel
theorem s_114_116 {d : Nat} {Q : wQ} {L : List (Option Value)} {st : List Value} {w : aw} {cn sn : Nat} {a0 : Option Value} {v : Int32} : wp d 114 Q 116 (a0 :: some (.int v) :: L) st w cn sn = wp d 114 Q 117 (a0 :: some (.int v) :: L) (.int v :: st) w cn sn := w_iload_n d_114_116 rfl
theorem d_114_117 : decode (mB 114) 117 = .ok (.iaload, 1) := by decide +kernel
theorem s_114_117 {d : Nat} {Q : wQ} {L : List (Option Value)} {st : List Value} {w : aw} {cn sn : Nat} {a : Nat} {i : Int32} : wp d 114 Q 117 L (.int i :: .ref a :: st) w cn sn = ((kd w a = 20 ∨ kd w a = 30) ∧ inR i (ln w a) ∧ wp d 114 Q 118 L (.int (ai w a i.toNatClampNeg) :: st) w cn sn) := wp_row d_114_117 _ _ _ _ _
theorem d_114_118 : decode (mB 114) 118 = .ok (.ior, 1) := by decide +kernel
theorem s_114_118 {d : Nat} {Q : wQ} {L : List (Option Value)} {st : List Value} {w : aw} {cn sn : Nat} {a b : Int32} : wp d 114 Q 118 L (.int b :: .int a :: st) w cn sn = wp d 114 Q 119 L (.int (a ||| b) :: st) w cn sn := wp_row d_114_118 _ _ _ _ _
theorem d_114_119 : decode (mB 114) 119 = .ok (.iastore, 1) := by decide +kernel
theorem s_114_119 {d : Nat} {Q : wQ} {L : List (Option Value)} {st : List Value} {w : aw} {cn sn : Nat} {a : Nat} {i x : Int32} : wp d 114 Q 119 L (.int x :: .int i :: .ref a :: st) w cn sn = (kd w a = 20 ∧ inR i (ln w a) ∧ wp d 114 Q 120 L st (uA w a i.toNatClampNeg x) cn sn) := wp_row d_114_119 _ _ _ _ _
theorem d_114_120 : decode (mB 114) 120 = .ok (.iload_n 2, 1) := by decide +kernel
theorem s_114_120 {d : Nat} {Q : wQ} {L : List (Option Value)} {st : List Value} {w : aw} {cn sn : Nat} {a0 a1 : Option Value} {v : Int32} : wp d 114 Q 120 (a0 :: a1 :: some (.int v) :: L) st w cn sn = wp d 114 Q 121 (a0 :: a1 :: some (.int v) :: L) (.int v :: st) w cn sn := w_iload_n d_114_120 rfl
theorem d_114_121 : decode (mB 114) 121 = .ok (.iconst 2, 1) := by decide +kernel
theorem s_114_121 {d : Nat} {Q : wQ} {L : List (Option Value)} {st : List Value} {w : aw} {cn sn : Nat}  : wp d 114 Q 121 L st w cn sn = wp d 114 Q 122 L (.int 2 :: st) w cn sn := w_iconst d_114_121 (by decide)
theorem d_114_122 : decode (mB 114) 122 = .ok (.iand, 1) := by decide +kernel
theorem s_114_122 {d : Nat} {Q : wQ} {L : List (Option Value)} {st : List Value} {w : aw} {cn sn : Nat} {a b : Int32} : wp d 114 Q 122 L (.int b :: .int a :: st) w cn sn = wp d 114 Q 123 L (.int (a &&& b) :: st) w cn sn := wp_row d_114_122 _ _ _ _ _
theorem d_114_123 : decode (mB 114) 123 = .ok (.ifCond .le 9, 3) := by decide +kernel
theorem s_114_123 {d : Nat} {Q : wQ} {L : List (Option Value)} {st : List Value} {w : aw} {cn sn : Nat} {x : Int32} : wp d 114 Q 123 L (.int x :: st) w cn sn = ((x ≤ 0 → wp d 114 Q 132 L st w cn sn) ∧ (¬ x ≤ 0 → wp d 114 Q 126 L st w cn sn)) := w_ifle d_114_123 (by decide)
theorem d_114_126 : decode (mB 114) 126 = .ok (.aload_n 0, 1) := by decide +kernel
theorem s_114_126 {d : Nat} {Q : wQ} {L : List (Option Value)} {st : List Value} {w : aw} {cn sn : Nat} {v : Nat} : wp d 114 Q 126 (some (.ref v) :: L) st w cn sn = wp d 114 Q 127 (some (.ref v) :: L) (.ref v :: st) w cn sn := w_aload_n d_114_126 rfl
theorem d_114_127 : decode (mB 114) 127 = .ok (.iload_n 1, 1) := by decide +kernel
theorem s_114_127 {d : Nat} {Q : wQ} {L : List (Option Value)} {st : List Value} {w : aw} {cn sn : Nat} {a0 : Option Value} {v : Int32} : wp d 114 Q 127 (a0 :: some (.int v) :: L) st w cn sn = wp d 114 Q 128 (a0 :: some (.int v) :: L) (.int v :: st) w cn sn := w_iload_n d_114_127 rfl
theorem d_114_128 : decode (mB 114) 128 = .ok (.iconst 0, 1) := by decide +kernel
theorem s_114_128 {d : Nat} {Q : wQ} {L : List (Option Value)} {st : List Value} {w : aw} {cn sn : Nat}  : wp d 114 Q 128 L st w cn sn = wp d 114 Q 129 L (.int 0 :: st) w cn sn := w_iconst d_114_128 (by decide)
theorem d_114_129 : decode (mB 114) 129 = .ok (.invokevirtual 143, 3) := by decide +kernel
theorem s_114_129 {d : Nat} {Q : wQ} {L : List (Option Value)} {st : List Value} {w : aw} {cn sn : Nat} {v0 v1 : Value} {b : Nat} : wp d 114 Q 129 L (v1 :: v0 :: .ref b :: st) w cn sn = (kd w b = 9 ∧ catS st ≤ 8 ∧ wpD d 118 [.ref b, v0, v1] w (fun v w' => wp d 114 Q 132 L (v.toList ++ st) w' cn sn)) := w_virtual (As := [v0, v1]) d_114_129 (by decide +kernel : cT (mO 114) 143 = some (0, 118)) rfl (by decide +kernel) rfl (by decide +kernel) rfl
theorem d_114_132 : decode (mB 114) 132 = .ok (.return_, 1) := by decide +kernel
theorem s_114_132 {d : Nat} {Q : wQ} {L : List (Option Value)} {w : aw} {cn sn : Nat}  : wp d 114 Q 132 L [] w cn sn = Q none w := w_return d_114_132 rfl
theorem d_115_0 : decode (mB 115) 0 = .ok (.iload_n 2, 1) := by decide +kernel
theorem s_115_0 {d : Nat} {Q : wQ} {L : List (Option Value)} {st : List Value} {w : aw} {cn sn : Nat} {a0 a1 : Option Value} {v : Int32} : wp d 115 Q 0 (a0 :: a1 :: some (.int v) :: L) st w cn sn = wp d 115 Q 1 (a0 :: a1 :: some (.int v) :: L) (.int v :: st) w cn sn := w_iload_n d_115_0 rfl
theorem d_115_1 : decode (mB 115) 1 = .ok (.tableswitch 320 3097 3116 #[95, 320, 320, 320, 320, 117, 320, 320, 163, 320, 320, 320, 320, 187, 320, 320, 253, 290, 290, 310], 95) := by decide +kernel
theorem s_115_1 {d : Nat} {Q : wQ} {L : List (Option Value)} {st : List Value} {w : aw} {cn sn : Nat} {x : Int32} : wp d 115 Q 1 L (.int x :: st) w cn sn = ((x.toInt < 3097 ∨ 3116 < x.toInt → wp d 115 Q 321 L st w cn sn) ∧ ∀ (i t : Nat), ([96, 321, 321, 321, 321, 118, 321, 321, 164, 321, 321, 321, 321, 188, 321, 321, 254, 291, 291, 311] : List Nat)[i]? = some t → x.toInt = 3097 + i → wp d 115 Q t L st w cn sn) := w_table d_115_1 (by decide) (by decide) (by decide)
theorem d_115_96 : decode (mB 115) 96 = .ok (.aload_n 0, 1) := by decide +kernel
theorem s_115_96 {d : Nat} {Q : wQ} {L : List (Option Value)} {st : List Value} {w : aw} {cn sn : Nat} {v : Nat} : wp d 115 Q 96 (some (.ref v) :: L) st w cn sn = wp d 115 Q 97 (some (.ref v) :: L) (.ref v :: st) w cn sn := w_aload_n d_115_96 rfl
theorem d_115_97 : decode (mB 115) 97 = .ok (.iload_n 1, 1) := by decide +kernel
theorem s_115_97 {d : Nat} {Q : wQ} {L : List (Option Value)} {st : List Value} {w : aw} {cn sn : Nat} {a0 : Option Value} {v : Int32} : wp d 115 Q 97 (a0 :: some (.int v) :: L) st w cn sn = wp d 115 Q 98 (a0 :: some (.int v) :: L) (.int v :: st) w cn sn := w_iload_n d_115_97 rfl
theorem d_115_98 : decode (mB 115) 98 = .ok (.aload_n 0, 1) := by decide +kernel
theorem s_115_98 {d : Nat} {Q : wQ} {L : List (Option Value)} {st : List Value} {w : aw} {cn sn : Nat} {v : Nat} : wp d 115 Q 98 (some (.ref v) :: L) st w cn sn = wp d 115 Q 99 (some (.ref v) :: L) (.ref v :: st) w cn sn := w_aload_n d_115_98 rfl
theorem d_115_99 : decode (mB 115) 99 = .ok (.getfield 57, 3) := by decide +kernel
theorem s_115_99 {d : Nat} {Q : wQ} {L : List (Option Value)} {st : List Value} {w : aw} {cn sn : Nat} {a : Nat} : wp d 115 Q 99 L (.ref a :: st) w cn sn = (kd w a = 9 ∧ wp d 115 Q 102 L (fd w 537 a :: st) w cn sn) := w_getfield d_115_99 (by decide +kernel : fT (mO 115) 57 = some (8, 25))
theorem d_115_102 : decode (mB 115) 102 = .ok (.iload_n 1, 1) := by decide +kernel
theorem s_115_102 {d : Nat} {Q : wQ} {L : List (Option Value)} {st : List Value} {w : aw} {cn sn : Nat} {a0 : Option Value} {v : Int32} : wp d 115 Q 102 (a0 :: some (.int v) :: L) st w cn sn = wp d 115 Q 103 (a0 :: some (.int v) :: L) (.int v :: st) w cn sn := w_iload_n d_115_102 rfl
theorem d_115_103 : decode (mB 115) 103 = .ok (.iaload, 1) := by decide +kernel
theorem s_115_103 {d : Nat} {Q : wQ} {L : List (Option Value)} {st : List Value} {w : aw} {cn sn : Nat} {a : Nat} {i : Int32} : wp d 115 Q 103 L (.int i :: .ref a :: st) w cn sn = ((kd w a = 20 ∨ kd w a = 30) ∧ inR i (ln w a) ∧ wp d 115 Q 104 L (.int (ai w a i.toNatClampNeg) :: st) w cn sn) := wp_row d_115_103 _ _ _ _ _
theorem d_115_104 : decode (mB 115) 104 = .ok (.ifCond .le 7, 3) := by decide +kernel
theorem s_115_104 {d : Nat} {Q : wQ} {L : List (Option Value)} {st : List Value} {w : aw} {cn sn : Nat} {x : Int32} : wp d 115 Q 104 L (.int x :: st) w cn sn = ((x ≤ 0 → wp d 115 Q 111 L st w cn sn) ∧ (¬ x ≤ 0 → wp d 115 Q 107 L st w cn sn)) := w_ifle d_115_104 (by decide)
theorem d_115_107 : decode (mB 115) 107 = .ok (.iconst 1, 1) := by decide +kernel
theorem s_115_107 {d : Nat} {Q : wQ} {L : List (Option Value)} {st : List Value} {w : aw} {cn sn : Nat}  : wp d 115 Q 107 L st w cn sn = wp d 115 Q 108 L (.int 1 :: st) w cn sn := w_iconst d_115_107 (by decide)
theorem d_115_108 : decode (mB 115) 108 = .ok (.goto 4, 3) := by decide +kernel
theorem s_115_108 {d : Nat} {Q : wQ} {L : List (Option Value)} {st : List Value} {w : aw} {cn sn : Nat}  : wp d 115 Q 108 L st w cn sn = wp d 115 Q 112 L st w cn sn := w_goto d_115_108 (by decide)
theorem d_115_111 : decode (mB 115) 111 = .ok (.iconst 0, 1) := by decide +kernel
theorem s_115_111 {d : Nat} {Q : wQ} {L : List (Option Value)} {st : List Value} {w : aw} {cn sn : Nat}  : wp d 115 Q 111 L st w cn sn = wp d 115 Q 112 L (.int 0 :: st) w cn sn := w_iconst d_115_111 (by decide)
theorem d_115_112 : decode (mB 115) 112 = .ok (.invokevirtual 139, 3) := by decide +kernel
theorem s_115_112 {d : Nat} {Q : wQ} {L : List (Option Value)} {st : List Value} {w : aw} {cn sn : Nat} {v0 v1 : Value} {b : Nat} : wp d 115 Q 112 L (v1 :: v0 :: .ref b :: st) w cn sn = (kd w b = 9 ∧ catS st ≤ 8 ∧ wpD d 110 [.ref b, v0, v1] w (fun v w' => wp d 115 Q 115 L (v.toList ++ st) w' cn sn)) := w_virtual (As := [v0, v1]) d_115_112 (by decide +kernel : cT (mO 115) 139 = some (0, 110)) rfl (by decide +kernel) rfl (by decide +kernel) rfl
theorem d_115_115 : decode (mB 115) 115 = .ok (.goto 206, 3) := by decide +kernel
theorem s_115_115 {d : Nat} {Q : wQ} {L : List (Option Value)} {st : List Value} {w : aw} {cn sn : Nat}  : wp d 115 Q 115 L st w cn sn = wp d 115 Q 321 L st w cn sn := w_goto d_115_115 (by decide)
theorem d_115_118 : decode (mB 115) 118 = .ok (.aload_n 0, 1) := by decide +kernel
theorem s_115_118 {d : Nat} {Q : wQ} {L : List (Option Value)} {st : List Value} {w : aw} {cn sn : Nat} {v : Nat} : wp d 115 Q 118 (some (.ref v) :: L) st w cn sn = wp d 115 Q 119 (some (.ref v) :: L) (.ref v :: st) w cn sn := w_aload_n d_115_118 rfl
theorem d_115_119 : decode (mB 115) 119 = .ok (.getfield 57, 3) := by decide +kernel
theorem s_115_119 {d : Nat} {Q : wQ} {L : List (Option Value)} {st : List Value} {w : aw} {cn sn : Nat} {a : Nat} : wp d 115 Q 119 L (.ref a :: st) w cn sn = (kd w a = 9 ∧ wp d 115 Q 122 L (fd w 537 a :: st) w cn sn) := w_getfield d_115_119 (by decide +kernel : fT (mO 115) 57 = some (8, 25))
theorem d_115_122 : decode (mB 115) 122 = .ok (.iload_n 1, 1) := by decide +kernel
theorem s_115_122 {d : Nat} {Q : wQ} {L : List (Option Value)} {st : List Value} {w : aw} {cn sn : Nat} {a0 : Option Value} {v : Int32} : wp d 115 Q 122 (a0 :: some (.int v) :: L) st w cn sn = wp d 115 Q 123 (a0 :: some (.int v) :: L) (.int v :: st) w cn sn := w_iload_n d_115_122 rfl
theorem d_115_123 : decode (mB 115) 123 = .ok (.iaload, 1) := by decide +kernel
theorem s_115_123 {d : Nat} {Q : wQ} {L : List (Option Value)} {st : List Value} {w : aw} {cn sn : Nat} {a : Nat} {i : Int32} : wp d 115 Q 123 L (.int i :: .ref a :: st) w cn sn = ((kd w a = 20 ∨ kd w a = 30) ∧ inR i (ln w a) ∧ wp d 115 Q 124 L (.int (ai w a i.toNatClampNeg) :: st) w cn sn) := wp_row d_115_123 _ _ _ _ _
theorem d_115_124 : decode (mB 115) 124 = .ok (.ifCond .ne 19, 3) := by decide +kernel
theorem s_115_124 {d : Nat} {Q : wQ} {L : List (Option Value)} {st : List Value} {w : aw} {cn sn : Nat} {x : Int32} : wp d 115 Q 124 L (.int x :: st) w cn sn = ((¬ x = 0 → wp d 115 Q 143 L st w cn sn) ∧ (x = 0 → wp d 115 Q 127 L st w cn sn)) := w_ifne d_115_124 (by decide)
theorem d_115_127 : decode (mB 115) 127 = .ok (.aload_n 0, 1) := by decide +kernel
theorem s_115_127 {d : Nat} {Q : wQ} {L : List (Option Value)} {st : List Value} {w : aw} {cn sn : Nat} {v : Nat} : wp d 115 Q 127 (some (.ref v) :: L) st w cn sn = wp d 115 Q 128 (some (.ref v) :: L) (.ref v :: st) w cn sn := w_aload_n d_115_127 rfl
theorem d_115_128 : decode (mB 115) 128 = .ok (.getfield 33, 3) := by decide +kernel
theorem s_115_128 {d : Nat} {Q : wQ} {L : List (Option Value)} {st : List Value} {w : aw} {cn sn : Nat} {a : Nat} : wp d 115 Q 128 L (.ref a :: st) w cn sn = (kd w a = 9 ∧ wp d 115 Q 131 L (fd w 529 a :: st) w cn sn) := w_getfield d_115_128 (by decide +kernel : fT (mO 115) 33 = some (8, 17))
theorem d_115_131 : decode (mB 115) 131 = .ok (.iload_n 1, 1) := by decide +kernel
theorem s_115_131 {d : Nat} {Q : wQ} {L : List (Option Value)} {st : List Value} {w : aw} {cn sn : Nat} {a0 : Option Value} {v : Int32} : wp d 115 Q 131 (a0 :: some (.int v) :: L) st w cn sn = wp d 115 Q 132 (a0 :: some (.int v) :: L) (.int v :: st) w cn sn := w_iload_n d_115_131 rfl
theorem d_115_132 : decode (mB 115) 132 = .ok (.iload_n 3, 1) := by decide +kernel
theorem s_115_132 {d : Nat} {Q : wQ} {L : List (Option Value)} {st : List Value} {w : aw} {cn sn : Nat} {a0 a1 a2 : Option Value} {v : Int32} : wp d 115 Q 132 (a0 :: a1 :: a2 :: some (.int v) :: L) st w cn sn = wp d 115 Q 133 (a0 :: a1 :: a2 :: some (.int v) :: L) (.int v :: st) w cn sn := w_iload_n d_115_132 rfl
theorem d_115_133 : decode (mB 115) 133 = .ok (.iastore, 1) := by decide +kernel
theorem s_115_133 {d : Nat} {Q : wQ} {L : List (Option Value)} {st : List Value} {w : aw} {cn sn : Nat} {a : Nat} {i x : Int32} : wp d 115 Q 133 L (.int x :: .int i :: .ref a :: st) w cn sn = (kd w a = 20 ∧ inR i (ln w a) ∧ wp d 115 Q 134 L st (uA w a i.toNatClampNeg x) cn sn) := wp_row d_115_133 _ _ _ _ _
theorem d_115_134 : decode (mB 115) 134 = .ok (.aload_n 0, 1) := by decide +kernel
theorem s_115_134 {d : Nat} {Q : wQ} {L : List (Option Value)} {st : List Value} {w : aw} {cn sn : Nat} {v : Nat} : wp d 115 Q 134 (some (.ref v) :: L) st w cn sn = wp d 115 Q 135 (some (.ref v) :: L) (.ref v :: st) w cn sn := w_aload_n d_115_134 rfl
theorem d_115_135 : decode (mB 115) 135 = .ok (.iload_n 1, 1) := by decide +kernel
theorem s_115_135 {d : Nat} {Q : wQ} {L : List (Option Value)} {st : List Value} {w : aw} {cn sn : Nat} {a0 : Option Value} {v : Int32} : wp d 115 Q 135 (a0 :: some (.int v) :: L) st w cn sn = wp d 115 Q 136 (a0 :: some (.int v) :: L) (.int v :: st) w cn sn := w_iload_n d_115_135 rfl
theorem d_115_136 : decode (mB 115) 136 = .ok (.iconst 3, 1) := by decide +kernel
theorem s_115_136 {d : Nat} {Q : wQ} {L : List (Option Value)} {st : List Value} {w : aw} {cn sn : Nat}  : wp d 115 Q 136 L st w cn sn = wp d 115 Q 137 L (.int 3 :: st) w cn sn := w_iconst d_115_136 (by decide)
theorem d_115_137 : decode (mB 115) 137 = .ok (.invokevirtual 143, 3) := by decide +kernel
theorem s_115_137 {d : Nat} {Q : wQ} {L : List (Option Value)} {st : List Value} {w : aw} {cn sn : Nat} {v0 v1 : Value} {b : Nat} : wp d 115 Q 137 L (v1 :: v0 :: .ref b :: st) w cn sn = (kd w b = 9 ∧ catS st ≤ 8 ∧ wpD d 118 [.ref b, v0, v1] w (fun v w' => wp d 115 Q 140 L (v.toList ++ st) w' cn sn)) := w_virtual (As := [v0, v1]) d_115_137 (by decide +kernel : cT (mO 115) 143 = some (0, 118)) rfl (by decide +kernel) rfl (by decide +kernel) rfl
theorem d_115_140 : decode (mB 115) 140 = .ok (.goto 181, 3) := by decide +kernel
theorem s_115_140 {d : Nat} {Q : wQ} {L : List (Option Value)} {st : List Value} {w : aw} {cn sn : Nat}  : wp d 115 Q 140 L st w cn sn = wp d 115 Q 321 L st w cn sn := w_goto d_115_140 (by decide)
theorem d_115_143 : decode (mB 115) 143 = .ok (.aload_n 0, 1) := by decide +kernel
theorem s_115_143 {d : Nat} {Q : wQ} {L : List (Option Value)} {st : List Value} {w : aw} {cn sn : Nat} {v : Nat} : wp d 115 Q 143 (some (.ref v) :: L) st w cn sn = wp d 115 Q 144 (some (.ref v) :: L) (.ref v :: st) w cn sn := w_aload_n d_115_143 rfl
theorem d_115_144 : decode (mB 115) 144 = .ok (.getfield 30, 3) := by decide +kernel
theorem s_115_144 {d : Nat} {Q : wQ} {L : List (Option Value)} {st : List Value} {w : aw} {cn sn : Nat} {a : Nat} : wp d 115 Q 144 L (.ref a :: st) w cn sn = (kd w a = 9 ∧ wp d 115 Q 147 L (fd w 528 a :: st) w cn sn) := w_getfield d_115_144 (by decide +kernel : fT (mO 115) 30 = some (8, 16))
theorem d_115_147 : decode (mB 115) 147 = .ok (.iload_n 1, 1) := by decide +kernel
theorem s_115_147 {d : Nat} {Q : wQ} {L : List (Option Value)} {st : List Value} {w : aw} {cn sn : Nat} {a0 : Option Value} {v : Int32} : wp d 115 Q 147 (a0 :: some (.int v) :: L) st w cn sn = wp d 115 Q 148 (a0 :: some (.int v) :: L) (.int v :: st) w cn sn := w_iload_n d_115_147 rfl
theorem d_115_148 : decode (mB 115) 148 = .ok (.aload_n 0, 1) := by decide +kernel
theorem s_115_148 {d : Nat} {Q : wQ} {L : List (Option Value)} {st : List Value} {w : aw} {cn sn : Nat} {v : Nat} : wp d 115 Q 148 (some (.ref v) :: L) st w cn sn = wp d 115 Q 149 (some (.ref v) :: L) (.ref v :: st) w cn sn := w_aload_n d_115_148 rfl
theorem d_115_149 : decode (mB 115) 149 = .ok (.getfield 54, 3) := by decide +kernel
theorem s_115_149 {d : Nat} {Q : wQ} {L : List (Option Value)} {st : List Value} {w : aw} {cn sn : Nat} {a : Nat} : wp d 115 Q 149 L (.ref a :: st) w cn sn = (kd w a = 9 ∧ wp d 115 Q 152 L (fd w 536 a :: st) w cn sn) := w_getfield d_115_149 (by decide +kernel : fT (mO 115) 54 = some (8, 24))
theorem d_115_152 : decode (mB 115) 152 = .ok (.aload_n 0, 1) := by decide +kernel
theorem s_115_152 {d : Nat} {Q : wQ} {L : List (Option Value)} {st : List Value} {w : aw} {cn sn : Nat} {v : Nat} : wp d 115 Q 152 (some (.ref v) :: L) st w cn sn = wp d 115 Q 153 (some (.ref v) :: L) (.ref v :: st) w cn sn := w_aload_n d_115_152 rfl
theorem d_115_153 : decode (mB 115) 153 = .ok (.getfield 57, 3) := by decide +kernel
theorem s_115_153 {d : Nat} {Q : wQ} {L : List (Option Value)} {st : List Value} {w : aw} {cn sn : Nat} {a : Nat} : wp d 115 Q 153 L (.ref a :: st) w cn sn = (kd w a = 9 ∧ wp d 115 Q 156 L (fd w 537 a :: st) w cn sn) := w_getfield d_115_153 (by decide +kernel : fT (mO 115) 57 = some (8, 25))
theorem d_115_156 : decode (mB 115) 156 = .ok (.iload_n 1, 1) := by decide +kernel
theorem s_115_156 {d : Nat} {Q : wQ} {L : List (Option Value)} {st : List Value} {w : aw} {cn sn : Nat} {a0 : Option Value} {v : Int32} : wp d 115 Q 156 (a0 :: some (.int v) :: L) st w cn sn = wp d 115 Q 157 (a0 :: some (.int v) :: L) (.int v :: st) w cn sn := w_iload_n d_115_156 rfl
theorem d_115_157 : decode (mB 115) 157 = .ok (.invokestatic 146, 3) := by decide +kernel
theorem s_115_157 {d : Nat} {Q : wQ} {L : List (Option Value)} {st : List Value} {w : aw} {cn sn : Nat} {v0 v1 v2 : Value} : wp d 115 Q 157 L (v2 :: v1 :: v0 :: st) w cn sn = (catS st ≤ 8 ∧ wpD d 116 [v0, v1, v2] w (fun v w' => wp d 115 Q 160 L (v.toList ++ st) w' cn sn)) := w_static (As := [v0, v1, v2]) d_115_157 (by decide +kernel : cT (mO 115) 146 = some (2, 116)) (by decide +kernel) rfl (by decide +kernel) rfl
theorem d_115_160 : decode (mB 115) 160 = .ok (.iastore, 1) := by decide +kernel
theorem s_115_160 {d : Nat} {Q : wQ} {L : List (Option Value)} {st : List Value} {w : aw} {cn sn : Nat} {a : Nat} {i x : Int32} : wp d 115 Q 160 L (.int x :: .int i :: .ref a :: st) w cn sn = (kd w a = 20 ∧ inR i (ln w a) ∧ wp d 115 Q 161 L st (uA w a i.toNatClampNeg x) cn sn) := wp_row d_115_160 _ _ _ _ _
theorem d_115_161 : decode (mB 115) 161 = .ok (.goto 160, 3) := by decide +kernel
theorem s_115_161 {d : Nat} {Q : wQ} {L : List (Option Value)} {st : List Value} {w : aw} {cn sn : Nat}  : wp d 115 Q 161 L st w cn sn = wp d 115 Q 321 L st w cn sn := w_goto d_115_161 (by decide)
theorem d_115_164 : decode (mB 115) 164 = .ok (.aload_n 0, 1) := by decide +kernel
theorem s_115_164 {d : Nat} {Q : wQ} {L : List (Option Value)} {st : List Value} {w : aw} {cn sn : Nat} {v : Nat} : wp d 115 Q 164 (some (.ref v) :: L) st w cn sn = wp d 115 Q 165 (some (.ref v) :: L) (.ref v :: st) w cn sn := w_aload_n d_115_164 rfl
theorem d_115_165 : decode (mB 115) 165 = .ok (.iload_n 1, 1) := by decide +kernel
theorem s_115_165 {d : Nat} {Q : wQ} {L : List (Option Value)} {st : List Value} {w : aw} {cn sn : Nat} {a0 : Option Value} {v : Int32} : wp d 115 Q 165 (a0 :: some (.int v) :: L) st w cn sn = wp d 115 Q 166 (a0 :: some (.int v) :: L) (.int v :: st) w cn sn := w_iload_n d_115_165 rfl
theorem d_115_166 : decode (mB 115) 166 = .ok (.aload_n 0, 1) := by decide +kernel
theorem s_115_166 {d : Nat} {Q : wQ} {L : List (Option Value)} {st : List Value} {w : aw} {cn sn : Nat} {v : Nat} : wp d 115 Q 166 (some (.ref v) :: L) st w cn sn = wp d 115 Q 167 (some (.ref v) :: L) (.ref v :: st) w cn sn := w_aload_n d_115_166 rfl
theorem d_115_167 : decode (mB 115) 167 = .ok (.getfield 63, 3) := by decide +kernel
theorem s_115_167 {d : Nat} {Q : wQ} {L : List (Option Value)} {st : List Value} {w : aw} {cn sn : Nat} {a : Nat} : wp d 115 Q 167 L (.ref a :: st) w cn sn = (kd w a = 9 ∧ wp d 115 Q 170 L (fd w 539 a :: st) w cn sn) := w_getfield d_115_167 (by decide +kernel : fT (mO 115) 63 = some (8, 27))
theorem d_115_170 : decode (mB 115) 170 = .ok (.iload_n 1, 1) := by decide +kernel
theorem s_115_170 {d : Nat} {Q : wQ} {L : List (Option Value)} {st : List Value} {w : aw} {cn sn : Nat} {a0 : Option Value} {v : Int32} : wp d 115 Q 170 (a0 :: some (.int v) :: L) st w cn sn = wp d 115 Q 171 (a0 :: some (.int v) :: L) (.int v :: st) w cn sn := w_iload_n d_115_170 rfl
theorem d_115_171 : decode (mB 115) 171 = .ok (.iaload, 1) := by decide +kernel
theorem s_115_171 {d : Nat} {Q : wQ} {L : List (Option Value)} {st : List Value} {w : aw} {cn sn : Nat} {a : Nat} {i : Int32} : wp d 115 Q 171 L (.int i :: .ref a :: st) w cn sn = ((kd w a = 20 ∨ kd w a = 30) ∧ inR i (ln w a) ∧ wp d 115 Q 172 L (.int (ai w a i.toNatClampNeg) :: st) w cn sn) := wp_row d_115_171 _ _ _ _ _
theorem d_115_172 : decode (mB 115) 172 = .ok (.bipush 16, 2) := by decide +kernel
theorem s_115_172 {d : Nat} {Q : wQ} {L : List (Option Value)} {st : List Value} {w : aw} {cn sn : Nat}  : wp d 115 Q 172 L st w cn sn = wp d 115 Q 174 L (.int 16 :: st) w cn sn := w_bipush d_115_172 (by decide)
theorem d_115_174 : decode (mB 115) 174 = .ok (.if_icmp .ge 7, 3) := by decide +kernel
theorem s_115_174 {d : Nat} {Q : wQ} {L : List (Option Value)} {st : List Value} {w : aw} {cn sn : Nat} {a b : Int32} : wp d 115 Q 174 L (.int b :: .int a :: st) w cn sn = ((b ≤ a → wp d 115 Q 181 L st w cn sn) ∧ (¬ b ≤ a → wp d 115 Q 177 L st w cn sn)) := w_icge d_115_174 (by decide)
theorem d_115_177 : decode (mB 115) 177 = .ok (.iconst 1, 1) := by decide +kernel
theorem s_115_177 {d : Nat} {Q : wQ} {L : List (Option Value)} {st : List Value} {w : aw} {cn sn : Nat}  : wp d 115 Q 177 L st w cn sn = wp d 115 Q 178 L (.int 1 :: st) w cn sn := w_iconst d_115_177 (by decide)
theorem d_115_178 : decode (mB 115) 178 = .ok (.goto 4, 3) := by decide +kernel
theorem s_115_178 {d : Nat} {Q : wQ} {L : List (Option Value)} {st : List Value} {w : aw} {cn sn : Nat}  : wp d 115 Q 178 L st w cn sn = wp d 115 Q 182 L st w cn sn := w_goto d_115_178 (by decide)
theorem d_115_181 : decode (mB 115) 181 = .ok (.iconst 0, 1) := by decide +kernel
theorem s_115_181 {d : Nat} {Q : wQ} {L : List (Option Value)} {st : List Value} {w : aw} {cn sn : Nat}  : wp d 115 Q 181 L st w cn sn = wp d 115 Q 182 L (.int 0 :: st) w cn sn := w_iconst d_115_181 (by decide)
theorem d_115_182 : decode (mB 115) 182 = .ok (.invokevirtual 139, 3) := by decide +kernel
theorem s_115_182 {d : Nat} {Q : wQ} {L : List (Option Value)} {st : List Value} {w : aw} {cn sn : Nat} {v0 v1 : Value} {b : Nat} : wp d 115 Q 182 L (v1 :: v0 :: .ref b :: st) w cn sn = (kd w b = 9 ∧ catS st ≤ 8 ∧ wpD d 110 [.ref b, v0, v1] w (fun v w' => wp d 115 Q 185 L (v.toList ++ st) w' cn sn)) := w_virtual (As := [v0, v1]) d_115_182 (by decide +kernel : cT (mO 115) 139 = some (0, 110)) rfl (by decide +kernel) rfl (by decide +kernel) rfl
theorem d_115_185 : decode (mB 115) 185 = .ok (.goto 136, 3) := by decide +kernel
theorem s_115_185 {d : Nat} {Q : wQ} {L : List (Option Value)} {st : List Value} {w : aw} {cn sn : Nat}  : wp d 115 Q 185 L st w cn sn = wp d 115 Q 321 L st w cn sn := w_goto d_115_185 (by decide)
theorem d_115_188 : decode (mB 115) 188 = .ok (.aload_n 0, 1) := by decide +kernel
theorem s_115_188 {d : Nat} {Q : wQ} {L : List (Option Value)} {st : List Value} {w : aw} {cn sn : Nat} {v : Nat} : wp d 115 Q 188 (some (.ref v) :: L) st w cn sn = wp d 115 Q 189 (some (.ref v) :: L) (.ref v :: st) w cn sn := w_aload_n d_115_188 rfl
theorem d_115_189 : decode (mB 115) 189 = .ok (.getfield 63, 3) := by decide +kernel
theorem s_115_189 {d : Nat} {Q : wQ} {L : List (Option Value)} {st : List Value} {w : aw} {cn sn : Nat} {a : Nat} : wp d 115 Q 189 L (.ref a :: st) w cn sn = (kd w a = 9 ∧ wp d 115 Q 192 L (fd w 539 a :: st) w cn sn) := w_getfield d_115_189 (by decide +kernel : fT (mO 115) 63 = some (8, 27))
theorem d_115_192 : decode (mB 115) 192 = .ok (.iload_n 1, 1) := by decide +kernel
theorem s_115_192 {d : Nat} {Q : wQ} {L : List (Option Value)} {st : List Value} {w : aw} {cn sn : Nat} {a0 : Option Value} {v : Int32} : wp d 115 Q 192 (a0 :: some (.int v) :: L) st w cn sn = wp d 115 Q 193 (a0 :: some (.int v) :: L) (.int v :: st) w cn sn := w_iload_n d_115_192 rfl
theorem d_115_193 : decode (mB 115) 193 = .ok (.iaload, 1) := by decide +kernel
theorem s_115_193 {d : Nat} {Q : wQ} {L : List (Option Value)} {st : List Value} {w : aw} {cn sn : Nat} {a : Nat} {i : Int32} : wp d 115 Q 193 L (.int i :: .ref a :: st) w cn sn = ((kd w a = 20 ∨ kd w a = 30) ∧ inR i (ln w a) ∧ wp d 115 Q 194 L (.int (ai w a i.toNatClampNeg) :: st) w cn sn) := wp_row d_115_193 _ _ _ _ _
theorem d_115_194 : decode (mB 115) 194 = .ok (.bipush 16, 2) := by decide +kernel
theorem s_115_194 {d : Nat} {Q : wQ} {L : List (Option Value)} {st : List Value} {w : aw} {cn sn : Nat}  : wp d 115 Q 194 L st w cn sn = wp d 115 Q 196 L (.int 16 :: st) w cn sn := w_bipush d_115_194 (by decide)
theorem d_115_196 : decode (mB 115) 196 = .ok (.if_icmp .ne 19, 3) := by decide +kernel
theorem s_115_196 {d : Nat} {Q : wQ} {L : List (Option Value)} {st : List Value} {w : aw} {cn sn : Nat} {a b : Int32} : wp d 115 Q 196 L (.int b :: .int a :: st) w cn sn = ((¬ a = b → wp d 115 Q 215 L st w cn sn) ∧ (a = b → wp d 115 Q 199 L st w cn sn)) := w_icne d_115_196 (by decide)
theorem d_115_199 : decode (mB 115) 199 = .ok (.aload_n 0, 1) := by decide +kernel
theorem s_115_199 {d : Nat} {Q : wQ} {L : List (Option Value)} {st : List Value} {w : aw} {cn sn : Nat} {v : Nat} : wp d 115 Q 199 (some (.ref v) :: L) st w cn sn = wp d 115 Q 200 (some (.ref v) :: L) (.ref v :: st) w cn sn := w_aload_n d_115_199 rfl
theorem d_115_200 : decode (mB 115) 200 = .ok (.getfield 33, 3) := by decide +kernel
theorem s_115_200 {d : Nat} {Q : wQ} {L : List (Option Value)} {st : List Value} {w : aw} {cn sn : Nat} {a : Nat} : wp d 115 Q 200 L (.ref a :: st) w cn sn = (kd w a = 9 ∧ wp d 115 Q 203 L (fd w 529 a :: st) w cn sn) := w_getfield d_115_200 (by decide +kernel : fT (mO 115) 33 = some (8, 17))
theorem d_115_203 : decode (mB 115) 203 = .ok (.iload_n 1, 1) := by decide +kernel
theorem s_115_203 {d : Nat} {Q : wQ} {L : List (Option Value)} {st : List Value} {w : aw} {cn sn : Nat} {a0 : Option Value} {v : Int32} : wp d 115 Q 203 (a0 :: some (.int v) :: L) st w cn sn = wp d 115 Q 204 (a0 :: some (.int v) :: L) (.int v :: st) w cn sn := w_iload_n d_115_203 rfl
theorem d_115_204 : decode (mB 115) 204 = .ok (.iload_n 3, 1) := by decide +kernel
theorem s_115_204 {d : Nat} {Q : wQ} {L : List (Option Value)} {st : List Value} {w : aw} {cn sn : Nat} {a0 a1 a2 : Option Value} {v : Int32} : wp d 115 Q 204 (a0 :: a1 :: a2 :: some (.int v) :: L) st w cn sn = wp d 115 Q 205 (a0 :: a1 :: a2 :: some (.int v) :: L) (.int v :: st) w cn sn := w_iload_n d_115_204 rfl
theorem d_115_205 : decode (mB 115) 205 = .ok (.iastore, 1) := by decide +kernel
theorem s_115_205 {d : Nat} {Q : wQ} {L : List (Option Value)} {st : List Value} {w : aw} {cn sn : Nat} {a : Nat} {i x : Int32} : wp d 115 Q 205 L (.int x :: .int i :: .ref a :: st) w cn sn = (kd w a = 20 ∧ inR i (ln w a) ∧ wp d 115 Q 206 L st (uA w a i.toNatClampNeg x) cn sn) := wp_row d_115_205 _ _ _ _ _
theorem d_115_206 : decode (mB 115) 206 = .ok (.aload_n 0, 1) := by decide +kernel
theorem s_115_206 {d : Nat} {Q : wQ} {L : List (Option Value)} {st : List Value} {w : aw} {cn sn : Nat} {v : Nat} : wp d 115 Q 206 (some (.ref v) :: L) st w cn sn = wp d 115 Q 207 (some (.ref v) :: L) (.ref v :: st) w cn sn := w_aload_n d_115_206 rfl
theorem d_115_207 : decode (mB 115) 207 = .ok (.iload_n 1, 1) := by decide +kernel
theorem s_115_207 {d : Nat} {Q : wQ} {L : List (Option Value)} {st : List Value} {w : aw} {cn sn : Nat} {a0 : Option Value} {v : Int32} : wp d 115 Q 207 (a0 :: some (.int v) :: L) st w cn sn = wp d 115 Q 208 (a0 :: some (.int v) :: L) (.int v :: st) w cn sn := w_iload_n d_115_207 rfl
theorem d_115_208 : decode (mB 115) 208 = .ok (.iconst 4, 1) := by decide +kernel
theorem s_115_208 {d : Nat} {Q : wQ} {L : List (Option Value)} {st : List Value} {w : aw} {cn sn : Nat}  : wp d 115 Q 208 L st w cn sn = wp d 115 Q 209 L (.int 4 :: st) w cn sn := w_iconst d_115_208 (by decide)
theorem d_115_209 : decode (mB 115) 209 = .ok (.invokevirtual 143, 3) := by decide +kernel
theorem s_115_209 {d : Nat} {Q : wQ} {L : List (Option Value)} {st : List Value} {w : aw} {cn sn : Nat} {v0 v1 : Value} {b : Nat} : wp d 115 Q 209 L (v1 :: v0 :: .ref b :: st) w cn sn = (kd w b = 9 ∧ catS st ≤ 8 ∧ wpD d 118 [.ref b, v0, v1] w (fun v w' => wp d 115 Q 212 L (v.toList ++ st) w' cn sn)) := w_virtual (As := [v0, v1]) d_115_209 (by decide +kernel : cT (mO 115) 143 = some (0, 118)) rfl (by decide +kernel) rfl (by decide +kernel) rfl
theorem d_115_212 : decode (mB 115) 212 = .ok (.goto 109, 3) := by decide +kernel
theorem s_115_212 {d : Nat} {Q : wQ} {L : List (Option Value)} {st : List Value} {w : aw} {cn sn : Nat}  : wp d 115 Q 212 L st w cn sn = wp d 115 Q 321 L st w cn sn := w_goto d_115_212 (by decide)
theorem d_115_215 : decode (mB 115) 215 = .ok (.aload_n 0, 1) := by decide +kernel
theorem s_115_215 {d : Nat} {Q : wQ} {L : List (Option Value)} {st : List Value} {w : aw} {cn sn : Nat} {v : Nat} : wp d 115 Q 215 (some (.ref v) :: L) st w cn sn = wp d 115 Q 216 (some (.ref v) :: L) (.ref v :: st) w cn sn := w_aload_n d_115_215 rfl
theorem d_115_216 : decode (mB 115) 216 = .ok (.getfield 60, 3) := by decide +kernel
theorem s_115_216 {d : Nat} {Q : wQ} {L : List (Option Value)} {st : List Value} {w : aw} {cn sn : Nat} {a : Nat} : wp d 115 Q 216 L (.ref a :: st) w cn sn = (kd w a = 9 ∧ wp d 115 Q 219 L (fd w 538 a :: st) w cn sn) := w_getfield d_115_216 (by decide +kernel : fT (mO 115) 60 = some (8, 26))
theorem d_115_219 : decode (mB 115) 219 = .ok (.bipush 16, 2) := by decide +kernel
theorem s_115_219 {d : Nat} {Q : wQ} {L : List (Option Value)} {st : List Value} {w : aw} {cn sn : Nat}  : wp d 115 Q 219 L st w cn sn = wp d 115 Q 221 L (.int 16 :: st) w cn sn := w_bipush d_115_219 (by decide)
theorem d_115_221 : decode (mB 115) 221 = .ok (.iload_n 1, 1) := by decide +kernel
theorem s_115_221 {d : Nat} {Q : wQ} {L : List (Option Value)} {st : List Value} {w : aw} {cn sn : Nat} {a0 : Option Value} {v : Int32} : wp d 115 Q 221 (a0 :: some (.int v) :: L) st w cn sn = wp d 115 Q 222 (a0 :: some (.int v) :: L) (.int v :: st) w cn sn := w_iload_n d_115_221 rfl
theorem d_115_222 : decode (mB 115) 222 = .ok (.imul, 1) := by decide +kernel
theorem s_115_222 {d : Nat} {Q : wQ} {L : List (Option Value)} {st : List Value} {w : aw} {cn sn : Nat} {a b : Int32} : wp d 115 Q 222 L (.int b :: .int a :: st) w cn sn = wp d 115 Q 223 L (.int (a * b) :: st) w cn sn := wp_row d_115_222 _ _ _ _ _
theorem d_115_223 : decode (mB 115) 223 = .ok (.aload_n 0, 1) := by decide +kernel
theorem s_115_223 {d : Nat} {Q : wQ} {L : List (Option Value)} {st : List Value} {w : aw} {cn sn : Nat} {v : Nat} : wp d 115 Q 223 (some (.ref v) :: L) st w cn sn = wp d 115 Q 224 (some (.ref v) :: L) (.ref v :: st) w cn sn := w_aload_n d_115_223 rfl
theorem d_115_224 : decode (mB 115) 224 = .ok (.getfield 63, 3) := by decide +kernel
theorem s_115_224 {d : Nat} {Q : wQ} {L : List (Option Value)} {st : List Value} {w : aw} {cn sn : Nat} {a : Nat} : wp d 115 Q 224 L (.ref a :: st) w cn sn = (kd w a = 9 ∧ wp d 115 Q 227 L (fd w 539 a :: st) w cn sn) := w_getfield d_115_224 (by decide +kernel : fT (mO 115) 63 = some (8, 27))
theorem d_115_227 : decode (mB 115) 227 = .ok (.iload_n 1, 1) := by decide +kernel
theorem s_115_227 {d : Nat} {Q : wQ} {L : List (Option Value)} {st : List Value} {w : aw} {cn sn : Nat} {a0 : Option Value} {v : Int32} : wp d 115 Q 227 (a0 :: some (.int v) :: L) st w cn sn = wp d 115 Q 228 (a0 :: some (.int v) :: L) (.int v :: st) w cn sn := w_iload_n d_115_227 rfl
theorem d_115_228 : decode (mB 115) 228 = .ok (.iaload, 1) := by decide +kernel
theorem s_115_228 {d : Nat} {Q : wQ} {L : List (Option Value)} {st : List Value} {w : aw} {cn sn : Nat} {a : Nat} {i : Int32} : wp d 115 Q 228 L (.int i :: .ref a :: st) w cn sn = ((kd w a = 20 ∨ kd w a = 30) ∧ inR i (ln w a) ∧ wp d 115 Q 229 L (.int (ai w a i.toNatClampNeg) :: st) w cn sn) := wp_row d_115_228 _ _ _ _ _
theorem d_115_229 : decode (mB 115) 229 = .ok (.iadd, 1) := by decide +kernel
theorem s_115_229 {d : Nat} {Q : wQ} {L : List (Option Value)} {st : List Value} {w : aw} {cn sn : Nat} {a b : Int32} : wp d 115 Q 229 L (.int b :: .int a :: st) w cn sn = wp d 115 Q 230 L (.int (a + b) :: st) w cn sn := wp_row d_115_229 _ _ _ _ _
theorem d_115_230 : decode (mB 115) 230 = .ok (.aload_n 0, 1) := by decide +kernel
theorem s_115_230 {d : Nat} {Q : wQ} {L : List (Option Value)} {st : List Value} {w : aw} {cn sn : Nat} {v : Nat} : wp d 115 Q 230 (some (.ref v) :: L) st w cn sn = wp d 115 Q 231 (some (.ref v) :: L) (.ref v :: st) w cn sn := w_aload_n d_115_230 rfl
theorem d_115_231 : decode (mB 115) 231 = .ok (.getfield 30, 3) := by decide +kernel
theorem s_115_231 {d : Nat} {Q : wQ} {L : List (Option Value)} {st : List Value} {w : aw} {cn sn : Nat} {a : Nat} : wp d 115 Q 231 L (.ref a :: st) w cn sn = (kd w a = 9 ∧ wp d 115 Q 234 L (fd w 528 a :: st) w cn sn) := w_getfield d_115_231 (by decide +kernel : fT (mO 115) 30 = some (8, 16))
theorem d_115_234 : decode (mB 115) 234 = .ok (.iload_n 1, 1) := by decide +kernel
theorem s_115_234 {d : Nat} {Q : wQ} {L : List (Option Value)} {st : List Value} {w : aw} {cn sn : Nat} {a0 : Option Value} {v : Int32} : wp d 115 Q 234 (a0 :: some (.int v) :: L) st w cn sn = wp d 115 Q 235 (a0 :: some (.int v) :: L) (.int v :: st) w cn sn := w_iload_n d_115_234 rfl
theorem d_115_235 : decode (mB 115) 235 = .ok (.iaload, 1) := by decide +kernel
theorem s_115_235 {d : Nat} {Q : wQ} {L : List (Option Value)} {st : List Value} {w : aw} {cn sn : Nat} {a : Nat} {i : Int32} : wp d 115 Q 235 L (.int i :: .ref a :: st) w cn sn = ((kd w a = 20 ∨ kd w a = 30) ∧ inR i (ln w a) ∧ wp d 115 Q 236 L (.int (ai w a i.toNatClampNeg) :: st) w cn sn) := wp_row d_115_235 _ _ _ _ _
theorem d_115_236 : decode (mB 115) 236 = .ok (.sipush 255, 3) := by decide +kernel
theorem s_115_236 {d : Nat} {Q : wQ} {L : List (Option Value)} {st : List Value} {w : aw} {cn sn : Nat}  : wp d 115 Q 236 L st w cn sn = wp d 115 Q 239 L (.int 255 :: st) w cn sn := w_sipush d_115_236 (by decide)
theorem d_115_239 : decode (mB 115) 239 = .ok (.iand, 1) := by decide +kernel
theorem s_115_239 {d : Nat} {Q : wQ} {L : List (Option Value)} {st : List Value} {w : aw} {cn sn : Nat} {a b : Int32} : wp d 115 Q 239 L (.int b :: .int a :: st) w cn sn = wp d 115 Q 240 L (.int (a &&& b) :: st) w cn sn := wp_row d_115_239 _ _ _ _ _
theorem d_115_240 : decode (mB 115) 240 = .ok (.iastore, 1) := by decide +kernel
theorem s_115_240 {d : Nat} {Q : wQ} {L : List (Option Value)} {st : List Value} {w : aw} {cn sn : Nat} {a : Nat} {i x : Int32} : wp d 115 Q 240 L (.int x :: .int i :: .ref a :: st) w cn sn = (kd w a = 20 ∧ inR i (ln w a) ∧ wp d 115 Q 241 L st (uA w a i.toNatClampNeg x) cn sn) := wp_row d_115_240 _ _ _ _ _
theorem d_115_241 : decode (mB 115) 241 = .ok (.aload_n 0, 1) := by decide +kernel
theorem s_115_241 {d : Nat} {Q : wQ} {L : List (Option Value)} {st : List Value} {w : aw} {cn sn : Nat} {v : Nat} : wp d 115 Q 241 (some (.ref v) :: L) st w cn sn = wp d 115 Q 242 (some (.ref v) :: L) (.ref v :: st) w cn sn := w_aload_n d_115_241 rfl
theorem d_115_242 : decode (mB 115) 242 = .ok (.getfield 63, 3) := by decide +kernel
theorem s_115_242 {d : Nat} {Q : wQ} {L : List (Option Value)} {st : List Value} {w : aw} {cn sn : Nat} {a : Nat} : wp d 115 Q 242 L (.ref a :: st) w cn sn = (kd w a = 9 ∧ wp d 115 Q 245 L (fd w 539 a :: st) w cn sn) := w_getfield d_115_242 (by decide +kernel : fT (mO 115) 63 = some (8, 27))
theorem d_115_245 : decode (mB 115) 245 = .ok (.iload_n 1, 1) := by decide +kernel
theorem s_115_245 {d : Nat} {Q : wQ} {L : List (Option Value)} {st : List Value} {w : aw} {cn sn : Nat} {a0 : Option Value} {v : Int32} : wp d 115 Q 245 (a0 :: some (.int v) :: L) st w cn sn = wp d 115 Q 246 (a0 :: some (.int v) :: L) (.int v :: st) w cn sn := w_iload_n d_115_245 rfl
theorem d_115_246 : decode (mB 115) 246 = .ok (.dup2, 1) := by decide +kernel
theorem s_115_246 {d : Nat} {Q : wQ} {L : List (Option Value)} {st : List Value} {w : aw} {cn sn : Nat} {a b : Value} : wp d 115 Q 246 L (a :: b :: st) w cn sn = (a.category = 1 ∧ b.category = 1 ∧ wp d 115 Q 247 L (a :: b :: a :: b :: st) w cn sn) := wp_row d_115_246 _ _ _ _ _
theorem d_115_247 : decode (mB 115) 247 = .ok (.iaload, 1) := by decide +kernel
theorem s_115_247 {d : Nat} {Q : wQ} {L : List (Option Value)} {st : List Value} {w : aw} {cn sn : Nat} {a : Nat} {i : Int32} : wp d 115 Q 247 L (.int i :: .ref a :: st) w cn sn = ((kd w a = 20 ∨ kd w a = 30) ∧ inR i (ln w a) ∧ wp d 115 Q 248 L (.int (ai w a i.toNatClampNeg) :: st) w cn sn) := wp_row d_115_247 _ _ _ _ _
theorem d_115_248 : decode (mB 115) 248 = .ok (.iconst 1, 1) := by decide +kernel
theorem s_115_248 {d : Nat} {Q : wQ} {L : List (Option Value)} {st : List Value} {w : aw} {cn sn : Nat}  : wp d 115 Q 248 L st w cn sn = wp d 115 Q 249 L (.int 1 :: st) w cn sn := w_iconst d_115_248 (by decide)
theorem d_115_249 : decode (mB 115) 249 = .ok (.iadd, 1) := by decide +kernel
theorem s_115_249 {d : Nat} {Q : wQ} {L : List (Option Value)} {st : List Value} {w : aw} {cn sn : Nat} {a b : Int32} : wp d 115 Q 249 L (.int b :: .int a :: st) w cn sn = wp d 115 Q 250 L (.int (a + b) :: st) w cn sn := wp_row d_115_249 _ _ _ _ _
theorem d_115_250 : decode (mB 115) 250 = .ok (.iastore, 1) := by decide +kernel
theorem s_115_250 {d : Nat} {Q : wQ} {L : List (Option Value)} {st : List Value} {w : aw} {cn sn : Nat} {a : Nat} {i x : Int32} : wp d 115 Q 250 L (.int x :: .int i :: .ref a :: st) w cn sn = (kd w a = 20 ∧ inR i (ln w a) ∧ wp d 115 Q 251 L st (uA w a i.toNatClampNeg x) cn sn) := wp_row d_115_250 _ _ _ _ _
theorem d_115_251 : decode (mB 115) 251 = .ok (.goto 70, 3) := by decide +kernel
theorem s_115_251 {d : Nat} {Q : wQ} {L : List (Option Value)} {st : List Value} {w : aw} {cn sn : Nat}  : wp d 115 Q 251 L st w cn sn = wp d 115 Q 321 L st w cn sn := w_goto d_115_251 (by decide)
theorem d_115_254 : decode (mB 115) 254 = .ok (.aload_n 0, 1) := by decide +kernel
theorem s_115_254 {d : Nat} {Q : wQ} {L : List (Option Value)} {st : List Value} {w : aw} {cn sn : Nat} {v : Nat} : wp d 115 Q 254 (some (.ref v) :: L) st w cn sn = wp d 115 Q 255 (some (.ref v) :: L) (.ref v :: st) w cn sn := w_aload_n d_115_254 rfl
theorem d_115_255 : decode (mB 115) 255 = .ok (.getfield 30, 3) := by decide +kernel
theorem s_115_255 {d : Nat} {Q : wQ} {L : List (Option Value)} {st : List Value} {w : aw} {cn sn : Nat} {a : Nat} : wp d 115 Q 255 L (.ref a :: st) w cn sn = (kd w a = 9 ∧ wp d 115 Q 258 L (fd w 528 a :: st) w cn sn) := w_getfield d_115_255 (by decide +kernel : fT (mO 115) 30 = some (8, 16))
theorem d_115_258 : decode (mB 115) 258 = .ok (.iload_n 1, 1) := by decide +kernel
theorem s_115_258 {d : Nat} {Q : wQ} {L : List (Option Value)} {st : List Value} {w : aw} {cn sn : Nat} {a0 : Option Value} {v : Int32} : wp d 115 Q 258 (a0 :: some (.int v) :: L) st w cn sn = wp d 115 Q 259 (a0 :: some (.int v) :: L) (.int v :: st) w cn sn := w_iload_n d_115_258 rfl
theorem d_115_259 : decode (mB 115) 259 = .ok (.iaload, 1) := by decide +kernel
theorem s_115_259 {d : Nat} {Q : wQ} {L : List (Option Value)} {st : List Value} {w : aw} {cn sn : Nat} {a : Nat} {i : Int32} : wp d 115 Q 259 L (.int i :: .ref a :: st) w cn sn = ((kd w a = 20 ∨ kd w a = 30) ∧ inR i (ln w a) ∧ wp d 115 Q 260 L (.int (ai w a i.toNatClampNeg) :: st) w cn sn) := wp_row d_115_259 _ _ _ _ _
theorem d_115_260 : decode (mB 115) 260 = .ok (.ifCond .le 61, 3) := by decide +kernel
theorem s_115_260 {d : Nat} {Q : wQ} {L : List (Option Value)} {st : List Value} {w : aw} {cn sn : Nat} {x : Int32} : wp d 115 Q 260 L (.int x :: st) w cn sn = ((x ≤ 0 → wp d 115 Q 321 L st w cn sn) ∧ (¬ x ≤ 0 → wp d 115 Q 263 L st w cn sn)) := w_ifle d_115_260 (by decide)
theorem d_115_263 : decode (mB 115) 263 = .ok (.aload_n 0, 1) := by decide +kernel
theorem s_115_263 {d : Nat} {Q : wQ} {L : List (Option Value)} {st : List Value} {w : aw} {cn sn : Nat} {v : Nat} : wp d 115 Q 263 (some (.ref v) :: L) st w cn sn = wp d 115 Q 264 (some (.ref v) :: L) (.ref v :: st) w cn sn := w_aload_n d_115_263 rfl
theorem d_115_264 : decode (mB 115) 264 = .ok (.getfield 42, 3) := by decide +kernel
theorem s_115_264 {d : Nat} {Q : wQ} {L : List (Option Value)} {st : List Value} {w : aw} {cn sn : Nat} {a : Nat} : wp d 115 Q 264 L (.ref a :: st) w cn sn = (kd w a = 9 ∧ wp d 115 Q 267 L (fd w 532 a :: st) w cn sn) := w_getfield d_115_264 (by decide +kernel : fT (mO 115) 42 = some (8, 20))
theorem d_115_267 : decode (mB 115) 267 = .ok (.iload_n 1, 1) := by decide +kernel
theorem s_115_267 {d : Nat} {Q : wQ} {L : List (Option Value)} {st : List Value} {w : aw} {cn sn : Nat} {a0 : Option Value} {v : Int32} : wp d 115 Q 267 (a0 :: some (.int v) :: L) st w cn sn = wp d 115 Q 268 (a0 :: some (.int v) :: L) (.int v :: st) w cn sn := w_iload_n d_115_267 rfl
theorem d_115_268 : decode (mB 115) 268 = .ok (.aload_n 0, 1) := by decide +kernel
theorem s_115_268 {d : Nat} {Q : wQ} {L : List (Option Value)} {st : List Value} {w : aw} {cn sn : Nat} {v : Nat} : wp d 115 Q 268 (some (.ref v) :: L) st w cn sn = wp d 115 Q 269 (some (.ref v) :: L) (.ref v :: st) w cn sn := w_aload_n d_115_268 rfl
theorem d_115_269 : decode (mB 115) 269 = .ok (.getfield 30, 3) := by decide +kernel
theorem s_115_269 {d : Nat} {Q : wQ} {L : List (Option Value)} {st : List Value} {w : aw} {cn sn : Nat} {a : Nat} : wp d 115 Q 269 L (.ref a :: st) w cn sn = (kd w a = 9 ∧ wp d 115 Q 272 L (fd w 528 a :: st) w cn sn) := w_getfield d_115_269 (by decide +kernel : fT (mO 115) 30 = some (8, 16))
theorem d_115_272 : decode (mB 115) 272 = .ok (.iload_n 1, 1) := by decide +kernel
theorem s_115_272 {d : Nat} {Q : wQ} {L : List (Option Value)} {st : List Value} {w : aw} {cn sn : Nat} {a0 : Option Value} {v : Int32} : wp d 115 Q 272 (a0 :: some (.int v) :: L) st w cn sn = wp d 115 Q 273 (a0 :: some (.int v) :: L) (.int v :: st) w cn sn := w_iload_n d_115_272 rfl
theorem d_115_273 : decode (mB 115) 273 = .ok (.iaload, 1) := by decide +kernel
theorem s_115_273 {d : Nat} {Q : wQ} {L : List (Option Value)} {st : List Value} {w : aw} {cn sn : Nat} {a : Nat} {i : Int32} : wp d 115 Q 273 L (.int i :: .ref a :: st) w cn sn = ((kd w a = 20 ∨ kd w a = 30) ∧ inR i (ln w a) ∧ wp d 115 Q 274 L (.int (ai w a i.toNatClampNeg) :: st) w cn sn) := wp_row d_115_273 _ _ _ _ _
theorem d_115_274 : decode (mB 115) 274 = .ok (.iastore, 1) := by decide +kernel
theorem s_115_274 {d : Nat} {Q : wQ} {L : List (Option Value)} {st : List Value} {w : aw} {cn sn : Nat} {a : Nat} {i x : Int32} : wp d 115 Q 274 L (.int x :: .int i :: .ref a :: st) w cn sn = (kd w a = 20 ∧ inR i (ln w a) ∧ wp d 115 Q 275 L st (uA w a i.toNatClampNeg x) cn sn) := wp_row d_115_274 _ _ _ _ _
theorem d_115_275 : decode (mB 115) 275 = .ok (.aload_n 0, 1) := by decide +kernel
theorem s_115_275 {d : Nat} {Q : wQ} {L : List (Option Value)} {st : List Value} {w : aw} {cn sn : Nat} {v : Nat} : wp d 115 Q 275 (some (.ref v) :: L) st w cn sn = wp d 115 Q 276 (some (.ref v) :: L) (.ref v :: st) w cn sn := w_aload_n d_115_275 rfl
theorem d_115_276 : decode (mB 115) 276 = .ok (.getfield 30, 3) := by decide +kernel
theorem s_115_276 {d : Nat} {Q : wQ} {L : List (Option Value)} {st : List Value} {w : aw} {cn sn : Nat} {a : Nat} : wp d 115 Q 276 L (.ref a :: st) w cn sn = (kd w a = 9 ∧ wp d 115 Q 279 L (fd w 528 a :: st) w cn sn) := w_getfield d_115_276 (by decide +kernel : fT (mO 115) 30 = some (8, 16))
theorem d_115_279 : decode (mB 115) 279 = .ok (.iload_n 1, 1) := by decide +kernel
theorem s_115_279 {d : Nat} {Q : wQ} {L : List (Option Value)} {st : List Value} {w : aw} {cn sn : Nat} {a0 : Option Value} {v : Int32} : wp d 115 Q 279 (a0 :: some (.int v) :: L) st w cn sn = wp d 115 Q 280 (a0 :: some (.int v) :: L) (.int v :: st) w cn sn := w_iload_n d_115_279 rfl
theorem d_115_280 : decode (mB 115) 280 = .ok (.iconst 0, 1) := by decide +kernel
theorem s_115_280 {d : Nat} {Q : wQ} {L : List (Option Value)} {st : List Value} {w : aw} {cn sn : Nat}  : wp d 115 Q 280 L st w cn sn = wp d 115 Q 281 L (.int 0 :: st) w cn sn := w_iconst d_115_280 (by decide)
theorem d_115_281 : decode (mB 115) 281 = .ok (.iastore, 1) := by decide +kernel
theorem s_115_281 {d : Nat} {Q : wQ} {L : List (Option Value)} {st : List Value} {w : aw} {cn sn : Nat} {a : Nat} {i x : Int32} : wp d 115 Q 281 L (.int x :: .int i :: .ref a :: st) w cn sn = (kd w a = 20 ∧ inR i (ln w a) ∧ wp d 115 Q 282 L st (uA w a i.toNatClampNeg x) cn sn) := wp_row d_115_281 _ _ _ _ _
theorem d_115_282 : decode (mB 115) 282 = .ok (.aload_n 0, 1) := by decide +kernel
theorem s_115_282 {d : Nat} {Q : wQ} {L : List (Option Value)} {st : List Value} {w : aw} {cn sn : Nat} {v : Nat} : wp d 115 Q 282 (some (.ref v) :: L) st w cn sn = wp d 115 Q 283 (some (.ref v) :: L) (.ref v :: st) w cn sn := w_aload_n d_115_282 rfl
theorem d_115_283 : decode (mB 115) 283 = .ok (.iload_n 1, 1) := by decide +kernel
theorem s_115_283 {d : Nat} {Q : wQ} {L : List (Option Value)} {st : List Value} {w : aw} {cn sn : Nat} {a0 : Option Value} {v : Int32} : wp d 115 Q 283 (a0 :: some (.int v) :: L) st w cn sn = wp d 115 Q 284 (a0 :: some (.int v) :: L) (.int v :: st) w cn sn := w_iload_n d_115_283 rfl
theorem d_115_284 : decode (mB 115) 284 = .ok (.iconst 5, 1) := by decide +kernel
theorem s_115_284 {d : Nat} {Q : wQ} {L : List (Option Value)} {st : List Value} {w : aw} {cn sn : Nat}  : wp d 115 Q 284 L st w cn sn = wp d 115 Q 285 L (.int 5 :: st) w cn sn := w_iconst d_115_284 (by decide)
theorem d_115_285 : decode (mB 115) 285 = .ok (.invokevirtual 143, 3) := by decide +kernel
theorem s_115_285 {d : Nat} {Q : wQ} {L : List (Option Value)} {st : List Value} {w : aw} {cn sn : Nat} {v0 v1 : Value} {b : Nat} : wp d 115 Q 285 L (v1 :: v0 :: .ref b :: st) w cn sn = (kd w b = 9 ∧ catS st ≤ 8 ∧ wpD d 118 [.ref b, v0, v1] w (fun v w' => wp d 115 Q 288 L (v.toList ++ st) w' cn sn)) := w_virtual (As := [v0, v1]) d_115_285 (by decide +kernel : cT (mO 115) 143 = some (0, 118)) rfl (by decide +kernel) rfl (by decide +kernel) rfl
theorem d_115_288 : decode (mB 115) 288 = .ok (.goto 33, 3) := by decide +kernel
theorem s_115_288 {d : Nat} {Q : wQ} {L : List (Option Value)} {st : List Value} {w : aw} {cn sn : Nat}  : wp d 115 Q 288 L st w cn sn = wp d 115 Q 321 L st w cn sn := w_goto d_115_288 (by decide)
theorem d_115_291 : decode (mB 115) 291 = .ok (.aload_n 0, 1) := by decide +kernel
theorem s_115_291 {d : Nat} {Q : wQ} {L : List (Option Value)} {st : List Value} {w : aw} {cn sn : Nat} {v : Nat} : wp d 115 Q 291 (some (.ref v) :: L) st w cn sn = wp d 115 Q 292 (some (.ref v) :: L) (.ref v :: st) w cn sn := w_aload_n d_115_291 rfl
theorem d_115_292 : decode (mB 115) 292 = .ok (.iload_n 1, 1) := by decide +kernel
theorem s_115_292 {d : Nat} {Q : wQ} {L : List (Option Value)} {st : List Value} {w : aw} {cn sn : Nat} {a0 : Option Value} {v : Int32} : wp d 115 Q 292 (a0 :: some (.int v) :: L) st w cn sn = wp d 115 Q 293 (a0 :: some (.int v) :: L) (.int v :: st) w cn sn := w_iload_n d_115_292 rfl
theorem d_115_293 : decode (mB 115) 293 = .ok (.iload_n 2, 1) := by decide +kernel
theorem s_115_293 {d : Nat} {Q : wQ} {L : List (Option Value)} {st : List Value} {w : aw} {cn sn : Nat} {a0 a1 : Option Value} {v : Int32} : wp d 115 Q 293 (a0 :: a1 :: some (.int v) :: L) st w cn sn = wp d 115 Q 294 (a0 :: a1 :: some (.int v) :: L) (.int v :: st) w cn sn := w_iload_n d_115_293 rfl
theorem d_115_294 : decode (mB 115) 294 = .ok (.sipush 3114, 3) := by decide +kernel
theorem s_115_294 {d : Nat} {Q : wQ} {L : List (Option Value)} {st : List Value} {w : aw} {cn sn : Nat}  : wp d 115 Q 294 L st w cn sn = wp d 115 Q 297 L (.int 3114 :: st) w cn sn := w_sipush d_115_294 (by decide)
theorem d_115_297 : decode (mB 115) 297 = .ok (.if_icmp .ne 7, 3) := by decide +kernel
theorem s_115_297 {d : Nat} {Q : wQ} {L : List (Option Value)} {st : List Value} {w : aw} {cn sn : Nat} {a b : Int32} : wp d 115 Q 297 L (.int b :: .int a :: st) w cn sn = ((¬ a = b → wp d 115 Q 304 L st w cn sn) ∧ (a = b → wp d 115 Q 300 L st w cn sn)) := w_icne d_115_297 (by decide)
theorem d_115_300 : decode (mB 115) 300 = .ok (.iconst 1, 1) := by decide +kernel
theorem s_115_300 {d : Nat} {Q : wQ} {L : List (Option Value)} {st : List Value} {w : aw} {cn sn : Nat}  : wp d 115 Q 300 L st w cn sn = wp d 115 Q 301 L (.int 1 :: st) w cn sn := w_iconst d_115_300 (by decide)
theorem d_115_301 : decode (mB 115) 301 = .ok (.goto 4, 3) := by decide +kernel
theorem s_115_301 {d : Nat} {Q : wQ} {L : List (Option Value)} {st : List Value} {w : aw} {cn sn : Nat}  : wp d 115 Q 301 L st w cn sn = wp d 115 Q 305 L st w cn sn := w_goto d_115_301 (by decide)
theorem d_115_304 : decode (mB 115) 304 = .ok (.iconst 0, 1) := by decide +kernel
theorem s_115_304 {d : Nat} {Q : wQ} {L : List (Option Value)} {st : List Value} {w : aw} {cn sn : Nat}  : wp d 115 Q 304 L st w cn sn = wp d 115 Q 305 L (.int 0 :: st) w cn sn := w_iconst d_115_304 (by decide)
theorem d_115_305 : decode (mB 115) 305 = .ok (.invokevirtual 150, 3) := by decide +kernel
theorem s_115_305 {d : Nat} {Q : wQ} {L : List (Option Value)} {st : List Value} {w : aw} {cn sn : Nat} {v0 v1 : Value} {b : Nat} : wp d 115 Q 305 L (v1 :: v0 :: .ref b :: st) w cn sn = (kd w b = 9 ∧ catS st ≤ 8 ∧ wpD d 117 [.ref b, v0, v1] w (fun v w' => wp d 115 Q 308 L (v.toList ++ st) w' cn sn)) := w_virtual (As := [v0, v1]) d_115_305 (by decide +kernel : cT (mO 115) 150 = some (0, 117)) rfl (by decide +kernel) rfl (by decide +kernel) rfl
theorem d_115_308 : decode (mB 115) 308 = .ok (.goto 13, 3) := by decide +kernel
theorem s_115_308 {d : Nat} {Q : wQ} {L : List (Option Value)} {st : List Value} {w : aw} {cn sn : Nat}  : wp d 115 Q 308 L st w cn sn = wp d 115 Q 321 L st w cn sn := w_goto d_115_308 (by decide)
theorem d_115_311 : decode (mB 115) 311 = .ok (.aload_n 0, 1) := by decide +kernel
theorem s_115_311 {d : Nat} {Q : wQ} {L : List (Option Value)} {st : List Value} {w : aw} {cn sn : Nat} {v : Nat} : wp d 115 Q 311 (some (.ref v) :: L) st w cn sn = wp d 115 Q 312 (some (.ref v) :: L) (.ref v :: st) w cn sn := w_aload_n d_115_311 rfl
theorem d_115_312 : decode (mB 115) 312 = .ok (.getfield 30, 3) := by decide +kernel
theorem s_115_312 {d : Nat} {Q : wQ} {L : List (Option Value)} {st : List Value} {w : aw} {cn sn : Nat} {a : Nat} : wp d 115 Q 312 L (.ref a :: st) w cn sn = (kd w a = 9 ∧ wp d 115 Q 315 L (fd w 528 a :: st) w cn sn) := w_getfield d_115_312 (by decide +kernel : fT (mO 115) 30 = some (8, 16))
theorem d_115_315 : decode (mB 115) 315 = .ok (.iload_n 1, 1) := by decide +kernel
theorem s_115_315 {d : Nat} {Q : wQ} {L : List (Option Value)} {st : List Value} {w : aw} {cn sn : Nat} {a0 : Option Value} {v : Int32} : wp d 115 Q 315 (a0 :: some (.int v) :: L) st w cn sn = wp d 115 Q 316 (a0 :: some (.int v) :: L) (.int v :: st) w cn sn := w_iload_n d_115_315 rfl
theorem d_115_316 : decode (mB 115) 316 = .ok (.iload_n 1, 1) := by decide +kernel
theorem s_115_316 {d : Nat} {Q : wQ} {L : List (Option Value)} {st : List Value} {w : aw} {cn sn : Nat} {a0 : Option Value} {v : Int32} : wp d 115 Q 316 (a0 :: some (.int v) :: L) st w cn sn = wp d 115 Q 317 (a0 :: some (.int v) :: L) (.int v :: st) w cn sn := w_iload_n d_115_316 rfl
theorem d_115_317 : decode (mB 115) 317 = .ok (.iastore, 1) := by decide +kernel
theorem s_115_317 {d : Nat} {Q : wQ} {L : List (Option Value)} {st : List Value} {w : aw} {cn sn : Nat} {a : Nat} {i x : Int32} : wp d 115 Q 317 L (.int x :: .int i :: .ref a :: st) w cn sn = (kd w a = 20 ∧ inR i (ln w a) ∧ wp d 115 Q 318 L st (uA w a i.toNatClampNeg x) cn sn) := wp_row d_115_317 _ _ _ _ _
theorem d_115_318 : decode (mB 115) 318 = .ok (.goto 3, 3) := by decide +kernel
theorem s_115_318 {d : Nat} {Q : wQ} {L : List (Option Value)} {st : List Value} {w : aw} {cn sn : Nat}  : wp d 115 Q 318 L st w cn sn = wp d 115 Q 321 L st w cn sn := w_goto d_115_318 (by decide)
theorem d_115_321 : decode (mB 115) 321 = .ok (.return_, 1) := by decide +kernel
theorem s_115_321 {d : Nat} {Q : wQ} {L : List (Option Value)} {w : aw} {cn sn : Nat}  : wp d 115 Q 321 L [] w cn sn = Q none w := w_return d_115_321 rfl
theorem d_116_0 : decode (mB 116) 0 = .ok (.aload_n 0, 1) := by decide +kernel
theorem s_116_0 {d : Nat} {Q : wQ} {L : List (Option Value)} {st : List Value} {w : aw} {cn sn : Nat} {v : Nat} : wp d 116 Q 0 (some (.ref v) :: L) st w cn sn = wp d 116 Q 1 (some (.ref v) :: L) (.ref v :: st) w cn sn := w_aload_n d_116_0 rfl
theorem s_116_0n {d : Nat} {Q : wQ} {L : List (Option Value)} {st : List Value} {w : aw} {cn sn : Nat}  : wp d 116 Q 0 (some .null :: L) st w cn sn = wp d 116 Q 1 (some .null :: L) (.null :: st) w cn sn := w_aload_nN d_116_0 rfl
theorem d_116_1 : decode (mB 116) 1 = .ok (.bipush 16, 2) := by decide +kernel
theorem s_116_1 {d : Nat} {Q : wQ} {L : List (Option Value)} {st : List Value} {w : aw} {cn sn : Nat}  : wp d 116 Q 1 L st w cn sn = wp d 116 Q 3 L (.int 16 :: st) w cn sn := w_bipush d_116_1 (by decide)
theorem d_116_3 : decode (mB 116) 3 = .ok (.iload_n 2, 1) := by decide +kernel
theorem s_116_3 {d : Nat} {Q : wQ} {L : List (Option Value)} {st : List Value} {w : aw} {cn sn : Nat} {a0 a1 : Option Value} {v : Int32} : wp d 116 Q 3 (a0 :: a1 :: some (.int v) :: L) st w cn sn = wp d 116 Q 4 (a0 :: a1 :: some (.int v) :: L) (.int v :: st) w cn sn := w_iload_n d_116_3 rfl
theorem d_116_4 : decode (mB 116) 4 = .ok (.imul, 1) := by decide +kernel
theorem s_116_4 {d : Nat} {Q : wQ} {L : List (Option Value)} {st : List Value} {w : aw} {cn sn : Nat} {a b : Int32} : wp d 116 Q 4 L (.int b :: .int a :: st) w cn sn = wp d 116 Q 5 L (.int (a * b) :: st) w cn sn := wp_row d_116_4 _ _ _ _ _
theorem d_116_5 : decode (mB 116) 5 = .ok (.iaload, 1) := by decide +kernel
theorem s_116_5 {d : Nat} {Q : wQ} {L : List (Option Value)} {st : List Value} {w : aw} {cn sn : Nat} {a : Nat} {i : Int32} : wp d 116 Q 5 L (.int i :: .ref a :: st) w cn sn = ((kd w a = 20 ∨ kd w a = 30) ∧ inR i (ln w a) ∧ wp d 116 Q 6 L (.int (ai w a i.toNatClampNeg) :: st) w cn sn) := wp_row d_116_5 _ _ _ _ _
theorem d_116_6 : decode (mB 116) 6 = .ok (.istore_n 3, 1) := by decide +kernel
theorem s_116_6 {d : Nat} {Q : wQ} {L : List (Option Value)} {st : List Value} {w : aw} {cn sn : Nat} {a0 a1 a2 a3 : Option Value} {v : Int32} : wp d 116 Q 6 (a0 :: a1 :: a2 :: a3 :: L) (.int v :: st) w cn sn = wp d 116 Q 7 (a0 :: a1 :: clr a2 :: some (.int v) :: L) st w cn sn := w_istore_n d_116_6 (Nat.le_add_left 4 _) rfl
theorem d_116_7 : decode (mB 116) 7 = .ok (.aload_n 1, 1) := by decide +kernel
theorem s_116_7 {d : Nat} {Q : wQ} {L : List (Option Value)} {st : List Value} {w : aw} {cn sn : Nat} {a0 : Option Value} {v : Nat} : wp d 116 Q 7 (a0 :: some (.ref v) :: L) st w cn sn = wp d 116 Q 8 (a0 :: some (.ref v) :: L) (.ref v :: st) w cn sn := w_aload_n d_116_7 rfl
theorem s_116_7n {d : Nat} {Q : wQ} {L : List (Option Value)} {st : List Value} {w : aw} {cn sn : Nat} {a0 : Option Value} : wp d 116 Q 7 (a0 :: some .null :: L) st w cn sn = wp d 116 Q 8 (a0 :: some .null :: L) (.null :: st) w cn sn := w_aload_nN d_116_7 rfl
theorem d_116_8 : decode (mB 116) 8 = .ok (.iload_n 2, 1) := by decide +kernel
theorem s_116_8 {d : Nat} {Q : wQ} {L : List (Option Value)} {st : List Value} {w : aw} {cn sn : Nat} {a0 a1 : Option Value} {v : Int32} : wp d 116 Q 8 (a0 :: a1 :: some (.int v) :: L) st w cn sn = wp d 116 Q 9 (a0 :: a1 :: some (.int v) :: L) (.int v :: st) w cn sn := w_iload_n d_116_8 rfl
theorem d_116_9 : decode (mB 116) 9 = .ok (.dup2, 1) := by decide +kernel
theorem s_116_9 {d : Nat} {Q : wQ} {L : List (Option Value)} {st : List Value} {w : aw} {cn sn : Nat} {a b : Value} : wp d 116 Q 9 L (a :: b :: st) w cn sn = (a.category = 1 ∧ b.category = 1 ∧ wp d 116 Q 10 L (a :: b :: a :: b :: st) w cn sn) := wp_row d_116_9 _ _ _ _ _
theorem d_116_10 : decode (mB 116) 10 = .ok (.iaload, 1) := by decide +kernel
theorem s_116_10 {d : Nat} {Q : wQ} {L : List (Option Value)} {st : List Value} {w : aw} {cn sn : Nat} {a : Nat} {i : Int32} : wp d 116 Q 10 L (.int i :: .ref a :: st) w cn sn = ((kd w a = 20 ∨ kd w a = 30) ∧ inR i (ln w a) ∧ wp d 116 Q 11 L (.int (ai w a i.toNatClampNeg) :: st) w cn sn) := wp_row d_116_10 _ _ _ _ _
theorem d_116_11 : decode (mB 116) 11 = .ok (.iconst 1, 1) := by decide +kernel
theorem s_116_11 {d : Nat} {Q : wQ} {L : List (Option Value)} {st : List Value} {w : aw} {cn sn : Nat}  : wp d 116 Q 11 L st w cn sn = wp d 116 Q 12 L (.int 1 :: st) w cn sn := w_iconst d_116_11 (by decide)
theorem d_116_12 : decode (mB 116) 12 = .ok (.isub, 1) := by decide +kernel
theorem s_116_12 {d : Nat} {Q : wQ} {L : List (Option Value)} {st : List Value} {w : aw} {cn sn : Nat} {a b : Int32} : wp d 116 Q 12 L (.int b :: .int a :: st) w cn sn = wp d 116 Q 13 L (.int (a - b) :: st) w cn sn := wp_row d_116_12 _ _ _ _ _
theorem d_116_13 : decode (mB 116) 13 = .ok (.iastore, 1) := by decide +kernel
theorem s_116_13 {d : Nat} {Q : wQ} {L : List (Option Value)} {st : List Value} {w : aw} {cn sn : Nat} {a : Nat} {i x : Int32} : wp d 116 Q 13 L (.int x :: .int i :: .ref a :: st) w cn sn = (kd w a = 20 ∧ inR i (ln w a) ∧ wp d 116 Q 14 L st (uA w a i.toNatClampNeg x) cn sn) := wp_row d_116_13 _ _ _ _ _
theorem d_116_14 : decode (mB 116) 14 = .ok (.iconst 0, 1) := by decide +kernel
theorem s_116_14 {d : Nat} {Q : wQ} {L : List (Option Value)} {st : List Value} {w : aw} {cn sn : Nat}  : wp d 116 Q 14 L st w cn sn = wp d 116 Q 15 L (.int 0 :: st) w cn sn := w_iconst d_116_14 (by decide)
theorem d_116_15 : decode (mB 116) 15 = .ok (.istore 4, 2) := by decide +kernel
theorem s_116_15 {d : Nat} {Q : wQ} {L : List (Option Value)} {st : List Value} {w : aw} {cn sn : Nat} {a0 a1 a2 a3 a4 : Option Value} {v : Int32} : wp d 116 Q 15 (a0 :: a1 :: a2 :: a3 :: a4 :: L) (.int v :: st) w cn sn = wp d 116 Q 17 (a0 :: a1 :: a2 :: clr a3 :: some (.int v) :: L) st w cn sn := w_istore d_116_15 (Nat.le_add_left 5 _) rfl
theorem d_116_17 : decode (mB 116) 17 = .ok (.iload 4, 2) := by decide +kernel
theorem s_116_17 {d : Nat} {Q : wQ} {L : List (Option Value)} {st : List Value} {w : aw} {cn sn : Nat} {a0 a1 a2 a3 : Option Value} {v : Int32} : wp d 116 Q 17 (a0 :: a1 :: a2 :: a3 :: some (.int v) :: L) st w cn sn = wp d 116 Q 19 (a0 :: a1 :: a2 :: a3 :: some (.int v) :: L) (.int v :: st) w cn sn := w_iload d_116_17 rfl
theorem d_116_19 : decode (mB 116) 19 = .ok (.aload_n 1, 1) := by decide +kernel
theorem s_116_19 {d : Nat} {Q : wQ} {L : List (Option Value)} {st : List Value} {w : aw} {cn sn : Nat} {a0 : Option Value} {v : Nat} : wp d 116 Q 19 (a0 :: some (.ref v) :: L) st w cn sn = wp d 116 Q 20 (a0 :: some (.ref v) :: L) (.ref v :: st) w cn sn := w_aload_n d_116_19 rfl
theorem s_116_19n {d : Nat} {Q : wQ} {L : List (Option Value)} {st : List Value} {w : aw} {cn sn : Nat} {a0 : Option Value} : wp d 116 Q 19 (a0 :: some .null :: L) st w cn sn = wp d 116 Q 20 (a0 :: some .null :: L) (.null :: st) w cn sn := w_aload_nN d_116_19 rfl
theorem d_116_20 : decode (mB 116) 20 = .ok (.iload_n 2, 1) := by decide +kernel
theorem s_116_20 {d : Nat} {Q : wQ} {L : List (Option Value)} {st : List Value} {w : aw} {cn sn : Nat} {a0 a1 : Option Value} {v : Int32} : wp d 116 Q 20 (a0 :: a1 :: some (.int v) :: L) st w cn sn = wp d 116 Q 21 (a0 :: a1 :: some (.int v) :: L) (.int v :: st) w cn sn := w_iload_n d_116_20 rfl
theorem d_116_21 : decode (mB 116) 21 = .ok (.iaload, 1) := by decide +kernel
theorem s_116_21 {d : Nat} {Q : wQ} {L : List (Option Value)} {st : List Value} {w : aw} {cn sn : Nat} {a : Nat} {i : Int32} : wp d 116 Q 21 L (.int i :: .ref a :: st) w cn sn = ((kd w a = 20 ∨ kd w a = 30) ∧ inR i (ln w a) ∧ wp d 116 Q 22 L (.int (ai w a i.toNatClampNeg) :: st) w cn sn) := wp_row d_116_21 _ _ _ _ _
theorem d_116_22 : decode (mB 116) 22 = .ok (.if_icmp .ge 29, 3) := by decide +kernel
theorem s_116_22 {d : Nat} {Q : wQ} {L : List (Option Value)} {st : List Value} {w : aw} {cn sn : Nat} {a b : Int32} : wp d 116 Q 22 L (.int b :: .int a :: st) w cn sn = ((b ≤ a → wp d 116 Q 51 L st w cn sn) ∧ (¬ b ≤ a → wp d 116 Q 25 L st w cn sn)) := w_icge d_116_22 (by decide)
theorem d_116_25 : decode (mB 116) 25 = .ok (.aload_n 0, 1) := by decide +kernel
theorem s_116_25 {d : Nat} {Q : wQ} {L : List (Option Value)} {st : List Value} {w : aw} {cn sn : Nat} {v : Nat} : wp d 116 Q 25 (some (.ref v) :: L) st w cn sn = wp d 116 Q 26 (some (.ref v) :: L) (.ref v :: st) w cn sn := w_aload_n d_116_25 rfl
theorem s_116_25n {d : Nat} {Q : wQ} {L : List (Option Value)} {st : List Value} {w : aw} {cn sn : Nat}  : wp d 116 Q 25 (some .null :: L) st w cn sn = wp d 116 Q 26 (some .null :: L) (.null :: st) w cn sn := w_aload_nN d_116_25 rfl
theorem d_116_26 : decode (mB 116) 26 = .ok (.bipush 16, 2) := by decide +kernel
theorem s_116_26 {d : Nat} {Q : wQ} {L : List (Option Value)} {st : List Value} {w : aw} {cn sn : Nat}  : wp d 116 Q 26 L st w cn sn = wp d 116 Q 28 L (.int 16 :: st) w cn sn := w_bipush d_116_26 (by decide)
theorem d_116_28 : decode (mB 116) 28 = .ok (.iload_n 2, 1) := by decide +kernel
theorem s_116_28 {d : Nat} {Q : wQ} {L : List (Option Value)} {st : List Value} {w : aw} {cn sn : Nat} {a0 a1 : Option Value} {v : Int32} : wp d 116 Q 28 (a0 :: a1 :: some (.int v) :: L) st w cn sn = wp d 116 Q 29 (a0 :: a1 :: some (.int v) :: L) (.int v :: st) w cn sn := w_iload_n d_116_28 rfl
theorem d_116_29 : decode (mB 116) 29 = .ok (.imul, 1) := by decide +kernel
theorem s_116_29 {d : Nat} {Q : wQ} {L : List (Option Value)} {st : List Value} {w : aw} {cn sn : Nat} {a b : Int32} : wp d 116 Q 29 L (.int b :: .int a :: st) w cn sn = wp d 116 Q 30 L (.int (a * b) :: st) w cn sn := wp_row d_116_29 _ _ _ _ _
theorem d_116_30 : decode (mB 116) 30 = .ok (.iload 4, 2) := by decide +kernel
theorem s_116_30 {d : Nat} {Q : wQ} {L : List (Option Value)} {st : List Value} {w : aw} {cn sn : Nat} {a0 a1 a2 a3 : Option Value} {v : Int32} : wp d 116 Q 30 (a0 :: a1 :: a2 :: a3 :: some (.int v) :: L) st w cn sn = wp d 116 Q 32 (a0 :: a1 :: a2 :: a3 :: some (.int v) :: L) (.int v :: st) w cn sn := w_iload d_116_30 rfl
theorem d_116_32 : decode (mB 116) 32 = .ok (.iadd, 1) := by decide +kernel
theorem s_116_32 {d : Nat} {Q : wQ} {L : List (Option Value)} {st : List Value} {w : aw} {cn sn : Nat} {a b : Int32} : wp d 116 Q 32 L (.int b :: .int a :: st) w cn sn = wp d 116 Q 33 L (.int (a + b) :: st) w cn sn := wp_row d_116_32 _ _ _ _ _
theorem d_116_33 : decode (mB 116) 33 = .ok (.aload_n 0, 1) := by decide +kernel
theorem s_116_33 {d : Nat} {Q : wQ} {L : List (Option Value)} {st : List Value} {w : aw} {cn sn : Nat} {v : Nat} : wp d 116 Q 33 (some (.ref v) :: L) st w cn sn = wp d 116 Q 34 (some (.ref v) :: L) (.ref v :: st) w cn sn := w_aload_n d_116_33 rfl
theorem s_116_33n {d : Nat} {Q : wQ} {L : List (Option Value)} {st : List Value} {w : aw} {cn sn : Nat}  : wp d 116 Q 33 (some .null :: L) st w cn sn = wp d 116 Q 34 (some .null :: L) (.null :: st) w cn sn := w_aload_nN d_116_33 rfl
theorem d_116_34 : decode (mB 116) 34 = .ok (.bipush 16, 2) := by decide +kernel
theorem s_116_34 {d : Nat} {Q : wQ} {L : List (Option Value)} {st : List Value} {w : aw} {cn sn : Nat}  : wp d 116 Q 34 L st w cn sn = wp d 116 Q 36 L (.int 16 :: st) w cn sn := w_bipush d_116_34 (by decide)
theorem d_116_36 : decode (mB 116) 36 = .ok (.iload_n 2, 1) := by decide +kernel
theorem s_116_36 {d : Nat} {Q : wQ} {L : List (Option Value)} {st : List Value} {w : aw} {cn sn : Nat} {a0 a1 : Option Value} {v : Int32} : wp d 116 Q 36 (a0 :: a1 :: some (.int v) :: L) st w cn sn = wp d 116 Q 37 (a0 :: a1 :: some (.int v) :: L) (.int v :: st) w cn sn := w_iload_n d_116_36 rfl
theorem d_116_37 : decode (mB 116) 37 = .ok (.imul, 1) := by decide +kernel
theorem s_116_37 {d : Nat} {Q : wQ} {L : List (Option Value)} {st : List Value} {w : aw} {cn sn : Nat} {a b : Int32} : wp d 116 Q 37 L (.int b :: .int a :: st) w cn sn = wp d 116 Q 38 L (.int (a * b) :: st) w cn sn := wp_row d_116_37 _ _ _ _ _
theorem d_116_38 : decode (mB 116) 38 = .ok (.iload 4, 2) := by decide +kernel
theorem s_116_38 {d : Nat} {Q : wQ} {L : List (Option Value)} {st : List Value} {w : aw} {cn sn : Nat} {a0 a1 a2 a3 : Option Value} {v : Int32} : wp d 116 Q 38 (a0 :: a1 :: a2 :: a3 :: some (.int v) :: L) st w cn sn = wp d 116 Q 40 (a0 :: a1 :: a2 :: a3 :: some (.int v) :: L) (.int v :: st) w cn sn := w_iload d_116_38 rfl
theorem d_116_40 : decode (mB 116) 40 = .ok (.iadd, 1) := by decide +kernel
theorem s_116_40 {d : Nat} {Q : wQ} {L : List (Option Value)} {st : List Value} {w : aw} {cn sn : Nat} {a b : Int32} : wp d 116 Q 40 L (.int b :: .int a :: st) w cn sn = wp d 116 Q 41 L (.int (a + b) :: st) w cn sn := wp_row d_116_40 _ _ _ _ _
theorem d_116_41 : decode (mB 116) 41 = .ok (.iconst 1, 1) := by decide +kernel
theorem s_116_41 {d : Nat} {Q : wQ} {L : List (Option Value)} {st : List Value} {w : aw} {cn sn : Nat}  : wp d 116 Q 41 L st w cn sn = wp d 116 Q 42 L (.int 1 :: st) w cn sn := w_iconst d_116_41 (by decide)
theorem d_116_42 : decode (mB 116) 42 = .ok (.iadd, 1) := by decide +kernel
theorem s_116_42 {d : Nat} {Q : wQ} {L : List (Option Value)} {st : List Value} {w : aw} {cn sn : Nat} {a b : Int32} : wp d 116 Q 42 L (.int b :: .int a :: st) w cn sn = wp d 116 Q 43 L (.int (a + b) :: st) w cn sn := wp_row d_116_42 _ _ _ _ _
theorem d_116_43 : decode (mB 116) 43 = .ok (.iaload, 1) := by decide +kernel
theorem s_116_43 {d : Nat} {Q : wQ} {L : List (Option Value)} {st : List Value} {w : aw} {cn sn : Nat} {a : Nat} {i : Int32} : wp d 116 Q 43 L (.int i :: .ref a :: st) w cn sn = ((kd w a = 20 ∨ kd w a = 30) ∧ inR i (ln w a) ∧ wp d 116 Q 44 L (.int (ai w a i.toNatClampNeg) :: st) w cn sn) := wp_row d_116_43 _ _ _ _ _
theorem d_116_44 : decode (mB 116) 44 = .ok (.iastore, 1) := by decide +kernel
theorem s_116_44 {d : Nat} {Q : wQ} {L : List (Option Value)} {st : List Value} {w : aw} {cn sn : Nat} {a : Nat} {i x : Int32} : wp d 116 Q 44 L (.int x :: .int i :: .ref a :: st) w cn sn = (kd w a = 20 ∧ inR i (ln w a) ∧ wp d 116 Q 45 L st (uA w a i.toNatClampNeg x) cn sn) := wp_row d_116_44 _ _ _ _ _
theorem d_116_45 : decode (mB 116) 45 = .ok (.iinc 4 1, 3) := by decide +kernel
theorem s_116_45 {d : Nat} {Q : wQ} {L : List (Option Value)} {st : List Value} {w : aw} {cn sn : Nat} {a0 a1 a2 a3 : Option Value} {v : Int32} : wp d 116 Q 45 (a0 :: a1 :: a2 :: a3 :: some (.int v) :: L) st w cn sn = wp d 116 Q 48 (a0 :: a1 :: a2 :: clr a3 :: some (.int (v + 1)) :: L) st w cn sn := w_iinc d_116_45 rfl (by decide) rfl
theorem d_116_48 : decode (mB 116) 48 = .ok (.goto (-31), 3) := by decide +kernel
theorem s_116_48 {d : Nat} {Q : wQ} {L : List (Option Value)} {st : List Value} {w : aw} {cn sn : Nat}  : wp d 116 Q 48 L st w cn sn = wp d 116 Q 17 L st w cn sn := w_goto d_116_48 (by decide)
theorem d_116_51 : decode (mB 116) 51 = .ok (.iload_n 3, 1) := by decide +kernel
theorem s_116_51 {d : Nat} {Q : wQ} {L : List (Option Value)} {st : List Value} {w : aw} {cn sn : Nat} {a0 a1 a2 : Option Value} {v : Int32} : wp d 116 Q 51 (a0 :: a1 :: a2 :: some (.int v) :: L) st w cn sn = wp d 116 Q 52 (a0 :: a1 :: a2 :: some (.int v) :: L) (.int v :: st) w cn sn := w_iload_n d_116_51 rfl
theorem d_116_52 : decode (mB 116) 52 = .ok (.ireturn, 1) := by decide +kernel
theorem s_116_52 {d : Nat} {Q : wQ} {L : List (Option Value)} {w : aw} {cn sn : Nat} {v : Int32} : wp d 116 Q 52 L [.int v] w cn sn = Q (some (.int v)) w := w_ireturn d_116_52 rfl
theorem d_117_0 : decode (mB 117) 0 = .ok (.aload_n 0, 1) := by decide +kernel
theorem s_117_0 {d : Nat} {Q : wQ} {L : List (Option Value)} {st : List Value} {w : aw} {cn sn : Nat} {v : Nat} : wp d 117 Q 0 (some (.ref v) :: L) st w cn sn = wp d 117 Q 1 (some (.ref v) :: L) (.ref v :: st) w cn sn := w_aload_n d_117_0 rfl
theorem d_117_1 : decode (mB 117) 1 = .ok (.iload_n 1, 1) := by decide +kernel
theorem s_117_1 {d : Nat} {Q : wQ} {L : List (Option Value)} {st : List Value} {w : aw} {cn sn : Nat} {a0 : Option Value} {v : Int32} : wp d 117 Q 1 (a0 :: some (.int v) :: L) st w cn sn = wp d 117 Q 2 (a0 :: some (.int v) :: L) (.int v :: st) w cn sn := w_iload_n d_117_1 rfl
theorem d_117_2 : decode (mB 117) 2 = .ok (.aload_n 0, 1) := by decide +kernel
theorem s_117_2 {d : Nat} {Q : wQ} {L : List (Option Value)} {st : List Value} {w : aw} {cn sn : Nat} {v : Nat} : wp d 117 Q 2 (some (.ref v) :: L) st w cn sn = wp d 117 Q 3 (some (.ref v) :: L) (.ref v :: st) w cn sn := w_aload_n d_117_2 rfl
theorem d_117_3 : decode (mB 117) 3 = .ok (.getfield 33, 3) := by decide +kernel
theorem s_117_3 {d : Nat} {Q : wQ} {L : List (Option Value)} {st : List Value} {w : aw} {cn sn : Nat} {a : Nat} : wp d 117 Q 3 L (.ref a :: st) w cn sn = (kd w a = 9 ∧ wp d 117 Q 6 L (fd w 529 a :: st) w cn sn) := w_getfield d_117_3 (by decide +kernel : fT (mO 117) 33 = some (8, 17))
theorem d_117_6 : decode (mB 117) 6 = .ok (.iload_n 1, 1) := by decide +kernel
theorem s_117_6 {d : Nat} {Q : wQ} {L : List (Option Value)} {st : List Value} {w : aw} {cn sn : Nat} {a0 : Option Value} {v : Int32} : wp d 117 Q 6 (a0 :: some (.int v) :: L) st w cn sn = wp d 117 Q 7 (a0 :: some (.int v) :: L) (.int v :: st) w cn sn := w_iload_n d_117_6 rfl
theorem d_117_7 : decode (mB 117) 7 = .ok (.iaload, 1) := by decide +kernel
theorem s_117_7 {d : Nat} {Q : wQ} {L : List (Option Value)} {st : List Value} {w : aw} {cn sn : Nat} {a : Nat} {i : Int32} : wp d 117 Q 7 L (.int i :: .ref a :: st) w cn sn = ((kd w a = 20 ∨ kd w a = 30) ∧ inR i (ln w a) ∧ wp d 117 Q 8 L (.int (ai w a i.toNatClampNeg) :: st) w cn sn) := wp_row d_117_7 _ _ _ _ _
theorem d_117_8 : decode (mB 117) 8 = .ok (.invokevirtual 115, 3) := by decide +kernel
theorem s_117_8 {d : Nat} {Q : wQ} {L : List (Option Value)} {st : List Value} {w : aw} {cn sn : Nat} {v0 v1 : Value} {b : Nat} : wp d 117 Q 8 L (v1 :: v0 :: .ref b :: st) w cn sn = (kd w b = 9 ∧ catS st ≤ 8 ∧ wpD d 107 [.ref b, v0, v1] w (fun v w' => wp d 117 Q 11 L (v.toList ++ st) w' cn sn)) := w_virtual (As := [v0, v1]) d_117_8 (by decide +kernel : cT (mO 117) 115 = some (0, 107)) rfl (by decide +kernel) rfl (by decide +kernel) rfl
theorem d_117_11 : decode (mB 117) 11 = .ok (.istore_n 3, 1) := by decide +kernel
theorem s_117_11 {d : Nat} {Q : wQ} {L : List (Option Value)} {st : List Value} {w : aw} {cn sn : Nat} {a0 a1 a2 a3 : Option Value} {v : Int32} : wp d 117 Q 11 (a0 :: a1 :: a2 :: a3 :: L) (.int v :: st) w cn sn = wp d 117 Q 12 (a0 :: a1 :: clr a2 :: some (.int v) :: L) st w cn sn := w_istore_n d_117_11 (Nat.le_add_left 4 _) rfl
theorem d_117_12 : decode (mB 117) 12 = .ok (.aload_n 0, 1) := by decide +kernel
theorem s_117_12 {d : Nat} {Q : wQ} {L : List (Option Value)} {st : List Value} {w : aw} {cn sn : Nat} {v : Nat} : wp d 117 Q 12 (some (.ref v) :: L) st w cn sn = wp d 117 Q 13 (some (.ref v) :: L) (.ref v :: st) w cn sn := w_aload_n d_117_12 rfl
theorem d_117_13 : decode (mB 117) 13 = .ok (.getfield 33, 3) := by decide +kernel
theorem s_117_13 {d : Nat} {Q : wQ} {L : List (Option Value)} {st : List Value} {w : aw} {cn sn : Nat} {a : Nat} : wp d 117 Q 13 L (.ref a :: st) w cn sn = (kd w a = 9 ∧ wp d 117 Q 16 L (fd w 529 a :: st) w cn sn) := w_getfield d_117_13 (by decide +kernel : fT (mO 117) 33 = some (8, 17))
theorem d_117_16 : decode (mB 117) 16 = .ok (.iload_n 1, 1) := by decide +kernel
theorem s_117_16 {d : Nat} {Q : wQ} {L : List (Option Value)} {st : List Value} {w : aw} {cn sn : Nat} {a0 : Option Value} {v : Int32} : wp d 117 Q 16 (a0 :: some (.int v) :: L) st w cn sn = wp d 117 Q 17 (a0 :: some (.int v) :: L) (.int v :: st) w cn sn := w_iload_n d_117_16 rfl
theorem d_117_17 : decode (mB 117) 17 = .ok (.aload_n 0, 1) := by decide +kernel
theorem s_117_17 {d : Nat} {Q : wQ} {L : List (Option Value)} {st : List Value} {w : aw} {cn sn : Nat} {v : Nat} : wp d 117 Q 17 (some (.ref v) :: L) st w cn sn = wp d 117 Q 18 (some (.ref v) :: L) (.ref v :: st) w cn sn := w_aload_n d_117_17 rfl
theorem d_117_18 : decode (mB 117) 18 = .ok (.getfield 33, 3) := by decide +kernel
theorem s_117_18 {d : Nat} {Q : wQ} {L : List (Option Value)} {st : List Value} {w : aw} {cn sn : Nat} {a : Nat} : wp d 117 Q 18 L (.ref a :: st) w cn sn = (kd w a = 9 ∧ wp d 117 Q 21 L (fd w 529 a :: st) w cn sn) := w_getfield d_117_18 (by decide +kernel : fT (mO 117) 33 = some (8, 17))
theorem d_117_21 : decode (mB 117) 21 = .ok (.iload_n 1, 1) := by decide +kernel
theorem s_117_21 {d : Nat} {Q : wQ} {L : List (Option Value)} {st : List Value} {w : aw} {cn sn : Nat} {a0 : Option Value} {v : Int32} : wp d 117 Q 21 (a0 :: some (.int v) :: L) st w cn sn = wp d 117 Q 22 (a0 :: some (.int v) :: L) (.int v :: st) w cn sn := w_iload_n d_117_21 rfl
theorem d_117_22 : decode (mB 117) 22 = .ok (.iaload, 1) := by decide +kernel
theorem s_117_22 {d : Nat} {Q : wQ} {L : List (Option Value)} {st : List Value} {w : aw} {cn sn : Nat} {a : Nat} {i : Int32} : wp d 117 Q 22 L (.int i :: .ref a :: st) w cn sn = ((kd w a = 20 ∨ kd w a = 30) ∧ inR i (ln w a) ∧ wp d 117 Q 23 L (.int (ai w a i.toNatClampNeg) :: st) w cn sn) := wp_row d_117_22 _ _ _ _ _
theorem d_117_23 : decode (mB 117) 23 = .ok (.iconst 1, 1) := by decide +kernel
theorem s_117_23 {d : Nat} {Q : wQ} {L : List (Option Value)} {st : List Value} {w : aw} {cn sn : Nat}  : wp d 117 Q 23 L st w cn sn = wp d 117 Q 24 L (.int 1 :: st) w cn sn := w_iconst d_117_23 (by decide)
theorem d_117_24 : decode (mB 117) 24 = .ok (.iadd, 1) := by decide +kernel
theorem s_117_24 {d : Nat} {Q : wQ} {L : List (Option Value)} {st : List Value} {w : aw} {cn sn : Nat} {a b : Int32} : wp d 117 Q 24 L (.int b :: .int a :: st) w cn sn = wp d 117 Q 25 L (.int (a + b) :: st) w cn sn := wp_row d_117_24 _ _ _ _ _
theorem d_117_25 : decode (mB 117) 25 = .ok (.sipush 4095, 3) := by decide +kernel
theorem s_117_25 {d : Nat} {Q : wQ} {L : List (Option Value)} {st : List Value} {w : aw} {cn sn : Nat}  : wp d 117 Q 25 L st w cn sn = wp d 117 Q 28 L (.int 4095 :: st) w cn sn := w_sipush d_117_25 (by decide)
theorem d_117_28 : decode (mB 117) 28 = .ok (.iand, 1) := by decide +kernel
theorem s_117_28 {d : Nat} {Q : wQ} {L : List (Option Value)} {st : List Value} {w : aw} {cn sn : Nat} {a b : Int32} : wp d 117 Q 28 L (.int b :: .int a :: st) w cn sn = wp d 117 Q 29 L (.int (a &&& b) :: st) w cn sn := wp_row d_117_28 _ _ _ _ _
theorem d_117_29 : decode (mB 117) 29 = .ok (.iastore, 1) := by decide +kernel
theorem s_117_29 {d : Nat} {Q : wQ} {L : List (Option Value)} {st : List Value} {w : aw} {cn sn : Nat} {a : Nat} {i x : Int32} : wp d 117 Q 29 L (.int x :: .int i :: .ref a :: st) w cn sn = (kd w a = 20 ∧ inR i (ln w a) ∧ wp d 117 Q 30 L st (uA w a i.toNatClampNeg x) cn sn) := wp_row d_117_29 _ _ _ _ _
theorem d_117_30 : decode (mB 117) 30 = .ok (.aload_n 0, 1) := by decide +kernel
theorem s_117_30 {d : Nat} {Q : wQ} {L : List (Option Value)} {st : List Value} {w : aw} {cn sn : Nat} {v : Nat} : wp d 117 Q 30 (some (.ref v) :: L) st w cn sn = wp d 117 Q 31 (some (.ref v) :: L) (.ref v :: st) w cn sn := w_aload_n d_117_30 rfl
theorem d_117_31 : decode (mB 117) 31 = .ok (.getfield 30, 3) := by decide +kernel
theorem s_117_31 {d : Nat} {Q : wQ} {L : List (Option Value)} {st : List Value} {w : aw} {cn sn : Nat} {a : Nat} : wp d 117 Q 31 L (.ref a :: st) w cn sn = (kd w a = 9 ∧ wp d 117 Q 34 L (fd w 528 a :: st) w cn sn) := w_getfield d_117_31 (by decide +kernel : fT (mO 117) 30 = some (8, 16))
theorem d_117_34 : decode (mB 117) 34 = .ok (.iload_n 1, 1) := by decide +kernel
theorem s_117_34 {d : Nat} {Q : wQ} {L : List (Option Value)} {st : List Value} {w : aw} {cn sn : Nat} {a0 : Option Value} {v : Int32} : wp d 117 Q 34 (a0 :: some (.int v) :: L) st w cn sn = wp d 117 Q 35 (a0 :: some (.int v) :: L) (.int v :: st) w cn sn := w_iload_n d_117_34 rfl
theorem d_117_35 : decode (mB 117) 35 = .ok (.iaload, 1) := by decide +kernel
theorem s_117_35 {d : Nat} {Q : wQ} {L : List (Option Value)} {st : List Value} {w : aw} {cn sn : Nat} {a : Nat} {i : Int32} : wp d 117 Q 35 L (.int i :: .ref a :: st) w cn sn = ((kd w a = 20 ∨ kd w a = 30) ∧ inR i (ln w a) ∧ wp d 117 Q 36 L (.int (ai w a i.toNatClampNeg) :: st) w cn sn) := wp_row d_117_35 _ _ _ _ _
theorem d_117_36 : decode (mB 117) 36 = .ok (.bipush 32, 2) := by decide +kernel
theorem s_117_36 {d : Nat} {Q : wQ} {L : List (Option Value)} {st : List Value} {w : aw} {cn sn : Nat}  : wp d 117 Q 36 L st w cn sn = wp d 117 Q 38 L (.int 32 :: st) w cn sn := w_bipush d_117_36 (by decide)
theorem d_117_38 : decode (mB 117) 38 = .ok (.if_icmp .lt 13, 3) := by decide +kernel
theorem s_117_38 {d : Nat} {Q : wQ} {L : List (Option Value)} {st : List Value} {w : aw} {cn sn : Nat} {a b : Int32} : wp d 117 Q 38 L (.int b :: .int a :: st) w cn sn = ((a < b → wp d 117 Q 51 L st w cn sn) ∧ (¬ a < b → wp d 117 Q 41 L st w cn sn)) := w_iclt d_117_38 (by decide)
theorem d_117_41 : decode (mB 117) 41 = .ok (.aload_n 0, 1) := by decide +kernel
theorem s_117_41 {d : Nat} {Q : wQ} {L : List (Option Value)} {st : List Value} {w : aw} {cn sn : Nat} {v : Nat} : wp d 117 Q 41 (some (.ref v) :: L) st w cn sn = wp d 117 Q 42 (some (.ref v) :: L) (.ref v :: st) w cn sn := w_aload_n d_117_41 rfl
theorem d_117_42 : decode (mB 117) 42 = .ok (.getfield 30, 3) := by decide +kernel
theorem s_117_42 {d : Nat} {Q : wQ} {L : List (Option Value)} {st : List Value} {w : aw} {cn sn : Nat} {a : Nat} : wp d 117 Q 42 L (.ref a :: st) w cn sn = (kd w a = 9 ∧ wp d 117 Q 45 L (fd w 528 a :: st) w cn sn) := w_getfield d_117_42 (by decide +kernel : fT (mO 117) 30 = some (8, 16))
theorem d_117_45 : decode (mB 117) 45 = .ok (.iload_n 1, 1) := by decide +kernel
theorem s_117_45 {d : Nat} {Q : wQ} {L : List (Option Value)} {st : List Value} {w : aw} {cn sn : Nat} {a0 : Option Value} {v : Int32} : wp d 117 Q 45 (a0 :: some (.int v) :: L) st w cn sn = wp d 117 Q 46 (a0 :: some (.int v) :: L) (.int v :: st) w cn sn := w_iload_n d_117_45 rfl
theorem d_117_46 : decode (mB 117) 46 = .ok (.sipush 4095, 3) := by decide +kernel
theorem s_117_46 {d : Nat} {Q : wQ} {L : List (Option Value)} {st : List Value} {w : aw} {cn sn : Nat}  : wp d 117 Q 46 L st w cn sn = wp d 117 Q 49 L (.int 4095 :: st) w cn sn := w_sipush d_117_46 (by decide)
theorem d_117_49 : decode (mB 117) 49 = .ok (.iastore, 1) := by decide +kernel
theorem s_117_49 {d : Nat} {Q : wQ} {L : List (Option Value)} {st : List Value} {w : aw} {cn sn : Nat} {a : Nat} {i x : Int32} : wp d 117 Q 49 L (.int x :: .int i :: .ref a :: st) w cn sn = (kd w a = 20 ∧ inR i (ln w a) ∧ wp d 117 Q 50 L st (uA w a i.toNatClampNeg x) cn sn) := wp_row d_117_49 _ _ _ _ _
theorem d_117_50 : decode (mB 117) 50 = .ok (.return_, 1) := by decide +kernel
theorem s_117_50 {d : Nat} {Q : wQ} {L : List (Option Value)} {w : aw} {cn sn : Nat}  : wp d 117 Q 50 L [] w cn sn = Q none w := w_return d_117_50 rfl
theorem d_117_51 : decode (mB 117) 51 = .ok (.sipush 4096, 3) := by decide +kernel
theorem s_117_51 {d : Nat} {Q : wQ} {L : List (Option Value)} {st : List Value} {w : aw} {cn sn : Nat}  : wp d 117 Q 51 L st w cn sn = wp d 117 Q 54 L (.int 4096 :: st) w cn sn := w_sipush d_117_51 (by decide)
theorem d_117_54 : decode (mB 117) 54 = .ok (.iload_n 1, 1) := by decide +kernel
theorem s_117_54 {d : Nat} {Q : wQ} {L : List (Option Value)} {st : List Value} {w : aw} {cn sn : Nat} {a0 : Option Value} {v : Int32} : wp d 117 Q 54 (a0 :: some (.int v) :: L) st w cn sn = wp d 117 Q 55 (a0 :: some (.int v) :: L) (.int v :: st) w cn sn := w_iload_n d_117_54 rfl
theorem d_117_55 : decode (mB 117) 55 = .ok (.imul, 1) := by decide +kernel
theorem s_117_55 {d : Nat} {Q : wQ} {L : List (Option Value)} {st : List Value} {w : aw} {cn sn : Nat} {a b : Int32} : wp d 117 Q 55 L (.int b :: .int a :: st) w cn sn = wp d 117 Q 56 L (.int (a * b) :: st) w cn sn := wp_row d_117_55 _ _ _ _ _
theorem d_117_56 : decode (mB 117) 56 = .ok (.sipush 128, 3) := by decide +kernel
theorem s_117_56 {d : Nat} {Q : wQ} {L : List (Option Value)} {st : List Value} {w : aw} {cn sn : Nat}  : wp d 117 Q 56 L st w cn sn = wp d 117 Q 59 L (.int 128 :: st) w cn sn := w_sipush d_117_56 (by decide)
theorem d_117_59 : decode (mB 117) 59 = .ok (.aload_n 0, 1) := by decide +kernel
theorem s_117_59 {d : Nat} {Q : wQ} {L : List (Option Value)} {st : List Value} {w : aw} {cn sn : Nat} {v : Nat} : wp d 117 Q 59 (some (.ref v) :: L) st w cn sn = wp d 117 Q 60 (some (.ref v) :: L) (.ref v :: st) w cn sn := w_aload_n d_117_59 rfl
theorem d_117_60 : decode (mB 117) 60 = .ok (.getfield 30, 3) := by decide +kernel
theorem s_117_60 {d : Nat} {Q : wQ} {L : List (Option Value)} {st : List Value} {w : aw} {cn sn : Nat} {a : Nat} : wp d 117 Q 60 L (.ref a :: st) w cn sn = (kd w a = 9 ∧ wp d 117 Q 63 L (fd w 528 a :: st) w cn sn) := w_getfield d_117_60 (by decide +kernel : fT (mO 117) 30 = some (8, 16))
theorem d_117_63 : decode (mB 117) 63 = .ok (.iload_n 1, 1) := by decide +kernel
theorem s_117_63 {d : Nat} {Q : wQ} {L : List (Option Value)} {st : List Value} {w : aw} {cn sn : Nat} {a0 : Option Value} {v : Int32} : wp d 117 Q 63 (a0 :: some (.int v) :: L) st w cn sn = wp d 117 Q 64 (a0 :: some (.int v) :: L) (.int v :: st) w cn sn := w_iload_n d_117_63 rfl
theorem d_117_64 : decode (mB 117) 64 = .ok (.iaload, 1) := by decide +kernel
theorem s_117_64 {d : Nat} {Q : wQ} {L : List (Option Value)} {st : List Value} {w : aw} {cn sn : Nat} {a : Nat} {i : Int32} : wp d 117 Q 64 L (.int i :: .ref a :: st) w cn sn = ((kd w a = 20 ∨ kd w a = 30) ∧ inR i (ln w a) ∧ wp d 117 Q 65 L (.int (ai w a i.toNatClampNeg) :: st) w cn sn) := wp_row d_117_64 _ _ _ _ _
theorem d_117_65 : decode (mB 117) 65 = .ok (.imul, 1) := by decide +kernel
theorem s_117_65 {d : Nat} {Q : wQ} {L : List (Option Value)} {st : List Value} {w : aw} {cn sn : Nat} {a b : Int32} : wp d 117 Q 65 L (.int b :: .int a :: st) w cn sn = wp d 117 Q 66 L (.int (a * b) :: st) w cn sn := wp_row d_117_65 _ _ _ _ _
theorem d_117_66 : decode (mB 117) 66 = .ok (.iadd, 1) := by decide +kernel
theorem s_117_66 {d : Nat} {Q : wQ} {L : List (Option Value)} {st : List Value} {w : aw} {cn sn : Nat} {a b : Int32} : wp d 117 Q 66 L (.int b :: .int a :: st) w cn sn = wp d 117 Q 67 L (.int (a + b) :: st) w cn sn := wp_row d_117_66 _ _ _ _ _
theorem d_117_67 : decode (mB 117) 67 = .ok (.istore 4, 2) := by decide +kernel
theorem s_117_67 {d : Nat} {Q : wQ} {L : List (Option Value)} {st : List Value} {w : aw} {cn sn : Nat} {a0 a1 a2 a3 a4 : Option Value} {v : Int32} : wp d 117 Q 67 (a0 :: a1 :: a2 :: a3 :: a4 :: L) (.int v :: st) w cn sn = wp d 117 Q 69 (a0 :: a1 :: a2 :: clr a3 :: some (.int v) :: L) st w cn sn := w_istore d_117_67 (Nat.le_add_left 5 _) rfl
theorem d_117_69 : decode (mB 117) 69 = .ok (.iconst 0, 1) := by decide +kernel
theorem s_117_69 {d : Nat} {Q : wQ} {L : List (Option Value)} {st : List Value} {w : aw} {cn sn : Nat}  : wp d 117 Q 69 L st w cn sn = wp d 117 Q 70 L (.int 0 :: st) w cn sn := w_iconst d_117_69 (by decide)
theorem d_117_70 : decode (mB 117) 70 = .ok (.istore 5, 2) := by decide +kernel
theorem s_117_70 {d : Nat} {Q : wQ} {L : List (Option Value)} {st : List Value} {w : aw} {cn sn : Nat} {a0 a1 a2 a3 a4 a5 : Option Value} {v : Int32} : wp d 117 Q 70 (a0 :: a1 :: a2 :: a3 :: a4 :: a5 :: L) (.int v :: st) w cn sn = wp d 117 Q 72 (a0 :: a1 :: a2 :: a3 :: clr a4 :: some (.int v) :: L) st w cn sn := w_istore d_117_70 (Nat.le_add_left 6 _) rfl
theorem d_117_72 : decode (mB 117) 72 = .ok (.iload 5, 2) := by decide +kernel
theorem s_117_72 {d : Nat} {Q : wQ} {L : List (Option Value)} {st : List Value} {w : aw} {cn sn : Nat} {a0 a1 a2 a3 a4 : Option Value} {v : Int32} : wp d 117 Q 72 (a0 :: a1 :: a2 :: a3 :: a4 :: some (.int v) :: L) st w cn sn = wp d 117 Q 74 (a0 :: a1 :: a2 :: a3 :: a4 :: some (.int v) :: L) (.int v :: st) w cn sn := w_iload d_117_72 rfl
theorem d_117_74 : decode (mB 117) 74 = .ok (.sipush 128, 3) := by decide +kernel
theorem s_117_74 {d : Nat} {Q : wQ} {L : List (Option Value)} {st : List Value} {w : aw} {cn sn : Nat}  : wp d 117 Q 74 L st w cn sn = wp d 117 Q 77 L (.int 128 :: st) w cn sn := w_sipush d_117_74 (by decide)
theorem d_117_77 : decode (mB 117) 77 = .ok (.if_icmp .ge 62, 3) := by decide +kernel
theorem s_117_77 {d : Nat} {Q : wQ} {L : List (Option Value)} {st : List Value} {w : aw} {cn sn : Nat} {a b : Int32} : wp d 117 Q 77 L (.int b :: .int a :: st) w cn sn = ((b ≤ a → wp d 117 Q 139 L st w cn sn) ∧ (¬ b ≤ a → wp d 117 Q 80 L st w cn sn)) := w_icge d_117_77 (by decide)
theorem d_117_80 : decode (mB 117) 80 = .ok (.iload_n 2, 1) := by decide +kernel
theorem s_117_80 {d : Nat} {Q : wQ} {L : List (Option Value)} {st : List Value} {w : aw} {cn sn : Nat} {a0 a1 : Option Value} {v : Int32} : wp d 117 Q 80 (a0 :: a1 :: some (.int v) :: L) st w cn sn = wp d 117 Q 81 (a0 :: a1 :: some (.int v) :: L) (.int v :: st) w cn sn := w_iload_n d_117_80 rfl
theorem d_117_81 : decode (mB 117) 81 = .ok (.ifCond .eq 29, 3) := by decide +kernel
theorem s_117_81 {d : Nat} {Q : wQ} {L : List (Option Value)} {st : List Value} {w : aw} {cn sn : Nat} {x : Int32} : wp d 117 Q 81 L (.int x :: st) w cn sn = ((x = 0 → wp d 117 Q 110 L st w cn sn) ∧ (¬ x = 0 → wp d 117 Q 84 L st w cn sn)) := w_ifeq d_117_81 (by decide)
theorem d_117_84 : decode (mB 117) 84 = .ok (.aload_n 0, 1) := by decide +kernel
theorem s_117_84 {d : Nat} {Q : wQ} {L : List (Option Value)} {st : List Value} {w : aw} {cn sn : Nat} {v : Nat} : wp d 117 Q 84 (some (.ref v) :: L) st w cn sn = wp d 117 Q 85 (some (.ref v) :: L) (.ref v :: st) w cn sn := w_aload_n d_117_84 rfl
theorem d_117_85 : decode (mB 117) 85 = .ok (.iload_n 1, 1) := by decide +kernel
theorem s_117_85 {d : Nat} {Q : wQ} {L : List (Option Value)} {st : List Value} {w : aw} {cn sn : Nat} {a0 : Option Value} {v : Int32} : wp d 117 Q 85 (a0 :: some (.int v) :: L) st w cn sn = wp d 117 Q 86 (a0 :: some (.int v) :: L) (.int v :: st) w cn sn := w_iload_n d_117_85 rfl
theorem d_117_86 : decode (mB 117) 86 = .ok (.iload_n 3, 1) := by decide +kernel
theorem s_117_86 {d : Nat} {Q : wQ} {L : List (Option Value)} {st : List Value} {w : aw} {cn sn : Nat} {a0 a1 a2 : Option Value} {v : Int32} : wp d 117 Q 86 (a0 :: a1 :: a2 :: some (.int v) :: L) st w cn sn = wp d 117 Q 87 (a0 :: a1 :: a2 :: some (.int v) :: L) (.int v :: st) w cn sn := w_iload_n d_117_86 rfl
theorem d_117_87 : decode (mB 117) 87 = .ok (.iload 5, 2) := by decide +kernel
theorem s_117_87 {d : Nat} {Q : wQ} {L : List (Option Value)} {st : List Value} {w : aw} {cn sn : Nat} {a0 a1 a2 a3 a4 : Option Value} {v : Int32} : wp d 117 Q 87 (a0 :: a1 :: a2 :: a3 :: a4 :: some (.int v) :: L) st w cn sn = wp d 117 Q 89 (a0 :: a1 :: a2 :: a3 :: a4 :: some (.int v) :: L) (.int v :: st) w cn sn := w_iload d_117_87 rfl
theorem d_117_89 : decode (mB 117) 89 = .ok (.iadd, 1) := by decide +kernel
theorem s_117_89 {d : Nat} {Q : wQ} {L : List (Option Value)} {st : List Value} {w : aw} {cn sn : Nat} {a b : Int32} : wp d 117 Q 89 L (.int b :: .int a :: st) w cn sn = wp d 117 Q 90 L (.int (a + b) :: st) w cn sn := wp_row d_117_89 _ _ _ _ _
theorem d_117_90 : decode (mB 117) 90 = .ok (.sipush 4095, 3) := by decide +kernel
theorem s_117_90 {d : Nat} {Q : wQ} {L : List (Option Value)} {st : List Value} {w : aw} {cn sn : Nat}  : wp d 117 Q 90 L st w cn sn = wp d 117 Q 93 L (.int 4095 :: st) w cn sn := w_sipush d_117_90 (by decide)
theorem d_117_93 : decode (mB 117) 93 = .ok (.iand, 1) := by decide +kernel
theorem s_117_93 {d : Nat} {Q : wQ} {L : List (Option Value)} {st : List Value} {w : aw} {cn sn : Nat} {a b : Int32} : wp d 117 Q 93 L (.int b :: .int a :: st) w cn sn = wp d 117 Q 94 L (.int (a &&& b) :: st) w cn sn := wp_row d_117_93 _ _ _ _ _
theorem d_117_94 : decode (mB 117) 94 = .ok (.aload_n 0, 1) := by decide +kernel
theorem s_117_94 {d : Nat} {Q : wQ} {L : List (Option Value)} {st : List Value} {w : aw} {cn sn : Nat} {v : Nat} : wp d 117 Q 94 (some (.ref v) :: L) st w cn sn = wp d 117 Q 95 (some (.ref v) :: L) (.ref v :: st) w cn sn := w_aload_n d_117_94 rfl
theorem d_117_95 : decode (mB 117) 95 = .ok (.getfield 27, 3) := by decide +kernel
theorem s_117_95 {d : Nat} {Q : wQ} {L : List (Option Value)} {st : List Value} {w : aw} {cn sn : Nat} {a : Nat} : wp d 117 Q 95 L (.ref a :: st) w cn sn = (kd w a = 9 ∧ wp d 117 Q 98 L (fd w 527 a :: st) w cn sn) := w_getfield d_117_95 (by decide +kernel : fT (mO 117) 27 = some (8, 15))
theorem d_117_98 : decode (mB 117) 98 = .ok (.iload 4, 2) := by decide +kernel
theorem s_117_98 {d : Nat} {Q : wQ} {L : List (Option Value)} {st : List Value} {w : aw} {cn sn : Nat} {a0 a1 a2 a3 : Option Value} {v : Int32} : wp d 117 Q 98 (a0 :: a1 :: a2 :: a3 :: some (.int v) :: L) st w cn sn = wp d 117 Q 100 (a0 :: a1 :: a2 :: a3 :: some (.int v) :: L) (.int v :: st) w cn sn := w_iload d_117_98 rfl
theorem d_117_100 : decode (mB 117) 100 = .ok (.iload 5, 2) := by decide +kernel
theorem s_117_100 {d : Nat} {Q : wQ} {L : List (Option Value)} {st : List Value} {w : aw} {cn sn : Nat} {a0 a1 a2 a3 a4 : Option Value} {v : Int32} : wp d 117 Q 100 (a0 :: a1 :: a2 :: a3 :: a4 :: some (.int v) :: L) st w cn sn = wp d 117 Q 102 (a0 :: a1 :: a2 :: a3 :: a4 :: some (.int v) :: L) (.int v :: st) w cn sn := w_iload d_117_100 rfl
theorem d_117_102 : decode (mB 117) 102 = .ok (.iadd, 1) := by decide +kernel
theorem s_117_102 {d : Nat} {Q : wQ} {L : List (Option Value)} {st : List Value} {w : aw} {cn sn : Nat} {a b : Int32} : wp d 117 Q 102 L (.int b :: .int a :: st) w cn sn = wp d 117 Q 103 L (.int (a + b) :: st) w cn sn := wp_row d_117_102 _ _ _ _ _
theorem d_117_103 : decode (mB 117) 103 = .ok (.iaload, 1) := by decide +kernel
theorem s_117_103 {d : Nat} {Q : wQ} {L : List (Option Value)} {st : List Value} {w : aw} {cn sn : Nat} {a : Nat} {i : Int32} : wp d 117 Q 103 L (.int i :: .ref a :: st) w cn sn = ((kd w a = 20 ∨ kd w a = 30) ∧ inR i (ln w a) ∧ wp d 117 Q 104 L (.int (ai w a i.toNatClampNeg) :: st) w cn sn) := wp_row d_117_103 _ _ _ _ _
theorem d_117_104 : decode (mB 117) 104 = .ok (.invokevirtual 133, 3) := by decide +kernel
theorem s_117_104 {d : Nat} {Q : wQ} {L : List (Option Value)} {st : List Value} {w : aw} {cn sn : Nat} {v0 v1 v2 : Value} {b : Nat} : wp d 117 Q 104 L (v2 :: v1 :: v0 :: .ref b :: st) w cn sn = (kd w b = 9 ∧ catS st ≤ 8 ∧ wpD d 108 [.ref b, v0, v1, v2] w (fun v w' => wp d 117 Q 107 L (v.toList ++ st) w' cn sn)) := w_virtual (As := [v0, v1, v2]) d_117_104 (by decide +kernel : cT (mO 117) 133 = some (0, 108)) rfl (by decide +kernel) rfl (by decide +kernel) rfl
theorem d_117_107 : decode (mB 117) 107 = .ok (.goto 26, 3) := by decide +kernel
theorem s_117_107 {d : Nat} {Q : wQ} {L : List (Option Value)} {st : List Value} {w : aw} {cn sn : Nat}  : wp d 117 Q 107 L st w cn sn = wp d 117 Q 133 L st w cn sn := w_goto d_117_107 (by decide)
theorem d_117_110 : decode (mB 117) 110 = .ok (.aload_n 0, 1) := by decide +kernel
theorem s_117_110 {d : Nat} {Q : wQ} {L : List (Option Value)} {st : List Value} {w : aw} {cn sn : Nat} {v : Nat} : wp d 117 Q 110 (some (.ref v) :: L) st w cn sn = wp d 117 Q 111 (some (.ref v) :: L) (.ref v :: st) w cn sn := w_aload_n d_117_110 rfl
theorem d_117_111 : decode (mB 117) 111 = .ok (.getfield 27, 3) := by decide +kernel
theorem s_117_111 {d : Nat} {Q : wQ} {L : List (Option Value)} {st : List Value} {w : aw} {cn sn : Nat} {a : Nat} : wp d 117 Q 111 L (.ref a :: st) w cn sn = (kd w a = 9 ∧ wp d 117 Q 114 L (fd w 527 a :: st) w cn sn) := w_getfield d_117_111 (by decide +kernel : fT (mO 117) 27 = some (8, 15))
theorem d_117_114 : decode (mB 117) 114 = .ok (.iload 4, 2) := by decide +kernel
theorem s_117_114 {d : Nat} {Q : wQ} {L : List (Option Value)} {st : List Value} {w : aw} {cn sn : Nat} {a0 a1 a2 a3 : Option Value} {v : Int32} : wp d 117 Q 114 (a0 :: a1 :: a2 :: a3 :: some (.int v) :: L) st w cn sn = wp d 117 Q 116 (a0 :: a1 :: a2 :: a3 :: some (.int v) :: L) (.int v :: st) w cn sn := w_iload d_117_114 rfl
theorem d_117_116 : decode (mB 117) 116 = .ok (.iload 5, 2) := by decide +kernel
theorem s_117_116 {d : Nat} {Q : wQ} {L : List (Option Value)} {st : List Value} {w : aw} {cn sn : Nat} {a0 a1 a2 a3 a4 : Option Value} {v : Int32} : wp d 117 Q 116 (a0 :: a1 :: a2 :: a3 :: a4 :: some (.int v) :: L) st w cn sn = wp d 117 Q 118 (a0 :: a1 :: a2 :: a3 :: a4 :: some (.int v) :: L) (.int v :: st) w cn sn := w_iload d_117_116 rfl
theorem d_117_118 : decode (mB 117) 118 = .ok (.iadd, 1) := by decide +kernel
theorem s_117_118 {d : Nat} {Q : wQ} {L : List (Option Value)} {st : List Value} {w : aw} {cn sn : Nat} {a b : Int32} : wp d 117 Q 118 L (.int b :: .int a :: st) w cn sn = wp d 117 Q 119 L (.int (a + b) :: st) w cn sn := wp_row d_117_118 _ _ _ _ _
theorem d_117_119 : decode (mB 117) 119 = .ok (.aload_n 0, 1) := by decide +kernel
theorem s_117_119 {d : Nat} {Q : wQ} {L : List (Option Value)} {st : List Value} {w : aw} {cn sn : Nat} {v : Nat} : wp d 117 Q 119 (some (.ref v) :: L) st w cn sn = wp d 117 Q 120 (some (.ref v) :: L) (.ref v :: st) w cn sn := w_aload_n d_117_119 rfl
theorem d_117_120 : decode (mB 117) 120 = .ok (.iload_n 1, 1) := by decide +kernel
theorem s_117_120 {d : Nat} {Q : wQ} {L : List (Option Value)} {st : List Value} {w : aw} {cn sn : Nat} {a0 : Option Value} {v : Int32} : wp d 117 Q 120 (a0 :: some (.int v) :: L) st w cn sn = wp d 117 Q 121 (a0 :: some (.int v) :: L) (.int v :: st) w cn sn := w_iload_n d_117_120 rfl
theorem d_117_121 : decode (mB 117) 121 = .ok (.iload_n 3, 1) := by decide +kernel
theorem s_117_121 {d : Nat} {Q : wQ} {L : List (Option Value)} {st : List Value} {w : aw} {cn sn : Nat} {a0 a1 a2 : Option Value} {v : Int32} : wp d 117 Q 121 (a0 :: a1 :: a2 :: some (.int v) :: L) st w cn sn = wp d 117 Q 122 (a0 :: a1 :: a2 :: some (.int v) :: L) (.int v :: st) w cn sn := w_iload_n d_117_121 rfl
theorem d_117_122 : decode (mB 117) 122 = .ok (.iload 5, 2) := by decide +kernel
theorem s_117_122 {d : Nat} {Q : wQ} {L : List (Option Value)} {st : List Value} {w : aw} {cn sn : Nat} {a0 a1 a2 a3 a4 : Option Value} {v : Int32} : wp d 117 Q 122 (a0 :: a1 :: a2 :: a3 :: a4 :: some (.int v) :: L) st w cn sn = wp d 117 Q 124 (a0 :: a1 :: a2 :: a3 :: a4 :: some (.int v) :: L) (.int v :: st) w cn sn := w_iload d_117_122 rfl
theorem d_117_124 : decode (mB 117) 124 = .ok (.iadd, 1) := by decide +kernel
theorem s_117_124 {d : Nat} {Q : wQ} {L : List (Option Value)} {st : List Value} {w : aw} {cn sn : Nat} {a b : Int32} : wp d 117 Q 124 L (.int b :: .int a :: st) w cn sn = wp d 117 Q 125 L (.int (a + b) :: st) w cn sn := wp_row d_117_124 _ _ _ _ _
theorem d_117_125 : decode (mB 117) 125 = .ok (.sipush 4095, 3) := by decide +kernel
theorem s_117_125 {d : Nat} {Q : wQ} {L : List (Option Value)} {st : List Value} {w : aw} {cn sn : Nat}  : wp d 117 Q 125 L st w cn sn = wp d 117 Q 128 L (.int 4095 :: st) w cn sn := w_sipush d_117_125 (by decide)
theorem d_117_128 : decode (mB 117) 128 = .ok (.iand, 1) := by decide +kernel
theorem s_117_128 {d : Nat} {Q : wQ} {L : List (Option Value)} {st : List Value} {w : aw} {cn sn : Nat} {a b : Int32} : wp d 117 Q 128 L (.int b :: .int a :: st) w cn sn = wp d 117 Q 129 L (.int (a &&& b) :: st) w cn sn := wp_row d_117_128 _ _ _ _ _
theorem d_117_129 : decode (mB 117) 129 = .ok (.invokevirtual 115, 3) := by decide +kernel
theorem s_117_129 {d : Nat} {Q : wQ} {L : List (Option Value)} {st : List Value} {w : aw} {cn sn : Nat} {v0 v1 : Value} {b : Nat} : wp d 117 Q 129 L (v1 :: v0 :: .ref b :: st) w cn sn = (kd w b = 9 ∧ catS st ≤ 8 ∧ wpD d 107 [.ref b, v0, v1] w (fun v w' => wp d 117 Q 132 L (v.toList ++ st) w' cn sn)) := w_virtual (As := [v0, v1]) d_117_129 (by decide +kernel : cT (mO 117) 115 = some (0, 107)) rfl (by decide +kernel) rfl (by decide +kernel) rfl
theorem d_117_132 : decode (mB 117) 132 = .ok (.iastore, 1) := by decide +kernel
theorem s_117_132 {d : Nat} {Q : wQ} {L : List (Option Value)} {st : List Value} {w : aw} {cn sn : Nat} {a : Nat} {i x : Int32} : wp d 117 Q 132 L (.int x :: .int i :: .ref a :: st) w cn sn = (kd w a = 20 ∧ inR i (ln w a) ∧ wp d 117 Q 133 L st (uA w a i.toNatClampNeg x) cn sn) := wp_row d_117_132 _ _ _ _ _
theorem d_117_133 : decode (mB 117) 133 = .ok (.iinc 5 1, 3) := by decide +kernel
theorem s_117_133 {d : Nat} {Q : wQ} {L : List (Option Value)} {st : List Value} {w : aw} {cn sn : Nat} {a0 a1 a2 a3 a4 : Option Value} {v : Int32} : wp d 117 Q 133 (a0 :: a1 :: a2 :: a3 :: a4 :: some (.int v) :: L) st w cn sn = wp d 117 Q 136 (a0 :: a1 :: a2 :: a3 :: clr a4 :: some (.int (v + 1)) :: L) st w cn sn := w_iinc d_117_133 rfl (by decide) rfl
theorem d_117_136 : decode (mB 117) 136 = .ok (.goto (-64), 3) := by decide +kernel
theorem s_117_136 {d : Nat} {Q : wQ} {L : List (Option Value)} {st : List Value} {w : aw} {cn sn : Nat}  : wp d 117 Q 136 L st w cn sn = wp d 117 Q 72 L st w cn sn := w_goto d_117_136 (by decide)
theorem d_117_139 : decode (mB 117) 139 = .ok (.aload_n 0, 1) := by decide +kernel
theorem s_117_139 {d : Nat} {Q : wQ} {L : List (Option Value)} {st : List Value} {w : aw} {cn sn : Nat} {v : Nat} : wp d 117 Q 139 (some (.ref v) :: L) st w cn sn = wp d 117 Q 140 (some (.ref v) :: L) (.ref v :: st) w cn sn := w_aload_n d_117_139 rfl
theorem d_117_140 : decode (mB 117) 140 = .ok (.getfield 30, 3) := by decide +kernel
theorem s_117_140 {d : Nat} {Q : wQ} {L : List (Option Value)} {st : List Value} {w : aw} {cn sn : Nat} {a : Nat} : wp d 117 Q 140 L (.ref a :: st) w cn sn = (kd w a = 9 ∧ wp d 117 Q 143 L (fd w 528 a :: st) w cn sn) := w_getfield d_117_140 (by decide +kernel : fT (mO 117) 30 = some (8, 16))
theorem d_117_143 : decode (mB 117) 143 = .ok (.iload_n 1, 1) := by decide +kernel
theorem s_117_143 {d : Nat} {Q : wQ} {L : List (Option Value)} {st : List Value} {w : aw} {cn sn : Nat} {a0 : Option Value} {v : Int32} : wp d 117 Q 143 (a0 :: some (.int v) :: L) st w cn sn = wp d 117 Q 144 (a0 :: some (.int v) :: L) (.int v :: st) w cn sn := w_iload_n d_117_143 rfl
theorem d_117_144 : decode (mB 117) 144 = .ok (.iconst 0, 1) := by decide +kernel
theorem s_117_144 {d : Nat} {Q : wQ} {L : List (Option Value)} {st : List Value} {w : aw} {cn sn : Nat}  : wp d 117 Q 144 L st w cn sn = wp d 117 Q 145 L (.int 0 :: st) w cn sn := w_iconst d_117_144 (by decide)
theorem d_117_145 : decode (mB 117) 145 = .ok (.iastore, 1) := by decide +kernel
theorem s_117_145 {d : Nat} {Q : wQ} {L : List (Option Value)} {st : List Value} {w : aw} {cn sn : Nat} {a : Nat} {i x : Int32} : wp d 117 Q 145 L (.int x :: .int i :: .ref a :: st) w cn sn = (kd w a = 20 ∧ inR i (ln w a) ∧ wp d 117 Q 146 L st (uA w a i.toNatClampNeg x) cn sn) := wp_row d_117_145 _ _ _ _ _
theorem d_117_146 : decode (mB 117) 146 = .ok (.return_, 1) := by decide +kernel
theorem s_117_146 {d : Nat} {Q : wQ} {L : List (Option Value)} {w : aw} {cn sn : Nat}  : wp d 117 Q 146 L [] w cn sn = Q none w := w_return d_117_146 rfl
theorem d_118_0 : decode (mB 118) 0 = .ok (.aload_n 0, 1) := by decide +kernel
theorem s_118_0 {d : Nat} {Q : wQ} {L : List (Option Value)} {st : List Value} {w : aw} {cn sn : Nat} {v : Nat} : wp d 118 Q 0 (some (.ref v) :: L) st w cn sn = wp d 118 Q 1 (some (.ref v) :: L) (.ref v :: st) w cn sn := w_aload_n d_118_0 rfl
theorem d_118_1 : decode (mB 118) 1 = .ok (.getfield 39, 3) := by decide +kernel
theorem s_118_1 {d : Nat} {Q : wQ} {L : List (Option Value)} {st : List Value} {w : aw} {cn sn : Nat} {a : Nat} : wp d 118 Q 1 L (.ref a :: st) w cn sn = (kd w a = 9 ∧ wp d 118 Q 4 L (fd w 531 a :: st) w cn sn) := w_getfield d_118_1 (by decide +kernel : fT (mO 118) 39 = some (8, 19))
theorem d_118_4 : decode (mB 118) 4 = .ok (.iload_n 1, 1) := by decide +kernel
theorem s_118_4 {d : Nat} {Q : wQ} {L : List (Option Value)} {st : List Value} {w : aw} {cn sn : Nat} {a0 : Option Value} {v : Int32} : wp d 118 Q 4 (a0 :: some (.int v) :: L) st w cn sn = wp d 118 Q 5 (a0 :: some (.int v) :: L) (.int v :: st) w cn sn := w_iload_n d_118_4 rfl
theorem d_118_5 : decode (mB 118) 5 = .ok (.iload_n 2, 1) := by decide +kernel
theorem s_118_5 {d : Nat} {Q : wQ} {L : List (Option Value)} {st : List Value} {w : aw} {cn sn : Nat} {a0 a1 : Option Value} {v : Int32} : wp d 118 Q 5 (a0 :: a1 :: some (.int v) :: L) st w cn sn = wp d 118 Q 6 (a0 :: a1 :: some (.int v) :: L) (.int v :: st) w cn sn := w_iload_n d_118_5 rfl
theorem d_118_6 : decode (mB 118) 6 = .ok (.iastore, 1) := by decide +kernel
theorem s_118_6 {d : Nat} {Q : wQ} {L : List (Option Value)} {st : List Value} {w : aw} {cn sn : Nat} {a : Nat} {i x : Int32} : wp d 118 Q 6 L (.int x :: .int i :: .ref a :: st) w cn sn = (kd w a = 20 ∧ inR i (ln w a) ∧ wp d 118 Q 7 L st (uA w a i.toNatClampNeg x) cn sn) := wp_row d_118_6 _ _ _ _ _
theorem d_118_7 : decode (mB 118) 7 = .ok (.aload_n 0, 1) := by decide +kernel
theorem s_118_7 {d : Nat} {Q : wQ} {L : List (Option Value)} {st : List Value} {w : aw} {cn sn : Nat} {v : Nat} : wp d 118 Q 7 (some (.ref v) :: L) st w cn sn = wp d 118 Q 8 (some (.ref v) :: L) (.ref v :: st) w cn sn := w_aload_n d_118_7 rfl
theorem d_118_8 : decode (mB 118) 8 = .ok (.iconst (-1), 1) := by decide +kernel
theorem s_118_8 {d : Nat} {Q : wQ} {L : List (Option Value)} {st : List Value} {w : aw} {cn sn : Nat}  : wp d 118 Q 8 L st w cn sn = wp d 118 Q 9 L (.int (-1) :: st) w cn sn := w_iconst d_118_8 (by decide)
theorem d_118_9 : decode (mB 118) 9 = .ok (.putfield 13, 3) := by decide +kernel
theorem s_118_9 {d : Nat} {Q : wQ} {L : List (Option Value)} {st : List Value} {w : aw} {cn sn : Nat} {x : Int32} {a : Nat} : wp d 118 Q 9 L (.int x :: .ref a :: st) w cn sn = (kd w a = 9 ∧ wp d 118 Q 12 L st (uF w 521 a (.int x)) cn sn) := w_putfield d_118_9 (by decide +kernel : fT (mO 118) 13 = some (8, 9)) (by decide +kernel) ok_int
theorem d_118_12 : decode (mB 118) 12 = .ok (.aload_n 0, 1) := by decide +kernel
theorem s_118_12 {d : Nat} {Q : wQ} {L : List (Option Value)} {st : List Value} {w : aw} {cn sn : Nat} {v : Nat} : wp d 118 Q 12 (some (.ref v) :: L) st w cn sn = wp d 118 Q 13 (some (.ref v) :: L) (.ref v :: st) w cn sn := w_aload_n d_118_12 rfl
theorem d_118_13 : decode (mB 118) 13 = .ok (.iconst 0, 1) := by decide +kernel
theorem s_118_13 {d : Nat} {Q : wQ} {L : List (Option Value)} {st : List Value} {w : aw} {cn sn : Nat}  : wp d 118 Q 13 L st w cn sn = wp d 118 Q 14 L (.int 0 :: st) w cn sn := w_iconst d_118_13 (by decide)
theorem d_118_14 : decode (mB 118) 14 = .ok (.putfield 153, 3) := by decide +kernel
theorem s_118_14 {d : Nat} {Q : wQ} {L : List (Option Value)} {st : List Value} {w : aw} {cn sn : Nat} {x : Int32} {a : Nat} : wp d 118 Q 14 L (.int x :: .ref a :: st) w cn sn = (kd w a = 9 ∧ wp d 118 Q 17 L st (uF w 522 a (.int x)) cn sn) := w_putfield d_118_14 (by decide +kernel : fT (mO 118) 153 = some (8, 10)) (by decide +kernel) ok_int
theorem d_118_17 : decode (mB 118) 17 = .ok (.return_, 1) := by decide +kernel
theorem s_118_17 {d : Nat} {Q : wQ} {L : List (Option Value)} {w : aw} {cn sn : Nat}  : wp d 118 Q 17 L [] w cn sn = Q none w := w_return d_118_17 rfl
