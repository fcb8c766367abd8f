theorem d_0_0 : decode (mB 0) 0 = .ok (.new 7, 3) := by decide +kernel
theorem s_0_0 {d : Nat} {Q : wQ} {L : List (Option Value)} {st : List Value} {w : aw} {cn sn : Nat}  : wp d 0 Q 0 L st w cn sn = (cn + 1 ≤ 600000 ∧ sn + 3 ≤ 7302250 ∧ wp d 0 Q 3 L (.ref (zs w) :: st) (nw w 8 0) (cn + 1) (sn + 3)) := w_new d_0_0 (by decide +kernel : nT (mO 0) 7 = some 7) (by decide +kernel) (by decide +kernel) (by decide +kernel)
theorem d_0_3 : decode (mB 0) 3 = .ok (.dup, 1) := by decide +kernel
theorem s_0_3 {d : Nat} {Q : wQ} {L : List (Option Value)} {st : List Value} {w : aw} {cn sn : Nat} {v : Value} : wp d 0 Q 3 L (v :: st) w cn sn = (v.category = 1 ∧ wp d 0 Q 4 L (v :: v :: st) w cn sn) := wp_row d_0_3 _ _ _ _ _
theorem d_0_4 : decode (mB 0) 4 = .ok (.invokespecial 9, 3) := by decide +kernel
theorem s_0_4 {d : Nat} {Q : wQ} {L : List (Option Value)} {st : List Value} {w : aw} {cn sn : Nat} {b : Nat} : wp d 0 Q 4 L (.ref b :: st) w cn sn = (catS st ≤ 8 ∧ alc 0 78 cn sn (fun c2 s2 => wpD d 78 [.ref b] w (fun v w' => wp d 0 Q 7 L (v.toList ++ st) w' c2 s2))) := w_special (As := []) d_0_4 (by decide +kernel : cT (mO 0) 9 = some (1, 78)) (by decide +kernel) rfl rfl
theorem d_0_7 : decode (mB 0) 7 = .ok (.astore_n 1, 1) := by decide +kernel
theorem s_0_7 {d : Nat} {Q : wQ} {L : List (Option Value)} {st : List Value} {w : aw} {cn sn : Nat} {a0 a1 : Option Value} {v : Nat} : wp d 0 Q 7 (a0 :: a1 :: L) (.ref v :: st) w cn sn = wp d 0 Q 8 (clr a0 :: some (.ref v) :: L) st w cn sn := w_astore_n d_0_7 (Nat.le_add_left 2 _) rfl
theorem s_0_7n {d : Nat} {Q : wQ} {L : List (Option Value)} {st : List Value} {w : aw} {cn sn : Nat} {a0 a1 : Option Value} : wp d 0 Q 7 (a0 :: a1 :: L) (.null :: st) w cn sn = wp d 0 Q 8 (clr a0 :: some .null :: L) st w cn sn := w_astore_nN d_0_7 (Nat.le_add_left 2 _) rfl
theorem d_0_8 : decode (mB 0) 8 = .ok (.new 10, 3) := by decide +kernel
theorem s_0_8 {d : Nat} {Q : wQ} {L : List (Option Value)} {st : List Value} {w : aw} {cn sn : Nat}  : wp d 0 Q 8 L st w cn sn = (cn + 1 ≤ 600000 ∧ sn + 47 ≤ 7302250 ∧ wp d 0 Q 11 L (.ref (zs w) :: st) (nw w 9 0) (cn + 1) (sn + 47)) := w_new d_0_8 (by decide +kernel : nT (mO 0) 10 = some 8) (by decide +kernel) (by decide +kernel) (by decide +kernel)
theorem d_0_11 : decode (mB 0) 11 = .ok (.dup, 1) := by decide +kernel
theorem s_0_11 {d : Nat} {Q : wQ} {L : List (Option Value)} {st : List Value} {w : aw} {cn sn : Nat} {v : Value} : wp d 0 Q 11 L (v :: st) w cn sn = (v.category = 1 ∧ wp d 0 Q 12 L (v :: v :: st) w cn sn) := wp_row d_0_11 _ _ _ _ _
theorem d_0_12 : decode (mB 0) 12 = .ok (.invokespecial 12, 3) := by decide +kernel
theorem s_0_12 {d : Nat} {Q : wQ} {L : List (Option Value)} {st : List Value} {w : aw} {cn sn : Nat} {b : Nat} : wp d 0 Q 12 L (.ref b :: st) w cn sn = (catS st ≤ 8 ∧ alc 0 103 cn sn (fun c2 s2 => wpD d 103 [.ref b] w (fun v w' => wp d 0 Q 15 L (v.toList ++ st) w' c2 s2))) := w_special (As := []) d_0_12 (by decide +kernel : cT (mO 0) 12 = some (1, 103)) (by decide +kernel) rfl rfl
theorem d_0_15 : decode (mB 0) 15 = .ok (.astore_n 2, 1) := by decide +kernel
theorem s_0_15 {d : Nat} {Q : wQ} {L : List (Option Value)} {st : List Value} {w : aw} {cn sn : Nat} {a0 a1 a2 : Option Value} {v : Nat} : wp d 0 Q 15 (a0 :: a1 :: a2 :: L) (.ref v :: st) w cn sn = wp d 0 Q 16 (a0 :: clr a1 :: some (.ref v) :: L) st w cn sn := w_astore_n d_0_15 (Nat.le_add_left 3 _) rfl
theorem s_0_15n {d : Nat} {Q : wQ} {L : List (Option Value)} {st : List Value} {w : aw} {cn sn : Nat} {a0 a1 a2 : Option Value} : wp d 0 Q 15 (a0 :: a1 :: a2 :: L) (.null :: st) w cn sn = wp d 0 Q 16 (a0 :: clr a1 :: some .null :: L) st w cn sn := w_astore_nN d_0_15 (Nat.le_add_left 3 _) rfl
theorem d_0_16 : decode (mB 0) 16 = .ok (.iconst 0, 1) := by decide +kernel
theorem s_0_16 {d : Nat} {Q : wQ} {L : List (Option Value)} {st : List Value} {w : aw} {cn sn : Nat}  : wp d 0 Q 16 L st w cn sn = wp d 0 Q 17 L (.int 0 :: st) w cn sn := w_iconst d_0_16 (by decide)
theorem d_0_17 : decode (mB 0) 17 = .ok (.istore_n 3, 1) := by decide +kernel
theorem s_0_17 {d : Nat} {Q : wQ} {L : List (Option Value)} {st : List Value} {w : aw} {cn sn : Nat} {a0 a1 a2 a3 : Option Value} {v : Int32} : wp d 0 Q 17 (a0 :: a1 :: a2 :: a3 :: L) (.int v :: st) w cn sn = wp d 0 Q 18 (a0 :: a1 :: clr a2 :: some (.int v) :: L) st w cn sn := w_istore_n d_0_17 (Nat.le_add_left 4 _) rfl
theorem d_0_18 : decode (mB 0) 18 = .ok (.iload_n 3, 1) := by decide +kernel
theorem s_0_18 {d : Nat} {Q : wQ} {L : List (Option Value)} {st : List Value} {w : aw} {cn sn : Nat} {a0 a1 a2 : Option Value} {v : Int32} : wp d 0 Q 18 (a0 :: a1 :: a2 :: some (.int v) :: L) st w cn sn = wp d 0 Q 19 (a0 :: a1 :: a2 :: some (.int v) :: L) (.int v :: st) w cn sn := w_iload_n d_0_18 rfl
theorem d_0_19 : decode (mB 0) 19 = .ok (.aload_n 0, 1) := by decide +kernel
theorem s_0_19 {d : Nat} {Q : wQ} {L : List (Option Value)} {st : List Value} {w : aw} {cn sn : Nat} {v : Nat} : wp d 0 Q 19 (some (.ref v) :: L) st w cn sn = wp d 0 Q 20 (some (.ref v) :: L) (.ref v :: st) w cn sn := w_aload_n d_0_19 rfl
theorem s_0_19n {d : Nat} {Q : wQ} {L : List (Option Value)} {st : List Value} {w : aw} {cn sn : Nat}  : wp d 0 Q 19 (some .null :: L) st w cn sn = wp d 0 Q 20 (some .null :: L) (.null :: st) w cn sn := w_aload_nN d_0_19 rfl
theorem d_0_20 : decode (mB 0) 20 = .ok (.arraylength, 1) := by decide +kernel
theorem s_0_20 {d : Nat} {Q : wQ} {L : List (Option Value)} {st : List Value} {w : aw} {cn sn : Nat} {a : Nat} : wp d 0 Q 20 L (.ref a :: st) w cn sn = ((tyA (kd w a)).isSome = true ∧ wp d 0 Q 21 L (.int (nI (ln w a)) :: st) w cn sn) := wp_row d_0_20 _ _ _ _ _
theorem d_0_21 : decode (mB 0) 21 = .ok (.bipush 6, 2) := by decide +kernel
theorem s_0_21 {d : Nat} {Q : wQ} {L : List (Option Value)} {st : List Value} {w : aw} {cn sn : Nat}  : wp d 0 Q 21 L st w cn sn = wp d 0 Q 23 L (.int 6 :: st) w cn sn := w_bipush d_0_21 (by decide)
theorem d_0_23 : decode (mB 0) 23 = .ok (.isub, 1) := by decide +kernel
theorem s_0_23 {d : Nat} {Q : wQ} {L : List (Option Value)} {st : List Value} {w : aw} {cn sn : Nat} {a b : Int32} : wp d 0 Q 23 L (.int b :: .int a :: st) w cn sn = wp d 0 Q 24 L (.int (a - b) :: st) w cn sn := wp_row d_0_23 _ _ _ _ _
theorem d_0_24 : decode (mB 0) 24 = .ok (.if_icmp .gt 781, 3) := by decide +kernel
theorem s_0_24 {d : Nat} {Q : wQ} {L : List (Option Value)} {st : List Value} {w : aw} {cn sn : Nat} {a b : Int32} : wp d 0 Q 24 L (.int b :: .int a :: st) w cn sn = ((b < a → wp d 0 Q 805 L st w cn sn) ∧ (¬ b < a → wp d 0 Q 27 L st w cn sn)) := w_icgt d_0_24 (by decide)
theorem d_0_27 : decode (mB 0) 27 = .ok (.aload_n 0, 1) := by decide +kernel
theorem s_0_27 {d : Nat} {Q : wQ} {L : List (Option Value)} {st : List Value} {w : aw} {cn sn : Nat} {v : Nat} : wp d 0 Q 27 (some (.ref v) :: L) st w cn sn = wp d 0 Q 28 (some (.ref v) :: L) (.ref v :: st) w cn sn := w_aload_n d_0_27 rfl
theorem s_0_27n {d : Nat} {Q : wQ} {L : List (Option Value)} {st : List Value} {w : aw} {cn sn : Nat}  : wp d 0 Q 27 (some .null :: L) st w cn sn = wp d 0 Q 28 (some .null :: L) (.null :: st) w cn sn := w_aload_nN d_0_27 rfl
theorem d_0_28 : decode (mB 0) 28 = .ok (.iload_n 3, 1) := by decide +kernel
theorem s_0_28 {d : Nat} {Q : wQ} {L : List (Option Value)} {st : List Value} {w : aw} {cn sn : Nat} {a0 a1 a2 : Option Value} {v : Int32} : wp d 0 Q 28 (a0 :: a1 :: a2 :: some (.int v) :: L) st w cn sn = wp d 0 Q 29 (a0 :: a1 :: a2 :: some (.int v) :: L) (.int v :: st) w cn sn := w_iload_n d_0_28 rfl
theorem d_0_29 : decode (mB 0) 29 = .ok (.iaload, 1) := by decide +kernel
theorem s_0_29 {d : Nat} {Q : wQ} {L : List (Option Value)} {st : List Value} {w : aw} {cn sn : Nat} {a : Nat} {i : Int32} : wp d 0 Q 29 L (.int i :: .ref a :: st) w cn sn = ((kd w a = 20 ∨ kd w a = 30) ∧ inR i (ln w a) ∧ wp d 0 Q 30 L (.int (ai w a i.toNatClampNeg) :: st) w cn sn) := wp_row d_0_29 _ _ _ _ _
theorem d_0_30 : decode (mB 0) 30 = .ok (.bipush 31, 2) := by decide +kernel
theorem s_0_30 {d : Nat} {Q : wQ} {L : List (Option Value)} {st : List Value} {w : aw} {cn sn : Nat}  : wp d 0 Q 30 L st w cn sn = wp d 0 Q 32 L (.int 31 :: st) w cn sn := w_bipush d_0_30 (by decide)
theorem d_0_32 : decode (mB 0) 32 = .ok (.iand, 1) := by decide +kernel
theorem s_0_32 {d : Nat} {Q : wQ} {L : List (Option Value)} {st : List Value} {w : aw} {cn sn : Nat} {a b : Int32} : wp d 0 Q 32 L (.int b :: .int a :: st) w cn sn = wp d 0 Q 33 L (.int (a &&& b) :: st) w cn sn := wp_row d_0_32 _ _ _ _ _
theorem d_0_33 : decode (mB 0) 33 = .ok (.tableswitch 766 0 19 #[95, 148, 211, 234, 257, 280, 323, 356, 409, 452, 485, 518, 551, 574, 607, 640, 673, 706, 729, 752], 95) := by decide +kernel
theorem s_0_33 {d : Nat} {Q : wQ} {L : List (Option Value)} {st : List Value} {w : aw} {cn sn : Nat} {x : Int32} : wp d 0 Q 33 L (.int x :: st) w cn sn = ((x.toInt < 0 ∨ 19 < x.toInt → wp d 0 Q 799 L st w cn sn) ∧ ∀ (i t : Nat), ([128, 181, 244, 267, 290, 313, 356, 389, 442, 485, 518, 551, 584, 607, 640, 673, 706, 739, 762, 785] : List Nat)[i]? = some t → x.toInt = 0 + i → wp d 0 Q t L st w cn sn) := w_table d_0_33 (by decide) (by decide) (by decide)
theorem d_0_128 : decode (mB 0) 128 = .ok (.aload_n 1, 1) := by decide +kernel
theorem s_0_128 {d : Nat} {Q : wQ} {L : List (Option Value)} {st : List Value} {w : aw} {cn sn : Nat} {a0 : Option Value} {v : Nat} : wp d 0 Q 128 (a0 :: some (.ref v) :: L) st w cn sn = wp d 0 Q 129 (a0 :: some (.ref v) :: L) (.ref v :: st) w cn sn := w_aload_n d_0_128 rfl
theorem s_0_128n {d : Nat} {Q : wQ} {L : List (Option Value)} {st : List Value} {w : aw} {cn sn : Nat} {a0 : Option Value} : wp d 0 Q 128 (a0 :: some .null :: L) st w cn sn = wp d 0 Q 129 (a0 :: some .null :: L) (.null :: st) w cn sn := w_aload_nN d_0_128 rfl
theorem d_0_129 : decode (mB 0) 129 = .ok (.aload_n 0, 1) := by decide +kernel
theorem s_0_129 {d : Nat} {Q : wQ} {L : List (Option Value)} {st : List Value} {w : aw} {cn sn : Nat} {v : Nat} : wp d 0 Q 129 (some (.ref v) :: L) st w cn sn = wp d 0 Q 130 (some (.ref v) :: L) (.ref v :: st) w cn sn := w_aload_n d_0_129 rfl
theorem s_0_129n {d : Nat} {Q : wQ} {L : List (Option Value)} {st : List Value} {w : aw} {cn sn : Nat}  : wp d 0 Q 129 (some .null :: L) st w cn sn = wp d 0 Q 130 (some .null :: L) (.null :: st) w cn sn := w_aload_nN d_0_129 rfl
theorem d_0_130 : decode (mB 0) 130 = .ok (.iload_n 3, 1) := by decide +kernel
theorem s_0_130 {d : Nat} {Q : wQ} {L : List (Option Value)} {st : List Value} {w : aw} {cn sn : Nat} {a0 a1 a2 : Option Value} {v : Int32} : wp d 0 Q 130 (a0 :: a1 :: a2 :: some (.int v) :: L) st w cn sn = wp d 0 Q 131 (a0 :: a1 :: a2 :: some (.int v) :: L) (.int v :: st) w cn sn := w_iload_n d_0_130 rfl
theorem d_0_131 : decode (mB 0) 131 = .ok (.iconst 1, 1) := by decide +kernel
theorem s_0_131 {d : Nat} {Q : wQ} {L : List (Option Value)} {st : List Value} {w : aw} {cn sn : Nat}  : wp d 0 Q 131 L st w cn sn = wp d 0 Q 132 L (.int 1 :: st) w cn sn := w_iconst d_0_131 (by decide)
theorem d_0_132 : decode (mB 0) 132 = .ok (.iadd, 1) := by decide +kernel
theorem s_0_132 {d : Nat} {Q : wQ} {L : List (Option Value)} {st : List Value} {w : aw} {cn sn : Nat} {a b : Int32} : wp d 0 Q 132 L (.int b :: .int a :: st) w cn sn = wp d 0 Q 133 L (.int (a + b) :: st) w cn sn := wp_row d_0_132 _ _ _ _ _
theorem d_0_133 : decode (mB 0) 133 = .ok (.iaload, 1) := by decide +kernel
theorem s_0_133 {d : Nat} {Q : wQ} {L : List (Option Value)} {st : List Value} {w : aw} {cn sn : Nat} {a : Nat} {i : Int32} : wp d 0 Q 133 L (.int i :: .ref a :: st) w cn sn = ((kd w a = 20 ∨ kd w a = 30) ∧ inR i (ln w a) ∧ wp d 0 Q 134 L (.int (ai w a i.toNatClampNeg) :: st) w cn sn) := wp_row d_0_133 _ _ _ _ _
theorem d_0_134 : decode (mB 0) 134 = .ok (.aload_n 0, 1) := by decide +kernel
theorem s_0_134 {d : Nat} {Q : wQ} {L : List (Option Value)} {st : List Value} {w : aw} {cn sn : Nat} {v : Nat} : wp d 0 Q 134 (some (.ref v) :: L) st w cn sn = wp d 0 Q 135 (some (.ref v) :: L) (.ref v :: st) w cn sn := w_aload_n d_0_134 rfl
theorem s_0_134n {d : Nat} {Q : wQ} {L : List (Option Value)} {st : List Value} {w : aw} {cn sn : Nat}  : wp d 0 Q 134 (some .null :: L) st w cn sn = wp d 0 Q 135 (some .null :: L) (.null :: st) w cn sn := w_aload_nN d_0_134 rfl
theorem d_0_135 : decode (mB 0) 135 = .ok (.iload_n 3, 1) := by decide +kernel
theorem s_0_135 {d : Nat} {Q : wQ} {L : List (Option Value)} {st : List Value} {w : aw} {cn sn : Nat} {a0 a1 a2 : Option Value} {v : Int32} : wp d 0 Q 135 (a0 :: a1 :: a2 :: some (.int v) :: L) st w cn sn = wp d 0 Q 136 (a0 :: a1 :: a2 :: some (.int v) :: L) (.int v :: st) w cn sn := w_iload_n d_0_135 rfl
theorem d_0_136 : decode (mB 0) 136 = .ok (.iconst 2, 1) := by decide +kernel
theorem s_0_136 {d : Nat} {Q : wQ} {L : List (Option Value)} {st : List Value} {w : aw} {cn sn : Nat}  : wp d 0 Q 136 L st w cn sn = wp d 0 Q 137 L (.int 2 :: st) w cn sn := w_iconst d_0_136 (by decide)
theorem d_0_137 : decode (mB 0) 137 = .ok (.iadd, 1) := by decide +kernel
theorem s_0_137 {d : Nat} {Q : wQ} {L : List (Option Value)} {st : List Value} {w : aw} {cn sn : Nat} {a b : Int32} : wp d 0 Q 137 L (.int b :: .int a :: st) w cn sn = wp d 0 Q 138 L (.int (a + b) :: st) w cn sn := wp_row d_0_137 _ _ _ _ _
theorem d_0_138 : decode (mB 0) 138 = .ok (.iaload, 1) := by decide +kernel
theorem s_0_138 {d : Nat} {Q : wQ} {L : List (Option Value)} {st : List Value} {w : aw} {cn sn : Nat} {a : Nat} {i : Int32} : wp d 0 Q 138 L (.int i :: .ref a :: st) w cn sn = ((kd w a = 20 ∨ kd w a = 30) ∧ inR i (ln w a) ∧ wp d 0 Q 139 L (.int (ai w a i.toNatClampNeg) :: st) w cn sn) := wp_row d_0_138 _ _ _ _ _
theorem d_0_139 : decode (mB 0) 139 = .ok (.aload_n 0, 1) := by decide +kernel
theorem s_0_139 {d : Nat} {Q : wQ} {L : List (Option Value)} {st : List Value} {w : aw} {cn sn : Nat} {v : Nat} : wp d 0 Q 139 (some (.ref v) :: L) st w cn sn = wp d 0 Q 140 (some (.ref v) :: L) (.ref v :: st) w cn sn := w_aload_n d_0_139 rfl
theorem s_0_139n {d : Nat} {Q : wQ} {L : List (Option Value)} {st : List Value} {w : aw} {cn sn : Nat}  : wp d 0 Q 139 (some .null :: L) st w cn sn = wp d 0 Q 140 (some .null :: L) (.null :: st) w cn sn := w_aload_nN d_0_139 rfl
theorem d_0_140 : decode (mB 0) 140 = .ok (.iload_n 3, 1) := by decide +kernel
theorem s_0_140 {d : Nat} {Q : wQ} {L : List (Option Value)} {st : List Value} {w : aw} {cn sn : Nat} {a0 a1 a2 : Option Value} {v : Int32} : wp d 0 Q 140 (a0 :: a1 :: a2 :: some (.int v) :: L) st w cn sn = wp d 0 Q 141 (a0 :: a1 :: a2 :: some (.int v) :: L) (.int v :: st) w cn sn := w_iload_n d_0_140 rfl
theorem d_0_141 : decode (mB 0) 141 = .ok (.iconst 3, 1) := by decide +kernel
theorem s_0_141 {d : Nat} {Q : wQ} {L : List (Option Value)} {st : List Value} {w : aw} {cn sn : Nat}  : wp d 0 Q 141 L st w cn sn = wp d 0 Q 142 L (.int 3 :: st) w cn sn := w_iconst d_0_141 (by decide)
theorem d_0_142 : decode (mB 0) 142 = .ok (.iadd, 1) := by decide +kernel
theorem s_0_142 {d : Nat} {Q : wQ} {L : List (Option Value)} {st : List Value} {w : aw} {cn sn : Nat} {a b : Int32} : wp d 0 Q 142 L (.int b :: .int a :: st) w cn sn = wp d 0 Q 143 L (.int (a + b) :: st) w cn sn := wp_row d_0_142 _ _ _ _ _
theorem d_0_143 : decode (mB 0) 143 = .ok (.iaload, 1) := by decide +kernel
theorem s_0_143 {d : Nat} {Q : wQ} {L : List (Option Value)} {st : List Value} {w : aw} {cn sn : Nat} {a : Nat} {i : Int32} : wp d 0 Q 143 L (.int i :: .ref a :: st) w cn sn = ((kd w a = 20 ∨ kd w a = 30) ∧ inR i (ln w a) ∧ wp d 0 Q 144 L (.int (ai w a i.toNatClampNeg) :: st) w cn sn) := wp_row d_0_143 _ _ _ _ _
theorem d_0_144 : decode (mB 0) 144 = .ok (.aload_n 0, 1) := by decide +kernel
theorem s_0_144 {d : Nat} {Q : wQ} {L : List (Option Value)} {st : List Value} {w : aw} {cn sn : Nat} {v : Nat} : wp d 0 Q 144 (some (.ref v) :: L) st w cn sn = wp d 0 Q 145 (some (.ref v) :: L) (.ref v :: st) w cn sn := w_aload_n d_0_144 rfl
theorem s_0_144n {d : Nat} {Q : wQ} {L : List (Option Value)} {st : List Value} {w : aw} {cn sn : Nat}  : wp d 0 Q 144 (some .null :: L) st w cn sn = wp d 0 Q 145 (some .null :: L) (.null :: st) w cn sn := w_aload_nN d_0_144 rfl
theorem d_0_145 : decode (mB 0) 145 = .ok (.iload_n 3, 1) := by decide +kernel
theorem s_0_145 {d : Nat} {Q : wQ} {L : List (Option Value)} {st : List Value} {w : aw} {cn sn : Nat} {a0 a1 a2 : Option Value} {v : Int32} : wp d 0 Q 145 (a0 :: a1 :: a2 :: some (.int v) :: L) st w cn sn = wp d 0 Q 146 (a0 :: a1 :: a2 :: some (.int v) :: L) (.int v :: st) w cn sn := w_iload_n d_0_145 rfl
theorem d_0_146 : decode (mB 0) 146 = .ok (.iconst 4, 1) := by decide +kernel
theorem s_0_146 {d : Nat} {Q : wQ} {L : List (Option Value)} {st : List Value} {w : aw} {cn sn : Nat}  : wp d 0 Q 146 L st w cn sn = wp d 0 Q 147 L (.int 4 :: st) w cn sn := w_iconst d_0_146 (by decide)
theorem d_0_147 : decode (mB 0) 147 = .ok (.iadd, 1) := by decide +kernel
theorem s_0_147 {d : Nat} {Q : wQ} {L : List (Option Value)} {st : List Value} {w : aw} {cn sn : Nat} {a b : Int32} : wp d 0 Q 147 L (.int b :: .int a :: st) w cn sn = wp d 0 Q 148 L (.int (a + b) :: st) w cn sn := wp_row d_0_147 _ _ _ _ _
theorem d_0_148 : decode (mB 0) 148 = .ok (.iaload, 1) := by decide +kernel
theorem s_0_148 {d : Nat} {Q : wQ} {L : List (Option Value)} {st : List Value} {w : aw} {cn sn : Nat} {a : Nat} {i : Int32} : wp d 0 Q 148 L (.int i :: .ref a :: st) w cn sn = ((kd w a = 20 ∨ kd w a = 30) ∧ inR i (ln w a) ∧ wp d 0 Q 149 L (.int (ai w a i.toNatClampNeg) :: st) w cn sn) := wp_row d_0_148 _ _ _ _ _
theorem d_0_149 : decode (mB 0) 149 = .ok (.invokevirtual 13, 3) := by decide +kernel
theorem s_0_149 {d : Nat} {Q : wQ} {L : List (Option Value)} {st : List Value} {w : aw} {cn sn : Nat} {v0 v1 v2 v3 : Value} {b : Nat} : wp d 0 Q 149 L (v3 :: v2 :: v1 :: v0 :: .ref b :: st) w cn sn = (kd w b = 8 ∧ catS st ≤ 8 ∧ wpD d 79 [.ref b, v0, v1, v2, v3] w (fun v w' => wp d 0 Q 152 L (v.toList ++ st) w' cn sn)) := w_virtual (As := [v0, v1, v2, v3]) d_0_149 (by decide +kernel : cT (mO 0) 13 = some (0, 79)) rfl (by decide +kernel) rfl (by decide +kernel) rfl
theorem d_0_152 : decode (mB 0) 152 = .ok (.aload_n 2, 1) := by decide +kernel
theorem s_0_152 {d : Nat} {Q : wQ} {L : List (Option Value)} {st : List Value} {w : aw} {cn sn : Nat} {a0 a1 : Option Value} {v : Nat} : wp d 0 Q 152 (a0 :: a1 :: some (.ref v) :: L) st w cn sn = wp d 0 Q 153 (a0 :: a1 :: some (.ref v) :: L) (.ref v :: st) w cn sn := w_aload_n d_0_152 rfl
theorem s_0_152n {d : Nat} {Q : wQ} {L : List (Option Value)} {st : List Value} {w : aw} {cn sn : Nat} {a0 a1 : Option Value} : wp d 0 Q 152 (a0 :: a1 :: some .null :: L) st w cn sn = wp d 0 Q 153 (a0 :: a1 :: some .null :: L) (.null :: st) w cn sn := w_aload_nN d_0_152 rfl
theorem d_0_153 : decode (mB 0) 153 = .ok (.aload_n 0, 1) := by decide +kernel
theorem s_0_153 {d : Nat} {Q : wQ} {L : List (Option Value)} {st : List Value} {w : aw} {cn sn : Nat} {v : Nat} : wp d 0 Q 153 (some (.ref v) :: L) st w cn sn = wp d 0 Q 154 (some (.ref v) :: L) (.ref v :: st) w cn sn := w_aload_n d_0_153 rfl
theorem s_0_153n {d : Nat} {Q : wQ} {L : List (Option Value)} {st : List Value} {w : aw} {cn sn : Nat}  : wp d 0 Q 153 (some .null :: L) st w cn sn = wp d 0 Q 154 (some .null :: L) (.null :: st) w cn sn := w_aload_nN d_0_153 rfl
theorem d_0_154 : decode (mB 0) 154 = .ok (.iload_n 3, 1) := by decide +kernel
theorem s_0_154 {d : Nat} {Q : wQ} {L : List (Option Value)} {st : List Value} {w : aw} {cn sn : Nat} {a0 a1 a2 : Option Value} {v : Int32} : wp d 0 Q 154 (a0 :: a1 :: a2 :: some (.int v) :: L) st w cn sn = wp d 0 Q 155 (a0 :: a1 :: a2 :: some (.int v) :: L) (.int v :: st) w cn sn := w_iload_n d_0_154 rfl
theorem d_0_155 : decode (mB 0) 155 = .ok (.iconst 1, 1) := by decide +kernel
theorem s_0_155 {d : Nat} {Q : wQ} {L : List (Option Value)} {st : List Value} {w : aw} {cn sn : Nat}  : wp d 0 Q 155 L st w cn sn = wp d 0 Q 156 L (.int 1 :: st) w cn sn := w_iconst d_0_155 (by decide)
theorem d_0_156 : decode (mB 0) 156 = .ok (.iadd, 1) := by decide +kernel
theorem s_0_156 {d : Nat} {Q : wQ} {L : List (Option Value)} {st : List Value} {w : aw} {cn sn : Nat} {a b : Int32} : wp d 0 Q 156 L (.int b :: .int a :: st) w cn sn = wp d 0 Q 157 L (.int (a + b) :: st) w cn sn := wp_row d_0_156 _ _ _ _ _
theorem d_0_157 : decode (mB 0) 157 = .ok (.iaload, 1) := by decide +kernel
theorem s_0_157 {d : Nat} {Q : wQ} {L : List (Option Value)} {st : List Value} {w : aw} {cn sn : Nat} {a : Nat} {i : Int32} : wp d 0 Q 157 L (.int i :: .ref a :: st) w cn sn = ((kd w a = 20 ∨ kd w a = 30) ∧ inR i (ln w a) ∧ wp d 0 Q 158 L (.int (ai w a i.toNatClampNeg) :: st) w cn sn) := wp_row d_0_157 _ _ _ _ _
theorem d_0_158 : decode (mB 0) 158 = .ok (.aload_n 0, 1) := by decide +kernel
theorem s_0_158 {d : Nat} {Q : wQ} {L : List (Option Value)} {st : List Value} {w : aw} {cn sn : Nat} {v : Nat} : wp d 0 Q 158 (some (.ref v) :: L) st w cn sn = wp d 0 Q 159 (some (.ref v) :: L) (.ref v :: st) w cn sn := w_aload_n d_0_158 rfl
theorem s_0_158n {d : Nat} {Q : wQ} {L : List (Option Value)} {st : List Value} {w : aw} {cn sn : Nat}  : wp d 0 Q 158 (some .null :: L) st w cn sn = wp d 0 Q 159 (some .null :: L) (.null :: st) w cn sn := w_aload_nN d_0_158 rfl
theorem d_0_159 : decode (mB 0) 159 = .ok (.iload_n 3, 1) := by decide +kernel
theorem s_0_159 {d : Nat} {Q : wQ} {L : List (Option Value)} {st : List Value} {w : aw} {cn sn : Nat} {a0 a1 a2 : Option Value} {v : Int32} : wp d 0 Q 159 (a0 :: a1 :: a2 :: some (.int v) :: L) st w cn sn = wp d 0 Q 160 (a0 :: a1 :: a2 :: some (.int v) :: L) (.int v :: st) w cn sn := w_iload_n d_0_159 rfl
theorem d_0_160 : decode (mB 0) 160 = .ok (.iconst 2, 1) := by decide +kernel
theorem s_0_160 {d : Nat} {Q : wQ} {L : List (Option Value)} {st : List Value} {w : aw} {cn sn : Nat}  : wp d 0 Q 160 L st w cn sn = wp d 0 Q 161 L (.int 2 :: st) w cn sn := w_iconst d_0_160 (by decide)
theorem d_0_161 : decode (mB 0) 161 = .ok (.iadd, 1) := by decide +kernel
theorem s_0_161 {d : Nat} {Q : wQ} {L : List (Option Value)} {st : List Value} {w : aw} {cn sn : Nat} {a b : Int32} : wp d 0 Q 161 L (.int b :: .int a :: st) w cn sn = wp d 0 Q 162 L (.int (a + b) :: st) w cn sn := wp_row d_0_161 _ _ _ _ _
theorem d_0_162 : decode (mB 0) 162 = .ok (.iaload, 1) := by decide +kernel
theorem s_0_162 {d : Nat} {Q : wQ} {L : List (Option Value)} {st : List Value} {w : aw} {cn sn : Nat} {a : Nat} {i : Int32} : wp d 0 Q 162 L (.int i :: .ref a :: st) w cn sn = ((kd w a = 20 ∨ kd w a = 30) ∧ inR i (ln w a) ∧ wp d 0 Q 163 L (.int (ai w a i.toNatClampNeg) :: st) w cn sn) := wp_row d_0_162 _ _ _ _ _
theorem d_0_163 : decode (mB 0) 163 = .ok (.aload_n 0, 1) := by decide +kernel
theorem s_0_163 {d : Nat} {Q : wQ} {L : List (Option Value)} {st : List Value} {w : aw} {cn sn : Nat} {v : Nat} : wp d 0 Q 163 (some (.ref v) :: L) st w cn sn = wp d 0 Q 164 (some (.ref v) :: L) (.ref v :: st) w cn sn := w_aload_n d_0_163 rfl
theorem s_0_163n {d : Nat} {Q : wQ} {L : List (Option Value)} {st : List Value} {w : aw} {cn sn : Nat}  : wp d 0 Q 163 (some .null :: L) st w cn sn = wp d 0 Q 164 (some .null :: L) (.null :: st) w cn sn := w_aload_nN d_0_163 rfl
theorem d_0_164 : decode (mB 0) 164 = .ok (.iload_n 3, 1) := by decide +kernel
theorem s_0_164 {d : Nat} {Q : wQ} {L : List (Option Value)} {st : List Value} {w : aw} {cn sn : Nat} {a0 a1 a2 : Option Value} {v : Int32} : wp d 0 Q 164 (a0 :: a1 :: a2 :: some (.int v) :: L) st w cn sn = wp d 0 Q 165 (a0 :: a1 :: a2 :: some (.int v) :: L) (.int v :: st) w cn sn := w_iload_n d_0_164 rfl
theorem d_0_165 : decode (mB 0) 165 = .ok (.iconst 3, 1) := by decide +kernel
theorem s_0_165 {d : Nat} {Q : wQ} {L : List (Option Value)} {st : List Value} {w : aw} {cn sn : Nat}  : wp d 0 Q 165 L st w cn sn = wp d 0 Q 166 L (.int 3 :: st) w cn sn := w_iconst d_0_165 (by decide)
theorem d_0_166 : decode (mB 0) 166 = .ok (.iadd, 1) := by decide +kernel
theorem s_0_166 {d : Nat} {Q : wQ} {L : List (Option Value)} {st : List Value} {w : aw} {cn sn : Nat} {a b : Int32} : wp d 0 Q 166 L (.int b :: .int a :: st) w cn sn = wp d 0 Q 167 L (.int (a + b) :: st) w cn sn := wp_row d_0_166 _ _ _ _ _
theorem d_0_167 : decode (mB 0) 167 = .ok (.iaload, 1) := by decide +kernel
theorem s_0_167 {d : Nat} {Q : wQ} {L : List (Option Value)} {st : List Value} {w : aw} {cn sn : Nat} {a : Nat} {i : Int32} : wp d 0 Q 167 L (.int i :: .ref a :: st) w cn sn = ((kd w a = 20 ∨ kd w a = 30) ∧ inR i (ln w a) ∧ wp d 0 Q 168 L (.int (ai w a i.toNatClampNeg) :: st) w cn sn) := wp_row d_0_167 _ _ _ _ _
theorem d_0_168 : decode (mB 0) 168 = .ok (.aload_n 0, 1) := by decide +kernel
theorem s_0_168 {d : Nat} {Q : wQ} {L : List (Option Value)} {st : List Value} {w : aw} {cn sn : Nat} {v : Nat} : wp d 0 Q 168 (some (.ref v) :: L) st w cn sn = wp d 0 Q 169 (some (.ref v) :: L) (.ref v :: st) w cn sn := w_aload_n d_0_168 rfl
theorem s_0_168n {d : Nat} {Q : wQ} {L : List (Option Value)} {st : List Value} {w : aw} {cn sn : Nat}  : wp d 0 Q 168 (some .null :: L) st w cn sn = wp d 0 Q 169 (some .null :: L) (.null :: st) w cn sn := w_aload_nN d_0_168 rfl
theorem d_0_169 : decode (mB 0) 169 = .ok (.iload_n 3, 1) := by decide +kernel
theorem s_0_169 {d : Nat} {Q : wQ} {L : List (Option Value)} {st : List Value} {w : aw} {cn sn : Nat} {a0 a1 a2 : Option Value} {v : Int32} : wp d 0 Q 169 (a0 :: a1 :: a2 :: some (.int v) :: L) st w cn sn = wp d 0 Q 170 (a0 :: a1 :: a2 :: some (.int v) :: L) (.int v :: st) w cn sn := w_iload_n d_0_169 rfl
theorem d_0_170 : decode (mB 0) 170 = .ok (.iconst 4, 1) := by decide +kernel
theorem s_0_170 {d : Nat} {Q : wQ} {L : List (Option Value)} {st : List Value} {w : aw} {cn sn : Nat}  : wp d 0 Q 170 L st w cn sn = wp d 0 Q 171 L (.int 4 :: st) w cn sn := w_iconst d_0_170 (by decide)
theorem d_0_171 : decode (mB 0) 171 = .ok (.iadd, 1) := by decide +kernel
theorem s_0_171 {d : Nat} {Q : wQ} {L : List (Option Value)} {st : List Value} {w : aw} {cn sn : Nat} {a b : Int32} : wp d 0 Q 171 L (.int b :: .int a :: st) w cn sn = wp d 0 Q 172 L (.int (a + b) :: st) w cn sn := wp_row d_0_171 _ _ _ _ _
theorem d_0_172 : decode (mB 0) 172 = .ok (.iaload, 1) := by decide +kernel
theorem s_0_172 {d : Nat} {Q : wQ} {L : List (Option Value)} {st : List Value} {w : aw} {cn sn : Nat} {a : Nat} {i : Int32} : wp d 0 Q 172 L (.int i :: .ref a :: st) w cn sn = ((kd w a = 20 ∨ kd w a = 30) ∧ inR i (ln w a) ∧ wp d 0 Q 173 L (.int (ai w a i.toNatClampNeg) :: st) w cn sn) := wp_row d_0_172 _ _ _ _ _
theorem d_0_173 : decode (mB 0) 173 = .ok (.invokevirtual 17, 3) := by decide +kernel
theorem s_0_173 {d : Nat} {Q : wQ} {L : List (Option Value)} {st : List Value} {w : aw} {cn sn : Nat} {v0 v1 v2 v3 : Value} {b : Nat} : wp d 0 Q 173 L (v3 :: v2 :: v1 :: v0 :: .ref b :: st) w cn sn = (kd w b = 9 ∧ catS st ≤ 8 ∧ wpD d 123 [.ref b, v0, v1, v2, v3] w (fun v w' => wp d 0 Q 176 L (v.toList ++ st) w' cn sn)) := w_virtual (As := [v0, v1, v2, v3]) d_0_173 (by decide +kernel : cT (mO 0) 17 = some (0, 123)) rfl (by decide +kernel) rfl (by decide +kernel) rfl
theorem d_0_176 : decode (mB 0) 176 = .ok (.if_icmp .eq 623, 3) := by decide +kernel
theorem s_0_176 {d : Nat} {Q : wQ} {L : List (Option Value)} {st : List Value} {w : aw} {cn sn : Nat} {a b : Int32} : wp d 0 Q 176 L (.int b :: .int a :: st) w cn sn = ((a = b → wp d 0 Q 799 L st w cn sn) ∧ (¬ a = b → wp d 0 Q 179 L st w cn sn)) := w_iceq d_0_176 (by decide)
theorem d_0_179 : decode (mB 0) 179 = .ok (.iconst 0, 1) := by decide +kernel
theorem s_0_179 {d : Nat} {Q : wQ} {L : List (Option Value)} {st : List Value} {w : aw} {cn sn : Nat}  : wp d 0 Q 179 L st w cn sn = wp d 0 Q 180 L (.int 0 :: st) w cn sn := w_iconst d_0_179 (by decide)
theorem d_0_180 : decode (mB 0) 180 = .ok (.ireturn, 1) := by decide +kernel
theorem s_0_180 {d : Nat} {Q : wQ} {L : List (Option Value)} {w : aw} {cn sn : Nat} {v : Int32} : wp d 0 Q 180 L [.int v] w cn sn = (narrow .boolean (.int v) = .int v ∧ Q (some (.int v)) w) := w_zreturn d_0_180 rfl
theorem d_0_181 : decode (mB 0) 181 = .ok (.aload_n 1, 1) := by decide +kernel
theorem s_0_181 {d : Nat} {Q : wQ} {L : List (Option Value)} {st : List Value} {w : aw} {cn sn : Nat} {a0 : Option Value} {v : Nat} : wp d 0 Q 181 (a0 :: some (.ref v) :: L) st w cn sn = wp d 0 Q 182 (a0 :: some (.ref v) :: L) (.ref v :: st) w cn sn := w_aload_n d_0_181 rfl
theorem s_0_181n {d : Nat} {Q : wQ} {L : List (Option Value)} {st : List Value} {w : aw} {cn sn : Nat} {a0 : Option Value} : wp d 0 Q 181 (a0 :: some .null :: L) st w cn sn = wp d 0 Q 182 (a0 :: some .null :: L) (.null :: st) w cn sn := w_aload_nN d_0_181 rfl
theorem d_0_182 : decode (mB 0) 182 = .ok (.aload_n 0, 1) := by decide +kernel
theorem s_0_182 {d : Nat} {Q : wQ} {L : List (Option Value)} {st : List Value} {w : aw} {cn sn : Nat} {v : Nat} : wp d 0 Q 182 (some (.ref v) :: L) st w cn sn = wp d 0 Q 183 (some (.ref v) :: L) (.ref v :: st) w cn sn := w_aload_n d_0_182 rfl
theorem s_0_182n {d : Nat} {Q : wQ} {L : List (Option Value)} {st : List Value} {w : aw} {cn sn : Nat}  : wp d 0 Q 182 (some .null :: L) st w cn sn = wp d 0 Q 183 (some .null :: L) (.null :: st) w cn sn := w_aload_nN d_0_182 rfl
theorem d_0_183 : decode (mB 0) 183 = .ok (.iload_n 3, 1) := by decide +kernel
theorem s_0_183 {d : Nat} {Q : wQ} {L : List (Option Value)} {st : List Value} {w : aw} {cn sn : Nat} {a0 a1 a2 : Option Value} {v : Int32} : wp d 0 Q 183 (a0 :: a1 :: a2 :: some (.int v) :: L) st w cn sn = wp d 0 Q 184 (a0 :: a1 :: a2 :: some (.int v) :: L) (.int v :: st) w cn sn := w_iload_n d_0_183 rfl
theorem d_0_184 : decode (mB 0) 184 = .ok (.iconst 1, 1) := by decide +kernel
theorem s_0_184 {d : Nat} {Q : wQ} {L : List (Option Value)} {st : List Value} {w : aw} {cn sn : Nat}  : wp d 0 Q 184 L st w cn sn = wp d 0 Q 185 L (.int 1 :: st) w cn sn := w_iconst d_0_184 (by decide)
theorem d_0_185 : decode (mB 0) 185 = .ok (.iadd, 1) := by decide +kernel
theorem s_0_185 {d : Nat} {Q : wQ} {L : List (Option Value)} {st : List Value} {w : aw} {cn sn : Nat} {a b : Int32} : wp d 0 Q 185 L (.int b :: .int a :: st) w cn sn = wp d 0 Q 186 L (.int (a + b) :: st) w cn sn := wp_row d_0_185 _ _ _ _ _
theorem d_0_186 : decode (mB 0) 186 = .ok (.iaload, 1) := by decide +kernel
theorem s_0_186 {d : Nat} {Q : wQ} {L : List (Option Value)} {st : List Value} {w : aw} {cn sn : Nat} {a : Nat} {i : Int32} : wp d 0 Q 186 L (.int i :: .ref a :: st) w cn sn = ((kd w a = 20 ∨ kd w a = 30) ∧ inR i (ln w a) ∧ wp d 0 Q 187 L (.int (ai w a i.toNatClampNeg) :: st) w cn sn) := wp_row d_0_186 _ _ _ _ _
theorem d_0_187 : decode (mB 0) 187 = .ok (.aload_n 0, 1) := by decide +kernel
theorem s_0_187 {d : Nat} {Q : wQ} {L : List (Option Value)} {st : List Value} {w : aw} {cn sn : Nat} {v : Nat} : wp d 0 Q 187 (some (.ref v) :: L) st w cn sn = wp d 0 Q 188 (some (.ref v) :: L) (.ref v :: st) w cn sn := w_aload_n d_0_187 rfl
theorem s_0_187n {d : Nat} {Q : wQ} {L : List (Option Value)} {st : List Value} {w : aw} {cn sn : Nat}  : wp d 0 Q 187 (some .null :: L) st w cn sn = wp d 0 Q 188 (some .null :: L) (.null :: st) w cn sn := w_aload_nN d_0_187 rfl
theorem d_0_188 : decode (mB 0) 188 = .ok (.iload_n 3, 1) := by decide +kernel
theorem s_0_188 {d : Nat} {Q : wQ} {L : List (Option Value)} {st : List Value} {w : aw} {cn sn : Nat} {a0 a1 a2 : Option Value} {v : Int32} : wp d 0 Q 188 (a0 :: a1 :: a2 :: some (.int v) :: L) st w cn sn = wp d 0 Q 189 (a0 :: a1 :: a2 :: some (.int v) :: L) (.int v :: st) w cn sn := w_iload_n d_0_188 rfl
theorem d_0_189 : decode (mB 0) 189 = .ok (.iconst 2, 1) := by decide +kernel
theorem s_0_189 {d : Nat} {Q : wQ} {L : List (Option Value)} {st : List Value} {w : aw} {cn sn : Nat}  : wp d 0 Q 189 L st w cn sn = wp d 0 Q 190 L (.int 2 :: st) w cn sn := w_iconst d_0_189 (by decide)
theorem d_0_190 : decode (mB 0) 190 = .ok (.iadd, 1) := by decide +kernel
theorem s_0_190 {d : Nat} {Q : wQ} {L : List (Option Value)} {st : List Value} {w : aw} {cn sn : Nat} {a b : Int32} : wp d 0 Q 190 L (.int b :: .int a :: st) w cn sn = wp d 0 Q 191 L (.int (a + b) :: st) w cn sn := wp_row d_0_190 _ _ _ _ _
theorem d_0_191 : decode (mB 0) 191 = .ok (.iaload, 1) := by decide +kernel
theorem s_0_191 {d : Nat} {Q : wQ} {L : List (Option Value)} {st : List Value} {w : aw} {cn sn : Nat} {a : Nat} {i : Int32} : wp d 0 Q 191 L (.int i :: .ref a :: st) w cn sn = ((kd w a = 20 ∨ kd w a = 30) ∧ inR i (ln w a) ∧ wp d 0 Q 192 L (.int (ai w a i.toNatClampNeg) :: st) w cn sn) := wp_row d_0_191 _ _ _ _ _
theorem d_0_192 : decode (mB 0) 192 = .ok (.aload_n 0, 1) := by decide +kernel
theorem s_0_192 {d : Nat} {Q : wQ} {L : List (Option Value)} {st : List Value} {w : aw} {cn sn : Nat} {v : Nat} : wp d 0 Q 192 (some (.ref v) :: L) st w cn sn = wp d 0 Q 193 (some (.ref v) :: L) (.ref v :: st) w cn sn := w_aload_n d_0_192 rfl
theorem s_0_192n {d : Nat} {Q : wQ} {L : List (Option Value)} {st : List Value} {w : aw} {cn sn : Nat}  : wp d 0 Q 192 (some .null :: L) st w cn sn = wp d 0 Q 193 (some .null :: L) (.null :: st) w cn sn := w_aload_nN d_0_192 rfl
theorem d_0_193 : decode (mB 0) 193 = .ok (.iload_n 3, 1) := by decide +kernel
theorem s_0_193 {d : Nat} {Q : wQ} {L : List (Option Value)} {st : List Value} {w : aw} {cn sn : Nat} {a0 a1 a2 : Option Value} {v : Int32} : wp d 0 Q 193 (a0 :: a1 :: a2 :: some (.int v) :: L) st w cn sn = wp d 0 Q 194 (a0 :: a1 :: a2 :: some (.int v) :: L) (.int v :: st) w cn sn := w_iload_n d_0_193 rfl
theorem d_0_194 : decode (mB 0) 194 = .ok (.iconst 3, 1) := by decide +kernel
theorem s_0_194 {d : Nat} {Q : wQ} {L : List (Option Value)} {st : List Value} {w : aw} {cn sn : Nat}  : wp d 0 Q 194 L st w cn sn = wp d 0 Q 195 L (.int 3 :: st) w cn sn := w_iconst d_0_194 (by decide)
theorem d_0_195 : decode (mB 0) 195 = .ok (.iadd, 1) := by decide +kernel
theorem s_0_195 {d : Nat} {Q : wQ} {L : List (Option Value)} {st : List Value} {w : aw} {cn sn : Nat} {a b : Int32} : wp d 0 Q 195 L (.int b :: .int a :: st) w cn sn = wp d 0 Q 196 L (.int (a + b) :: st) w cn sn := wp_row d_0_195 _ _ _ _ _
theorem d_0_196 : decode (mB 0) 196 = .ok (.iaload, 1) := by decide +kernel
theorem s_0_196 {d : Nat} {Q : wQ} {L : List (Option Value)} {st : List Value} {w : aw} {cn sn : Nat} {a : Nat} {i : Int32} : wp d 0 Q 196 L (.int i :: .ref a :: st) w cn sn = ((kd w a = 20 ∨ kd w a = 30) ∧ inR i (ln w a) ∧ wp d 0 Q 197 L (.int (ai w a i.toNatClampNeg) :: st) w cn sn) := wp_row d_0_196 _ _ _ _ _
theorem d_0_197 : decode (mB 0) 197 = .ok (.aload_n 0, 1) := by decide +kernel
theorem s_0_197 {d : Nat} {Q : wQ} {L : List (Option Value)} {st : List Value} {w : aw} {cn sn : Nat} {v : Nat} : wp d 0 Q 197 (some (.ref v) :: L) st w cn sn = wp d 0 Q 198 (some (.ref v) :: L) (.ref v :: st) w cn sn := w_aload_n d_0_197 rfl
theorem s_0_197n {d : Nat} {Q : wQ} {L : List (Option Value)} {st : List Value} {w : aw} {cn sn : Nat}  : wp d 0 Q 197 (some .null :: L) st w cn sn = wp d 0 Q 198 (some .null :: L) (.null :: st) w cn sn := w_aload_nN d_0_197 rfl
theorem d_0_198 : decode (mB 0) 198 = .ok (.iload_n 3, 1) := by decide +kernel
theorem s_0_198 {d : Nat} {Q : wQ} {L : List (Option Value)} {st : List Value} {w : aw} {cn sn : Nat} {a0 a1 a2 : Option Value} {v : Int32} : wp d 0 Q 198 (a0 :: a1 :: a2 :: some (.int v) :: L) st w cn sn = wp d 0 Q 199 (a0 :: a1 :: a2 :: some (.int v) :: L) (.int v :: st) w cn sn := w_iload_n d_0_198 rfl
theorem d_0_199 : decode (mB 0) 199 = .ok (.iconst 4, 1) := by decide +kernel
theorem s_0_199 {d : Nat} {Q : wQ} {L : List (Option Value)} {st : List Value} {w : aw} {cn sn : Nat}  : wp d 0 Q 199 L st w cn sn = wp d 0 Q 200 L (.int 4 :: st) w cn sn := w_iconst d_0_199 (by decide)
theorem d_0_200 : decode (mB 0) 200 = .ok (.iadd, 1) := by decide +kernel
theorem s_0_200 {d : Nat} {Q : wQ} {L : List (Option Value)} {st : List Value} {w : aw} {cn sn : Nat} {a b : Int32} : wp d 0 Q 200 L (.int b :: .int a :: st) w cn sn = wp d 0 Q 201 L (.int (a + b) :: st) w cn sn := wp_row d_0_200 _ _ _ _ _
theorem d_0_201 : decode (mB 0) 201 = .ok (.iaload, 1) := by decide +kernel
theorem s_0_201 {d : Nat} {Q : wQ} {L : List (Option Value)} {st : List Value} {w : aw} {cn sn : Nat} {a : Nat} {i : Int32} : wp d 0 Q 201 L (.int i :: .ref a :: st) w cn sn = ((kd w a = 20 ∨ kd w a = 30) ∧ inR i (ln w a) ∧ wp d 0 Q 202 L (.int (ai w a i.toNatClampNeg) :: st) w cn sn) := wp_row d_0_201 _ _ _ _ _
theorem d_0_202 : decode (mB 0) 202 = .ok (.aload_n 0, 1) := by decide +kernel
theorem s_0_202 {d : Nat} {Q : wQ} {L : List (Option Value)} {st : List Value} {w : aw} {cn sn : Nat} {v : Nat} : wp d 0 Q 202 (some (.ref v) :: L) st w cn sn = wp d 0 Q 203 (some (.ref v) :: L) (.ref v :: st) w cn sn := w_aload_n d_0_202 rfl
theorem s_0_202n {d : Nat} {Q : wQ} {L : List (Option Value)} {st : List Value} {w : aw} {cn sn : Nat}  : wp d 0 Q 202 (some .null :: L) st w cn sn = wp d 0 Q 203 (some .null :: L) (.null :: st) w cn sn := w_aload_nN d_0_202 rfl
theorem d_0_203 : decode (mB 0) 203 = .ok (.iload_n 3, 1) := by decide +kernel
theorem s_0_203 {d : Nat} {Q : wQ} {L : List (Option Value)} {st : List Value} {w : aw} {cn sn : Nat} {a0 a1 a2 : Option Value} {v : Int32} : wp d 0 Q 203 (a0 :: a1 :: a2 :: some (.int v) :: L) st w cn sn = wp d 0 Q 204 (a0 :: a1 :: a2 :: some (.int v) :: L) (.int v :: st) w cn sn := w_iload_n d_0_203 rfl
theorem d_0_204 : decode (mB 0) 204 = .ok (.iconst 5, 1) := by decide +kernel
theorem s_0_204 {d : Nat} {Q : wQ} {L : List (Option Value)} {st : List Value} {w : aw} {cn sn : Nat}  : wp d 0 Q 204 L st w cn sn = wp d 0 Q 205 L (.int 5 :: st) w cn sn := w_iconst d_0_204 (by decide)
theorem d_0_205 : decode (mB 0) 205 = .ok (.iadd, 1) := by decide +kernel
theorem s_0_205 {d : Nat} {Q : wQ} {L : List (Option Value)} {st : List Value} {w : aw} {cn sn : Nat} {a b : Int32} : wp d 0 Q 205 L (.int b :: .int a :: st) w cn sn = wp d 0 Q 206 L (.int (a + b) :: st) w cn sn := wp_row d_0_205 _ _ _ _ _
theorem d_0_206 : decode (mB 0) 206 = .ok (.iaload, 1) := by decide +kernel
theorem s_0_206 {d : Nat} {Q : wQ} {L : List (Option Value)} {st : List Value} {w : aw} {cn sn : Nat} {a : Nat} {i : Int32} : wp d 0 Q 206 L (.int i :: .ref a :: st) w cn sn = ((kd w a = 20 ∨ kd w a = 30) ∧ inR i (ln w a) ∧ wp d 0 Q 207 L (.int (ai w a i.toNatClampNeg) :: st) w cn sn) := wp_row d_0_206 _ _ _ _ _
theorem d_0_207 : decode (mB 0) 207 = .ok (.invokevirtual 18, 3) := by decide +kernel
theorem s_0_207 {d : Nat} {Q : wQ} {L : List (Option Value)} {st : List Value} {w : aw} {cn sn : Nat} {v0 v1 v2 v3 v4 : Value} {b : Nat} : wp d 0 Q 207 L (v4 :: v3 :: v2 :: v1 :: v0 :: .ref b :: st) w cn sn = (kd w b = 8 ∧ catS st ≤ 8 ∧ wpD d 80 [.ref b, v0, v1, v2, v3, v4] w (fun v w' => wp d 0 Q 210 L (v.toList ++ st) w' cn sn)) := w_virtual (As := [v0, v1, v2, v3, v4]) d_0_207 (by decide +kernel : cT (mO 0) 18 = some (0, 80)) rfl (by decide +kernel) rfl (by decide +kernel) rfl
theorem d_0_210 : decode (mB 0) 210 = .ok (.aload_n 2, 1) := by decide +kernel
theorem s_0_210 {d : Nat} {Q : wQ} {L : List (Option Value)} {st : List Value} {w : aw} {cn sn : Nat} {a0 a1 : Option Value} {v : Nat} : wp d 0 Q 210 (a0 :: a1 :: some (.ref v) :: L) st w cn sn = wp d 0 Q 211 (a0 :: a1 :: some (.ref v) :: L) (.ref v :: st) w cn sn := w_aload_n d_0_210 rfl
theorem s_0_210n {d : Nat} {Q : wQ} {L : List (Option Value)} {st : List Value} {w : aw} {cn sn : Nat} {a0 a1 : Option Value} : wp d 0 Q 210 (a0 :: a1 :: some .null :: L) st w cn sn = wp d 0 Q 211 (a0 :: a1 :: some .null :: L) (.null :: st) w cn sn := w_aload_nN d_0_210 rfl
theorem d_0_211 : decode (mB 0) 211 = .ok (.aload_n 0, 1) := by decide +kernel
theorem s_0_211 {d : Nat} {Q : wQ} {L : List (Option Value)} {st : List Value} {w : aw} {cn sn : Nat} {v : Nat} : wp d 0 Q 211 (some (.ref v) :: L) st w cn sn = wp d 0 Q 212 (some (.ref v) :: L) (.ref v :: st) w cn sn := w_aload_n d_0_211 rfl
theorem s_0_211n {d : Nat} {Q : wQ} {L : List (Option Value)} {st : List Value} {w : aw} {cn sn : Nat}  : wp d 0 Q 211 (some .null :: L) st w cn sn = wp d 0 Q 212 (some .null :: L) (.null :: st) w cn sn := w_aload_nN d_0_211 rfl
theorem d_0_212 : decode (mB 0) 212 = .ok (.iload_n 3, 1) := by decide +kernel
theorem s_0_212 {d : Nat} {Q : wQ} {L : List (Option Value)} {st : List Value} {w : aw} {cn sn : Nat} {a0 a1 a2 : Option Value} {v : Int32} : wp d 0 Q 212 (a0 :: a1 :: a2 :: some (.int v) :: L) st w cn sn = wp d 0 Q 213 (a0 :: a1 :: a2 :: some (.int v) :: L) (.int v :: st) w cn sn := w_iload_n d_0_212 rfl
theorem d_0_213 : decode (mB 0) 213 = .ok (.iconst 1, 1) := by decide +kernel
theorem s_0_213 {d : Nat} {Q : wQ} {L : List (Option Value)} {st : List Value} {w : aw} {cn sn : Nat}  : wp d 0 Q 213 L st w cn sn = wp d 0 Q 214 L (.int 1 :: st) w cn sn := w_iconst d_0_213 (by decide)
theorem d_0_214 : decode (mB 0) 214 = .ok (.iadd, 1) := by decide +kernel
theorem s_0_214 {d : Nat} {Q : wQ} {L : List (Option Value)} {st : List Value} {w : aw} {cn sn : Nat} {a b : Int32} : wp d 0 Q 214 L (.int b :: .int a :: st) w cn sn = wp d 0 Q 215 L (.int (a + b) :: st) w cn sn := wp_row d_0_214 _ _ _ _ _
theorem d_0_215 : decode (mB 0) 215 = .ok (.iaload, 1) := by decide +kernel
theorem s_0_215 {d : Nat} {Q : wQ} {L : List (Option Value)} {st : List Value} {w : aw} {cn sn : Nat} {a : Nat} {i : Int32} : wp d 0 Q 215 L (.int i :: .ref a :: st) w cn sn = ((kd w a = 20 ∨ kd w a = 30) ∧ inR i (ln w a) ∧ wp d 0 Q 216 L (.int (ai w a i.toNatClampNeg) :: st) w cn sn) := wp_row d_0_215 _ _ _ _ _
theorem d_0_216 : decode (mB 0) 216 = .ok (.aload_n 0, 1) := by decide +kernel
theorem s_0_216 {d : Nat} {Q : wQ} {L : List (Option Value)} {st : List Value} {w : aw} {cn sn : Nat} {v : Nat} : wp d 0 Q 216 (some (.ref v) :: L) st w cn sn = wp d 0 Q 217 (some (.ref v) :: L) (.ref v :: st) w cn sn := w_aload_n d_0_216 rfl
theorem s_0_216n {d : Nat} {Q : wQ} {L : List (Option Value)} {st : List Value} {w : aw} {cn sn : Nat}  : wp d 0 Q 216 (some .null :: L) st w cn sn = wp d 0 Q 217 (some .null :: L) (.null :: st) w cn sn := w_aload_nN d_0_216 rfl
theorem d_0_217 : decode (mB 0) 217 = .ok (.iload_n 3, 1) := by decide +kernel
theorem s_0_217 {d : Nat} {Q : wQ} {L : List (Option Value)} {st : List Value} {w : aw} {cn sn : Nat} {a0 a1 a2 : Option Value} {v : Int32} : wp d 0 Q 217 (a0 :: a1 :: a2 :: some (.int v) :: L) st w cn sn = wp d 0 Q 218 (a0 :: a1 :: a2 :: some (.int v) :: L) (.int v :: st) w cn sn := w_iload_n d_0_217 rfl
theorem d_0_218 : decode (mB 0) 218 = .ok (.iconst 2, 1) := by decide +kernel
theorem s_0_218 {d : Nat} {Q : wQ} {L : List (Option Value)} {st : List Value} {w : aw} {cn sn : Nat}  : wp d 0 Q 218 L st w cn sn = wp d 0 Q 219 L (.int 2 :: st) w cn sn := w_iconst d_0_218 (by decide)
theorem d_0_219 : decode (mB 0) 219 = .ok (.iadd, 1) := by decide +kernel
theorem s_0_219 {d : Nat} {Q : wQ} {L : List (Option Value)} {st : List Value} {w : aw} {cn sn : Nat} {a b : Int32} : wp d 0 Q 219 L (.int b :: .int a :: st) w cn sn = wp d 0 Q 220 L (.int (a + b) :: st) w cn sn := wp_row d_0_219 _ _ _ _ _
theorem d_0_220 : decode (mB 0) 220 = .ok (.iaload, 1) := by decide +kernel
theorem s_0_220 {d : Nat} {Q : wQ} {L : List (Option Value)} {st : List Value} {w : aw} {cn sn : Nat} {a : Nat} {i : Int32} : wp d 0 Q 220 L (.int i :: .ref a :: st) w cn sn = ((kd w a = 20 ∨ kd w a = 30) ∧ inR i (ln w a) ∧ wp d 0 Q 221 L (.int (ai w a i.toNatClampNeg) :: st) w cn sn) := wp_row d_0_220 _ _ _ _ _
theorem d_0_221 : decode (mB 0) 221 = .ok (.aload_n 0, 1) := by decide +kernel
theorem s_0_221 {d : Nat} {Q : wQ} {L : List (Option Value)} {st : List Value} {w : aw} {cn sn : Nat} {v : Nat} : wp d 0 Q 221 (some (.ref v) :: L) st w cn sn = wp d 0 Q 222 (some (.ref v) :: L) (.ref v :: st) w cn sn := w_aload_n d_0_221 rfl
theorem s_0_221n {d : Nat} {Q : wQ} {L : List (Option Value)} {st : List Value} {w : aw} {cn sn : Nat}  : wp d 0 Q 221 (some .null :: L) st w cn sn = wp d 0 Q 222 (some .null :: L) (.null :: st) w cn sn := w_aload_nN d_0_221 rfl
theorem d_0_222 : decode (mB 0) 222 = .ok (.iload_n 3, 1) := by decide +kernel
theorem s_0_222 {d : Nat} {Q : wQ} {L : List (Option Value)} {st : List Value} {w : aw} {cn sn : Nat} {a0 a1 a2 : Option Value} {v : Int32} : wp d 0 Q 222 (a0 :: a1 :: a2 :: some (.int v) :: L) st w cn sn = wp d 0 Q 223 (a0 :: a1 :: a2 :: some (.int v) :: L) (.int v :: st) w cn sn := w_iload_n d_0_222 rfl
theorem d_0_223 : decode (mB 0) 223 = .ok (.iconst 3, 1) := by decide +kernel
theorem s_0_223 {d : Nat} {Q : wQ} {L : List (Option Value)} {st : List Value} {w : aw} {cn sn : Nat}  : wp d 0 Q 223 L st w cn sn = wp d 0 Q 224 L (.int 3 :: st) w cn sn := w_iconst d_0_223 (by decide)
theorem d_0_224 : decode (mB 0) 224 = .ok (.iadd, 1) := by decide +kernel
theorem s_0_224 {d : Nat} {Q : wQ} {L : List (Option Value)} {st : List Value} {w : aw} {cn sn : Nat} {a b : Int32} : wp d 0 Q 224 L (.int b :: .int a :: st) w cn sn = wp d 0 Q 225 L (.int (a + b) :: st) w cn sn := wp_row d_0_224 _ _ _ _ _
theorem d_0_225 : decode (mB 0) 225 = .ok (.iaload, 1) := by decide +kernel
theorem s_0_225 {d : Nat} {Q : wQ} {L : List (Option Value)} {st : List Value} {w : aw} {cn sn : Nat} {a : Nat} {i : Int32} : wp d 0 Q 225 L (.int i :: .ref a :: st) w cn sn = ((kd w a = 20 ∨ kd w a = 30) ∧ inR i (ln w a) ∧ wp d 0 Q 226 L (.int (ai w a i.toNatClampNeg) :: st) w cn sn) := wp_row d_0_225 _ _ _ _ _
theorem d_0_226 : decode (mB 0) 226 = .ok (.aload_n 0, 1) := by decide +kernel
theorem s_0_226 {d : Nat} {Q : wQ} {L : List (Option Value)} {st : List Value} {w : aw} {cn sn : Nat} {v : Nat} : wp d 0 Q 226 (some (.ref v) :: L) st w cn sn = wp d 0 Q 227 (some (.ref v) :: L) (.ref v :: st) w cn sn := w_aload_n d_0_226 rfl
theorem s_0_226n {d : Nat} {Q : wQ} {L : List (Option Value)} {st : List Value} {w : aw} {cn sn : Nat}  : wp d 0 Q 226 (some .null :: L) st w cn sn = wp d 0 Q 227 (some .null :: L) (.null :: st) w cn sn := w_aload_nN d_0_226 rfl
theorem d_0_227 : decode (mB 0) 227 = .ok (.iload_n 3, 1) := by decide +kernel
theorem s_0_227 {d : Nat} {Q : wQ} {L : List (Option Value)} {st : List Value} {w : aw} {cn sn : Nat} {a0 a1 a2 : Option Value} {v : Int32} : wp d 0 Q 227 (a0 :: a1 :: a2 :: some (.int v) :: L) st w cn sn = wp d 0 Q 228 (a0 :: a1 :: a2 :: some (.int v) :: L) (.int v :: st) w cn sn := w_iload_n d_0_227 rfl
theorem d_0_228 : decode (mB 0) 228 = .ok (.iconst 4, 1) := by decide +kernel
theorem s_0_228 {d : Nat} {Q : wQ} {L : List (Option Value)} {st : List Value} {w : aw} {cn sn : Nat}  : wp d 0 Q 228 L st w cn sn = wp d 0 Q 229 L (.int 4 :: st) w cn sn := w_iconst d_0_228 (by decide)
theorem d_0_229 : decode (mB 0) 229 = .ok (.iadd, 1) := by decide +kernel
theorem s_0_229 {d : Nat} {Q : wQ} {L : List (Option Value)} {st : List Value} {w : aw} {cn sn : Nat} {a b : Int32} : wp d 0 Q 229 L (.int b :: .int a :: st) w cn sn = wp d 0 Q 230 L (.int (a + b) :: st) w cn sn := wp_row d_0_229 _ _ _ _ _
theorem d_0_230 : decode (mB 0) 230 = .ok (.iaload, 1) := by decide +kernel
theorem s_0_230 {d : Nat} {Q : wQ} {L : List (Option Value)} {st : List Value} {w : aw} {cn sn : Nat} {a : Nat} {i : Int32} : wp d 0 Q 230 L (.int i :: .ref a :: st) w cn sn = ((kd w a = 20 ∨ kd w a = 30) ∧ inR i (ln w a) ∧ wp d 0 Q 231 L (.int (ai w a i.toNatClampNeg) :: st) w cn sn) := wp_row d_0_230 _ _ _ _ _
theorem d_0_231 : decode (mB 0) 231 = .ok (.aload_n 0, 1) := by decide +kernel
theorem s_0_231 {d : Nat} {Q : wQ} {L : List (Option Value)} {st : List Value} {w : aw} {cn sn : Nat} {v : Nat} : wp d 0 Q 231 (some (.ref v) :: L) st w cn sn = wp d 0 Q 232 (some (.ref v) :: L) (.ref v :: st) w cn sn := w_aload_n d_0_231 rfl
theorem s_0_231n {d : Nat} {Q : wQ} {L : List (Option Value)} {st : List Value} {w : aw} {cn sn : Nat}  : wp d 0 Q 231 (some .null :: L) st w cn sn = wp d 0 Q 232 (some .null :: L) (.null :: st) w cn sn := w_aload_nN d_0_231 rfl
theorem d_0_232 : decode (mB 0) 232 = .ok (.iload_n 3, 1) := by decide +kernel
theorem s_0_232 {d : Nat} {Q : wQ} {L : List (Option Value)} {st : List Value} {w : aw} {cn sn : Nat} {a0 a1 a2 : Option Value} {v : Int32} : wp d 0 Q 232 (a0 :: a1 :: a2 :: some (.int v) :: L) st w cn sn = wp d 0 Q 233 (a0 :: a1 :: a2 :: some (.int v) :: L) (.int v :: st) w cn sn := w_iload_n d_0_232 rfl
theorem d_0_233 : decode (mB 0) 233 = .ok (.iconst 5, 1) := by decide +kernel
theorem s_0_233 {d : Nat} {Q : wQ} {L : List (Option Value)} {st : List Value} {w : aw} {cn sn : Nat}  : wp d 0 Q 233 L st w cn sn = wp d 0 Q 234 L (.int 5 :: st) w cn sn := w_iconst d_0_233 (by decide)
theorem d_0_234 : decode (mB 0) 234 = .ok (.iadd, 1) := by decide +kernel
theorem s_0_234 {d : Nat} {Q : wQ} {L : List (Option Value)} {st : List Value} {w : aw} {cn sn : Nat} {a b : Int32} : wp d 0 Q 234 L (.int b :: .int a :: st) w cn sn = wp d 0 Q 235 L (.int (a + b) :: st) w cn sn := wp_row d_0_234 _ _ _ _ _
theorem d_0_235 : decode (mB 0) 235 = .ok (.iaload, 1) := by decide +kernel
theorem s_0_235 {d : Nat} {Q : wQ} {L : List (Option Value)} {st : List Value} {w : aw} {cn sn : Nat} {a : Nat} {i : Int32} : wp d 0 Q 235 L (.int i :: .ref a :: st) w cn sn = ((kd w a = 20 ∨ kd w a = 30) ∧ inR i (ln w a) ∧ wp d 0 Q 236 L (.int (ai w a i.toNatClampNeg) :: st) w cn sn) := wp_row d_0_235 _ _ _ _ _
theorem d_0_236 : decode (mB 0) 236 = .ok (.invokevirtual 22, 3) := by decide +kernel
theorem s_0_236 {d : Nat} {Q : wQ} {L : List (Option Value)} {st : List Value} {w : aw} {cn sn : Nat} {v0 v1 v2 v3 v4 : Value} {b : Nat} : wp d 0 Q 236 L (v4 :: v3 :: v2 :: v1 :: v0 :: .ref b :: st) w cn sn = (kd w b = 9 ∧ catS st ≤ 8 ∧ wpD d 125 [.ref b, v0, v1, v2, v3, v4] w (fun v w' => wp d 0 Q 239 L (v.toList ++ st) w' cn sn)) := w_virtual (As := [v0, v1, v2, v3, v4]) d_0_236 (by decide +kernel : cT (mO 0) 22 = some (0, 125)) rfl (by decide +kernel) rfl (by decide +kernel) rfl
theorem d_0_239 : decode (mB 0) 239 = .ok (.if_icmp .eq 560, 3) := by decide +kernel
theorem s_0_239 {d : Nat} {Q : wQ} {L : List (Option Value)} {st : List Value} {w : aw} {cn sn : Nat} {a b : Int32} : wp d 0 Q 239 L (.int b :: .int a :: st) w cn sn = ((a = b → wp d 0 Q 799 L st w cn sn) ∧ (¬ a = b → wp d 0 Q 242 L st w cn sn)) := w_iceq d_0_239 (by decide)
theorem d_0_242 : decode (mB 0) 242 = .ok (.iconst 0, 1) := by decide +kernel
theorem s_0_242 {d : Nat} {Q : wQ} {L : List (Option Value)} {st : List Value} {w : aw} {cn sn : Nat}  : wp d 0 Q 242 L st w cn sn = wp d 0 Q 243 L (.int 0 :: st) w cn sn := w_iconst d_0_242 (by decide)
theorem d_0_243 : decode (mB 0) 243 = .ok (.ireturn, 1) := by decide +kernel
theorem s_0_243 {d : Nat} {Q : wQ} {L : List (Option Value)} {w : aw} {cn sn : Nat} {v : Int32} : wp d 0 Q 243 L [.int v] w cn sn = (narrow .boolean (.int v) = .int v ∧ Q (some (.int v)) w) := w_zreturn d_0_243 rfl
theorem d_0_244 : decode (mB 0) 244 = .ok (.aload_n 1, 1) := by decide +kernel
theorem s_0_244 {d : Nat} {Q : wQ} {L : List (Option Value)} {st : List Value} {w : aw} {cn sn : Nat} {a0 : Option Value} {v : Nat} : wp d 0 Q 244 (a0 :: some (.ref v) :: L) st w cn sn = wp d 0 Q 245 (a0 :: some (.ref v) :: L) (.ref v :: st) w cn sn := w_aload_n d_0_244 rfl
theorem s_0_244n {d : Nat} {Q : wQ} {L : List (Option Value)} {st : List Value} {w : aw} {cn sn : Nat} {a0 : Option Value} : wp d 0 Q 244 (a0 :: some .null :: L) st w cn sn = wp d 0 Q 245 (a0 :: some .null :: L) (.null :: st) w cn sn := w_aload_nN d_0_244 rfl
theorem d_0_245 : decode (mB 0) 245 = .ok (.aload_n 0, 1) := by decide +kernel
theorem s_0_245 {d : Nat} {Q : wQ} {L : List (Option Value)} {st : List Value} {w : aw} {cn sn : Nat} {v : Nat} : wp d 0 Q 245 (some (.ref v) :: L) st w cn sn = wp d 0 Q 246 (some (.ref v) :: L) (.ref v :: st) w cn sn := w_aload_n d_0_245 rfl
theorem s_0_245n {d : Nat} {Q : wQ} {L : List (Option Value)} {st : List Value} {w : aw} {cn sn : Nat}  : wp d 0 Q 245 (some .null :: L) st w cn sn = wp d 0 Q 246 (some .null :: L) (.null :: st) w cn sn := w_aload_nN d_0_245 rfl
theorem d_0_246 : decode (mB 0) 246 = .ok (.iload_n 3, 1) := by decide +kernel
theorem s_0_246 {d : Nat} {Q : wQ} {L : List (Option Value)} {st : List Value} {w : aw} {cn sn : Nat} {a0 a1 a2 : Option Value} {v : Int32} : wp d 0 Q 246 (a0 :: a1 :: a2 :: some (.int v) :: L) st w cn sn = wp d 0 Q 247 (a0 :: a1 :: a2 :: some (.int v) :: L) (.int v :: st) w cn sn := w_iload_n d_0_246 rfl
theorem d_0_247 : decode (mB 0) 247 = .ok (.iconst 1, 1) := by decide +kernel
theorem s_0_247 {d : Nat} {Q : wQ} {L : List (Option Value)} {st : List Value} {w : aw} {cn sn : Nat}  : wp d 0 Q 247 L st w cn sn = wp d 0 Q 248 L (.int 1 :: st) w cn sn := w_iconst d_0_247 (by decide)
theorem d_0_248 : decode (mB 0) 248 = .ok (.iadd, 1) := by decide +kernel
theorem s_0_248 {d : Nat} {Q : wQ} {L : List (Option Value)} {st : List Value} {w : aw} {cn sn : Nat} {a b : Int32} : wp d 0 Q 248 L (.int b :: .int a :: st) w cn sn = wp d 0 Q 249 L (.int (a + b) :: st) w cn sn := wp_row d_0_248 _ _ _ _ _
theorem d_0_249 : decode (mB 0) 249 = .ok (.iaload, 1) := by decide +kernel
theorem s_0_249 {d : Nat} {Q : wQ} {L : List (Option Value)} {st : List Value} {w : aw} {cn sn : Nat} {a : Nat} {i : Int32} : wp d 0 Q 249 L (.int i :: .ref a :: st) w cn sn = ((kd w a = 20 ∨ kd w a = 30) ∧ inR i (ln w a) ∧ wp d 0 Q 250 L (.int (ai w a i.toNatClampNeg) :: st) w cn sn) := wp_row d_0_249 _ _ _ _ _
theorem d_0_250 : decode (mB 0) 250 = .ok (.invokevirtual 23, 3) := by decide +kernel
theorem s_0_250 {d : Nat} {Q : wQ} {L : List (Option Value)} {st : List Value} {w : aw} {cn sn : Nat} {v0 : Value} {b : Nat} : wp d 0 Q 250 L (v0 :: .ref b :: st) w cn sn = (kd w b = 8 ∧ catS st ≤ 8 ∧ wpD d 81 [.ref b, v0] w (fun v w' => wp d 0 Q 253 L (v.toList ++ st) w' cn sn)) := w_virtual (As := [v0]) d_0_250 (by decide +kernel : cT (mO 0) 23 = some (0, 81)) rfl (by decide +kernel) rfl (by decide +kernel) rfl
theorem d_0_253 : decode (mB 0) 253 = .ok (.aload_n 2, 1) := by decide +kernel
theorem s_0_253 {d : Nat} {Q : wQ} {L : List (Option Value)} {st : List Value} {w : aw} {cn sn : Nat} {a0 a1 : Option Value} {v : Nat} : wp d 0 Q 253 (a0 :: a1 :: some (.ref v) :: L) st w cn sn = wp d 0 Q 254 (a0 :: a1 :: some (.ref v) :: L) (.ref v :: st) w cn sn := w_aload_n d_0_253 rfl
theorem s_0_253n {d : Nat} {Q : wQ} {L : List (Option Value)} {st : List Value} {w : aw} {cn sn : Nat} {a0 a1 : Option Value} : wp d 0 Q 253 (a0 :: a1 :: some .null :: L) st w cn sn = wp d 0 Q 254 (a0 :: a1 :: some .null :: L) (.null :: st) w cn sn := w_aload_nN d_0_253 rfl
theorem d_0_254 : decode (mB 0) 254 = .ok (.aload_n 0, 1) := by decide +kernel
theorem s_0_254 {d : Nat} {Q : wQ} {L : List (Option Value)} {st : List Value} {w : aw} {cn sn : Nat} {v : Nat} : wp d 0 Q 254 (some (.ref v) :: L) st w cn sn = wp d 0 Q 255 (some (.ref v) :: L) (.ref v :: st) w cn sn := w_aload_n d_0_254 rfl
theorem s_0_254n {d : Nat} {Q : wQ} {L : List (Option Value)} {st : List Value} {w : aw} {cn sn : Nat}  : wp d 0 Q 254 (some .null :: L) st w cn sn = wp d 0 Q 255 (some .null :: L) (.null :: st) w cn sn := w_aload_nN d_0_254 rfl
theorem d_0_255 : decode (mB 0) 255 = .ok (.iload_n 3, 1) := by decide +kernel
theorem s_0_255 {d : Nat} {Q : wQ} {L : List (Option Value)} {st : List Value} {w : aw} {cn sn : Nat} {a0 a1 a2 : Option Value} {v : Int32} : wp d 0 Q 255 (a0 :: a1 :: a2 :: some (.int v) :: L) st w cn sn = wp d 0 Q 256 (a0 :: a1 :: a2 :: some (.int v) :: L) (.int v :: st) w cn sn := w_iload_n d_0_255 rfl
theorem d_0_256 : decode (mB 0) 256 = .ok (.iconst 1, 1) := by decide +kernel
theorem s_0_256 {d : Nat} {Q : wQ} {L : List (Option Value)} {st : List Value} {w : aw} {cn sn : Nat}  : wp d 0 Q 256 L st w cn sn = wp d 0 Q 257 L (.int 1 :: st) w cn sn := w_iconst d_0_256 (by decide)
theorem d_0_257 : decode (mB 0) 257 = .ok (.iadd, 1) := by decide +kernel
theorem s_0_257 {d : Nat} {Q : wQ} {L : List (Option Value)} {st : List Value} {w : aw} {cn sn : Nat} {a b : Int32} : wp d 0 Q 257 L (.int b :: .int a :: st) w cn sn = wp d 0 Q 258 L (.int (a + b) :: st) w cn sn := wp_row d_0_257 _ _ _ _ _
theorem d_0_258 : decode (mB 0) 258 = .ok (.iaload, 1) := by decide +kernel
theorem s_0_258 {d : Nat} {Q : wQ} {L : List (Option Value)} {st : List Value} {w : aw} {cn sn : Nat} {a : Nat} {i : Int32} : wp d 0 Q 258 L (.int i :: .ref a :: st) w cn sn = ((kd w a = 20 ∨ kd w a = 30) ∧ inR i (ln w a) ∧ wp d 0 Q 259 L (.int (ai w a i.toNatClampNeg) :: st) w cn sn) := wp_row d_0_258 _ _ _ _ _
theorem d_0_259 : decode (mB 0) 259 = .ok (.invokevirtual 27, 3) := by decide +kernel
theorem s_0_259 {d : Nat} {Q : wQ} {L : List (Option Value)} {st : List Value} {w : aw} {cn sn : Nat} {v0 : Value} {b : Nat} : wp d 0 Q 259 L (v0 :: .ref b :: st) w cn sn = (kd w b = 9 ∧ catS st ≤ 8 ∧ wpD d 126 [.ref b, v0] w (fun v w' => wp d 0 Q 262 L (v.toList ++ st) w' cn sn)) := w_virtual (As := [v0]) d_0_259 (by decide +kernel : cT (mO 0) 27 = some (0, 126)) rfl (by decide +kernel) rfl (by decide +kernel) rfl
theorem d_0_262 : decode (mB 0) 262 = .ok (.if_icmp .eq 537, 3) := by decide +kernel
theorem s_0_262 {d : Nat} {Q : wQ} {L : List (Option Value)} {st : List Value} {w : aw} {cn sn : Nat} {a b : Int32} : wp d 0 Q 262 L (.int b :: .int a :: st) w cn sn = ((a = b → wp d 0 Q 799 L st w cn sn) ∧ (¬ a = b → wp d 0 Q 265 L st w cn sn)) := w_iceq d_0_262 (by decide)
theorem d_0_265 : decode (mB 0) 265 = .ok (.iconst 0, 1) := by decide +kernel
theorem s_0_265 {d : Nat} {Q : wQ} {L : List (Option Value)} {st : List Value} {w : aw} {cn sn : Nat}  : wp d 0 Q 265 L st w cn sn = wp d 0 Q 266 L (.int 0 :: st) w cn sn := w_iconst d_0_265 (by decide)
theorem d_0_266 : decode (mB 0) 266 = .ok (.ireturn, 1) := by decide +kernel
theorem s_0_266 {d : Nat} {Q : wQ} {L : List (Option Value)} {w : aw} {cn sn : Nat} {v : Int32} : wp d 0 Q 266 L [.int v] w cn sn = (narrow .boolean (.int v) = .int v ∧ Q (some (.int v)) w) := w_zreturn d_0_266 rfl
theorem d_0_267 : decode (mB 0) 267 = .ok (.aload_n 1, 1) := by decide +kernel
theorem s_0_267 {d : Nat} {Q : wQ} {L : List (Option Value)} {st : List Value} {w : aw} {cn sn : Nat} {a0 : Option Value} {v : Nat} : wp d 0 Q 267 (a0 :: some (.ref v) :: L) st w cn sn = wp d 0 Q 268 (a0 :: some (.ref v) :: L) (.ref v :: st) w cn sn := w_aload_n d_0_267 rfl
theorem s_0_267n {d : Nat} {Q : wQ} {L : List (Option Value)} {st : List Value} {w : aw} {cn sn : Nat} {a0 : Option Value} : wp d 0 Q 267 (a0 :: some .null :: L) st w cn sn = wp d 0 Q 268 (a0 :: some .null :: L) (.null :: st) w cn sn := w_aload_nN d_0_267 rfl
theorem d_0_268 : decode (mB 0) 268 = .ok (.aload_n 0, 1) := by decide +kernel
theorem s_0_268 {d : Nat} {Q : wQ} {L : List (Option Value)} {st : List Value} {w : aw} {cn sn : Nat} {v : Nat} : wp d 0 Q 268 (some (.ref v) :: L) st w cn sn = wp d 0 Q 269 (some (.ref v) :: L) (.ref v :: st) w cn sn := w_aload_n d_0_268 rfl
theorem s_0_268n {d : Nat} {Q : wQ} {L : List (Option Value)} {st : List Value} {w : aw} {cn sn : Nat}  : wp d 0 Q 268 (some .null :: L) st w cn sn = wp d 0 Q 269 (some .null :: L) (.null :: st) w cn sn := w_aload_nN d_0_268 rfl
theorem d_0_269 : decode (mB 0) 269 = .ok (.iload_n 3, 1) := by decide +kernel
theorem s_0_269 {d : Nat} {Q : wQ} {L : List (Option Value)} {st : List Value} {w : aw} {cn sn : Nat} {a0 a1 a2 : Option Value} {v : Int32} : wp d 0 Q 269 (a0 :: a1 :: a2 :: some (.int v) :: L) st w cn sn = wp d 0 Q 270 (a0 :: a1 :: a2 :: some (.int v) :: L) (.int v :: st) w cn sn := w_iload_n d_0_269 rfl
theorem d_0_270 : decode (mB 0) 270 = .ok (.iconst 1, 1) := by decide +kernel
theorem s_0_270 {d : Nat} {Q : wQ} {L : List (Option Value)} {st : List Value} {w : aw} {cn sn : Nat}  : wp d 0 Q 270 L st w cn sn = wp d 0 Q 271 L (.int 1 :: st) w cn sn := w_iconst d_0_270 (by decide)
theorem d_0_271 : decode (mB 0) 271 = .ok (.iadd, 1) := by decide +kernel
theorem s_0_271 {d : Nat} {Q : wQ} {L : List (Option Value)} {st : List Value} {w : aw} {cn sn : Nat} {a b : Int32} : wp d 0 Q 271 L (.int b :: .int a :: st) w cn sn = wp d 0 Q 272 L (.int (a + b) :: st) w cn sn := wp_row d_0_271 _ _ _ _ _
theorem d_0_272 : decode (mB 0) 272 = .ok (.iaload, 1) := by decide +kernel
theorem s_0_272 {d : Nat} {Q : wQ} {L : List (Option Value)} {st : List Value} {w : aw} {cn sn : Nat} {a : Nat} {i : Int32} : wp d 0 Q 272 L (.int i :: .ref a :: st) w cn sn = ((kd w a = 20 ∨ kd w a = 30) ∧ inR i (ln w a) ∧ wp d 0 Q 273 L (.int (ai w a i.toNatClampNeg) :: st) w cn sn) := wp_row d_0_272 _ _ _ _ _
theorem d_0_273 : decode (mB 0) 273 = .ok (.invokevirtual 28, 3) := by decide +kernel
theorem s_0_273 {d : Nat} {Q : wQ} {L : List (Option Value)} {st : List Value} {w : aw} {cn sn : Nat} {v0 : Value} {b : Nat} : wp d 0 Q 273 L (v0 :: .ref b :: st) w cn sn = (kd w b = 8 ∧ catS st ≤ 8 ∧ wpD d 82 [.ref b, v0] w (fun v w' => wp d 0 Q 276 L (v.toList ++ st) w' cn sn)) := w_virtual (As := [v0]) d_0_273 (by decide +kernel : cT (mO 0) 28 = some (0, 82)) rfl (by decide +kernel) rfl (by decide +kernel) rfl
theorem d_0_276 : decode (mB 0) 276 = .ok (.aload_n 2, 1) := by decide +kernel
theorem s_0_276 {d : Nat} {Q : wQ} {L : List (Option Value)} {st : List Value} {w : aw} {cn sn : Nat} {a0 a1 : Option Value} {v : Nat} : wp d 0 Q 276 (a0 :: a1 :: some (.ref v) :: L) st w cn sn = wp d 0 Q 277 (a0 :: a1 :: some (.ref v) :: L) (.ref v :: st) w cn sn := w_aload_n d_0_276 rfl
theorem s_0_276n {d : Nat} {Q : wQ} {L : List (Option Value)} {st : List Value} {w : aw} {cn sn : Nat} {a0 a1 : Option Value} : wp d 0 Q 276 (a0 :: a1 :: some .null :: L) st w cn sn = wp d 0 Q 277 (a0 :: a1 :: some .null :: L) (.null :: st) w cn sn := w_aload_nN d_0_276 rfl
theorem d_0_277 : decode (mB 0) 277 = .ok (.aload_n 0, 1) := by decide +kernel
theorem s_0_277 {d : Nat} {Q : wQ} {L : List (Option Value)} {st : List Value} {w : aw} {cn sn : Nat} {v : Nat} : wp d 0 Q 277 (some (.ref v) :: L) st w cn sn = wp d 0 Q 278 (some (.ref v) :: L) (.ref v :: st) w cn sn := w_aload_n d_0_277 rfl
theorem s_0_277n {d : Nat} {Q : wQ} {L : List (Option Value)} {st : List Value} {w : aw} {cn sn : Nat}  : wp d 0 Q 277 (some .null :: L) st w cn sn = wp d 0 Q 278 (some .null :: L) (.null :: st) w cn sn := w_aload_nN d_0_277 rfl
theorem d_0_278 : decode (mB 0) 278 = .ok (.iload_n 3, 1) := by decide +kernel
theorem s_0_278 {d : Nat} {Q : wQ} {L : List (Option Value)} {st : List Value} {w : aw} {cn sn : Nat} {a0 a1 a2 : Option Value} {v : Int32} : wp d 0 Q 278 (a0 :: a1 :: a2 :: some (.int v) :: L) st w cn sn = wp d 0 Q 279 (a0 :: a1 :: a2 :: some (.int v) :: L) (.int v :: st) w cn sn := w_iload_n d_0_278 rfl
theorem d_0_279 : decode (mB 0) 279 = .ok (.iconst 1, 1) := by decide +kernel
theorem s_0_279 {d : Nat} {Q : wQ} {L : List (Option Value)} {st : List Value} {w : aw} {cn sn : Nat}  : wp d 0 Q 279 L st w cn sn = wp d 0 Q 280 L (.int 1 :: st) w cn sn := w_iconst d_0_279 (by decide)
theorem d_0_280 : decode (mB 0) 280 = .ok (.iadd, 1) := by decide +kernel
theorem s_0_280 {d : Nat} {Q : wQ} {L : List (Option Value)} {st : List Value} {w : aw} {cn sn : Nat} {a b : Int32} : wp d 0 Q 280 L (.int b :: .int a :: st) w cn sn = wp d 0 Q 281 L (.int (a + b) :: st) w cn sn := wp_row d_0_280 _ _ _ _ _
theorem d_0_281 : decode (mB 0) 281 = .ok (.iaload, 1) := by decide +kernel
theorem s_0_281 {d : Nat} {Q : wQ} {L : List (Option Value)} {st : List Value} {w : aw} {cn sn : Nat} {a : Nat} {i : Int32} : wp d 0 Q 281 L (.int i :: .ref a :: st) w cn sn = ((kd w a = 20 ∨ kd w a = 30) ∧ inR i (ln w a) ∧ wp d 0 Q 282 L (.int (ai w a i.toNatClampNeg) :: st) w cn sn) := wp_row d_0_281 _ _ _ _ _
theorem d_0_282 : decode (mB 0) 282 = .ok (.invokevirtual 31, 3) := by decide +kernel
theorem s_0_282 {d : Nat} {Q : wQ} {L : List (Option Value)} {st : List Value} {w : aw} {cn sn : Nat} {v0 : Value} {b : Nat} : wp d 0 Q 282 L (v0 :: .ref b :: st) w cn sn = (kd w b = 9 ∧ catS st ≤ 8 ∧ wpD d 173 [.ref b, v0] w (fun v w' => wp d 0 Q 285 L (v.toList ++ st) w' cn sn)) := w_virtual (As := [v0]) d_0_282 (by decide +kernel : cT (mO 0) 31 = some (0, 173)) rfl (by decide +kernel) rfl (by decide +kernel) rfl
theorem d_0_285 : decode (mB 0) 285 = .ok (.if_icmp .eq 514, 3) := by decide +kernel
theorem s_0_285 {d : Nat} {Q : wQ} {L : List (Option Value)} {st : List Value} {w : aw} {cn sn : Nat} {a b : Int32} : wp d 0 Q 285 L (.int b :: .int a :: st) w cn sn = ((a = b → wp d 0 Q 799 L st w cn sn) ∧ (¬ a = b → wp d 0 Q 288 L st w cn sn)) := w_iceq d_0_285 (by decide)
theorem d_0_288 : decode (mB 0) 288 = .ok (.iconst 0, 1) := by decide +kernel
theorem s_0_288 {d : Nat} {Q : wQ} {L : List (Option Value)} {st : List Value} {w : aw} {cn sn : Nat}  : wp d 0 Q 288 L st w cn sn = wp d 0 Q 289 L (.int 0 :: st) w cn sn := w_iconst d_0_288 (by decide)
theorem d_0_289 : decode (mB 0) 289 = .ok (.ireturn, 1) := by decide +kernel
theorem s_0_289 {d : Nat} {Q : wQ} {L : List (Option Value)} {w : aw} {cn sn : Nat} {v : Int32} : wp d 0 Q 289 L [.int v] w cn sn = (narrow .boolean (.int v) = .int v ∧ Q (some (.int v)) w) := w_zreturn d_0_289 rfl
theorem d_0_290 : decode (mB 0) 290 = .ok (.aload_n 1, 1) := by decide +kernel
theorem s_0_290 {d : Nat} {Q : wQ} {L : List (Option Value)} {st : List Value} {w : aw} {cn sn : Nat} {a0 : Option Value} {v : Nat} : wp d 0 Q 290 (a0 :: some (.ref v) :: L) st w cn sn = wp d 0 Q 291 (a0 :: some (.ref v) :: L) (.ref v :: st) w cn sn := w_aload_n d_0_290 rfl
theorem s_0_290n {d : Nat} {Q : wQ} {L : List (Option Value)} {st : List Value} {w : aw} {cn sn : Nat} {a0 : Option Value} : wp d 0 Q 290 (a0 :: some .null :: L) st w cn sn = wp d 0 Q 291 (a0 :: some .null :: L) (.null :: st) w cn sn := w_aload_nN d_0_290 rfl
theorem d_0_291 : decode (mB 0) 291 = .ok (.aload_n 0, 1) := by decide +kernel
theorem s_0_291 {d : Nat} {Q : wQ} {L : List (Option Value)} {st : List Value} {w : aw} {cn sn : Nat} {v : Nat} : wp d 0 Q 291 (some (.ref v) :: L) st w cn sn = wp d 0 Q 292 (some (.ref v) :: L) (.ref v :: st) w cn sn := w_aload_n d_0_291 rfl
theorem s_0_291n {d : Nat} {Q : wQ} {L : List (Option Value)} {st : List Value} {w : aw} {cn sn : Nat}  : wp d 0 Q 291 (some .null :: L) st w cn sn = wp d 0 Q 292 (some .null :: L) (.null :: st) w cn sn := w_aload_nN d_0_291 rfl
theorem d_0_292 : decode (mB 0) 292 = .ok (.iload_n 3, 1) := by decide +kernel
theorem s_0_292 {d : Nat} {Q : wQ} {L : List (Option Value)} {st : List Value} {w : aw} {cn sn : Nat} {a0 a1 a2 : Option Value} {v : Int32} : wp d 0 Q 292 (a0 :: a1 :: a2 :: some (.int v) :: L) st w cn sn = wp d 0 Q 293 (a0 :: a1 :: a2 :: some (.int v) :: L) (.int v :: st) w cn sn := w_iload_n d_0_292 rfl
theorem d_0_293 : decode (mB 0) 293 = .ok (.iconst 1, 1) := by decide +kernel
theorem s_0_293 {d : Nat} {Q : wQ} {L : List (Option Value)} {st : List Value} {w : aw} {cn sn : Nat}  : wp d 0 Q 293 L st w cn sn = wp d 0 Q 294 L (.int 1 :: st) w cn sn := w_iconst d_0_293 (by decide)
theorem d_0_294 : decode (mB 0) 294 = .ok (.iadd, 1) := by decide +kernel
theorem s_0_294 {d : Nat} {Q : wQ} {L : List (Option Value)} {st : List Value} {w : aw} {cn sn : Nat} {a b : Int32} : wp d 0 Q 294 L (.int b :: .int a :: st) w cn sn = wp d 0 Q 295 L (.int (a + b) :: st) w cn sn := wp_row d_0_294 _ _ _ _ _
theorem d_0_295 : decode (mB 0) 295 = .ok (.iaload, 1) := by decide +kernel
theorem s_0_295 {d : Nat} {Q : wQ} {L : List (Option Value)} {st : List Value} {w : aw} {cn sn : Nat} {a : Nat} {i : Int32} : wp d 0 Q 295 L (.int i :: .ref a :: st) w cn sn = ((kd w a = 20 ∨ kd w a = 30) ∧ inR i (ln w a) ∧ wp d 0 Q 296 L (.int (ai w a i.toNatClampNeg) :: st) w cn sn) := wp_row d_0_295 _ _ _ _ _
theorem d_0_296 : decode (mB 0) 296 = .ok (.invokevirtual 32, 3) := by decide +kernel
theorem s_0_296 {d : Nat} {Q : wQ} {L : List (Option Value)} {st : List Value} {w : aw} {cn sn : Nat} {v0 : Value} {b : Nat} : wp d 0 Q 296 L (v0 :: .ref b :: st) w cn sn = (kd w b = 8 ∧ catS st ≤ 8 ∧ wpD d 83 [.ref b, v0] w (fun v w' => wp d 0 Q 299 L (v.toList ++ st) w' cn sn)) := w_virtual (As := [v0]) d_0_296 (by decide +kernel : cT (mO 0) 32 = some (0, 83)) rfl (by decide +kernel) rfl (by decide +kernel) rfl
theorem d_0_299 : decode (mB 0) 299 = .ok (.aload_n 2, 1) := by decide +kernel
theorem s_0_299 {d : Nat} {Q : wQ} {L : List (Option Value)} {st : List Value} {w : aw} {cn sn : Nat} {a0 a1 : Option Value} {v : Nat} : wp d 0 Q 299 (a0 :: a1 :: some (.ref v) :: L) st w cn sn = wp d 0 Q 300 (a0 :: a1 :: some (.ref v) :: L) (.ref v :: st) w cn sn := w_aload_n d_0_299 rfl
theorem s_0_299n {d : Nat} {Q : wQ} {L : List (Option Value)} {st : List Value} {w : aw} {cn sn : Nat} {a0 a1 : Option Value} : wp d 0 Q 299 (a0 :: a1 :: some .null :: L) st w cn sn = wp d 0 Q 300 (a0 :: a1 :: some .null :: L) (.null :: st) w cn sn := w_aload_nN d_0_299 rfl
theorem d_0_300 : decode (mB 0) 300 = .ok (.aload_n 0, 1) := by decide +kernel
theorem s_0_300 {d : Nat} {Q : wQ} {L : List (Option Value)} {st : List Value} {w : aw} {cn sn : Nat} {v : Nat} : wp d 0 Q 300 (some (.ref v) :: L) st w cn sn = wp d 0 Q 301 (some (.ref v) :: L) (.ref v :: st) w cn sn := w_aload_n d_0_300 rfl
theorem s_0_300n {d : Nat} {Q : wQ} {L : List (Option Value)} {st : List Value} {w : aw} {cn sn : Nat}  : wp d 0 Q 300 (some .null :: L) st w cn sn = wp d 0 Q 301 (some .null :: L) (.null :: st) w cn sn := w_aload_nN d_0_300 rfl
theorem d_0_301 : decode (mB 0) 301 = .ok (.iload_n 3, 1) := by decide +kernel
theorem s_0_301 {d : Nat} {Q : wQ} {L : List (Option Value)} {st : List Value} {w : aw} {cn sn : Nat} {a0 a1 a2 : Option Value} {v : Int32} : wp d 0 Q 301 (a0 :: a1 :: a2 :: some (.int v) :: L) st w cn sn = wp d 0 Q 302 (a0 :: a1 :: a2 :: some (.int v) :: L) (.int v :: st) w cn sn := w_iload_n d_0_301 rfl
theorem d_0_302 : decode (mB 0) 302 = .ok (.iconst 1, 1) := by decide +kernel
theorem s_0_302 {d : Nat} {Q : wQ} {L : List (Option Value)} {st : List Value} {w : aw} {cn sn : Nat}  : wp d 0 Q 302 L st w cn sn = wp d 0 Q 303 L (.int 1 :: st) w cn sn := w_iconst d_0_302 (by decide)
theorem d_0_303 : decode (mB 0) 303 = .ok (.iadd, 1) := by decide +kernel
theorem s_0_303 {d : Nat} {Q : wQ} {L : List (Option Value)} {st : List Value} {w : aw} {cn sn : Nat} {a b : Int32} : wp d 0 Q 303 L (.int b :: .int a :: st) w cn sn = wp d 0 Q 304 L (.int (a + b) :: st) w cn sn := wp_row d_0_303 _ _ _ _ _
theorem d_0_304 : decode (mB 0) 304 = .ok (.iaload, 1) := by decide +kernel
theorem s_0_304 {d : Nat} {Q : wQ} {L : List (Option Value)} {st : List Value} {w : aw} {cn sn : Nat} {a : Nat} {i : Int32} : wp d 0 Q 304 L (.int i :: .ref a :: st) w cn sn = ((kd w a = 20 ∨ kd w a = 30) ∧ inR i (ln w a) ∧ wp d 0 Q 305 L (.int (ai w a i.toNatClampNeg) :: st) w cn sn) := wp_row d_0_304 _ _ _ _ _
theorem d_0_305 : decode (mB 0) 305 = .ok (.invokevirtual 35, 3) := by decide +kernel
theorem s_0_305 {d : Nat} {Q : wQ} {L : List (Option Value)} {st : List Value} {w : aw} {cn sn : Nat} {v0 : Value} {b : Nat} : wp d 0 Q 305 L (v0 :: .ref b :: st) w cn sn = (kd w b = 9 ∧ catS st ≤ 8 ∧ wpD d 127 [.ref b, v0] w (fun v w' => wp d 0 Q 308 L (v.toList ++ st) w' cn sn)) := w_virtual (As := [v0]) d_0_305 (by decide +kernel : cT (mO 0) 35 = some (0, 127)) rfl (by decide +kernel) rfl (by decide +kernel) rfl
theorem d_0_308 : decode (mB 0) 308 = .ok (.if_icmp .eq 491, 3) := by decide +kernel
theorem s_0_308 {d : Nat} {Q : wQ} {L : List (Option Value)} {st : List Value} {w : aw} {cn sn : Nat} {a b : Int32} : wp d 0 Q 308 L (.int b :: .int a :: st) w cn sn = ((a = b → wp d 0 Q 799 L st w cn sn) ∧ (¬ a = b → wp d 0 Q 311 L st w cn sn)) := w_iceq d_0_308 (by decide)
theorem d_0_311 : decode (mB 0) 311 = .ok (.iconst 0, 1) := by decide +kernel
theorem s_0_311 {d : Nat} {Q : wQ} {L : List (Option Value)} {st : List Value} {w : aw} {cn sn : Nat}  : wp d 0 Q 311 L st w cn sn = wp d 0 Q 312 L (.int 0 :: st) w cn sn := w_iconst d_0_311 (by decide)
theorem d_0_312 : decode (mB 0) 312 = .ok (.ireturn, 1) := by decide +kernel
theorem s_0_312 {d : Nat} {Q : wQ} {L : List (Option Value)} {w : aw} {cn sn : Nat} {v : Int32} : wp d 0 Q 312 L [.int v] w cn sn = (narrow .boolean (.int v) = .int v ∧ Q (some (.int v)) w) := w_zreturn d_0_312 rfl
theorem d_0_313 : decode (mB 0) 313 = .ok (.aload_n 1, 1) := by decide +kernel
theorem s_0_313 {d : Nat} {Q : wQ} {L : List (Option Value)} {st : List Value} {w : aw} {cn sn : Nat} {a0 : Option Value} {v : Nat} : wp d 0 Q 313 (a0 :: some (.ref v) :: L) st w cn sn = wp d 0 Q 314 (a0 :: some (.ref v) :: L) (.ref v :: st) w cn sn := w_aload_n d_0_313 rfl
theorem s_0_313n {d : Nat} {Q : wQ} {L : List (Option Value)} {st : List Value} {w : aw} {cn sn : Nat} {a0 : Option Value} : wp d 0 Q 313 (a0 :: some .null :: L) st w cn sn = wp d 0 Q 314 (a0 :: some .null :: L) (.null :: st) w cn sn := w_aload_nN d_0_313 rfl
theorem d_0_314 : decode (mB 0) 314 = .ok (.aload_n 0, 1) := by decide +kernel
theorem s_0_314 {d : Nat} {Q : wQ} {L : List (Option Value)} {st : List Value} {w : aw} {cn sn : Nat} {v : Nat} : wp d 0 Q 314 (some (.ref v) :: L) st w cn sn = wp d 0 Q 315 (some (.ref v) :: L) (.ref v :: st) w cn sn := w_aload_n d_0_314 rfl
theorem s_0_314n {d : Nat} {Q : wQ} {L : List (Option Value)} {st : List Value} {w : aw} {cn sn : Nat}  : wp d 0 Q 314 (some .null :: L) st w cn sn = wp d 0 Q 315 (some .null :: L) (.null :: st) w cn sn := w_aload_nN d_0_314 rfl
theorem d_0_315 : decode (mB 0) 315 = .ok (.iload_n 3, 1) := by decide +kernel
theorem s_0_315 {d : Nat} {Q : wQ} {L : List (Option Value)} {st : List Value} {w : aw} {cn sn : Nat} {a0 a1 a2 : Option Value} {v : Int32} : wp d 0 Q 315 (a0 :: a1 :: a2 :: some (.int v) :: L) st w cn sn = wp d 0 Q 316 (a0 :: a1 :: a2 :: some (.int v) :: L) (.int v :: st) w cn sn := w_iload_n d_0_315 rfl
theorem d_0_316 : decode (mB 0) 316 = .ok (.iconst 1, 1) := by decide +kernel
theorem s_0_316 {d : Nat} {Q : wQ} {L : List (Option Value)} {st : List Value} {w : aw} {cn sn : Nat}  : wp d 0 Q 316 L st w cn sn = wp d 0 Q 317 L (.int 1 :: st) w cn sn := w_iconst d_0_316 (by decide)
theorem d_0_317 : decode (mB 0) 317 = .ok (.iadd, 1) := by decide +kernel
theorem s_0_317 {d : Nat} {Q : wQ} {L : List (Option Value)} {st : List Value} {w : aw} {cn sn : Nat} {a b : Int32} : wp d 0 Q 317 L (.int b :: .int a :: st) w cn sn = wp d 0 Q 318 L (.int (a + b) :: st) w cn sn := wp_row d_0_317 _ _ _ _ _
theorem d_0_318 : decode (mB 0) 318 = .ok (.iaload, 1) := by decide +kernel
theorem s_0_318 {d : Nat} {Q : wQ} {L : List (Option Value)} {st : List Value} {w : aw} {cn sn : Nat} {a : Nat} {i : Int32} : wp d 0 Q 318 L (.int i :: .ref a :: st) w cn sn = ((kd w a = 20 ∨ kd w a = 30) ∧ inR i (ln w a) ∧ wp d 0 Q 319 L (.int (ai w a i.toNatClampNeg) :: st) w cn sn) := wp_row d_0_318 _ _ _ _ _
theorem d_0_319 : decode (mB 0) 319 = .ok (.aload_n 0, 1) := by decide +kernel
theorem s_0_319 {d : Nat} {Q : wQ} {L : List (Option Value)} {st : List Value} {w : aw} {cn sn : Nat} {v : Nat} : wp d 0 Q 319 (some (.ref v) :: L) st w cn sn = wp d 0 Q 320 (some (.ref v) :: L) (.ref v :: st) w cn sn := w_aload_n d_0_319 rfl
theorem s_0_319n {d : Nat} {Q : wQ} {L : List (Option Value)} {st : List Value} {w : aw} {cn sn : Nat}  : wp d 0 Q 319 (some .null :: L) st w cn sn = wp d 0 Q 320 (some .null :: L) (.null :: st) w cn sn := w_aload_nN d_0_319 rfl
theorem d_0_320 : decode (mB 0) 320 = .ok (.iload_n 3, 1) := by decide +kernel
theorem s_0_320 {d : Nat} {Q : wQ} {L : List (Option Value)} {st : List Value} {w : aw} {cn sn : Nat} {a0 a1 a2 : Option Value} {v : Int32} : wp d 0 Q 320 (a0 :: a1 :: a2 :: some (.int v) :: L) st w cn sn = wp d 0 Q 321 (a0 :: a1 :: a2 :: some (.int v) :: L) (.int v :: st) w cn sn := w_iload_n d_0_320 rfl
theorem d_0_321 : decode (mB 0) 321 = .ok (.iconst 2, 1) := by decide +kernel
theorem s_0_321 {d : Nat} {Q : wQ} {L : List (Option Value)} {st : List Value} {w : aw} {cn sn : Nat}  : wp d 0 Q 321 L st w cn sn = wp d 0 Q 322 L (.int 2 :: st) w cn sn := w_iconst d_0_321 (by decide)
theorem d_0_322 : decode (mB 0) 322 = .ok (.iadd, 1) := by decide +kernel
theorem s_0_322 {d : Nat} {Q : wQ} {L : List (Option Value)} {st : List Value} {w : aw} {cn sn : Nat} {a b : Int32} : wp d 0 Q 322 L (.int b :: .int a :: st) w cn sn = wp d 0 Q 323 L (.int (a + b) :: st) w cn sn := wp_row d_0_322 _ _ _ _ _
theorem d_0_323 : decode (mB 0) 323 = .ok (.iaload, 1) := by decide +kernel
theorem s_0_323 {d : Nat} {Q : wQ} {L : List (Option Value)} {st : List Value} {w : aw} {cn sn : Nat} {a : Nat} {i : Int32} : wp d 0 Q 323 L (.int i :: .ref a :: st) w cn sn = ((kd w a = 20 ∨ kd w a = 30) ∧ inR i (ln w a) ∧ wp d 0 Q 324 L (.int (ai w a i.toNatClampNeg) :: st) w cn sn) := wp_row d_0_323 _ _ _ _ _
theorem d_0_324 : decode (mB 0) 324 = .ok (.aload_n 0, 1) := by decide +kernel
theorem s_0_324 {d : Nat} {Q : wQ} {L : List (Option Value)} {st : List Value} {w : aw} {cn sn : Nat} {v : Nat} : wp d 0 Q 324 (some (.ref v) :: L) st w cn sn = wp d 0 Q 325 (some (.ref v) :: L) (.ref v :: st) w cn sn := w_aload_n d_0_324 rfl
theorem s_0_324n {d : Nat} {Q : wQ} {L : List (Option Value)} {st : List Value} {w : aw} {cn sn : Nat}  : wp d 0 Q 324 (some .null :: L) st w cn sn = wp d 0 Q 325 (some .null :: L) (.null :: st) w cn sn := w_aload_nN d_0_324 rfl
theorem d_0_325 : decode (mB 0) 325 = .ok (.iload_n 3, 1) := by decide +kernel
theorem s_0_325 {d : Nat} {Q : wQ} {L : List (Option Value)} {st : List Value} {w : aw} {cn sn : Nat} {a0 a1 a2 : Option Value} {v : Int32} : wp d 0 Q 325 (a0 :: a1 :: a2 :: some (.int v) :: L) st w cn sn = wp d 0 Q 326 (a0 :: a1 :: a2 :: some (.int v) :: L) (.int v :: st) w cn sn := w_iload_n d_0_325 rfl
theorem d_0_326 : decode (mB 0) 326 = .ok (.iconst 3, 1) := by decide +kernel
theorem s_0_326 {d : Nat} {Q : wQ} {L : List (Option Value)} {st : List Value} {w : aw} {cn sn : Nat}  : wp d 0 Q 326 L st w cn sn = wp d 0 Q 327 L (.int 3 :: st) w cn sn := w_iconst d_0_326 (by decide)
theorem d_0_327 : decode (mB 0) 327 = .ok (.iadd, 1) := by decide +kernel
theorem s_0_327 {d : Nat} {Q : wQ} {L : List (Option Value)} {st : List Value} {w : aw} {cn sn : Nat} {a b : Int32} : wp d 0 Q 327 L (.int b :: .int a :: st) w cn sn = wp d 0 Q 328 L (.int (a + b) :: st) w cn sn := wp_row d_0_327 _ _ _ _ _
theorem d_0_328 : decode (mB 0) 328 = .ok (.iaload, 1) := by decide +kernel
theorem s_0_328 {d : Nat} {Q : wQ} {L : List (Option Value)} {st : List Value} {w : aw} {cn sn : Nat} {a : Nat} {i : Int32} : wp d 0 Q 328 L (.int i :: .ref a :: st) w cn sn = ((kd w a = 20 ∨ kd w a = 30) ∧ inR i (ln w a) ∧ wp d 0 Q 329 L (.int (ai w a i.toNatClampNeg) :: st) w cn sn) := wp_row d_0_328 _ _ _ _ _
theorem d_0_329 : decode (mB 0) 329 = .ok (.invokevirtual 36, 3) := by decide +kernel
theorem s_0_329 {d : Nat} {Q : wQ} {L : List (Option Value)} {st : List Value} {w : aw} {cn sn : Nat} {v0 v1 v2 : Value} {b : Nat} : wp d 0 Q 329 L (v2 :: v1 :: v0 :: .ref b :: st) w cn sn = (kd w b = 8 ∧ catS st ≤ 8 ∧ wpD d 84 [.ref b, v0, v1, v2] w (fun v w' => wp d 0 Q 332 L (v.toList ++ st) w' cn sn)) := w_virtual (As := [v0, v1, v2]) d_0_329 (by decide +kernel : cT (mO 0) 36 = some (0, 84)) rfl (by decide +kernel) rfl (by decide +kernel) rfl
theorem d_0_332 : decode (mB 0) 332 = .ok (.aload_n 2, 1) := by decide +kernel
theorem s_0_332 {d : Nat} {Q : wQ} {L : List (Option Value)} {st : List Value} {w : aw} {cn sn : Nat} {a0 a1 : Option Value} {v : Nat} : wp d 0 Q 332 (a0 :: a1 :: some (.ref v) :: L) st w cn sn = wp d 0 Q 333 (a0 :: a1 :: some (.ref v) :: L) (.ref v :: st) w cn sn := w_aload_n d_0_332 rfl
theorem s_0_332n {d : Nat} {Q : wQ} {L : List (Option Value)} {st : List Value} {w : aw} {cn sn : Nat} {a0 a1 : Option Value} : wp d 0 Q 332 (a0 :: a1 :: some .null :: L) st w cn sn = wp d 0 Q 333 (a0 :: a1 :: some .null :: L) (.null :: st) w cn sn := w_aload_nN d_0_332 rfl
theorem d_0_333 : decode (mB 0) 333 = .ok (.aload_n 0, 1) := by decide +kernel
theorem s_0_333 {d : Nat} {Q : wQ} {L : List (Option Value)} {st : List Value} {w : aw} {cn sn : Nat} {v : Nat} : wp d 0 Q 333 (some (.ref v) :: L) st w cn sn = wp d 0 Q 334 (some (.ref v) :: L) (.ref v :: st) w cn sn := w_aload_n d_0_333 rfl
theorem s_0_333n {d : Nat} {Q : wQ} {L : List (Option Value)} {st : List Value} {w : aw} {cn sn : Nat}  : wp d 0 Q 333 (some .null :: L) st w cn sn = wp d 0 Q 334 (some .null :: L) (.null :: st) w cn sn := w_aload_nN d_0_333 rfl
theorem d_0_334 : decode (mB 0) 334 = .ok (.iload_n 3, 1) := by decide +kernel
theorem s_0_334 {d : Nat} {Q : wQ} {L : List (Option Value)} {st : List Value} {w : aw} {cn sn : Nat} {a0 a1 a2 : Option Value} {v : Int32} : wp d 0 Q 334 (a0 :: a1 :: a2 :: some (.int v) :: L) st w cn sn = wp d 0 Q 335 (a0 :: a1 :: a2 :: some (.int v) :: L) (.int v :: st) w cn sn := w_iload_n d_0_334 rfl
theorem d_0_335 : decode (mB 0) 335 = .ok (.iconst 1, 1) := by decide +kernel
theorem s_0_335 {d : Nat} {Q : wQ} {L : List (Option Value)} {st : List Value} {w : aw} {cn sn : Nat}  : wp d 0 Q 335 L st w cn sn = wp d 0 Q 336 L (.int 1 :: st) w cn sn := w_iconst d_0_335 (by decide)
theorem d_0_336 : decode (mB 0) 336 = .ok (.iadd, 1) := by decide +kernel
theorem s_0_336 {d : Nat} {Q : wQ} {L : List (Option Value)} {st : List Value} {w : aw} {cn sn : Nat} {a b : Int32} : wp d 0 Q 336 L (.int b :: .int a :: st) w cn sn = wp d 0 Q 337 L (.int (a + b) :: st) w cn sn := wp_row d_0_336 _ _ _ _ _
theorem d_0_337 : decode (mB 0) 337 = .ok (.iaload, 1) := by decide +kernel
theorem s_0_337 {d : Nat} {Q : wQ} {L : List (Option Value)} {st : List Value} {w : aw} {cn sn : Nat} {a : Nat} {i : Int32} : wp d 0 Q 337 L (.int i :: .ref a :: st) w cn sn = ((kd w a = 20 ∨ kd w a = 30) ∧ inR i (ln w a) ∧ wp d 0 Q 338 L (.int (ai w a i.toNatClampNeg) :: st) w cn sn) := wp_row d_0_337 _ _ _ _ _
theorem d_0_338 : decode (mB 0) 338 = .ok (.aload_n 0, 1) := by decide +kernel
theorem s_0_338 {d : Nat} {Q : wQ} {L : List (Option Value)} {st : List Value} {w : aw} {cn sn : Nat} {v : Nat} : wp d 0 Q 338 (some (.ref v) :: L) st w cn sn = wp d 0 Q 339 (some (.ref v) :: L) (.ref v :: st) w cn sn := w_aload_n d_0_338 rfl
theorem s_0_338n {d : Nat} {Q : wQ} {L : List (Option Value)} {st : List Value} {w : aw} {cn sn : Nat}  : wp d 0 Q 338 (some .null :: L) st w cn sn = wp d 0 Q 339 (some .null :: L) (.null :: st) w cn sn := w_aload_nN d_0_338 rfl
theorem d_0_339 : decode (mB 0) 339 = .ok (.iload_n 3, 1) := by decide +kernel
theorem s_0_339 {d : Nat} {Q : wQ} {L : List (Option Value)} {st : List Value} {w : aw} {cn sn : Nat} {a0 a1 a2 : Option Value} {v : Int32} : wp d 0 Q 339 (a0 :: a1 :: a2 :: some (.int v) :: L) st w cn sn = wp d 0 Q 340 (a0 :: a1 :: a2 :: some (.int v) :: L) (.int v :: st) w cn sn := w_iload_n d_0_339 rfl
theorem d_0_340 : decode (mB 0) 340 = .ok (.iconst 2, 1) := by decide +kernel
theorem s_0_340 {d : Nat} {Q : wQ} {L : List (Option Value)} {st : List Value} {w : aw} {cn sn : Nat}  : wp d 0 Q 340 L st w cn sn = wp d 0 Q 341 L (.int 2 :: st) w cn sn := w_iconst d_0_340 (by decide)
theorem d_0_341 : decode (mB 0) 341 = .ok (.iadd, 1) := by decide +kernel
theorem s_0_341 {d : Nat} {Q : wQ} {L : List (Option Value)} {st : List Value} {w : aw} {cn sn : Nat} {a b : Int32} : wp d 0 Q 341 L (.int b :: .int a :: st) w cn sn = wp d 0 Q 342 L (.int (a + b) :: st) w cn sn := wp_row d_0_341 _ _ _ _ _
theorem d_0_342 : decode (mB 0) 342 = .ok (.iaload, 1) := by decide +kernel
theorem s_0_342 {d : Nat} {Q : wQ} {L : List (Option Value)} {st : List Value} {w : aw} {cn sn : Nat} {a : Nat} {i : Int32} : wp d 0 Q 342 L (.int i :: .ref a :: st) w cn sn = ((kd w a = 20 ∨ kd w a = 30) ∧ inR i (ln w a) ∧ wp d 0 Q 343 L (.int (ai w a i.toNatClampNeg) :: st) w cn sn) := wp_row d_0_342 _ _ _ _ _
theorem d_0_343 : decode (mB 0) 343 = .ok (.aload_n 0, 1) := by decide +kernel
theorem s_0_343 {d : Nat} {Q : wQ} {L : List (Option Value)} {st : List Value} {w : aw} {cn sn : Nat} {v : Nat} : wp d 0 Q 343 (some (.ref v) :: L) st w cn sn = wp d 0 Q 344 (some (.ref v) :: L) (.ref v :: st) w cn sn := w_aload_n d_0_343 rfl
theorem s_0_343n {d : Nat} {Q : wQ} {L : List (Option Value)} {st : List Value} {w : aw} {cn sn : Nat}  : wp d 0 Q 343 (some .null :: L) st w cn sn = wp d 0 Q 344 (some .null :: L) (.null :: st) w cn sn := w_aload_nN d_0_343 rfl
theorem d_0_344 : decode (mB 0) 344 = .ok (.iload_n 3, 1) := by decide +kernel
theorem s_0_344 {d : Nat} {Q : wQ} {L : List (Option Value)} {st : List Value} {w : aw} {cn sn : Nat} {a0 a1 a2 : Option Value} {v : Int32} : wp d 0 Q 344 (a0 :: a1 :: a2 :: some (.int v) :: L) st w cn sn = wp d 0 Q 345 (a0 :: a1 :: a2 :: some (.int v) :: L) (.int v :: st) w cn sn := w_iload_n d_0_344 rfl
theorem d_0_345 : decode (mB 0) 345 = .ok (.iconst 3, 1) := by decide +kernel
theorem s_0_345 {d : Nat} {Q : wQ} {L : List (Option Value)} {st : List Value} {w : aw} {cn sn : Nat}  : wp d 0 Q 345 L st w cn sn = wp d 0 Q 346 L (.int 3 :: st) w cn sn := w_iconst d_0_345 (by decide)
theorem d_0_346 : decode (mB 0) 346 = .ok (.iadd, 1) := by decide +kernel
theorem s_0_346 {d : Nat} {Q : wQ} {L : List (Option Value)} {st : List Value} {w : aw} {cn sn : Nat} {a b : Int32} : wp d 0 Q 346 L (.int b :: .int a :: st) w cn sn = wp d 0 Q 347 L (.int (a + b) :: st) w cn sn := wp_row d_0_346 _ _ _ _ _
theorem d_0_347 : decode (mB 0) 347 = .ok (.iaload, 1) := by decide +kernel
theorem s_0_347 {d : Nat} {Q : wQ} {L : List (Option Value)} {st : List Value} {w : aw} {cn sn : Nat} {a : Nat} {i : Int32} : wp d 0 Q 347 L (.int i :: .ref a :: st) w cn sn = ((kd w a = 20 ∨ kd w a = 30) ∧ inR i (ln w a) ∧ wp d 0 Q 348 L (.int (ai w a i.toNatClampNeg) :: st) w cn sn) := wp_row d_0_347 _ _ _ _ _
theorem d_0_348 : decode (mB 0) 348 = .ok (.invokevirtual 40, 3) := by decide +kernel
theorem s_0_348 {d : Nat} {Q : wQ} {L : List (Option Value)} {st : List Value} {w : aw} {cn sn : Nat} {v0 v1 v2 : Value} {b : Nat} : wp d 0 Q 348 L (v2 :: v1 :: v0 :: .ref b :: st) w cn sn = (kd w b = 9 ∧ catS st ≤ 8 ∧ wpD d 128 [.ref b, v0, v1, v2] w (fun v w' => wp d 0 Q 351 L (v.toList ++ st) w' cn sn)) := w_virtual (As := [v0, v1, v2]) d_0_348 (by decide +kernel : cT (mO 0) 40 = some (0, 128)) rfl (by decide +kernel) rfl (by decide +kernel) rfl
theorem d_0_351 : decode (mB 0) 351 = .ok (.if_icmp .eq 448, 3) := by decide +kernel
theorem s_0_351 {d : Nat} {Q : wQ} {L : List (Option Value)} {st : List Value} {w : aw} {cn sn : Nat} {a b : Int32} : wp d 0 Q 351 L (.int b :: .int a :: st) w cn sn = ((a = b → wp d 0 Q 799 L st w cn sn) ∧ (¬ a = b → wp d 0 Q 354 L st w cn sn)) := w_iceq d_0_351 (by decide)
theorem d_0_354 : decode (mB 0) 354 = .ok (.iconst 0, 1) := by decide +kernel
theorem s_0_354 {d : Nat} {Q : wQ} {L : List (Option Value)} {st : List Value} {w : aw} {cn sn : Nat}  : wp d 0 Q 354 L st w cn sn = wp d 0 Q 355 L (.int 0 :: st) w cn sn := w_iconst d_0_354 (by decide)
theorem d_0_355 : decode (mB 0) 355 = .ok (.ireturn, 1) := by decide +kernel
theorem s_0_355 {d : Nat} {Q : wQ} {L : List (Option Value)} {w : aw} {cn sn : Nat} {v : Int32} : wp d 0 Q 355 L [.int v] w cn sn = (narrow .boolean (.int v) = .int v ∧ Q (some (.int v)) w) := w_zreturn d_0_355 rfl
theorem d_0_356 : decode (mB 0) 356 = .ok (.aload_n 1, 1) := by decide +kernel
theorem s_0_356 {d : Nat} {Q : wQ} {L : List (Option Value)} {st : List Value} {w : aw} {cn sn : Nat} {a0 : Option Value} {v : Nat} : wp d 0 Q 356 (a0 :: some (.ref v) :: L) st w cn sn = wp d 0 Q 357 (a0 :: some (.ref v) :: L) (.ref v :: st) w cn sn := w_aload_n d_0_356 rfl
theorem s_0_356n {d : Nat} {Q : wQ} {L : List (Option Value)} {st : List Value} {w : aw} {cn sn : Nat} {a0 : Option Value} : wp d 0 Q 356 (a0 :: some .null :: L) st w cn sn = wp d 0 Q 357 (a0 :: some .null :: L) (.null :: st) w cn sn := w_aload_nN d_0_356 rfl
theorem d_0_357 : decode (mB 0) 357 = .ok (.aload_n 0, 1) := by decide +kernel
theorem s_0_357 {d : Nat} {Q : wQ} {L : List (Option Value)} {st : List Value} {w : aw} {cn sn : Nat} {v : Nat} : wp d 0 Q 357 (some (.ref v) :: L) st w cn sn = wp d 0 Q 358 (some (.ref v) :: L) (.ref v :: st) w cn sn := w_aload_n d_0_357 rfl
theorem s_0_357n {d : Nat} {Q : wQ} {L : List (Option Value)} {st : List Value} {w : aw} {cn sn : Nat}  : wp d 0 Q 357 (some .null :: L) st w cn sn = wp d 0 Q 358 (some .null :: L) (.null :: st) w cn sn := w_aload_nN d_0_357 rfl
theorem d_0_358 : decode (mB 0) 358 = .ok (.iload_n 3, 1) := by decide +kernel
theorem s_0_358 {d : Nat} {Q : wQ} {L : List (Option Value)} {st : List Value} {w : aw} {cn sn : Nat} {a0 a1 a2 : Option Value} {v : Int32} : wp d 0 Q 358 (a0 :: a1 :: a2 :: some (.int v) :: L) st w cn sn = wp d 0 Q 359 (a0 :: a1 :: a2 :: some (.int v) :: L) (.int v :: st) w cn sn := w_iload_n d_0_358 rfl
theorem d_0_359 : decode (mB 0) 359 = .ok (.iconst 1, 1) := by decide +kernel
theorem s_0_359 {d : Nat} {Q : wQ} {L : List (Option Value)} {st : List Value} {w : aw} {cn sn : Nat}  : wp d 0 Q 359 L st w cn sn = wp d 0 Q 360 L (.int 1 :: st) w cn sn := w_iconst d_0_359 (by decide)
theorem d_0_360 : decode (mB 0) 360 = .ok (.iadd, 1) := by decide +kernel
theorem s_0_360 {d : Nat} {Q : wQ} {L : List (Option Value)} {st : List Value} {w : aw} {cn sn : Nat} {a b : Int32} : wp d 0 Q 360 L (.int b :: .int a :: st) w cn sn = wp d 0 Q 361 L (.int (a + b) :: st) w cn sn := wp_row d_0_360 _ _ _ _ _
theorem d_0_361 : decode (mB 0) 361 = .ok (.iaload, 1) := by decide +kernel
theorem s_0_361 {d : Nat} {Q : wQ} {L : List (Option Value)} {st : List Value} {w : aw} {cn sn : Nat} {a : Nat} {i : Int32} : wp d 0 Q 361 L (.int i :: .ref a :: st) w cn sn = ((kd w a = 20 ∨ kd w a = 30) ∧ inR i (ln w a) ∧ wp d 0 Q 362 L (.int (ai w a i.toNatClampNeg) :: st) w cn sn) := wp_row d_0_361 _ _ _ _ _
theorem d_0_362 : decode (mB 0) 362 = .ok (.aload_n 0, 1) := by decide +kernel
theorem s_0_362 {d : Nat} {Q : wQ} {L : List (Option Value)} {st : List Value} {w : aw} {cn sn : Nat} {v : Nat} : wp d 0 Q 362 (some (.ref v) :: L) st w cn sn = wp d 0 Q 363 (some (.ref v) :: L) (.ref v :: st) w cn sn := w_aload_n d_0_362 rfl
theorem s_0_362n {d : Nat} {Q : wQ} {L : List (Option Value)} {st : List Value} {w : aw} {cn sn : Nat}  : wp d 0 Q 362 (some .null :: L) st w cn sn = wp d 0 Q 363 (some .null :: L) (.null :: st) w cn sn := w_aload_nN d_0_362 rfl
theorem d_0_363 : decode (mB 0) 363 = .ok (.iload_n 3, 1) := by decide +kernel
theorem s_0_363 {d : Nat} {Q : wQ} {L : List (Option Value)} {st : List Value} {w : aw} {cn sn : Nat} {a0 a1 a2 : Option Value} {v : Int32} : wp d 0 Q 363 (a0 :: a1 :: a2 :: some (.int v) :: L) st w cn sn = wp d 0 Q 364 (a0 :: a1 :: a2 :: some (.int v) :: L) (.int v :: st) w cn sn := w_iload_n d_0_363 rfl
theorem d_0_364 : decode (mB 0) 364 = .ok (.iconst 2, 1) := by decide +kernel
theorem s_0_364 {d : Nat} {Q : wQ} {L : List (Option Value)} {st : List Value} {w : aw} {cn sn : Nat}  : wp d 0 Q 364 L st w cn sn = wp d 0 Q 365 L (.int 2 :: st) w cn sn := w_iconst d_0_364 (by decide)
theorem d_0_365 : decode (mB 0) 365 = .ok (.iadd, 1) := by decide +kernel
theorem s_0_365 {d : Nat} {Q : wQ} {L : List (Option Value)} {st : List Value} {w : aw} {cn sn : Nat} {a b : Int32} : wp d 0 Q 365 L (.int b :: .int a :: st) w cn sn = wp d 0 Q 366 L (.int (a + b) :: st) w cn sn := wp_row d_0_365 _ _ _ _ _
theorem d_0_366 : decode (mB 0) 366 = .ok (.iaload, 1) := by decide +kernel
theorem s_0_366 {d : Nat} {Q : wQ} {L : List (Option Value)} {st : List Value} {w : aw} {cn sn : Nat} {a : Nat} {i : Int32} : wp d 0 Q 366 L (.int i :: .ref a :: st) w cn sn = ((kd w a = 20 ∨ kd w a = 30) ∧ inR i (ln w a) ∧ wp d 0 Q 367 L (.int (ai w a i.toNatClampNeg) :: st) w cn sn) := wp_row d_0_366 _ _ _ _ _
theorem d_0_367 : decode (mB 0) 367 = .ok (.invokevirtual 41, 3) := by decide +kernel
theorem s_0_367 {d : Nat} {Q : wQ} {L : List (Option Value)} {st : List Value} {w : aw} {cn sn : Nat} {v0 v1 : Value} {b : Nat} : wp d 0 Q 367 L (v1 :: v0 :: .ref b :: st) w cn sn = (kd w b = 8 ∧ catS st ≤ 8 ∧ wpD d 85 [.ref b, v0, v1] w (fun v w' => wp d 0 Q 370 L (v.toList ++ st) w' cn sn)) := w_virtual (As := [v0, v1]) d_0_367 (by decide +kernel : cT (mO 0) 41 = some (0, 85)) rfl (by decide +kernel) rfl (by decide +kernel) rfl
theorem d_0_370 : decode (mB 0) 370 = .ok (.aload_n 2, 1) := by decide +kernel
theorem s_0_370 {d : Nat} {Q : wQ} {L : List (Option Value)} {st : List Value} {w : aw} {cn sn : Nat} {a0 a1 : Option Value} {v : Nat} : wp d 0 Q 370 (a0 :: a1 :: some (.ref v) :: L) st w cn sn = wp d 0 Q 371 (a0 :: a1 :: some (.ref v) :: L) (.ref v :: st) w cn sn := w_aload_n d_0_370 rfl
theorem s_0_370n {d : Nat} {Q : wQ} {L : List (Option Value)} {st : List Value} {w : aw} {cn sn : Nat} {a0 a1 : Option Value} : wp d 0 Q 370 (a0 :: a1 :: some .null :: L) st w cn sn = wp d 0 Q 371 (a0 :: a1 :: some .null :: L) (.null :: st) w cn sn := w_aload_nN d_0_370 rfl
theorem d_0_371 : decode (mB 0) 371 = .ok (.aload_n 0, 1) := by decide +kernel
theorem s_0_371 {d : Nat} {Q : wQ} {L : List (Option Value)} {st : List Value} {w : aw} {cn sn : Nat} {v : Nat} : wp d 0 Q 371 (some (.ref v) :: L) st w cn sn = wp d 0 Q 372 (some (.ref v) :: L) (.ref v :: st) w cn sn := w_aload_n d_0_371 rfl
theorem s_0_371n {d : Nat} {Q : wQ} {L : List (Option Value)} {st : List Value} {w : aw} {cn sn : Nat}  : wp d 0 Q 371 (some .null :: L) st w cn sn = wp d 0 Q 372 (some .null :: L) (.null :: st) w cn sn := w_aload_nN d_0_371 rfl
theorem d_0_372 : decode (mB 0) 372 = .ok (.iload_n 3, 1) := by decide +kernel
theorem s_0_372 {d : Nat} {Q : wQ} {L : List (Option Value)} {st : List Value} {w : aw} {cn sn : Nat} {a0 a1 a2 : Option Value} {v : Int32} : wp d 0 Q 372 (a0 :: a1 :: a2 :: some (.int v) :: L) st w cn sn = wp d 0 Q 373 (a0 :: a1 :: a2 :: some (.int v) :: L) (.int v :: st) w cn sn := w_iload_n d_0_372 rfl
theorem d_0_373 : decode (mB 0) 373 = .ok (.iconst 1, 1) := by decide +kernel
theorem s_0_373 {d : Nat} {Q : wQ} {L : List (Option Value)} {st : List Value} {w : aw} {cn sn : Nat}  : wp d 0 Q 373 L st w cn sn = wp d 0 Q 374 L (.int 1 :: st) w cn sn := w_iconst d_0_373 (by decide)
theorem d_0_374 : decode (mB 0) 374 = .ok (.iadd, 1) := by decide +kernel
theorem s_0_374 {d : Nat} {Q : wQ} {L : List (Option Value)} {st : List Value} {w : aw} {cn sn : Nat} {a b : Int32} : wp d 0 Q 374 L (.int b :: .int a :: st) w cn sn = wp d 0 Q 375 L (.int (a + b) :: st) w cn sn := wp_row d_0_374 _ _ _ _ _
theorem d_0_375 : decode (mB 0) 375 = .ok (.iaload, 1) := by decide +kernel
theorem s_0_375 {d : Nat} {Q : wQ} {L : List (Option Value)} {st : List Value} {w : aw} {cn sn : Nat} {a : Nat} {i : Int32} : wp d 0 Q 375 L (.int i :: .ref a :: st) w cn sn = ((kd w a = 20 ∨ kd w a = 30) ∧ inR i (ln w a) ∧ wp d 0 Q 376 L (.int (ai w a i.toNatClampNeg) :: st) w cn sn) := wp_row d_0_375 _ _ _ _ _
theorem d_0_376 : decode (mB 0) 376 = .ok (.aload_n 0, 1) := by decide +kernel
theorem s_0_376 {d : Nat} {Q : wQ} {L : List (Option Value)} {st : List Value} {w : aw} {cn sn : Nat} {v : Nat} : wp d 0 Q 376 (some (.ref v) :: L) st w cn sn = wp d 0 Q 377 (some (.ref v) :: L) (.ref v :: st) w cn sn := w_aload_n d_0_376 rfl
theorem s_0_376n {d : Nat} {Q : wQ} {L : List (Option Value)} {st : List Value} {w : aw} {cn sn : Nat}  : wp d 0 Q 376 (some .null :: L) st w cn sn = wp d 0 Q 377 (some .null :: L) (.null :: st) w cn sn := w_aload_nN d_0_376 rfl
theorem d_0_377 : decode (mB 0) 377 = .ok (.iload_n 3, 1) := by decide +kernel
theorem s_0_377 {d : Nat} {Q : wQ} {L : List (Option Value)} {st : List Value} {w : aw} {cn sn : Nat} {a0 a1 a2 : Option Value} {v : Int32} : wp d 0 Q 377 (a0 :: a1 :: a2 :: some (.int v) :: L) st w cn sn = wp d 0 Q 378 (a0 :: a1 :: a2 :: some (.int v) :: L) (.int v :: st) w cn sn := w_iload_n d_0_377 rfl
theorem d_0_378 : decode (mB 0) 378 = .ok (.iconst 2, 1) := by decide +kernel
theorem s_0_378 {d : Nat} {Q : wQ} {L : List (Option Value)} {st : List Value} {w : aw} {cn sn : Nat}  : wp d 0 Q 378 L st w cn sn = wp d 0 Q 379 L (.int 2 :: st) w cn sn := w_iconst d_0_378 (by decide)
theorem d_0_379 : decode (mB 0) 379 = .ok (.iadd, 1) := by decide +kernel
theorem s_0_379 {d : Nat} {Q : wQ} {L : List (Option Value)} {st : List Value} {w : aw} {cn sn : Nat} {a b : Int32} : wp d 0 Q 379 L (.int b :: .int a :: st) w cn sn = wp d 0 Q 380 L (.int (a + b) :: st) w cn sn := wp_row d_0_379 _ _ _ _ _
theorem d_0_380 : decode (mB 0) 380 = .ok (.iaload, 1) := by decide +kernel
theorem s_0_380 {d : Nat} {Q : wQ} {L : List (Option Value)} {st : List Value} {w : aw} {cn sn : Nat} {a : Nat} {i : Int32} : wp d 0 Q 380 L (.int i :: .ref a :: st) w cn sn = ((kd w a = 20 ∨ kd w a = 30) ∧ inR i (ln w a) ∧ wp d 0 Q 381 L (.int (ai w a i.toNatClampNeg) :: st) w cn sn) := wp_row d_0_380 _ _ _ _ _
theorem d_0_381 : decode (mB 0) 381 = .ok (.invokevirtual 45, 3) := by decide +kernel
theorem s_0_381 {d : Nat} {Q : wQ} {L : List (Option Value)} {st : List Value} {w : aw} {cn sn : Nat} {v0 v1 : Value} {b : Nat} : wp d 0 Q 381 L (v1 :: v0 :: .ref b :: st) w cn sn = (kd w b = 9 ∧ catS st ≤ 8 ∧ wpD d 129 [.ref b, v0, v1] w (fun v w' => wp d 0 Q 384 L (v.toList ++ st) w' cn sn)) := w_virtual (As := [v0, v1]) d_0_381 (by decide +kernel : cT (mO 0) 45 = some (0, 129)) rfl (by decide +kernel) rfl (by decide +kernel) rfl
theorem d_0_384 : decode (mB 0) 384 = .ok (.if_icmp .eq 415, 3) := by decide +kernel
theorem s_0_384 {d : Nat} {Q : wQ} {L : List (Option Value)} {st : List Value} {w : aw} {cn sn : Nat} {a b : Int32} : wp d 0 Q 384 L (.int b :: .int a :: st) w cn sn = ((a = b → wp d 0 Q 799 L st w cn sn) ∧ (¬ a = b → wp d 0 Q 387 L st w cn sn)) := w_iceq d_0_384 (by decide)
theorem d_0_387 : decode (mB 0) 387 = .ok (.iconst 0, 1) := by decide +kernel
theorem s_0_387 {d : Nat} {Q : wQ} {L : List (Option Value)} {st : List Value} {w : aw} {cn sn : Nat}  : wp d 0 Q 387 L st w cn sn = wp d 0 Q 388 L (.int 0 :: st) w cn sn := w_iconst d_0_387 (by decide)
theorem d_0_388 : decode (mB 0) 388 = .ok (.ireturn, 1) := by decide +kernel
theorem s_0_388 {d : Nat} {Q : wQ} {L : List (Option Value)} {w : aw} {cn sn : Nat} {v : Int32} : wp d 0 Q 388 L [.int v] w cn sn = (narrow .boolean (.int v) = .int v ∧ Q (some (.int v)) w) := w_zreturn d_0_388 rfl
theorem d_0_389 : decode (mB 0) 389 = .ok (.aload_n 1, 1) := by decide +kernel
theorem s_0_389 {d : Nat} {Q : wQ} {L : List (Option Value)} {st : List Value} {w : aw} {cn sn : Nat} {a0 : Option Value} {v : Nat} : wp d 0 Q 389 (a0 :: some (.ref v) :: L) st w cn sn = wp d 0 Q 390 (a0 :: some (.ref v) :: L) (.ref v :: st) w cn sn := w_aload_n d_0_389 rfl
theorem s_0_389n {d : Nat} {Q : wQ} {L : List (Option Value)} {st : List Value} {w : aw} {cn sn : Nat} {a0 : Option Value} : wp d 0 Q 389 (a0 :: some .null :: L) st w cn sn = wp d 0 Q 390 (a0 :: some .null :: L) (.null :: st) w cn sn := w_aload_nN d_0_389 rfl
theorem d_0_390 : decode (mB 0) 390 = .ok (.aload_n 0, 1) := by decide +kernel
theorem s_0_390 {d : Nat} {Q : wQ} {L : List (Option Value)} {st : List Value} {w : aw} {cn sn : Nat} {v : Nat} : wp d 0 Q 390 (some (.ref v) :: L) st w cn sn = wp d 0 Q 391 (some (.ref v) :: L) (.ref v :: st) w cn sn := w_aload_n d_0_390 rfl
theorem s_0_390n {d : Nat} {Q : wQ} {L : List (Option Value)} {st : List Value} {w : aw} {cn sn : Nat}  : wp d 0 Q 390 (some .null :: L) st w cn sn = wp d 0 Q 391 (some .null :: L) (.null :: st) w cn sn := w_aload_nN d_0_390 rfl
theorem d_0_391 : decode (mB 0) 391 = .ok (.iload_n 3, 1) := by decide +kernel
theorem s_0_391 {d : Nat} {Q : wQ} {L : List (Option Value)} {st : List Value} {w : aw} {cn sn : Nat} {a0 a1 a2 : Option Value} {v : Int32} : wp d 0 Q 391 (a0 :: a1 :: a2 :: some (.int v) :: L) st w cn sn = wp d 0 Q 392 (a0 :: a1 :: a2 :: some (.int v) :: L) (.int v :: st) w cn sn := w_iload_n d_0_391 rfl
theorem d_0_392 : decode (mB 0) 392 = .ok (.iconst 1, 1) := by decide +kernel
theorem s_0_392 {d : Nat} {Q : wQ} {L : List (Option Value)} {st : List Value} {w : aw} {cn sn : Nat}  : wp d 0 Q 392 L st w cn sn = wp d 0 Q 393 L (.int 1 :: st) w cn sn := w_iconst d_0_392 (by decide)
theorem d_0_393 : decode (mB 0) 393 = .ok (.iadd, 1) := by decide +kernel
theorem s_0_393 {d : Nat} {Q : wQ} {L : List (Option Value)} {st : List Value} {w : aw} {cn sn : Nat} {a b : Int32} : wp d 0 Q 393 L (.int b :: .int a :: st) w cn sn = wp d 0 Q 394 L (.int (a + b) :: st) w cn sn := wp_row d_0_393 _ _ _ _ _
theorem d_0_394 : decode (mB 0) 394 = .ok (.iaload, 1) := by decide +kernel
theorem s_0_394 {d : Nat} {Q : wQ} {L : List (Option Value)} {st : List Value} {w : aw} {cn sn : Nat} {a : Nat} {i : Int32} : wp d 0 Q 394 L (.int i :: .ref a :: st) w cn sn = ((kd w a = 20 ∨ kd w a = 30) ∧ inR i (ln w a) ∧ wp d 0 Q 395 L (.int (ai w a i.toNatClampNeg) :: st) w cn sn) := wp_row d_0_394 _ _ _ _ _
theorem d_0_395 : decode (mB 0) 395 = .ok (.aload_n 0, 1) := by decide +kernel
theorem s_0_395 {d : Nat} {Q : wQ} {L : List (Option Value)} {st : List Value} {w : aw} {cn sn : Nat} {v : Nat} : wp d 0 Q 395 (some (.ref v) :: L) st w cn sn = wp d 0 Q 396 (some (.ref v) :: L) (.ref v :: st) w cn sn := w_aload_n d_0_395 rfl
theorem s_0_395n {d : Nat} {Q : wQ} {L : List (Option Value)} {st : List Value} {w : aw} {cn sn : Nat}  : wp d 0 Q 395 (some .null :: L) st w cn sn = wp d 0 Q 396 (some .null :: L) (.null :: st) w cn sn := w_aload_nN d_0_395 rfl
theorem d_0_396 : decode (mB 0) 396 = .ok (.iload_n 3, 1) := by decide +kernel
theorem s_0_396 {d : Nat} {Q : wQ} {L : List (Option Value)} {st : List Value} {w : aw} {cn sn : Nat} {a0 a1 a2 : Option Value} {v : Int32} : wp d 0 Q 396 (a0 :: a1 :: a2 :: some (.int v) :: L) st w cn sn = wp d 0 Q 397 (a0 :: a1 :: a2 :: some (.int v) :: L) (.int v :: st) w cn sn := w_iload_n d_0_396 rfl
theorem d_0_397 : decode (mB 0) 397 = .ok (.iconst 2, 1) := by decide +kernel
theorem s_0_397 {d : Nat} {Q : wQ} {L : List (Option Value)} {st : List Value} {w : aw} {cn sn : Nat}  : wp d 0 Q 397 L st w cn sn = wp d 0 Q 398 L (.int 2 :: st) w cn sn := w_iconst d_0_397 (by decide)
theorem d_0_398 : decode (mB 0) 398 = .ok (.iadd, 1) := by decide +kernel
theorem s_0_398 {d : Nat} {Q : wQ} {L : List (Option Value)} {st : List Value} {w : aw} {cn sn : Nat} {a b : Int32} : wp d 0 Q 398 L (.int b :: .int a :: st) w cn sn = wp d 0 Q 399 L (.int (a + b) :: st) w cn sn := wp_row d_0_398 _ _ _ _ _
theorem d_0_399 : decode (mB 0) 399 = .ok (.iaload, 1) := by decide +kernel
theorem s_0_399 {d : Nat} {Q : wQ} {L : List (Option Value)} {st : List Value} {w : aw} {cn sn : Nat} {a : Nat} {i : Int32} : wp d 0 Q 399 L (.int i :: .ref a :: st) w cn sn = ((kd w a = 20 ∨ kd w a = 30) ∧ inR i (ln w a) ∧ wp d 0 Q 400 L (.int (ai w a i.toNatClampNeg) :: st) w cn sn) := wp_row d_0_399 _ _ _ _ _
theorem d_0_400 : decode (mB 0) 400 = .ok (.aload_n 0, 1) := by decide +kernel
theorem s_0_400 {d : Nat} {Q : wQ} {L : List (Option Value)} {st : List Value} {w : aw} {cn sn : Nat} {v : Nat} : wp d 0 Q 400 (some (.ref v) :: L) st w cn sn = wp d 0 Q 401 (some (.ref v) :: L) (.ref v :: st) w cn sn := w_aload_n d_0_400 rfl
theorem s_0_400n {d : Nat} {Q : wQ} {L : List (Option Value)} {st : List Value} {w : aw} {cn sn : Nat}  : wp d 0 Q 400 (some .null :: L) st w cn sn = wp d 0 Q 401 (some .null :: L) (.null :: st) w cn sn := w_aload_nN d_0_400 rfl
theorem d_0_401 : decode (mB 0) 401 = .ok (.iload_n 3, 1) := by decide +kernel
theorem s_0_401 {d : Nat} {Q : wQ} {L : List (Option Value)} {st : List Value} {w : aw} {cn sn : Nat} {a0 a1 a2 : Option Value} {v : Int32} : wp d 0 Q 401 (a0 :: a1 :: a2 :: some (.int v) :: L) st w cn sn = wp d 0 Q 402 (a0 :: a1 :: a2 :: some (.int v) :: L) (.int v :: st) w cn sn := w_iload_n d_0_401 rfl
theorem d_0_402 : decode (mB 0) 402 = .ok (.iconst 3, 1) := by decide +kernel
theorem s_0_402 {d : Nat} {Q : wQ} {L : List (Option Value)} {st : List Value} {w : aw} {cn sn : Nat}  : wp d 0 Q 402 L st w cn sn = wp d 0 Q 403 L (.int 3 :: st) w cn sn := w_iconst d_0_402 (by decide)
theorem d_0_403 : decode (mB 0) 403 = .ok (.iadd, 1) := by decide +kernel
theorem s_0_403 {d : Nat} {Q : wQ} {L : List (Option Value)} {st : List Value} {w : aw} {cn sn : Nat} {a b : Int32} : wp d 0 Q 403 L (.int b :: .int a :: st) w cn sn = wp d 0 Q 404 L (.int (a + b) :: st) w cn sn := wp_row d_0_403 _ _ _ _ _
theorem d_0_404 : decode (mB 0) 404 = .ok (.iaload, 1) := by decide +kernel
theorem s_0_404 {d : Nat} {Q : wQ} {L : List (Option Value)} {st : List Value} {w : aw} {cn sn : Nat} {a : Nat} {i : Int32} : wp d 0 Q 404 L (.int i :: .ref a :: st) w cn sn = ((kd w a = 20 ∨ kd w a = 30) ∧ inR i (ln w a) ∧ wp d 0 Q 405 L (.int (ai w a i.toNatClampNeg) :: st) w cn sn) := wp_row d_0_404 _ _ _ _ _
theorem d_0_405 : decode (mB 0) 405 = .ok (.aload_n 0, 1) := by decide +kernel
theorem s_0_405 {d : Nat} {Q : wQ} {L : List (Option Value)} {st : List Value} {w : aw} {cn sn : Nat} {v : Nat} : wp d 0 Q 405 (some (.ref v) :: L) st w cn sn = wp d 0 Q 406 (some (.ref v) :: L) (.ref v :: st) w cn sn := w_aload_n d_0_405 rfl
theorem s_0_405n {d : Nat} {Q : wQ} {L : List (Option Value)} {st : List Value} {w : aw} {cn sn : Nat}  : wp d 0 Q 405 (some .null :: L) st w cn sn = wp d 0 Q 406 (some .null :: L) (.null :: st) w cn sn := w_aload_nN d_0_405 rfl
theorem d_0_406 : decode (mB 0) 406 = .ok (.iload_n 3, 1) := by decide +kernel
theorem s_0_406 {d : Nat} {Q : wQ} {L : List (Option Value)} {st : List Value} {w : aw} {cn sn : Nat} {a0 a1 a2 : Option Value} {v : Int32} : wp d 0 Q 406 (a0 :: a1 :: a2 :: some (.int v) :: L) st w cn sn = wp d 0 Q 407 (a0 :: a1 :: a2 :: some (.int v) :: L) (.int v :: st) w cn sn := w_iload_n d_0_406 rfl
theorem d_0_407 : decode (mB 0) 407 = .ok (.iconst 4, 1) := by decide +kernel
theorem s_0_407 {d : Nat} {Q : wQ} {L : List (Option Value)} {st : List Value} {w : aw} {cn sn : Nat}  : wp d 0 Q 407 L st w cn sn = wp d 0 Q 408 L (.int 4 :: st) w cn sn := w_iconst d_0_407 (by decide)
theorem d_0_408 : decode (mB 0) 408 = .ok (.iadd, 1) := by decide +kernel
theorem s_0_408 {d : Nat} {Q : wQ} {L : List (Option Value)} {st : List Value} {w : aw} {cn sn : Nat} {a b : Int32} : wp d 0 Q 408 L (.int b :: .int a :: st) w cn sn = wp d 0 Q 409 L (.int (a + b) :: st) w cn sn := wp_row d_0_408 _ _ _ _ _
theorem d_0_409 : decode (mB 0) 409 = .ok (.iaload, 1) := by decide +kernel
theorem s_0_409 {d : Nat} {Q : wQ} {L : List (Option Value)} {st : List Value} {w : aw} {cn sn : Nat} {a : Nat} {i : Int32} : wp d 0 Q 409 L (.int i :: .ref a :: st) w cn sn = ((kd w a = 20 ∨ kd w a = 30) ∧ inR i (ln w a) ∧ wp d 0 Q 410 L (.int (ai w a i.toNatClampNeg) :: st) w cn sn) := wp_row d_0_409 _ _ _ _ _
theorem d_0_410 : decode (mB 0) 410 = .ok (.invokevirtual 46, 3) := by decide +kernel
theorem s_0_410 {d : Nat} {Q : wQ} {L : List (Option Value)} {st : List Value} {w : aw} {cn sn : Nat} {v0 v1 v2 v3 : Value} {b : Nat} : wp d 0 Q 410 L (v3 :: v2 :: v1 :: v0 :: .ref b :: st) w cn sn = (kd w b = 8 ∧ catS st ≤ 8 ∧ wpD d 86 [.ref b, v0, v1, v2, v3] w (fun v w' => wp d 0 Q 413 L (v.toList ++ st) w' cn sn)) := w_virtual (As := [v0, v1, v2, v3]) d_0_410 (by decide +kernel : cT (mO 0) 46 = some (0, 86)) rfl (by decide +kernel) rfl (by decide +kernel) rfl
theorem d_0_413 : decode (mB 0) 413 = .ok (.aload_n 2, 1) := by decide +kernel
theorem s_0_413 {d : Nat} {Q : wQ} {L : List (Option Value)} {st : List Value} {w : aw} {cn sn : Nat} {a0 a1 : Option Value} {v : Nat} : wp d 0 Q 413 (a0 :: a1 :: some (.ref v) :: L) st w cn sn = wp d 0 Q 414 (a0 :: a1 :: some (.ref v) :: L) (.ref v :: st) w cn sn := w_aload_n d_0_413 rfl
theorem s_0_413n {d : Nat} {Q : wQ} {L : List (Option Value)} {st : List Value} {w : aw} {cn sn : Nat} {a0 a1 : Option Value} : wp d 0 Q 413 (a0 :: a1 :: some .null :: L) st w cn sn = wp d 0 Q 414 (a0 :: a1 :: some .null :: L) (.null :: st) w cn sn := w_aload_nN d_0_413 rfl
theorem d_0_414 : decode (mB 0) 414 = .ok (.aload_n 0, 1) := by decide +kernel
theorem s_0_414 {d : Nat} {Q : wQ} {L : List (Option Value)} {st : List Value} {w : aw} {cn sn : Nat} {v : Nat} : wp d 0 Q 414 (some (.ref v) :: L) st w cn sn = wp d 0 Q 415 (some (.ref v) :: L) (.ref v :: st) w cn sn := w_aload_n d_0_414 rfl
theorem s_0_414n {d : Nat} {Q : wQ} {L : List (Option Value)} {st : List Value} {w : aw} {cn sn : Nat}  : wp d 0 Q 414 (some .null :: L) st w cn sn = wp d 0 Q 415 (some .null :: L) (.null :: st) w cn sn := w_aload_nN d_0_414 rfl
theorem d_0_415 : decode (mB 0) 415 = .ok (.iload_n 3, 1) := by decide +kernel
theorem s_0_415 {d : Nat} {Q : wQ} {L : List (Option Value)} {st : List Value} {w : aw} {cn sn : Nat} {a0 a1 a2 : Option Value} {v : Int32} : wp d 0 Q 415 (a0 :: a1 :: a2 :: some (.int v) :: L) st w cn sn = wp d 0 Q 416 (a0 :: a1 :: a2 :: some (.int v) :: L) (.int v :: st) w cn sn := w_iload_n d_0_415 rfl
theorem d_0_416 : decode (mB 0) 416 = .ok (.iconst 1, 1) := by decide +kernel
theorem s_0_416 {d : Nat} {Q : wQ} {L : List (Option Value)} {st : List Value} {w : aw} {cn sn : Nat}  : wp d 0 Q 416 L st w cn sn = wp d 0 Q 417 L (.int 1 :: st) w cn sn := w_iconst d_0_416 (by decide)
theorem d_0_417 : decode (mB 0) 417 = .ok (.iadd, 1) := by decide +kernel
theorem s_0_417 {d : Nat} {Q : wQ} {L : List (Option Value)} {st : List Value} {w : aw} {cn sn : Nat} {a b : Int32} : wp d 0 Q 417 L (.int b :: .int a :: st) w cn sn = wp d 0 Q 418 L (.int (a + b) :: st) w cn sn := wp_row d_0_417 _ _ _ _ _
theorem d_0_418 : decode (mB 0) 418 = .ok (.iaload, 1) := by decide +kernel
theorem s_0_418 {d : Nat} {Q : wQ} {L : List (Option Value)} {st : List Value} {w : aw} {cn sn : Nat} {a : Nat} {i : Int32} : wp d 0 Q 418 L (.int i :: .ref a :: st) w cn sn = ((kd w a = 20 ∨ kd w a = 30) ∧ inR i (ln w a) ∧ wp d 0 Q 419 L (.int (ai w a i.toNatClampNeg) :: st) w cn sn) := wp_row d_0_418 _ _ _ _ _
theorem d_0_419 : decode (mB 0) 419 = .ok (.aload_n 0, 1) := by decide +kernel
theorem s_0_419 {d : Nat} {Q : wQ} {L : List (Option Value)} {st : List Value} {w : aw} {cn sn : Nat} {v : Nat} : wp d 0 Q 419 (some (.ref v) :: L) st w cn sn = wp d 0 Q 420 (some (.ref v) :: L) (.ref v :: st) w cn sn := w_aload_n d_0_419 rfl
theorem s_0_419n {d : Nat} {Q : wQ} {L : List (Option Value)} {st : List Value} {w : aw} {cn sn : Nat}  : wp d 0 Q 419 (some .null :: L) st w cn sn = wp d 0 Q 420 (some .null :: L) (.null :: st) w cn sn := w_aload_nN d_0_419 rfl
theorem d_0_420 : decode (mB 0) 420 = .ok (.iload_n 3, 1) := by decide +kernel
theorem s_0_420 {d : Nat} {Q : wQ} {L : List (Option Value)} {st : List Value} {w : aw} {cn sn : Nat} {a0 a1 a2 : Option Value} {v : Int32} : wp d 0 Q 420 (a0 :: a1 :: a2 :: some (.int v) :: L) st w cn sn = wp d 0 Q 421 (a0 :: a1 :: a2 :: some (.int v) :: L) (.int v :: st) w cn sn := w_iload_n d_0_420 rfl
theorem d_0_421 : decode (mB 0) 421 = .ok (.iconst 2, 1) := by decide +kernel
theorem s_0_421 {d : Nat} {Q : wQ} {L : List (Option Value)} {st : List Value} {w : aw} {cn sn : Nat}  : wp d 0 Q 421 L st w cn sn = wp d 0 Q 422 L (.int 2 :: st) w cn sn := w_iconst d_0_421 (by decide)
theorem d_0_422 : decode (mB 0) 422 = .ok (.iadd, 1) := by decide +kernel
theorem s_0_422 {d : Nat} {Q : wQ} {L : List (Option Value)} {st : List Value} {w : aw} {cn sn : Nat} {a b : Int32} : wp d 0 Q 422 L (.int b :: .int a :: st) w cn sn = wp d 0 Q 423 L (.int (a + b) :: st) w cn sn := wp_row d_0_422 _ _ _ _ _
theorem d_0_423 : decode (mB 0) 423 = .ok (.iaload, 1) := by decide +kernel
theorem s_0_423 {d : Nat} {Q : wQ} {L : List (Option Value)} {st : List Value} {w : aw} {cn sn : Nat} {a : Nat} {i : Int32} : wp d 0 Q 423 L (.int i :: .ref a :: st) w cn sn = ((kd w a = 20 ∨ kd w a = 30) ∧ inR i (ln w a) ∧ wp d 0 Q 424 L (.int (ai w a i.toNatClampNeg) :: st) w cn sn) := wp_row d_0_423 _ _ _ _ _
theorem d_0_424 : decode (mB 0) 424 = .ok (.aload_n 0, 1) := by decide +kernel
theorem s_0_424 {d : Nat} {Q : wQ} {L : List (Option Value)} {st : List Value} {w : aw} {cn sn : Nat} {v : Nat} : wp d 0 Q 424 (some (.ref v) :: L) st w cn sn = wp d 0 Q 425 (some (.ref v) :: L) (.ref v :: st) w cn sn := w_aload_n d_0_424 rfl
theorem s_0_424n {d : Nat} {Q : wQ} {L : List (Option Value)} {st : List Value} {w : aw} {cn sn : Nat}  : wp d 0 Q 424 (some .null :: L) st w cn sn = wp d 0 Q 425 (some .null :: L) (.null :: st) w cn sn := w_aload_nN d_0_424 rfl
theorem d_0_425 : decode (mB 0) 425 = .ok (.iload_n 3, 1) := by decide +kernel
theorem s_0_425 {d : Nat} {Q : wQ} {L : List (Option Value)} {st : List Value} {w : aw} {cn sn : Nat} {a0 a1 a2 : Option Value} {v : Int32} : wp d 0 Q 425 (a0 :: a1 :: a2 :: some (.int v) :: L) st w cn sn = wp d 0 Q 426 (a0 :: a1 :: a2 :: some (.int v) :: L) (.int v :: st) w cn sn := w_iload_n d_0_425 rfl
theorem d_0_426 : decode (mB 0) 426 = .ok (.iconst 3, 1) := by decide +kernel
theorem s_0_426 {d : Nat} {Q : wQ} {L : List (Option Value)} {st : List Value} {w : aw} {cn sn : Nat}  : wp d 0 Q 426 L st w cn sn = wp d 0 Q 427 L (.int 3 :: st) w cn sn := w_iconst d_0_426 (by decide)
theorem d_0_427 : decode (mB 0) 427 = .ok (.iadd, 1) := by decide +kernel
theorem s_0_427 {d : Nat} {Q : wQ} {L : List (Option Value)} {st : List Value} {w : aw} {cn sn : Nat} {a b : Int32} : wp d 0 Q 427 L (.int b :: .int a :: st) w cn sn = wp d 0 Q 428 L (.int (a + b) :: st) w cn sn := wp_row d_0_427 _ _ _ _ _
theorem d_0_428 : decode (mB 0) 428 = .ok (.iaload, 1) := by decide +kernel
theorem s_0_428 {d : Nat} {Q : wQ} {L : List (Option Value)} {st : List Value} {w : aw} {cn sn : Nat} {a : Nat} {i : Int32} : wp d 0 Q 428 L (.int i :: .ref a :: st) w cn sn = ((kd w a = 20 ∨ kd w a = 30) ∧ inR i (ln w a) ∧ wp d 0 Q 429 L (.int (ai w a i.toNatClampNeg) :: st) w cn sn) := wp_row d_0_428 _ _ _ _ _
theorem d_0_429 : decode (mB 0) 429 = .ok (.aload_n 0, 1) := by decide +kernel
theorem s_0_429 {d : Nat} {Q : wQ} {L : List (Option Value)} {st : List Value} {w : aw} {cn sn : Nat} {v : Nat} : wp d 0 Q 429 (some (.ref v) :: L) st w cn sn = wp d 0 Q 430 (some (.ref v) :: L) (.ref v :: st) w cn sn := w_aload_n d_0_429 rfl
theorem s_0_429n {d : Nat} {Q : wQ} {L : List (Option Value)} {st : List Value} {w : aw} {cn sn : Nat}  : wp d 0 Q 429 (some .null :: L) st w cn sn = wp d 0 Q 430 (some .null :: L) (.null :: st) w cn sn := w_aload_nN d_0_429 rfl
theorem d_0_430 : decode (mB 0) 430 = .ok (.iload_n 3, 1) := by decide +kernel
theorem s_0_430 {d : Nat} {Q : wQ} {L : List (Option Value)} {st : List Value} {w : aw} {cn sn : Nat} {a0 a1 a2 : Option Value} {v : Int32} : wp d 0 Q 430 (a0 :: a1 :: a2 :: some (.int v) :: L) st w cn sn = wp d 0 Q 431 (a0 :: a1 :: a2 :: some (.int v) :: L) (.int v :: st) w cn sn := w_iload_n d_0_430 rfl
theorem d_0_431 : decode (mB 0) 431 = .ok (.iconst 4, 1) := by decide +kernel
theorem s_0_431 {d : Nat} {Q : wQ} {L : List (Option Value)} {st : List Value} {w : aw} {cn sn : Nat}  : wp d 0 Q 431 L st w cn sn = wp d 0 Q 432 L (.int 4 :: st) w cn sn := w_iconst d_0_431 (by decide)
theorem d_0_432 : decode (mB 0) 432 = .ok (.iadd, 1) := by decide +kernel
theorem s_0_432 {d : Nat} {Q : wQ} {L : List (Option Value)} {st : List Value} {w : aw} {cn sn : Nat} {a b : Int32} : wp d 0 Q 432 L (.int b :: .int a :: st) w cn sn = wp d 0 Q 433 L (.int (a + b) :: st) w cn sn := wp_row d_0_432 _ _ _ _ _
theorem d_0_433 : decode (mB 0) 433 = .ok (.iaload, 1) := by decide +kernel
theorem s_0_433 {d : Nat} {Q : wQ} {L : List (Option Value)} {st : List Value} {w : aw} {cn sn : Nat} {a : Nat} {i : Int32} : wp d 0 Q 433 L (.int i :: .ref a :: st) w cn sn = ((kd w a = 20 ∨ kd w a = 30) ∧ inR i (ln w a) ∧ wp d 0 Q 434 L (.int (ai w a i.toNatClampNeg) :: st) w cn sn) := wp_row d_0_433 _ _ _ _ _
theorem d_0_434 : decode (mB 0) 434 = .ok (.invokevirtual 49, 3) := by decide +kernel
theorem s_0_434 {d : Nat} {Q : wQ} {L : List (Option Value)} {st : List Value} {w : aw} {cn sn : Nat} {v0 v1 v2 v3 : Value} {b : Nat} : wp d 0 Q 434 L (v3 :: v2 :: v1 :: v0 :: .ref b :: st) w cn sn = (kd w b = 9 ∧ catS st ≤ 8 ∧ wpD d 131 [.ref b, v0, v1, v2, v3] w (fun v w' => wp d 0 Q 437 L (v.toList ++ st) w' cn sn)) := w_virtual (As := [v0, v1, v2, v3]) d_0_434 (by decide +kernel : cT (mO 0) 49 = some (0, 131)) rfl (by decide +kernel) rfl (by decide +kernel) rfl
theorem d_0_437 : decode (mB 0) 437 = .ok (.if_icmp .eq 362, 3) := by decide +kernel
theorem s_0_437 {d : Nat} {Q : wQ} {L : List (Option Value)} {st : List Value} {w : aw} {cn sn : Nat} {a b : Int32} : wp d 0 Q 437 L (.int b :: .int a :: st) w cn sn = ((a = b → wp d 0 Q 799 L st w cn sn) ∧ (¬ a = b → wp d 0 Q 440 L st w cn sn)) := w_iceq d_0_437 (by decide)
theorem d_0_440 : decode (mB 0) 440 = .ok (.iconst 0, 1) := by decide +kernel
theorem s_0_440 {d : Nat} {Q : wQ} {L : List (Option Value)} {st : List Value} {w : aw} {cn sn : Nat}  : wp d 0 Q 440 L st w cn sn = wp d 0 Q 441 L (.int 0 :: st) w cn sn := w_iconst d_0_440 (by decide)
theorem d_0_441 : decode (mB 0) 441 = .ok (.ireturn, 1) := by decide +kernel
theorem s_0_441 {d : Nat} {Q : wQ} {L : List (Option Value)} {w : aw} {cn sn : Nat} {v : Int32} : wp d 0 Q 441 L [.int v] w cn sn = (narrow .boolean (.int v) = .int v ∧ Q (some (.int v)) w) := w_zreturn d_0_441 rfl
theorem d_0_442 : decode (mB 0) 442 = .ok (.aload_n 1, 1) := by decide +kernel
theorem s_0_442 {d : Nat} {Q : wQ} {L : List (Option Value)} {st : List Value} {w : aw} {cn sn : Nat} {a0 : Option Value} {v : Nat} : wp d 0 Q 442 (a0 :: some (.ref v) :: L) st w cn sn = wp d 0 Q 443 (a0 :: some (.ref v) :: L) (.ref v :: st) w cn sn := w_aload_n d_0_442 rfl
theorem s_0_442n {d : Nat} {Q : wQ} {L : List (Option Value)} {st : List Value} {w : aw} {cn sn : Nat} {a0 : Option Value} : wp d 0 Q 442 (a0 :: some .null :: L) st w cn sn = wp d 0 Q 443 (a0 :: some .null :: L) (.null :: st) w cn sn := w_aload_nN d_0_442 rfl
theorem d_0_443 : decode (mB 0) 443 = .ok (.aload_n 0, 1) := by decide +kernel
theorem s_0_443 {d : Nat} {Q : wQ} {L : List (Option Value)} {st : List Value} {w : aw} {cn sn : Nat} {v : Nat} : wp d 0 Q 443 (some (.ref v) :: L) st w cn sn = wp d 0 Q 444 (some (.ref v) :: L) (.ref v :: st) w cn sn := w_aload_n d_0_443 rfl
theorem s_0_443n {d : Nat} {Q : wQ} {L : List (Option Value)} {st : List Value} {w : aw} {cn sn : Nat}  : wp d 0 Q 443 (some .null :: L) st w cn sn = wp d 0 Q 444 (some .null :: L) (.null :: st) w cn sn := w_aload_nN d_0_443 rfl
theorem d_0_444 : decode (mB 0) 444 = .ok (.iload_n 3, 1) := by decide +kernel
theorem s_0_444 {d : Nat} {Q : wQ} {L : List (Option Value)} {st : List Value} {w : aw} {cn sn : Nat} {a0 a1 a2 : Option Value} {v : Int32} : wp d 0 Q 444 (a0 :: a1 :: a2 :: some (.int v) :: L) st w cn sn = wp d 0 Q 445 (a0 :: a1 :: a2 :: some (.int v) :: L) (.int v :: st) w cn sn := w_iload_n d_0_444 rfl
theorem d_0_445 : decode (mB 0) 445 = .ok (.iconst 1, 1) := by decide +kernel
theorem s_0_445 {d : Nat} {Q : wQ} {L : List (Option Value)} {st : List Value} {w : aw} {cn sn : Nat}  : wp d 0 Q 445 L st w cn sn = wp d 0 Q 446 L (.int 1 :: st) w cn sn := w_iconst d_0_445 (by decide)
theorem d_0_446 : decode (mB 0) 446 = .ok (.iadd, 1) := by decide +kernel
theorem s_0_446 {d : Nat} {Q : wQ} {L : List (Option Value)} {st : List Value} {w : aw} {cn sn : Nat} {a b : Int32} : wp d 0 Q 446 L (.int b :: .int a :: st) w cn sn = wp d 0 Q 447 L (.int (a + b) :: st) w cn sn := wp_row d_0_446 _ _ _ _ _
theorem d_0_447 : decode (mB 0) 447 = .ok (.iaload, 1) := by decide +kernel
theorem s_0_447 {d : Nat} {Q : wQ} {L : List (Option Value)} {st : List Value} {w : aw} {cn sn : Nat} {a : Nat} {i : Int32} : wp d 0 Q 447 L (.int i :: .ref a :: st) w cn sn = ((kd w a = 20 ∨ kd w a = 30) ∧ inR i (ln w a) ∧ wp d 0 Q 448 L (.int (ai w a i.toNatClampNeg) :: st) w cn sn) := wp_row d_0_447 _ _ _ _ _
theorem d_0_448 : decode (mB 0) 448 = .ok (.aload_n 0, 1) := by decide +kernel
theorem s_0_448 {d : Nat} {Q : wQ} {L : List (Option Value)} {st : List Value} {w : aw} {cn sn : Nat} {v : Nat} : wp d 0 Q 448 (some (.ref v) :: L) st w cn sn = wp d 0 Q 449 (some (.ref v) :: L) (.ref v :: st) w cn sn := w_aload_n d_0_448 rfl
theorem s_0_448n {d : Nat} {Q : wQ} {L : List (Option Value)} {st : List Value} {w : aw} {cn sn : Nat}  : wp d 0 Q 448 (some .null :: L) st w cn sn = wp d 0 Q 449 (some .null :: L) (.null :: st) w cn sn := w_aload_nN d_0_448 rfl
theorem d_0_449 : decode (mB 0) 449 = .ok (.iload_n 3, 1) := by decide +kernel
theorem s_0_449 {d : Nat} {Q : wQ} {L : List (Option Value)} {st : List Value} {w : aw} {cn sn : Nat} {a0 a1 a2 : Option Value} {v : Int32} : wp d 0 Q 449 (a0 :: a1 :: a2 :: some (.int v) :: L) st w cn sn = wp d 0 Q 450 (a0 :: a1 :: a2 :: some (.int v) :: L) (.int v :: st) w cn sn := w_iload_n d_0_449 rfl
theorem d_0_450 : decode (mB 0) 450 = .ok (.iconst 2, 1) := by decide +kernel
theorem s_0_450 {d : Nat} {Q : wQ} {L : List (Option Value)} {st : List Value} {w : aw} {cn sn : Nat}  : wp d 0 Q 450 L st w cn sn = wp d 0 Q 451 L (.int 2 :: st) w cn sn := w_iconst d_0_450 (by decide)
theorem d_0_451 : decode (mB 0) 451 = .ok (.iadd, 1) := by decide +kernel
theorem s_0_451 {d : Nat} {Q : wQ} {L : List (Option Value)} {st : List Value} {w : aw} {cn sn : Nat} {a b : Int32} : wp d 0 Q 451 L (.int b :: .int a :: st) w cn sn = wp d 0 Q 452 L (.int (a + b) :: st) w cn sn := wp_row d_0_451 _ _ _ _ _
theorem d_0_452 : decode (mB 0) 452 = .ok (.iaload, 1) := by decide +kernel
theorem s_0_452 {d : Nat} {Q : wQ} {L : List (Option Value)} {st : List Value} {w : aw} {cn sn : Nat} {a : Nat} {i : Int32} : wp d 0 Q 452 L (.int i :: .ref a :: st) w cn sn = ((kd w a = 20 ∨ kd w a = 30) ∧ inR i (ln w a) ∧ wp d 0 Q 453 L (.int (ai w a i.toNatClampNeg) :: st) w cn sn) := wp_row d_0_452 _ _ _ _ _
theorem d_0_453 : decode (mB 0) 453 = .ok (.aload_n 0, 1) := by decide +kernel
theorem s_0_453 {d : Nat} {Q : wQ} {L : List (Option Value)} {st : List Value} {w : aw} {cn sn : Nat} {v : Nat} : wp d 0 Q 453 (some (.ref v) :: L) st w cn sn = wp d 0 Q 454 (some (.ref v) :: L) (.ref v :: st) w cn sn := w_aload_n d_0_453 rfl
theorem s_0_453n {d : Nat} {Q : wQ} {L : List (Option Value)} {st : List Value} {w : aw} {cn sn : Nat}  : wp d 0 Q 453 (some .null :: L) st w cn sn = wp d 0 Q 454 (some .null :: L) (.null :: st) w cn sn := w_aload_nN d_0_453 rfl
theorem d_0_454 : decode (mB 0) 454 = .ok (.iload_n 3, 1) := by decide +kernel
theorem s_0_454 {d : Nat} {Q : wQ} {L : List (Option Value)} {st : List Value} {w : aw} {cn sn : Nat} {a0 a1 a2 : Option Value} {v : Int32} : wp d 0 Q 454 (a0 :: a1 :: a2 :: some (.int v) :: L) st w cn sn = wp d 0 Q 455 (a0 :: a1 :: a2 :: some (.int v) :: L) (.int v :: st) w cn sn := w_iload_n d_0_454 rfl
theorem d_0_455 : decode (mB 0) 455 = .ok (.iconst 3, 1) := by decide +kernel
theorem s_0_455 {d : Nat} {Q : wQ} {L : List (Option Value)} {st : List Value} {w : aw} {cn sn : Nat}  : wp d 0 Q 455 L st w cn sn = wp d 0 Q 456 L (.int 3 :: st) w cn sn := w_iconst d_0_455 (by decide)
theorem d_0_456 : decode (mB 0) 456 = .ok (.iadd, 1) := by decide +kernel
theorem s_0_456 {d : Nat} {Q : wQ} {L : List (Option Value)} {st : List Value} {w : aw} {cn sn : Nat} {a b : Int32} : wp d 0 Q 456 L (.int b :: .int a :: st) w cn sn = wp d 0 Q 457 L (.int (a + b) :: st) w cn sn := wp_row d_0_456 _ _ _ _ _
theorem d_0_457 : decode (mB 0) 457 = .ok (.iaload, 1) := by decide +kernel
theorem s_0_457 {d : Nat} {Q : wQ} {L : List (Option Value)} {st : List Value} {w : aw} {cn sn : Nat} {a : Nat} {i : Int32} : wp d 0 Q 457 L (.int i :: .ref a :: st) w cn sn = ((kd w a = 20 ∨ kd w a = 30) ∧ inR i (ln w a) ∧ wp d 0 Q 458 L (.int (ai w a i.toNatClampNeg) :: st) w cn sn) := wp_row d_0_457 _ _ _ _ _
theorem d_0_458 : decode (mB 0) 458 = .ok (.invokevirtual 50, 3) := by decide +kernel
theorem s_0_458 {d : Nat} {Q : wQ} {L : List (Option Value)} {st : List Value} {w : aw} {cn sn : Nat} {v0 v1 v2 : Value} {b : Nat} : wp d 0 Q 458 L (v2 :: v1 :: v0 :: .ref b :: st) w cn sn = (kd w b = 8 ∧ catS st ≤ 8 ∧ wpD d 87 [.ref b, v0, v1, v2] w (fun v w' => wp d 0 Q 461 L (v.toList ++ st) w' cn sn)) := w_virtual (As := [v0, v1, v2]) d_0_458 (by decide +kernel : cT (mO 0) 50 = some (0, 87)) rfl (by decide +kernel) rfl (by decide +kernel) rfl
theorem d_0_461 : decode (mB 0) 461 = .ok (.aload_n 2, 1) := by decide +kernel
theorem s_0_461 {d : Nat} {Q : wQ} {L : List (Option Value)} {st : List Value} {w : aw} {cn sn : Nat} {a0 a1 : Option Value} {v : Nat} : wp d 0 Q 461 (a0 :: a1 :: some (.ref v) :: L) st w cn sn = wp d 0 Q 462 (a0 :: a1 :: some (.ref v) :: L) (.ref v :: st) w cn sn := w_aload_n d_0_461 rfl
theorem s_0_461n {d : Nat} {Q : wQ} {L : List (Option Value)} {st : List Value} {w : aw} {cn sn : Nat} {a0 a1 : Option Value} : wp d 0 Q 461 (a0 :: a1 :: some .null :: L) st w cn sn = wp d 0 Q 462 (a0 :: a1 :: some .null :: L) (.null :: st) w cn sn := w_aload_nN d_0_461 rfl
theorem d_0_462 : decode (mB 0) 462 = .ok (.aload_n 0, 1) := by decide +kernel
theorem s_0_462 {d : Nat} {Q : wQ} {L : List (Option Value)} {st : List Value} {w : aw} {cn sn : Nat} {v : Nat} : wp d 0 Q 462 (some (.ref v) :: L) st w cn sn = wp d 0 Q 463 (some (.ref v) :: L) (.ref v :: st) w cn sn := w_aload_n d_0_462 rfl
theorem s_0_462n {d : Nat} {Q : wQ} {L : List (Option Value)} {st : List Value} {w : aw} {cn sn : Nat}  : wp d 0 Q 462 (some .null :: L) st w cn sn = wp d 0 Q 463 (some .null :: L) (.null :: st) w cn sn := w_aload_nN d_0_462 rfl
theorem d_0_463 : decode (mB 0) 463 = .ok (.iload_n 3, 1) := by decide +kernel
theorem s_0_463 {d : Nat} {Q : wQ} {L : List (Option Value)} {st : List Value} {w : aw} {cn sn : Nat} {a0 a1 a2 : Option Value} {v : Int32} : wp d 0 Q 463 (a0 :: a1 :: a2 :: some (.int v) :: L) st w cn sn = wp d 0 Q 464 (a0 :: a1 :: a2 :: some (.int v) :: L) (.int v :: st) w cn sn := w_iload_n d_0_463 rfl
theorem d_0_464 : decode (mB 0) 464 = .ok (.iconst 1, 1) := by decide +kernel
theorem s_0_464 {d : Nat} {Q : wQ} {L : List (Option Value)} {st : List Value} {w : aw} {cn sn : Nat}  : wp d 0 Q 464 L st w cn sn = wp d 0 Q 465 L (.int 1 :: st) w cn sn := w_iconst d_0_464 (by decide)
theorem d_0_465 : decode (mB 0) 465 = .ok (.iadd, 1) := by decide +kernel
theorem s_0_465 {d : Nat} {Q : wQ} {L : List (Option Value)} {st : List Value} {w : aw} {cn sn : Nat} {a b : Int32} : wp d 0 Q 465 L (.int b :: .int a :: st) w cn sn = wp d 0 Q 466 L (.int (a + b) :: st) w cn sn := wp_row d_0_465 _ _ _ _ _
theorem d_0_466 : decode (mB 0) 466 = .ok (.iaload, 1) := by decide +kernel
theorem s_0_466 {d : Nat} {Q : wQ} {L : List (Option Value)} {st : List Value} {w : aw} {cn sn : Nat} {a : Nat} {i : Int32} : wp d 0 Q 466 L (.int i :: .ref a :: st) w cn sn = ((kd w a = 20 ∨ kd w a = 30) ∧ inR i (ln w a) ∧ wp d 0 Q 467 L (.int (ai w a i.toNatClampNeg) :: st) w cn sn) := wp_row d_0_466 _ _ _ _ _
theorem d_0_467 : decode (mB 0) 467 = .ok (.aload_n 0, 1) := by decide +kernel
theorem s_0_467 {d : Nat} {Q : wQ} {L : List (Option Value)} {st : List Value} {w : aw} {cn sn : Nat} {v : Nat} : wp d 0 Q 467 (some (.ref v) :: L) st w cn sn = wp d 0 Q 468 (some (.ref v) :: L) (.ref v :: st) w cn sn := w_aload_n d_0_467 rfl
theorem s_0_467n {d : Nat} {Q : wQ} {L : List (Option Value)} {st : List Value} {w : aw} {cn sn : Nat}  : wp d 0 Q 467 (some .null :: L) st w cn sn = wp d 0 Q 468 (some .null :: L) (.null :: st) w cn sn := w_aload_nN d_0_467 rfl
theorem d_0_468 : decode (mB 0) 468 = .ok (.iload_n 3, 1) := by decide +kernel
theorem s_0_468 {d : Nat} {Q : wQ} {L : List (Option Value)} {st : List Value} {w : aw} {cn sn : Nat} {a0 a1 a2 : Option Value} {v : Int32} : wp d 0 Q 468 (a0 :: a1 :: a2 :: some (.int v) :: L) st w cn sn = wp d 0 Q 469 (a0 :: a1 :: a2 :: some (.int v) :: L) (.int v :: st) w cn sn := w_iload_n d_0_468 rfl
theorem d_0_469 : decode (mB 0) 469 = .ok (.iconst 2, 1) := by decide +kernel
theorem s_0_469 {d : Nat} {Q : wQ} {L : List (Option Value)} {st : List Value} {w : aw} {cn sn : Nat}  : wp d 0 Q 469 L st w cn sn = wp d 0 Q 470 L (.int 2 :: st) w cn sn := w_iconst d_0_469 (by decide)
theorem d_0_470 : decode (mB 0) 470 = .ok (.iadd, 1) := by decide +kernel
theorem s_0_470 {d : Nat} {Q : wQ} {L : List (Option Value)} {st : List Value} {w : aw} {cn sn : Nat} {a b : Int32} : wp d 0 Q 470 L (.int b :: .int a :: st) w cn sn = wp d 0 Q 471 L (.int (a + b) :: st) w cn sn := wp_row d_0_470 _ _ _ _ _
theorem d_0_471 : decode (mB 0) 471 = .ok (.iaload, 1) := by decide +kernel
theorem s_0_471 {d : Nat} {Q : wQ} {L : List (Option Value)} {st : List Value} {w : aw} {cn sn : Nat} {a : Nat} {i : Int32} : wp d 0 Q 471 L (.int i :: .ref a :: st) w cn sn = ((kd w a = 20 ∨ kd w a = 30) ∧ inR i (ln w a) ∧ wp d 0 Q 472 L (.int (ai w a i.toNatClampNeg) :: st) w cn sn) := wp_row d_0_471 _ _ _ _ _
theorem d_0_472 : decode (mB 0) 472 = .ok (.aload_n 0, 1) := by decide +kernel
theorem s_0_472 {d : Nat} {Q : wQ} {L : List (Option Value)} {st : List Value} {w : aw} {cn sn : Nat} {v : Nat} : wp d 0 Q 472 (some (.ref v) :: L) st w cn sn = wp d 0 Q 473 (some (.ref v) :: L) (.ref v :: st) w cn sn := w_aload_n d_0_472 rfl
theorem s_0_472n {d : Nat} {Q : wQ} {L : List (Option Value)} {st : List Value} {w : aw} {cn sn : Nat}  : wp d 0 Q 472 (some .null :: L) st w cn sn = wp d 0 Q 473 (some .null :: L) (.null :: st) w cn sn := w_aload_nN d_0_472 rfl
theorem d_0_473 : decode (mB 0) 473 = .ok (.iload_n 3, 1) := by decide +kernel
theorem s_0_473 {d : Nat} {Q : wQ} {L : List (Option Value)} {st : List Value} {w : aw} {cn sn : Nat} {a0 a1 a2 : Option Value} {v : Int32} : wp d 0 Q 473 (a0 :: a1 :: a2 :: some (.int v) :: L) st w cn sn = wp d 0 Q 474 (a0 :: a1 :: a2 :: some (.int v) :: L) (.int v :: st) w cn sn := w_iload_n d_0_473 rfl
theorem d_0_474 : decode (mB 0) 474 = .ok (.iconst 3, 1) := by decide +kernel
theorem s_0_474 {d : Nat} {Q : wQ} {L : List (Option Value)} {st : List Value} {w : aw} {cn sn : Nat}  : wp d 0 Q 474 L st w cn sn = wp d 0 Q 475 L (.int 3 :: st) w cn sn := w_iconst d_0_474 (by decide)
theorem d_0_475 : decode (mB 0) 475 = .ok (.iadd, 1) := by decide +kernel
theorem s_0_475 {d : Nat} {Q : wQ} {L : List (Option Value)} {st : List Value} {w : aw} {cn sn : Nat} {a b : Int32} : wp d 0 Q 475 L (.int b :: .int a :: st) w cn sn = wp d 0 Q 476 L (.int (a + b) :: st) w cn sn := wp_row d_0_475 _ _ _ _ _
theorem d_0_476 : decode (mB 0) 476 = .ok (.iaload, 1) := by decide +kernel
theorem s_0_476 {d : Nat} {Q : wQ} {L : List (Option Value)} {st : List Value} {w : aw} {cn sn : Nat} {a : Nat} {i : Int32} : wp d 0 Q 476 L (.int i :: .ref a :: st) w cn sn = ((kd w a = 20 ∨ kd w a = 30) ∧ inR i (ln w a) ∧ wp d 0 Q 477 L (.int (ai w a i.toNatClampNeg) :: st) w cn sn) := wp_row d_0_476 _ _ _ _ _
theorem d_0_477 : decode (mB 0) 477 = .ok (.invokevirtual 53, 3) := by decide +kernel
theorem s_0_477 {d : Nat} {Q : wQ} {L : List (Option Value)} {st : List Value} {w : aw} {cn sn : Nat} {v0 v1 v2 : Value} {b : Nat} : wp d 0 Q 477 L (v2 :: v1 :: v0 :: .ref b :: st) w cn sn = (kd w b = 9 ∧ catS st ≤ 8 ∧ wpD d 132 [.ref b, v0, v1, v2] w (fun v w' => wp d 0 Q 480 L (v.toList ++ st) w' cn sn)) := w_virtual (As := [v0, v1, v2]) d_0_477 (by decide +kernel : cT (mO 0) 53 = some (0, 132)) rfl (by decide +kernel) rfl (by decide +kernel) rfl
theorem d_0_480 : decode (mB 0) 480 = .ok (.if_icmp .eq 319, 3) := by decide +kernel
theorem s_0_480 {d : Nat} {Q : wQ} {L : List (Option Value)} {st : List Value} {w : aw} {cn sn : Nat} {a b : Int32} : wp d 0 Q 480 L (.int b :: .int a :: st) w cn sn = ((a = b → wp d 0 Q 799 L st w cn sn) ∧ (¬ a = b → wp d 0 Q 483 L st w cn sn)) := w_iceq d_0_480 (by decide)
theorem d_0_483 : decode (mB 0) 483 = .ok (.iconst 0, 1) := by decide +kernel
theorem s_0_483 {d : Nat} {Q : wQ} {L : List (Option Value)} {st : List Value} {w : aw} {cn sn : Nat}  : wp d 0 Q 483 L st w cn sn = wp d 0 Q 484 L (.int 0 :: st) w cn sn := w_iconst d_0_483 (by decide)
theorem d_0_484 : decode (mB 0) 484 = .ok (.ireturn, 1) := by decide +kernel
theorem s_0_484 {d : Nat} {Q : wQ} {L : List (Option Value)} {w : aw} {cn sn : Nat} {v : Int32} : wp d 0 Q 484 L [.int v] w cn sn = (narrow .boolean (.int v) = .int v ∧ Q (some (.int v)) w) := w_zreturn d_0_484 rfl
theorem d_0_485 : decode (mB 0) 485 = .ok (.aload_n 1, 1) := by decide +kernel
theorem s_0_485 {d : Nat} {Q : wQ} {L : List (Option Value)} {st : List Value} {w : aw} {cn sn : Nat} {a0 : Option Value} {v : Nat} : wp d 0 Q 485 (a0 :: some (.ref v) :: L) st w cn sn = wp d 0 Q 486 (a0 :: some (.ref v) :: L) (.ref v :: st) w cn sn := w_aload_n d_0_485 rfl
theorem s_0_485n {d : Nat} {Q : wQ} {L : List (Option Value)} {st : List Value} {w : aw} {cn sn : Nat} {a0 : Option Value} : wp d 0 Q 485 (a0 :: some .null :: L) st w cn sn = wp d 0 Q 486 (a0 :: some .null :: L) (.null :: st) w cn sn := w_aload_nN d_0_485 rfl
theorem d_0_486 : decode (mB 0) 486 = .ok (.aload_n 0, 1) := by decide +kernel
theorem s_0_486 {d : Nat} {Q : wQ} {L : List (Option Value)} {st : List Value} {w : aw} {cn sn : Nat} {v : Nat} : wp d 0 Q 486 (some (.ref v) :: L) st w cn sn = wp d 0 Q 487 (some (.ref v) :: L) (.ref v :: st) w cn sn := w_aload_n d_0_486 rfl
theorem s_0_486n {d : Nat} {Q : wQ} {L : List (Option Value)} {st : List Value} {w : aw} {cn sn : Nat}  : wp d 0 Q 486 (some .null :: L) st w cn sn = wp d 0 Q 487 (some .null :: L) (.null :: st) w cn sn := w_aload_nN d_0_486 rfl
theorem d_0_487 : decode (mB 0) 487 = .ok (.iload_n 3, 1) := by decide +kernel
theorem s_0_487 {d : Nat} {Q : wQ} {L : List (Option Value)} {st : List Value} {w : aw} {cn sn : Nat} {a0 a1 a2 : Option Value} {v : Int32} : wp d 0 Q 487 (a0 :: a1 :: a2 :: some (.int v) :: L) st w cn sn = wp d 0 Q 488 (a0 :: a1 :: a2 :: some (.int v) :: L) (.int v :: st) w cn sn := w_iload_n d_0_487 rfl
theorem d_0_488 : decode (mB 0) 488 = .ok (.iconst 1, 1) := by decide +kernel
theorem s_0_488 {d : Nat} {Q : wQ} {L : List (Option Value)} {st : List Value} {w : aw} {cn sn : Nat}  : wp d 0 Q 488 L st w cn sn = wp d 0 Q 489 L (.int 1 :: st) w cn sn := w_iconst d_0_488 (by decide)
theorem d_0_489 : decode (mB 0) 489 = .ok (.iadd, 1) := by decide +kernel
theorem s_0_489 {d : Nat} {Q : wQ} {L : List (Option Value)} {st : List Value} {w : aw} {cn sn : Nat} {a b : Int32} : wp d 0 Q 489 L (.int b :: .int a :: st) w cn sn = wp d 0 Q 490 L (.int (a + b) :: st) w cn sn := wp_row d_0_489 _ _ _ _ _
theorem d_0_490 : decode (mB 0) 490 = .ok (.iaload, 1) := by decide +kernel
theorem s_0_490 {d : Nat} {Q : wQ} {L : List (Option Value)} {st : List Value} {w : aw} {cn sn : Nat} {a : Nat} {i : Int32} : wp d 0 Q 490 L (.int i :: .ref a :: st) w cn sn = ((kd w a = 20 ∨ kd w a = 30) ∧ inR i (ln w a) ∧ wp d 0 Q 491 L (.int (ai w a i.toNatClampNeg) :: st) w cn sn) := wp_row d_0_490 _ _ _ _ _
theorem d_0_491 : decode (mB 0) 491 = .ok (.aload_n 0, 1) := by decide +kernel
theorem s_0_491 {d : Nat} {Q : wQ} {L : List (Option Value)} {st : List Value} {w : aw} {cn sn : Nat} {v : Nat} : wp d 0 Q 491 (some (.ref v) :: L) st w cn sn = wp d 0 Q 492 (some (.ref v) :: L) (.ref v :: st) w cn sn := w_aload_n d_0_491 rfl
theorem s_0_491n {d : Nat} {Q : wQ} {L : List (Option Value)} {st : List Value} {w : aw} {cn sn : Nat}  : wp d 0 Q 491 (some .null :: L) st w cn sn = wp d 0 Q 492 (some .null :: L) (.null :: st) w cn sn := w_aload_nN d_0_491 rfl
theorem d_0_492 : decode (mB 0) 492 = .ok (.iload_n 3, 1) := by decide +kernel
theorem s_0_492 {d : Nat} {Q : wQ} {L : List (Option Value)} {st : List Value} {w : aw} {cn sn : Nat} {a0 a1 a2 : Option Value} {v : Int32} : wp d 0 Q 492 (a0 :: a1 :: a2 :: some (.int v) :: L) st w cn sn = wp d 0 Q 493 (a0 :: a1 :: a2 :: some (.int v) :: L) (.int v :: st) w cn sn := w_iload_n d_0_492 rfl
theorem d_0_493 : decode (mB 0) 493 = .ok (.iconst 2, 1) := by decide +kernel
theorem s_0_493 {d : Nat} {Q : wQ} {L : List (Option Value)} {st : List Value} {w : aw} {cn sn : Nat}  : wp d 0 Q 493 L st w cn sn = wp d 0 Q 494 L (.int 2 :: st) w cn sn := w_iconst d_0_493 (by decide)
theorem d_0_494 : decode (mB 0) 494 = .ok (.iadd, 1) := by decide +kernel
theorem s_0_494 {d : Nat} {Q : wQ} {L : List (Option Value)} {st : List Value} {w : aw} {cn sn : Nat} {a b : Int32} : wp d 0 Q 494 L (.int b :: .int a :: st) w cn sn = wp d 0 Q 495 L (.int (a + b) :: st) w cn sn := wp_row d_0_494 _ _ _ _ _
theorem d_0_495 : decode (mB 0) 495 = .ok (.iaload, 1) := by decide +kernel
theorem s_0_495 {d : Nat} {Q : wQ} {L : List (Option Value)} {st : List Value} {w : aw} {cn sn : Nat} {a : Nat} {i : Int32} : wp d 0 Q 495 L (.int i :: .ref a :: st) w cn sn = ((kd w a = 20 ∨ kd w a = 30) ∧ inR i (ln w a) ∧ wp d 0 Q 496 L (.int (ai w a i.toNatClampNeg) :: st) w cn sn) := wp_row d_0_495 _ _ _ _ _
theorem d_0_496 : decode (mB 0) 496 = .ok (.invokevirtual 54, 3) := by decide +kernel
theorem s_0_496 {d : Nat} {Q : wQ} {L : List (Option Value)} {st : List Value} {w : aw} {cn sn : Nat} {v0 v1 : Value} {b : Nat} : wp d 0 Q 496 L (v1 :: v0 :: .ref b :: st) w cn sn = (kd w b = 8 ∧ catS st ≤ 8 ∧ wpD d 88 [.ref b, v0, v1] w (fun v w' => wp d 0 Q 499 L (v.toList ++ st) w' cn sn)) := w_virtual (As := [v0, v1]) d_0_496 (by decide +kernel : cT (mO 0) 54 = some (0, 88)) rfl (by decide +kernel) rfl (by decide +kernel) rfl
theorem d_0_499 : decode (mB 0) 499 = .ok (.aload_n 2, 1) := by decide +kernel
theorem s_0_499 {d : Nat} {Q : wQ} {L : List (Option Value)} {st : List Value} {w : aw} {cn sn : Nat} {a0 a1 : Option Value} {v : Nat} : wp d 0 Q 499 (a0 :: a1 :: some (.ref v) :: L) st w cn sn = wp d 0 Q 500 (a0 :: a1 :: some (.ref v) :: L) (.ref v :: st) w cn sn := w_aload_n d_0_499 rfl
theorem s_0_499n {d : Nat} {Q : wQ} {L : List (Option Value)} {st : List Value} {w : aw} {cn sn : Nat} {a0 a1 : Option Value} : wp d 0 Q 499 (a0 :: a1 :: some .null :: L) st w cn sn = wp d 0 Q 500 (a0 :: a1 :: some .null :: L) (.null :: st) w cn sn := w_aload_nN d_0_499 rfl
theorem d_0_500 : decode (mB 0) 500 = .ok (.aload_n 0, 1) := by decide +kernel
theorem s_0_500 {d : Nat} {Q : wQ} {L : List (Option Value)} {st : List Value} {w : aw} {cn sn : Nat} {v : Nat} : wp d 0 Q 500 (some (.ref v) :: L) st w cn sn = wp d 0 Q 501 (some (.ref v) :: L) (.ref v :: st) w cn sn := w_aload_n d_0_500 rfl
theorem s_0_500n {d : Nat} {Q : wQ} {L : List (Option Value)} {st : List Value} {w : aw} {cn sn : Nat}  : wp d 0 Q 500 (some .null :: L) st w cn sn = wp d 0 Q 501 (some .null :: L) (.null :: st) w cn sn := w_aload_nN d_0_500 rfl
theorem d_0_501 : decode (mB 0) 501 = .ok (.iload_n 3, 1) := by decide +kernel
theorem s_0_501 {d : Nat} {Q : wQ} {L : List (Option Value)} {st : List Value} {w : aw} {cn sn : Nat} {a0 a1 a2 : Option Value} {v : Int32} : wp d 0 Q 501 (a0 :: a1 :: a2 :: some (.int v) :: L) st w cn sn = wp d 0 Q 502 (a0 :: a1 :: a2 :: some (.int v) :: L) (.int v :: st) w cn sn := w_iload_n d_0_501 rfl
theorem d_0_502 : decode (mB 0) 502 = .ok (.iconst 1, 1) := by decide +kernel
theorem s_0_502 {d : Nat} {Q : wQ} {L : List (Option Value)} {st : List Value} {w : aw} {cn sn : Nat}  : wp d 0 Q 502 L st w cn sn = wp d 0 Q 503 L (.int 1 :: st) w cn sn := w_iconst d_0_502 (by decide)
theorem d_0_503 : decode (mB 0) 503 = .ok (.iadd, 1) := by decide +kernel
theorem s_0_503 {d : Nat} {Q : wQ} {L : List (Option Value)} {st : List Value} {w : aw} {cn sn : Nat} {a b : Int32} : wp d 0 Q 503 L (.int b :: .int a :: st) w cn sn = wp d 0 Q 504 L (.int (a + b) :: st) w cn sn := wp_row d_0_503 _ _ _ _ _
theorem d_0_504 : decode (mB 0) 504 = .ok (.iaload, 1) := by decide +kernel
theorem s_0_504 {d : Nat} {Q : wQ} {L : List (Option Value)} {st : List Value} {w : aw} {cn sn : Nat} {a : Nat} {i : Int32} : wp d 0 Q 504 L (.int i :: .ref a :: st) w cn sn = ((kd w a = 20 ∨ kd w a = 30) ∧ inR i (ln w a) ∧ wp d 0 Q 505 L (.int (ai w a i.toNatClampNeg) :: st) w cn sn) := wp_row d_0_504 _ _ _ _ _
theorem d_0_505 : decode (mB 0) 505 = .ok (.aload_n 0, 1) := by decide +kernel
theorem s_0_505 {d : Nat} {Q : wQ} {L : List (Option Value)} {st : List Value} {w : aw} {cn sn : Nat} {v : Nat} : wp d 0 Q 505 (some (.ref v) :: L) st w cn sn = wp d 0 Q 506 (some (.ref v) :: L) (.ref v :: st) w cn sn := w_aload_n d_0_505 rfl
theorem s_0_505n {d : Nat} {Q : wQ} {L : List (Option Value)} {st : List Value} {w : aw} {cn sn : Nat}  : wp d 0 Q 505 (some .null :: L) st w cn sn = wp d 0 Q 506 (some .null :: L) (.null :: st) w cn sn := w_aload_nN d_0_505 rfl
theorem d_0_506 : decode (mB 0) 506 = .ok (.iload_n 3, 1) := by decide +kernel
theorem s_0_506 {d : Nat} {Q : wQ} {L : List (Option Value)} {st : List Value} {w : aw} {cn sn : Nat} {a0 a1 a2 : Option Value} {v : Int32} : wp d 0 Q 506 (a0 :: a1 :: a2 :: some (.int v) :: L) st w cn sn = wp d 0 Q 507 (a0 :: a1 :: a2 :: some (.int v) :: L) (.int v :: st) w cn sn := w_iload_n d_0_506 rfl
theorem d_0_507 : decode (mB 0) 507 = .ok (.iconst 2, 1) := by decide +kernel
theorem s_0_507 {d : Nat} {Q : wQ} {L : List (Option Value)} {st : List Value} {w : aw} {cn sn : Nat}  : wp d 0 Q 507 L st w cn sn = wp d 0 Q 508 L (.int 2 :: st) w cn sn := w_iconst d_0_507 (by decide)
theorem d_0_508 : decode (mB 0) 508 = .ok (.iadd, 1) := by decide +kernel
theorem s_0_508 {d : Nat} {Q : wQ} {L : List (Option Value)} {st : List Value} {w : aw} {cn sn : Nat} {a b : Int32} : wp d 0 Q 508 L (.int b :: .int a :: st) w cn sn = wp d 0 Q 509 L (.int (a + b) :: st) w cn sn := wp_row d_0_508 _ _ _ _ _
theorem d_0_509 : decode (mB 0) 509 = .ok (.iaload, 1) := by decide +kernel
theorem s_0_509 {d : Nat} {Q : wQ} {L : List (Option Value)} {st : List Value} {w : aw} {cn sn : Nat} {a : Nat} {i : Int32} : wp d 0 Q 509 L (.int i :: .ref a :: st) w cn sn = ((kd w a = 20 ∨ kd w a = 30) ∧ inR i (ln w a) ∧ wp d 0 Q 510 L (.int (ai w a i.toNatClampNeg) :: st) w cn sn) := wp_row d_0_509 _ _ _ _ _
theorem d_0_510 : decode (mB 0) 510 = .ok (.invokevirtual 57, 3) := by decide +kernel
theorem s_0_510 {d : Nat} {Q : wQ} {L : List (Option Value)} {st : List Value} {w : aw} {cn sn : Nat} {v0 v1 : Value} {b : Nat} : wp d 0 Q 510 L (v1 :: v0 :: .ref b :: st) w cn sn = (kd w b = 9 ∧ catS st ≤ 8 ∧ wpD d 133 [.ref b, v0, v1] w (fun v w' => wp d 0 Q 513 L (v.toList ++ st) w' cn sn)) := w_virtual (As := [v0, v1]) d_0_510 (by decide +kernel : cT (mO 0) 57 = some (0, 133)) rfl (by decide +kernel) rfl (by decide +kernel) rfl
theorem d_0_513 : decode (mB 0) 513 = .ok (.if_icmp .eq 286, 3) := by decide +kernel
theorem s_0_513 {d : Nat} {Q : wQ} {L : List (Option Value)} {st : List Value} {w : aw} {cn sn : Nat} {a b : Int32} : wp d 0 Q 513 L (.int b :: .int a :: st) w cn sn = ((a = b → wp d 0 Q 799 L st w cn sn) ∧ (¬ a = b → wp d 0 Q 516 L st w cn sn)) := w_iceq d_0_513 (by decide)
theorem d_0_516 : decode (mB 0) 516 = .ok (.iconst 0, 1) := by decide +kernel
theorem s_0_516 {d : Nat} {Q : wQ} {L : List (Option Value)} {st : List Value} {w : aw} {cn sn : Nat}  : wp d 0 Q 516 L st w cn sn = wp d 0 Q 517 L (.int 0 :: st) w cn sn := w_iconst d_0_516 (by decide)
theorem d_0_517 : decode (mB 0) 517 = .ok (.ireturn, 1) := by decide +kernel
theorem s_0_517 {d : Nat} {Q : wQ} {L : List (Option Value)} {w : aw} {cn sn : Nat} {v : Int32} : wp d 0 Q 517 L [.int v] w cn sn = (narrow .boolean (.int v) = .int v ∧ Q (some (.int v)) w) := w_zreturn d_0_517 rfl
theorem d_0_518 : decode (mB 0) 518 = .ok (.aload_n 1, 1) := by decide +kernel
theorem s_0_518 {d : Nat} {Q : wQ} {L : List (Option Value)} {st : List Value} {w : aw} {cn sn : Nat} {a0 : Option Value} {v : Nat} : wp d 0 Q 518 (a0 :: some (.ref v) :: L) st w cn sn = wp d 0 Q 519 (a0 :: some (.ref v) :: L) (.ref v :: st) w cn sn := w_aload_n d_0_518 rfl
theorem s_0_518n {d : Nat} {Q : wQ} {L : List (Option Value)} {st : List Value} {w : aw} {cn sn : Nat} {a0 : Option Value} : wp d 0 Q 518 (a0 :: some .null :: L) st w cn sn = wp d 0 Q 519 (a0 :: some .null :: L) (.null :: st) w cn sn := w_aload_nN d_0_518 rfl
theorem d_0_519 : decode (mB 0) 519 = .ok (.aload_n 0, 1) := by decide +kernel
theorem s_0_519 {d : Nat} {Q : wQ} {L : List (Option Value)} {st : List Value} {w : aw} {cn sn : Nat} {v : Nat} : wp d 0 Q 519 (some (.ref v) :: L) st w cn sn = wp d 0 Q 520 (some (.ref v) :: L) (.ref v :: st) w cn sn := w_aload_n d_0_519 rfl
theorem s_0_519n {d : Nat} {Q : wQ} {L : List (Option Value)} {st : List Value} {w : aw} {cn sn : Nat}  : wp d 0 Q 519 (some .null :: L) st w cn sn = wp d 0 Q 520 (some .null :: L) (.null :: st) w cn sn := w_aload_nN d_0_519 rfl
theorem d_0_520 : decode (mB 0) 520 = .ok (.iload_n 3, 1) := by decide +kernel
theorem s_0_520 {d : Nat} {Q : wQ} {L : List (Option Value)} {st : List Value} {w : aw} {cn sn : Nat} {a0 a1 a2 : Option Value} {v : Int32} : wp d 0 Q 520 (a0 :: a1 :: a2 :: some (.int v) :: L) st w cn sn = wp d 0 Q 521 (a0 :: a1 :: a2 :: some (.int v) :: L) (.int v :: st) w cn sn := w_iload_n d_0_520 rfl
theorem d_0_521 : decode (mB 0) 521 = .ok (.iconst 1, 1) := by decide +kernel
theorem s_0_521 {d : Nat} {Q : wQ} {L : List (Option Value)} {st : List Value} {w : aw} {cn sn : Nat}  : wp d 0 Q 521 L st w cn sn = wp d 0 Q 522 L (.int 1 :: st) w cn sn := w_iconst d_0_521 (by decide)
theorem d_0_522 : decode (mB 0) 522 = .ok (.iadd, 1) := by decide +kernel
theorem s_0_522 {d : Nat} {Q : wQ} {L : List (Option Value)} {st : List Value} {w : aw} {cn sn : Nat} {a b : Int32} : wp d 0 Q 522 L (.int b :: .int a :: st) w cn sn = wp d 0 Q 523 L (.int (a + b) :: st) w cn sn := wp_row d_0_522 _ _ _ _ _
theorem d_0_523 : decode (mB 0) 523 = .ok (.iaload, 1) := by decide +kernel
theorem s_0_523 {d : Nat} {Q : wQ} {L : List (Option Value)} {st : List Value} {w : aw} {cn sn : Nat} {a : Nat} {i : Int32} : wp d 0 Q 523 L (.int i :: .ref a :: st) w cn sn = ((kd w a = 20 ∨ kd w a = 30) ∧ inR i (ln w a) ∧ wp d 0 Q 524 L (.int (ai w a i.toNatClampNeg) :: st) w cn sn) := wp_row d_0_523 _ _ _ _ _
theorem d_0_524 : decode (mB 0) 524 = .ok (.aload_n 0, 1) := by decide +kernel
theorem s_0_524 {d : Nat} {Q : wQ} {L : List (Option Value)} {st : List Value} {w : aw} {cn sn : Nat} {v : Nat} : wp d 0 Q 524 (some (.ref v) :: L) st w cn sn = wp d 0 Q 525 (some (.ref v) :: L) (.ref v :: st) w cn sn := w_aload_n d_0_524 rfl
theorem s_0_524n {d : Nat} {Q : wQ} {L : List (Option Value)} {st : List Value} {w : aw} {cn sn : Nat}  : wp d 0 Q 524 (some .null :: L) st w cn sn = wp d 0 Q 525 (some .null :: L) (.null :: st) w cn sn := w_aload_nN d_0_524 rfl
theorem d_0_525 : decode (mB 0) 525 = .ok (.iload_n 3, 1) := by decide +kernel
theorem s_0_525 {d : Nat} {Q : wQ} {L : List (Option Value)} {st : List Value} {w : aw} {cn sn : Nat} {a0 a1 a2 : Option Value} {v : Int32} : wp d 0 Q 525 (a0 :: a1 :: a2 :: some (.int v) :: L) st w cn sn = wp d 0 Q 526 (a0 :: a1 :: a2 :: some (.int v) :: L) (.int v :: st) w cn sn := w_iload_n d_0_525 rfl
theorem d_0_526 : decode (mB 0) 526 = .ok (.iconst 2, 1) := by decide +kernel
theorem s_0_526 {d : Nat} {Q : wQ} {L : List (Option Value)} {st : List Value} {w : aw} {cn sn : Nat}  : wp d 0 Q 526 L st w cn sn = wp d 0 Q 527 L (.int 2 :: st) w cn sn := w_iconst d_0_526 (by decide)
theorem d_0_527 : decode (mB 0) 527 = .ok (.iadd, 1) := by decide +kernel
theorem s_0_527 {d : Nat} {Q : wQ} {L : List (Option Value)} {st : List Value} {w : aw} {cn sn : Nat} {a b : Int32} : wp d 0 Q 527 L (.int b :: .int a :: st) w cn sn = wp d 0 Q 528 L (.int (a + b) :: st) w cn sn := wp_row d_0_527 _ _ _ _ _
theorem d_0_528 : decode (mB 0) 528 = .ok (.iaload, 1) := by decide +kernel
theorem s_0_528 {d : Nat} {Q : wQ} {L : List (Option Value)} {st : List Value} {w : aw} {cn sn : Nat} {a : Nat} {i : Int32} : wp d 0 Q 528 L (.int i :: .ref a :: st) w cn sn = ((kd w a = 20 ∨ kd w a = 30) ∧ inR i (ln w a) ∧ wp d 0 Q 529 L (.int (ai w a i.toNatClampNeg) :: st) w cn sn) := wp_row d_0_528 _ _ _ _ _
theorem d_0_529 : decode (mB 0) 529 = .ok (.invokevirtual 58, 3) := by decide +kernel
theorem s_0_529 {d : Nat} {Q : wQ} {L : List (Option Value)} {st : List Value} {w : aw} {cn sn : Nat} {v0 v1 : Value} {b : Nat} : wp d 0 Q 529 L (v1 :: v0 :: .ref b :: st) w cn sn = (kd w b = 8 ∧ catS st ≤ 8 ∧ wpD d 89 [.ref b, v0, v1] w (fun v w' => wp d 0 Q 532 L (v.toList ++ st) w' cn sn)) := w_virtual (As := [v0, v1]) d_0_529 (by decide +kernel : cT (mO 0) 58 = some (0, 89)) rfl (by decide +kernel) rfl (by decide +kernel) rfl
theorem d_0_532 : decode (mB 0) 532 = .ok (.aload_n 2, 1) := by decide +kernel
theorem s_0_532 {d : Nat} {Q : wQ} {L : List (Option Value)} {st : List Value} {w : aw} {cn sn : Nat} {a0 a1 : Option Value} {v : Nat} : wp d 0 Q 532 (a0 :: a1 :: some (.ref v) :: L) st w cn sn = wp d 0 Q 533 (a0 :: a1 :: some (.ref v) :: L) (.ref v :: st) w cn sn := w_aload_n d_0_532 rfl
theorem s_0_532n {d : Nat} {Q : wQ} {L : List (Option Value)} {st : List Value} {w : aw} {cn sn : Nat} {a0 a1 : Option Value} : wp d 0 Q 532 (a0 :: a1 :: some .null :: L) st w cn sn = wp d 0 Q 533 (a0 :: a1 :: some .null :: L) (.null :: st) w cn sn := w_aload_nN d_0_532 rfl
theorem d_0_533 : decode (mB 0) 533 = .ok (.aload_n 0, 1) := by decide +kernel
theorem s_0_533 {d : Nat} {Q : wQ} {L : List (Option Value)} {st : List Value} {w : aw} {cn sn : Nat} {v : Nat} : wp d 0 Q 533 (some (.ref v) :: L) st w cn sn = wp d 0 Q 534 (some (.ref v) :: L) (.ref v :: st) w cn sn := w_aload_n d_0_533 rfl
theorem s_0_533n {d : Nat} {Q : wQ} {L : List (Option Value)} {st : List Value} {w : aw} {cn sn : Nat}  : wp d 0 Q 533 (some .null :: L) st w cn sn = wp d 0 Q 534 (some .null :: L) (.null :: st) w cn sn := w_aload_nN d_0_533 rfl
theorem d_0_534 : decode (mB 0) 534 = .ok (.iload_n 3, 1) := by decide +kernel
theorem s_0_534 {d : Nat} {Q : wQ} {L : List (Option Value)} {st : List Value} {w : aw} {cn sn : Nat} {a0 a1 a2 : Option Value} {v : Int32} : wp d 0 Q 534 (a0 :: a1 :: a2 :: some (.int v) :: L) st w cn sn = wp d 0 Q 535 (a0 :: a1 :: a2 :: some (.int v) :: L) (.int v :: st) w cn sn := w_iload_n d_0_534 rfl
theorem d_0_535 : decode (mB 0) 535 = .ok (.iconst 1, 1) := by decide +kernel
theorem s_0_535 {d : Nat} {Q : wQ} {L : List (Option Value)} {st : List Value} {w : aw} {cn sn : Nat}  : wp d 0 Q 535 L st w cn sn = wp d 0 Q 536 L (.int 1 :: st) w cn sn := w_iconst d_0_535 (by decide)
theorem d_0_536 : decode (mB 0) 536 = .ok (.iadd, 1) := by decide +kernel
theorem s_0_536 {d : Nat} {Q : wQ} {L : List (Option Value)} {st : List Value} {w : aw} {cn sn : Nat} {a b : Int32} : wp d 0 Q 536 L (.int b :: .int a :: st) w cn sn = wp d 0 Q 537 L (.int (a + b) :: st) w cn sn := wp_row d_0_536 _ _ _ _ _
theorem d_0_537 : decode (mB 0) 537 = .ok (.iaload, 1) := by decide +kernel
theorem s_0_537 {d : Nat} {Q : wQ} {L : List (Option Value)} {st : List Value} {w : aw} {cn sn : Nat} {a : Nat} {i : Int32} : wp d 0 Q 537 L (.int i :: .ref a :: st) w cn sn = ((kd w a = 20 ∨ kd w a = 30) ∧ inR i (ln w a) ∧ wp d 0 Q 538 L (.int (ai w a i.toNatClampNeg) :: st) w cn sn) := wp_row d_0_537 _ _ _ _ _
theorem d_0_538 : decode (mB 0) 538 = .ok (.aload_n 0, 1) := by decide +kernel
theorem s_0_538 {d : Nat} {Q : wQ} {L : List (Option Value)} {st : List Value} {w : aw} {cn sn : Nat} {v : Nat} : wp d 0 Q 538 (some (.ref v) :: L) st w cn sn = wp d 0 Q 539 (some (.ref v) :: L) (.ref v :: st) w cn sn := w_aload_n d_0_538 rfl
theorem s_0_538n {d : Nat} {Q : wQ} {L : List (Option Value)} {st : List Value} {w : aw} {cn sn : Nat}  : wp d 0 Q 538 (some .null :: L) st w cn sn = wp d 0 Q 539 (some .null :: L) (.null :: st) w cn sn := w_aload_nN d_0_538 rfl
theorem d_0_539 : decode (mB 0) 539 = .ok (.iload_n 3, 1) := by decide +kernel
theorem s_0_539 {d : Nat} {Q : wQ} {L : List (Option Value)} {st : List Value} {w : aw} {cn sn : Nat} {a0 a1 a2 : Option Value} {v : Int32} : wp d 0 Q 539 (a0 :: a1 :: a2 :: some (.int v) :: L) st w cn sn = wp d 0 Q 540 (a0 :: a1 :: a2 :: some (.int v) :: L) (.int v :: st) w cn sn := w_iload_n d_0_539 rfl
theorem d_0_540 : decode (mB 0) 540 = .ok (.iconst 2, 1) := by decide +kernel
theorem s_0_540 {d : Nat} {Q : wQ} {L : List (Option Value)} {st : List Value} {w : aw} {cn sn : Nat}  : wp d 0 Q 540 L st w cn sn = wp d 0 Q 541 L (.int 2 :: st) w cn sn := w_iconst d_0_540 (by decide)
theorem d_0_541 : decode (mB 0) 541 = .ok (.iadd, 1) := by decide +kernel
theorem s_0_541 {d : Nat} {Q : wQ} {L : List (Option Value)} {st : List Value} {w : aw} {cn sn : Nat} {a b : Int32} : wp d 0 Q 541 L (.int b :: .int a :: st) w cn sn = wp d 0 Q 542 L (.int (a + b) :: st) w cn sn := wp_row d_0_541 _ _ _ _ _
theorem d_0_542 : decode (mB 0) 542 = .ok (.iaload, 1) := by decide +kernel
theorem s_0_542 {d : Nat} {Q : wQ} {L : List (Option Value)} {st : List Value} {w : aw} {cn sn : Nat} {a : Nat} {i : Int32} : wp d 0 Q 542 L (.int i :: .ref a :: st) w cn sn = ((kd w a = 20 ∨ kd w a = 30) ∧ inR i (ln w a) ∧ wp d 0 Q 543 L (.int (ai w a i.toNatClampNeg) :: st) w cn sn) := wp_row d_0_542 _ _ _ _ _
theorem d_0_543 : decode (mB 0) 543 = .ok (.invokevirtual 61, 3) := by decide +kernel
theorem s_0_543 {d : Nat} {Q : wQ} {L : List (Option Value)} {st : List Value} {w : aw} {cn sn : Nat} {v0 v1 : Value} {b : Nat} : wp d 0 Q 543 L (v1 :: v0 :: .ref b :: st) w cn sn = (kd w b = 9 ∧ catS st ≤ 8 ∧ wpD d 134 [.ref b, v0, v1] w (fun v w' => wp d 0 Q 546 L (v.toList ++ st) w' cn sn)) := w_virtual (As := [v0, v1]) d_0_543 (by decide +kernel : cT (mO 0) 61 = some (0, 134)) rfl (by decide +kernel) rfl (by decide +kernel) rfl
theorem d_0_546 : decode (mB 0) 546 = .ok (.if_icmp .eq 253, 3) := by decide +kernel
theorem s_0_546 {d : Nat} {Q : wQ} {L : List (Option Value)} {st : List Value} {w : aw} {cn sn : Nat} {a b : Int32} : wp d 0 Q 546 L (.int b :: .int a :: st) w cn sn = ((a = b → wp d 0 Q 799 L st w cn sn) ∧ (¬ a = b → wp d 0 Q 549 L st w cn sn)) := w_iceq d_0_546 (by decide)
theorem d_0_549 : decode (mB 0) 549 = .ok (.iconst 0, 1) := by decide +kernel
theorem s_0_549 {d : Nat} {Q : wQ} {L : List (Option Value)} {st : List Value} {w : aw} {cn sn : Nat}  : wp d 0 Q 549 L st w cn sn = wp d 0 Q 550 L (.int 0 :: st) w cn sn := w_iconst d_0_549 (by decide)
theorem d_0_550 : decode (mB 0) 550 = .ok (.ireturn, 1) := by decide +kernel
theorem s_0_550 {d : Nat} {Q : wQ} {L : List (Option Value)} {w : aw} {cn sn : Nat} {v : Int32} : wp d 0 Q 550 L [.int v] w cn sn = (narrow .boolean (.int v) = .int v ∧ Q (some (.int v)) w) := w_zreturn d_0_550 rfl
theorem d_0_551 : decode (mB 0) 551 = .ok (.aload_n 1, 1) := by decide +kernel
theorem s_0_551 {d : Nat} {Q : wQ} {L : List (Option Value)} {st : List Value} {w : aw} {cn sn : Nat} {a0 : Option Value} {v : Nat} : wp d 0 Q 551 (a0 :: some (.ref v) :: L) st w cn sn = wp d 0 Q 552 (a0 :: some (.ref v) :: L) (.ref v :: st) w cn sn := w_aload_n d_0_551 rfl
theorem s_0_551n {d : Nat} {Q : wQ} {L : List (Option Value)} {st : List Value} {w : aw} {cn sn : Nat} {a0 : Option Value} : wp d 0 Q 551 (a0 :: some .null :: L) st w cn sn = wp d 0 Q 552 (a0 :: some .null :: L) (.null :: st) w cn sn := w_aload_nN d_0_551 rfl
theorem d_0_552 : decode (mB 0) 552 = .ok (.aload_n 0, 1) := by decide +kernel
theorem s_0_552 {d : Nat} {Q : wQ} {L : List (Option Value)} {st : List Value} {w : aw} {cn sn : Nat} {v : Nat} : wp d 0 Q 552 (some (.ref v) :: L) st w cn sn = wp d 0 Q 553 (some (.ref v) :: L) (.ref v :: st) w cn sn := w_aload_n d_0_552 rfl
theorem s_0_552n {d : Nat} {Q : wQ} {L : List (Option Value)} {st : List Value} {w : aw} {cn sn : Nat}  : wp d 0 Q 552 (some .null :: L) st w cn sn = wp d 0 Q 553 (some .null :: L) (.null :: st) w cn sn := w_aload_nN d_0_552 rfl
theorem d_0_553 : decode (mB 0) 553 = .ok (.iload_n 3, 1) := by decide +kernel
theorem s_0_553 {d : Nat} {Q : wQ} {L : List (Option Value)} {st : List Value} {w : aw} {cn sn : Nat} {a0 a1 a2 : Option Value} {v : Int32} : wp d 0 Q 553 (a0 :: a1 :: a2 :: some (.int v) :: L) st w cn sn = wp d 0 Q 554 (a0 :: a1 :: a2 :: some (.int v) :: L) (.int v :: st) w cn sn := w_iload_n d_0_553 rfl
theorem d_0_554 : decode (mB 0) 554 = .ok (.iconst 1, 1) := by decide +kernel
theorem s_0_554 {d : Nat} {Q : wQ} {L : List (Option Value)} {st : List Value} {w : aw} {cn sn : Nat}  : wp d 0 Q 554 L st w cn sn = wp d 0 Q 555 L (.int 1 :: st) w cn sn := w_iconst d_0_554 (by decide)
theorem d_0_555 : decode (mB 0) 555 = .ok (.iadd, 1) := by decide +kernel
theorem s_0_555 {d : Nat} {Q : wQ} {L : List (Option Value)} {st : List Value} {w : aw} {cn sn : Nat} {a b : Int32} : wp d 0 Q 555 L (.int b :: .int a :: st) w cn sn = wp d 0 Q 556 L (.int (a + b) :: st) w cn sn := wp_row d_0_555 _ _ _ _ _
theorem d_0_556 : decode (mB 0) 556 = .ok (.iaload, 1) := by decide +kernel
theorem s_0_556 {d : Nat} {Q : wQ} {L : List (Option Value)} {st : List Value} {w : aw} {cn sn : Nat} {a : Nat} {i : Int32} : wp d 0 Q 556 L (.int i :: .ref a :: st) w cn sn = ((kd w a = 20 ∨ kd w a = 30) ∧ inR i (ln w a) ∧ wp d 0 Q 557 L (.int (ai w a i.toNatClampNeg) :: st) w cn sn) := wp_row d_0_556 _ _ _ _ _
theorem d_0_557 : decode (mB 0) 557 = .ok (.aload_n 0, 1) := by decide +kernel
theorem s_0_557 {d : Nat} {Q : wQ} {L : List (Option Value)} {st : List Value} {w : aw} {cn sn : Nat} {v : Nat} : wp d 0 Q 557 (some (.ref v) :: L) st w cn sn = wp d 0 Q 558 (some (.ref v) :: L) (.ref v :: st) w cn sn := w_aload_n d_0_557 rfl
theorem s_0_557n {d : Nat} {Q : wQ} {L : List (Option Value)} {st : List Value} {w : aw} {cn sn : Nat}  : wp d 0 Q 557 (some .null :: L) st w cn sn = wp d 0 Q 558 (some .null :: L) (.null :: st) w cn sn := w_aload_nN d_0_557 rfl
theorem d_0_558 : decode (mB 0) 558 = .ok (.iload_n 3, 1) := by decide +kernel
theorem s_0_558 {d : Nat} {Q : wQ} {L : List (Option Value)} {st : List Value} {w : aw} {cn sn : Nat} {a0 a1 a2 : Option Value} {v : Int32} : wp d 0 Q 558 (a0 :: a1 :: a2 :: some (.int v) :: L) st w cn sn = wp d 0 Q 559 (a0 :: a1 :: a2 :: some (.int v) :: L) (.int v :: st) w cn sn := w_iload_n d_0_558 rfl
theorem d_0_559 : decode (mB 0) 559 = .ok (.iconst 2, 1) := by decide +kernel
theorem s_0_559 {d : Nat} {Q : wQ} {L : List (Option Value)} {st : List Value} {w : aw} {cn sn : Nat}  : wp d 0 Q 559 L st w cn sn = wp d 0 Q 560 L (.int 2 :: st) w cn sn := w_iconst d_0_559 (by decide)
theorem d_0_560 : decode (mB 0) 560 = .ok (.iadd, 1) := by decide +kernel
theorem s_0_560 {d : Nat} {Q : wQ} {L : List (Option Value)} {st : List Value} {w : aw} {cn sn : Nat} {a b : Int32} : wp d 0 Q 560 L (.int b :: .int a :: st) w cn sn = wp d 0 Q 561 L (.int (a + b) :: st) w cn sn := wp_row d_0_560 _ _ _ _ _
theorem d_0_561 : decode (mB 0) 561 = .ok (.iaload, 1) := by decide +kernel
theorem s_0_561 {d : Nat} {Q : wQ} {L : List (Option Value)} {st : List Value} {w : aw} {cn sn : Nat} {a : Nat} {i : Int32} : wp d 0 Q 561 L (.int i :: .ref a :: st) w cn sn = ((kd w a = 20 ∨ kd w a = 30) ∧ inR i (ln w a) ∧ wp d 0 Q 562 L (.int (ai w a i.toNatClampNeg) :: st) w cn sn) := wp_row d_0_561 _ _ _ _ _
theorem d_0_562 : decode (mB 0) 562 = .ok (.invokevirtual 62, 3) := by decide +kernel
theorem s_0_562 {d : Nat} {Q : wQ} {L : List (Option Value)} {st : List Value} {w : aw} {cn sn : Nat} {v0 v1 : Value} {b : Nat} : wp d 0 Q 562 L (v1 :: v0 :: .ref b :: st) w cn sn = (kd w b = 8 ∧ catS st ≤ 8 ∧ wpD d 90 [.ref b, v0, v1] w (fun v w' => wp d 0 Q 565 L (v.toList ++ st) w' cn sn)) := w_virtual (As := [v0, v1]) d_0_562 (by decide +kernel : cT (mO 0) 62 = some (0, 90)) rfl (by decide +kernel) rfl (by decide +kernel) rfl
theorem d_0_565 : decode (mB 0) 565 = .ok (.aload_n 2, 1) := by decide +kernel
theorem s_0_565 {d : Nat} {Q : wQ} {L : List (Option Value)} {st : List Value} {w : aw} {cn sn : Nat} {a0 a1 : Option Value} {v : Nat} : wp d 0 Q 565 (a0 :: a1 :: some (.ref v) :: L) st w cn sn = wp d 0 Q 566 (a0 :: a1 :: some (.ref v) :: L) (.ref v :: st) w cn sn := w_aload_n d_0_565 rfl
theorem s_0_565n {d : Nat} {Q : wQ} {L : List (Option Value)} {st : List Value} {w : aw} {cn sn : Nat} {a0 a1 : Option Value} : wp d 0 Q 565 (a0 :: a1 :: some .null :: L) st w cn sn = wp d 0 Q 566 (a0 :: a1 :: some .null :: L) (.null :: st) w cn sn := w_aload_nN d_0_565 rfl
theorem d_0_566 : decode (mB 0) 566 = .ok (.aload_n 0, 1) := by decide +kernel
theorem s_0_566 {d : Nat} {Q : wQ} {L : List (Option Value)} {st : List Value} {w : aw} {cn sn : Nat} {v : Nat} : wp d 0 Q 566 (some (.ref v) :: L) st w cn sn = wp d 0 Q 567 (some (.ref v) :: L) (.ref v :: st) w cn sn := w_aload_n d_0_566 rfl
theorem s_0_566n {d : Nat} {Q : wQ} {L : List (Option Value)} {st : List Value} {w : aw} {cn sn : Nat}  : wp d 0 Q 566 (some .null :: L) st w cn sn = wp d 0 Q 567 (some .null :: L) (.null :: st) w cn sn := w_aload_nN d_0_566 rfl
theorem d_0_567 : decode (mB 0) 567 = .ok (.iload_n 3, 1) := by decide +kernel
theorem s_0_567 {d : Nat} {Q : wQ} {L : List (Option Value)} {st : List Value} {w : aw} {cn sn : Nat} {a0 a1 a2 : Option Value} {v : Int32} : wp d 0 Q 567 (a0 :: a1 :: a2 :: some (.int v) :: L) st w cn sn = wp d 0 Q 568 (a0 :: a1 :: a2 :: some (.int v) :: L) (.int v :: st) w cn sn := w_iload_n d_0_567 rfl
theorem d_0_568 : decode (mB 0) 568 = .ok (.iconst 1, 1) := by decide +kernel
theorem s_0_568 {d : Nat} {Q : wQ} {L : List (Option Value)} {st : List Value} {w : aw} {cn sn : Nat}  : wp d 0 Q 568 L st w cn sn = wp d 0 Q 569 L (.int 1 :: st) w cn sn := w_iconst d_0_568 (by decide)
theorem d_0_569 : decode (mB 0) 569 = .ok (.iadd, 1) := by decide +kernel
theorem s_0_569 {d : Nat} {Q : wQ} {L : List (Option Value)} {st : List Value} {w : aw} {cn sn : Nat} {a b : Int32} : wp d 0 Q 569 L (.int b :: .int a :: st) w cn sn = wp d 0 Q 570 L (.int (a + b) :: st) w cn sn := wp_row d_0_569 _ _ _ _ _
theorem d_0_570 : decode (mB 0) 570 = .ok (.iaload, 1) := by decide +kernel
theorem s_0_570 {d : Nat} {Q : wQ} {L : List (Option Value)} {st : List Value} {w : aw} {cn sn : Nat} {a : Nat} {i : Int32} : wp d 0 Q 570 L (.int i :: .ref a :: st) w cn sn = ((kd w a = 20 ∨ kd w a = 30) ∧ inR i (ln w a) ∧ wp d 0 Q 571 L (.int (ai w a i.toNatClampNeg) :: st) w cn sn) := wp_row d_0_570 _ _ _ _ _
theorem d_0_571 : decode (mB 0) 571 = .ok (.aload_n 0, 1) := by decide +kernel
theorem s_0_571 {d : Nat} {Q : wQ} {L : List (Option Value)} {st : List Value} {w : aw} {cn sn : Nat} {v : Nat} : wp d 0 Q 571 (some (.ref v) :: L) st w cn sn = wp d 0 Q 572 (some (.ref v) :: L) (.ref v :: st) w cn sn := w_aload_n d_0_571 rfl
theorem s_0_571n {d : Nat} {Q : wQ} {L : List (Option Value)} {st : List Value} {w : aw} {cn sn : Nat}  : wp d 0 Q 571 (some .null :: L) st w cn sn = wp d 0 Q 572 (some .null :: L) (.null :: st) w cn sn := w_aload_nN d_0_571 rfl
theorem d_0_572 : decode (mB 0) 572 = .ok (.iload_n 3, 1) := by decide +kernel
theorem s_0_572 {d : Nat} {Q : wQ} {L : List (Option Value)} {st : List Value} {w : aw} {cn sn : Nat} {a0 a1 a2 : Option Value} {v : Int32} : wp d 0 Q 572 (a0 :: a1 :: a2 :: some (.int v) :: L) st w cn sn = wp d 0 Q 573 (a0 :: a1 :: a2 :: some (.int v) :: L) (.int v :: st) w cn sn := w_iload_n d_0_572 rfl
theorem d_0_573 : decode (mB 0) 573 = .ok (.iconst 2, 1) := by decide +kernel
theorem s_0_573 {d : Nat} {Q : wQ} {L : List (Option Value)} {st : List Value} {w : aw} {cn sn : Nat}  : wp d 0 Q 573 L st w cn sn = wp d 0 Q 574 L (.int 2 :: st) w cn sn := w_iconst d_0_573 (by decide)
theorem d_0_574 : decode (mB 0) 574 = .ok (.iadd, 1) := by decide +kernel
theorem s_0_574 {d : Nat} {Q : wQ} {L : List (Option Value)} {st : List Value} {w : aw} {cn sn : Nat} {a b : Int32} : wp d 0 Q 574 L (.int b :: .int a :: st) w cn sn = wp d 0 Q 575 L (.int (a + b) :: st) w cn sn := wp_row d_0_574 _ _ _ _ _
theorem d_0_575 : decode (mB 0) 575 = .ok (.iaload, 1) := by decide +kernel
theorem s_0_575 {d : Nat} {Q : wQ} {L : List (Option Value)} {st : List Value} {w : aw} {cn sn : Nat} {a : Nat} {i : Int32} : wp d 0 Q 575 L (.int i :: .ref a :: st) w cn sn = ((kd w a = 20 ∨ kd w a = 30) ∧ inR i (ln w a) ∧ wp d 0 Q 576 L (.int (ai w a i.toNatClampNeg) :: st) w cn sn) := wp_row d_0_575 _ _ _ _ _
theorem d_0_576 : decode (mB 0) 576 = .ok (.invokevirtual 65, 3) := by decide +kernel
theorem s_0_576 {d : Nat} {Q : wQ} {L : List (Option Value)} {st : List Value} {w : aw} {cn sn : Nat} {v0 v1 : Value} {b : Nat} : wp d 0 Q 576 L (v1 :: v0 :: .ref b :: st) w cn sn = (kd w b = 9 ∧ catS st ≤ 8 ∧ wpD d 135 [.ref b, v0, v1] w (fun v w' => wp d 0 Q 579 L (v.toList ++ st) w' cn sn)) := w_virtual (As := [v0, v1]) d_0_576 (by decide +kernel : cT (mO 0) 65 = some (0, 135)) rfl (by decide +kernel) rfl (by decide +kernel) rfl
theorem d_0_579 : decode (mB 0) 579 = .ok (.if_icmp .eq 220, 3) := by decide +kernel
theorem s_0_579 {d : Nat} {Q : wQ} {L : List (Option Value)} {st : List Value} {w : aw} {cn sn : Nat} {a b : Int32} : wp d 0 Q 579 L (.int b :: .int a :: st) w cn sn = ((a = b → wp d 0 Q 799 L st w cn sn) ∧ (¬ a = b → wp d 0 Q 582 L st w cn sn)) := w_iceq d_0_579 (by decide)
theorem d_0_582 : decode (mB 0) 582 = .ok (.iconst 0, 1) := by decide +kernel
theorem s_0_582 {d : Nat} {Q : wQ} {L : List (Option Value)} {st : List Value} {w : aw} {cn sn : Nat}  : wp d 0 Q 582 L st w cn sn = wp d 0 Q 583 L (.int 0 :: st) w cn sn := w_iconst d_0_582 (by decide)
theorem d_0_583 : decode (mB 0) 583 = .ok (.ireturn, 1) := by decide +kernel
theorem s_0_583 {d : Nat} {Q : wQ} {L : List (Option Value)} {w : aw} {cn sn : Nat} {v : Int32} : wp d 0 Q 583 L [.int v] w cn sn = (narrow .boolean (.int v) = .int v ∧ Q (some (.int v)) w) := w_zreturn d_0_583 rfl
theorem d_0_584 : decode (mB 0) 584 = .ok (.aload_n 1, 1) := by decide +kernel
theorem s_0_584 {d : Nat} {Q : wQ} {L : List (Option Value)} {st : List Value} {w : aw} {cn sn : Nat} {a0 : Option Value} {v : Nat} : wp d 0 Q 584 (a0 :: some (.ref v) :: L) st w cn sn = wp d 0 Q 585 (a0 :: some (.ref v) :: L) (.ref v :: st) w cn sn := w_aload_n d_0_584 rfl
theorem s_0_584n {d : Nat} {Q : wQ} {L : List (Option Value)} {st : List Value} {w : aw} {cn sn : Nat} {a0 : Option Value} : wp d 0 Q 584 (a0 :: some .null :: L) st w cn sn = wp d 0 Q 585 (a0 :: some .null :: L) (.null :: st) w cn sn := w_aload_nN d_0_584 rfl
theorem d_0_585 : decode (mB 0) 585 = .ok (.aload_n 0, 1) := by decide +kernel
theorem s_0_585 {d : Nat} {Q : wQ} {L : List (Option Value)} {st : List Value} {w : aw} {cn sn : Nat} {v : Nat} : wp d 0 Q 585 (some (.ref v) :: L) st w cn sn = wp d 0 Q 586 (some (.ref v) :: L) (.ref v :: st) w cn sn := w_aload_n d_0_585 rfl
theorem s_0_585n {d : Nat} {Q : wQ} {L : List (Option Value)} {st : List Value} {w : aw} {cn sn : Nat}  : wp d 0 Q 585 (some .null :: L) st w cn sn = wp d 0 Q 586 (some .null :: L) (.null :: st) w cn sn := w_aload_nN d_0_585 rfl
theorem d_0_586 : decode (mB 0) 586 = .ok (.iload_n 3, 1) := by decide +kernel
theorem s_0_586 {d : Nat} {Q : wQ} {L : List (Option Value)} {st : List Value} {w : aw} {cn sn : Nat} {a0 a1 a2 : Option Value} {v : Int32} : wp d 0 Q 586 (a0 :: a1 :: a2 :: some (.int v) :: L) st w cn sn = wp d 0 Q 587 (a0 :: a1 :: a2 :: some (.int v) :: L) (.int v :: st) w cn sn := w_iload_n d_0_586 rfl
theorem d_0_587 : decode (mB 0) 587 = .ok (.iconst 1, 1) := by decide +kernel
theorem s_0_587 {d : Nat} {Q : wQ} {L : List (Option Value)} {st : List Value} {w : aw} {cn sn : Nat}  : wp d 0 Q 587 L st w cn sn = wp d 0 Q 588 L (.int 1 :: st) w cn sn := w_iconst d_0_587 (by decide)
theorem d_0_588 : decode (mB 0) 588 = .ok (.iadd, 1) := by decide +kernel
theorem s_0_588 {d : Nat} {Q : wQ} {L : List (Option Value)} {st : List Value} {w : aw} {cn sn : Nat} {a b : Int32} : wp d 0 Q 588 L (.int b :: .int a :: st) w cn sn = wp d 0 Q 589 L (.int (a + b) :: st) w cn sn := wp_row d_0_588 _ _ _ _ _
theorem d_0_589 : decode (mB 0) 589 = .ok (.iaload, 1) := by decide +kernel
theorem s_0_589 {d : Nat} {Q : wQ} {L : List (Option Value)} {st : List Value} {w : aw} {cn sn : Nat} {a : Nat} {i : Int32} : wp d 0 Q 589 L (.int i :: .ref a :: st) w cn sn = ((kd w a = 20 ∨ kd w a = 30) ∧ inR i (ln w a) ∧ wp d 0 Q 590 L (.int (ai w a i.toNatClampNeg) :: st) w cn sn) := wp_row d_0_589 _ _ _ _ _
theorem d_0_590 : decode (mB 0) 590 = .ok (.invokevirtual 66, 3) := by decide +kernel
theorem s_0_590 {d : Nat} {Q : wQ} {L : List (Option Value)} {st : List Value} {w : aw} {cn sn : Nat} {v0 : Value} {b : Nat} : wp d 0 Q 590 L (v0 :: .ref b :: st) w cn sn = (kd w b = 8 ∧ catS st ≤ 8 ∧ wpD d 91 [.ref b, v0] w (fun v w' => wp d 0 Q 593 L (v.toList ++ st) w' cn sn)) := w_virtual (As := [v0]) d_0_590 (by decide +kernel : cT (mO 0) 66 = some (0, 91)) rfl (by decide +kernel) rfl (by decide +kernel) rfl
theorem d_0_593 : decode (mB 0) 593 = .ok (.aload_n 2, 1) := by decide +kernel
theorem s_0_593 {d : Nat} {Q : wQ} {L : List (Option Value)} {st : List Value} {w : aw} {cn sn : Nat} {a0 a1 : Option Value} {v : Nat} : wp d 0 Q 593 (a0 :: a1 :: some (.ref v) :: L) st w cn sn = wp d 0 Q 594 (a0 :: a1 :: some (.ref v) :: L) (.ref v :: st) w cn sn := w_aload_n d_0_593 rfl
theorem s_0_593n {d : Nat} {Q : wQ} {L : List (Option Value)} {st : List Value} {w : aw} {cn sn : Nat} {a0 a1 : Option Value} : wp d 0 Q 593 (a0 :: a1 :: some .null :: L) st w cn sn = wp d 0 Q 594 (a0 :: a1 :: some .null :: L) (.null :: st) w cn sn := w_aload_nN d_0_593 rfl
theorem d_0_594 : decode (mB 0) 594 = .ok (.aload_n 0, 1) := by decide +kernel
theorem s_0_594 {d : Nat} {Q : wQ} {L : List (Option Value)} {st : List Value} {w : aw} {cn sn : Nat} {v : Nat} : wp d 0 Q 594 (some (.ref v) :: L) st w cn sn = wp d 0 Q 595 (some (.ref v) :: L) (.ref v :: st) w cn sn := w_aload_n d_0_594 rfl
theorem s_0_594n {d : Nat} {Q : wQ} {L : List (Option Value)} {st : List Value} {w : aw} {cn sn : Nat}  : wp d 0 Q 594 (some .null :: L) st w cn sn = wp d 0 Q 595 (some .null :: L) (.null :: st) w cn sn := w_aload_nN d_0_594 rfl
theorem d_0_595 : decode (mB 0) 595 = .ok (.iload_n 3, 1) := by decide +kernel
theorem s_0_595 {d : Nat} {Q : wQ} {L : List (Option Value)} {st : List Value} {w : aw} {cn sn : Nat} {a0 a1 a2 : Option Value} {v : Int32} : wp d 0 Q 595 (a0 :: a1 :: a2 :: some (.int v) :: L) st w cn sn = wp d 0 Q 596 (a0 :: a1 :: a2 :: some (.int v) :: L) (.int v :: st) w cn sn := w_iload_n d_0_595 rfl
theorem d_0_596 : decode (mB 0) 596 = .ok (.iconst 1, 1) := by decide +kernel
theorem s_0_596 {d : Nat} {Q : wQ} {L : List (Option Value)} {st : List Value} {w : aw} {cn sn : Nat}  : wp d 0 Q 596 L st w cn sn = wp d 0 Q 597 L (.int 1 :: st) w cn sn := w_iconst d_0_596 (by decide)
theorem d_0_597 : decode (mB 0) 597 = .ok (.iadd, 1) := by decide +kernel
theorem s_0_597 {d : Nat} {Q : wQ} {L : List (Option Value)} {st : List Value} {w : aw} {cn sn : Nat} {a b : Int32} : wp d 0 Q 597 L (.int b :: .int a :: st) w cn sn = wp d 0 Q 598 L (.int (a + b) :: st) w cn sn := wp_row d_0_597 _ _ _ _ _
theorem d_0_598 : decode (mB 0) 598 = .ok (.iaload, 1) := by decide +kernel
theorem s_0_598 {d : Nat} {Q : wQ} {L : List (Option Value)} {st : List Value} {w : aw} {cn sn : Nat} {a : Nat} {i : Int32} : wp d 0 Q 598 L (.int i :: .ref a :: st) w cn sn = ((kd w a = 20 ∨ kd w a = 30) ∧ inR i (ln w a) ∧ wp d 0 Q 599 L (.int (ai w a i.toNatClampNeg) :: st) w cn sn) := wp_row d_0_598 _ _ _ _ _
theorem d_0_599 : decode (mB 0) 599 = .ok (.invokevirtual 69, 3) := by decide +kernel
theorem s_0_599 {d : Nat} {Q : wQ} {L : List (Option Value)} {st : List Value} {w : aw} {cn sn : Nat} {v0 : Value} {b : Nat} : wp d 0 Q 599 L (v0 :: .ref b :: st) w cn sn = (kd w b = 9 ∧ catS st ≤ 8 ∧ wpD d 136 [.ref b, v0] w (fun v w' => wp d 0 Q 602 L (v.toList ++ st) w' cn sn)) := w_virtual (As := [v0]) d_0_599 (by decide +kernel : cT (mO 0) 69 = some (0, 136)) rfl (by decide +kernel) rfl (by decide +kernel) rfl
theorem d_0_602 : decode (mB 0) 602 = .ok (.if_icmp .eq 197, 3) := by decide +kernel
theorem s_0_602 {d : Nat} {Q : wQ} {L : List (Option Value)} {st : List Value} {w : aw} {cn sn : Nat} {a b : Int32} : wp d 0 Q 602 L (.int b :: .int a :: st) w cn sn = ((a = b → wp d 0 Q 799 L st w cn sn) ∧ (¬ a = b → wp d 0 Q 605 L st w cn sn)) := w_iceq d_0_602 (by decide)
theorem d_0_605 : decode (mB 0) 605 = .ok (.iconst 0, 1) := by decide +kernel
theorem s_0_605 {d : Nat} {Q : wQ} {L : List (Option Value)} {st : List Value} {w : aw} {cn sn : Nat}  : wp d 0 Q 605 L st w cn sn = wp d 0 Q 606 L (.int 0 :: st) w cn sn := w_iconst d_0_605 (by decide)
theorem d_0_606 : decode (mB 0) 606 = .ok (.ireturn, 1) := by decide +kernel
theorem s_0_606 {d : Nat} {Q : wQ} {L : List (Option Value)} {w : aw} {cn sn : Nat} {v : Int32} : wp d 0 Q 606 L [.int v] w cn sn = (narrow .boolean (.int v) = .int v ∧ Q (some (.int v)) w) := w_zreturn d_0_606 rfl
theorem d_0_607 : decode (mB 0) 607 = .ok (.aload_n 1, 1) := by decide +kernel
theorem s_0_607 {d : Nat} {Q : wQ} {L : List (Option Value)} {st : List Value} {w : aw} {cn sn : Nat} {a0 : Option Value} {v : Nat} : wp d 0 Q 607 (a0 :: some (.ref v) :: L) st w cn sn = wp d 0 Q 608 (a0 :: some (.ref v) :: L) (.ref v :: st) w cn sn := w_aload_n d_0_607 rfl
theorem s_0_607n {d : Nat} {Q : wQ} {L : List (Option Value)} {st : List Value} {w : aw} {cn sn : Nat} {a0 : Option Value} : wp d 0 Q 607 (a0 :: some .null :: L) st w cn sn = wp d 0 Q 608 (a0 :: some .null :: L) (.null :: st) w cn sn := w_aload_nN d_0_607 rfl
theorem d_0_608 : decode (mB 0) 608 = .ok (.aload_n 0, 1) := by decide +kernel
theorem s_0_608 {d : Nat} {Q : wQ} {L : List (Option Value)} {st : List Value} {w : aw} {cn sn : Nat} {v : Nat} : wp d 0 Q 608 (some (.ref v) :: L) st w cn sn = wp d 0 Q 609 (some (.ref v) :: L) (.ref v :: st) w cn sn := w_aload_n d_0_608 rfl
theorem s_0_608n {d : Nat} {Q : wQ} {L : List (Option Value)} {st : List Value} {w : aw} {cn sn : Nat}  : wp d 0 Q 608 (some .null :: L) st w cn sn = wp d 0 Q 609 (some .null :: L) (.null :: st) w cn sn := w_aload_nN d_0_608 rfl
theorem d_0_609 : decode (mB 0) 609 = .ok (.iload_n 3, 1) := by decide +kernel
theorem s_0_609 {d : Nat} {Q : wQ} {L : List (Option Value)} {st : List Value} {w : aw} {cn sn : Nat} {a0 a1 a2 : Option Value} {v : Int32} : wp d 0 Q 609 (a0 :: a1 :: a2 :: some (.int v) :: L) st w cn sn = wp d 0 Q 610 (a0 :: a1 :: a2 :: some (.int v) :: L) (.int v :: st) w cn sn := w_iload_n d_0_609 rfl
theorem d_0_610 : decode (mB 0) 610 = .ok (.iconst 1, 1) := by decide +kernel
theorem s_0_610 {d : Nat} {Q : wQ} {L : List (Option Value)} {st : List Value} {w : aw} {cn sn : Nat}  : wp d 0 Q 610 L st w cn sn = wp d 0 Q 611 L (.int 1 :: st) w cn sn := w_iconst d_0_610 (by decide)
theorem d_0_611 : decode (mB 0) 611 = .ok (.iadd, 1) := by decide +kernel
theorem s_0_611 {d : Nat} {Q : wQ} {L : List (Option Value)} {st : List Value} {w : aw} {cn sn : Nat} {a b : Int32} : wp d 0 Q 611 L (.int b :: .int a :: st) w cn sn = wp d 0 Q 612 L (.int (a + b) :: st) w cn sn := wp_row d_0_611 _ _ _ _ _
theorem d_0_612 : decode (mB 0) 612 = .ok (.iaload, 1) := by decide +kernel
theorem s_0_612 {d : Nat} {Q : wQ} {L : List (Option Value)} {st : List Value} {w : aw} {cn sn : Nat} {a : Nat} {i : Int32} : wp d 0 Q 612 L (.int i :: .ref a :: st) w cn sn = ((kd w a = 20 ∨ kd w a = 30) ∧ inR i (ln w a) ∧ wp d 0 Q 613 L (.int (ai w a i.toNatClampNeg) :: st) w cn sn) := wp_row d_0_612 _ _ _ _ _
theorem d_0_613 : decode (mB 0) 613 = .ok (.aload_n 0, 1) := by decide +kernel
theorem s_0_613 {d : Nat} {Q : wQ} {L : List (Option Value)} {st : List Value} {w : aw} {cn sn : Nat} {v : Nat} : wp d 0 Q 613 (some (.ref v) :: L) st w cn sn = wp d 0 Q 614 (some (.ref v) :: L) (.ref v :: st) w cn sn := w_aload_n d_0_613 rfl
theorem s_0_613n {d : Nat} {Q : wQ} {L : List (Option Value)} {st : List Value} {w : aw} {cn sn : Nat}  : wp d 0 Q 613 (some .null :: L) st w cn sn = wp d 0 Q 614 (some .null :: L) (.null :: st) w cn sn := w_aload_nN d_0_613 rfl
theorem d_0_614 : decode (mB 0) 614 = .ok (.iload_n 3, 1) := by decide +kernel
theorem s_0_614 {d : Nat} {Q : wQ} {L : List (Option Value)} {st : List Value} {w : aw} {cn sn : Nat} {a0 a1 a2 : Option Value} {v : Int32} : wp d 0 Q 614 (a0 :: a1 :: a2 :: some (.int v) :: L) st w cn sn = wp d 0 Q 615 (a0 :: a1 :: a2 :: some (.int v) :: L) (.int v :: st) w cn sn := w_iload_n d_0_614 rfl
theorem d_0_615 : decode (mB 0) 615 = .ok (.iconst 2, 1) := by decide +kernel
theorem s_0_615 {d : Nat} {Q : wQ} {L : List (Option Value)} {st : List Value} {w : aw} {cn sn : Nat}  : wp d 0 Q 615 L st w cn sn = wp d 0 Q 616 L (.int 2 :: st) w cn sn := w_iconst d_0_615 (by decide)
theorem d_0_616 : decode (mB 0) 616 = .ok (.iadd, 1) := by decide +kernel
theorem s_0_616 {d : Nat} {Q : wQ} {L : List (Option Value)} {st : List Value} {w : aw} {cn sn : Nat} {a b : Int32} : wp d 0 Q 616 L (.int b :: .int a :: st) w cn sn = wp d 0 Q 617 L (.int (a + b) :: st) w cn sn := wp_row d_0_616 _ _ _ _ _
theorem d_0_617 : decode (mB 0) 617 = .ok (.iaload, 1) := by decide +kernel
theorem s_0_617 {d : Nat} {Q : wQ} {L : List (Option Value)} {st : List Value} {w : aw} {cn sn : Nat} {a : Nat} {i : Int32} : wp d 0 Q 617 L (.int i :: .ref a :: st) w cn sn = ((kd w a = 20 ∨ kd w a = 30) ∧ inR i (ln w a) ∧ wp d 0 Q 618 L (.int (ai w a i.toNatClampNeg) :: st) w cn sn) := wp_row d_0_617 _ _ _ _ _
theorem d_0_618 : decode (mB 0) 618 = .ok (.invokevirtual 70, 3) := by decide +kernel
theorem s_0_618 {d : Nat} {Q : wQ} {L : List (Option Value)} {st : List Value} {w : aw} {cn sn : Nat} {v0 v1 : Value} {b : Nat} : wp d 0 Q 618 L (v1 :: v0 :: .ref b :: st) w cn sn = (kd w b = 8 ∧ catS st ≤ 8 ∧ wpD d 92 [.ref b, v0, v1] w (fun v w' => wp d 0 Q 621 L (v.toList ++ st) w' cn sn)) := w_virtual (As := [v0, v1]) d_0_618 (by decide +kernel : cT (mO 0) 70 = some (0, 92)) rfl (by decide +kernel) rfl (by decide +kernel) rfl
theorem d_0_621 : decode (mB 0) 621 = .ok (.aload_n 2, 1) := by decide +kernel
theorem s_0_621 {d : Nat} {Q : wQ} {L : List (Option Value)} {st : List Value} {w : aw} {cn sn : Nat} {a0 a1 : Option Value} {v : Nat} : wp d 0 Q 621 (a0 :: a1 :: some (.ref v) :: L) st w cn sn = wp d 0 Q 622 (a0 :: a1 :: some (.ref v) :: L) (.ref v :: st) w cn sn := w_aload_n d_0_621 rfl
theorem s_0_621n {d : Nat} {Q : wQ} {L : List (Option Value)} {st : List Value} {w : aw} {cn sn : Nat} {a0 a1 : Option Value} : wp d 0 Q 621 (a0 :: a1 :: some .null :: L) st w cn sn = wp d 0 Q 622 (a0 :: a1 :: some .null :: L) (.null :: st) w cn sn := w_aload_nN d_0_621 rfl
theorem d_0_622 : decode (mB 0) 622 = .ok (.aload_n 0, 1) := by decide +kernel
theorem s_0_622 {d : Nat} {Q : wQ} {L : List (Option Value)} {st : List Value} {w : aw} {cn sn : Nat} {v : Nat} : wp d 0 Q 622 (some (.ref v) :: L) st w cn sn = wp d 0 Q 623 (some (.ref v) :: L) (.ref v :: st) w cn sn := w_aload_n d_0_622 rfl
theorem s_0_622n {d : Nat} {Q : wQ} {L : List (Option Value)} {st : List Value} {w : aw} {cn sn : Nat}  : wp d 0 Q 622 (some .null :: L) st w cn sn = wp d 0 Q 623 (some .null :: L) (.null :: st) w cn sn := w_aload_nN d_0_622 rfl
theorem d_0_623 : decode (mB 0) 623 = .ok (.iload_n 3, 1) := by decide +kernel
theorem s_0_623 {d : Nat} {Q : wQ} {L : List (Option Value)} {st : List Value} {w : aw} {cn sn : Nat} {a0 a1 a2 : Option Value} {v : Int32} : wp d 0 Q 623 (a0 :: a1 :: a2 :: some (.int v) :: L) st w cn sn = wp d 0 Q 624 (a0 :: a1 :: a2 :: some (.int v) :: L) (.int v :: st) w cn sn := w_iload_n d_0_623 rfl
theorem d_0_624 : decode (mB 0) 624 = .ok (.iconst 1, 1) := by decide +kernel
theorem s_0_624 {d : Nat} {Q : wQ} {L : List (Option Value)} {st : List Value} {w : aw} {cn sn : Nat}  : wp d 0 Q 624 L st w cn sn = wp d 0 Q 625 L (.int 1 :: st) w cn sn := w_iconst d_0_624 (by decide)
theorem d_0_625 : decode (mB 0) 625 = .ok (.iadd, 1) := by decide +kernel
theorem s_0_625 {d : Nat} {Q : wQ} {L : List (Option Value)} {st : List Value} {w : aw} {cn sn : Nat} {a b : Int32} : wp d 0 Q 625 L (.int b :: .int a :: st) w cn sn = wp d 0 Q 626 L (.int (a + b) :: st) w cn sn := wp_row d_0_625 _ _ _ _ _
theorem d_0_626 : decode (mB 0) 626 = .ok (.iaload, 1) := by decide +kernel
theorem s_0_626 {d : Nat} {Q : wQ} {L : List (Option Value)} {st : List Value} {w : aw} {cn sn : Nat} {a : Nat} {i : Int32} : wp d 0 Q 626 L (.int i :: .ref a :: st) w cn sn = ((kd w a = 20 ∨ kd w a = 30) ∧ inR i (ln w a) ∧ wp d 0 Q 627 L (.int (ai w a i.toNatClampNeg) :: st) w cn sn) := wp_row d_0_626 _ _ _ _ _
theorem d_0_627 : decode (mB 0) 627 = .ok (.aload_n 0, 1) := by decide +kernel
theorem s_0_627 {d : Nat} {Q : wQ} {L : List (Option Value)} {st : List Value} {w : aw} {cn sn : Nat} {v : Nat} : wp d 0 Q 627 (some (.ref v) :: L) st w cn sn = wp d 0 Q 628 (some (.ref v) :: L) (.ref v :: st) w cn sn := w_aload_n d_0_627 rfl
theorem s_0_627n {d : Nat} {Q : wQ} {L : List (Option Value)} {st : List Value} {w : aw} {cn sn : Nat}  : wp d 0 Q 627 (some .null :: L) st w cn sn = wp d 0 Q 628 (some .null :: L) (.null :: st) w cn sn := w_aload_nN d_0_627 rfl
theorem d_0_628 : decode (mB 0) 628 = .ok (.iload_n 3, 1) := by decide +kernel
theorem s_0_628 {d : Nat} {Q : wQ} {L : List (Option Value)} {st : List Value} {w : aw} {cn sn : Nat} {a0 a1 a2 : Option Value} {v : Int32} : wp d 0 Q 628 (a0 :: a1 :: a2 :: some (.int v) :: L) st w cn sn = wp d 0 Q 629 (a0 :: a1 :: a2 :: some (.int v) :: L) (.int v :: st) w cn sn := w_iload_n d_0_628 rfl
theorem d_0_629 : decode (mB 0) 629 = .ok (.iconst 2, 1) := by decide +kernel
theorem s_0_629 {d : Nat} {Q : wQ} {L : List (Option Value)} {st : List Value} {w : aw} {cn sn : Nat}  : wp d 0 Q 629 L st w cn sn = wp d 0 Q 630 L (.int 2 :: st) w cn sn := w_iconst d_0_629 (by decide)
theorem d_0_630 : decode (mB 0) 630 = .ok (.iadd, 1) := by decide +kernel
theorem s_0_630 {d : Nat} {Q : wQ} {L : List (Option Value)} {st : List Value} {w : aw} {cn sn : Nat} {a b : Int32} : wp d 0 Q 630 L (.int b :: .int a :: st) w cn sn = wp d 0 Q 631 L (.int (a + b) :: st) w cn sn := wp_row d_0_630 _ _ _ _ _
theorem d_0_631 : decode (mB 0) 631 = .ok (.iaload, 1) := by decide +kernel
theorem s_0_631 {d : Nat} {Q : wQ} {L : List (Option Value)} {st : List Value} {w : aw} {cn sn : Nat} {a : Nat} {i : Int32} : wp d 0 Q 631 L (.int i :: .ref a :: st) w cn sn = ((kd w a = 20 ∨ kd w a = 30) ∧ inR i (ln w a) ∧ wp d 0 Q 632 L (.int (ai w a i.toNatClampNeg) :: st) w cn sn) := wp_row d_0_631 _ _ _ _ _
theorem d_0_632 : decode (mB 0) 632 = .ok (.invokevirtual 73, 3) := by decide +kernel
theorem s_0_632 {d : Nat} {Q : wQ} {L : List (Option Value)} {st : List Value} {w : aw} {cn sn : Nat} {v0 v1 : Value} {b : Nat} : wp d 0 Q 632 L (v1 :: v0 :: .ref b :: st) w cn sn = (kd w b = 9 ∧ catS st ≤ 8 ∧ wpD d 137 [.ref b, v0, v1] w (fun v w' => wp d 0 Q 635 L (v.toList ++ st) w' cn sn)) := w_virtual (As := [v0, v1]) d_0_632 (by decide +kernel : cT (mO 0) 73 = some (0, 137)) rfl (by decide +kernel) rfl (by decide +kernel) rfl
theorem d_0_635 : decode (mB 0) 635 = .ok (.if_icmp .eq 164, 3) := by decide +kernel
theorem s_0_635 {d : Nat} {Q : wQ} {L : List (Option Value)} {st : List Value} {w : aw} {cn sn : Nat} {a b : Int32} : wp d 0 Q 635 L (.int b :: .int a :: st) w cn sn = ((a = b → wp d 0 Q 799 L st w cn sn) ∧ (¬ a = b → wp d 0 Q 638 L st w cn sn)) := w_iceq d_0_635 (by decide)
theorem d_0_638 : decode (mB 0) 638 = .ok (.iconst 0, 1) := by decide +kernel
theorem s_0_638 {d : Nat} {Q : wQ} {L : List (Option Value)} {st : List Value} {w : aw} {cn sn : Nat}  : wp d 0 Q 638 L st w cn sn = wp d 0 Q 639 L (.int 0 :: st) w cn sn := w_iconst d_0_638 (by decide)
theorem d_0_639 : decode (mB 0) 639 = .ok (.ireturn, 1) := by decide +kernel
theorem s_0_639 {d : Nat} {Q : wQ} {L : List (Option Value)} {w : aw} {cn sn : Nat} {v : Int32} : wp d 0 Q 639 L [.int v] w cn sn = (narrow .boolean (.int v) = .int v ∧ Q (some (.int v)) w) := w_zreturn d_0_639 rfl
theorem d_0_640 : decode (mB 0) 640 = .ok (.aload_n 1, 1) := by decide +kernel
theorem s_0_640 {d : Nat} {Q : wQ} {L : List (Option Value)} {st : List Value} {w : aw} {cn sn : Nat} {a0 : Option Value} {v : Nat} : wp d 0 Q 640 (a0 :: some (.ref v) :: L) st w cn sn = wp d 0 Q 641 (a0 :: some (.ref v) :: L) (.ref v :: st) w cn sn := w_aload_n d_0_640 rfl
theorem s_0_640n {d : Nat} {Q : wQ} {L : List (Option Value)} {st : List Value} {w : aw} {cn sn : Nat} {a0 : Option Value} : wp d 0 Q 640 (a0 :: some .null :: L) st w cn sn = wp d 0 Q 641 (a0 :: some .null :: L) (.null :: st) w cn sn := w_aload_nN d_0_640 rfl
theorem d_0_641 : decode (mB 0) 641 = .ok (.aload_n 0, 1) := by decide +kernel
theorem s_0_641 {d : Nat} {Q : wQ} {L : List (Option Value)} {st : List Value} {w : aw} {cn sn : Nat} {v : Nat} : wp d 0 Q 641 (some (.ref v) :: L) st w cn sn = wp d 0 Q 642 (some (.ref v) :: L) (.ref v :: st) w cn sn := w_aload_n d_0_641 rfl
theorem s_0_641n {d : Nat} {Q : wQ} {L : List (Option Value)} {st : List Value} {w : aw} {cn sn : Nat}  : wp d 0 Q 641 (some .null :: L) st w cn sn = wp d 0 Q 642 (some .null :: L) (.null :: st) w cn sn := w_aload_nN d_0_641 rfl
theorem d_0_642 : decode (mB 0) 642 = .ok (.iload_n 3, 1) := by decide +kernel
theorem s_0_642 {d : Nat} {Q : wQ} {L : List (Option Value)} {st : List Value} {w : aw} {cn sn : Nat} {a0 a1 a2 : Option Value} {v : Int32} : wp d 0 Q 642 (a0 :: a1 :: a2 :: some (.int v) :: L) st w cn sn = wp d 0 Q 643 (a0 :: a1 :: a2 :: some (.int v) :: L) (.int v :: st) w cn sn := w_iload_n d_0_642 rfl
theorem d_0_643 : decode (mB 0) 643 = .ok (.iconst 1, 1) := by decide +kernel
theorem s_0_643 {d : Nat} {Q : wQ} {L : List (Option Value)} {st : List Value} {w : aw} {cn sn : Nat}  : wp d 0 Q 643 L st w cn sn = wp d 0 Q 644 L (.int 1 :: st) w cn sn := w_iconst d_0_643 (by decide)
theorem d_0_644 : decode (mB 0) 644 = .ok (.iadd, 1) := by decide +kernel
theorem s_0_644 {d : Nat} {Q : wQ} {L : List (Option Value)} {st : List Value} {w : aw} {cn sn : Nat} {a b : Int32} : wp d 0 Q 644 L (.int b :: .int a :: st) w cn sn = wp d 0 Q 645 L (.int (a + b) :: st) w cn sn := wp_row d_0_644 _ _ _ _ _
theorem d_0_645 : decode (mB 0) 645 = .ok (.iaload, 1) := by decide +kernel
theorem s_0_645 {d : Nat} {Q : wQ} {L : List (Option Value)} {st : List Value} {w : aw} {cn sn : Nat} {a : Nat} {i : Int32} : wp d 0 Q 645 L (.int i :: .ref a :: st) w cn sn = ((kd w a = 20 ∨ kd w a = 30) ∧ inR i (ln w a) ∧ wp d 0 Q 646 L (.int (ai w a i.toNatClampNeg) :: st) w cn sn) := wp_row d_0_645 _ _ _ _ _
theorem d_0_646 : decode (mB 0) 646 = .ok (.aload_n 0, 1) := by decide +kernel
theorem s_0_646 {d : Nat} {Q : wQ} {L : List (Option Value)} {st : List Value} {w : aw} {cn sn : Nat} {v : Nat} : wp d 0 Q 646 (some (.ref v) :: L) st w cn sn = wp d 0 Q 647 (some (.ref v) :: L) (.ref v :: st) w cn sn := w_aload_n d_0_646 rfl
theorem s_0_646n {d : Nat} {Q : wQ} {L : List (Option Value)} {st : List Value} {w : aw} {cn sn : Nat}  : wp d 0 Q 646 (some .null :: L) st w cn sn = wp d 0 Q 647 (some .null :: L) (.null :: st) w cn sn := w_aload_nN d_0_646 rfl
theorem d_0_647 : decode (mB 0) 647 = .ok (.iload_n 3, 1) := by decide +kernel
theorem s_0_647 {d : Nat} {Q : wQ} {L : List (Option Value)} {st : List Value} {w : aw} {cn sn : Nat} {a0 a1 a2 : Option Value} {v : Int32} : wp d 0 Q 647 (a0 :: a1 :: a2 :: some (.int v) :: L) st w cn sn = wp d 0 Q 648 (a0 :: a1 :: a2 :: some (.int v) :: L) (.int v :: st) w cn sn := w_iload_n d_0_647 rfl
theorem d_0_648 : decode (mB 0) 648 = .ok (.iconst 2, 1) := by decide +kernel
theorem s_0_648 {d : Nat} {Q : wQ} {L : List (Option Value)} {st : List Value} {w : aw} {cn sn : Nat}  : wp d 0 Q 648 L st w cn sn = wp d 0 Q 649 L (.int 2 :: st) w cn sn := w_iconst d_0_648 (by decide)
theorem d_0_649 : decode (mB 0) 649 = .ok (.iadd, 1) := by decide +kernel
theorem s_0_649 {d : Nat} {Q : wQ} {L : List (Option Value)} {st : List Value} {w : aw} {cn sn : Nat} {a b : Int32} : wp d 0 Q 649 L (.int b :: .int a :: st) w cn sn = wp d 0 Q 650 L (.int (a + b) :: st) w cn sn := wp_row d_0_649 _ _ _ _ _
theorem d_0_650 : decode (mB 0) 650 = .ok (.iaload, 1) := by decide +kernel
theorem s_0_650 {d : Nat} {Q : wQ} {L : List (Option Value)} {st : List Value} {w : aw} {cn sn : Nat} {a : Nat} {i : Int32} : wp d 0 Q 650 L (.int i :: .ref a :: st) w cn sn = ((kd w a = 20 ∨ kd w a = 30) ∧ inR i (ln w a) ∧ wp d 0 Q 651 L (.int (ai w a i.toNatClampNeg) :: st) w cn sn) := wp_row d_0_650 _ _ _ _ _
theorem d_0_651 : decode (mB 0) 651 = .ok (.invokevirtual 74, 3) := by decide +kernel
theorem s_0_651 {d : Nat} {Q : wQ} {L : List (Option Value)} {st : List Value} {w : aw} {cn sn : Nat} {v0 v1 : Value} {b : Nat} : wp d 0 Q 651 L (v1 :: v0 :: .ref b :: st) w cn sn = (kd w b = 8 ∧ catS st ≤ 8 ∧ wpD d 93 [.ref b, v0, v1] w (fun v w' => wp d 0 Q 654 L (v.toList ++ st) w' cn sn)) := w_virtual (As := [v0, v1]) d_0_651 (by decide +kernel : cT (mO 0) 74 = some (0, 93)) rfl (by decide +kernel) rfl (by decide +kernel) rfl
theorem d_0_654 : decode (mB 0) 654 = .ok (.aload_n 2, 1) := by decide +kernel
theorem s_0_654 {d : Nat} {Q : wQ} {L : List (Option Value)} {st : List Value} {w : aw} {cn sn : Nat} {a0 a1 : Option Value} {v : Nat} : wp d 0 Q 654 (a0 :: a1 :: some (.ref v) :: L) st w cn sn = wp d 0 Q 655 (a0 :: a1 :: some (.ref v) :: L) (.ref v :: st) w cn sn := w_aload_n d_0_654 rfl
theorem s_0_654n {d : Nat} {Q : wQ} {L : List (Option Value)} {st : List Value} {w : aw} {cn sn : Nat} {a0 a1 : Option Value} : wp d 0 Q 654 (a0 :: a1 :: some .null :: L) st w cn sn = wp d 0 Q 655 (a0 :: a1 :: some .null :: L) (.null :: st) w cn sn := w_aload_nN d_0_654 rfl
theorem d_0_655 : decode (mB 0) 655 = .ok (.aload_n 0, 1) := by decide +kernel
theorem s_0_655 {d : Nat} {Q : wQ} {L : List (Option Value)} {st : List Value} {w : aw} {cn sn : Nat} {v : Nat} : wp d 0 Q 655 (some (.ref v) :: L) st w cn sn = wp d 0 Q 656 (some (.ref v) :: L) (.ref v :: st) w cn sn := w_aload_n d_0_655 rfl
theorem s_0_655n {d : Nat} {Q : wQ} {L : List (Option Value)} {st : List Value} {w : aw} {cn sn : Nat}  : wp d 0 Q 655 (some .null :: L) st w cn sn = wp d 0 Q 656 (some .null :: L) (.null :: st) w cn sn := w_aload_nN d_0_655 rfl
theorem d_0_656 : decode (mB 0) 656 = .ok (.iload_n 3, 1) := by decide +kernel
theorem s_0_656 {d : Nat} {Q : wQ} {L : List (Option Value)} {st : List Value} {w : aw} {cn sn : Nat} {a0 a1 a2 : Option Value} {v : Int32} : wp d 0 Q 656 (a0 :: a1 :: a2 :: some (.int v) :: L) st w cn sn = wp d 0 Q 657 (a0 :: a1 :: a2 :: some (.int v) :: L) (.int v :: st) w cn sn := w_iload_n d_0_656 rfl
theorem d_0_657 : decode (mB 0) 657 = .ok (.iconst 1, 1) := by decide +kernel
theorem s_0_657 {d : Nat} {Q : wQ} {L : List (Option Value)} {st : List Value} {w : aw} {cn sn : Nat}  : wp d 0 Q 657 L st w cn sn = wp d 0 Q 658 L (.int 1 :: st) w cn sn := w_iconst d_0_657 (by decide)
theorem d_0_658 : decode (mB 0) 658 = .ok (.iadd, 1) := by decide +kernel
theorem s_0_658 {d : Nat} {Q : wQ} {L : List (Option Value)} {st : List Value} {w : aw} {cn sn : Nat} {a b : Int32} : wp d 0 Q 658 L (.int b :: .int a :: st) w cn sn = wp d 0 Q 659 L (.int (a + b) :: st) w cn sn := wp_row d_0_658 _ _ _ _ _
theorem d_0_659 : decode (mB 0) 659 = .ok (.iaload, 1) := by decide +kernel
theorem s_0_659 {d : Nat} {Q : wQ} {L : List (Option Value)} {st : List Value} {w : aw} {cn sn : Nat} {a : Nat} {i : Int32} : wp d 0 Q 659 L (.int i :: .ref a :: st) w cn sn = ((kd w a = 20 ∨ kd w a = 30) ∧ inR i (ln w a) ∧ wp d 0 Q 660 L (.int (ai w a i.toNatClampNeg) :: st) w cn sn) := wp_row d_0_659 _ _ _ _ _
theorem d_0_660 : decode (mB 0) 660 = .ok (.aload_n 0, 1) := by decide +kernel
theorem s_0_660 {d : Nat} {Q : wQ} {L : List (Option Value)} {st : List Value} {w : aw} {cn sn : Nat} {v : Nat} : wp d 0 Q 660 (some (.ref v) :: L) st w cn sn = wp d 0 Q 661 (some (.ref v) :: L) (.ref v :: st) w cn sn := w_aload_n d_0_660 rfl
theorem s_0_660n {d : Nat} {Q : wQ} {L : List (Option Value)} {st : List Value} {w : aw} {cn sn : Nat}  : wp d 0 Q 660 (some .null :: L) st w cn sn = wp d 0 Q 661 (some .null :: L) (.null :: st) w cn sn := w_aload_nN d_0_660 rfl
theorem d_0_661 : decode (mB 0) 661 = .ok (.iload_n 3, 1) := by decide +kernel
theorem s_0_661 {d : Nat} {Q : wQ} {L : List (Option Value)} {st : List Value} {w : aw} {cn sn : Nat} {a0 a1 a2 : Option Value} {v : Int32} : wp d 0 Q 661 (a0 :: a1 :: a2 :: some (.int v) :: L) st w cn sn = wp d 0 Q 662 (a0 :: a1 :: a2 :: some (.int v) :: L) (.int v :: st) w cn sn := w_iload_n d_0_661 rfl
theorem d_0_662 : decode (mB 0) 662 = .ok (.iconst 2, 1) := by decide +kernel
theorem s_0_662 {d : Nat} {Q : wQ} {L : List (Option Value)} {st : List Value} {w : aw} {cn sn : Nat}  : wp d 0 Q 662 L st w cn sn = wp d 0 Q 663 L (.int 2 :: st) w cn sn := w_iconst d_0_662 (by decide)
theorem d_0_663 : decode (mB 0) 663 = .ok (.iadd, 1) := by decide +kernel
theorem s_0_663 {d : Nat} {Q : wQ} {L : List (Option Value)} {st : List Value} {w : aw} {cn sn : Nat} {a b : Int32} : wp d 0 Q 663 L (.int b :: .int a :: st) w cn sn = wp d 0 Q 664 L (.int (a + b) :: st) w cn sn := wp_row d_0_663 _ _ _ _ _
theorem d_0_664 : decode (mB 0) 664 = .ok (.iaload, 1) := by decide +kernel
theorem s_0_664 {d : Nat} {Q : wQ} {L : List (Option Value)} {st : List Value} {w : aw} {cn sn : Nat} {a : Nat} {i : Int32} : wp d 0 Q 664 L (.int i :: .ref a :: st) w cn sn = ((kd w a = 20 ∨ kd w a = 30) ∧ inR i (ln w a) ∧ wp d 0 Q 665 L (.int (ai w a i.toNatClampNeg) :: st) w cn sn) := wp_row d_0_664 _ _ _ _ _
theorem d_0_665 : decode (mB 0) 665 = .ok (.invokevirtual 77, 3) := by decide +kernel
theorem s_0_665 {d : Nat} {Q : wQ} {L : List (Option Value)} {st : List Value} {w : aw} {cn sn : Nat} {v0 v1 : Value} {b : Nat} : wp d 0 Q 665 L (v1 :: v0 :: .ref b :: st) w cn sn = (kd w b = 9 ∧ catS st ≤ 8 ∧ wpD d 138 [.ref b, v0, v1] w (fun v w' => wp d 0 Q 668 L (v.toList ++ st) w' cn sn)) := w_virtual (As := [v0, v1]) d_0_665 (by decide +kernel : cT (mO 0) 77 = some (0, 138)) rfl (by decide +kernel) rfl (by decide +kernel) rfl
theorem d_0_668 : decode (mB 0) 668 = .ok (.if_icmp .eq 131, 3) := by decide +kernel
theorem s_0_668 {d : Nat} {Q : wQ} {L : List (Option Value)} {st : List Value} {w : aw} {cn sn : Nat} {a b : Int32} : wp d 0 Q 668 L (.int b :: .int a :: st) w cn sn = ((a = b → wp d 0 Q 799 L st w cn sn) ∧ (¬ a = b → wp d 0 Q 671 L st w cn sn)) := w_iceq d_0_668 (by decide)
theorem d_0_671 : decode (mB 0) 671 = .ok (.iconst 0, 1) := by decide +kernel
theorem s_0_671 {d : Nat} {Q : wQ} {L : List (Option Value)} {st : List Value} {w : aw} {cn sn : Nat}  : wp d 0 Q 671 L st w cn sn = wp d 0 Q 672 L (.int 0 :: st) w cn sn := w_iconst d_0_671 (by decide)
theorem d_0_672 : decode (mB 0) 672 = .ok (.ireturn, 1) := by decide +kernel
theorem s_0_672 {d : Nat} {Q : wQ} {L : List (Option Value)} {w : aw} {cn sn : Nat} {v : Int32} : wp d 0 Q 672 L [.int v] w cn sn = (narrow .boolean (.int v) = .int v ∧ Q (some (.int v)) w) := w_zreturn d_0_672 rfl
theorem d_0_673 : decode (mB 0) 673 = .ok (.aload_n 1, 1) := by decide +kernel
theorem s_0_673 {d : Nat} {Q : wQ} {L : List (Option Value)} {st : List Value} {w : aw} {cn sn : Nat} {a0 : Option Value} {v : Nat} : wp d 0 Q 673 (a0 :: some (.ref v) :: L) st w cn sn = wp d 0 Q 674 (a0 :: some (.ref v) :: L) (.ref v :: st) w cn sn := w_aload_n d_0_673 rfl
theorem s_0_673n {d : Nat} {Q : wQ} {L : List (Option Value)} {st : List Value} {w : aw} {cn sn : Nat} {a0 : Option Value} : wp d 0 Q 673 (a0 :: some .null :: L) st w cn sn = wp d 0 Q 674 (a0 :: some .null :: L) (.null :: st) w cn sn := w_aload_nN d_0_673 rfl
theorem d_0_674 : decode (mB 0) 674 = .ok (.aload_n 0, 1) := by decide +kernel
theorem s_0_674 {d : Nat} {Q : wQ} {L : List (Option Value)} {st : List Value} {w : aw} {cn sn : Nat} {v : Nat} : wp d 0 Q 674 (some (.ref v) :: L) st w cn sn = wp d 0 Q 675 (some (.ref v) :: L) (.ref v :: st) w cn sn := w_aload_n d_0_674 rfl
theorem s_0_674n {d : Nat} {Q : wQ} {L : List (Option Value)} {st : List Value} {w : aw} {cn sn : Nat}  : wp d 0 Q 674 (some .null :: L) st w cn sn = wp d 0 Q 675 (some .null :: L) (.null :: st) w cn sn := w_aload_nN d_0_674 rfl
theorem d_0_675 : decode (mB 0) 675 = .ok (.iload_n 3, 1) := by decide +kernel
theorem s_0_675 {d : Nat} {Q : wQ} {L : List (Option Value)} {st : List Value} {w : aw} {cn sn : Nat} {a0 a1 a2 : Option Value} {v : Int32} : wp d 0 Q 675 (a0 :: a1 :: a2 :: some (.int v) :: L) st w cn sn = wp d 0 Q 676 (a0 :: a1 :: a2 :: some (.int v) :: L) (.int v :: st) w cn sn := w_iload_n d_0_675 rfl
theorem d_0_676 : decode (mB 0) 676 = .ok (.iconst 1, 1) := by decide +kernel
theorem s_0_676 {d : Nat} {Q : wQ} {L : List (Option Value)} {st : List Value} {w : aw} {cn sn : Nat}  : wp d 0 Q 676 L st w cn sn = wp d 0 Q 677 L (.int 1 :: st) w cn sn := w_iconst d_0_676 (by decide)
theorem d_0_677 : decode (mB 0) 677 = .ok (.iadd, 1) := by decide +kernel
theorem s_0_677 {d : Nat} {Q : wQ} {L : List (Option Value)} {st : List Value} {w : aw} {cn sn : Nat} {a b : Int32} : wp d 0 Q 677 L (.int b :: .int a :: st) w cn sn = wp d 0 Q 678 L (.int (a + b) :: st) w cn sn := wp_row d_0_677 _ _ _ _ _
theorem d_0_678 : decode (mB 0) 678 = .ok (.iaload, 1) := by decide +kernel
theorem s_0_678 {d : Nat} {Q : wQ} {L : List (Option Value)} {st : List Value} {w : aw} {cn sn : Nat} {a : Nat} {i : Int32} : wp d 0 Q 678 L (.int i :: .ref a :: st) w cn sn = ((kd w a = 20 ∨ kd w a = 30) ∧ inR i (ln w a) ∧ wp d 0 Q 679 L (.int (ai w a i.toNatClampNeg) :: st) w cn sn) := wp_row d_0_678 _ _ _ _ _
theorem d_0_679 : decode (mB 0) 679 = .ok (.aload_n 0, 1) := by decide +kernel
theorem s_0_679 {d : Nat} {Q : wQ} {L : List (Option Value)} {st : List Value} {w : aw} {cn sn : Nat} {v : Nat} : wp d 0 Q 679 (some (.ref v) :: L) st w cn sn = wp d 0 Q 680 (some (.ref v) :: L) (.ref v :: st) w cn sn := w_aload_n d_0_679 rfl
theorem s_0_679n {d : Nat} {Q : wQ} {L : List (Option Value)} {st : List Value} {w : aw} {cn sn : Nat}  : wp d 0 Q 679 (some .null :: L) st w cn sn = wp d 0 Q 680 (some .null :: L) (.null :: st) w cn sn := w_aload_nN d_0_679 rfl
theorem d_0_680 : decode (mB 0) 680 = .ok (.iload_n 3, 1) := by decide +kernel
theorem s_0_680 {d : Nat} {Q : wQ} {L : List (Option Value)} {st : List Value} {w : aw} {cn sn : Nat} {a0 a1 a2 : Option Value} {v : Int32} : wp d 0 Q 680 (a0 :: a1 :: a2 :: some (.int v) :: L) st w cn sn = wp d 0 Q 681 (a0 :: a1 :: a2 :: some (.int v) :: L) (.int v :: st) w cn sn := w_iload_n d_0_680 rfl
theorem d_0_681 : decode (mB 0) 681 = .ok (.iconst 2, 1) := by decide +kernel
theorem s_0_681 {d : Nat} {Q : wQ} {L : List (Option Value)} {st : List Value} {w : aw} {cn sn : Nat}  : wp d 0 Q 681 L st w cn sn = wp d 0 Q 682 L (.int 2 :: st) w cn sn := w_iconst d_0_681 (by decide)
theorem d_0_682 : decode (mB 0) 682 = .ok (.iadd, 1) := by decide +kernel
theorem s_0_682 {d : Nat} {Q : wQ} {L : List (Option Value)} {st : List Value} {w : aw} {cn sn : Nat} {a b : Int32} : wp d 0 Q 682 L (.int b :: .int a :: st) w cn sn = wp d 0 Q 683 L (.int (a + b) :: st) w cn sn := wp_row d_0_682 _ _ _ _ _
theorem d_0_683 : decode (mB 0) 683 = .ok (.iaload, 1) := by decide +kernel
theorem s_0_683 {d : Nat} {Q : wQ} {L : List (Option Value)} {st : List Value} {w : aw} {cn sn : Nat} {a : Nat} {i : Int32} : wp d 0 Q 683 L (.int i :: .ref a :: st) w cn sn = ((kd w a = 20 ∨ kd w a = 30) ∧ inR i (ln w a) ∧ wp d 0 Q 684 L (.int (ai w a i.toNatClampNeg) :: st) w cn sn) := wp_row d_0_683 _ _ _ _ _
theorem d_0_684 : decode (mB 0) 684 = .ok (.invokevirtual 78, 3) := by decide +kernel
theorem s_0_684 {d : Nat} {Q : wQ} {L : List (Option Value)} {st : List Value} {w : aw} {cn sn : Nat} {v0 v1 : Value} {b : Nat} : wp d 0 Q 684 L (v1 :: v0 :: .ref b :: st) w cn sn = (kd w b = 8 ∧ catS st ≤ 8 ∧ wpD d 94 [.ref b, v0, v1] w (fun v w' => wp d 0 Q 687 L (v.toList ++ st) w' cn sn)) := w_virtual (As := [v0, v1]) d_0_684 (by decide +kernel : cT (mO 0) 78 = some (0, 94)) rfl (by decide +kernel) rfl (by decide +kernel) rfl
theorem d_0_687 : decode (mB 0) 687 = .ok (.aload_n 2, 1) := by decide +kernel
theorem s_0_687 {d : Nat} {Q : wQ} {L : List (Option Value)} {st : List Value} {w : aw} {cn sn : Nat} {a0 a1 : Option Value} {v : Nat} : wp d 0 Q 687 (a0 :: a1 :: some (.ref v) :: L) st w cn sn = wp d 0 Q 688 (a0 :: a1 :: some (.ref v) :: L) (.ref v :: st) w cn sn := w_aload_n d_0_687 rfl
theorem s_0_687n {d : Nat} {Q : wQ} {L : List (Option Value)} {st : List Value} {w : aw} {cn sn : Nat} {a0 a1 : Option Value} : wp d 0 Q 687 (a0 :: a1 :: some .null :: L) st w cn sn = wp d 0 Q 688 (a0 :: a1 :: some .null :: L) (.null :: st) w cn sn := w_aload_nN d_0_687 rfl
theorem d_0_688 : decode (mB 0) 688 = .ok (.aload_n 0, 1) := by decide +kernel
theorem s_0_688 {d : Nat} {Q : wQ} {L : List (Option Value)} {st : List Value} {w : aw} {cn sn : Nat} {v : Nat} : wp d 0 Q 688 (some (.ref v) :: L) st w cn sn = wp d 0 Q 689 (some (.ref v) :: L) (.ref v :: st) w cn sn := w_aload_n d_0_688 rfl
theorem s_0_688n {d : Nat} {Q : wQ} {L : List (Option Value)} {st : List Value} {w : aw} {cn sn : Nat}  : wp d 0 Q 688 (some .null :: L) st w cn sn = wp d 0 Q 689 (some .null :: L) (.null :: st) w cn sn := w_aload_nN d_0_688 rfl
theorem d_0_689 : decode (mB 0) 689 = .ok (.iload_n 3, 1) := by decide +kernel
theorem s_0_689 {d : Nat} {Q : wQ} {L : List (Option Value)} {st : List Value} {w : aw} {cn sn : Nat} {a0 a1 a2 : Option Value} {v : Int32} : wp d 0 Q 689 (a0 :: a1 :: a2 :: some (.int v) :: L) st w cn sn = wp d 0 Q 690 (a0 :: a1 :: a2 :: some (.int v) :: L) (.int v :: st) w cn sn := w_iload_n d_0_689 rfl
theorem d_0_690 : decode (mB 0) 690 = .ok (.iconst 1, 1) := by decide +kernel
theorem s_0_690 {d : Nat} {Q : wQ} {L : List (Option Value)} {st : List Value} {w : aw} {cn sn : Nat}  : wp d 0 Q 690 L st w cn sn = wp d 0 Q 691 L (.int 1 :: st) w cn sn := w_iconst d_0_690 (by decide)
theorem d_0_691 : decode (mB 0) 691 = .ok (.iadd, 1) := by decide +kernel
theorem s_0_691 {d : Nat} {Q : wQ} {L : List (Option Value)} {st : List Value} {w : aw} {cn sn : Nat} {a b : Int32} : wp d 0 Q 691 L (.int b :: .int a :: st) w cn sn = wp d 0 Q 692 L (.int (a + b) :: st) w cn sn := wp_row d_0_691 _ _ _ _ _
theorem d_0_692 : decode (mB 0) 692 = .ok (.iaload, 1) := by decide +kernel
theorem s_0_692 {d : Nat} {Q : wQ} {L : List (Option Value)} {st : List Value} {w : aw} {cn sn : Nat} {a : Nat} {i : Int32} : wp d 0 Q 692 L (.int i :: .ref a :: st) w cn sn = ((kd w a = 20 ∨ kd w a = 30) ∧ inR i (ln w a) ∧ wp d 0 Q 693 L (.int (ai w a i.toNatClampNeg) :: st) w cn sn) := wp_row d_0_692 _ _ _ _ _
theorem d_0_693 : decode (mB 0) 693 = .ok (.aload_n 0, 1) := by decide +kernel
theorem s_0_693 {d : Nat} {Q : wQ} {L : List (Option Value)} {st : List Value} {w : aw} {cn sn : Nat} {v : Nat} : wp d 0 Q 693 (some (.ref v) :: L) st w cn sn = wp d 0 Q 694 (some (.ref v) :: L) (.ref v :: st) w cn sn := w_aload_n d_0_693 rfl
theorem s_0_693n {d : Nat} {Q : wQ} {L : List (Option Value)} {st : List Value} {w : aw} {cn sn : Nat}  : wp d 0 Q 693 (some .null :: L) st w cn sn = wp d 0 Q 694 (some .null :: L) (.null :: st) w cn sn := w_aload_nN d_0_693 rfl
theorem d_0_694 : decode (mB 0) 694 = .ok (.iload_n 3, 1) := by decide +kernel
theorem s_0_694 {d : Nat} {Q : wQ} {L : List (Option Value)} {st : List Value} {w : aw} {cn sn : Nat} {a0 a1 a2 : Option Value} {v : Int32} : wp d 0 Q 694 (a0 :: a1 :: a2 :: some (.int v) :: L) st w cn sn = wp d 0 Q 695 (a0 :: a1 :: a2 :: some (.int v) :: L) (.int v :: st) w cn sn := w_iload_n d_0_694 rfl
theorem d_0_695 : decode (mB 0) 695 = .ok (.iconst 2, 1) := by decide +kernel
theorem s_0_695 {d : Nat} {Q : wQ} {L : List (Option Value)} {st : List Value} {w : aw} {cn sn : Nat}  : wp d 0 Q 695 L st w cn sn = wp d 0 Q 696 L (.int 2 :: st) w cn sn := w_iconst d_0_695 (by decide)
theorem d_0_696 : decode (mB 0) 696 = .ok (.iadd, 1) := by decide +kernel
theorem s_0_696 {d : Nat} {Q : wQ} {L : List (Option Value)} {st : List Value} {w : aw} {cn sn : Nat} {a b : Int32} : wp d 0 Q 696 L (.int b :: .int a :: st) w cn sn = wp d 0 Q 697 L (.int (a + b) :: st) w cn sn := wp_row d_0_696 _ _ _ _ _
theorem d_0_697 : decode (mB 0) 697 = .ok (.iaload, 1) := by decide +kernel
theorem s_0_697 {d : Nat} {Q : wQ} {L : List (Option Value)} {st : List Value} {w : aw} {cn sn : Nat} {a : Nat} {i : Int32} : wp d 0 Q 697 L (.int i :: .ref a :: st) w cn sn = ((kd w a = 20 ∨ kd w a = 30) ∧ inR i (ln w a) ∧ wp d 0 Q 698 L (.int (ai w a i.toNatClampNeg) :: st) w cn sn) := wp_row d_0_697 _ _ _ _ _
theorem d_0_698 : decode (mB 0) 698 = .ok (.invokevirtual 81, 3) := by decide +kernel
theorem s_0_698 {d : Nat} {Q : wQ} {L : List (Option Value)} {st : List Value} {w : aw} {cn sn : Nat} {v0 v1 : Value} {b : Nat} : wp d 0 Q 698 L (v1 :: v0 :: .ref b :: st) w cn sn = (kd w b = 9 ∧ catS st ≤ 8 ∧ wpD d 139 [.ref b, v0, v1] w (fun v w' => wp d 0 Q 701 L (v.toList ++ st) w' cn sn)) := w_virtual (As := [v0, v1]) d_0_698 (by decide +kernel : cT (mO 0) 81 = some (0, 139)) rfl (by decide +kernel) rfl (by decide +kernel) rfl
theorem d_0_701 : decode (mB 0) 701 = .ok (.if_icmp .eq 98, 3) := by decide +kernel
theorem s_0_701 {d : Nat} {Q : wQ} {L : List (Option Value)} {st : List Value} {w : aw} {cn sn : Nat} {a b : Int32} : wp d 0 Q 701 L (.int b :: .int a :: st) w cn sn = ((a = b → wp d 0 Q 799 L st w cn sn) ∧ (¬ a = b → wp d 0 Q 704 L st w cn sn)) := w_iceq d_0_701 (by decide)
theorem d_0_704 : decode (mB 0) 704 = .ok (.iconst 0, 1) := by decide +kernel
theorem s_0_704 {d : Nat} {Q : wQ} {L : List (Option Value)} {st : List Value} {w : aw} {cn sn : Nat}  : wp d 0 Q 704 L st w cn sn = wp d 0 Q 705 L (.int 0 :: st) w cn sn := w_iconst d_0_704 (by decide)
theorem d_0_705 : decode (mB 0) 705 = .ok (.ireturn, 1) := by decide +kernel
theorem s_0_705 {d : Nat} {Q : wQ} {L : List (Option Value)} {w : aw} {cn sn : Nat} {v : Int32} : wp d 0 Q 705 L [.int v] w cn sn = (narrow .boolean (.int v) = .int v ∧ Q (some (.int v)) w) := w_zreturn d_0_705 rfl
theorem d_0_706 : decode (mB 0) 706 = .ok (.aload_n 1, 1) := by decide +kernel
theorem s_0_706 {d : Nat} {Q : wQ} {L : List (Option Value)} {st : List Value} {w : aw} {cn sn : Nat} {a0 : Option Value} {v : Nat} : wp d 0 Q 706 (a0 :: some (.ref v) :: L) st w cn sn = wp d 0 Q 707 (a0 :: some (.ref v) :: L) (.ref v :: st) w cn sn := w_aload_n d_0_706 rfl
theorem s_0_706n {d : Nat} {Q : wQ} {L : List (Option Value)} {st : List Value} {w : aw} {cn sn : Nat} {a0 : Option Value} : wp d 0 Q 706 (a0 :: some .null :: L) st w cn sn = wp d 0 Q 707 (a0 :: some .null :: L) (.null :: st) w cn sn := w_aload_nN d_0_706 rfl
theorem d_0_707 : decode (mB 0) 707 = .ok (.aload_n 0, 1) := by decide +kernel
theorem s_0_707 {d : Nat} {Q : wQ} {L : List (Option Value)} {st : List Value} {w : aw} {cn sn : Nat} {v : Nat} : wp d 0 Q 707 (some (.ref v) :: L) st w cn sn = wp d 0 Q 708 (some (.ref v) :: L) (.ref v :: st) w cn sn := w_aload_n d_0_707 rfl
theorem s_0_707n {d : Nat} {Q : wQ} {L : List (Option Value)} {st : List Value} {w : aw} {cn sn : Nat}  : wp d 0 Q 707 (some .null :: L) st w cn sn = wp d 0 Q 708 (some .null :: L) (.null :: st) w cn sn := w_aload_nN d_0_707 rfl
theorem d_0_708 : decode (mB 0) 708 = .ok (.iload_n 3, 1) := by decide +kernel
theorem s_0_708 {d : Nat} {Q : wQ} {L : List (Option Value)} {st : List Value} {w : aw} {cn sn : Nat} {a0 a1 a2 : Option Value} {v : Int32} : wp d 0 Q 708 (a0 :: a1 :: a2 :: some (.int v) :: L) st w cn sn = wp d 0 Q 709 (a0 :: a1 :: a2 :: some (.int v) :: L) (.int v :: st) w cn sn := w_iload_n d_0_708 rfl
theorem d_0_709 : decode (mB 0) 709 = .ok (.iconst 1, 1) := by decide +kernel
theorem s_0_709 {d : Nat} {Q : wQ} {L : List (Option Value)} {st : List Value} {w : aw} {cn sn : Nat}  : wp d 0 Q 709 L st w cn sn = wp d 0 Q 710 L (.int 1 :: st) w cn sn := w_iconst d_0_709 (by decide)
theorem d_0_710 : decode (mB 0) 710 = .ok (.iadd, 1) := by decide +kernel
theorem s_0_710 {d : Nat} {Q : wQ} {L : List (Option Value)} {st : List Value} {w : aw} {cn sn : Nat} {a b : Int32} : wp d 0 Q 710 L (.int b :: .int a :: st) w cn sn = wp d 0 Q 711 L (.int (a + b) :: st) w cn sn := wp_row d_0_710 _ _ _ _ _
theorem d_0_711 : decode (mB 0) 711 = .ok (.iaload, 1) := by decide +kernel
theorem s_0_711 {d : Nat} {Q : wQ} {L : List (Option Value)} {st : List Value} {w : aw} {cn sn : Nat} {a : Nat} {i : Int32} : wp d 0 Q 711 L (.int i :: .ref a :: st) w cn sn = ((kd w a = 20 ∨ kd w a = 30) ∧ inR i (ln w a) ∧ wp d 0 Q 712 L (.int (ai w a i.toNatClampNeg) :: st) w cn sn) := wp_row d_0_711 _ _ _ _ _
theorem d_0_712 : decode (mB 0) 712 = .ok (.aload_n 0, 1) := by decide +kernel
theorem s_0_712 {d : Nat} {Q : wQ} {L : List (Option Value)} {st : List Value} {w : aw} {cn sn : Nat} {v : Nat} : wp d 0 Q 712 (some (.ref v) :: L) st w cn sn = wp d 0 Q 713 (some (.ref v) :: L) (.ref v :: st) w cn sn := w_aload_n d_0_712 rfl
theorem s_0_712n {d : Nat} {Q : wQ} {L : List (Option Value)} {st : List Value} {w : aw} {cn sn : Nat}  : wp d 0 Q 712 (some .null :: L) st w cn sn = wp d 0 Q 713 (some .null :: L) (.null :: st) w cn sn := w_aload_nN d_0_712 rfl
theorem d_0_713 : decode (mB 0) 713 = .ok (.iload_n 3, 1) := by decide +kernel
theorem s_0_713 {d : Nat} {Q : wQ} {L : List (Option Value)} {st : List Value} {w : aw} {cn sn : Nat} {a0 a1 a2 : Option Value} {v : Int32} : wp d 0 Q 713 (a0 :: a1 :: a2 :: some (.int v) :: L) st w cn sn = wp d 0 Q 714 (a0 :: a1 :: a2 :: some (.int v) :: L) (.int v :: st) w cn sn := w_iload_n d_0_713 rfl
theorem d_0_714 : decode (mB 0) 714 = .ok (.iconst 2, 1) := by decide +kernel
theorem s_0_714 {d : Nat} {Q : wQ} {L : List (Option Value)} {st : List Value} {w : aw} {cn sn : Nat}  : wp d 0 Q 714 L st w cn sn = wp d 0 Q 715 L (.int 2 :: st) w cn sn := w_iconst d_0_714 (by decide)
theorem d_0_715 : decode (mB 0) 715 = .ok (.iadd, 1) := by decide +kernel
theorem s_0_715 {d : Nat} {Q : wQ} {L : List (Option Value)} {st : List Value} {w : aw} {cn sn : Nat} {a b : Int32} : wp d 0 Q 715 L (.int b :: .int a :: st) w cn sn = wp d 0 Q 716 L (.int (a + b) :: st) w cn sn := wp_row d_0_715 _ _ _ _ _
theorem d_0_716 : decode (mB 0) 716 = .ok (.iaload, 1) := by decide +kernel
theorem s_0_716 {d : Nat} {Q : wQ} {L : List (Option Value)} {st : List Value} {w : aw} {cn sn : Nat} {a : Nat} {i : Int32} : wp d 0 Q 716 L (.int i :: .ref a :: st) w cn sn = ((kd w a = 20 ∨ kd w a = 30) ∧ inR i (ln w a) ∧ wp d 0 Q 717 L (.int (ai w a i.toNatClampNeg) :: st) w cn sn) := wp_row d_0_716 _ _ _ _ _
theorem d_0_717 : decode (mB 0) 717 = .ok (.invokevirtual 82, 3) := by decide +kernel
theorem s_0_717 {d : Nat} {Q : wQ} {L : List (Option Value)} {st : List Value} {w : aw} {cn sn : Nat} {v0 v1 : Value} {b : Nat} : wp d 0 Q 717 L (v1 :: v0 :: .ref b :: st) w cn sn = (kd w b = 8 ∧ catS st ≤ 8 ∧ wpD d 95 [.ref b, v0, v1] w (fun v w' => wp d 0 Q 720 L (v.toList ++ st) w' cn sn)) := w_virtual (As := [v0, v1]) d_0_717 (by decide +kernel : cT (mO 0) 82 = some (0, 95)) rfl (by decide +kernel) rfl (by decide +kernel) rfl
theorem d_0_720 : decode (mB 0) 720 = .ok (.aload_n 2, 1) := by decide +kernel
theorem s_0_720 {d : Nat} {Q : wQ} {L : List (Option Value)} {st : List Value} {w : aw} {cn sn : Nat} {a0 a1 : Option Value} {v : Nat} : wp d 0 Q 720 (a0 :: a1 :: some (.ref v) :: L) st w cn sn = wp d 0 Q 721 (a0 :: a1 :: some (.ref v) :: L) (.ref v :: st) w cn sn := w_aload_n d_0_720 rfl
theorem s_0_720n {d : Nat} {Q : wQ} {L : List (Option Value)} {st : List Value} {w : aw} {cn sn : Nat} {a0 a1 : Option Value} : wp d 0 Q 720 (a0 :: a1 :: some .null :: L) st w cn sn = wp d 0 Q 721 (a0 :: a1 :: some .null :: L) (.null :: st) w cn sn := w_aload_nN d_0_720 rfl
theorem d_0_721 : decode (mB 0) 721 = .ok (.aload_n 0, 1) := by decide +kernel
theorem s_0_721 {d : Nat} {Q : wQ} {L : List (Option Value)} {st : List Value} {w : aw} {cn sn : Nat} {v : Nat} : wp d 0 Q 721 (some (.ref v) :: L) st w cn sn = wp d 0 Q 722 (some (.ref v) :: L) (.ref v :: st) w cn sn := w_aload_n d_0_721 rfl
theorem s_0_721n {d : Nat} {Q : wQ} {L : List (Option Value)} {st : List Value} {w : aw} {cn sn : Nat}  : wp d 0 Q 721 (some .null :: L) st w cn sn = wp d 0 Q 722 (some .null :: L) (.null :: st) w cn sn := w_aload_nN d_0_721 rfl
theorem d_0_722 : decode (mB 0) 722 = .ok (.iload_n 3, 1) := by decide +kernel
theorem s_0_722 {d : Nat} {Q : wQ} {L : List (Option Value)} {st : List Value} {w : aw} {cn sn : Nat} {a0 a1 a2 : Option Value} {v : Int32} : wp d 0 Q 722 (a0 :: a1 :: a2 :: some (.int v) :: L) st w cn sn = wp d 0 Q 723 (a0 :: a1 :: a2 :: some (.int v) :: L) (.int v :: st) w cn sn := w_iload_n d_0_722 rfl
theorem d_0_723 : decode (mB 0) 723 = .ok (.iconst 1, 1) := by decide +kernel
theorem s_0_723 {d : Nat} {Q : wQ} {L : List (Option Value)} {st : List Value} {w : aw} {cn sn : Nat}  : wp d 0 Q 723 L st w cn sn = wp d 0 Q 724 L (.int 1 :: st) w cn sn := w_iconst d_0_723 (by decide)
theorem d_0_724 : decode (mB 0) 724 = .ok (.iadd, 1) := by decide +kernel
theorem s_0_724 {d : Nat} {Q : wQ} {L : List (Option Value)} {st : List Value} {w : aw} {cn sn : Nat} {a b : Int32} : wp d 0 Q 724 L (.int b :: .int a :: st) w cn sn = wp d 0 Q 725 L (.int (a + b) :: st) w cn sn := wp_row d_0_724 _ _ _ _ _
theorem d_0_725 : decode (mB 0) 725 = .ok (.iaload, 1) := by decide +kernel
theorem s_0_725 {d : Nat} {Q : wQ} {L : List (Option Value)} {st : List Value} {w : aw} {cn sn : Nat} {a : Nat} {i : Int32} : wp d 0 Q 725 L (.int i :: .ref a :: st) w cn sn = ((kd w a = 20 ∨ kd w a = 30) ∧ inR i (ln w a) ∧ wp d 0 Q 726 L (.int (ai w a i.toNatClampNeg) :: st) w cn sn) := wp_row d_0_725 _ _ _ _ _
theorem d_0_726 : decode (mB 0) 726 = .ok (.aload_n 0, 1) := by decide +kernel
theorem s_0_726 {d : Nat} {Q : wQ} {L : List (Option Value)} {st : List Value} {w : aw} {cn sn : Nat} {v : Nat} : wp d 0 Q 726 (some (.ref v) :: L) st w cn sn = wp d 0 Q 727 (some (.ref v) :: L) (.ref v :: st) w cn sn := w_aload_n d_0_726 rfl
theorem s_0_726n {d : Nat} {Q : wQ} {L : List (Option Value)} {st : List Value} {w : aw} {cn sn : Nat}  : wp d 0 Q 726 (some .null :: L) st w cn sn = wp d 0 Q 727 (some .null :: L) (.null :: st) w cn sn := w_aload_nN d_0_726 rfl
theorem d_0_727 : decode (mB 0) 727 = .ok (.iload_n 3, 1) := by decide +kernel
theorem s_0_727 {d : Nat} {Q : wQ} {L : List (Option Value)} {st : List Value} {w : aw} {cn sn : Nat} {a0 a1 a2 : Option Value} {v : Int32} : wp d 0 Q 727 (a0 :: a1 :: a2 :: some (.int v) :: L) st w cn sn = wp d 0 Q 728 (a0 :: a1 :: a2 :: some (.int v) :: L) (.int v :: st) w cn sn := w_iload_n d_0_727 rfl
theorem d_0_728 : decode (mB 0) 728 = .ok (.iconst 2, 1) := by decide +kernel
theorem s_0_728 {d : Nat} {Q : wQ} {L : List (Option Value)} {st : List Value} {w : aw} {cn sn : Nat}  : wp d 0 Q 728 L st w cn sn = wp d 0 Q 729 L (.int 2 :: st) w cn sn := w_iconst d_0_728 (by decide)
theorem d_0_729 : decode (mB 0) 729 = .ok (.iadd, 1) := by decide +kernel
theorem s_0_729 {d : Nat} {Q : wQ} {L : List (Option Value)} {st : List Value} {w : aw} {cn sn : Nat} {a b : Int32} : wp d 0 Q 729 L (.int b :: .int a :: st) w cn sn = wp d 0 Q 730 L (.int (a + b) :: st) w cn sn := wp_row d_0_729 _ _ _ _ _
theorem d_0_730 : decode (mB 0) 730 = .ok (.iaload, 1) := by decide +kernel
theorem s_0_730 {d : Nat} {Q : wQ} {L : List (Option Value)} {st : List Value} {w : aw} {cn sn : Nat} {a : Nat} {i : Int32} : wp d 0 Q 730 L (.int i :: .ref a :: st) w cn sn = ((kd w a = 20 ∨ kd w a = 30) ∧ inR i (ln w a) ∧ wp d 0 Q 731 L (.int (ai w a i.toNatClampNeg) :: st) w cn sn) := wp_row d_0_730 _ _ _ _ _
theorem d_0_731 : decode (mB 0) 731 = .ok (.invokevirtual 85, 3) := by decide +kernel
theorem s_0_731 {d : Nat} {Q : wQ} {L : List (Option Value)} {st : List Value} {w : aw} {cn sn : Nat} {v0 v1 : Value} {b : Nat} : wp d 0 Q 731 L (v1 :: v0 :: .ref b :: st) w cn sn = (kd w b = 9 ∧ catS st ≤ 8 ∧ wpD d 140 [.ref b, v0, v1] w (fun v w' => wp d 0 Q 734 L (v.toList ++ st) w' cn sn)) := w_virtual (As := [v0, v1]) d_0_731 (by decide +kernel : cT (mO 0) 85 = some (0, 140)) rfl (by decide +kernel) rfl (by decide +kernel) rfl
theorem d_0_734 : decode (mB 0) 734 = .ok (.if_icmp .eq 65, 3) := by decide +kernel
theorem s_0_734 {d : Nat} {Q : wQ} {L : List (Option Value)} {st : List Value} {w : aw} {cn sn : Nat} {a b : Int32} : wp d 0 Q 734 L (.int b :: .int a :: st) w cn sn = ((a = b → wp d 0 Q 799 L st w cn sn) ∧ (¬ a = b → wp d 0 Q 737 L st w cn sn)) := w_iceq d_0_734 (by decide)
theorem d_0_737 : decode (mB 0) 737 = .ok (.iconst 0, 1) := by decide +kernel
theorem s_0_737 {d : Nat} {Q : wQ} {L : List (Option Value)} {st : List Value} {w : aw} {cn sn : Nat}  : wp d 0 Q 737 L st w cn sn = wp d 0 Q 738 L (.int 0 :: st) w cn sn := w_iconst d_0_737 (by decide)
theorem d_0_738 : decode (mB 0) 738 = .ok (.ireturn, 1) := by decide +kernel
theorem s_0_738 {d : Nat} {Q : wQ} {L : List (Option Value)} {w : aw} {cn sn : Nat} {v : Int32} : wp d 0 Q 738 L [.int v] w cn sn = (narrow .boolean (.int v) = .int v ∧ Q (some (.int v)) w) := w_zreturn d_0_738 rfl
theorem d_0_739 : decode (mB 0) 739 = .ok (.aload_n 1, 1) := by decide +kernel
theorem s_0_739 {d : Nat} {Q : wQ} {L : List (Option Value)} {st : List Value} {w : aw} {cn sn : Nat} {a0 : Option Value} {v : Nat} : wp d 0 Q 739 (a0 :: some (.ref v) :: L) st w cn sn = wp d 0 Q 740 (a0 :: some (.ref v) :: L) (.ref v :: st) w cn sn := w_aload_n d_0_739 rfl
theorem s_0_739n {d : Nat} {Q : wQ} {L : List (Option Value)} {st : List Value} {w : aw} {cn sn : Nat} {a0 : Option Value} : wp d 0 Q 739 (a0 :: some .null :: L) st w cn sn = wp d 0 Q 740 (a0 :: some .null :: L) (.null :: st) w cn sn := w_aload_nN d_0_739 rfl
theorem d_0_740 : decode (mB 0) 740 = .ok (.aload_n 0, 1) := by decide +kernel
theorem s_0_740 {d : Nat} {Q : wQ} {L : List (Option Value)} {st : List Value} {w : aw} {cn sn : Nat} {v : Nat} : wp d 0 Q 740 (some (.ref v) :: L) st w cn sn = wp d 0 Q 741 (some (.ref v) :: L) (.ref v :: st) w cn sn := w_aload_n d_0_740 rfl
theorem s_0_740n {d : Nat} {Q : wQ} {L : List (Option Value)} {st : List Value} {w : aw} {cn sn : Nat}  : wp d 0 Q 740 (some .null :: L) st w cn sn = wp d 0 Q 741 (some .null :: L) (.null :: st) w cn sn := w_aload_nN d_0_740 rfl
theorem d_0_741 : decode (mB 0) 741 = .ok (.iload_n 3, 1) := by decide +kernel
theorem s_0_741 {d : Nat} {Q : wQ} {L : List (Option Value)} {st : List Value} {w : aw} {cn sn : Nat} {a0 a1 a2 : Option Value} {v : Int32} : wp d 0 Q 741 (a0 :: a1 :: a2 :: some (.int v) :: L) st w cn sn = wp d 0 Q 742 (a0 :: a1 :: a2 :: some (.int v) :: L) (.int v :: st) w cn sn := w_iload_n d_0_741 rfl
theorem d_0_742 : decode (mB 0) 742 = .ok (.iconst 1, 1) := by decide +kernel
theorem s_0_742 {d : Nat} {Q : wQ} {L : List (Option Value)} {st : List Value} {w : aw} {cn sn : Nat}  : wp d 0 Q 742 L st w cn sn = wp d 0 Q 743 L (.int 1 :: st) w cn sn := w_iconst d_0_742 (by decide)
theorem d_0_743 : decode (mB 0) 743 = .ok (.iadd, 1) := by decide +kernel
theorem s_0_743 {d : Nat} {Q : wQ} {L : List (Option Value)} {st : List Value} {w : aw} {cn sn : Nat} {a b : Int32} : wp d 0 Q 743 L (.int b :: .int a :: st) w cn sn = wp d 0 Q 744 L (.int (a + b) :: st) w cn sn := wp_row d_0_743 _ _ _ _ _
theorem d_0_744 : decode (mB 0) 744 = .ok (.iaload, 1) := by decide +kernel
theorem s_0_744 {d : Nat} {Q : wQ} {L : List (Option Value)} {st : List Value} {w : aw} {cn sn : Nat} {a : Nat} {i : Int32} : wp d 0 Q 744 L (.int i :: .ref a :: st) w cn sn = ((kd w a = 20 ∨ kd w a = 30) ∧ inR i (ln w a) ∧ wp d 0 Q 745 L (.int (ai w a i.toNatClampNeg) :: st) w cn sn) := wp_row d_0_744 _ _ _ _ _
theorem d_0_745 : decode (mB 0) 745 = .ok (.invokevirtual 86, 3) := by decide +kernel
theorem s_0_745 {d : Nat} {Q : wQ} {L : List (Option Value)} {st : List Value} {w : aw} {cn sn : Nat} {v0 : Value} {b : Nat} : wp d 0 Q 745 L (v0 :: .ref b :: st) w cn sn = (kd w b = 8 ∧ catS st ≤ 8 ∧ wpD d 96 [.ref b, v0] w (fun v w' => wp d 0 Q 748 L (v.toList ++ st) w' cn sn)) := w_virtual (As := [v0]) d_0_745 (by decide +kernel : cT (mO 0) 86 = some (0, 96)) rfl (by decide +kernel) rfl (by decide +kernel) rfl
theorem d_0_748 : decode (mB 0) 748 = .ok (.aload_n 2, 1) := by decide +kernel
theorem s_0_748 {d : Nat} {Q : wQ} {L : List (Option Value)} {st : List Value} {w : aw} {cn sn : Nat} {a0 a1 : Option Value} {v : Nat} : wp d 0 Q 748 (a0 :: a1 :: some (.ref v) :: L) st w cn sn = wp d 0 Q 749 (a0 :: a1 :: some (.ref v) :: L) (.ref v :: st) w cn sn := w_aload_n d_0_748 rfl
theorem s_0_748n {d : Nat} {Q : wQ} {L : List (Option Value)} {st : List Value} {w : aw} {cn sn : Nat} {a0 a1 : Option Value} : wp d 0 Q 748 (a0 :: a1 :: some .null :: L) st w cn sn = wp d 0 Q 749 (a0 :: a1 :: some .null :: L) (.null :: st) w cn sn := w_aload_nN d_0_748 rfl
theorem d_0_749 : decode (mB 0) 749 = .ok (.aload_n 0, 1) := by decide +kernel
theorem s_0_749 {d : Nat} {Q : wQ} {L : List (Option Value)} {st : List Value} {w : aw} {cn sn : Nat} {v : Nat} : wp d 0 Q 749 (some (.ref v) :: L) st w cn sn = wp d 0 Q 750 (some (.ref v) :: L) (.ref v :: st) w cn sn := w_aload_n d_0_749 rfl
theorem s_0_749n {d : Nat} {Q : wQ} {L : List (Option Value)} {st : List Value} {w : aw} {cn sn : Nat}  : wp d 0 Q 749 (some .null :: L) st w cn sn = wp d 0 Q 750 (some .null :: L) (.null :: st) w cn sn := w_aload_nN d_0_749 rfl
theorem d_0_750 : decode (mB 0) 750 = .ok (.iload_n 3, 1) := by decide +kernel
theorem s_0_750 {d : Nat} {Q : wQ} {L : List (Option Value)} {st : List Value} {w : aw} {cn sn : Nat} {a0 a1 a2 : Option Value} {v : Int32} : wp d 0 Q 750 (a0 :: a1 :: a2 :: some (.int v) :: L) st w cn sn = wp d 0 Q 751 (a0 :: a1 :: a2 :: some (.int v) :: L) (.int v :: st) w cn sn := w_iload_n d_0_750 rfl
theorem d_0_751 : decode (mB 0) 751 = .ok (.iconst 1, 1) := by decide +kernel
theorem s_0_751 {d : Nat} {Q : wQ} {L : List (Option Value)} {st : List Value} {w : aw} {cn sn : Nat}  : wp d 0 Q 751 L st w cn sn = wp d 0 Q 752 L (.int 1 :: st) w cn sn := w_iconst d_0_751 (by decide)
theorem d_0_752 : decode (mB 0) 752 = .ok (.iadd, 1) := by decide +kernel
theorem s_0_752 {d : Nat} {Q : wQ} {L : List (Option Value)} {st : List Value} {w : aw} {cn sn : Nat} {a b : Int32} : wp d 0 Q 752 L (.int b :: .int a :: st) w cn sn = wp d 0 Q 753 L (.int (a + b) :: st) w cn sn := wp_row d_0_752 _ _ _ _ _
theorem d_0_753 : decode (mB 0) 753 = .ok (.iaload, 1) := by decide +kernel
theorem s_0_753 {d : Nat} {Q : wQ} {L : List (Option Value)} {st : List Value} {w : aw} {cn sn : Nat} {a : Nat} {i : Int32} : wp d 0 Q 753 L (.int i :: .ref a :: st) w cn sn = ((kd w a = 20 ∨ kd w a = 30) ∧ inR i (ln w a) ∧ wp d 0 Q 754 L (.int (ai w a i.toNatClampNeg) :: st) w cn sn) := wp_row d_0_753 _ _ _ _ _
theorem d_0_754 : decode (mB 0) 754 = .ok (.invokevirtual 89, 3) := by decide +kernel
theorem s_0_754 {d : Nat} {Q : wQ} {L : List (Option Value)} {st : List Value} {w : aw} {cn sn : Nat} {v0 : Value} {b : Nat} : wp d 0 Q 754 L (v0 :: .ref b :: st) w cn sn = (kd w b = 9 ∧ catS st ≤ 8 ∧ wpD d 141 [.ref b, v0] w (fun v w' => wp d 0 Q 757 L (v.toList ++ st) w' cn sn)) := w_virtual (As := [v0]) d_0_754 (by decide +kernel : cT (mO 0) 89 = some (0, 141)) rfl (by decide +kernel) rfl (by decide +kernel) rfl
theorem d_0_757 : decode (mB 0) 757 = .ok (.if_icmp .eq 42, 3) := by decide +kernel
theorem s_0_757 {d : Nat} {Q : wQ} {L : List (Option Value)} {st : List Value} {w : aw} {cn sn : Nat} {a b : Int32} : wp d 0 Q 757 L (.int b :: .int a :: st) w cn sn = ((a = b → wp d 0 Q 799 L st w cn sn) ∧ (¬ a = b → wp d 0 Q 760 L st w cn sn)) := w_iceq d_0_757 (by decide)
theorem d_0_760 : decode (mB 0) 760 = .ok (.iconst 0, 1) := by decide +kernel
theorem s_0_760 {d : Nat} {Q : wQ} {L : List (Option Value)} {st : List Value} {w : aw} {cn sn : Nat}  : wp d 0 Q 760 L st w cn sn = wp d 0 Q 761 L (.int 0 :: st) w cn sn := w_iconst d_0_760 (by decide)
theorem d_0_761 : decode (mB 0) 761 = .ok (.ireturn, 1) := by decide +kernel
theorem s_0_761 {d : Nat} {Q : wQ} {L : List (Option Value)} {w : aw} {cn sn : Nat} {v : Int32} : wp d 0 Q 761 L [.int v] w cn sn = (narrow .boolean (.int v) = .int v ∧ Q (some (.int v)) w) := w_zreturn d_0_761 rfl
theorem d_0_762 : decode (mB 0) 762 = .ok (.aload_n 1, 1) := by decide +kernel
theorem s_0_762 {d : Nat} {Q : wQ} {L : List (Option Value)} {st : List Value} {w : aw} {cn sn : Nat} {a0 : Option Value} {v : Nat} : wp d 0 Q 762 (a0 :: some (.ref v) :: L) st w cn sn = wp d 0 Q 763 (a0 :: some (.ref v) :: L) (.ref v :: st) w cn sn := w_aload_n d_0_762 rfl
theorem s_0_762n {d : Nat} {Q : wQ} {L : List (Option Value)} {st : List Value} {w : aw} {cn sn : Nat} {a0 : Option Value} : wp d 0 Q 762 (a0 :: some .null :: L) st w cn sn = wp d 0 Q 763 (a0 :: some .null :: L) (.null :: st) w cn sn := w_aload_nN d_0_762 rfl
theorem d_0_763 : decode (mB 0) 763 = .ok (.aload_n 0, 1) := by decide +kernel
theorem s_0_763 {d : Nat} {Q : wQ} {L : List (Option Value)} {st : List Value} {w : aw} {cn sn : Nat} {v : Nat} : wp d 0 Q 763 (some (.ref v) :: L) st w cn sn = wp d 0 Q 764 (some (.ref v) :: L) (.ref v :: st) w cn sn := w_aload_n d_0_763 rfl
theorem s_0_763n {d : Nat} {Q : wQ} {L : List (Option Value)} {st : List Value} {w : aw} {cn sn : Nat}  : wp d 0 Q 763 (some .null :: L) st w cn sn = wp d 0 Q 764 (some .null :: L) (.null :: st) w cn sn := w_aload_nN d_0_763 rfl
theorem d_0_764 : decode (mB 0) 764 = .ok (.iload_n 3, 1) := by decide +kernel
theorem s_0_764 {d : Nat} {Q : wQ} {L : List (Option Value)} {st : List Value} {w : aw} {cn sn : Nat} {a0 a1 a2 : Option Value} {v : Int32} : wp d 0 Q 764 (a0 :: a1 :: a2 :: some (.int v) :: L) st w cn sn = wp d 0 Q 765 (a0 :: a1 :: a2 :: some (.int v) :: L) (.int v :: st) w cn sn := w_iload_n d_0_764 rfl
theorem d_0_765 : decode (mB 0) 765 = .ok (.iconst 1, 1) := by decide +kernel
theorem s_0_765 {d : Nat} {Q : wQ} {L : List (Option Value)} {st : List Value} {w : aw} {cn sn : Nat}  : wp d 0 Q 765 L st w cn sn = wp d 0 Q 766 L (.int 1 :: st) w cn sn := w_iconst d_0_765 (by decide)
theorem d_0_766 : decode (mB 0) 766 = .ok (.iadd, 1) := by decide +kernel
theorem s_0_766 {d : Nat} {Q : wQ} {L : List (Option Value)} {st : List Value} {w : aw} {cn sn : Nat} {a b : Int32} : wp d 0 Q 766 L (.int b :: .int a :: st) w cn sn = wp d 0 Q 767 L (.int (a + b) :: st) w cn sn := wp_row d_0_766 _ _ _ _ _
theorem d_0_767 : decode (mB 0) 767 = .ok (.iaload, 1) := by decide +kernel
theorem s_0_767 {d : Nat} {Q : wQ} {L : List (Option Value)} {st : List Value} {w : aw} {cn sn : Nat} {a : Nat} {i : Int32} : wp d 0 Q 767 L (.int i :: .ref a :: st) w cn sn = ((kd w a = 20 ∨ kd w a = 30) ∧ inR i (ln w a) ∧ wp d 0 Q 768 L (.int (ai w a i.toNatClampNeg) :: st) w cn sn) := wp_row d_0_767 _ _ _ _ _
theorem d_0_768 : decode (mB 0) 768 = .ok (.invokevirtual 90, 3) := by decide +kernel
theorem s_0_768 {d : Nat} {Q : wQ} {L : List (Option Value)} {st : List Value} {w : aw} {cn sn : Nat} {v0 : Value} {b : Nat} : wp d 0 Q 768 L (v0 :: .ref b :: st) w cn sn = (kd w b = 8 ∧ catS st ≤ 8 ∧ wpD d 97 [.ref b, v0] w (fun v w' => wp d 0 Q 771 L (v.toList ++ st) w' cn sn)) := w_virtual (As := [v0]) d_0_768 (by decide +kernel : cT (mO 0) 90 = some (0, 97)) rfl (by decide +kernel) rfl (by decide +kernel) rfl
theorem d_0_771 : decode (mB 0) 771 = .ok (.aload_n 2, 1) := by decide +kernel
theorem s_0_771 {d : Nat} {Q : wQ} {L : List (Option Value)} {st : List Value} {w : aw} {cn sn : Nat} {a0 a1 : Option Value} {v : Nat} : wp d 0 Q 771 (a0 :: a1 :: some (.ref v) :: L) st w cn sn = wp d 0 Q 772 (a0 :: a1 :: some (.ref v) :: L) (.ref v :: st) w cn sn := w_aload_n d_0_771 rfl
theorem s_0_771n {d : Nat} {Q : wQ} {L : List (Option Value)} {st : List Value} {w : aw} {cn sn : Nat} {a0 a1 : Option Value} : wp d 0 Q 771 (a0 :: a1 :: some .null :: L) st w cn sn = wp d 0 Q 772 (a0 :: a1 :: some .null :: L) (.null :: st) w cn sn := w_aload_nN d_0_771 rfl
theorem d_0_772 : decode (mB 0) 772 = .ok (.aload_n 0, 1) := by decide +kernel
theorem s_0_772 {d : Nat} {Q : wQ} {L : List (Option Value)} {st : List Value} {w : aw} {cn sn : Nat} {v : Nat} : wp d 0 Q 772 (some (.ref v) :: L) st w cn sn = wp d 0 Q 773 (some (.ref v) :: L) (.ref v :: st) w cn sn := w_aload_n d_0_772 rfl
theorem s_0_772n {d : Nat} {Q : wQ} {L : List (Option Value)} {st : List Value} {w : aw} {cn sn : Nat}  : wp d 0 Q 772 (some .null :: L) st w cn sn = wp d 0 Q 773 (some .null :: L) (.null :: st) w cn sn := w_aload_nN d_0_772 rfl
theorem d_0_773 : decode (mB 0) 773 = .ok (.iload_n 3, 1) := by decide +kernel
theorem s_0_773 {d : Nat} {Q : wQ} {L : List (Option Value)} {st : List Value} {w : aw} {cn sn : Nat} {a0 a1 a2 : Option Value} {v : Int32} : wp d 0 Q 773 (a0 :: a1 :: a2 :: some (.int v) :: L) st w cn sn = wp d 0 Q 774 (a0 :: a1 :: a2 :: some (.int v) :: L) (.int v :: st) w cn sn := w_iload_n d_0_773 rfl
theorem d_0_774 : decode (mB 0) 774 = .ok (.iconst 1, 1) := by decide +kernel
theorem s_0_774 {d : Nat} {Q : wQ} {L : List (Option Value)} {st : List Value} {w : aw} {cn sn : Nat}  : wp d 0 Q 774 L st w cn sn = wp d 0 Q 775 L (.int 1 :: st) w cn sn := w_iconst d_0_774 (by decide)
theorem d_0_775 : decode (mB 0) 775 = .ok (.iadd, 1) := by decide +kernel
theorem s_0_775 {d : Nat} {Q : wQ} {L : List (Option Value)} {st : List Value} {w : aw} {cn sn : Nat} {a b : Int32} : wp d 0 Q 775 L (.int b :: .int a :: st) w cn sn = wp d 0 Q 776 L (.int (a + b) :: st) w cn sn := wp_row d_0_775 _ _ _ _ _
theorem d_0_776 : decode (mB 0) 776 = .ok (.iaload, 1) := by decide +kernel
theorem s_0_776 {d : Nat} {Q : wQ} {L : List (Option Value)} {st : List Value} {w : aw} {cn sn : Nat} {a : Nat} {i : Int32} : wp d 0 Q 776 L (.int i :: .ref a :: st) w cn sn = ((kd w a = 20 ∨ kd w a = 30) ∧ inR i (ln w a) ∧ wp d 0 Q 777 L (.int (ai w a i.toNatClampNeg) :: st) w cn sn) := wp_row d_0_776 _ _ _ _ _
theorem d_0_777 : decode (mB 0) 777 = .ok (.invokevirtual 93, 3) := by decide +kernel
theorem s_0_777 {d : Nat} {Q : wQ} {L : List (Option Value)} {st : List Value} {w : aw} {cn sn : Nat} {v0 : Value} {b : Nat} : wp d 0 Q 777 L (v0 :: .ref b :: st) w cn sn = (kd w b = 9 ∧ catS st ≤ 8 ∧ wpD d 142 [.ref b, v0] w (fun v w' => wp d 0 Q 780 L (v.toList ++ st) w' cn sn)) := w_virtual (As := [v0]) d_0_777 (by decide +kernel : cT (mO 0) 93 = some (0, 142)) rfl (by decide +kernel) rfl (by decide +kernel) rfl
theorem d_0_780 : decode (mB 0) 780 = .ok (.if_icmp .eq 19, 3) := by decide +kernel
theorem s_0_780 {d : Nat} {Q : wQ} {L : List (Option Value)} {st : List Value} {w : aw} {cn sn : Nat} {a b : Int32} : wp d 0 Q 780 L (.int b :: .int a :: st) w cn sn = ((a = b → wp d 0 Q 799 L st w cn sn) ∧ (¬ a = b → wp d 0 Q 783 L st w cn sn)) := w_iceq d_0_780 (by decide)
theorem d_0_783 : decode (mB 0) 783 = .ok (.iconst 0, 1) := by decide +kernel
theorem s_0_783 {d : Nat} {Q : wQ} {L : List (Option Value)} {st : List Value} {w : aw} {cn sn : Nat}  : wp d 0 Q 783 L st w cn sn = wp d 0 Q 784 L (.int 0 :: st) w cn sn := w_iconst d_0_783 (by decide)
theorem d_0_784 : decode (mB 0) 784 = .ok (.ireturn, 1) := by decide +kernel
theorem s_0_784 {d : Nat} {Q : wQ} {L : List (Option Value)} {w : aw} {cn sn : Nat} {v : Int32} : wp d 0 Q 784 L [.int v] w cn sn = (narrow .boolean (.int v) = .int v ∧ Q (some (.int v)) w) := w_zreturn d_0_784 rfl
theorem d_0_785 : decode (mB 0) 785 = .ok (.aload_n 1, 1) := by decide +kernel
theorem s_0_785 {d : Nat} {Q : wQ} {L : List (Option Value)} {st : List Value} {w : aw} {cn sn : Nat} {a0 : Option Value} {v : Nat} : wp d 0 Q 785 (a0 :: some (.ref v) :: L) st w cn sn = wp d 0 Q 786 (a0 :: some (.ref v) :: L) (.ref v :: st) w cn sn := w_aload_n d_0_785 rfl
theorem s_0_785n {d : Nat} {Q : wQ} {L : List (Option Value)} {st : List Value} {w : aw} {cn sn : Nat} {a0 : Option Value} : wp d 0 Q 785 (a0 :: some .null :: L) st w cn sn = wp d 0 Q 786 (a0 :: some .null :: L) (.null :: st) w cn sn := w_aload_nN d_0_785 rfl
theorem d_0_786 : decode (mB 0) 786 = .ok (.invokevirtual 94, 3) := by decide +kernel
theorem s_0_786 {d : Nat} {Q : wQ} {L : List (Option Value)} {st : List Value} {w : aw} {cn sn : Nat} {b : Nat} : wp d 0 Q 786 L (.ref b :: st) w cn sn = (kd w b = 8 ∧ catS st ≤ 8 ∧ wpD d 98 [.ref b] w (fun v w' => wp d 0 Q 789 L (v.toList ++ st) w' cn sn)) := w_virtual (As := []) d_0_786 (by decide +kernel : cT (mO 0) 94 = some (0, 98)) rfl (by decide +kernel) rfl (by decide +kernel) rfl
theorem d_0_789 : decode (mB 0) 789 = .ok (.aload_n 2, 1) := by decide +kernel
theorem s_0_789 {d : Nat} {Q : wQ} {L : List (Option Value)} {st : List Value} {w : aw} {cn sn : Nat} {a0 a1 : Option Value} {v : Nat} : wp d 0 Q 789 (a0 :: a1 :: some (.ref v) :: L) st w cn sn = wp d 0 Q 790 (a0 :: a1 :: some (.ref v) :: L) (.ref v :: st) w cn sn := w_aload_n d_0_789 rfl
theorem s_0_789n {d : Nat} {Q : wQ} {L : List (Option Value)} {st : List Value} {w : aw} {cn sn : Nat} {a0 a1 : Option Value} : wp d 0 Q 789 (a0 :: a1 :: some .null :: L) st w cn sn = wp d 0 Q 790 (a0 :: a1 :: some .null :: L) (.null :: st) w cn sn := w_aload_nN d_0_789 rfl
theorem d_0_790 : decode (mB 0) 790 = .ok (.invokevirtual 98, 3) := by decide +kernel
theorem s_0_790 {d : Nat} {Q : wQ} {L : List (Option Value)} {st : List Value} {w : aw} {cn sn : Nat} {b : Nat} : wp d 0 Q 790 L (.ref b :: st) w cn sn = (kd w b = 9 ∧ catS st ≤ 8 ∧ wpD d 143 [.ref b] w (fun v w' => wp d 0 Q 793 L (v.toList ++ st) w' cn sn)) := w_virtual (As := []) d_0_790 (by decide +kernel : cT (mO 0) 98 = some (0, 143)) rfl (by decide +kernel) rfl (by decide +kernel) rfl
theorem d_0_793 : decode (mB 0) 793 = .ok (.lcmp, 1) := by decide +kernel
theorem s_0_793 {d : Nat} {Q : wQ} {L : List (Option Value)} {st : List Value} {w : aw} {cn sn : Nat} {a b : Int64} : wp d 0 Q 793 L (.long b :: .long a :: st) w cn sn = wp d 0 Q 794 L (.int (lg_cmp a b) :: st) w cn sn := wp_row d_0_793 _ _ _ _ _
theorem d_0_794 : decode (mB 0) 794 = .ok (.ifCond .eq 5, 3) := by decide +kernel
theorem s_0_794 {d : Nat} {Q : wQ} {L : List (Option Value)} {st : List Value} {w : aw} {cn sn : Nat} {x : Int32} : wp d 0 Q 794 L (.int x :: st) w cn sn = ((x = 0 → wp d 0 Q 799 L st w cn sn) ∧ (¬ x = 0 → wp d 0 Q 797 L st w cn sn)) := w_ifeq d_0_794 (by decide)
theorem d_0_797 : decode (mB 0) 797 = .ok (.iconst 0, 1) := by decide +kernel
theorem s_0_797 {d : Nat} {Q : wQ} {L : List (Option Value)} {st : List Value} {w : aw} {cn sn : Nat}  : wp d 0 Q 797 L st w cn sn = wp d 0 Q 798 L (.int 0 :: st) w cn sn := w_iconst d_0_797 (by decide)
theorem d_0_798 : decode (mB 0) 798 = .ok (.ireturn, 1) := by decide +kernel
theorem s_0_798 {d : Nat} {Q : wQ} {L : List (Option Value)} {w : aw} {cn sn : Nat} {v : Int32} : wp d 0 Q 798 L [.int v] w cn sn = (narrow .boolean (.int v) = .int v ∧ Q (some (.int v)) w) := w_zreturn d_0_798 rfl
theorem d_0_799 : decode (mB 0) 799 = .ok (.iinc 3 6, 3) := by decide +kernel
theorem s_0_799 {d : Nat} {Q : wQ} {L : List (Option Value)} {st : List Value} {w : aw} {cn sn : Nat} {a0 a1 a2 : Option Value} {v : Int32} : wp d 0 Q 799 (a0 :: a1 :: a2 :: some (.int v) :: L) st w cn sn = wp d 0 Q 802 (a0 :: a1 :: clr a2 :: some (.int (v + 6)) :: L) st w cn sn := w_iinc d_0_799 rfl (by decide) rfl
theorem d_0_802 : decode (mB 0) 802 = .ok (.goto (-784), 3) := by decide +kernel
theorem s_0_802 {d : Nat} {Q : wQ} {L : List (Option Value)} {st : List Value} {w : aw} {cn sn : Nat}  : wp d 0 Q 802 L st w cn sn = wp d 0 Q 18 L st w cn sn := w_goto d_0_802 (by decide)
theorem d_0_805 : decode (mB 0) 805 = .ok (.iconst 1, 1) := by decide +kernel
theorem s_0_805 {d : Nat} {Q : wQ} {L : List (Option Value)} {st : List Value} {w : aw} {cn sn : Nat}  : wp d 0 Q 805 L st w cn sn = wp d 0 Q 806 L (.int 1 :: st) w cn sn := w_iconst d_0_805 (by decide)
theorem d_0_806 : decode (mB 0) 806 = .ok (.ireturn, 1) := by decide +kernel
theorem s_0_806 {d : Nat} {Q : wQ} {L : List (Option Value)} {w : aw} {cn sn : Nat} {v : Int32} : wp d 0 Q 806 L [.int v] w cn sn = (narrow .boolean (.int v) = .int v ∧ Q (some (.int v)) w) := w_zreturn d_0_806 rfl
