theorem UB.rot {u : us} {r : Bool} (h : UB u) : UB (i_rot u r) := by
  rw [i_rot_eq]
  have := rotN_lt (r := r) (show u.1 2 * 4096 + u.1 1 < 8192 by have := h.2.1; have := h.2.2.1; omega)
  exact (h.S2 (by omega)).S1 (Nat.mod_lt _ (by decide))
theorem xor12 {a : Nat} (h : a < 4096) : nI a ^^^ 4095 = nI (4095 - a) := by
  rw [show (4095 : Int32) = nI 4095 from rfl, xor2]
  congr 1
  apply Nat.eq_of_testBit_eq
  intro i
  rw [Nat.testBit_xor, show (4095 : Nat) = 2 ^ 12 - 1 from rfl, show 2 ^ 12 - 1 - a = 2 ^ 12 - (a + 1) by omega, Nat.testBit_two_pow_sub_succ (x := a) (n := 12) h, Nat.testBit_two_pow_sub_one]
  by_cases hi : i < 12
  · simp [hi]
  · have : a.testBit i = false := Nat.testBit_lt_two_pow (Nat.lt_of_lt_of_le (show a < 2 ^ 12 from h) (Nat.pow_le_pow_right (by decide) (show 12 ≤ i by omega)))
    simp [hi, this]
theorem or12 {a c : Nat} (h1 : a < 4096) (h2 : c < 4096) : a ||| c < 4096 := Nat.or_lt_two_pow (n := 12) h1 h2
theorem sp_U_operate {d : Nat} {w : aw} {b n x : Nat} {u : us} {Q : wQ} (hu : UAt w b n u) (hB : UB u) (h : ∀ w', UAt w' b n (i_op u x) → FrU w w' b → Q none w') : wpD (d + 2) 67 [.ref b, .int (nI x)] w Q := by
  refine ⟨Nat.le_of_ble_eq_true rfl, ?_⟩
  show wp (d + 1) 67 Q 0 [some (.ref b), some (.int (nI x)), none, none] [] w 0 0
  have k72 : ∀ w' v, UAt w' b n v → UB v → FrU w w' b → (if x.testBit 3 = x.testBit 2 then v else if x.testBit 1 then i_rot (i_rot v (x.testBit 3)) (x.testBit 3) else i_rot v (x.testBit 3)) = i_op u x → wp (d + 1) 67 Q 72 [some (.ref b), some (.int (nI x)), none, none] [] w' 0 0 := by
    intro w' v hv hBv hF he
    have hkd := hv.1
    have k127 : ∀ w2 l2 l3, Q none w2 → wp (d + 1) 67 Q 127 [some (.ref b), some (.int (nI x)), l2, l3] [] w2 0 0 := by
      intro w2 l2 l3 hq
      simp only [↓s_67_127]
      exact hq
    have k113 : ∀ (r : Bool) (pl : Nat) l2 l3, x.testBit 3 ≠ x.testBit 2 → x.testBit 3 = r → ((r = true ∧ pl = 1) ∨ (r = false ∧ pl = 12)) → wp (d + 1) 67 Q 113 [some (.ref b), some (.int (nI x)), l2, l3] [.int (nI pl), .ref b] w' 0 0 := by
      intro r pl l2 l3 hne hr hpl
      rw [if_neg hne, hr] at he
      simp only [↓s_67_113, ↓s_67_114, ↓s_67_115, ↓s_67_116, ↓s_67_119, ↓s_67_120, ↓s_67_123, ↓s_67_124, kd_uF, ln_uF, ai_uF, al_uF, ar_uF, zs_uF, fd_uF, kd_uA, ln_uA, fd_uA, al_uA, ar_uA, zs_uA, ai_uA, kd_uL, ln_uL, fd_uL, ai_uL, ar_uL, zs_uL, al_uL, kd_uR, ln_uR, fd_uR, ai_uR, al_uR, zs_uR, ar_uR, true_and, and_true, Option.toList_some, Option.toList_none, List.cons_append, List.nil_append, catS_nil, catS_int, catS_ref, catS_null, catS_long, cat_int, cat_ref, cat_null, Nat.reduceEqDiff, Nat.reduceLeDiff, Nat.reduceAdd, false_and, and_false, if_false, if_true, ite_true, ite_false, true_or, or_true, false_or, or_false, and_self, forall_const, true_implies, reduceCtorEq, clr_int, clr_ref, clr_null, clr_none, clr_long, va_rf_some, va_rf_none, bz1, hkd]
      refine ⟨fun q => ?_, fun q => ?_⟩
      · refine sp_U_turn (ti := 1) hv hBv.2.1 hBv.2.2.1 hpl (Or.inl rfl) (fun w2 hu2 hF2 => ?_)
        refine k127 _ _ _ (h _ ?_ (hF.tr hF2))
        rw [if_neg (by decide)] at hu2
        rw [q, if_neg (by decide)] at he
        rw [← he]; exact hu2
      · refine sp_U_turn (ti := 2) hv hBv.2.1 hBv.2.2.1 hpl (Or.inr rfl) (fun w2 hu2 hF2 => ?_)
        refine k127 _ _ _ (h _ ?_ (hF.tr hF2))
        rw [if_pos rfl] at hu2
        rw [if_pos (by simpa using q)] at he
        rw [← he]; exact hu2
    have k96 : ∀ (r l : Bool) l3, x.testBit 3 = r → x.testBit 2 = l → wp (d + 1) 67 Q 96 [some (.ref b), some (.int (nI x)), some (.int (nI r.toNat)), l3] [.int (nI l.toNat)] w' 0 0 := by
      intro r l l3 hr hl
      simp only [↓s_67_96, ↓s_67_97, ↓s_67_98, ↓s_67_99, ↓s_67_102, ↓s_67_103, ↓s_67_104, ↓s_67_107, ↓s_67_108, ↓s_67_111, kd_uF, ln_uF, ai_uF, al_uF, ar_uF, zs_uF, fd_uF, kd_uA, ln_uA, fd_uA, al_uA, ar_uA, zs_uA, ai_uA, kd_uL, ln_uL, fd_uL, ai_uL, ar_uL, zs_uL, al_uL, kd_uR, ln_uR, fd_uR, ai_uR, al_uR, zs_uR, ar_uR, true_and, and_true, Option.toList_some, Option.toList_none, List.cons_append, List.nil_append, catS_nil, catS_int, catS_ref, catS_null, catS_long, cat_int, cat_ref, cat_null, Nat.reduceEqDiff, Nat.reduceLeDiff, Nat.reduceAdd, false_and, and_false, if_false, if_true, ite_true, ite_false, true_or, or_true, false_or, or_false, and_self, forall_const, true_implies, reduceCtorEq, clr_int, clr_ref, clr_null, clr_none, clr_long, va_rf_some, va_rf_none]
      refine ⟨fun q => k127 _ _ _ (h _ ?_ hF), fun q => ⟨fun q2 => ?_, fun q2 => ?_⟩⟩
      · have : r = l := by cases r <;> cases l <;> first | rfl | exact absurd q (by decide)
        rw [← he, hr, hl, this, if_pos rfl]; exact hv
      · have : r = false := by cases r <;> first | rfl | exact absurd q2 (by decide)
        subst this
        exact k113 false 12 _ _ (by rw [hr, hl]; intro e; subst e; exact q rfl) hr (Or.inr ⟨rfl, rfl⟩)
      · have : r = true := by cases r <;> first | rfl | exact absurd rfl q2
        subst this
        exact k113 true 1 _ _ (by rw [hr, hl]; intro e; subst e; exact q rfl) hr (Or.inl ⟨rfl, rfl⟩)
    have k84 : ∀ (r : Bool), x.testBit 3 = r → wp (d + 1) 67 Q 84 [some (.ref b), some (.int (nI x)), none, none] [.int (nI r.toNat)] w' 0 0 := by
      intro r hr
      simp only [↓s_67_84, ↓s_67_85, ↓s_67_86, ↓s_67_87, ↓s_67_88, ↓s_67_91, ↓s_67_92, ↓s_67_95, kd_uF, ln_uF, ai_uF, al_uF, ar_uF, zs_uF, fd_uF, kd_uA, ln_uA, fd_uA, al_uA, ar_uA, zs_uA, ai_uA, kd_uL, ln_uL, fd_uL, ai_uL, ar_uL, zs_uL, al_uL, kd_uR, ln_uR, fd_uR, ai_uR, al_uR, zs_uR, ar_uR, true_and, and_true, Option.toList_some, Option.toList_none, List.cons_append, List.nil_append, catS_nil, catS_int, catS_ref, catS_null, catS_long, cat_int, cat_ref, cat_null, Nat.reduceEqDiff, Nat.reduceLeDiff, Nat.reduceAdd, false_and, and_false, if_false, if_true, ite_true, ite_false, true_or, or_true, false_or, or_false, and_self, forall_const, true_implies, reduceCtorEq, clr_int, clr_ref, clr_null, clr_none, clr_long, va_rf_some, va_rf_none, bz2]
      exact ⟨fun q => k96 r false _ hr q, fun q => k96 r true _ hr (by simpa using q)⟩
    simp only [↓s_67_72, ↓s_67_73, ↓s_67_75, ↓s_67_76, ↓s_67_79, ↓s_67_80, ↓s_67_83, kd_uF, ln_uF, ai_uF, al_uF, ar_uF, zs_uF, fd_uF, kd_uA, ln_uA, fd_uA, al_uA, ar_uA, zs_uA, ai_uA, kd_uL, ln_uL, fd_uL, ai_uL, ar_uL, zs_uL, al_uL, kd_uR, ln_uR, fd_uR, ai_uR, al_uR, zs_uR, ar_uR, true_and, and_true, Option.toList_some, Option.toList_none, List.cons_append, List.nil_append, catS_nil, catS_int, catS_ref, catS_null, catS_long, cat_int, cat_ref, cat_null, Nat.reduceEqDiff, Nat.reduceLeDiff, Nat.reduceAdd, false_and, and_false, if_false, if_true, ite_true, ite_false, true_or, or_true, false_or, or_false, and_self, forall_const, true_implies, reduceCtorEq, clr_int, clr_ref, clr_null, clr_none, clr_long, va_rf_some, va_rf_none, bz3]
    exact ⟨fun q => k84 false q, fun q => k84 true (by simpa using q)⟩
  have k61 : ∀ w' v, UAt w' b n v → UB v → FrU w w' b → (let u := if x.testBit 0 then i_sum v (v.1 1 + 1) else v; if x.testBit 3 = x.testBit 2 then u else if x.testBit 1 then i_rot (i_rot u (x.testBit 3)) (x.testBit 3) else i_rot u (x.testBit 3)) = i_op u x → wp (d + 1) 67 Q 61 [some (.ref b), some (.int (nI x)), none, none] [] w' 0 0 := by
    intro w' v hv hBv hF he
    have hkd := hv.1
    dsimp only at he
    simp only [↓s_67_61, ↓s_67_62, ↓s_67_63, ↓s_67_64, ↓s_67_67, ↓s_67_68, ↓s_67_69, kd_uF, ln_uF, ai_uF, al_uF, ar_uF, zs_uF, fd_uF, kd_uA, ln_uA, fd_uA, al_uA, ar_uA, zs_uA, ai_uA, kd_uL, ln_uL, fd_uL, ai_uL, ar_uL, zs_uL, al_uL, kd_uR, ln_uR, fd_uR, ai_uR, al_uR, zs_uR, ar_uR, true_and, and_true, Option.toList_some, Option.toList_none, List.cons_append, List.nil_append, catS_nil, catS_int, catS_ref, catS_null, catS_long, cat_int, cat_ref, cat_null, Nat.reduceEqDiff, Nat.reduceLeDiff, Nat.reduceAdd, false_and, and_false, if_false, if_true, ite_true, ite_false, true_or, or_true, false_or, or_false, and_self, forall_const, true_implies, reduceCtorEq, clr_int, clr_ref, clr_null, clr_none, clr_long, va_rf_some, va_rf_none, bz0, hkd]
    refine ⟨fun q => k72 w' v hv hBv hF (by rw [q] at he; exact he), fun q => sp_U_add (x := 1) hv hBv.2.1 hBv.2.2.1 (by decide) (fun w2 hu2 hF2 => ?_)⟩
    have q' : x.testBit 0 = true := by simpa using q
    exact k72 w2 _ hu2 hBv.sum (hF.tr hF2) (by rw [q'] at he; exact he)
  have k44 : ∀ w' v, UAt w' b n v → UB v → FrU w w' b → (let u := if x.testBit 4 then uS v 2 (1 - v.1 2) else v; let u := if x.testBit 0 then i_sum u (u.1 1 + 1) else u; if x.testBit 3 = x.testBit 2 then u else if x.testBit 1 then i_rot (i_rot u (x.testBit 3)) (x.testBit 3) else i_rot u (x.testBit 3)) = i_op u x → wp (d + 1) 67 Q 44 [some (.ref b), some (.int (nI x)), none, none] [] w' 0 0 := by
    intro w' v hv hBv hF he
    have hv0 := hv
    obtain ⟨h0, h1, h2, h3, h4, h5, h6, s0, s1, s2, s3, s4, s5, s6, s7, s8, s9, m1, m2, m3, f1, f2, f3, p1, p2, p3, li, lo⟩ := hv
    simp only [↓s_67_44, ↓s_67_45, ↓s_67_47, ↓s_67_48, ↓s_67_51, ↓s_67_52, ↓s_67_53, ↓s_67_56, ↓s_67_57, ↓s_67_58, kd_uF, ln_uF, ai_uF, al_uF, ar_uF, zs_uF, fd_uF, kd_uA, ln_uA, fd_uA, al_uA, ar_uA, zs_uA, ai_uA, kd_uL, ln_uL, fd_uL, ai_uL, ar_uL, zs_uL, al_uL, kd_uR, ln_uR, fd_uR, ai_uR, al_uR, zs_uR, ar_uR, true_and, and_true, Option.toList_some, Option.toList_none, List.cons_append, List.nil_append, catS_nil, catS_int, catS_ref, catS_null, catS_long, cat_int, cat_ref, cat_null, Nat.reduceEqDiff, Nat.reduceLeDiff, Nat.reduceAdd, false_and, and_false, if_false, if_true, ite_true, ite_false, true_or, or_true, false_or, or_false, and_self, forall_const, true_implies, reduceCtorEq, clr_int, clr_ref, clr_null, clr_none, clr_long, va_rf_some, va_rf_none, bz4, h0, s2]
    rw [xor1 hBv.2.2.1]
    refine ⟨fun q => k61 w' v hv0 hBv hF (by rw [q] at he; exact he), fun q => k61 _ _ hv0.S2 (hBv.S2 (by omega)) hF.S2 ?_⟩
    have q' : x.testBit 4 = true := by simpa using q
    rw [q'] at he; exact he
  have k25 : ∀ w' v, UAt w' b n v → UB v → FrU w w' b → (let u := if x.testBit 5 then uS v 1 (4095 - v.1 1) else v; let u := if x.testBit 4 then uS u 2 (1 - u.1 2) else u; let u := if x.testBit 0 then i_sum u (u.1 1 + 1) else u; if x.testBit 3 = x.testBit 2 then u else if x.testBit 1 then i_rot (i_rot u (x.testBit 3)) (x.testBit 3) else i_rot u (x.testBit 3)) = i_op u x → wp (d + 1) 67 Q 25 [some (.ref b), some (.int (nI x)), none, none] [] w' 0 0 := by
    intro w' v hv hBv hF he
    have hv0 := hv
    obtain ⟨h0, h1, h2, h3, h4, h5, h6, s0, s1, s2, s3, s4, s5, s6, s7, s8, s9, m1, m2, m3, f1, f2, f3, p1, p2, p3, li, lo⟩ := hv
    simp only [↓s_67_25, ↓s_67_26, ↓s_67_28, ↓s_67_29, ↓s_67_32, ↓s_67_33, ↓s_67_34, ↓s_67_37, ↓s_67_40, ↓s_67_41, kd_uF, ln_uF, ai_uF, al_uF, ar_uF, zs_uF, fd_uF, kd_uA, ln_uA, fd_uA, al_uA, ar_uA, zs_uA, ai_uA, kd_uL, ln_uL, fd_uL, ai_uL, ar_uL, zs_uL, al_uL, kd_uR, ln_uR, fd_uR, ai_uR, al_uR, zs_uR, ar_uR, true_and, and_true, Option.toList_some, Option.toList_none, List.cons_append, List.nil_append, catS_nil, catS_int, catS_ref, catS_null, catS_long, cat_int, cat_ref, cat_null, Nat.reduceEqDiff, Nat.reduceLeDiff, Nat.reduceAdd, false_and, and_false, if_false, if_true, ite_true, ite_false, true_or, or_true, false_or, or_false, and_self, forall_const, true_implies, reduceCtorEq, clr_int, clr_ref, clr_null, clr_none, clr_long, va_rf_some, va_rf_none, bz5, h0, s1]
    rw [xor12 hBv.2.1]
    refine ⟨fun q => k44 w' v hv0 hBv hF (by rw [q] at he; exact he), fun q => k44 _ _ hv0.S1 (hBv.S1 (by omega)) hF.S1 ?_⟩
    have q' : x.testBit 5 = true := by simpa using q
    rw [q'] at he; exact he
  have k13 : ∀ w' v, UAt w' b n v → UB v → FrU w w' b → (let u := if x.testBit 6 then uS v 2 0 else v; let u := if x.testBit 5 then uS u 1 (4095 - u.1 1) else u; let u := if x.testBit 4 then uS u 2 (1 - u.1 2) else u; let u := if x.testBit 0 then i_sum u (u.1 1 + 1) else u; if x.testBit 3 = x.testBit 2 then u else if x.testBit 1 then i_rot (i_rot u (x.testBit 3)) (x.testBit 3) else i_rot u (x.testBit 3)) = i_op u x → wp (d + 1) 67 Q 13 [some (.ref b), some (.int (nI x)), none, none] [] w' 0 0 := by
    intro w' v hv hBv hF he
    have hkd := hv.1
    simp only [↓s_67_13, ↓s_67_14, ↓s_67_16, ↓s_67_17, ↓s_67_20, ↓s_67_21, ↓s_67_22, kd_uF, ln_uF, ai_uF, al_uF, ar_uF, zs_uF, fd_uF, kd_uA, ln_uA, fd_uA, al_uA, ar_uA, zs_uA, ai_uA, kd_uL, ln_uL, fd_uL, ai_uL, ar_uL, zs_uL, al_uL, kd_uR, ln_uR, fd_uR, ai_uR, al_uR, zs_uR, ar_uR, true_and, and_true, Option.toList_some, Option.toList_none, List.cons_append, List.nil_append, catS_nil, catS_int, catS_ref, catS_null, catS_long, cat_int, cat_ref, cat_null, Nat.reduceEqDiff, Nat.reduceLeDiff, Nat.reduceAdd, false_and, and_false, if_false, if_true, ite_true, ite_false, true_or, or_true, false_or, or_false, and_self, forall_const, true_implies, reduceCtorEq, clr_int, clr_ref, clr_null, clr_none, clr_long, va_rf_some, va_rf_none, bz6, hkd]
    refine ⟨fun q => k25 w' v hv hBv hF (by rw [q] at he; exact he), fun q => k25 _ _ hv.S2 (hBv.S2 (by decide)) hF.S2 ?_⟩
    have q' : x.testBit 6 = true := by simpa using q
    rw [q'] at he; exact he
  have hkd := hu.1
  simp only [↓s_67_0, ↓s_67_1, ↓s_67_4, ↓s_67_5, ↓s_67_8, ↓s_67_9, ↓s_67_10, kd_uF, ln_uF, ai_uF, al_uF, ar_uF, zs_uF, fd_uF, kd_uA, ln_uA, fd_uA, al_uA, ar_uA, zs_uA, ai_uA, kd_uL, ln_uL, fd_uL, ai_uL, ar_uL, zs_uL, al_uL, kd_uR, ln_uR, fd_uR, ai_uR, al_uR, zs_uR, ar_uR, true_and, and_true, Option.toList_some, Option.toList_none, List.cons_append, List.nil_append, catS_nil, catS_int, catS_ref, catS_null, catS_long, cat_int, cat_ref, cat_null, Nat.reduceEqDiff, Nat.reduceLeDiff, Nat.reduceAdd, false_and, and_false, if_false, if_true, ite_true, ite_false, true_or, or_true, false_or, or_false, and_self, forall_const, true_implies, reduceCtorEq, clr_int, clr_ref, clr_null, clr_none, clr_long, va_rf_some, va_rf_none, bz7, hkd]
  refine ⟨fun q => k13 w u hu hB FrU.rf (by unfold i_op; rw [q]; rfl), fun q => k13 _ _ hu.S1 (hB.S1 (by decide)) FrU.rf.S1 ?_⟩
  have q' : x.testBit 7 = true := by simpa using q
  unfold i_op; rw [q']; rfl
theorem sp_U_test {d : Nat} {w : aw} {b n x : Nat} {u : us} {Q : wQ} (hu : UAt w b n u) (hB : UB u) (h : ∀ w', UAt w' b n (i_test u x) → FrU w w' b → Q none w') : wpD (d + 2) 69 [.ref b, .int (nI x)] w Q := by
  refine ⟨Nat.le_of_ble_eq_true rfl, ?_⟩
  show wp (d + 1) 69 Q 0 [some (.ref b), some (.int (nI x)), none, none] [] w 0 0
  have k117 : ∀ w2 l2 l3, Q none w2 → wp (d + 1) 69 Q 117 [some (.ref b), some (.int (nI x)), l2, l3] [] w2 0 0 := by
    intro w2 l2 l3 hq
    simp only [↓s_69_117]
    exact hq
  have k106 : ∀ w' v l2 l3, UAt w' b n v → FrU w w' b → (if x.testBit 1 then uS v 3 0 else v) = i_test u x → wp (d + 1) 69 Q 106 [some (.ref b), some (.int (nI x)), l2, l3] [] w' 0 0 := by
    intro w' v l2 l3 hv hF he
    have hkd := hv.1
    simp only [↓s_69_106, ↓s_69_107, ↓s_69_108, ↓s_69_109, ↓s_69_112, ↓s_69_113, ↓s_69_114, kd_uF, ln_uF, ai_uF, al_uF, ar_uF, zs_uF, fd_uF, kd_uA, ln_uA, fd_uA, al_uA, ar_uA, zs_uA, ai_uA, kd_uL, ln_uL, fd_uL, ai_uL, ar_uL, zs_uL, al_uL, kd_uR, ln_uR, fd_uR, ai_uR, al_uR, zs_uR, ar_uR, true_and, and_true, Option.toList_some, Option.toList_none, List.cons_append, List.nil_append, catS_nil, catS_int, catS_ref, catS_null, catS_long, cat_int, cat_ref, cat_null, Nat.reduceEqDiff, Nat.reduceLeDiff, Nat.reduceAdd, false_and, and_false, if_false, if_true, ite_true, ite_false, true_or, or_true, false_or, or_false, and_self, forall_const, true_implies, reduceCtorEq, clr_int, clr_ref, clr_null, clr_none, clr_long, va_rf_some, va_rf_none, bz1, hkd]
    refine ⟨fun q => k117 _ _ _ (h _ (by rw [q] at he; rw [← he]; exact hv) hF), fun q => k117 _ _ _ (h _ ?_ hF.S3)⟩
    have q' : x.testBit 1 = true := by simpa using q
    rw [q'] at he; rw [← he]; exact hv.S3
  have k87 : ∀ w' v l2 l3, UAt w' b n v → UB v → FrU w w' b → (let u := if x.testBit 2 then uS v 1 (v.1 1 ||| v.1 5) else v; if x.testBit 1 then uS u 3 0 else u) = i_test u x → wp (d + 1) 69 Q 87 [some (.ref b), some (.int (nI x)), l2, l3] [] w' 0 0 := by
    intro w' v l2 l3 hv hBv hF he
    have hv0 := hv
    obtain ⟨h0, h1, h2, h3, h4, h5, h6, s0, s1, s2, s3, s4, s5, s6, s7, s8, s9, m1, m2, m3, f1, f2, f3, p1, p2, p3, li, lo⟩ := hv
    simp only [↓s_69_87, ↓s_69_88, ↓s_69_89, ↓s_69_90, ↓s_69_93, ↓s_69_94, ↓s_69_95, ↓s_69_98, ↓s_69_99, ↓s_69_102, ↓s_69_103, kd_uF, ln_uF, ai_uF, al_uF, ar_uF, zs_uF, fd_uF, kd_uA, ln_uA, fd_uA, al_uA, ar_uA, zs_uA, ai_uA, kd_uL, ln_uL, fd_uL, ai_uL, ar_uL, zs_uL, al_uL, kd_uR, ln_uR, fd_uR, ai_uR, al_uR, zs_uR, ar_uR, true_and, and_true, Option.toList_some, Option.toList_none, List.cons_append, List.nil_append, catS_nil, catS_int, catS_ref, catS_null, catS_long, cat_int, cat_ref, cat_null, Nat.reduceEqDiff, Nat.reduceLeDiff, Nat.reduceAdd, false_and, and_false, if_false, if_true, ite_true, ite_false, true_or, or_true, false_or, or_false, and_self, forall_const, true_implies, reduceCtorEq, clr_int, clr_ref, clr_null, clr_none, clr_long, va_rf_some, va_rf_none, bz2, h0, s1, s5]
    rw [or2]
    refine ⟨fun q => k106 w' v _ _ hv0 hF (by rw [q] at he; exact he), fun q => k106 _ _ _ _ hv0.S1 hF.S1 ?_⟩
    have q' : x.testBit 2 = true := by simpa using q
    rw [q'] at he; exact he
  have k74 : ∀ w' v l2 l3, UAt w' b n v → UB v → FrU w w' b → (let u := if x.testBit 7 then uS v 1 0 else v; let u := if x.testBit 2 then uS u 1 (u.1 1 ||| u.1 5) else u; if x.testBit 1 then uS u 3 0 else u) = i_test u x → wp (d + 1) 69 Q 74 [some (.ref b), some (.int (nI x)), l2, l3] [] w' 0 0 := by
    intro w' v l2 l3 hv hBv hF he
    have hkd := hv.1
    simp only [↓s_69_74, ↓s_69_75, ↓s_69_78, ↓s_69_79, ↓s_69_82, ↓s_69_83, ↓s_69_84, kd_uF, ln_uF, ai_uF, al_uF, ar_uF, zs_uF, fd_uF, kd_uA, ln_uA, fd_uA, al_uA, ar_uA, zs_uA, ai_uA, kd_uL, ln_uL, fd_uL, ai_uL, ar_uL, zs_uL, al_uL, kd_uR, ln_uR, fd_uR, ai_uR, al_uR, zs_uR, ar_uR, true_and, and_true, Option.toList_some, Option.toList_none, List.cons_append, List.nil_append, catS_nil, catS_int, catS_ref, catS_null, catS_long, cat_int, cat_ref, cat_null, Nat.reduceEqDiff, Nat.reduceLeDiff, Nat.reduceAdd, false_and, and_false, if_false, if_true, ite_true, ite_false, true_or, or_true, false_or, or_false, and_self, forall_const, true_implies, reduceCtorEq, clr_int, clr_ref, clr_null, clr_none, clr_long, va_rf_some, va_rf_none, bz7, hkd]
    refine ⟨fun q => k87 w' v _ _ hv hBv hF (by rw [q] at he; exact he), fun q => k87 _ _ _ _ hv.S1 (hBv.S1 (by decide)) hF.S1 ?_⟩
    have q' : x.testBit 7 = true := by simpa using q
    rw [q'] at he; exact he
  have k64 : ∀ (so wn : Bool) l3, i_cond u x = so → x.testBit 3 = wn → wp (d + 1) 69 Q 64 [some (.ref b), some (.int (nI x)), some (.int (nI so.toNat)), l3] [.int (nI wn.toNat)] w 0 0 := by
    intro so wn l3 hso hwn
    have hkd := hu.1
    simp only [↓s_69_64, ↓s_69_65, ↓s_69_66, ↓s_69_67, ↓s_69_70, ↓s_69_71, kd_uF, ln_uF, ai_uF, al_uF, ar_uF, zs_uF, fd_uF, kd_uA, ln_uA, fd_uA, al_uA, ar_uA, zs_uA, ai_uA, kd_uL, ln_uL, fd_uL, ai_uL, ar_uL, zs_uL, al_uL, kd_uR, ln_uR, fd_uR, ai_uR, al_uR, zs_uR, ar_uR, true_and, and_true, Option.toList_some, Option.toList_none, List.cons_append, List.nil_append, catS_nil, catS_int, catS_ref, catS_null, catS_long, cat_int, cat_ref, cat_null, Nat.reduceEqDiff, Nat.reduceLeDiff, Nat.reduceAdd, false_and, and_false, if_false, if_true, ite_true, ite_false, true_or, or_true, false_or, or_false, and_self, forall_const, true_implies, reduceCtorEq, clr_int, clr_ref, clr_null, clr_none, clr_long, va_rf_some, va_rf_none, hkd]
    refine ⟨fun q => k74 w u _ _ hu hB FrU.rf ?_, fun q => sp_U_skip hu hB.1 (fun w2 hu2 hF2 => k74 w2 _ _ _ hu2 hB.skip hF2 ?_)⟩
    · have : so = wn := by cases so <;> cases wn <;> first | rfl | exact absurd q (by decide)
      unfold i_test i_skipIf
      rw [hso, hwn, this]
      simp
    · have : so ≠ wn := fun e => q (by rw [e])
      unfold i_test i_skipIf
      rw [hso, hwn]
      simp [this]
  have k51 : ∀ (so : Bool), i_cond u x = so → wp (d + 1) 69 Q 51 [some (.ref b), some (.int (nI x)), none, none] [.int (nI so.toNat)] w 0 0 := by
    intro so hso
    simp only [↓s_69_51, ↓s_69_52, ↓s_69_53, ↓s_69_55, ↓s_69_56, ↓s_69_59, ↓s_69_60, ↓s_69_63, kd_uF, ln_uF, ai_uF, al_uF, ar_uF, zs_uF, fd_uF, kd_uA, ln_uA, fd_uA, al_uA, ar_uA, zs_uA, ai_uA, kd_uL, ln_uL, fd_uL, ai_uL, ar_uL, zs_uL, al_uL, kd_uR, ln_uR, fd_uR, ai_uR, al_uR, zs_uR, ar_uR, true_and, and_true, Option.toList_some, Option.toList_none, List.cons_append, List.nil_append, catS_nil, catS_int, catS_ref, catS_null, catS_long, cat_int, cat_ref, cat_null, Nat.reduceEqDiff, Nat.reduceLeDiff, Nat.reduceAdd, false_and, and_false, if_false, if_true, ite_true, ite_false, true_or, or_true, false_or, or_false, and_self, forall_const, true_implies, reduceCtorEq, clr_int, clr_ref, clr_null, clr_none, clr_long, va_rf_some, va_rf_none, bz3]
    exact ⟨fun q => k64 so false _ hso q, fun q => k64 so true _ hso (by simpa using q)⟩
  have k46 : i_cond u x = true → wp (d + 1) 69 Q 46 [some (.ref b), some (.int (nI x)), none, none] [] w 0 0 := by
    intro hq
    simp only [↓s_69_46, ↓s_69_47]
    exact k51 true hq
  have k50 : i_cond u x = false → wp (d + 1) 69 Q 50 [some (.ref b), some (.int (nI x)), none, none] [] w 0 0 := by
    intro hq
    simp only [↓s_69_50]
    exact k51 false hq
  have hu0 := hu
  obtain ⟨h0, h1, h2, h3, h4, h5, h6, s0, s1, s2, s3, s4, s5, s6, s7, s8, s9, m1, m2, m3, f1, f2, f3, p1, p2, p3, li, lo⟩ := hu
  have c1 : (nI (u.1 2) = 1) ↔ u.1 2 = 1 := by rw [show (1 : Int32) = nI 1 from rfl, nI_eq (by have := hB.2.2.1; omega) (by decide)]
  have c2 : (nI (u.1 1) = 0) ↔ u.1 1 = 0 := by rw [show (0 : Int32) = nI 0 from rfl, nI_eq (by have := hB.2.1; omega) (by decide)]
  have c3 : ((2048 : Int32) ≤ nI (u.1 1)) ↔ 2048 ≤ u.1 1 := by rw [show (2048 : Int32) = nI 2048 from rfl, nI_leI (by decide) (by have := hB.2.1; omega)]
  have k31 : (x.testBit 6 && decide (2048 ≤ u.1 1)) = false → (x.testBit 5 && decide (u.1 1 = 0)) = false → wp (d + 1) 69 Q 31 [some (.ref b), some (.int (nI x)), none, none] [] w 0 0 := by
    intro g1 g2
    simp only [↓s_69_31, ↓s_69_32, ↓s_69_34, ↓s_69_35, ↓s_69_38, ↓s_69_39, ↓s_69_42, ↓s_69_43, kd_uF, ln_uF, ai_uF, al_uF, ar_uF, zs_uF, fd_uF, kd_uA, ln_uA, fd_uA, al_uA, ar_uA, zs_uA, ai_uA, kd_uL, ln_uL, fd_uL, ai_uL, ar_uL, zs_uL, al_uL, kd_uR, ln_uR, fd_uR, ai_uR, al_uR, zs_uR, ar_uR, true_and, and_true, Option.toList_some, Option.toList_none, List.cons_append, List.nil_append, catS_nil, catS_int, catS_ref, catS_null, catS_long, cat_int, cat_ref, cat_null, Nat.reduceEqDiff, Nat.reduceLeDiff, Nat.reduceAdd, false_and, and_false, if_false, if_true, ite_true, ite_false, true_or, or_true, false_or, or_false, and_self, forall_const, true_implies, reduceCtorEq, clr_int, clr_ref, clr_null, clr_none, clr_long, va_rf_some, va_rf_none, bz4, h0, s2, c1]
    refine ⟨fun q => k50 ?_, fun q => ⟨fun q2 => k50 ?_, fun q2 => k46 ?_⟩⟩
    · unfold i_cond; rw [g1, g2, q]; rfl
    · unfold i_cond; rw [g1, g2]; simp [q2]
    · unfold i_cond; rw [g1, g2]; simp [q2, show x.testBit 4 = true by simpa using q]
  have k17 : (x.testBit 6 && decide (2048 ≤ u.1 1)) = false → wp (d + 1) 69 Q 17 [some (.ref b), some (.int (nI x)), none, none] [] w 0 0 := by
    intro g1
    simp only [↓s_69_17, ↓s_69_18, ↓s_69_20, ↓s_69_21, ↓s_69_24, ↓s_69_25, ↓s_69_28, kd_uF, ln_uF, ai_uF, al_uF, ar_uF, zs_uF, fd_uF, kd_uA, ln_uA, fd_uA, al_uA, ar_uA, zs_uA, ai_uA, kd_uL, ln_uL, fd_uL, ai_uL, ar_uL, zs_uL, al_uL, kd_uR, ln_uR, fd_uR, ai_uR, al_uR, zs_uR, ar_uR, true_and, and_true, Option.toList_some, Option.toList_none, List.cons_append, List.nil_append, catS_nil, catS_int, catS_ref, catS_null, catS_long, cat_int, cat_ref, cat_null, Nat.reduceEqDiff, Nat.reduceLeDiff, Nat.reduceAdd, false_and, and_false, if_false, if_true, ite_true, ite_false, true_or, or_true, false_or, or_false, and_self, forall_const, true_implies, reduceCtorEq, clr_int, clr_ref, clr_null, clr_none, clr_long, va_rf_some, va_rf_none, bz5, h0, s1, c2]
    refine ⟨fun q => k31 g1 (by rw [q]; rfl), fun q => ⟨fun q2 => k46 ?_, fun q2 => k31 g1 (by simp [q2])⟩⟩
    unfold i_cond; rw [g1]; simp [q2, show x.testBit 5 = true by simpa using q]
  simp only [↓s_69_0, ↓s_69_1, ↓s_69_3, ↓s_69_4, ↓s_69_7, ↓s_69_8, ↓s_69_11, ↓s_69_14, kd_uF, ln_uF, ai_uF, al_uF, ar_uF, zs_uF, fd_uF, kd_uA, ln_uA, fd_uA, al_uA, ar_uA, zs_uA, ai_uA, kd_uL, ln_uL, fd_uL, ai_uL, ar_uL, zs_uL, al_uL, kd_uR, ln_uR, fd_uR, ai_uR, al_uR, zs_uR, ar_uR, true_and, and_true, Option.toList_some, Option.toList_none, List.cons_append, List.nil_append, catS_nil, catS_int, catS_ref, catS_null, catS_long, cat_int, cat_ref, cat_null, Nat.reduceEqDiff, Nat.reduceLeDiff, Nat.reduceAdd, false_and, and_false, if_false, if_true, ite_true, ite_false, true_or, or_true, false_or, or_false, and_self, forall_const, true_implies, reduceCtorEq, clr_int, clr_ref, clr_null, clr_none, clr_long, va_rf_some, va_rf_none, bz6, h0, s1, c3]
  refine ⟨fun q => k17 (by rw [q]; rfl), fun q => ⟨fun q2 => k46 ?_, fun q2 => k17 (by simp [q2])⟩⟩
  unfold i_cond; simp [q2, show x.testBit 6 = true by simpa using q]
