theorem UB.rot {u : us} {r : Bool} (h : UB u) : UB (i_rot u r) := by
  rw [i_rot_eq]
  have := rotN_lt (r := r) (show u.1 2 * 4096 + u.1 1 < 8192 by have := h.2.1; have := h.2.2.1; omega)
  exact (h.S2 (by omega)).S1 (Nat.mod_lt _ (by decide))
theorem xor12 {a : Nat} (h : a < 4096) : nI a ^^^ 4095 = nI (4095 - a) := by
  rw [show (4095 : Int32) = nI 4095 from rfl, xor2]
  congr 1
  apply Nat.eq_of_testBit_eq
  intro i
  rw [Nat.testBit_xor, show (4095 : Nat) = 2 ^ 12 - 1 from rfl, show 2 ^ 12 - 1 - a = 2 ^ 12 - (a + 1) by omega, Nat.testBit_two_pow_sub_succ (x := a) (n := 12) h, Nat.testBit_two_pow_sub_one]
  by_cases hi : i < 12
  · simp [hi]
  · have : a.testBit i = false := Nat.testBit_lt_two_pow (Nat.lt_of_lt_of_le (show a < 2 ^ 12 from h) (Nat.pow_le_pow_right (by decide) (show 12 ≤ i by omega)))
    simp [hi, this]
theorem or12 {a c : Nat} (h1 : a < 4096) (h2 : c < 4096) : a ||| c < 4096 := Nat.or_lt_two_pow (n := 12) h1 h2
theorem sp_U_operate {d : Nat} {w : aw} {b n x : Nat} {u : us} {Q : wQ} (hu : UAt w b n u) (hB : UB u) (h : ∀ w', UAt w' b n (i_op u x) → FrU w w' b → Q none w') : wpD (d + 2) 64 [.ref b, .int (nI x)] w Q := by
  refine ⟨Nat.le_of_ble_eq_true rfl, ?_⟩
  show wp (d + 1) 64 Q 0 [some (.ref b), some (.int (nI x)), none, none] [] w 0 0
  have k72 : ∀ w' v, UAt w' b n v → UB v → FrU w w' b → (if x.testBit 3 = x.testBit 2 then v else if x.testBit 1 then i_rot (i_rot v (x.testBit 3)) (x.testBit 3) else i_rot v (x.testBit 3)) = i_op u x → wp (d + 1) 64 Q 72 [some (.ref b), some (.int (nI x)), none, none] [] w' 0 0 := by
    intro w' v hv hBv hF he
    have hkd := hv.1
    have k127 : ∀ w2 l2 l3, Q none w2 → wp (d + 1) 64 Q 127 [some (.ref b), some (.int (nI x)), l2, l3] [] w2 0 0 := by
      intro w2 l2 l3 hq
      simp only [↓s_64_127]
      exact hq
    have k113 : ∀ (r : Bool) (pl : Nat) l2 l3, x.testBit 3 ≠ x.testBit 2 → x.testBit 3 = r → ((r = true ∧ pl = 1) ∨ (r = false ∧ pl = 12)) → wp (d + 1) 64 Q 113 [some (.ref b), some (.int (nI x)), l2, l3] [.int (nI pl), .ref b] w' 0 0 := by
      intro r pl l2 l3 hne hr hpl
      rw [if_neg hne, hr] at he
      simp only [↓s_64_113, ↓s_64_114, ↓s_64_115, ↓s_64_116, ↓s_64_119, ↓s_64_120, ↓s_64_123, ↓s_64_124, kd_uF, ln_uF, ai_uF, al_uF, ar_uF, zs_uF, fd_uF, kd_uA, ln_uA, fd_uA, al_uA, ar_uA, zs_uA, ai_uA, kd_uL, ln_uL, fd_uL, ai_uL, ar_uL, zs_uL, al_uL, kd_uR, ln_uR, fd_uR, ai_uR, al_uR, zs_uR, ar_uR, true_and, and_true, Option.toList_some, Option.toList_none, List.cons_append, List.nil_append, catS_nil, catS_int, catS_ref, catS_null, catS_long, cat_int, cat_ref, cat_null, Nat.reduceEqDiff, Nat.reduceLeDiff, Nat.reduceAdd, false_and, and_false, if_false, if_true, ite_true, ite_false, true_or, or_true, false_or, or_false, and_self, forall_const, true_implies, reduceCtorEq, clr_int, clr_ref, clr_null, clr_none, clr_long, va_rf_some, va_rf_none, bz1, hkd]
      refine ⟨fun q => ?_, fun q => ?_⟩
      · refine sp_U_turn (ti := 1) hv hBv.2.1 hBv.2.2.1 hpl (Or.inl rfl) (fun w2 hu2 hF2 => ?_)
        refine k127 _ _ _ (h _ ?_ (hF.tr hF2))
        rw [if_neg (by decide)] at hu2
        rw [q, if_neg (by decide)] at he
        rw [← he]; exact hu2
      · refine sp_U_turn (ti := 2) hv hBv.2.1 hBv.2.2.1 hpl (Or.inr rfl) (fun w2 hu2 hF2 => ?_)
        refine k127 _ _ _ (h _ ?_ (hF.tr hF2))
        rw [if_pos rfl] at hu2
        rw [if_pos (by simpa using q)] at he
        rw [← he]; exact hu2
    have k96 : ∀ (r l : Bool) l3, x.testBit 3 = r → x.testBit 2 = l → wp (d + 1) 64 Q 96 [some (.ref b), some (.int (nI x)), some (.int (nI r.toNat)), l3] [.int (nI l.toNat)] w' 0 0 := by
      intro r l l3 hr hl
      simp only [↓s_64_96, ↓s_64_97, ↓s_64_98, ↓s_64_99, ↓s_64_102, ↓s_64_103, ↓s_64_104, ↓s_64_107, ↓s_64_108, ↓s_64_111, kd_uF, ln_uF, ai_uF, al_uF, ar_uF, zs_uF, fd_uF, kd_uA, ln_uA, fd_uA, al_uA, ar_uA, zs_uA, ai_uA, kd_uL, ln_uL, fd_uL, ai_uL, ar_uL, zs_uL, al_uL, kd_uR, ln_uR, fd_uR, ai_uR, al_uR, zs_uR, ar_uR, true_and, and_true, Option.toList_some, Option.toList_none, List.cons_append, List.nil_append, catS_nil, catS_int, catS_ref, catS_null, catS_long, cat_int, cat_ref, cat_null, Nat.reduceEqDiff, Nat.reduceLeDiff, Nat.reduceAdd, false_and, and_false, if_false, if_true, ite_true, ite_false, true_or, or_true, false_or, or_false, and_self, forall_const, true_implies, reduceCtorEq, clr_int, clr_ref, clr_null, clr_none, clr_long, va_rf_some, va_rf_none]
      refine ⟨fun q => k127 _ _ _ (h _ ?_ hF), fun q => ⟨fun q2 => ?_, fun q2 => ?_⟩⟩
      · have : r = l := by cases r <;> cases l <;> first | rfl | exact absurd q (by decide)
        rw [← he, hr, hl, this, if_pos rfl]; exact hv
      · have : r = false := by cases r <;> first | rfl | exact absurd q2 (by decide)
        subst this
        exact k113 false 12 _ _ (by rw [hr, hl]; intro e; subst e; exact q rfl) hr (Or.inr ⟨rfl, rfl⟩)
      · have : r = true := by cases r <;> first | rfl | exact absurd rfl q2
        subst this
        exact k113 true 1 _ _ (by rw [hr, hl]; intro e; subst e; exact q rfl) hr (Or.inl ⟨rfl, rfl⟩)
    have k84 : ∀ (r : Bool), x.testBit 3 = r → wp (d + 1) 64 Q 84 [some (.ref b), some (.int (nI x)), none, none] [.int (nI r.toNat)] w' 0 0 := by
      intro r hr
      simp only [↓s_64_84, ↓s_64_85, ↓s_64_86, ↓s_64_87, ↓s_64_88, ↓s_64_91, ↓s_64_92, ↓s_64_95, kd_uF, ln_uF, ai_uF, al_uF, ar_uF, zs_uF, fd_uF, kd_uA, ln_uA, fd_uA, al_uA, ar_uA, zs_uA, ai_uA, kd_uL, ln_uL, fd_uL, ai_uL, ar_uL, zs_uL, al_uL, kd_uR, ln_uR, fd_uR, ai_uR, al_uR, zs_uR, ar_uR, true_and, and_true, Option.toList_some, Option.toList_none, List.cons_append, List.nil_append, catS_nil, catS_int, catS_ref, catS_null, catS_long, cat_int, cat_ref, cat_null, Nat.reduceEqDiff, Nat.reduceLeDiff, Nat.reduceAdd, false_and, and_false, if_false, if_true, ite_true, ite_false, true_or, or_true, false_or, or_false, and_self, forall_const, true_implies, reduceCtorEq, clr_int, clr_ref, clr_null, clr_none, clr_long, va_rf_some, va_rf_none, bz2]
      exact ⟨fun q => k96 r false _ hr q, fun q => k96 r true _ hr (by simpa using q)⟩
    simp only [↓s_64_72, ↓s_64_73, ↓s_64_75, ↓s_64_76, ↓s_64_79, ↓s_64_80, ↓s_64_83, kd_uF, ln_uF, ai_uF, al_uF, ar_uF, zs_uF, fd_uF, kd_uA, ln_uA, fd_uA, al_uA, ar_uA, zs_uA, ai_uA, kd_uL, ln_uL, fd_uL, ai_uL, ar_uL, zs_uL, al_uL, kd_uR, ln_uR, fd_uR, ai_uR, al_uR, zs_uR, ar_uR, true_and, and_true, Option.toList_some, Option.toList_none, List.cons_append, List.nil_append, catS_nil, catS_int, catS_ref, catS_null, catS_long, cat_int, cat_ref, cat_null, Nat.reduceEqDiff, Nat.reduceLeDiff, Nat.reduceAdd, false_and, and_false, if_false, if_true, ite_true, ite_false, true_or, or_true, false_or, or_false, and_self, forall_const, true_implies, reduceCtorEq, clr_int, clr_ref, clr_null, clr_none, clr_long, va_rf_some, va_rf_none, bz3]
    exact ⟨fun q => k84 false q, fun q => k84 true (by simpa using q)⟩
  have k61 : ∀ w' v, UAt w' b n v → UB v → FrU w w' b → (let u := if x.testBit 0 then i_sum v (v.1 1 + 1) else v; if x.testBit 3 = x.testBit 2 then u else if x.testBit 1 then i_rot (i_rot u (x.testBit 3)) (x.testBit 3) else i_rot u (x.testBit 3)) = i_op u x → wp (d + 1) 64 Q 61 [some (.ref b), some (.int (nI x)), none, none] [] w' 0 0 := by
    intro w' v hv hBv hF he
    have hkd := hv.1
    dsimp only at he
    simp only [↓s_64_61, ↓s_64_62, ↓s_64_63, ↓s_64_64, ↓s_64_67, ↓s_64_68, ↓s_64_69, kd_uF, ln_uF, ai_uF, al_uF, ar_uF, zs_uF, fd_uF, kd_uA, ln_uA, fd_uA, al_uA, ar_uA, zs_uA, ai_uA, kd_uL, ln_uL, fd_uL, ai_uL, ar_uL, zs_uL, al_uL, kd_uR, ln_uR, fd_uR, ai_uR, al_uR, zs_uR, ar_uR, true_and, and_true, Option.toList_some, Option.toList_none, List.cons_append, List.nil_append, catS_nil, catS_int, catS_ref, catS_null, catS_long, cat_int, cat_ref, cat_null, Nat.reduceEqDiff, Nat.reduceLeDiff, Nat.reduceAdd, false_and, and_false, if_false, if_true, ite_true, ite_false, true_or, or_true, false_or, or_false, and_self, forall_const, true_implies, reduceCtorEq, clr_int, clr_ref, clr_null, clr_none, clr_long, va_rf_some, va_rf_none, bz0, hkd]
    refine ⟨fun q => k72 w' v hv hBv hF (by rw [q] at he; exact he), fun q => sp_U_add (x := 1) hv hBv.2.1 hBv.2.2.1 (by decide) (fun w2 hu2 hF2 => ?_)⟩
    have q' : x.testBit 0 = true := by simpa using q
    exact k72 w2 _ hu2 hBv.sum (hF.tr hF2) (by rw [q'] at he; exact he)
  have k44 : ∀ w' v, UAt w' b n v → UB v → FrU w w' b → (let u := if x.testBit 4 then uS v 2 (1 - v.1 2) else v; let u := if x.testBit 0 then i_sum u (u.1 1 + 1) else u; if x.testBit 3 = x.testBit 2 then u else if x.testBit 1 then i_rot (i_rot u (x.testBit 3)) (x.testBit 3) else i_rot u (x.testBit 3)) = i_op u x → wp (d + 1) 64 Q 44 [some (.ref b), some (.int (nI x)), none, none] [] w' 0 0 := by
    intro w' v hv hBv hF he
    have hv0 := hv
    obtain ⟨h0, h1, h2, h3, h4, h5, h6, s0, s1, s2, s3, s4, s5, s6, s7, s8, s9, m1, m2, m3, f1, f2, f3, p1, p2, p3, li, lo⟩ := hv
    simp only [↓s_64_44, ↓s_64_45, ↓s_64_47, ↓s_64_48, ↓s_64_51, ↓s_64_52, ↓s_64_53, ↓s_64_56, ↓s_64_57, ↓s_64_58, kd_uF, ln_uF, ai_uF, al_uF, ar_uF, zs_uF, fd_uF, kd_uA, ln_uA, fd_uA, al_uA, ar_uA, zs_uA, ai_uA, kd_uL, ln_uL, fd_uL, ai_uL, ar_uL, zs_uL, al_uL, kd_uR, ln_uR, fd_uR, ai_uR, al_uR, zs_uR, ar_uR, true_and, and_true, Option.toList_some, Option.toList_none, List.cons_append, List.nil_append, catS_nil, catS_int, catS_ref, catS_null, catS_long, cat_int, cat_ref, cat_null, Nat.reduceEqDiff, Nat.reduceLeDiff, Nat.reduceAdd, false_and, and_false, if_false, if_true, ite_true, ite_false, true_or, or_true, false_or, or_false, and_self, forall_const, true_implies, reduceCtorEq, clr_int, clr_ref, clr_null, clr_none, clr_long, va_rf_some, va_rf_none, bz4, h0, s2]
    rw [xor1 hBv.2.2.1]
    refine ⟨fun q => k61 w' v hv0 hBv hF (by rw [q] at he; exact he), fun q => k61 _ _ hv0.S2 (hBv.S2 (by omega)) hF.S2 ?_⟩
    have q' : x.testBit 4 = true := by simpa using q
    rw [q'] at he; exact he
  have k25 : ∀ w' v, UAt w' b n v → UB v → FrU w w' b → (let u := if x.testBit 5 then uS v 1 (4095 - v.1 1) else v; let u := if x.testBit 4 then uS u 2 (1 - u.1 2) else u; let u := if x.testBit 0 then i_sum u (u.1 1 + 1) else u; if x.testBit 3 = x.testBit 2 then u else if x.testBit 1 then i_rot (i_rot u (x.testBit 3)) (x.testBit 3) else i_rot u (x.testBit 3)) = i_op u x → wp (d + 1) 64 Q 25 [some (.ref b), some (.int (nI x)), none, none] [] w' 0 0 := by
    intro w' v hv hBv hF he
    have hv0 := hv
    obtain ⟨h0, h1, h2, h3, h4, h5, h6, s0, s1, s2, s3, s4, s5, s6, s7, s8, s9, m1, m2, m3, f1, f2, f3, p1, p2, p3, li, lo⟩ := hv
    simp only [↓s_64_25, ↓s_64_26, ↓s_64_28, ↓s_64_29, ↓s_64_32, ↓s_64_33, ↓s_64_34, ↓s_64_37, ↓s_64_40, ↓s_64_41, kd_uF, ln_uF, ai_uF, al_uF, ar_uF, zs_uF, fd_uF, kd_uA, ln_uA, fd_uA, al_uA, ar_uA, zs_uA, ai_uA, kd_uL, ln_uL, fd_uL, ai_uL, ar_uL, zs_uL, al_uL, kd_uR, ln_uR, fd_uR, ai_uR, al_uR, zs_uR, ar_uR, true_and, and_true, Option.toList_some, Option.toList_none, List.cons_append, List.nil_append, catS_nil, catS_int, catS_ref, catS_null, catS_long, cat_int, cat_ref, cat_null, Nat.reduceEqDiff, Nat.reduceLeDiff, Nat.reduceAdd, false_and, and_false, if_false, if_true, ite_true, ite_false, true_or, or_true, false_or, or_false, and_self, forall_const, true_implies, reduceCtorEq, clr_int, clr_ref, clr_null, clr_none, clr_long, va_rf_some, va_rf_none, bz5, h0, s1]
    rw [xor12 hBv.2.1]
    refine ⟨fun q => k44 w' v hv0 hBv hF (by rw [q] at he; exact he), fun q => k44 _ _ hv0.S1 (hBv.S1 (by omega)) hF.S1 ?_⟩
    have q' : x.testBit 5 = true := by simpa using q
    rw [q'] at he; exact he
  have k13 : ∀ w' v, UAt w' b n v → UB v → FrU w w' b → (let u := if x.testBit 6 then uS v 2 0 else v; let u := if x.testBit 5 then uS u 1 (4095 - u.1 1) else u; let u := if x.testBit 4 then uS u 2 (1 - u.1 2) else u; let u := if x.testBit 0 then i_sum u (u.1 1 + 1) else u; if x.testBit 3 = x.testBit 2 then u else if x.testBit 1 then i_rot (i_rot u (x.testBit 3)) (x.testBit 3) else i_rot u (x.testBit 3)) = i_op u x → wp (d + 1) 64 Q 13 [some (.ref b), some (.int (nI x)), none, none] [] w' 0 0 := by
    intro w' v hv hBv hF he
    have hkd := hv.1
    simp only [↓s_64_13, ↓s_64_14, ↓s_64_16, ↓s_64_17, ↓s_64_20, ↓s_64_21, ↓s_64_22, kd_uF, ln_uF, ai_uF, al_uF, ar_uF, zs_uF, fd_uF, kd_uA, ln_uA, fd_uA, al_uA, ar_uA, zs_uA, ai_uA, kd_uL, ln_uL, fd_uL, ai_uL, ar_uL, zs_uL, al_uL, kd_uR, ln_uR, fd_uR, ai_uR, al_uR, zs_uR, ar_uR, true_and, and_true, Option.toList_some, Option.toList_none, List.cons_append, List.nil_append, catS_nil, catS_int, catS_ref, catS_null, catS_long, cat_int, cat_ref, cat_null, Nat.reduceEqDiff, Nat.reduceLeDiff, Nat.reduceAdd, false_and, and_false, if_false, if_true, ite_true, ite_false, true_or, or_true, false_or, or_false, and_self, forall_const, true_implies, reduceCtorEq, clr_int, clr_ref, clr_null, clr_none, clr_long, va_rf_some, va_rf_none, bz6, hkd]
    refine ⟨fun q => k25 w' v hv hBv hF (by rw [q] at he; exact he), fun q => k25 _ _ hv.S2 (hBv.S2 (by decide)) hF.S2 ?_⟩
    have q' : x.testBit 6 = true := by simpa using q
    rw [q'] at he; exact he
  have hkd := hu.1
  simp only [↓s_64_0, ↓s_64_1, ↓s_64_4, ↓s_64_5, ↓s_64_8, ↓s_64_9, ↓s_64_10, kd_uF, ln_uF, ai_uF, al_uF, ar_uF, zs_uF, fd_uF, kd_uA, ln_uA, fd_uA, al_uA, ar_uA, zs_uA, ai_uA, kd_uL, ln_uL, fd_uL, ai_uL, ar_uL, zs_uL, al_uL, kd_uR, ln_uR, fd_uR, ai_uR, al_uR, zs_uR, ar_uR, true_and, and_true, Option.toList_some, Option.toList_none, List.cons_append, List.nil_append, catS_nil, catS_int, catS_ref, catS_null, catS_long, cat_int, cat_ref, cat_null, Nat.reduceEqDiff, Nat.reduceLeDiff, Nat.reduceAdd, false_and, and_false, if_false, if_true, ite_true, ite_false, true_or, or_true, false_or, or_false, and_self, forall_const, true_implies, reduceCtorEq, clr_int, clr_ref, clr_null, clr_none, clr_long, va_rf_some, va_rf_none, bz7, hkd]
  refine ⟨fun q => k13 w u hu hB FrU.rf (by unfold i_op; rw [q]; rfl), fun q => k13 _ _ hu.S1 (hB.S1 (by decide)) FrU.rf.S1 ?_⟩
  have q' : x.testBit 7 = true := by simpa using q
  unfold i_op; rw [q']; rfl
theorem sp_U_test {d : Nat} {w : aw} {b n x : Nat} {u : us} {Q : wQ} (hu : UAt w b n u) (hB : UB u) (h : ∀ w', UAt w' b n (i_test u x) → FrU w w' b → Q none w') : wpD (d + 2) 66 [.ref b, .int (nI x)] w Q := by
  refine ⟨Nat.le_of_ble_eq_true rfl, ?_⟩
  show wp (d + 1) 66 Q 0 [some (.ref b), some (.int (nI x)), none, none] [] w 0 0
  have k117 : ∀ w2 l2 l3, Q none w2 → wp (d + 1) 66 Q 117 [some (.ref b), some (.int (nI x)), l2, l3] [] w2 0 0 := by
    intro w2 l2 l3 hq
    simp only [↓s_66_117]
    exact hq
  have k106 : ∀ w' v l2 l3, UAt w' b n v → FrU w w' b → (if x.testBit 1 then uS v 3 0 else v) = i_test u x → wp (d + 1) 66 Q 106 [some (.ref b), some (.int (nI x)), l2, l3] [] w' 0 0 := by
    intro w' v l2 l3 hv hF he
    have hkd := hv.1
    simp only [↓s_66_106, ↓s_66_107, ↓s_66_108, ↓s_66_109, ↓s_66_112, ↓s_66_113, ↓s_66_114, kd_uF, ln_uF, ai_uF, al_uF, ar_uF, zs_uF, fd_uF, kd_uA, ln_uA, fd_uA, al_uA, ar_uA, zs_uA, ai_uA, kd_uL, ln_uL, fd_uL, ai_uL, ar_uL, zs_uL, al_uL, kd_uR, ln_uR, fd_uR, ai_uR, al_uR, zs_uR, ar_uR, true_and, and_true, Option.toList_some, Option.toList_none, List.cons_append, List.nil_append, catS_nil, catS_int, catS_ref, catS_null, catS_long, cat_int, cat_ref, cat_null, Nat.reduceEqDiff, Nat.reduceLeDiff, Nat.reduceAdd, false_and, and_false, if_false, if_true, ite_true, ite_false, true_or, or_true, false_or, or_false, and_self, forall_const, true_implies, reduceCtorEq, clr_int, clr_ref, clr_null, clr_none, clr_long, va_rf_some, va_rf_none, bz1, hkd]
    refine ⟨fun q => k117 _ _ _ (h _ (by rw [q] at he; rw [← he]; exact hv) hF), fun q => k117 _ _ _ (h _ ?_ hF.S3)⟩
    have q' : x.testBit 1 = true := by simpa using q
    rw [q'] at he; rw [← he]; exact hv.S3
  have k87 : ∀ w' v l2 l3, UAt w' b n v → UB v → FrU w w' b → (let u := if x.testBit 2 then uS v 1 (v.1 1 ||| v.1 5) else v; if x.testBit 1 then uS u 3 0 else u) = i_test u x → wp (d + 1) 66 Q 87 [some (.ref b), some (.int (nI x)), l2, l3] [] w' 0 0 := by
    intro w' v l2 l3 hv hBv hF he
    have hv0 := hv
    obtain ⟨h0, h1, h2, h3, h4, h5, h6, s0, s1, s2, s3, s4, s5, s6, s7, s8, s9, m1, m2, m3, f1, f2, f3, p1, p2, p3, li, lo⟩ := hv
    simp only [↓s_66_87, ↓s_66_88, ↓s_66_89, ↓s_66_90, ↓s_66_93, ↓s_66_94, ↓s_66_95, ↓s_66_98, ↓s_66_99, ↓s_66_102, ↓s_66_103, kd_uF, ln_uF, ai_uF, al_uF, ar_uF, zs_uF, fd_uF, kd_uA, ln_uA, fd_uA, al_uA, ar_uA, zs_uA, ai_uA, kd_uL, ln_uL, fd_uL, ai_uL, ar_uL, zs_uL, al_uL, kd_uR, ln_uR, fd_uR, ai_uR, al_uR, zs_uR, ar_uR, true_and, and_true, Option.toList_some, Option.toList_none, List.cons_append, List.nil_append, catS_nil, catS_int, catS_ref, catS_null, catS_long, cat_int, cat_ref, cat_null, Nat.reduceEqDiff, Nat.reduceLeDiff, Nat.reduceAdd, false_and, and_false, if_false, if_true, ite_true, ite_false, true_or, or_true, false_or, or_false, and_self, forall_const, true_implies, reduceCtorEq, clr_int, clr_ref, clr_null, clr_none, clr_long, va_rf_some, va_rf_none, bz2, h0, s1, s5]
    rw [or2]
    refine ⟨fun q => k106 w' v _ _ hv0 hF (by rw [q] at he; exact he), fun q => k106 _ _ _ _ hv0.S1 hF.S1 ?_⟩
    have q' : x.testBit 2 = true := by simpa using q
    rw [q'] at he; exact he
  have k74 : ∀ w' v l2 l3, UAt w' b n v → UB v → FrU w w' b → (let u := if x.testBit 7 then uS v 1 0 else v; let u := if x.testBit 2 then uS u 1 (u.1 1 ||| u.1 5) else u; if x.testBit 1 then uS u 3 0 else u) = i_test u x → wp (d + 1) 66 Q 74 [some (.ref b), some (.int (nI x)), l2, l3] [] w' 0 0 := by
    intro w' v l2 l3 hv hBv hF he
    have hkd := hv.1
    simp only [↓s_66_74, ↓s_66_75, ↓s_66_78, ↓s_66_79, ↓s_66_82, ↓s_66_83, ↓s_66_84, kd_uF, ln_uF, ai_uF, al_uF, ar_uF, zs_uF, fd_uF, kd_uA, ln_uA, fd_uA, al_uA, ar_uA, zs_uA, ai_uA, kd_uL, ln_uL, fd_uL, ai_uL, ar_uL, zs_uL, al_uL, kd_uR, ln_uR, fd_uR, ai_uR, al_uR, zs_uR, ar_uR, true_and, and_true, Option.toList_some, Option.toList_none, List.cons_append, List.nil_append, catS_nil, catS_int, catS_ref, catS_null, catS_long, cat_int, cat_ref, cat_null, Nat.reduceEqDiff, Nat.reduceLeDiff, Nat.reduceAdd, false_and, and_false, if_false, if_true, ite_true, ite_false, true_or, or_true, false_or, or_false, and_self, forall_const, true_implies, reduceCtorEq, clr_int, clr_ref, clr_null, clr_none, clr_long, va_rf_some, va_rf_none, bz7, hkd]
    refine ⟨fun q => k87 w' v _ _ hv hBv hF (by rw [q] at he; exact he), fun q => k87 _ _ _ _ hv.S1 (hBv.S1 (by decide)) hF.S1 ?_⟩
    have q' : x.testBit 7 = true := by simpa using q
    rw [q'] at he; exact he
  have k64 : ∀ (so wn : Bool) l3, i_cond u x = so → x.testBit 3 = wn → wp (d + 1) 66 Q 64 [some (.ref b), some (.int (nI x)), some (.int (nI so.toNat)), l3] [.int (nI wn.toNat)] w 0 0 := by
    intro so wn l3 hso hwn
    have hkd := hu.1
    simp only [↓s_66_64, ↓s_66_65, ↓s_66_66, ↓s_66_67, ↓s_66_70, ↓s_66_71, kd_uF, ln_uF, ai_uF, al_uF, ar_uF, zs_uF, fd_uF, kd_uA, ln_uA, fd_uA, al_uA, ar_uA, zs_uA, ai_uA, kd_uL, ln_uL, fd_uL, ai_uL, ar_uL, zs_uL, al_uL, kd_uR, ln_uR, fd_uR, ai_uR, al_uR, zs_uR, ar_uR, true_and, and_true, Option.toList_some, Option.toList_none, List.cons_append, List.nil_append, catS_nil, catS_int, catS_ref, catS_null, catS_long, cat_int, cat_ref, cat_null, Nat.reduceEqDiff, Nat.reduceLeDiff, Nat.reduceAdd, false_and, and_false, if_false, if_true, ite_true, ite_false, true_or, or_true, false_or, or_false, and_self, forall_const, true_implies, reduceCtorEq, clr_int, clr_ref, clr_null, clr_none, clr_long, va_rf_some, va_rf_none, hkd]
    refine ⟨fun q => k74 w u _ _ hu hB FrU.rf ?_, fun q => sp_U_skip hu hB.1 (fun w2 hu2 hF2 => k74 w2 _ _ _ hu2 hB.skip hF2 ?_)⟩
    · have : so = wn := by cases so <;> cases wn <;> first | rfl | exact absurd q (by decide)
      unfold i_test i_skipIf
      rw [hso, hwn, this]
      simp
    · have : so ≠ wn := fun e => q (by rw [e])
      unfold i_test i_skipIf
      rw [hso, hwn]
      simp [this]
  have k51 : ∀ (so : Bool), i_cond u x = so → wp (d + 1) 66 Q 51 [some (.ref b), some (.int (nI x)), none, none] [.int (nI so.toNat)] w 0 0 := by
    intro so hso
    simp only [↓s_66_51, ↓s_66_52, ↓s_66_53, ↓s_66_55, ↓s_66_56, ↓s_66_59, ↓s_66_60, ↓s_66_63, kd_uF, ln_uF, ai_uF, al_uF, ar_uF, zs_uF, fd_uF, kd_uA, ln_uA, fd_uA, al_uA, ar_uA, zs_uA, ai_uA, kd_uL, ln_uL, fd_uL, ai_uL, ar_uL, zs_uL, al_uL, kd_uR, ln_uR, fd_uR, ai_uR, al_uR, zs_uR, ar_uR, true_and, and_true, Option.toList_some, Option.toList_none, List.cons_append, List.nil_append, catS_nil, catS_int, catS_ref, catS_null, catS_long, cat_int, cat_ref, cat_null, Nat.reduceEqDiff, Nat.reduceLeDiff, Nat.reduceAdd, false_and, and_false, if_false, if_true, ite_true, ite_false, true_or, or_true, false_or, or_false, and_self, forall_const, true_implies, reduceCtorEq, clr_int, clr_ref, clr_null, clr_none, clr_long, va_rf_some, va_rf_none, bz3]
    exact ⟨fun q => k64 so false _ hso q, fun q => k64 so true _ hso (by simpa using q)⟩
  have k46 : i_cond u x = true → wp (d + 1) 66 Q 46 [some (.ref b), some (.int (nI x)), none, none] [] w 0 0 := by
    intro hq
    simp only [↓s_66_46, ↓s_66_47]
    exact k51 true hq
  have k50 : i_cond u x = false → wp (d + 1) 66 Q 50 [some (.ref b), some (.int (nI x)), none, none] [] w 0 0 := by
    intro hq
    simp only [↓s_66_50]
    exact k51 false hq
  have hu0 := hu
  obtain ⟨h0, h1, h2, h3, h4, h5, h6, s0, s1, s2, s3, s4, s5, s6, s7, s8, s9, m1, m2, m3, f1, f2, f3, p1, p2, p3, li, lo⟩ := hu
  have c1 : (nI (u.1 2) = 1) ↔ u.1 2 = 1 := by rw [show (1 : Int32) = nI 1 from rfl, nI_eq (by have := hB.2.2.1; omega) (by decide)]
  have c2 : (nI (u.1 1) = 0) ↔ u.1 1 = 0 := by rw [show (0 : Int32) = nI 0 from rfl, nI_eq (by have := hB.2.1; omega) (by decide)]
  have c3 : ((2048 : Int32) ≤ nI (u.1 1)) ↔ 2048 ≤ u.1 1 := by rw [show (2048 : Int32) = nI 2048 from rfl, nI_leI (by decide) (by have := hB.2.1; omega)]
  have k31 : (x.testBit 6 && decide (2048 ≤ u.1 1)) = false → (x.testBit 5 && decide (u.1 1 = 0)) = false → wp (d + 1) 66 Q 31 [some (.ref b), some (.int (nI x)), none, none] [] w 0 0 := by
    intro g1 g2
    simp only [↓s_66_31, ↓s_66_32, ↓s_66_34, ↓s_66_35, ↓s_66_38, ↓s_66_39, ↓s_66_42, ↓s_66_43, kd_uF, ln_uF, ai_uF, al_uF, ar_uF, zs_uF, fd_uF, kd_uA, ln_uA, fd_uA, al_uA, ar_uA, zs_uA, ai_uA, kd_uL, ln_uL, fd_uL, ai_uL, ar_uL, zs_uL, al_uL, kd_uR, ln_uR, fd_uR, ai_uR, al_uR, zs_uR, ar_uR, true_and, and_true, Option.toList_some, Option.toList_none, List.cons_append, List.nil_append, catS_nil, catS_int, catS_ref, catS_null, catS_long, cat_int, cat_ref, cat_null, Nat.reduceEqDiff, Nat.reduceLeDiff, Nat.reduceAdd, false_and, and_false, if_false, if_true, ite_true, ite_false, true_or, or_true, false_or, or_false, and_self, forall_const, true_implies, reduceCtorEq, clr_int, clr_ref, clr_null, clr_none, clr_long, va_rf_some, va_rf_none, bz4, h0, s2, c1]
    refine ⟨fun q => k50 ?_, fun q => ⟨fun q2 => k50 ?_, fun q2 => k46 ?_⟩⟩
    · unfold i_cond; rw [g1, g2, q]; rfl
    · unfold i_cond; rw [g1, g2]; simp [q2]
    · unfold i_cond; rw [g1, g2]; simp [q2, show x.testBit 4 = true by simpa using q]
  have k17 : (x.testBit 6 && decide (2048 ≤ u.1 1)) = false → wp (d + 1) 66 Q 17 [some (.ref b), some (.int (nI x)), none, none] [] w 0 0 := by
    intro g1
    simp only [↓s_66_17, ↓s_66_18, ↓s_66_20, ↓s_66_21, ↓s_66_24, ↓s_66_25, ↓s_66_28, kd_uF, ln_uF, ai_uF, al_uF, ar_uF, zs_uF, fd_uF, kd_uA, ln_uA, fd_uA, al_uA, ar_uA, zs_uA, ai_uA, kd_uL, ln_uL, fd_uL, ai_uL, ar_uL, zs_uL, al_uL, kd_uR, ln_uR, fd_uR, ai_uR, al_uR, zs_uR, ar_uR, true_and, and_true, Option.toList_some, Option.toList_none, List.cons_append, List.nil_append, catS_nil, catS_int, catS_ref, catS_null, catS_long, cat_int, cat_ref, cat_null, Nat.reduceEqDiff, Nat.reduceLeDiff, Nat.reduceAdd, false_and, and_false, if_false, if_true, ite_true, ite_false, true_or, or_true, false_or, or_false, and_self, forall_const, true_implies, reduceCtorEq, clr_int, clr_ref, clr_null, clr_none, clr_long, va_rf_some, va_rf_none, bz5, h0, s1, c2]
    refine ⟨fun q => k31 g1 (by rw [q]; rfl), fun q => ⟨fun q2 => k46 ?_, fun q2 => k31 g1 (by simp [q2])⟩⟩
    unfold i_cond; rw [g1]; simp [q2, show x.testBit 5 = true by simpa using q]
  simp only [↓s_66_0, ↓s_66_1, ↓s_66_3, ↓s_66_4, ↓s_66_7, ↓s_66_8, ↓s_66_11, ↓s_66_14, kd_uF, ln_uF, ai_uF, al_uF, ar_uF, zs_uF, fd_uF, kd_uA, ln_uA, fd_uA, al_uA, ar_uA, zs_uA, ai_uA, kd_uL, ln_uL, fd_uL, ai_uL, ar_uL, zs_uL, al_uL, kd_uR, ln_uR, fd_uR, ai_uR, al_uR, zs_uR, ar_uR, true_and, and_true, Option.toList_some, Option.toList_none, List.cons_append, List.nil_append, catS_nil, catS_int, catS_ref, catS_null, catS_long, cat_int, cat_ref, cat_null, Nat.reduceEqDiff, Nat.reduceLeDiff, Nat.reduceAdd, false_and, and_false, if_false, if_true, ite_true, ite_false, true_or, or_true, false_or, or_false, and_self, forall_const, true_implies, reduceCtorEq, clr_int, clr_ref, clr_null, clr_none, clr_long, va_rf_some, va_rf_none, bz6, h0, s1, c3]
  refine ⟨fun q => k17 (by rw [q]; rfl), fun q => ⟨fun q2 => k46 ?_, fun q2 => k17 (by simp [q2])⟩⟩
  unfold i_cond; simp [q2, show x.testBit 6 = true by simpa using q]
