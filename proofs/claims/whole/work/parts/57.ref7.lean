theorem Lft.tr {w w1 w2 : aw} {m u : Nat} {y : us} (g : Lft w1 w2 m y) (h : FrN w w1 m u) : Lft w w2 m y := by
  unfold Lft at g ⊢
  split
  · rename_i q
    rw [if_pos q] at g
    exact ⟨g.1.trans (h.2 _), g.2.trans (h.2 _)⟩
  · rename_i q
    rw [if_neg q] at g
    exact g
theorem ref_3 {x : us} {z own : Nat} (h : x.1 3 = 2) : (i_ref x z own).1 3 = 2 := by
  have e : ((i_refA x z own).1).1 3 = 2 := by
    unfold i_refA i_bump
    dsimp only
    split
    · split <;> exact h
    · exact h
  unfold i_ref
  dsimp only
  revert e
  generalize (i_refA x z own).1 = v
  generalize (i_refA x z own).2 = a
  intro e
  unfold i_sum i_skipIf i_skip
  split <;> first | exact e | (split <;> exact e)
theorem rot_3 {x : us} {r : Bool} (h : x.1 3 = 2) : (i_rot x r).1 3 = 2 := h
theorem op_3 {x : us} {z : Nat} (h : x.1 3 = 2) : (i_op x z).1 3 = 2 := by
  have s1 : ∀ (c : Bool) (v : us) (a b : Nat), v.1 3 = 2 → a ≠ 3 → (if c then uS v a b else v).1 3 = 2 := by
    intro c v a b hv ha
    cases c
    · exact hv
    · show va_up _ _ _ _ = _; rw [va_up_ne _ _ (Ne.symm ha)]; exact hv
  have s2 : ∀ (c : Bool) (v : us) (b : Nat), v.1 3 = 2 → (if c then i_sum v b else v).1 3 = 2 := by
    intro c v b hv
    cases c
    · exact hv
    · show (i_sum v b).1 3 = 2
      unfold i_sum
      split <;> exact hv
  unfold i_op
  dsimp only
  have e1 := s1 (z.testBit 7) x 1 0 h (by decide)
  generalize (if z.testBit 7 then uS x 1 0 else x) = x1 at *
  have e2 := s1 (z.testBit 6) x1 2 0 e1 (by decide)
  generalize (if z.testBit 6 then uS x1 2 0 else x1) = x2 at *
  have e3 := s1 (z.testBit 5) x2 1 (4095 - x2.1 1) e2 (by decide)
  generalize (if z.testBit 5 then uS x2 1 (4095 - x2.1 1) else x2) = x3 at *
  have e4 := s1 (z.testBit 4) x3 2 (1 - x3.1 2) e3 (by decide)
  generalize (if z.testBit 4 then uS x3 2 (1 - x3.1 2) else x3) = x4 at *
  have e5 := s2 (z.testBit 0) x4 (x4.1 1 + 1) e4
  generalize (if z.testBit 0 then i_sum x4 (x4.1 1 + 1) else x4) = x5 at *
  split
  · exact e5
  · split <;> exact e5
theorem sp_R_inst {d : Nat} {w : aw} {m u : Nat} {x : us} {Q : wQ} (hs : RSh w m) (hx : RU w m u x) (hB : UB x) (hu : u < 8) (h3 : x.1 3 = 2) (h : ∀ w', RU w' m u (inst u x) → FrV w w' m u → Lft w w' m (inst u x) → Q none w') : wpD (d + 4) 111 [.ref m, .int (nI u)] w Q := by
  refine ⟨Nat.le_of_ble_eq_true rfl, ?_⟩
  show wp (d + 3) 111 Q 0 [some (.ref m), some (.int (nI u)), none, none] [] w 0 0
  have hin : inR (nI u) 8 := inR_nI hu (by decide)
  have cu : (nI u).toNatClampNeg = u := clN (by omega)
  have hs0 := hs
  have hx0 := hx
  have hmm := hB.2.2.2.2.2.2.2.2.1
  have ho := hB.1
  have hw : uMm x (x.1 0) < 4096 := hmm _
  obtain ⟨rk, r1, r2, r3, r4, r5, r6, r7, r8, r9, r10, r11, r12, r13, r14, r15, r16, r17, r18, r19, r20, r21, r22, r23, r24, k1, k2, k3, k4, k5, k6, k7, k8, k9, k10, k11, k12, k13, k14, k15, k16, k17, k18, k19, k20, k21, k22, k23, k24, n1, n2, n3, n4, n5, n6, n7, n8, n9, n10, n11, n12, n13, n14, n15, n16, n17, n18, n19, n20, n21, n22, n23, n24⟩ := hs
  obtain ⟨t0, t1, t2, t3, t4, t5, t6, t7, t8, t9, mm, ff, pp, il, ix, ol, ox⟩ := hx
  simp only [↓s_111_0, ↓s_111_1, ↓s_111_4, ↓s_111_5, ↓s_111_6, ↓s_111_7, ↓s_111_8, ↓s_111_9, ↓s_111_10, kd_uF, ln_uF, ai_uF, al_uF, ar_uF, zs_uF, fd_uF, kd_uA, ln_uA, fd_uA, al_uA, ar_uA, zs_uA, ai_uA, kd_uL, ln_uL, fd_uL, ai_uL, ar_uL, zs_uL, al_uL, kd_uR, ln_uR, fd_uR, ai_uR, al_uR, zs_uR, ar_uR, true_and, and_true, Option.toList_some, Option.toList_none, List.cons_append, List.nil_append, catS_nil, catS_int, catS_ref, catS_null, catS_long, cat_int, cat_ref, cat_null, Nat.reduceEqDiff, Nat.reduceLeDiff, Nat.reduceAdd, false_and, and_false, if_false, if_true, ite_true, ite_false, true_or, or_true, false_or, or_false, and_self, forall_const, true_implies, reduceCtorEq, clr_int, clr_ref, clr_null, clr_none, clr_long, va_rf_some, va_rf_none, rk, r6, k6, n6, cu, t0]
  refine ⟨hin, sp_R_get hs0 hx0 hu hB.1 ?_⟩
  simp only [↓s_111_13, ↓s_111_14, ↓s_111_15, ↓s_111_18, ↓s_111_19, ↓s_111_20, ↓s_111_21, ↓s_111_22, ↓s_111_25, ↓s_111_26, ↓s_111_27, ↓s_111_28, ↓s_111_31, ↓s_111_32, ↓s_111_33, ↓s_111_34, ↓s_111_35, ↓s_111_36, ↓s_111_37, ↓s_111_38, ↓s_111_41, ↓s_111_44, ↓s_111_45, ↓s_111_46, ↓s_111_47, ↓s_111_48, ↓s_111_54, ↓s_111_55, ↓s_111_58, ↓s_111_61, ↓s_111_62, ↓s_111_63, ↓s_111_64, ↓s_111_65, ↓s_111_71, ↓s_111_72, ↓s_111_75, ↓s_111_76, ↓s_111_79, ↓s_111_80, ↓s_111_81, ↓s_111_82, ↓s_111_88, ↓s_111_89, ↓s_111_90, ↓s_111_91, ↓s_111_94, ↓s_111_95, ↓s_111_96, ↓s_111_97, kd_uF, ln_uF, ai_uF, al_uF, ar_uF, zs_uF, fd_uF, kd_uA, ln_uA, fd_uA, al_uA, ar_uA, zs_uA, ai_uA, kd_uL, ln_uL, fd_uL, ai_uL, ar_uL, zs_uL, al_uL, kd_uR, ln_uR, fd_uR, ai_uR, al_uR, zs_uR, ar_uR, true_and, and_true, Option.toList_some, Option.toList_none, List.cons_append, List.nil_append, catS_nil, catS_int, catS_ref, catS_null, catS_long, cat_int, cat_ref, cat_null, Nat.reduceEqDiff, Nat.reduceLeDiff, Nat.reduceAdd, false_and, and_false, if_false, if_true, ite_true, ite_false, true_or, or_true, false_or, or_false, and_self, forall_const, true_implies, reduceCtorEq, clr_int, clr_ref, clr_null, clr_none, clr_long, va_rf_some, va_rf_none, rk, r6, k6, n6, r12, k12, n12, cu, t9, show ¬ (m + 12 = m + 6) by omega, bz8, bz0]
  rw [nI_1, nI_1, m12 (by omega)]
  have hv : RU (uA (uA w (m + 6) u (nI ((x.1 0 + 1) % 4096))) (m + 12) u (nI (x.1 9 + 1))) m u (uS (i_skip x) 9 (x.1 9 + 1)) := hx0.S0.S9
  have hF1 : FrN w (uA (uA w (m + 6) u (nI ((x.1 0 + 1) % 4096))) (m + 12) u (nI (x.1 9 + 1))) m u := (FrN.rf.one (by omega)).one (by omega)
  have hB1 : UB (uS (i_skip x) 9 (x.1 9 + 1)) := hB.skip.S9
  have h31 : (uS (i_skip x) 9 (x.1 9 + 1)).1 3 = 2 := h3
  unfold inst at h
  dsimp only at h
  revert hw ho h
  generalize uMm x (x.1 0) = z
  revert hv hF1
  generalize uA (uA w (m + 6) u (nI ((x.1 0 + 1) % 4096))) (m + 12) u (nI (x.1 9 + 1)) = w1
  revert hB1 h31
  generalize uS (i_skip x) 9 (x.1 9 + 1) = v
  generalize x.1 0 = own
  intro hB1 h31 hv hF1 h ho hw
  have hs1 := hF1.sh hs0
  have j100 : ∀ w2, Q none w2 → wp (d + 3) 111 Q 100 [some (.ref m), some (.int (nI u)), some (.int (nI own)), some (.int (nI z))] [] w2 0 0 := by
    intro w2 hq
    simp only [↓s_111_100]
    exact hq
  rw [show (3072 : Int32) = nI 3072 from rfl, show (3584 : Int32) = nI 3584 from rfl, nI_leI (by decide) (by omega), nI_leI (by decide) (by omega)]
  refine ⟨hin, hin, hin, fun q => ⟨fun q2 => ⟨fun q3 => ⟨fun q4 => j100 _ ?_, fun q4 => sp_R_skips hs1 hv hB1 hu h31 (fun w2 hy2 hF2 hL2 => j100 _ ?_)⟩, fun q3 => sp_R_turns hs1 hv hB1 hu (fun w2 hy2 hF2 => ?_)⟩, fun q2 => sp_R_device hs1 hv hB1 hu hw ho h31 (fun w2 hy2 hF2 hL2 => ?_)⟩, fun q => sp_R_memory hs1 hv hB1 hu (by omega) ho (fun w2 hy2 hF2 => ?_)⟩
  · rw [if_neg (by omega), if_neg (by omega), if_neg q3, if_neg q4] at h
    exact h _ hv hF1.1 (Lft.stay hF1 h31)
  · rw [if_neg (by omega), if_neg (by omega), if_neg q3, if_pos q4] at h
    exact h _ hy2 (hF1.1.tr hF2) (hL2.tr hF1)
  · rw [if_neg (by omega), if_neg (by omega), if_pos q3] at h
    simp only [↓s_111_85, kd_uF, ln_uF, ai_uF, al_uF, ar_uF, zs_uF, fd_uF, kd_uA, ln_uA, fd_uA, al_uA, ar_uA, zs_uA, ai_uA, kd_uL, ln_uL, fd_uL, ai_uL, ar_uL, zs_uL, al_uL, kd_uR, ln_uR, fd_uR, ai_uR, al_uR, zs_uR, ar_uR, true_and, and_true, Option.toList_some, Option.toList_none, List.cons_append, List.nil_append, catS_nil, catS_int, catS_ref, catS_null, catS_long, cat_int, cat_ref, cat_null, Nat.reduceEqDiff, Nat.reduceLeDiff, Nat.reduceAdd, false_and, and_false, if_false, if_true, ite_true, ite_false, true_or, or_true, false_or, or_false, and_self, forall_const, true_implies, reduceCtorEq, clr_int, clr_ref, clr_null, clr_none, clr_long, va_rf_some, va_rf_none]
    exact j100 _ (h _ hy2 (hF1.tr hF2).1 (Lft.stay (hF1.tr hF2) (op_3 h31)))
  · rw [if_neg (by omega), if_pos (by omega)] at h
    simp only [↓s_111_68, kd_uF, ln_uF, ai_uF, al_uF, ar_uF, zs_uF, fd_uF, kd_uA, ln_uA, fd_uA, al_uA, ar_uA, zs_uA, ai_uA, kd_uL, ln_uL, fd_uL, ai_uL, ar_uL, zs_uL, al_uL, kd_uR, ln_uR, fd_uR, ai_uR, al_uR, zs_uR, ar_uR, true_and, and_true, Option.toList_some, Option.toList_none, List.cons_append, List.nil_append, catS_nil, catS_int, catS_ref, catS_null, catS_long, cat_int, cat_ref, cat_null, Nat.reduceEqDiff, Nat.reduceLeDiff, Nat.reduceAdd, false_and, and_false, if_false, if_true, ite_true, ite_false, true_or, or_true, false_or, or_false, and_self, forall_const, true_implies, reduceCtorEq, clr_int, clr_ref, clr_null, clr_none, clr_long, va_rf_some, va_rf_none]
    exact j100 _ (h _ hy2 (hF1.1.tr hF2) (hL2.tr hF1))
  · rw [if_pos (by omega)] at h
    simp only [↓s_111_51, kd_uF, ln_uF, ai_uF, al_uF, ar_uF, zs_uF, fd_uF, kd_uA, ln_uA, fd_uA, al_uA, ar_uA, zs_uA, ai_uA, kd_uL, ln_uL, fd_uL, ai_uL, ar_uL, zs_uL, al_uL, kd_uR, ln_uR, fd_uR, ai_uR, al_uR, zs_uR, ar_uR, true_and, and_true, Option.toList_some, Option.toList_none, List.cons_append, List.nil_append, catS_nil, catS_int, catS_ref, catS_null, catS_long, cat_int, cat_ref, cat_null, Nat.reduceEqDiff, Nat.reduceLeDiff, Nat.reduceAdd, false_and, and_false, if_false, if_true, ite_true, ite_false, true_or, or_true, false_or, or_false, and_self, forall_const, true_implies, reduceCtorEq, clr_int, clr_ref, clr_null, clr_none, clr_long, va_rf_some, va_rf_none]
    exact j100 _ (h _ hy2 (hF1.tr hF2).1 (Lft.stay (hF1.tr hF2) (ref_3 h31)))
