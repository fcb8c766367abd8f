/-- how an instruction that may leave ends: the user's numbers, and running and left -/
def Lft (w w' : aw) (m : Nat) (y : us) : Prop := if y.1 3 = 2 then fd w' 521 m = fd w 521 m ∧ fd w' 522 m = fd w 522 m else fd w' 521 m = .int (-1) ∧ fd w' 522 m = .int 0
theorem Lft.stay {w w' : aw} {m u : Nat} {y : us} (h : FrN w w' m u) (hy : y.1 3 = 2) : Lft w w' m y := by unfold Lft; rw [if_pos hy]; exact ⟨h.2 _, h.2 _⟩
theorem Lft.go {w w' : aw} {m : Nat} {y : us} (h1 : fd w' 521 m = .int (-1)) (h2 : fd w' 522 m = .int 0) (hy : y.1 3 ≠ 2) : Lft w w' m y := by unfold Lft; rw [if_neg hy]; exact ⟨h1, h2⟩
theorem sp_R_skips {d : Nat} {w : aw} {m u z : Nat} {x : us} {Q : wQ} (hs : RSh w m) (hx : RU w m u x) (hB : UB x) (hu : u < 8) (h3 : x.1 3 = 2) (h : ∀ w', RU w' m u (i_test x z) → FrV w w' m u → Lft w w' m (i_test x z) → Q none w') : wpD (d + 2) 114 [.ref m, .int (nI u), .int (nI z)] w Q := by
  refine ⟨Nat.le_of_ble_eq_true rfl, ?_⟩
  show wp (d + 1) 114 Q 0 [some (.ref m), some (.int (nI u)), some (.int (nI z)), none] [] w 0 0
  have hin : inR (nI u) 8 := inR_nI hu (by decide)
  have cu : (nI u).toNatClampNeg = u := clN (by omega)
  have j132 : ∀ w' l3, Q none w' → wp (d + 1) 114 Q 132 [some (.ref m), some (.int (nI u)), some (.int (nI z)), l3] [] w' 0 0 := by
    intro w' l3 hq
    simp only [↓s_114_132]
    exact hq
  have j120 : ∀ w' v l3, RU w' m u v → FrN w w' m u → v.1 3 = 2 → (if z.testBit 1 then uS v 3 0 else v) = i_test x z → wp (d + 1) 114 Q 120 [some (.ref m), some (.int (nI u)), some (.int (nI z)), l3] [] w' 0 0 := by
    intro w' v l3 hv hF hv3 he
    have hs' := hF.sh hs
    simp only [↓s_114_120, ↓s_114_121, ↓s_114_122, ↓s_114_123, ↓s_114_126, ↓s_114_127, ↓s_114_128, ↓s_114_129, kd_uF, ln_uF, ai_uF, al_uF, ar_uF, zs_uF, fd_uF, kd_uA, ln_uA, fd_uA, al_uA, ar_uA, zs_uA, ai_uA, kd_uL, ln_uL, fd_uL, ai_uL, ar_uL, zs_uL, al_uL, kd_uR, ln_uR, fd_uR, ai_uR, al_uR, zs_uR, ar_uR, true_and, and_true, Option.toList_some, Option.toList_none, List.cons_append, List.nil_append, catS_nil, catS_int, catS_ref, catS_null, catS_long, cat_int, cat_ref, cat_null, Nat.reduceEqDiff, Nat.reduceLeDiff, Nat.reduceAdd, false_and, and_false, if_false, if_true, ite_true, ite_false, true_or, or_true, false_or, or_false, and_self, forall_const, true_implies, reduceCtorEq, clr_int, clr_ref, clr_null, clr_none, clr_long, va_rf_some, va_rf_none, bl1, hs'.1]
    refine ⟨fun q => j132 _ _ ?_, fun q => sp_R_leave (how := 0) hs' hv hu (fun w2 hv2 hF2 e1 e2 => j132 _ _ ?_)⟩
    · rw [q] at he
      rw [← he] at h
      exact h _ hv hF.1 (Lft.stay hF hv3)
    · rw [if_pos (by simpa using q)] at he
      rw [← he] at h
      exact h _ hv2 (hF.1.tr hF2) (Lft.go e1 e2 (by show ¬ (0 = 2); decide))
  have j99 : ∀ w' v l3, RU w' m u v → UB v → FrN w w' m u → v.1 3 = 2 → (let u := if z.testBit 2 then uS v 1 (v.1 1 ||| v.1 5) else v; if z.testBit 1 then uS u 3 0 else u) = i_test x z → wp (d + 1) 114 Q 99 [some (.ref m), some (.int (nI u)), some (.int (nI z)), l3] [] w' 0 0 := by
    intro w' v l3 hv hBv hF hv3 he
    have hs' := hF.sh hs
    have hv0 := hv
    obtain ⟨rk, r1, r2, r3, r4, r5, r6, r7, r8, r9, r10, r11, r12, r13, r14, r15, r16, r17, r18, r19, r20, r21, r22, r23, r24, k1, k2, k3, k4, k5, k6, k7, k8, k9, k10, k11, k12, k13, k14, k15, k16, k17, k18, k19, k20, k21, k22, k23, k24, n1, n2, n3, n4, n5, n6, n7, n8, n9, n10, n11, n12, n13, n14, n15, n16, n17, n18, n19, n20, n21, n22, n23, n24⟩ := hs'
    obtain ⟨t0, t1, t2, t3, t4, t5, t6, t7, t8, t9, mm, ff, pp, il, ix, ol, ox⟩ := hv
    simp only [↓s_114_99, ↓s_114_100, ↓s_114_101, ↓s_114_102, ↓s_114_105, ↓s_114_106, ↓s_114_109, ↓s_114_110, ↓s_114_111, ↓s_114_112, ↓s_114_113, ↓s_114_116, ↓s_114_117, ↓s_114_118, ↓s_114_119, kd_uF, ln_uF, ai_uF, al_uF, ar_uF, zs_uF, fd_uF, kd_uA, ln_uA, fd_uA, al_uA, ar_uA, zs_uA, ai_uA, kd_uL, ln_uL, fd_uL, ai_uL, ar_uL, zs_uL, al_uL, kd_uR, ln_uR, fd_uR, ai_uR, al_uR, zs_uR, ar_uR, true_and, and_true, Option.toList_some, Option.toList_none, List.cons_append, List.nil_append, catS_nil, catS_int, catS_ref, catS_null, catS_long, cat_int, cat_ref, cat_null, Nat.reduceEqDiff, Nat.reduceLeDiff, Nat.reduceAdd, false_and, and_false, if_false, if_true, ite_true, ite_false, true_or, or_true, false_or, or_false, and_self, forall_const, true_implies, reduceCtorEq, clr_int, clr_ref, clr_null, clr_none, clr_long, va_rf_some, va_rf_none, bl2, rk, r5, k5, n5, r10, k10, n10, cu, t1, t5]
    rw [or2]
    refine ⟨fun q => j120 w' v _ hv0 hF hv3 (by rw [q] at he; exact he), fun q => ⟨hin, hin, hin, j120 _ _ _ hv0.S1 (hF.one (by omega)) hv3 ?_⟩⟩
    have q' : z.testBit 2 = true := by simpa using q
    rw [q'] at he; exact he
  have j84 : ∀ w' v l3, RU w' m u v → UB v → FrN w w' m u → v.1 3 = 2 → (let u := if z.testBit 7 then uS v 1 0 else v; let u := if z.testBit 2 then uS u 1 (u.1 1 ||| u.1 5) else u; if z.testBit 1 then uS u 3 0 else u) = i_test x z → wp (d + 1) 114 Q 84 [some (.ref m), some (.int (nI u)), some (.int (nI z)), l3] [] w' 0 0 := by
    intro w' v l3 hv hBv hF hv3 he
    have hs' := hF.sh hs
    obtain ⟨rk, r1, r2, r3, r4, r5, r6, r7, r8, r9, r10, r11, r12, r13, r14, r15, r16, r17, r18, r19, r20, r21, r22, r23, r24, k1, k2, k3, k4, k5, k6, k7, k8, k9, k10, k11, k12, k13, k14, k15, k16, k17, k18, k19, k20, k21, k22, k23, k24, n1, n2, n3, n4, n5, n6, n7, n8, n9, n10, n11, n12, n13, n14, n15, n16, n17, n18, n19, n20, n21, n22, n23, n24⟩ := hs'
    simp only [↓s_114_84, ↓s_114_85, ↓s_114_88, ↓s_114_89, ↓s_114_92, ↓s_114_93, ↓s_114_96, ↓s_114_97, ↓s_114_98, kd_uF, ln_uF, ai_uF, al_uF, ar_uF, zs_uF, fd_uF, kd_uA, ln_uA, fd_uA, al_uA, ar_uA, zs_uA, ai_uA, kd_uL, ln_uL, fd_uL, ai_uL, ar_uL, zs_uL, al_uL, kd_uR, ln_uR, fd_uR, ai_uR, al_uR, zs_uR, ar_uR, true_and, and_true, Option.toList_some, Option.toList_none, List.cons_append, List.nil_append, catS_nil, catS_int, catS_ref, catS_null, catS_long, cat_int, cat_ref, cat_null, Nat.reduceEqDiff, Nat.reduceLeDiff, Nat.reduceAdd, false_and, and_false, if_false, if_true, ite_true, ite_false, true_or, or_true, false_or, or_false, and_self, forall_const, true_implies, reduceCtorEq, clr_int, clr_ref, clr_null, clr_none, clr_long, va_rf_some, va_rf_none, bl7, rk, r5, k5, n5, cu]
    refine ⟨fun q => j99 w' v _ hv hBv hF hv3 (by rw [q] at he; exact he), fun q => ⟨hin, j99 _ _ _ hv.S1 (hBv.S1 (by decide)) (hF.one (by omega)) hv3 ?_⟩⟩
    have q' : z.testBit 7 = true := by simpa using q
    rw [q'] at he; exact he
  have j81 : ∀ (c : Bool) l3, (i_cond x z != z.testBit 3) = c → wp (d + 1) 114 Q 81 [some (.ref m), some (.int (nI u)), some (.int (nI z)), l3] [.int (nI c.toNat), .int (nI u), .ref m] w 0 0 := by
    intro c l3 hc
    simp only [↓s_114_81, kd_uF, ln_uF, ai_uF, al_uF, ar_uF, zs_uF, fd_uF, kd_uA, ln_uA, fd_uA, al_uA, ar_uA, zs_uA, ai_uA, kd_uL, ln_uL, fd_uL, ai_uL, ar_uL, zs_uL, al_uL, kd_uR, ln_uR, fd_uR, ai_uR, al_uR, zs_uR, ar_uR, true_and, and_true, Option.toList_some, Option.toList_none, List.cons_append, List.nil_append, catS_nil, catS_int, catS_ref, catS_null, catS_long, cat_int, cat_ref, cat_null, Nat.reduceEqDiff, Nat.reduceLeDiff, Nat.reduceAdd, false_and, and_false, if_false, if_true, ite_true, ite_false, true_or, or_true, false_or, or_false, and_self, forall_const, true_implies, reduceCtorEq, clr_int, clr_ref, clr_null, clr_none, clr_long, va_rf_some, va_rf_none, hs.1]
    refine sp_R_skip hs hx hu hB.1 (fun w2 hv2 hF2 => j84 w2 _ _ hv2 hB.skipIf hF2 ?_ (by unfold i_test; rw [hc]))
    unfold i_skipIf; split <;> exact h3
  have j73 : ∀ (so wn : Bool), i_cond x z = so → z.testBit 3 = wn → wp (d + 1) 114 Q 73 [some (.ref m), some (.int (nI u)), some (.int (nI z)), some (.int (nI so.toNat))] [.int (nI wn.toNat), .int (nI so.toNat), .int (nI u), .ref m] w 0 0 := by
    intro so wn hso hwn
    simp only [↓s_114_73, ↓s_114_76, ↓s_114_77, ↓s_114_80, kd_uF, ln_uF, ai_uF, al_uF, ar_uF, zs_uF, fd_uF, kd_uA, ln_uA, fd_uA, al_uA, ar_uA, zs_uA, ai_uA, kd_uL, ln_uL, fd_uL, ai_uL, ar_uL, zs_uL, al_uL, kd_uR, ln_uR, fd_uR, ai_uR, al_uR, zs_uR, ar_uR, true_and, and_true, Option.toList_some, Option.toList_none, List.cons_append, List.nil_append, catS_nil, catS_int, catS_ref, catS_null, catS_long, cat_int, cat_ref, cat_null, Nat.reduceEqDiff, Nat.reduceLeDiff, Nat.reduceAdd, false_and, and_false, if_false, if_true, ite_true, ite_false, true_or, or_true, false_or, or_false, and_self, forall_const, true_implies, reduceCtorEq, clr_int, clr_ref, clr_null, clr_none, clr_long, va_rf_some, va_rf_none]
    refine ⟨fun q => j81 false _ ?_, fun q => j81 true _ ?_⟩
    · have : so = wn := by revert q; cases so <;> cases wn <;> first | (intro _; rfl) | (intro q; exact absurd q (by decide))
      rw [hso, hwn, this]; simp
    · have : so ≠ wn := fun e => q (by rw [e])
      rw [hso, hwn]; simp [this]
  have j57 : ∀ (so : Bool), i_cond x z = so → wp (d + 1) 114 Q 57 [some (.ref m), some (.int (nI u)), some (.int (nI z)), none] [.int (nI so.toNat)] w 0 0 := by
    intro so hso
    simp only [↓s_114_57, ↓s_114_58, ↓s_114_59, ↓s_114_60, ↓s_114_61, ↓s_114_62, ↓s_114_64, ↓s_114_65, ↓s_114_68, ↓s_114_69, ↓s_114_72, kd_uF, ln_uF, ai_uF, al_uF, ar_uF, zs_uF, fd_uF, kd_uA, ln_uA, fd_uA, al_uA, ar_uA, zs_uA, ai_uA, kd_uL, ln_uL, fd_uL, ai_uL, ar_uL, zs_uL, al_uL, kd_uR, ln_uR, fd_uR, ai_uR, al_uR, zs_uR, ar_uR, true_and, and_true, Option.toList_some, Option.toList_none, List.cons_append, List.nil_append, catS_nil, catS_int, catS_ref, catS_null, catS_long, cat_int, cat_ref, cat_null, Nat.reduceEqDiff, Nat.reduceLeDiff, Nat.reduceAdd, false_and, and_false, if_false, if_true, ite_true, ite_false, true_or, or_true, false_or, or_false, and_self, forall_const, true_implies, reduceCtorEq, clr_int, clr_ref, clr_null, clr_none, clr_long, va_rf_some, va_rf_none, bl3]
    exact ⟨fun q => j73 so false hso q, fun q => j73 so true hso (by simpa using q)⟩
  have j52 : i_cond x z = true → wp (d + 1) 114 Q 52 [some (.ref m), some (.int (nI u)), some (.int (nI z)), none] [] w 0 0 := by
    intro hq
    simp only [↓s_114_52, ↓s_114_53]
    exact j57 true hq
  have j56 : i_cond x z = false → wp (d + 1) 114 Q 56 [some (.ref m), some (.int (nI u)), some (.int (nI z)), none] [] w 0 0 := by
    intro hq
    simp only [↓s_114_56]
    exact j57 false hq
  have hx0 := hx
  obtain ⟨rk, r1, r2, r3, r4, r5, r6, r7, r8, r9, r10, r11, r12, r13, r14, r15, r16, r17, r18, r19, r20, r21, r22, r23, r24, k1, k2, k3, k4, k5, k6, k7, k8, k9, k10, k11, k12, k13, k14, k15, k16, k17, k18, k19, k20, k21, k22, k23, k24, n1, n2, n3, n4, n5, n6, n7, n8, n9, n10, n11, n12, n13, n14, n15, n16, n17, n18, n19, n20, n21, n22, n23, n24⟩ := hs
  obtain ⟨t0, t1, t2, t3, t4, t5, t6, t7, t8, t9, mm, ff, pp, il, ix, ol, ox⟩ := hx
  have c1 : (nI (x.1 2) = 1) ↔ x.1 2 = 1 := by rw [show (1 : Int32) = nI 1 from rfl, nI_eq (by have := hB.2.2.1; omega) (by decide)]
  have c2 : (nI (x.1 1) = 0) ↔ x.1 1 = 0 := by rw [show (0 : Int32) = nI 0 from rfl, nI_eq (by have := hB.2.1; omega) (by decide)]
  have c3 : ((2048 : Int32) ≤ nI (x.1 1)) ↔ 2048 ≤ x.1 1 := by rw [show (2048 : Int32) = nI 2048 from rfl, nI_leI (by decide) (by have := hB.2.1; omega)]
  have j35 : (z.testBit 6 && decide (2048 ≤ x.1 1)) = false → (z.testBit 5 && decide (x.1 1 = 0)) = false → wp (d + 1) 114 Q 35 [some (.ref m), some (.int (nI u)), some (.int (nI z)), none] [] w 0 0 := by
    intro g1 g2
    simp only [↓s_114_35, ↓s_114_36, ↓s_114_38, ↓s_114_39, ↓s_114_42, ↓s_114_43, ↓s_114_46, ↓s_114_47, ↓s_114_48, ↓s_114_49, kd_uF, ln_uF, ai_uF, al_uF, ar_uF, zs_uF, fd_uF, kd_uA, ln_uA, fd_uA, al_uA, ar_uA, zs_uA, ai_uA, kd_uL, ln_uL, fd_uL, ai_uL, ar_uL, zs_uL, al_uL, kd_uR, ln_uR, fd_uR, ai_uR, al_uR, zs_uR, ar_uR, true_and, and_true, Option.toList_some, Option.toList_none, List.cons_append, List.nil_append, catS_nil, catS_int, catS_ref, catS_null, catS_long, cat_int, cat_ref, cat_null, Nat.reduceEqDiff, Nat.reduceLeDiff, Nat.reduceAdd, false_and, and_false, if_false, if_true, ite_true, ite_false, true_or, or_true, false_or, or_false, and_self, forall_const, true_implies, reduceCtorEq, clr_int, clr_ref, clr_null, clr_none, clr_long, va_rf_some, va_rf_none, bl4, rk, r7, k7, n7, cu, t2, c1]
    refine ⟨fun q => j56 ?_, fun q => ⟨hin, fun q2 => j56 ?_, fun q2 => j52 ?_⟩⟩
    · unfold i_cond; rw [g1, g2, q]; rfl
    · unfold i_cond; rw [g1, g2]; simp [q2]
    · unfold i_cond; rw [g1, g2]; simp [q2, show z.testBit 4 = true by simpa using q]
  have j19 : (z.testBit 6 && decide (2048 ≤ x.1 1)) = false → wp (d + 1) 114 Q 19 [some (.ref m), some (.int (nI u)), some (.int (nI z)), none] [] w 0 0 := by
    intro g1
    simp only [↓s_114_19, ↓s_114_20, ↓s_114_22, ↓s_114_23, ↓s_114_26, ↓s_114_27, ↓s_114_30, ↓s_114_31, ↓s_114_32, kd_uF, ln_uF, ai_uF, al_uF, ar_uF, zs_uF, fd_uF, kd_uA, ln_uA, fd_uA, al_uA, ar_uA, zs_uA, ai_uA, kd_uL, ln_uL, fd_uL, ai_uL, ar_uL, zs_uL, al_uL, kd_uR, ln_uR, fd_uR, ai_uR, al_uR, zs_uR, ar_uR, true_and, and_true, Option.toList_some, Option.toList_none, List.cons_append, List.nil_append, catS_nil, catS_int, catS_ref, catS_null, catS_long, cat_int, cat_ref, cat_null, Nat.reduceEqDiff, Nat.reduceLeDiff, Nat.reduceAdd, false_and, and_false, if_false, if_true, ite_true, ite_false, true_or, or_true, false_or, or_false, and_self, forall_const, true_implies, reduceCtorEq, clr_int, clr_ref, clr_null, clr_none, clr_long, va_rf_some, va_rf_none, bl5, rk, r5, k5, n5, cu, t1, c2]
    refine ⟨fun q => j35 g1 (by rw [q]; rfl), fun q => ⟨hin, fun q2 => j52 ?_, fun q2 => j35 g1 (by simp [q2])⟩⟩
    unfold i_cond; rw [g1]; simp [q2, show z.testBit 5 = true by simpa using q]
  simp only [↓s_114_0, ↓s_114_1, ↓s_114_3, ↓s_114_4, ↓s_114_7, ↓s_114_8, ↓s_114_11, ↓s_114_12, ↓s_114_13, ↓s_114_16, kd_uF, ln_uF, ai_uF, al_uF, ar_uF, zs_uF, fd_uF, kd_uA, ln_uA, fd_uA, al_uA, ar_uA, zs_uA, ai_uA, kd_uL, ln_uL, fd_uL, ai_uL, ar_uL, zs_uL, al_uL, kd_uR, ln_uR, fd_uR, ai_uR, al_uR, zs_uR, ar_uR, true_and, and_true, Option.toList_some, Option.toList_none, List.cons_append, List.nil_append, catS_nil, catS_int, catS_ref, catS_null, catS_long, cat_int, cat_ref, cat_null, Nat.reduceEqDiff, Nat.reduceLeDiff, Nat.reduceAdd, false_and, and_false, if_false, if_true, ite_true, ite_false, true_or, or_true, false_or, or_false, and_self, forall_const, true_implies, reduceCtorEq, clr_int, clr_ref, clr_null, clr_none, clr_long, va_rf_some, va_rf_none, bl6, rk, r5, k5, n5, cu, t1, c3]
  refine ⟨fun q => j19 (by rw [q]; rfl), fun q => ⟨hin, fun q2 => j52 ?_, fun q2 => j19 (by simp [q2])⟩⟩
  unfold i_cond; simp [q2, show z.testBit 6 = true by simpa using q]
