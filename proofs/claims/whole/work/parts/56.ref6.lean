theorem sp_R_device {d : Nat} {w : aw} {m u z own : Nat} {x : us} {Q : wQ} (hs : RSh w m) (hx : RU w m u x) (hB : UB x) (hu : u < 8) (hz : z < 4096) (ho : own < 4096) (h3 : x.1 3 = 2) (h : ∀ w', RU w' m u (i_dev u x z own) → FrV w w' m u → Lft w w' m (i_dev u x z own) → Q none w') : wpD (d + 3) 115 [.ref m, .int (nI u), .int (nI z), .int (nI own)] w Q := by
  refine ⟨Nat.le_of_ble_eq_true rfl, ?_⟩
  show wp (d + 2) 115 Q 0 [some (.ref m), some (.int (nI u)), some (.int (nI z)), some (.int (nI own))] [] w 0 0
  have hin : inR (nI u) 8 := inR_nI hu (by decide)
  have cu : (nI u).toNatClampNeg = u := clN (by omega)
  have j321 : ∀ w2, Q none w2 → wp (d + 2) 115 Q 321 [some (.ref m), some (.int (nI u)), some (.int (nI z)), some (.int (nI own))] [] w2 0 0 := by
    intro w2 hq
    simp only [↓s_115_321]
    exact hq
  have nop : (z ≠ 3097 ∧ z ≠ 3102 ∧ z ≠ 3105 ∧ z ≠ 3110 ∧ z ≠ 3113 ∧ z ≠ 3114 ∧ z ≠ 3115 ∧ z ≠ 3116) → i_dev u x z own = x := by
    intro hq
    unfold i_dev
    rw [if_neg hq.1, if_neg hq.2.1, if_neg hq.2.2.1, if_neg hq.2.2.2.1, if_neg hq.2.2.2.2.1, if_neg hq.2.2.2.2.2.1, if_neg hq.2.2.2.2.2.2.1, if_neg hq.2.2.2.2.2.2.2]
  have j321' : (z ≠ 3097 ∧ z ≠ 3102 ∧ z ≠ 3105 ∧ z ≠ 3110 ∧ z ≠ 3113 ∧ z ≠ 3114 ∧ z ≠ 3115 ∧ z ≠ 3116) → wp (d + 2) 115 Q 321 [some (.ref m), some (.int (nI u)), some (.int (nI z)), some (.int (nI own))] [] w 0 0 :=
    fun hq => j321 _ (h _ (by rw [nop hq]; exact hx) FrV.rf (Lft.stay (u := u) FrN.rf (by rw [nop hq]; exact h3)))
  have hs0 := hs
  have hx0 := hx
  have hli := hB.2.2.2.2.2.2.2.2.2.2.2.1
  have hlo := hB.2.2.2.2.2.2.2.2.2.2.2.2.1
  obtain ⟨rk, r1, r2, r3, r4, r5, r6, r7, r8, r9, r10, r11, r12, r13, r14, r15, r16, r17, r18, r19, r20, r21, r22, r23, r24, k1, k2, k3, k4, k5, k6, k7, k8, k9, k10, k11, k12, k13, k14, k15, k16, k17, k18, k19, k20, k21, k22, k23, k24, n1, n2, n3, n4, n5, n6, n7, n8, n9, n10, n11, n12, n13, n14, n15, n16, n17, n18, n19, n20, n21, n22, n23, n24⟩ := hs
  obtain ⟨t0, t1, t2, t3, t4, t5, t6, t7, t8, t9, mm, ff, pp, il, ix, ol, ox⟩ := hx
  simp only [↓s_115_0, ↓s_115_1, kd_uF, ln_uF, ai_uF, al_uF, ar_uF, zs_uF, fd_uF, kd_uA, ln_uA, fd_uA, al_uA, ar_uA, zs_uA, ai_uA, kd_uL, ln_uL, fd_uL, ai_uL, ar_uL, zs_uL, al_uL, kd_uR, ln_uR, fd_uR, ai_uR, al_uR, zs_uR, ar_uR, true_and, and_true, Option.toList_some, Option.toList_none, List.cons_append, List.nil_append, catS_nil, catS_int, catS_ref, catS_null, catS_long, cat_int, cat_ref, cat_null, Nat.reduceEqDiff, Nat.reduceLeDiff, Nat.reduceAdd, false_and, and_false, if_false, if_true, ite_true, ite_false, true_or, or_true, false_or, or_false, and_self, forall_const, true_implies, reduceCtorEq, clr_int, clr_ref, clr_null, clr_none, clr_long, va_rf_some, va_rf_none]
  refine tsw (l := 3097) rfl (by omega) rfl rfl (fun i t hi e => ?_) (fun hq => j321' (by simp at hq; omega))
  rcases i with _ | _ | _ | _ | _ | _ | _ | _ | _ | _ | _ | _ | _ | _ | _ | _ | _ | _ | _ | _ | i
  · cases hi
    have ex : z = 3097 := by omega
    have he : i_dev u x z own = i_skipIf x (decide (0 < (uIn x).length)) := by unfold i_dev; rw [if_pos ex]
    rw [he] at h
    simp only [↓s_115_96, ↓s_115_97, ↓s_115_98, ↓s_115_99, ↓s_115_102, ↓s_115_103, ↓s_115_104, ↓s_115_107, ↓s_115_108, ↓s_115_111, ↓s_115_112, kd_uF, ln_uF, ai_uF, al_uF, ar_uF, zs_uF, fd_uF, kd_uA, ln_uA, fd_uA, al_uA, ar_uA, zs_uA, ai_uA, kd_uL, ln_uL, fd_uL, ai_uL, ar_uL, zs_uL, al_uL, kd_uR, ln_uR, fd_uR, ai_uR, al_uR, zs_uR, ar_uR, true_and, and_true, Option.toList_some, Option.toList_none, List.cons_append, List.nil_append, catS_nil, catS_int, catS_ref, catS_null, catS_long, cat_int, cat_ref, cat_null, Nat.reduceEqDiff, Nat.reduceLeDiff, Nat.reduceAdd, false_and, and_false, if_false, if_true, ite_true, ite_false, true_or, or_true, false_or, or_false, and_self, forall_const, true_implies, reduceCtorEq, clr_int, clr_ref, clr_null, clr_none, clr_long, va_rf_some, va_rf_none, rk, r14, k14, n14, cu, il]
    rw [show (0 : Int32) = nI 0 from rfl, nI_leI (by omega) (by decide)]
    refine ⟨hin, fun q => sp_R_skip (c := false) hs0 hx0 hu hB.1 (fun w2 hv2 hF2 => ?_), fun q => sp_R_skip (c := true) hs0 hx0 hu hB.1 (fun w2 hv2 hF2 => ?_)⟩
    · simp only [↓s_115_115, kd_uF, ln_uF, ai_uF, al_uF, ar_uF, zs_uF, fd_uF, kd_uA, ln_uA, fd_uA, al_uA, ar_uA, zs_uA, ai_uA, kd_uL, ln_uL, fd_uL, ai_uL, ar_uL, zs_uL, al_uL, kd_uR, ln_uR, fd_uR, ai_uR, al_uR, zs_uR, ar_uR, true_and, and_true, Option.toList_some, Option.toList_none, List.cons_append, List.nil_append, catS_nil, catS_int, catS_ref, catS_null, catS_long, cat_int, cat_ref, cat_null, Nat.reduceEqDiff, Nat.reduceLeDiff, Nat.reduceAdd, false_and, and_false, if_false, if_true, ite_true, ite_false, true_or, or_true, false_or, or_false, and_self, forall_const, true_implies, reduceCtorEq, clr_int, clr_ref, clr_null, clr_none, clr_long, va_rf_some, va_rf_none]
      rw [show decide (0 < (uIn x).length) = false by rw [decide_eq_false_iff_not]; omega] at h
      exact j321 _ (h _ hv2 hF2.1 (Lft.stay hF2 h3))
    · simp only [↓s_115_115, kd_uF, ln_uF, ai_uF, al_uF, ar_uF, zs_uF, fd_uF, kd_uA, ln_uA, fd_uA, al_uA, ar_uA, zs_uA, ai_uA, kd_uL, ln_uL, fd_uL, ai_uL, ar_uL, zs_uL, al_uL, kd_uR, ln_uR, fd_uR, ai_uR, al_uR, zs_uR, ar_uR, true_and, and_true, Option.toList_some, Option.toList_none, List.cons_append, List.nil_append, catS_nil, catS_int, catS_ref, catS_null, catS_long, cat_int, cat_ref, cat_null, Nat.reduceEqDiff, Nat.reduceLeDiff, Nat.reduceAdd, false_and, and_false, if_false, if_true, ite_true, ite_false, true_or, or_true, false_or, or_false, and_self, forall_const, true_implies, reduceCtorEq, clr_int, clr_ref, clr_null, clr_none, clr_long, va_rf_some, va_rf_none]
      rw [show decide (0 < (uIn x).length) = true by rw [decide_eq_true_eq]; omega] at h
      exact j321 _ (h _ hv2 hF2.1 (Lft.stay hF2 h3))
  · cases hi
    exact j321' (by omega)
  · cases hi
    exact j321' (by omega)
  · cases hi
    exact j321' (by omega)
  · cases hi
    exact j321' (by omega)
  · cases hi
    have ex : z = 3102 := by omega
    simp only [↓s_115_118, ↓s_115_119, ↓s_115_122, ↓s_115_123, ↓s_115_124, ↓s_115_127, ↓s_115_128, ↓s_115_131, ↓s_115_132, ↓s_115_133, ↓s_115_134, ↓s_115_135, ↓s_115_136, ↓s_115_137, ↓s_115_143, ↓s_115_144, ↓s_115_147, ↓s_115_148, ↓s_115_149, ↓s_115_152, ↓s_115_153, ↓s_115_156, ↓s_115_157, kd_uF, ln_uF, ai_uF, al_uF, ar_uF, zs_uF, fd_uF, kd_uA, ln_uA, fd_uA, al_uA, ar_uA, zs_uA, ai_uA, kd_uL, ln_uL, fd_uL, ai_uL, ar_uL, zs_uL, al_uL, kd_uR, ln_uR, fd_uR, ai_uR, al_uR, zs_uR, ar_uR, true_and, and_true, Option.toList_some, Option.toList_none, List.cons_append, List.nil_append, catS_nil, catS_int, catS_ref, catS_null, catS_long, cat_int, cat_ref, cat_null, Nat.reduceEqDiff, Nat.reduceLeDiff, Nat.reduceAdd, false_and, and_false, if_false, if_true, ite_true, ite_false, true_or, or_true, false_or, or_false, and_self, forall_const, true_implies, reduceCtorEq, clr_int, clr_ref, clr_null, clr_none, clr_long, va_rf_some, va_rf_none, rk, r14, k14, n14, r6, k6, n6, r5, k5, n5, r13, cu, il]
    rw [show (0 : Int32) = nI 0 from rfl, nI_eq (by omega) (by decide)]
    cases hxs : uIn x with
    | nil =>
      have he : i_dev u x z own = i_wait x own 3 := by unfold i_dev; rw [if_neg (by omega), if_pos ex, hxs]
      rw [he] at h
      refine ⟨hin, fun q => absurd (by rfl) q, fun _ => ⟨hin, sp_R_leave (how := 3) (x := uS x 0 own) hs0 hx0.S0 hu (fun w2 hv2 hF2 e1 e2 => ?_)⟩⟩
      simp only [↓s_115_140, kd_uF, ln_uF, ai_uF, al_uF, ar_uF, zs_uF, fd_uF, kd_uA, ln_uA, fd_uA, al_uA, ar_uA, zs_uA, ai_uA, kd_uL, ln_uL, fd_uL, ai_uL, ar_uL, zs_uL, al_uL, kd_uR, ln_uR, fd_uR, ai_uR, al_uR, zs_uR, ar_uR, true_and, and_true, Option.toList_some, Option.toList_none, List.cons_append, List.nil_append, catS_nil, catS_int, catS_ref, catS_null, catS_long, cat_int, cat_ref, cat_null, Nat.reduceEqDiff, Nat.reduceLeDiff, Nat.reduceAdd, false_and, and_false, if_false, if_true, ite_true, ite_false, true_or, or_true, false_or, or_false, and_self, forall_const, true_implies, reduceCtorEq, clr_int, clr_ref, clr_null, clr_none, clr_long, va_rf_some, va_rf_none]
      exact j321 _ (h _ hv2 ((FrN.rf.one (by omega)).1.tr hF2) (Lft.go e1 e2 (by show ¬ (3 = 2); decide)))
    | cons c r =>
      have he : i_dev u x z own = uS (uInp x r) 1 c := by unfold i_dev; rw [if_neg (by omega), if_pos ex, hxs]
      rw [he] at h
      rw [hxs] at il ix hli
      refine ⟨hin, fun _ => sp_R_taken (c := c) (r := r) k13 n13 k14 n14 (by omega) hu il (by simp at hli; omega) ix (fun w2 hT e1 e2 => ?_), fun q => absurd q (by simp)⟩
      have hF2 : FrN w w2 m u := hT.F (Or.inl ⟨rfl, rfl⟩)
      simp only [↓s_115_160, ↓s_115_161, kd_uF, ln_uF, ai_uF, al_uF, ar_uF, zs_uF, fd_uF, kd_uA, ln_uA, fd_uA, al_uA, ar_uA, zs_uA, ai_uA, kd_uL, ln_uL, fd_uL, ai_uL, ar_uL, zs_uL, al_uL, kd_uR, ln_uR, fd_uR, ai_uR, al_uR, zs_uR, ar_uR, true_and, and_true, Option.toList_some, Option.toList_none, List.cons_append, List.nil_append, catS_nil, catS_int, catS_ref, catS_null, catS_long, cat_int, cat_ref, cat_null, Nat.reduceEqDiff, Nat.reduceLeDiff, Nat.reduceAdd, false_and, and_false, if_false, if_true, ite_true, ite_false, true_or, or_true, false_or, or_false, and_self, forall_const, true_implies, reduceCtorEq, clr_int, clr_ref, clr_null, clr_none, clr_long, va_rf_some, va_rf_none, hT.1, hT.2.1, k5, n5, cu]
      exact ⟨hin, j321 _ (h _ (hx0.Inp hT e1 e2 hu).S1 (hF2.one (by omega)).1 (Lft.stay (hF2.one (by omega)) h3))⟩
  · cases hi
    exact j321' (by omega)
  · cases hi
    exact j321' (by omega)
  · cases hi
    have ex : z = 3105 := by omega
    have he : i_dev u x z own = i_skipIf x (decide ((uOt x).length < 16)) := by unfold i_dev; rw [if_neg (by omega), if_neg (by omega), if_pos ex]
    rw [he] at h
    simp only [↓s_115_164, ↓s_115_165, ↓s_115_166, ↓s_115_167, ↓s_115_170, ↓s_115_171, ↓s_115_172, ↓s_115_174, ↓s_115_177, ↓s_115_178, ↓s_115_181, ↓s_115_182, kd_uF, ln_uF, ai_uF, al_uF, ar_uF, zs_uF, fd_uF, kd_uA, ln_uA, fd_uA, al_uA, ar_uA, zs_uA, ai_uA, kd_uL, ln_uL, fd_uL, ai_uL, ar_uL, zs_uL, al_uL, kd_uR, ln_uR, fd_uR, ai_uR, al_uR, zs_uR, ar_uR, true_and, and_true, Option.toList_some, Option.toList_none, List.cons_append, List.nil_append, catS_nil, catS_int, catS_ref, catS_null, catS_long, cat_int, cat_ref, cat_null, Nat.reduceEqDiff, Nat.reduceLeDiff, Nat.reduceAdd, false_and, and_false, if_false, if_true, ite_true, ite_false, true_or, or_true, false_or, or_false, and_self, forall_const, true_implies, reduceCtorEq, clr_int, clr_ref, clr_null, clr_none, clr_long, va_rf_some, va_rf_none, rk, r16, k16, n16, cu, ol]
    rw [show (16 : Int32) = nI 16 from rfl, nI_leI (by decide) (by omega)]
    refine ⟨hin, fun q => sp_R_skip (c := false) hs0 hx0 hu hB.1 (fun w2 hv2 hF2 => ?_), fun q => sp_R_skip (c := true) hs0 hx0 hu hB.1 (fun w2 hv2 hF2 => ?_)⟩
    · simp only [↓s_115_185, kd_uF, ln_uF, ai_uF, al_uF, ar_uF, zs_uF, fd_uF, kd_uA, ln_uA, fd_uA, al_uA, ar_uA, zs_uA, ai_uA, kd_uL, ln_uL, fd_uL, ai_uL, ar_uL, zs_uL, al_uL, kd_uR, ln_uR, fd_uR, ai_uR, al_uR, zs_uR, ar_uR, true_and, and_true, Option.toList_some, Option.toList_none, List.cons_append, List.nil_append, catS_nil, catS_int, catS_ref, catS_null, catS_long, cat_int, cat_ref, cat_null, Nat.reduceEqDiff, Nat.reduceLeDiff, Nat.reduceAdd, false_and, and_false, if_false, if_true, ite_true, ite_false, true_or, or_true, false_or, or_false, and_self, forall_const, true_implies, reduceCtorEq, clr_int, clr_ref, clr_null, clr_none, clr_long, va_rf_some, va_rf_none]
      rw [show decide ((uOt x).length < 16) = false by rw [decide_eq_false_iff_not]; omega] at h
      exact j321 _ (h _ hv2 hF2.1 (Lft.stay hF2 h3))
    · simp only [↓s_115_185, kd_uF, ln_uF, ai_uF, al_uF, ar_uF, zs_uF, fd_uF, kd_uA, ln_uA, fd_uA, al_uA, ar_uA, zs_uA, ai_uA, kd_uL, ln_uL, fd_uL, ai_uL, ar_uL, zs_uL, al_uL, kd_uR, ln_uR, fd_uR, ai_uR, al_uR, zs_uR, ar_uR, true_and, and_true, Option.toList_some, Option.toList_none, List.cons_append, List.nil_append, catS_nil, catS_int, catS_ref, catS_null, catS_long, cat_int, cat_ref, cat_null, Nat.reduceEqDiff, Nat.reduceLeDiff, Nat.reduceAdd, false_and, and_false, if_false, if_true, ite_true, ite_false, true_or, or_true, false_or, or_false, and_self, forall_const, true_implies, reduceCtorEq, clr_int, clr_ref, clr_null, clr_none, clr_long, va_rf_some, va_rf_none]
      rw [show decide ((uOt x).length < 16) = true by rw [decide_eq_true_eq]; omega] at h
      exact j321 _ (h _ hv2 hF2.1 (Lft.stay hF2 h3))
  · cases hi
    exact j321' (by omega)
  · cases hi
    exact j321' (by omega)
  · cases hi
    exact j321' (by omega)
  · cases hi
    exact j321' (by omega)
  · cases hi
    have ex : z = 3110 := by omega
    simp only [↓s_115_188, ↓s_115_189, ↓s_115_192, ↓s_115_193, ↓s_115_194, ↓s_115_196, ↓s_115_199, ↓s_115_200, ↓s_115_203, ↓s_115_204, ↓s_115_205, ↓s_115_206, ↓s_115_207, ↓s_115_208, ↓s_115_209, ↓s_115_215, ↓s_115_216, ↓s_115_219, ↓s_115_221, ↓s_115_222, ↓s_115_223, ↓s_115_224, ↓s_115_227, ↓s_115_228, ↓s_115_229, ↓s_115_230, ↓s_115_231, ↓s_115_234, ↓s_115_235, ↓s_115_236, ↓s_115_239, ↓s_115_240, ↓s_115_241, ↓s_115_242, ↓s_115_245, ↓s_115_246, ↓s_115_247, ↓s_115_248, ↓s_115_249, ↓s_115_250, ↓s_115_251, kd_uF, ln_uF, ai_uF, al_uF, ar_uF, zs_uF, fd_uF, kd_uA, ln_uA, fd_uA, al_uA, ar_uA, zs_uA, ai_uA, kd_uL, ln_uL, fd_uL, ai_uL, ar_uL, zs_uL, al_uL, kd_uR, ln_uR, fd_uR, ai_uR, al_uR, zs_uR, ar_uR, true_and, and_true, Option.toList_some, Option.toList_none, List.cons_append, List.nil_append, catS_nil, catS_int, catS_ref, catS_null, catS_long, cat_int, cat_ref, cat_null, Nat.reduceEqDiff, Nat.reduceLeDiff, Nat.reduceAdd, false_and, and_false, if_false, if_true, ite_true, ite_false, true_or, or_true, false_or, or_false, and_self, forall_const, true_implies, reduceCtorEq, clr_int, clr_ref, clr_null, clr_none, clr_long, va_rf_some, va_rf_none, rk, r16, k16, n16, r15, k15, n15, r6, k6, n6, r5, k5, n5, cu, ol, t1, show ¬ (m + 16 = m + 15) by omega]
    have e16 : (16 : Int32) * nI u + nI (uOt x).length = nI (16 * u + (uOt x).length) := by rw [show (16 : Int32) = nI 16 from rfl, pk_mul, nI_add]
    rw [e16, clN (by omega), m8 (by have := hB.2.1; omega), nI_1, show (16 : Int32) = nI 16 from rfl, nI_eq (by omega) (by decide)]
    refine ⟨hin, fun q => ?_, fun q => ?_⟩
    · have he : i_dev u x z own = uOut x (uOt x ++ [x.1 1 % 256]) := by unfold i_dev; rw [if_neg (by omega), if_neg (by omega), if_neg (by omega), if_pos ex, if_pos (by omega)]
      rw [he] at h
      have hT : TK w (uA (uA w (m + 15) (16 * u + (uOt x).length) (nI (x.1 1 % 256))) (m + 16) u (nI ((uOt x).length + 1))) (m + 15) (m + 16) u := (TK.rf.let (by omega)).many
      have hF2 := hT.F (Or.inr ⟨rfl, rfl⟩)
      refine ⟨hin, hin, inR_nI (by omega) (by decide), hin, hin, j321 _ (h _ (hx0.Out hT ?_ ?_ hu) hF2.1 (Lft.stay hF2 h3))⟩
      · rw [ai_uA, if_pos ⟨rfl, rfl⟩, List.length_append]; rfl
      · intro i hi
        rw [List.length_append] at hi
        rw [ai_uA, if_neg (by omega), ai_uA]
        by_cases e : i = (uOt x).length
        · rw [if_pos ⟨rfl, by omega⟩, e]; simp
        · have hlt : i < (uOt x).length := by simp at hi; omega
          rw [if_neg (by omega), ox i hlt]
          simp [List.getD_eq_getElem?_getD, List.getElem?_append_left hlt]
    · have he : i_dev u x z own = i_wait x own 4 := by unfold i_dev; rw [if_neg (by omega), if_neg (by omega), if_neg (by omega), if_pos ex, if_neg (by omega)]
      rw [he] at h
      refine ⟨hin, sp_R_leave (how := 4) (x := uS x 0 own) hs0 hx0.S0 hu (fun w2 hv2 hF2 e1 e2 => ?_)⟩
      simp only [↓s_115_212, kd_uF, ln_uF, ai_uF, al_uF, ar_uF, zs_uF, fd_uF, kd_uA, ln_uA, fd_uA, al_uA, ar_uA, zs_uA, ai_uA, kd_uL, ln_uL, fd_uL, ai_uL, ar_uL, zs_uL, al_uL, kd_uR, ln_uR, fd_uR, ai_uR, al_uR, zs_uR, ar_uR, true_and, and_true, Option.toList_some, Option.toList_none, List.cons_append, List.nil_append, catS_nil, catS_int, catS_ref, catS_null, catS_long, cat_int, cat_ref, cat_null, Nat.reduceEqDiff, Nat.reduceLeDiff, Nat.reduceAdd, false_and, and_false, if_false, if_true, ite_true, ite_false, true_or, or_true, false_or, or_false, and_self, forall_const, true_implies, reduceCtorEq, clr_int, clr_ref, clr_null, clr_none, clr_long, va_rf_some, va_rf_none]
      exact j321 _ (h _ hv2 ((FrN.rf.one (by omega)).1.tr hF2) (Lft.go e1 e2 (by show ¬ (4 = 2); decide)))
  · cases hi
    exact j321' (by omega)
  · cases hi
    exact j321' (by omega)
  · cases hi
    have ex : z = 3113 := by omega
    have he : i_dev u x z own = (if x.1 1 = 0 then x else uS (uS (uS x 3 5) 4 (x.1 1)) 1 0) := by unfold i_dev; rw [if_neg (by omega), if_neg (by omega), if_neg (by omega), if_neg (by omega), if_pos ex]
    rw [he] at h
    simp only [↓s_115_254, ↓s_115_255, ↓s_115_258, ↓s_115_259, ↓s_115_260, ↓s_115_263, ↓s_115_264, ↓s_115_267, ↓s_115_268, ↓s_115_269, ↓s_115_272, ↓s_115_273, ↓s_115_274, ↓s_115_275, ↓s_115_276, ↓s_115_279, ↓s_115_280, ↓s_115_281, ↓s_115_282, ↓s_115_283, ↓s_115_284, ↓s_115_285, kd_uF, ln_uF, ai_uF, al_uF, ar_uF, zs_uF, fd_uF, kd_uA, ln_uA, fd_uA, al_uA, ar_uA, zs_uA, ai_uA, kd_uL, ln_uL, fd_uL, ai_uL, ar_uL, zs_uL, al_uL, kd_uR, ln_uR, fd_uR, ai_uR, al_uR, zs_uR, ar_uR, true_and, and_true, Option.toList_some, Option.toList_none, List.cons_append, List.nil_append, catS_nil, catS_int, catS_ref, catS_null, catS_long, cat_int, cat_ref, cat_null, Nat.reduceEqDiff, Nat.reduceLeDiff, Nat.reduceAdd, false_and, and_false, if_false, if_true, ite_true, ite_false, true_or, or_true, false_or, or_false, and_self, forall_const, true_implies, reduceCtorEq, clr_int, clr_ref, clr_null, clr_none, clr_long, va_rf_some, va_rf_none, rk, r5, k5, n5, r9, k9, n9, cu, t1]
    rw [show (0 : Int32) = nI 0 from rfl, nI_leI (by have := hB.2.1; omega) (by decide)]
    refine ⟨hin, fun q => ?_, fun q => ⟨hin, hin, hin, sp_R_leave (how := 5) (x := uS (uS x 4 (x.1 1)) 1 0) hs0 hx0.S4.S1 hu (fun w2 hv2 hF2 e1 e2 => ?_)⟩⟩
    · rw [if_pos (by omega)] at h
      exact j321 _ (h _ hx0 FrV.rf (Lft.stay (u := u) FrN.rf h3))
    · rw [if_neg (by omega)] at h
      have ee : uS (uS (uS x 4 (x.1 1)) 1 0) 3 5 = uS (uS (uS x 3 5) 4 (x.1 1)) 1 0 := by
        unfold uS
        dsimp only
        congr 1
        funext j
        unfold va_up
        by_cases h1 : j = 1
        · simp [h1]
        · by_cases h2 : j = 4
          · simp [h2]
          · by_cases h3 : j = 3 <;> simp [h1, h2, h3]
      rw [ee] at hv2
      simp only [↓s_115_288, kd_uF, ln_uF, ai_uF, al_uF, ar_uF, zs_uF, fd_uF, kd_uA, ln_uA, fd_uA, al_uA, ar_uA, zs_uA, ai_uA, kd_uL, ln_uL, fd_uL, ai_uL, ar_uL, zs_uL, al_uL, kd_uR, ln_uR, fd_uR, ai_uR, al_uR, zs_uR, ar_uR, true_and, and_true, Option.toList_some, Option.toList_none, List.cons_append, List.nil_append, catS_nil, catS_int, catS_ref, catS_null, catS_long, cat_int, cat_ref, cat_null, Nat.reduceEqDiff, Nat.reduceLeDiff, Nat.reduceAdd, false_and, and_false, if_false, if_true, ite_true, ite_false, true_or, or_true, false_or, or_false, and_self, forall_const, true_implies, reduceCtorEq, clr_int, clr_ref, clr_null, clr_none, clr_long, va_rf_some, va_rf_none]
      exact j321 _ (h _ hv2 (((FrN.rf.one (by omega)).one (by omega)).1.tr hF2) (Lft.go e1 e2 (by show ¬ (5 = 2); decide)))
  · cases hi
    have ex : z = 3114 := by omega
    have he : i_dev u x z own = i_block x true := by unfold i_dev; rw [if_neg (by omega), if_neg (by omega), if_neg (by omega), if_neg (by omega), if_neg (by omega), if_pos ex]
    rw [he] at h
    simp only [↓s_115_291, ↓s_115_292, ↓s_115_293, ↓s_115_294, ↓s_115_297, ↓s_115_300, ↓s_115_301, ↓s_115_304, ↓s_115_305, kd_uF, ln_uF, ai_uF, al_uF, ar_uF, zs_uF, fd_uF, kd_uA, ln_uA, fd_uA, al_uA, ar_uA, zs_uA, ai_uA, kd_uL, ln_uL, fd_uL, ai_uL, ar_uL, zs_uL, al_uL, kd_uR, ln_uR, fd_uR, ai_uR, al_uR, zs_uR, ar_uR, true_and, and_true, Option.toList_some, Option.toList_none, List.cons_append, List.nil_append, catS_nil, catS_int, catS_ref, catS_null, catS_long, cat_int, cat_ref, cat_null, Nat.reduceEqDiff, Nat.reduceLeDiff, Nat.reduceAdd, false_and, and_false, if_false, if_true, ite_true, ite_false, true_or, or_true, false_or, or_false, and_self, forall_const, true_implies, reduceCtorEq, clr_int, clr_ref, clr_null, clr_none, clr_long, va_rf_some, va_rf_none, rk]
    refine ⟨fun q => absurd (by rw [ex]; rfl) q, fun _ => sp_R_transfer (rd := true) hs0 hx0 hB hu (fun w2 hv2 hF2 => ?_)⟩
    simp only [↓s_115_308, kd_uF, ln_uF, ai_uF, al_uF, ar_uF, zs_uF, fd_uF, kd_uA, ln_uA, fd_uA, al_uA, ar_uA, zs_uA, ai_uA, kd_uL, ln_uL, fd_uL, ai_uL, ar_uL, zs_uL, al_uL, kd_uR, ln_uR, fd_uR, ai_uR, al_uR, zs_uR, ar_uR, true_and, and_true, Option.toList_some, Option.toList_none, List.cons_append, List.nil_append, catS_nil, catS_int, catS_ref, catS_null, catS_long, cat_int, cat_ref, cat_null, Nat.reduceEqDiff, Nat.reduceLeDiff, Nat.reduceAdd, false_and, and_false, if_false, if_true, ite_true, ite_false, true_or, or_true, false_or, or_false, and_self, forall_const, true_implies, reduceCtorEq, clr_int, clr_ref, clr_null, clr_none, clr_long, va_rf_some, va_rf_none]
    refine j321 _ (h _ hv2 hF2.1 (Lft.stay hF2 ?_))
    unfold i_block
    dsimp only
    split
    · exact h3
    · split <;> exact h3
  · cases hi
    have ex : z = 3115 := by omega
    have he : i_dev u x z own = i_block x false := by unfold i_dev; rw [if_neg (by omega), if_neg (by omega), if_neg (by omega), if_neg (by omega), if_neg (by omega), if_neg (by omega), if_pos ex]
    rw [he] at h
    simp only [↓s_115_291, ↓s_115_292, ↓s_115_293, ↓s_115_294, ↓s_115_297, ↓s_115_300, ↓s_115_301, ↓s_115_304, ↓s_115_305, kd_uF, ln_uF, ai_uF, al_uF, ar_uF, zs_uF, fd_uF, kd_uA, ln_uA, fd_uA, al_uA, ar_uA, zs_uA, ai_uA, kd_uL, ln_uL, fd_uL, ai_uL, ar_uL, zs_uL, al_uL, kd_uR, ln_uR, fd_uR, ai_uR, al_uR, zs_uR, ar_uR, true_and, and_true, Option.toList_some, Option.toList_none, List.cons_append, List.nil_append, catS_nil, catS_int, catS_ref, catS_null, catS_long, cat_int, cat_ref, cat_null, Nat.reduceEqDiff, Nat.reduceLeDiff, Nat.reduceAdd, false_and, and_false, if_false, if_true, ite_true, ite_false, true_or, or_true, false_or, or_false, and_self, forall_const, true_implies, reduceCtorEq, clr_int, clr_ref, clr_null, clr_none, clr_long, va_rf_some, va_rf_none, rk]
    refine ⟨fun _ => sp_R_transfer (rd := false) hs0 hx0 hB hu (fun w2 hv2 hF2 => ?_), fun q => absurd q (by rw [ex]; decide)⟩
    simp only [↓s_115_308, kd_uF, ln_uF, ai_uF, al_uF, ar_uF, zs_uF, fd_uF, kd_uA, ln_uA, fd_uA, al_uA, ar_uA, zs_uA, ai_uA, kd_uL, ln_uL, fd_uL, ai_uL, ar_uL, zs_uL, al_uL, kd_uR, ln_uR, fd_uR, ai_uR, al_uR, zs_uR, ar_uR, true_and, and_true, Option.toList_some, Option.toList_none, List.cons_append, List.nil_append, catS_nil, catS_int, catS_ref, catS_null, catS_long, cat_int, cat_ref, cat_null, Nat.reduceEqDiff, Nat.reduceLeDiff, Nat.reduceAdd, false_and, and_false, if_false, if_true, ite_true, ite_false, true_or, or_true, false_or, or_false, and_self, forall_const, true_implies, reduceCtorEq, clr_int, clr_ref, clr_null, clr_none, clr_long, va_rf_some, va_rf_none]
    refine j321 _ (h _ hv2 hF2.1 (Lft.stay hF2 ?_))
    unfold i_block
    dsimp only
    split
    · exact h3
    · split <;> exact h3
  · cases hi
    have ex : z = 3116 := by omega
    have he : i_dev u x z own = uS x 1 u := by unfold i_dev; rw [if_neg (by omega), if_neg (by omega), if_neg (by omega), if_neg (by omega), if_neg (by omega), if_neg (by omega), if_neg (by omega), if_pos ex]
    rw [he] at h
    simp only [↓s_115_311, ↓s_115_312, ↓s_115_315, ↓s_115_316, ↓s_115_317, ↓s_115_318, kd_uF, ln_uF, ai_uF, al_uF, ar_uF, zs_uF, fd_uF, kd_uA, ln_uA, fd_uA, al_uA, ar_uA, zs_uA, ai_uA, kd_uL, ln_uL, fd_uL, ai_uL, ar_uL, zs_uL, al_uL, kd_uR, ln_uR, fd_uR, ai_uR, al_uR, zs_uR, ar_uR, true_and, and_true, Option.toList_some, Option.toList_none, List.cons_append, List.nil_append, catS_nil, catS_int, catS_ref, catS_null, catS_long, cat_int, cat_ref, cat_null, Nat.reduceEqDiff, Nat.reduceLeDiff, Nat.reduceAdd, false_and, and_false, if_false, if_true, ite_true, ite_false, true_or, or_true, false_or, or_false, and_self, forall_const, true_implies, reduceCtorEq, clr_int, clr_ref, clr_null, clr_none, clr_long, va_rf_some, va_rf_none, rk, r5, k5, n5, cu]
    exact ⟨hin, j321 _ (h _ hx0.S1 (FrN.rf.one (by omega)).1 (Lft.stay (u := u) (FrN.rf.one (by omega)) h3))⟩
  · simp at hi
