theorem sp_U_device {d : Nat} {w : aw} {b n x own : Nat} {u : us} {Q : wQ} (hu : UAt w b n u) (hB : UB u) (hx : x < 4096) (ho : own < 4096) (h : ∀ w', UAt w' b n (i_dev n u x own) → FrU w w' b → Q none w') : wpD (d + 4) 70 [.ref b, .int (nI x), .int (nI own)] w Q := by
  refine ⟨Nat.le_of_ble_eq_true rfl, ?_⟩
  show wp (d + 3) 70 Q 0 [some (.ref b), some (.int (nI x)), some (.int (nI own))] [] w 0 0
  have hu0 := hu
  obtain ⟨h0, h1, h2, h3, h4, h5, h6, s0, s1, s2, s3, s4, s5, s6, s7, s8, s9, m1, m2, m3, f1, f2, f3, p1, p2, p3, li, lo⟩ := hu
  have k204 : ∀ w2, Q none w2 → wp (d + 3) 70 Q 204 [some (.ref b), some (.int (nI x)), some (.int (nI own))] [] w2 0 0 := by
    intro w2 hq
    simp only [↓s_70_204]
    exact hq
  have nop : (x ≠ 3097 ∧ x ≠ 3102 ∧ x ≠ 3105 ∧ x ≠ 3110 ∧ x ≠ 3113 ∧ x ≠ 3114 ∧ x ≠ 3115 ∧ x ≠ 3116) → i_dev n u x own = u := by
    intro hq
    unfold i_dev
    rw [if_neg hq.1, if_neg hq.2.1, if_neg hq.2.2.1, if_neg hq.2.2.2.1, if_neg hq.2.2.2.2.1, if_neg hq.2.2.2.2.2.1, if_neg hq.2.2.2.2.2.2.1, if_neg hq.2.2.2.2.2.2.2]
  have k204' : (x ≠ 3097 ∧ x ≠ 3102 ∧ x ≠ 3105 ∧ x ≠ 3110 ∧ x ≠ 3113 ∧ x ≠ 3114 ∧ x ≠ 3115 ∧ x ≠ 3116) → wp (d + 3) 70 Q 204 [some (.ref b), some (.int (nI x)), some (.int (nI own))] [] w 0 0 :=
    fun hq => k204 _ (h _ (by rw [nop hq]; exact hu0) FrU.rf)
  simp only [↓s_70_0, ↓s_70_1, kd_uF, ln_uF, ai_uF, al_uF, ar_uF, zs_uF, fd_uF, kd_uA, ln_uA, fd_uA, al_uA, ar_uA, zs_uA, ai_uA, kd_uL, ln_uL, fd_uL, ai_uL, ar_uL, zs_uL, al_uL, kd_uR, ln_uR, fd_uR, ai_uR, al_uR, zs_uR, ar_uR, true_and, and_true, Option.toList_some, Option.toList_none, List.cons_append, List.nil_append, catS_nil, catS_int, catS_ref, catS_null, catS_long, cat_int, cat_ref, cat_null, Nat.reduceEqDiff, Nat.reduceLeDiff, Nat.reduceAdd, false_and, and_false, if_false, if_true, ite_true, ite_false, true_or, or_true, false_or, or_false, and_self, forall_const, true_implies, reduceCtorEq, clr_int, clr_ref, clr_null, clr_none, clr_long, va_rf_some, va_rf_none]
  refine tsw (l := 3097) rfl (by omega) rfl rfl (fun i t hi e => ?_) (fun hq => k204' (by simp at hq; omega))
  have li0 := li
  have lo0' := lo
  obtain ⟨lk, lr, lk2, lln, lf, lfl, lfi, lsz, lle, lx⟩ := li0
  obtain ⟨ok, oq, ok2, oln, of, ofl, ofi, osz, ole, ox⟩ := lo0'
  rcases i with _ | _ | _ | _ | _ | _ | _ | _ | _ | _ | _ | _ | _ | _ | _ | _ | _ | _ | _ | _ | i
  · cases hi
    have ex : x = 3097 := by omega
    have he : i_dev n u x own = i_skipIf u (decide (0 < (uIn u).length)) := by unfold i_dev; rw [if_pos ex]
    rw [he] at h
    simp only [↓s_70_96, ↓s_70_97, ↓s_70_100, ↓s_70_103, ↓s_70_106, ↓s_70_107, kd_uF, ln_uF, ai_uF, al_uF, ar_uF, zs_uF, fd_uF, kd_uA, ln_uA, fd_uA, al_uA, ar_uA, zs_uA, ai_uA, kd_uL, ln_uL, fd_uL, ai_uL, ar_uL, zs_uL, al_uL, kd_uR, ln_uR, fd_uR, ai_uR, al_uR, zs_uR, ar_uR, true_and, and_true, Option.toList_some, Option.toList_none, List.cons_append, List.nil_append, catS_nil, catS_int, catS_ref, catS_null, catS_long, cat_int, cat_ref, cat_null, Nat.reduceEqDiff, Nat.reduceLeDiff, Nat.reduceAdd, false_and, and_false, if_false, if_true, ite_true, ite_false, true_or, or_true, false_or, or_false, and_self, forall_const, true_implies, reduceCtorEq, clr_int, clr_ref, clr_null, clr_none, clr_long, va_rf_some, va_rf_none, h0, h5, lk, lsz]
    rw [show (0 : Int32) = nI 0 from rfl, nI_leI (by omega) (by decide)]
    refine ⟨fun q => k204 _ (h _ ?_ FrU.rf), fun q => sp_U_skip hu0 hB.1 (fun w2 hu2 hF2 => ?_)⟩
    · unfold i_skipIf; rw [if_neg (by rw [decide_eq_true_eq]; omega)]; exact hu0
    · simp only [↓s_70_110, kd_uF, ln_uF, ai_uF, al_uF, ar_uF, zs_uF, fd_uF, kd_uA, ln_uA, fd_uA, al_uA, ar_uA, zs_uA, ai_uA, kd_uL, ln_uL, fd_uL, ai_uL, ar_uL, zs_uL, al_uL, kd_uR, ln_uR, fd_uR, ai_uR, al_uR, zs_uR, ar_uR, true_and, and_true, Option.toList_some, Option.toList_none, List.cons_append, List.nil_append, catS_nil, catS_int, catS_ref, catS_null, catS_long, cat_int, cat_ref, cat_null, Nat.reduceEqDiff, Nat.reduceLeDiff, Nat.reduceAdd, false_and, and_false, if_false, if_true, ite_true, ite_false, true_or, or_true, false_or, or_false, and_self, forall_const, true_implies, reduceCtorEq, clr_int, clr_ref, clr_null, clr_none, clr_long, va_rf_some, va_rf_none]
      refine k204 _ (h _ ?_ hF2)
      unfold i_skipIf; rw [if_pos (by rw [decide_eq_true_eq]; omega)]; exact hu2
  · cases hi
    exact k204' (by omega)
  · cases hi
    exact k204' (by omega)
  · cases hi
    exact k204' (by omega)
  · cases hi
    exact k204' (by omega)
  · cases hi
    have ex : x = 3102 := by omega
    have he : i_dev n u x own = (match uIn u with | [] => i_wait u own 3 | c :: r => uS (uInp u r) 1 c) := by unfold i_dev; rw [if_neg (by omega), if_pos ex]; cases uIn u <;> rfl
    rw [he] at h
    simp only [↓s_70_113, ↓s_70_114, ↓s_70_115, kd_uF, ln_uF, ai_uF, al_uF, ar_uF, zs_uF, fd_uF, kd_uA, ln_uA, fd_uA, al_uA, ar_uA, zs_uA, ai_uA, kd_uL, ln_uL, fd_uL, ai_uL, ar_uL, zs_uL, al_uL, kd_uR, ln_uR, fd_uR, ai_uR, al_uR, zs_uR, ar_uR, true_and, and_true, Option.toList_some, Option.toList_none, List.cons_append, List.nil_append, catS_nil, catS_int, catS_ref, catS_null, catS_long, cat_int, cat_ref, cat_null, Nat.reduceEqDiff, Nat.reduceLeDiff, Nat.reduceAdd, false_and, and_false, if_false, if_true, ite_true, ite_false, true_or, or_true, false_or, or_false, and_self, forall_const, true_implies, reduceCtorEq, clr_int, clr_ref, clr_null, clr_none, clr_long, va_rf_some, va_rf_none, h0]
    refine sp_U_readKey hu0 hB (fun w2 hu2 hF2 => ?_)
    simp only [↓s_70_118, kd_uF, ln_uF, ai_uF, al_uF, ar_uF, zs_uF, fd_uF, kd_uA, ln_uA, fd_uA, al_uA, ar_uA, zs_uA, ai_uA, kd_uL, ln_uL, fd_uL, ai_uL, ar_uL, zs_uL, al_uL, kd_uR, ln_uR, fd_uR, ai_uR, al_uR, zs_uR, ar_uR, true_and, and_true, Option.toList_some, Option.toList_none, List.cons_append, List.nil_append, catS_nil, catS_int, catS_ref, catS_null, catS_long, cat_int, cat_ref, cat_null, Nat.reduceEqDiff, Nat.reduceLeDiff, Nat.reduceAdd, false_and, and_false, if_false, if_true, ite_true, ite_false, true_or, or_true, false_or, or_false, and_self, forall_const, true_implies, reduceCtorEq, clr_int, clr_ref, clr_null, clr_none, clr_long, va_rf_some, va_rf_none]
    exact k204 _ (h _ hu2 hF2)
  · cases hi
    exact k204' (by omega)
  · cases hi
    exact k204' (by omega)
  · cases hi
    have ex : x = 3105 := by omega
    have he : i_dev n u x own = i_skipIf u (decide ((uOt u).length < 16)) := by unfold i_dev; rw [if_neg (by omega), if_neg (by omega), if_pos ex]
    rw [he] at h
    simp only [↓s_70_121, ↓s_70_122, ↓s_70_125, ↓s_70_128, ↓s_70_130, ↓s_70_133, ↓s_70_134, kd_uF, ln_uF, ai_uF, al_uF, ar_uF, zs_uF, fd_uF, kd_uA, ln_uA, fd_uA, al_uA, ar_uA, zs_uA, ai_uA, kd_uL, ln_uL, fd_uL, ai_uL, ar_uL, zs_uL, al_uL, kd_uR, ln_uR, fd_uR, ai_uR, al_uR, zs_uR, ar_uR, true_and, and_true, Option.toList_some, Option.toList_none, List.cons_append, List.nil_append, catS_nil, catS_int, catS_ref, catS_null, catS_long, cat_int, cat_ref, cat_null, Nat.reduceEqDiff, Nat.reduceLeDiff, Nat.reduceAdd, false_and, and_false, if_false, if_true, ite_true, ite_false, true_or, or_true, false_or, or_false, and_self, forall_const, true_implies, reduceCtorEq, clr_int, clr_ref, clr_null, clr_none, clr_long, va_rf_some, va_rf_none, h0, h6, ok, osz]
    rw [show (16 : Int32) = nI 16 from rfl, nI_leI (by decide) (by omega)]
    refine ⟨fun q => k204 _ (h _ ?_ FrU.rf), fun q => sp_U_skip hu0 hB.1 (fun w2 hu2 hF2 => ?_)⟩
    · unfold i_skipIf; rw [if_neg (by rw [decide_eq_true_eq]; omega)]; exact hu0
    · simp only [↓s_70_137, kd_uF, ln_uF, ai_uF, al_uF, ar_uF, zs_uF, fd_uF, kd_uA, ln_uA, fd_uA, al_uA, ar_uA, zs_uA, ai_uA, kd_uL, ln_uL, fd_uL, ai_uL, ar_uL, zs_uL, al_uL, kd_uR, ln_uR, fd_uR, ai_uR, al_uR, zs_uR, ar_uR, true_and, and_true, Option.toList_some, Option.toList_none, List.cons_append, List.nil_append, catS_nil, catS_int, catS_ref, catS_null, catS_long, cat_int, cat_ref, cat_null, Nat.reduceEqDiff, Nat.reduceLeDiff, Nat.reduceAdd, false_and, and_false, if_false, if_true, ite_true, ite_false, true_or, or_true, false_or, or_false, and_self, forall_const, true_implies, reduceCtorEq, clr_int, clr_ref, clr_null, clr_none, clr_long, va_rf_some, va_rf_none]
      refine k204 _ (h _ ?_ hF2)
      unfold i_skipIf; rw [if_pos (by rw [decide_eq_true_eq]; omega)]; exact hu2
  · cases hi
    exact k204' (by omega)
  · cases hi
    exact k204' (by omega)
  · cases hi
    exact k204' (by omega)
  · cases hi
    exact k204' (by omega)
  · cases hi
    have ex : x = 3110 := by omega
    have he : i_dev n u x own = (if (uOt u).length < 16 then uOut u (uOt u ++ [u.1 1 % 256]) else i_wait u own 4) := by unfold i_dev; rw [if_neg (by omega), if_neg (by omega), if_neg (by omega), if_pos ex]
    rw [he] at h
    simp only [↓s_70_140, ↓s_70_141, ↓s_70_144, ↓s_70_145, ↓s_70_148, ↓s_70_151, ↓s_70_152, kd_uF, ln_uF, ai_uF, al_uF, ar_uF, zs_uF, fd_uF, kd_uA, ln_uA, fd_uA, al_uA, ar_uA, zs_uA, ai_uA, kd_uL, ln_uL, fd_uL, ai_uL, ar_uL, zs_uL, al_uL, kd_uR, ln_uR, fd_uR, ai_uR, al_uR, zs_uR, ar_uR, true_and, and_true, Option.toList_some, Option.toList_none, List.cons_append, List.nil_append, catS_nil, catS_int, catS_ref, catS_null, catS_long, cat_int, cat_ref, cat_null, Nat.reduceEqDiff, Nat.reduceLeDiff, Nat.reduceAdd, false_and, and_false, if_false, if_true, ite_true, ite_false, true_or, or_true, false_or, or_false, and_self, forall_const, true_implies, reduceCtorEq, clr_int, clr_ref, clr_null, clr_none, clr_long, va_rf_some, va_rf_none, h0, h6, s1, ok]
    rw [m8 (by have := hB.2.1; omega)]
    refine sp_L_add lo (fun hl w2 hL2 hF2 => ?_) (fun hl => ?_)
    · rw [if_pos hl] at h
      simp only [↓s_70_155, ↓s_70_158, ↓s_70_159, ↓s_70_160, ↓s_70_161, kd_uF, ln_uF, ai_uF, al_uF, ar_uF, zs_uF, fd_uF, kd_uA, ln_uA, fd_uA, al_uA, ar_uA, zs_uA, ai_uA, kd_uL, ln_uL, fd_uL, ai_uL, ar_uL, zs_uL, al_uL, kd_uR, ln_uR, fd_uR, ai_uR, al_uR, zs_uR, ar_uR, true_and, and_true, Option.toList_some, Option.toList_none, List.cons_append, List.nil_append, catS_nil, catS_int, catS_ref, catS_null, catS_long, cat_int, cat_ref, cat_null, Nat.reduceEqDiff, Nat.reduceLeDiff, Nat.reduceAdd, false_and, and_false, if_false, if_true, ite_true, ite_false, true_or, or_true, false_or, or_false, and_self, forall_const, true_implies, reduceCtorEq, clr_int, clr_ref, clr_null, clr_none, clr_long, va_rf_some, va_rf_none]
      exact ⟨fun _ => k204 _ (h _ (hu0.Out hL2 hF2) (hF2.U (by omega) (by omega))), fun q => absurd q (by decide)⟩
    · rw [if_neg (by omega)] at h
      simp only [↓s_70_155, ↓s_70_158, ↓s_70_159, ↓s_70_160, ↓s_70_161, kd_uF, ln_uF, ai_uF, al_uF, ar_uF, zs_uF, fd_uF, kd_uA, ln_uA, fd_uA, al_uA, ar_uA, zs_uA, ai_uA, kd_uL, ln_uL, fd_uL, ai_uL, ar_uL, zs_uL, al_uL, kd_uR, ln_uR, fd_uR, ai_uR, al_uR, zs_uR, ar_uR, true_and, and_true, Option.toList_some, Option.toList_none, List.cons_append, List.nil_append, catS_nil, catS_int, catS_ref, catS_null, catS_long, cat_int, cat_ref, cat_null, Nat.reduceEqDiff, Nat.reduceLeDiff, Nat.reduceAdd, false_and, and_false, if_false, if_true, ite_true, ite_false, true_or, or_true, false_or, or_false, and_self, forall_const, true_implies, reduceCtorEq, clr_int, clr_ref, clr_null, clr_none, clr_long, va_rf_some, va_rf_none, h0]
      refine ⟨fun q => absurd trivial q, sp_U_wait (how := 4) hu0 (fun w2 hu2 hF2 => ?_)⟩
      simp only [↓s_70_164, kd_uF, ln_uF, ai_uF, al_uF, ar_uF, zs_uF, fd_uF, kd_uA, ln_uA, fd_uA, al_uA, ar_uA, zs_uA, ai_uA, kd_uL, ln_uL, fd_uL, ai_uL, ar_uL, zs_uL, al_uL, kd_uR, ln_uR, fd_uR, ai_uR, al_uR, zs_uR, ar_uR, true_and, and_true, Option.toList_some, Option.toList_none, List.cons_append, List.nil_append, catS_nil, catS_int, catS_ref, catS_null, catS_long, cat_int, cat_ref, cat_null, Nat.reduceEqDiff, Nat.reduceLeDiff, Nat.reduceAdd, false_and, and_false, if_false, if_true, ite_true, ite_false, true_or, or_true, false_or, or_false, and_self, forall_const, true_implies, reduceCtorEq, clr_int, clr_ref, clr_null, clr_none, clr_long, va_rf_some, va_rf_none]
      exact k204 _ (h _ hu2 hF2)
  · cases hi
    exact k204' (by omega)
  · cases hi
    exact k204' (by omega)
  · cases hi
    have ex : x = 3113 := by omega
    have he : i_dev n u x own = (if u.1 1 = 0 then u else uS (uS (uS u 3 5) 4 (u.1 1)) 1 0) := by unfold i_dev; rw [if_neg (by omega), if_neg (by omega), if_neg (by omega), if_neg (by omega), if_pos ex]
    rw [he] at h
    simp only [↓s_70_167, ↓s_70_168, kd_uF, ln_uF, ai_uF, al_uF, ar_uF, zs_uF, fd_uF, kd_uA, ln_uA, fd_uA, al_uA, ar_uA, zs_uA, ai_uA, kd_uL, ln_uL, fd_uL, ai_uL, ar_uL, zs_uL, al_uL, kd_uR, ln_uR, fd_uR, ai_uR, al_uR, zs_uR, ar_uR, true_and, and_true, Option.toList_some, Option.toList_none, List.cons_append, List.nil_append, catS_nil, catS_int, catS_ref, catS_null, catS_long, cat_int, cat_ref, cat_null, Nat.reduceEqDiff, Nat.reduceLeDiff, Nat.reduceAdd, false_and, and_false, if_false, if_true, ite_true, ite_false, true_or, or_true, false_or, or_false, and_self, forall_const, true_implies, reduceCtorEq, clr_int, clr_ref, clr_null, clr_none, clr_long, va_rf_some, va_rf_none, h0]
    refine sp_U_sleep hu0 hB.2.1 (fun w2 hu2 hF2 => ?_)
    simp only [↓s_70_171, kd_uF, ln_uF, ai_uF, al_uF, ar_uF, zs_uF, fd_uF, kd_uA, ln_uA, fd_uA, al_uA, ar_uA, zs_uA, ai_uA, kd_uL, ln_uL, fd_uL, ai_uL, ar_uL, zs_uL, al_uL, kd_uR, ln_uR, fd_uR, ai_uR, al_uR, zs_uR, ar_uR, true_and, and_true, Option.toList_some, Option.toList_none, List.cons_append, List.nil_append, catS_nil, catS_int, catS_ref, catS_null, catS_long, cat_int, cat_ref, cat_null, Nat.reduceEqDiff, Nat.reduceLeDiff, Nat.reduceAdd, false_and, and_false, if_false, if_true, ite_true, ite_false, true_or, or_true, false_or, or_false, and_self, forall_const, true_implies, reduceCtorEq, clr_int, clr_ref, clr_null, clr_none, clr_long, va_rf_some, va_rf_none]
    exact k204 _ (h _ hu2 hF2)
  · cases hi
    have ex : x = 3114 := by omega
    have he : i_dev n u x own = i_block u true := by unfold i_dev; rw [if_neg (by omega), if_neg (by omega), if_neg (by omega), if_neg (by omega), if_neg (by omega), if_pos ex]
    rw [he] at h
    simp only [↓s_70_174, ↓s_70_175, ↓s_70_176, ↓s_70_179, ↓s_70_182, ↓s_70_183, ↓s_70_186, ↓s_70_187, kd_uF, ln_uF, ai_uF, al_uF, ar_uF, zs_uF, fd_uF, kd_uA, ln_uA, fd_uA, al_uA, ar_uA, zs_uA, ai_uA, kd_uL, ln_uL, fd_uL, ai_uL, ar_uL, zs_uL, al_uL, kd_uR, ln_uR, fd_uR, ai_uR, al_uR, zs_uR, ar_uR, true_and, and_true, Option.toList_some, Option.toList_none, List.cons_append, List.nil_append, catS_nil, catS_int, catS_ref, catS_null, catS_long, cat_int, cat_ref, cat_null, Nat.reduceEqDiff, Nat.reduceLeDiff, Nat.reduceAdd, false_and, and_false, if_false, if_true, ite_true, ite_false, true_or, or_true, false_or, or_false, and_self, forall_const, true_implies, reduceCtorEq, clr_int, clr_ref, clr_null, clr_none, clr_long, va_rf_some, va_rf_none, h0]
    refine ⟨fun q => absurd (by rw [ex]; rfl) q, fun _ => sp_U_moveBlock (rd := true) hu0 hB (fun w2 hu2 hF2 => ?_)⟩
    simp only [↓s_70_190, kd_uF, ln_uF, ai_uF, al_uF, ar_uF, zs_uF, fd_uF, kd_uA, ln_uA, fd_uA, al_uA, ar_uA, zs_uA, ai_uA, kd_uL, ln_uL, fd_uL, ai_uL, ar_uL, zs_uL, al_uL, kd_uR, ln_uR, fd_uR, ai_uR, al_uR, zs_uR, ar_uR, true_and, and_true, Option.toList_some, Option.toList_none, List.cons_append, List.nil_append, catS_nil, catS_int, catS_ref, catS_null, catS_long, cat_int, cat_ref, cat_null, Nat.reduceEqDiff, Nat.reduceLeDiff, Nat.reduceAdd, false_and, and_false, if_false, if_true, ite_true, ite_false, true_or, or_true, false_or, or_false, and_self, forall_const, true_implies, reduceCtorEq, clr_int, clr_ref, clr_null, clr_none, clr_long, va_rf_some, va_rf_none]
    exact k204 _ (h _ hu2 hF2)
  · cases hi
    have ex : x = 3115 := by omega
    have he : i_dev n u x own = i_block u false := by unfold i_dev; rw [if_neg (by omega), if_neg (by omega), if_neg (by omega), if_neg (by omega), if_neg (by omega), if_neg (by omega), if_pos ex]
    rw [he] at h
    simp only [↓s_70_174, ↓s_70_175, ↓s_70_176, ↓s_70_179, ↓s_70_182, ↓s_70_183, ↓s_70_186, ↓s_70_187, kd_uF, ln_uF, ai_uF, al_uF, ar_uF, zs_uF, fd_uF, kd_uA, ln_uA, fd_uA, al_uA, ar_uA, zs_uA, ai_uA, kd_uL, ln_uL, fd_uL, ai_uL, ar_uL, zs_uL, al_uL, kd_uR, ln_uR, fd_uR, ai_uR, al_uR, zs_uR, ar_uR, true_and, and_true, Option.toList_some, Option.toList_none, List.cons_append, List.nil_append, catS_nil, catS_int, catS_ref, catS_null, catS_long, cat_int, cat_ref, cat_null, Nat.reduceEqDiff, Nat.reduceLeDiff, Nat.reduceAdd, false_and, and_false, if_false, if_true, ite_true, ite_false, true_or, or_true, false_or, or_false, and_self, forall_const, true_implies, reduceCtorEq, clr_int, clr_ref, clr_null, clr_none, clr_long, va_rf_some, va_rf_none, h0]
    refine ⟨fun _ => sp_U_moveBlock (rd := false) hu0 hB (fun w2 hu2 hF2 => ?_), fun q => absurd q (by rw [ex]; decide)⟩
    simp only [↓s_70_190, kd_uF, ln_uF, ai_uF, al_uF, ar_uF, zs_uF, fd_uF, kd_uA, ln_uA, fd_uA, al_uA, ar_uA, zs_uA, ai_uA, kd_uL, ln_uL, fd_uL, ai_uL, ar_uL, zs_uL, al_uL, kd_uR, ln_uR, fd_uR, ai_uR, al_uR, zs_uR, ar_uR, true_and, and_true, Option.toList_some, Option.toList_none, List.cons_append, List.nil_append, catS_nil, catS_int, catS_ref, catS_null, catS_long, cat_int, cat_ref, cat_null, Nat.reduceEqDiff, Nat.reduceLeDiff, Nat.reduceAdd, false_and, and_false, if_false, if_true, ite_true, ite_false, true_or, or_true, false_or, or_false, and_self, forall_const, true_implies, reduceCtorEq, clr_int, clr_ref, clr_null, clr_none, clr_long, va_rf_some, va_rf_none]
    exact k204 _ (h _ hu2 hF2)
  · cases hi
    have ex : x = 3116 := by omega
    have he : i_dev n u x own = uS u 1 n := by unfold i_dev; rw [if_neg (by omega), if_neg (by omega), if_neg (by omega), if_neg (by omega), if_neg (by omega), if_neg (by omega), if_neg (by omega), if_pos ex]
    rw [he] at h
    simp only [↓s_70_193, ↓s_70_194, ↓s_70_195, ↓s_70_198, ↓s_70_201, kd_uF, ln_uF, ai_uF, al_uF, ar_uF, zs_uF, fd_uF, kd_uA, ln_uA, fd_uA, al_uA, ar_uA, zs_uA, ai_uA, kd_uL, ln_uL, fd_uL, ai_uL, ar_uL, zs_uL, al_uL, kd_uR, ln_uR, fd_uR, ai_uR, al_uR, zs_uR, ar_uR, true_and, and_true, Option.toList_some, Option.toList_none, List.cons_append, List.nil_append, catS_nil, catS_int, catS_ref, catS_null, catS_long, cat_int, cat_ref, cat_null, Nat.reduceEqDiff, Nat.reduceLeDiff, Nat.reduceAdd, false_and, and_false, if_false, if_true, ite_true, ite_false, true_or, or_true, false_or, or_false, and_self, forall_const, true_implies, reduceCtorEq, clr_int, clr_ref, clr_null, clr_none, clr_long, va_rf_some, va_rf_none, h0, h1]
    exact k204 _ (h _ hu0.S1 FrU.rf.S1)
  · simp at hi
theorem sp_U_inst {d : Nat} {w : aw} {b n : Nat} {u : us} {Q : wQ} (hu : UAt w b n u) (hB : UB u) (h : ∀ w', UAt w' b n (inst n u) → FrU w w' b → Q none w') : wpD (d + 5) 62 [.ref b] w Q := by
  refine ⟨Nat.le_of_ble_eq_true rfl, ?_⟩
  show wp (d + 4) 62 Q 0 [some (.ref b), none, none] [] w 0 0
  have hu0 := hu
  have hmm := hB.2.2.2.2.2.2.2.2.1
  obtain ⟨h0, h1, h2, h3, h4, h5, h6, s0, s1, s2, s3, s4, s5, s6, s7, s8, s9, m1, m2, m3, f1, f2, f3, p1, p2, p3, li, lo⟩ := hu
  simp only [↓s_62_0, ↓s_62_1, ↓s_62_4, ↓s_62_7, ↓s_62_8, ↓s_62_9, ↓s_62_10, ↓s_62_13, ↓s_62_14, ↓s_62_15, ↓s_62_16, ↓s_62_17, ↓s_62_18, ↓s_62_21, ↓s_62_22, ↓s_62_23, ↓s_62_26, ↓s_62_27, kd_uF, ln_uF, ai_uF, al_uF, ar_uF, zs_uF, fd_uF, kd_uA, ln_uA, fd_uA, al_uA, ar_uA, zs_uA, ai_uA, kd_uL, ln_uL, fd_uL, ai_uL, ar_uL, zs_uL, al_uL, kd_uR, ln_uR, fd_uR, ai_uR, al_uR, zs_uR, ar_uR, true_and, and_true, Option.toList_some, Option.toList_none, List.cons_append, List.nil_append, catS_nil, catS_int, catS_ref, catS_null, catS_long, cat_int, cat_ref, cat_null, Nat.reduceEqDiff, Nat.reduceLeDiff, Nat.reduceAdd, false_and, and_false, if_false, if_true, ite_true, ite_false, true_or, or_true, false_or, or_false, and_self, forall_const, true_implies, reduceCtorEq, clr_int, clr_ref, clr_null, clr_none, clr_long, va_rf_some, va_rf_none, h0, h2, s0, s9, m1, m2, m3]
  rw [m12 (by have := hB.1; omega), Nat.mod_eq_of_lt hB.1, clN (by have := hB.1; omega), nI_1]
  refine ⟨inR_nI hB.1 (by decide), sp_U_skip (hu0.S9 (v := u.1 9 + 1)) hB.1 (fun w1 hu1 hF1 => ?_)⟩
  have hF1 : FrU w w1 b := FrU.tr FrU.rf.S9 hF1
  have hw : uMm u (u.1 0) < 4096 := hmm _
  have ho := hB.1
  have e0 : i_skip (uS u 9 (u.1 9 + 1)) = uS (i_skip u) 9 (u.1 9 + 1) := by
    unfold i_skip uS
    dsimp only
    congr 1
    funext j
    unfold va_up
    by_cases h9 : j = 9
    · simp [h9]
    · by_cases h0 : j = 0 <;> simp [h9, h0]
  rw [e0] at hu1
  have hB1 : UB (uS (i_skip u) 9 (u.1 9 + 1)) := hB.skip.S9
  unfold inst at h
  dsimp only at h
  revert hw ho h
  generalize uMm u (u.1 0) = x
  generalize u.1 0 = own
  intro h hw ho
  generalize uS (i_skip u) 9 (u.1 9 + 1) = v at *
  have k89 : ∀ w2, Q none w2 → wp (d + 4) 62 Q 89 [some (.ref b), some (.int (nI own)), some (.int (nI x))] [] w2 0 0 := by
    intro w2 hq
    simp only [↓s_62_89]
    exact hq
  simp only [↓s_62_30, ↓s_62_31, ↓s_62_34, ↓s_62_37, ↓s_62_38, ↓s_62_39, ↓s_62_40, ↓s_62_46, ↓s_62_47, ↓s_62_50, ↓s_62_53, ↓s_62_54, ↓s_62_55, ↓s_62_56, ↓s_62_62, ↓s_62_63, ↓s_62_66, ↓s_62_67, ↓s_62_70, ↓s_62_71, ↓s_62_72, ↓s_62_78, ↓s_62_79, ↓s_62_80, ↓s_62_81, ↓s_62_84, ↓s_62_85, ↓s_62_86, kd_uF, ln_uF, ai_uF, al_uF, ar_uF, zs_uF, fd_uF, kd_uA, ln_uA, fd_uA, al_uA, ar_uA, zs_uA, ai_uA, kd_uL, ln_uL, fd_uL, ai_uL, ar_uL, zs_uL, al_uL, kd_uR, ln_uR, fd_uR, ai_uR, al_uR, zs_uR, ar_uR, true_and, and_true, Option.toList_some, Option.toList_none, List.cons_append, List.nil_append, catS_nil, catS_int, catS_ref, catS_null, catS_long, cat_int, cat_ref, cat_null, Nat.reduceEqDiff, Nat.reduceLeDiff, Nat.reduceAdd, false_and, and_false, if_false, if_true, ite_true, ite_false, true_or, or_true, false_or, or_false, and_self, forall_const, true_implies, reduceCtorEq, clr_int, clr_ref, clr_null, clr_none, clr_long, va_rf_some, va_rf_none, hu1.1, bz8, bz0]
  rw [show (3072 : Int32) = nI 3072 from rfl, show (3584 : Int32) = nI 3584 from rfl, nI_leI (by decide) (by omega), nI_leI (by decide) (by omega)]
  refine ⟨fun q => ⟨fun q2 => ⟨fun q3 => ⟨fun q4 => k89 _ (h _ ?_ hF1), fun q4 => sp_U_test hu1 hB1 (fun w2 hu2 hF2 => k89 _ (h _ ?_ (hF1.tr hF2)))⟩, fun q3 => sp_U_operate hu1 hB1 (fun w2 hu2 hF2 => ?_)⟩, fun q2 => sp_U_device hu1 hB1 hw ho (fun w2 hu2 hF2 => ?_)⟩, fun q => sp_U_refer hu1 hB1 (by omega) ho (fun w2 hu2 hF2 => ?_)⟩
  · rw [if_neg (by omega), if_neg (by omega), if_neg q3, if_neg q4]; exact hu1
  · rw [if_neg (by omega), if_neg (by omega), if_neg q3, if_pos q4]; exact hu2
  · simp only [↓s_62_75, kd_uF, ln_uF, ai_uF, al_uF, ar_uF, zs_uF, fd_uF, kd_uA, ln_uA, fd_uA, al_uA, ar_uA, zs_uA, ai_uA, kd_uL, ln_uL, fd_uL, ai_uL, ar_uL, zs_uL, al_uL, kd_uR, ln_uR, fd_uR, ai_uR, al_uR, zs_uR, ar_uR, true_and, and_true, Option.toList_some, Option.toList_none, List.cons_append, List.nil_append, catS_nil, catS_int, catS_ref, catS_null, catS_long, cat_int, cat_ref, cat_null, Nat.reduceEqDiff, Nat.reduceLeDiff, Nat.reduceAdd, false_and, and_false, if_false, if_true, ite_true, ite_false, true_or, or_true, false_or, or_false, and_self, forall_const, true_implies, reduceCtorEq, clr_int, clr_ref, clr_null, clr_none, clr_long, va_rf_some, va_rf_none]
    refine k89 _ (h _ ?_ (hF1.tr hF2))
    rw [if_neg (by omega), if_neg (by omega), if_pos q3]; exact hu2
  · simp only [↓s_62_59, kd_uF, ln_uF, ai_uF, al_uF, ar_uF, zs_uF, fd_uF, kd_uA, ln_uA, fd_uA, al_uA, ar_uA, zs_uA, ai_uA, kd_uL, ln_uL, fd_uL, ai_uL, ar_uL, zs_uL, al_uL, kd_uR, ln_uR, fd_uR, ai_uR, al_uR, zs_uR, ar_uR, true_and, and_true, Option.toList_some, Option.toList_none, List.cons_append, List.nil_append, catS_nil, catS_int, catS_ref, catS_null, catS_long, cat_int, cat_ref, cat_null, Nat.reduceEqDiff, Nat.reduceLeDiff, Nat.reduceAdd, false_and, and_false, if_false, if_true, ite_true, ite_false, true_or, or_true, false_or, or_false, and_self, forall_const, true_implies, reduceCtorEq, clr_int, clr_ref, clr_null, clr_none, clr_long, va_rf_some, va_rf_none]
    refine k89 _ (h _ ?_ (hF1.tr hF2))
    rw [if_neg (by omega), if_pos (by omega)]; exact hu2
  · simp only [↓s_62_43, kd_uF, ln_uF, ai_uF, al_uF, ar_uF, zs_uF, fd_uF, kd_uA, ln_uA, fd_uA, al_uA, ar_uA, zs_uA, ai_uA, kd_uL, ln_uL, fd_uL, ai_uL, ar_uL, zs_uL, al_uL, kd_uR, ln_uR, fd_uR, ai_uR, al_uR, zs_uR, ar_uR, true_and, and_true, Option.toList_some, Option.toList_none, List.cons_append, List.nil_append, catS_nil, catS_int, catS_ref, catS_null, catS_long, cat_int, cat_ref, cat_null, Nat.reduceEqDiff, Nat.reduceLeDiff, Nat.reduceAdd, false_and, and_false, if_false, if_true, ite_true, ite_false, true_or, or_true, false_or, or_false, and_self, forall_const, true_implies, reduceCtorEq, clr_int, clr_ref, clr_null, clr_none, clr_long, va_rf_some, va_rf_none]
    refine k89 _ (h _ ?_ (hF1.tr hF2))
    rw [if_pos (by omega)]; exact hu2
