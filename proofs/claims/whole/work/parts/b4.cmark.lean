theorem sp_c_opn {d : Nat} {w : aw} {e k : Nat} {T : Nat → Nat} {Q : wQ} (hT : ∀ k, T k < 256) (h1 : opn (lk T e k) = true → Q (some (.int 1)) w) (h2 : opn (lk T e k) = false → Q (some (.int 0)) w) : wpD (d + 2) 51 [.int (lkI T e k)] w Q := by
  refine ⟨Nat.le_of_ble_eq_true rfl, ?_⟩
  show wp (d + 1) 51 Q 0 [some (.int (lkI T e k))] [] w 0 0
  have yes : opn (lk T e k) = true → wp (d + 1) 51 Q 32 [some (.int (lkI T e k))] [] w 0 0 := by
    intro q
    simp only [↓s_51_32, ↓s_51_33, ↓s_51_37, kd_uF, ln_uF, ai_uF, al_uF, ar_uF, zs_uF, fd_uF, kd_uA, ln_uA, fd_uA, al_uA, ar_uA, zs_uA, ai_uA, kd_uL, ln_uL, fd_uL, ai_uL, ar_uL, zs_uL, al_uL, kd_uR, ln_uR, fd_uR, ai_uR, al_uR, zs_uR, ar_uR, true_and, and_true, Option.toList_some, Option.toList_none, List.cons_append, List.nil_append, catS_nil, catS_int, catS_ref, catS_null, catS_long, cat_int, cat_ref, cat_null, Nat.reduceEqDiff, Nat.reduceLeDiff, Nat.reduceAdd, false_and, and_false, if_false, if_true, ite_true, ite_false, true_or, or_true, false_or, or_false, and_self, forall_const, true_implies, reduceCtorEq, clr_int, clr_ref, clr_null, clr_none, clr_long, va_rf_some, va_rf_none]
    exact ⟨rfl, h1 q⟩
  simp only [↓s_51_0, ↓s_51_1, kd_uF, ln_uF, ai_uF, al_uF, ar_uF, zs_uF, fd_uF, kd_uA, ln_uA, fd_uA, al_uA, ar_uA, zs_uA, ai_uA, kd_uL, ln_uL, fd_uL, ai_uL, ar_uL, zs_uL, al_uL, kd_uR, ln_uR, fd_uR, ai_uR, al_uR, zs_uR, ar_uR, true_and, and_true, Option.toList_some, Option.toList_none, List.cons_append, List.nil_append, catS_nil, catS_int, catS_ref, catS_null, catS_long, cat_int, cat_ref, cat_null, Nat.reduceEqDiff, Nat.reduceLeDiff, Nat.reduceAdd, false_and, and_false, if_false, if_true, ite_true, ite_false, true_or, or_true, false_or, or_false, and_self, forall_const, true_implies, reduceCtorEq, clr_int, clr_ref, clr_null, clr_none, clr_long, va_rf_some, va_rf_none]
  refine sp_c_isL hT (fun q => ?_) (fun q => ?_)
  · simp only [↓s_51_4, kd_uF, ln_uF, ai_uF, al_uF, ar_uF, zs_uF, fd_uF, kd_uA, ln_uA, fd_uA, al_uA, ar_uA, zs_uA, ai_uA, kd_uL, ln_uL, fd_uL, ai_uL, ar_uL, zs_uL, al_uL, kd_uR, ln_uR, fd_uR, ai_uR, al_uR, zs_uR, ar_uR, true_and, and_true, Option.toList_some, Option.toList_none, List.cons_append, List.nil_append, catS_nil, catS_int, catS_ref, catS_null, catS_long, cat_int, cat_ref, cat_null, Nat.reduceEqDiff, Nat.reduceLeDiff, Nat.reduceAdd, false_and, and_false, if_false, if_true, ite_true, ite_false, true_or, or_true, false_or, or_false, and_self, forall_const, true_implies, reduceCtorEq, clr_int, clr_ref, clr_null, clr_none, clr_long, va_rf_some, va_rf_none]
    exact ⟨fun _ => yes (by unfold opn; rw [q]; rfl), fun z => absurd z (by decide)⟩
  · simp only [↓s_51_4, ↓s_51_7, ↓s_51_8, kd_uF, ln_uF, ai_uF, al_uF, ar_uF, zs_uF, fd_uF, kd_uA, ln_uA, fd_uA, al_uA, ar_uA, zs_uA, ai_uA, kd_uL, ln_uL, fd_uL, ai_uL, ar_uL, zs_uL, al_uL, kd_uR, ln_uR, fd_uR, ai_uR, al_uR, zs_uR, ar_uR, true_and, and_true, Option.toList_some, Option.toList_none, List.cons_append, List.nil_append, catS_nil, catS_int, catS_ref, catS_null, catS_long, cat_int, cat_ref, cat_null, Nat.reduceEqDiff, Nat.reduceLeDiff, Nat.reduceAdd, false_and, and_false, if_false, if_true, ite_true, ite_false, true_or, or_true, false_or, or_false, and_self, forall_const, true_implies, reduceCtorEq, clr_int, clr_ref, clr_null, clr_none, clr_long, va_rf_some, va_rf_none]
    refine ⟨fun z => absurd trivial z, sp_c_isD hT (fun q2 => ?_) (fun q2 => ?_)⟩
    · simp only [↓s_51_11, kd_uF, ln_uF, ai_uF, al_uF, ar_uF, zs_uF, fd_uF, kd_uA, ln_uA, fd_uA, al_uA, ar_uA, zs_uA, ai_uA, kd_uL, ln_uL, fd_uL, ai_uL, ar_uL, zs_uL, al_uL, kd_uR, ln_uR, fd_uR, ai_uR, al_uR, zs_uR, ar_uR, true_and, and_true, Option.toList_some, Option.toList_none, List.cons_append, List.nil_append, catS_nil, catS_int, catS_ref, catS_null, catS_long, cat_int, cat_ref, cat_null, Nat.reduceEqDiff, Nat.reduceLeDiff, Nat.reduceAdd, false_and, and_false, if_false, if_true, ite_true, ite_false, true_or, or_true, false_or, or_false, and_self, forall_const, true_implies, reduceCtorEq, clr_int, clr_ref, clr_null, clr_none, clr_long, va_rf_some, va_rf_none]
      exact ⟨fun _ => yes (by unfold opn; rw [q, q2]; rfl), fun z => absurd z (by decide)⟩
    · simp only [↓s_51_11, ↓s_51_14, ↓s_51_15, ↓s_51_17, ↓s_51_20, ↓s_51_21, ↓s_51_23, ↓s_51_26, ↓s_51_27, ↓s_51_29, ↓s_51_36, ↓s_51_37, kd_uF, ln_uF, ai_uF, al_uF, ar_uF, zs_uF, fd_uF, kd_uA, ln_uA, fd_uA, al_uA, ar_uA, zs_uA, ai_uA, kd_uL, ln_uL, fd_uL, ai_uL, ar_uL, zs_uL, al_uL, kd_uR, ln_uR, fd_uR, ai_uR, al_uR, zs_uR, ar_uR, true_and, and_true, Option.toList_some, Option.toList_none, List.cons_append, List.nil_append, catS_nil, catS_int, catS_ref, catS_null, catS_long, cat_int, cat_ref, cat_null, Nat.reduceEqDiff, Nat.reduceLeDiff, Nat.reduceAdd, false_and, and_false, if_false, if_true, ite_true, ite_false, true_or, or_true, false_or, or_false, and_self, forall_const, true_implies, reduceCtorEq, clr_int, clr_ref, clr_null, clr_none, clr_long, va_rf_some, va_rf_none]
      rw [show (46 : Int32) = nI 46 from rfl, show (45 : Int32) = nI 45 from rfl, show (40 : Int32) = nI 40 from rfl, lkI_eq hT (by decide) (by decide), lkI_eq hT (by decide) (by decide), lkI_eq hT (by decide) (by decide)]
      refine ⟨fun z => absurd trivial z, fun z1 => yes (by rw [z1]; rfl), fun z1 => ⟨fun z2 => yes (by rw [z2]; rfl), fun z2 => ⟨fun z3 => ⟨rfl, h2 ?_⟩, fun z3 => yes (by rw [z3]; rfl)⟩⟩⟩
      unfold opn
      rw [q, q2, beq_eq_false_iff_ne.mpr z1, beq_eq_false_iff_ne.mpr z2, beq_eq_false_iff_ne.mpr z3]; rfl
def mAA (T : Nat → Nat) (e p : Nat) : Nat := if isBy T e p = true then bE T e (p + 1) else p
def mBB (T : Nat → Nat) (e p : Nat) : Nat := if (lk T e (mAA T e p) == 40) = true then bE T e (mAA T e p + 1) else mAA T e p
theorem mAA_b {T : Nat → Nat} {e p : Nat} (h : p ≤ e) : mAA T e p ≤ e := by
  unfold mAA
  split
  · rename_i c
    have := lk_pos (T := T) (e := e) (p := p) (by rw [(isBy_iff.mp c).1]; decide)
    exact bE_le (by omega)
  · exact h
theorem mBB_b {T : Nat → Nat} {e p : Nat} (h : p ≤ e) : mBB T e p ≤ e := by
  unfold mBB
  split
  · rename_i c
    have := lk_pos (T := T) (e := e) (p := mAA T e p) (by rw [beq_iff_eq.mp c]; decide)
    exact bE_le (by omega)
  · exact mAA_b h
theorem SR.F {w : aw} {x n e g : Nat} {T : Nat → Nat} {v : Value} (h : SR w x T n e) (h1 : g ≠ 256) (h2 : g ≠ 257) (h3 : g ≠ 259) : SR (uF w g (x + 11) v) x T n e :=
  h.kept (Fr.rf.F (by omega) (by omega)) (by rw [fd_uF, if_neg (fun q => h1 q.1.symm)]) (by rw [fd_uF, if_neg (fun q => h2 q.1.symm)]) (by rw [fd_uF, if_neg (fun q => h3 q.1.symm)])
theorem sp_c_ahead {d : Nat} {w : aw} {x n e p : Nat} {T : Nat → Nat} {Q : wQ} (hS : SR w x T n e) (hat : fd w 258 (x + 11) = .int (nI p)) (hp : p ≤ e) (hi : fd w 264 (x + 11) = .int 0) (hl : fd w 265 (x + 11) = .int 0) (h : ∀ w', SR w' x T n e → fd w' 258 (x + 11) = .int (nI (mBB T e p)) → fd w' 264 (x + 11) = .int (bI (isBy T e p)) → fd w' 265 (x + 11) = .int (bI (lk T e (mAA T e p) == 40)) → Fr w w' (x + 11) (x + 12) → (∀ g, g ≠ 258 → g ≠ 264 → g ≠ 265 → fd w' g (x + 11) = fd w g (x + 11)) → Q none w') : wpD (d + 3) 50 [.ref (x + 11)] w Q := by
  refine ⟨Nat.le_of_ble_eq_true rfl, ?_⟩
  show wp (d + 2) 50 Q 0 [some (.ref (x + 11)), none] [] w 0 0
  have rk := hS.1
  have hT := hS.2.2.2.2.2.2.2.2.2.2.2.2
  have hen := hS.2.2.2.2.2.2.2.2.2.2.1
  have hn8 := hS.2.2.2.2.2.2.2.2.2.2.2.1
  have j62 : ∀ (w1 : aw) (A : Option Value), SR w1 x T n e → fd w1 258 (x + 11) = .int (nI (mAA T e p)) → fd w1 264 (x + 11) = .int (bI (isBy T e p)) → fd w1 265 (x + 11) = .int 0 → Fr w w1 (x + 11) (x + 12) → (∀ g, g ≠ 258 → g ≠ 264 → g ≠ 265 → fd w1 g (x + 11) = fd w g (x + 11)) → wp (d + 2) 50 Q 62 [some (.ref (x + 11)), A] [] w1 0 0 := by
    intro w1 A hS1 at1 i1 l1 f1 g1
    have rk1 := hS1.1
    have hm := mAA_b (T := T) hp
    simp only [↓s_50_62, ↓s_50_63, ↓s_50_64, ↓s_50_67, kd_uF, ln_uF, ai_uF, al_uF, ar_uF, zs_uF, fd_uF, kd_uA, ln_uA, fd_uA, al_uA, ar_uA, zs_uA, ai_uA, kd_uL, ln_uL, fd_uL, ai_uL, ar_uL, zs_uL, al_uL, kd_uR, ln_uR, fd_uR, ai_uR, al_uR, zs_uR, ar_uR, true_and, and_true, Option.toList_some, Option.toList_none, List.cons_append, List.nil_append, catS_nil, catS_int, catS_ref, catS_null, catS_long, cat_int, cat_ref, cat_null, Nat.reduceEqDiff, Nat.reduceLeDiff, Nat.reduceAdd, false_and, and_false, if_false, if_true, ite_true, ite_false, true_or, or_true, false_or, or_false, and_self, forall_const, true_implies, reduceCtorEq, clr_int, clr_ref, clr_null, clr_none, clr_long, va_rf_some, va_rf_none, rk1, at1]
    refine sp_c_look hS1 (by omega) ?_
    simp only [↓s_50_70, ↓s_50_72, ↓s_50_75, ↓s_50_76, ↓s_50_77, ↓s_50_80, ↓s_50_81, ↓s_50_82, ↓s_50_83, ↓s_50_86, ↓s_50_87, ↓s_50_88, ↓s_50_94, kd_uF, ln_uF, ai_uF, al_uF, ar_uF, zs_uF, fd_uF, kd_uA, ln_uA, fd_uA, al_uA, ar_uA, zs_uA, ai_uA, kd_uL, ln_uL, fd_uL, ai_uL, ar_uL, zs_uL, al_uL, kd_uR, ln_uR, fd_uR, ai_uR, al_uR, zs_uR, ar_uR, true_and, and_true, Option.toList_some, Option.toList_none, List.cons_append, List.nil_append, catS_nil, catS_int, catS_ref, catS_null, catS_long, cat_int, cat_ref, cat_null, Nat.reduceEqDiff, Nat.reduceLeDiff, Nat.reduceAdd, false_and, and_false, if_false, if_true, ite_true, ite_false, true_or, or_true, false_or, or_false, and_self, forall_const, true_implies, reduceCtorEq, clr_int, clr_ref, clr_null, clr_none, clr_long, va_rf_some, va_rf_none, rk1, at1]
    rw [show (40 : Int32) = nI 40 from rfl, lkI_eq hT (by decide) (by decide), nI_1]
    refine ⟨fun q => ?_, fun q => ⟨bI_ok true, ?_⟩⟩
    · have e1 : (lk T e (mAA T e p) == 40) = false := beq_eq_false_iff_ne.mpr q
      have e2 : mBB T e p = mAA T e p := by unfold mBB; rw [if_neg (by rw [e1]; decide)]
      exact h w1 hS1 (by rw [e2]; exact at1) i1 (by rw [e1]; exact l1) f1 g1
    · have e1 : (lk T e (mAA T e p) == 40) = true := beq_iff_eq.mpr q
      have e2 : mBB T e p = bE T e (mAA T e p + 1) := by unfold mBB; rw [if_pos e1]
      have hS2 : SR (uF w1 265 (x + 11) (.int 1)) x T n e := hS1.F (by decide) (by decide) (by decide)
      refine sp_c_blanks hS2 (by omega) ?_
      simp only [↓s_50_91, ↓s_50_94, kd_uF, ln_uF, ai_uF, al_uF, ar_uF, zs_uF, fd_uF, kd_uA, ln_uA, fd_uA, al_uA, ar_uA, zs_uA, ai_uA, kd_uL, ln_uL, fd_uL, ai_uL, ar_uL, zs_uL, al_uL, kd_uR, ln_uR, fd_uR, ai_uR, al_uR, zs_uR, ar_uR, true_and, and_true, Option.toList_some, Option.toList_none, List.cons_append, List.nil_append, catS_nil, catS_int, catS_ref, catS_null, catS_long, cat_int, cat_ref, cat_null, Nat.reduceEqDiff, Nat.reduceLeDiff, Nat.reduceAdd, false_and, and_false, if_false, if_true, ite_true, ite_false, true_or, or_true, false_or, or_false, and_self, forall_const, true_implies, reduceCtorEq, clr_int, clr_ref, clr_null, clr_none, clr_long, va_rf_some, va_rf_none, rk1]
      refine h _ (hS2.F (by decide) (by decide) (by decide)) ?_ ?_ ?_ ((f1.F (by omega) (by omega)).F (by omega) (by omega)) (fun g a b c => ?_)
      · rw [e2]; simp only [fd_uF, eq_self, and_self, true_and, false_and, if_true, if_false, ite_true, ite_false, Nat.reduceEqDiff]
      · simp only [fd_uF, eq_self, and_self, true_and, false_and, if_true, if_false, ite_true, ite_false, Nat.reduceEqDiff, i1]
      · rw [e1]; simp only [fd_uF, eq_self, and_self, true_and, false_and, if_true, if_false, ite_true, ite_false, Nat.reduceEqDiff]; rfl
      · rw [fd_uF, if_neg (fun q => a q.1), fd_uF, if_neg (fun q => c q.1)]; exact g1 g a b c
  have no : isBy T e p = false → ∀ A, wp (d + 2) 50 Q 62 [some (.ref (x + 11)), A] [] w 0 0 := by
    intro q A
    exact j62 w A hS (by unfold mAA; rw [if_neg (by rw [q]; decide)]; exact hat) (by rw [q]; exact hi) hl Fr.rf (fun _ _ _ _ => rfl)
  have nb : ¬ (lk T e p = 73 ∧ wE T e p = p + 1 ∧ opn (lk T e (bE T e (p + 1))) = true) → isBy T e p = false := fun q => by
    cases c : isBy T e p with
    | false => rfl
    | true => exact absurd (isBy_iff.mp c) q
  have hb := bE_lt (T := T) (e := e) (k := p + 1) (by omega) (by omega)
  have hwl := wE_le (T := T) hp
  simp only [↓s_50_0, ↓s_50_1, ↓s_50_2, ↓s_50_5, ↓s_50_6, ↓s_50_7, kd_uF, ln_uF, ai_uF, al_uF, ar_uF, zs_uF, fd_uF, kd_uA, ln_uA, fd_uA, al_uA, ar_uA, zs_uA, ai_uA, kd_uL, ln_uL, fd_uL, ai_uL, ar_uL, zs_uL, al_uL, kd_uR, ln_uR, fd_uR, ai_uR, al_uR, zs_uR, ar_uR, true_and, and_true, Option.toList_some, Option.toList_none, List.cons_append, List.nil_append, catS_nil, catS_int, catS_ref, catS_null, catS_long, cat_int, cat_ref, cat_null, Nat.reduceEqDiff, Nat.reduceLeDiff, Nat.reduceAdd, false_and, and_false, if_false, if_true, ite_true, ite_false, true_or, or_true, false_or, or_false, and_self, forall_const, true_implies, reduceCtorEq, clr_int, clr_ref, clr_null, clr_none, clr_long, va_rf_some, va_rf_none, rk, hat]
  rw [nI_1]
  refine sp_c_blanks hS (by omega) ?_
  simp only [↓s_50_10, ↓s_50_11, ↓s_50_12, ↓s_50_13, ↓s_50_16, kd_uF, ln_uF, ai_uF, al_uF, ar_uF, zs_uF, fd_uF, kd_uA, ln_uA, fd_uA, al_uA, ar_uA, zs_uA, ai_uA, kd_uL, ln_uL, fd_uL, ai_uL, ar_uL, zs_uL, al_uL, kd_uR, ln_uR, fd_uR, ai_uR, al_uR, zs_uR, ar_uR, true_and, and_true, Option.toList_some, Option.toList_none, List.cons_append, List.nil_append, catS_nil, catS_int, catS_ref, catS_null, catS_long, cat_int, cat_ref, cat_null, Nat.reduceEqDiff, Nat.reduceLeDiff, Nat.reduceAdd, false_and, and_false, if_false, if_true, ite_true, ite_false, true_or, or_true, false_or, or_false, and_self, forall_const, true_implies, reduceCtorEq, clr_int, clr_ref, clr_null, clr_none, clr_long, va_rf_some, va_rf_none, rk, hat]
  refine sp_c_look hS (by omega) ?_
  simp only [↓s_50_19, ↓s_50_21, ↓s_50_24, ↓s_50_25, ↓s_50_26, ↓s_50_29, kd_uF, ln_uF, ai_uF, al_uF, ar_uF, zs_uF, fd_uF, kd_uA, ln_uA, fd_uA, al_uA, ar_uA, zs_uA, ai_uA, kd_uL, ln_uL, fd_uL, ai_uL, ar_uL, zs_uL, al_uL, kd_uR, ln_uR, fd_uR, ai_uR, al_uR, zs_uR, ar_uR, true_and, and_true, Option.toList_some, Option.toList_none, List.cons_append, List.nil_append, catS_nil, catS_int, catS_ref, catS_null, catS_long, cat_int, cat_ref, cat_null, Nat.reduceEqDiff, Nat.reduceLeDiff, Nat.reduceAdd, false_and, and_false, if_false, if_true, ite_true, ite_false, true_or, or_true, false_or, or_false, and_self, forall_const, true_implies, reduceCtorEq, clr_int, clr_ref, clr_null, clr_none, clr_long, va_rf_some, va_rf_none, rk, hat]
  rw [show (73 : Int32) = nI 73 from rfl, lkI_eq hT (by decide) (by decide)]
  refine ⟨fun q => no (nb (fun z => q z.1)) _, fun q => sp_c_word hS (by omega) ?_⟩
  simp only [↓s_50_32, ↓s_50_33, ↓s_50_36, ↓s_50_37, ↓s_50_38, ↓s_50_41, ↓s_50_42, ↓s_50_43, kd_uF, ln_uF, ai_uF, al_uF, ar_uF, zs_uF, fd_uF, kd_uA, ln_uA, fd_uA, al_uA, ar_uA, zs_uA, ai_uA, kd_uL, ln_uL, fd_uL, ai_uL, ar_uL, zs_uL, al_uL, kd_uR, ln_uR, fd_uR, ai_uR, al_uR, zs_uR, ar_uR, true_and, and_true, Option.toList_some, Option.toList_none, List.cons_append, List.nil_append, catS_nil, catS_int, catS_ref, catS_null, catS_long, cat_int, cat_ref, cat_null, Nat.reduceEqDiff, Nat.reduceLeDiff, Nat.reduceAdd, false_and, and_false, if_false, if_true, ite_true, ite_false, true_or, or_true, false_or, or_false, and_self, forall_const, true_implies, reduceCtorEq, clr_int, clr_ref, clr_null, clr_none, clr_long, va_rf_some, va_rf_none, rk, hat]
  rw [nI_1, nI_eq (by omega) (by omega)]
  refine ⟨fun q2 => no (nb (fun z => q2 z.2.1)) _, fun q2 => sp_c_look hS hb ?_⟩
  simp only [↓s_50_46, kd_uF, ln_uF, ai_uF, al_uF, ar_uF, zs_uF, fd_uF, kd_uA, ln_uA, fd_uA, al_uA, ar_uA, zs_uA, ai_uA, kd_uL, ln_uL, fd_uL, ai_uL, ar_uL, zs_uL, al_uL, kd_uR, ln_uR, fd_uR, ai_uR, al_uR, zs_uR, ar_uR, true_and, and_true, Option.toList_some, Option.toList_none, List.cons_append, List.nil_append, catS_nil, catS_int, catS_ref, catS_null, catS_long, cat_int, cat_ref, cat_null, Nat.reduceEqDiff, Nat.reduceLeDiff, Nat.reduceAdd, false_and, and_false, if_false, if_true, ite_true, ite_false, true_or, or_true, false_or, or_false, and_self, forall_const, true_implies, reduceCtorEq, clr_int, clr_ref, clr_null, clr_none, clr_long, va_rf_some, va_rf_none]
  refine sp_c_opn hT (fun q3 => ?_) (fun q3 => ?_)
  · have e1 : isBy T e p = true := isBy_iff.mpr ⟨q, q2, q3⟩
    simp only [↓s_50_49, ↓s_50_52, ↓s_50_53, ↓s_50_54, ↓s_50_57, ↓s_50_58, ↓s_50_59, kd_uF, ln_uF, ai_uF, al_uF, ar_uF, zs_uF, fd_uF, kd_uA, ln_uA, fd_uA, al_uA, ar_uA, zs_uA, ai_uA, kd_uL, ln_uL, fd_uL, ai_uL, ar_uL, zs_uL, al_uL, kd_uR, ln_uR, fd_uR, ai_uR, al_uR, zs_uR, ar_uR, true_and, and_true, Option.toList_some, Option.toList_none, List.cons_append, List.nil_append, catS_nil, catS_int, catS_ref, catS_null, catS_long, cat_int, cat_ref, cat_null, Nat.reduceEqDiff, Nat.reduceLeDiff, Nat.reduceAdd, false_and, and_false, if_false, if_true, ite_true, ite_false, true_or, or_true, false_or, or_false, and_self, forall_const, true_implies, reduceCtorEq, clr_int, clr_ref, clr_null, clr_none, clr_long, va_rf_some, va_rf_none, rk]
    refine ⟨fun z => absurd z (by decide), fun _ => ⟨bI_ok true, ?_⟩⟩
    refine j62 _ _ ((hS.F (by decide) (by decide) (by decide)).F (by decide) (by decide) (by decide)) ?_ ?_ ?_ ((Fr.rf.F (by omega) (by omega)).F (by omega) (by omega)) (fun g a b c => ?_)
    · unfold mAA; rw [if_pos e1]; simp only [fd_uF, eq_self, and_self, true_and, false_and, if_true, if_false, ite_true, ite_false, Nat.reduceEqDiff]
    · rw [e1]; simp only [fd_uF, eq_self, and_self, true_and, false_and, if_true, if_false, ite_true, ite_false, Nat.reduceEqDiff]; rfl
    · simp only [fd_uF, eq_self, and_self, true_and, false_and, if_true, if_false, ite_true, ite_false, Nat.reduceEqDiff, hl]
    · rw [fd_uF, if_neg (fun q => a q.1), fd_uF, if_neg (fun q => b q.1)]
  · simp only [↓s_50_49, ↓s_50_52, ↓s_50_53, ↓s_50_54, ↓s_50_57, ↓s_50_58, ↓s_50_59, kd_uF, ln_uF, ai_uF, al_uF, ar_uF, zs_uF, fd_uF, kd_uA, ln_uA, fd_uA, al_uA, ar_uA, zs_uA, ai_uA, kd_uL, ln_uL, fd_uL, ai_uL, ar_uL, zs_uL, al_uL, kd_uR, ln_uR, fd_uR, ai_uR, al_uR, zs_uR, ar_uR, true_and, and_true, Option.toList_some, Option.toList_none, List.cons_append, List.nil_append, catS_nil, catS_int, catS_ref, catS_null, catS_long, cat_int, cat_ref, cat_null, Nat.reduceEqDiff, Nat.reduceLeDiff, Nat.reduceAdd, false_and, and_false, if_false, if_true, ite_true, ite_false, true_or, or_true, false_or, or_false, and_self, forall_const, true_implies, reduceCtorEq, clr_int, clr_ref, clr_null, clr_none, clr_long, va_rf_some, va_rf_none, rk]
    exact ⟨no (nb (fun z => by rw [z.2.2] at q3; cases q3)) _, fun z => absurd trivial z⟩
theorem sp_c_behind {d : Nat} {w : aw} {x n e p : Nat} {T : Nat → Nat} {L : Bool} {Q : wQ} (hS : SR w x T n e) (hat : fd w 258 (x + 11) = .int (nI p)) (hp : p ≤ e) (hl : fd w 265 (x + 11) = .int (bI L)) (h : ∀ w' q, q = (if L = true ∧ lk T e (bE T e p) = 41 then bE T e p + 1 else p) → SR w' x T n e → fd w' 258 (x + 11) = .int (nI q) → q ≤ e → Fr w w' (x + 11) (x + 12) → (∀ g, g ≠ 258 → fd w' g (x + 11) = fd w g (x + 11)) → Q none w') : wpD (d + 3) 52 [.ref (x + 11)] w Q := by
  refine ⟨Nat.le_of_ble_eq_true rfl, ?_⟩
  show wp (d + 2) 52 Q 0 [some (.ref (x + 11)), none] [] w 0 0
  have rk := hS.1
  have hT := hS.2.2.2.2.2.2.2.2.2.2.2.2
  have hen := hS.2.2.2.2.2.2.2.2.2.2.1
  have hn8 := hS.2.2.2.2.2.2.2.2.2.2.2.1
  have hb := bE_le (T := T) hp
  simp only [↓s_52_0, ↓s_52_1, ↓s_52_2, ↓s_52_5, kd_uF, ln_uF, ai_uF, al_uF, ar_uF, zs_uF, fd_uF, kd_uA, ln_uA, fd_uA, al_uA, ar_uA, zs_uA, ai_uA, kd_uL, ln_uL, fd_uL, ai_uL, ar_uL, zs_uL, al_uL, kd_uR, ln_uR, fd_uR, ai_uR, al_uR, zs_uR, ar_uR, true_and, and_true, Option.toList_some, Option.toList_none, List.cons_append, List.nil_append, catS_nil, catS_int, catS_ref, catS_null, catS_long, cat_int, cat_ref, cat_null, Nat.reduceEqDiff, Nat.reduceLeDiff, Nat.reduceAdd, false_and, and_false, if_false, if_true, ite_true, ite_false, true_or, or_true, false_or, or_false, and_self, forall_const, true_implies, reduceCtorEq, clr_int, clr_ref, clr_null, clr_none, clr_long, va_rf_some, va_rf_none, rk, hat]
  refine sp_c_blanks hS (by omega) ?_
  simp only [↓s_52_8, ↓s_52_9, ↓s_52_10, ↓s_52_13, ↓s_52_16, ↓s_52_17, ↓s_52_18, ↓s_52_33, kd_uF, ln_uF, ai_uF, al_uF, ar_uF, zs_uF, fd_uF, kd_uA, ln_uA, fd_uA, al_uA, ar_uA, zs_uA, ai_uA, kd_uL, ln_uL, fd_uL, ai_uL, ar_uL, zs_uL, al_uL, kd_uR, ln_uR, fd_uR, ai_uR, al_uR, zs_uR, ar_uR, true_and, and_true, Option.toList_some, Option.toList_none, List.cons_append, List.nil_append, catS_nil, catS_int, catS_ref, catS_null, catS_long, cat_int, cat_ref, cat_null, Nat.reduceEqDiff, Nat.reduceLeDiff, Nat.reduceAdd, false_and, and_false, if_false, if_true, ite_true, ite_false, true_or, or_true, false_or, or_false, and_self, forall_const, true_implies, reduceCtorEq, clr_int, clr_ref, clr_null, clr_none, clr_long, va_rf_some, va_rf_none, rk, hl]
  cases L with
  | false => exact ⟨fun _ => h w p (by rw [if_neg (fun z => by cases z.1)]) hS hat hp Fr.rf (fun _ _ => rfl), fun q => absurd rfl q⟩
  | true =>
    refine ⟨fun q => absurd q (by decide), fun _ => sp_c_look hS (by omega) ?_⟩
    simp only [↓s_52_21, ↓s_52_23, ↓s_52_26, ↓s_52_27, ↓s_52_28, ↓s_52_29, ↓s_52_30, ↓s_52_33, kd_uF, ln_uF, ai_uF, al_uF, ar_uF, zs_uF, fd_uF, kd_uA, ln_uA, fd_uA, al_uA, ar_uA, zs_uA, ai_uA, kd_uL, ln_uL, fd_uL, ai_uL, ar_uL, zs_uL, al_uL, kd_uR, ln_uR, fd_uR, ai_uR, al_uR, zs_uR, ar_uR, true_and, and_true, Option.toList_some, Option.toList_none, List.cons_append, List.nil_append, catS_nil, catS_int, catS_ref, catS_null, catS_long, cat_int, cat_ref, cat_null, Nat.reduceEqDiff, Nat.reduceLeDiff, Nat.reduceAdd, false_and, and_false, if_false, if_true, ite_true, ite_false, true_or, or_true, false_or, or_false, and_self, forall_const, true_implies, reduceCtorEq, clr_int, clr_ref, clr_null, clr_none, clr_long, va_rf_some, va_rf_none, rk]
    rw [show (41 : Int32) = nI 41 from rfl, lkI_eq hT (by decide) (by decide), nI_1]
    refine ⟨fun q => h w p (by rw [if_neg (fun z => q z.2)]) hS hat hp Fr.rf (fun _ _ => rfl), fun q => ?_⟩
    have hlt := lk_pos (T := T) (e := e) (p := bE T e p) (by omega)
    exact h _ (bE T e p + 1) (by rw [if_pos ⟨rfl, q⟩]) (hS.F (by decide) (by decide) (by decide)) (by simp only [fd_uF, eq_self, and_self, true_and, false_and, if_true, if_false, ite_true, ite_false, Nat.reduceEqDiff]) (by omega) (Fr.rf.F (by omega) (by omega)) (fun g hg => by rw [fd_uF, if_neg (fun q => hg q.1)])
theorem sp_c_more {d : Nat} {w : aw} {x n e p : Nat} {T : Nat → Nat} {B : Bool} {Q : wQ} (hS : SR w x T n e) (hat : fd w 258 (x + 11) = .int (nI p)) (hp : p ≤ e) (hb : fd w 267 (x + 11) = .int (bI B)) (h1 : B = false → p < bE T e p → bE T e p < e → Q (some (.int 1)) (uF w 258 (x + 11) (.int (nI (bE T e p))))) (h2 : ¬ (B = false ∧ p < bE T e p ∧ bE T e p < e) → Q (some (.int 0)) w) : wpD (d + 3) 49 [.ref (x + 11)] w Q := by
  refine ⟨Nat.le_of_ble_eq_true rfl, ?_⟩
  show wp (d + 2) 49 Q 0 [some (.ref (x + 11)), none] [] w 0 0
  have rk := hS.1
  have hen := hS.2.2.2.2.2.2.2.2.2.2.1
  have hn8 := hS.2.2.2.2.2.2.2.2.2.2.2.1
  have en := hS.2.2.2.2.2.2.2.2.2.1
  have hble := bE_le (T := T) hp
  have hbge := bE_ge (T := T) (e := e) (p := p)
  have no : ¬ (B = false ∧ p < bE T e p ∧ bE T e p < e) → wp (d + 2) 49 Q 32 [some (.ref (x + 11)), some (.int (nI (bE T e p)))] [] w 0 0 := by
    intro q
    simp only [↓s_49_32, ↓s_49_33, kd_uF, ln_uF, ai_uF, al_uF, ar_uF, zs_uF, fd_uF, kd_uA, ln_uA, fd_uA, al_uA, ar_uA, zs_uA, ai_uA, kd_uL, ln_uL, fd_uL, ai_uL, ar_uL, zs_uL, al_uL, kd_uR, ln_uR, fd_uR, ai_uR, al_uR, zs_uR, ar_uR, true_and, and_true, Option.toList_some, Option.toList_none, List.cons_append, List.nil_append, catS_nil, catS_int, catS_ref, catS_null, catS_long, cat_int, cat_ref, cat_null, Nat.reduceEqDiff, Nat.reduceLeDiff, Nat.reduceAdd, false_and, and_false, if_false, if_true, ite_true, ite_false, true_or, or_true, false_or, or_false, and_self, forall_const, true_implies, reduceCtorEq, clr_int, clr_ref, clr_null, clr_none, clr_long, va_rf_some, va_rf_none]
    exact ⟨rfl, h2 q⟩
  simp only [↓s_49_0, ↓s_49_1, ↓s_49_2, ↓s_49_5, kd_uF, ln_uF, ai_uF, al_uF, ar_uF, zs_uF, fd_uF, kd_uA, ln_uA, fd_uA, al_uA, ar_uA, zs_uA, ai_uA, kd_uL, ln_uL, fd_uL, ai_uL, ar_uL, zs_uL, al_uL, kd_uR, ln_uR, fd_uR, ai_uR, al_uR, zs_uR, ar_uR, true_and, and_true, Option.toList_some, Option.toList_none, List.cons_append, List.nil_append, catS_nil, catS_int, catS_ref, catS_null, catS_long, cat_int, cat_ref, cat_null, Nat.reduceEqDiff, Nat.reduceLeDiff, Nat.reduceAdd, false_and, and_false, if_false, if_true, ite_true, ite_false, true_or, or_true, false_or, or_false, and_self, forall_const, true_implies, reduceCtorEq, clr_int, clr_ref, clr_null, clr_none, clr_long, va_rf_some, va_rf_none, rk, hat]
  refine sp_c_blanks hS (by omega) ?_
  simp only [↓s_49_8, ↓s_49_9, ↓s_49_10, ↓s_49_13, ↓s_49_16, ↓s_49_17, ↓s_49_18, ↓s_49_21, ↓s_49_24, ↓s_49_25, ↓s_49_26, ↓s_49_29, ↓s_49_34, ↓s_49_35, ↓s_49_36, ↓s_49_39, ↓s_49_40, kd_uF, ln_uF, ai_uF, al_uF, ar_uF, zs_uF, fd_uF, kd_uA, ln_uA, fd_uA, al_uA, ar_uA, zs_uA, ai_uA, kd_uL, ln_uL, fd_uL, ai_uL, ar_uL, zs_uL, al_uL, kd_uR, ln_uR, fd_uR, ai_uR, al_uR, zs_uR, ar_uR, true_and, and_true, Option.toList_some, Option.toList_none, List.cons_append, List.nil_append, catS_nil, catS_int, catS_ref, catS_null, catS_long, cat_int, cat_ref, cat_null, Nat.reduceEqDiff, Nat.reduceLeDiff, Nat.reduceAdd, false_and, and_false, if_false, if_true, ite_true, ite_false, true_or, or_true, false_or, or_false, and_self, forall_const, true_implies, reduceCtorEq, clr_int, clr_ref, clr_null, clr_none, clr_long, va_rf_some, va_rf_none, rk, hat, hb, en]
  rw [nI_eq (by omega) (by omega), nI_ltI (by omega) (by omega)]
  cases B with
  | true => exact ⟨fun _ => no (fun z => by cases z.1), fun q => absurd q (by decide)⟩
  | false =>
    exact ⟨fun q => absurd rfl q, fun _ => ⟨fun q => no (fun z => by omega), fun q => ⟨fun q2 => ⟨rfl, h1 rfl (by omega) q2⟩, fun q2 => no (fun z => q2 z.2.2)⟩⟩⟩
theorem bE_idem {T : Nat → Nat} {e p : Nat} : bE T e (bE T e p) = bE T e p := by
  refine bE_no (fun q => ?_)
  by_cases c : p ≤ e
  · have h1 : cnt isB T p (e - p) < e - p := by unfold bE at q; omega
    exact cnt_end h1
  · rw [bE_no (fun z => by omega)] at q; omega
