theorem sp_C_isOpen {d : Nat} {w : aw} {h s : Nat} {H : hs} {Q : wQ} (hC : CAt w h H s) (h8 : H.1 0 ≤ 8) (h1 : H.1 0 ≠ 0 → Q (some (.int 1)) w) (h2 : H.1 0 = 0 → Q (some (.int 0)) w) : wpD (d + 1) 14 [.ref h] w Q := by
  refine ⟨Nat.le_of_ble_eq_true rfl, ?_⟩
  show wp d 14 Q 0 [some (.ref h)] [] w 0 0
  have k0 := hC.1.1
  have n0 := hC.2.1.1
  simp only [↓s_14_0, ↓s_14_1, ↓s_14_4, ↓s_14_7, ↓s_14_8, ↓s_14_11, ↓s_14_12, kd_uF, ln_uF, ai_uF, al_uF, ar_uF, zs_uF, fd_uF, kd_uA, ln_uA, fd_uA, al_uA, ar_uA, zs_uA, ai_uA, kd_uL, ln_uL, fd_uL, ai_uL, ar_uL, zs_uL, al_uL, kd_uR, ln_uR, fd_uR, ai_uR, al_uR, zs_uR, ar_uR, true_and, and_true, Option.toList_some, Option.toList_none, List.cons_append, List.nil_append, catS_nil, catS_int, catS_ref, catS_null, catS_long, cat_int, cat_ref, cat_null, Nat.reduceEqDiff, Nat.reduceLeDiff, Nat.reduceAdd, false_and, and_false, if_false, if_true, ite_true, ite_false, true_or, or_true, false_or, or_false, and_self, forall_const, true_implies, reduceCtorEq, clr_int, clr_ref, clr_null, clr_none, clr_long, va_rf_some, va_rf_none, k0, n0]
  rw [show (0 : Int32) = nI 0 from rfl, nI_leI (by omega) (by decide)]
  exact ⟨fun q => ⟨rfl, h2 (by omega)⟩, fun q => ⟨rfl, h1 (by omega)⟩⟩
theorem CAt.O {w : aw} {h s a b c e : Nat} {H : hs} (hC : CAt w h H s) (h0 : H.1 0 = 0) : CAt (uF (uF (uF (uF w 65 h (.int (nI a))) 66 h (.int (nI b))) 67 h (.int (nI c))) 68 h (.int (nI e))) h (h_open H a b c e) s := by
  obtain ⟨c, ⟨n0, n1, n2, n3, n4, n5, n6, n8, n9, n10⟩, b, r, i, u⟩ := hC
  refine ⟨(((c.F rfl).F rfl).F rfl).F rfl, ⟨by simp [fd_uF, h_open, hSet, va_up], by simp [fd_uF, h_open, hSet, va_up], by simp [fd_uF, h_open, hSet, va_up], by simp [fd_uF, h_open, hSet, va_up], n4, n5, n6, n8, n9, n10⟩, b, (((r.F rfl).F rfl).F rfl).F rfl, fun t t1 t2 => ?_, u.F.F.F.F⟩
  rcases i t t1 t2 with ⟨a, d1, d2⟩ | q
  · omega
  · exact Or.inr q
theorem sp_C_open {dd : Nat} {w : aw} {x : Nat} {a b c d : Int32} {H : hs} {Q : wQ} (hM : CM w x H) (hI : HI H) (h4 : H.1 0 = 0 → H.1 4 = 0) (h : ∀ w', CM w' x (c_open H a b c d).2 → Fr w w' (x + 12) (x + 80) → Q (some (.int (c_open H a b c d).1)) w') : wpD (dd + 2) 79 [.ref x, .int a, .int b, .int c, .int d] w Q := by
  refine ⟨Nat.le_of_ble_eq_true rfl, ?_⟩
  show wp (dd + 1) 79 Q 0 [some (.ref x), some (.int a), some (.int b), some (.int c), some (.int d)] [] w 0 0
  have h8 := hI.1
  have kx := hM.1
  have fx := hM.2.1
  have kh := hM.2.2.1.1
  have j52 : ¬ (H.1 0 = 0 ∧ (nI 1 ≤ a ∧ a ≤ nI 8) ∧ (nI 1 ≤ b ∧ b ≤ nI 7) ∧ (nI 1 ≤ c ∧ c ≤ nI 64) ∧ (nI 4 ≤ d ∧ d ≤ nI 1000)) → wp (dd + 1) 79 Q 52 [some (.ref x), some (.int a), some (.int b), some (.int c), some (.int d)] [] w 0 0 := by
    intro hn
    have hc : c_open H a b c d = (-1, H) := if_neg hn
    rw [hc] at h
    simp only [↓s_79_52, ↓s_79_53, kd_uF, ln_uF, ai_uF, al_uF, ar_uF, zs_uF, fd_uF, kd_uA, ln_uA, fd_uA, al_uA, ar_uA, zs_uA, ai_uA, kd_uL, ln_uL, fd_uL, ai_uL, ar_uL, zs_uL, al_uL, kd_uR, ln_uR, fd_uR, ai_uR, al_uR, zs_uR, ar_uR, true_and, and_true, Option.toList_some, Option.toList_none, List.cons_append, List.nil_append, catS_nil, catS_int, catS_ref, catS_null, catS_long, cat_int, cat_ref, cat_null, Nat.reduceEqDiff, Nat.reduceLeDiff, Nat.reduceAdd, false_and, and_false, if_false, if_true, ite_true, ite_false, true_or, or_true, false_or, or_false, and_self, forall_const, true_implies, reduceCtorEq, clr_int, clr_ref, clr_null, clr_none, clr_long, va_rf_some, va_rf_none]
    exact h w hM Fr.rf
  simp only [↓s_79_0, ↓s_79_1, ↓s_79_4, kd_uF, ln_uF, ai_uF, al_uF, ar_uF, zs_uF, fd_uF, kd_uA, ln_uA, fd_uA, al_uA, ar_uA, zs_uA, ai_uA, kd_uL, ln_uL, fd_uL, ai_uL, ar_uL, zs_uL, al_uL, kd_uR, ln_uR, fd_uR, ai_uR, al_uR, zs_uR, ar_uR, true_and, and_true, Option.toList_some, Option.toList_none, List.cons_append, List.nil_append, catS_nil, catS_int, catS_ref, catS_null, catS_long, cat_int, cat_ref, cat_null, Nat.reduceEqDiff, Nat.reduceLeDiff, Nat.reduceAdd, false_and, and_false, if_false, if_true, ite_true, ite_false, true_or, or_true, false_or, or_false, and_self, forall_const, true_implies, reduceCtorEq, clr_int, clr_ref, clr_null, clr_none, clr_long, va_rf_some, va_rf_none, kx, fx, kh]
  refine sp_C_isOpen hM.2.2 h8 (fun q => ?_) (fun q0 => ?_)
  · simp only [↓s_79_7, ↓s_79_10, ↓s_79_11, ↓s_79_12, ↓s_79_14, kd_uF, ln_uF, ai_uF, al_uF, ar_uF, zs_uF, fd_uF, kd_uA, ln_uA, fd_uA, al_uA, ar_uA, zs_uA, ai_uA, kd_uL, ln_uL, fd_uL, ai_uL, ar_uL, zs_uL, al_uL, kd_uR, ln_uR, fd_uR, ai_uR, al_uR, zs_uR, ar_uR, true_and, and_true, Option.toList_some, Option.toList_none, List.cons_append, List.nil_append, catS_nil, catS_int, catS_ref, catS_null, catS_long, cat_int, cat_ref, cat_null, Nat.reduceEqDiff, Nat.reduceLeDiff, Nat.reduceAdd, false_and, and_false, if_false, if_true, ite_true, ite_false, true_or, or_true, false_or, or_false, and_self, forall_const, true_implies, reduceCtorEq, clr_int, clr_ref, clr_null, clr_none, clr_long, va_rf_some, va_rf_none]
    exact ⟨fun _ => j52 (fun e => q e.1), fun q => absurd q (by decide)⟩
  simp only [↓s_79_7, ↓s_79_10, ↓s_79_11, ↓s_79_12, ↓s_79_14, kd_uF, ln_uF, ai_uF, al_uF, ar_uF, zs_uF, fd_uF, kd_uA, ln_uA, fd_uA, al_uA, ar_uA, zs_uA, ai_uA, kd_uL, ln_uL, fd_uL, ai_uL, ar_uL, zs_uL, al_uL, kd_uR, ln_uR, fd_uR, ai_uR, al_uR, zs_uR, ar_uR, true_and, and_true, Option.toList_some, Option.toList_none, List.cons_append, List.nil_append, catS_nil, catS_int, catS_ref, catS_null, catS_long, cat_int, cat_ref, cat_null, Nat.reduceEqDiff, Nat.reduceLeDiff, Nat.reduceAdd, false_and, and_false, if_false, if_true, ite_true, ite_false, true_or, or_true, false_or, or_false, and_self, forall_const, true_implies, reduceCtorEq, clr_int, clr_ref, clr_null, clr_none, clr_long, va_rf_some, va_rf_none]
  refine ⟨fun q => absurd trivial q, sp_C_within (fun a1 a2 => ?_) (fun a1 => ?_)⟩
  · simp only [↓s_79_17, ↓s_79_20, ↓s_79_21, ↓s_79_22, ↓s_79_24, kd_uF, ln_uF, ai_uF, al_uF, ar_uF, zs_uF, fd_uF, kd_uA, ln_uA, fd_uA, al_uA, ar_uA, zs_uA, ai_uA, kd_uL, ln_uL, fd_uL, ai_uL, ar_uL, zs_uL, al_uL, kd_uR, ln_uR, fd_uR, ai_uR, al_uR, zs_uR, ar_uR, true_and, and_true, Option.toList_some, Option.toList_none, List.cons_append, List.nil_append, catS_nil, catS_int, catS_ref, catS_null, catS_long, cat_int, cat_ref, cat_null, Nat.reduceEqDiff, Nat.reduceLeDiff, Nat.reduceAdd, false_and, and_false, if_false, if_true, ite_true, ite_false, true_or, or_true, false_or, or_false, and_self, forall_const, true_implies, reduceCtorEq, clr_int, clr_ref, clr_null, clr_none, clr_long, va_rf_some, va_rf_none]
    refine ⟨fun q => absurd q (by decide), fun _ => sp_C_within (fun b1 b2 => ?_) (fun b1 => ?_)⟩
    · simp only [↓s_79_27, ↓s_79_30, ↓s_79_31, ↓s_79_32, ↓s_79_34, kd_uF, ln_uF, ai_uF, al_uF, ar_uF, zs_uF, fd_uF, kd_uA, ln_uA, fd_uA, al_uA, ar_uA, zs_uA, ai_uA, kd_uL, ln_uL, fd_uL, ai_uL, ar_uL, zs_uL, al_uL, kd_uR, ln_uR, fd_uR, ai_uR, al_uR, zs_uR, ar_uR, true_and, and_true, Option.toList_some, Option.toList_none, List.cons_append, List.nil_append, catS_nil, catS_int, catS_ref, catS_null, catS_long, cat_int, cat_ref, cat_null, Nat.reduceEqDiff, Nat.reduceLeDiff, Nat.reduceAdd, false_and, and_false, if_false, if_true, ite_true, ite_false, true_or, or_true, false_or, or_false, and_self, forall_const, true_implies, reduceCtorEq, clr_int, clr_ref, clr_null, clr_none, clr_long, va_rf_some, va_rf_none]
      refine ⟨fun q => absurd q (by decide), fun _ => sp_C_within (fun c1 c2 => ?_) (fun c1 => ?_)⟩
      · simp only [↓s_79_37, ↓s_79_40, ↓s_79_42, ↓s_79_43, ↓s_79_46, kd_uF, ln_uF, ai_uF, al_uF, ar_uF, zs_uF, fd_uF, kd_uA, ln_uA, fd_uA, al_uA, ar_uA, zs_uA, ai_uA, kd_uL, ln_uL, fd_uL, ai_uL, ar_uL, zs_uL, al_uL, kd_uR, ln_uR, fd_uR, ai_uR, al_uR, zs_uR, ar_uR, true_and, and_true, Option.toList_some, Option.toList_none, List.cons_append, List.nil_append, catS_nil, catS_int, catS_ref, catS_null, catS_long, cat_int, cat_ref, cat_null, Nat.reduceEqDiff, Nat.reduceLeDiff, Nat.reduceAdd, false_and, and_false, if_false, if_true, ite_true, ite_false, true_or, or_true, false_or, or_false, and_self, forall_const, true_implies, reduceCtorEq, clr_int, clr_ref, clr_null, clr_none, clr_long, va_rf_some, va_rf_none]
        refine ⟨fun q => absurd q (by decide), fun _ => sp_C_within (fun d1 d2 => ?_) (fun d1 => ?_)⟩
        · simp only [↓s_79_49, ↓s_79_54, ↓s_79_55, ↓s_79_58, ↓s_79_59, ↓s_79_60, ↓s_79_61, ↓s_79_63, kd_uF, ln_uF, ai_uF, al_uF, ar_uF, zs_uF, fd_uF, kd_uA, ln_uA, fd_uA, al_uA, ar_uA, zs_uA, ai_uA, kd_uL, ln_uL, fd_uL, ai_uL, ar_uL, zs_uL, al_uL, kd_uR, ln_uR, fd_uR, ai_uR, al_uR, zs_uR, ar_uR, true_and, and_true, Option.toList_some, Option.toList_none, List.cons_append, List.nil_append, catS_nil, catS_int, catS_ref, catS_null, catS_long, cat_int, cat_ref, cat_null, Nat.reduceEqDiff, Nat.reduceLeDiff, Nat.reduceAdd, false_and, and_false, if_false, if_true, ite_true, ite_false, true_or, or_true, false_or, or_false, and_self, forall_const, true_implies, reduceCtorEq, clr_int, clr_ref, clr_null, clr_none, clr_long, va_rf_some, va_rf_none, kx, fx, kh]
          refine ⟨fun _ => ⟨Nat.le_of_ble_eq_true rfl, ?_⟩, fun q => absurd q (by decide)⟩
          show wp dd 15 _ 0 [some (.ref (x + 12)), some (.int a), some (.int b), some (.int c), some (.int d)] [] w 0 0
          simp only [↓s_15_0, ↓s_15_1, ↓s_15_2, ↓s_15_5, ↓s_15_6, ↓s_15_7, ↓s_15_10, ↓s_15_11, ↓s_15_12, ↓s_15_15, ↓s_15_16, ↓s_15_18, ↓s_15_21, kd_uF, ln_uF, ai_uF, al_uF, ar_uF, zs_uF, fd_uF, kd_uA, ln_uA, fd_uA, al_uA, ar_uA, zs_uA, ai_uA, kd_uL, ln_uL, fd_uL, ai_uL, ar_uL, zs_uL, al_uL, kd_uR, ln_uR, fd_uR, ai_uR, al_uR, zs_uR, ar_uR, true_and, and_true, Option.toList_some, Option.toList_none, List.cons_append, List.nil_append, catS_nil, catS_int, catS_ref, catS_null, catS_long, cat_int, cat_ref, cat_null, Nat.reduceEqDiff, Nat.reduceLeDiff, Nat.reduceAdd, false_and, and_false, if_false, if_true, ite_true, ite_false, true_or, or_true, false_or, or_false, and_self, forall_const, true_implies, reduceCtorEq, clr_int, clr_ref, clr_null, clr_none, clr_long, va_rf_some, va_rf_none, kh]
          simp only [↓s_79_66, ↓s_79_67, kd_uF, ln_uF, ai_uF, al_uF, ar_uF, zs_uF, fd_uF, kd_uA, ln_uA, fd_uA, al_uA, ar_uA, zs_uA, ai_uA, kd_uL, ln_uL, fd_uL, ai_uL, ar_uL, zs_uL, al_uL, kd_uR, ln_uR, fd_uR, ai_uR, al_uR, zs_uR, ar_uR, true_and, and_true, Option.toList_some, Option.toList_none, List.cons_append, List.nil_append, catS_nil, catS_int, catS_ref, catS_null, catS_long, cat_int, cat_ref, cat_null, Nat.reduceEqDiff, Nat.reduceLeDiff, Nat.reduceAdd, false_and, and_false, if_false, if_true, ite_true, ite_false, true_or, or_true, false_or, or_false, and_self, forall_const, true_implies, reduceCtorEq, clr_int, clr_ref, clr_null, clr_none, clr_long, va_rf_some, va_rf_none]
          have hc : c_open H a b c d = (1, h_open H a.toNatClampNeg b.toNatClampNeg c.toNatClampNeg d.toNatClampNeg) := if_pos ⟨q0, ⟨a1, a2⟩, ⟨b1, b2⟩, ⟨c1, c2⟩, d1, d2⟩
          rw [hc] at h
          have hA1 := hM.2.2.O (a := a.toNatClampNeg) (b := b.toNatClampNeg) (c := c.toNatClampNeg) (e := d.toNatClampNeg) q0
          rw [← (rb_in (lo := 1) (hi := 8) ⟨a1, a2⟩ (by decide) (by decide)).1, ← (rb_in (lo := 1) (hi := 7) ⟨b1, b2⟩ (by decide) (by decide)).1, ← (rb_in (lo := 1) (hi := 64) ⟨c1, c2⟩ (by decide) (by decide)).1, ← (rb_in (lo := 4) (hi := 1000) ⟨d1, d2⟩ (by decide) (by decide)).1] at hA1
          have fr : Fr w (uF (uF (uF (uF w 65 (x + 12) (.int a)) 66 (x + 12) (.int b)) 67 (x + 12) (.int c)) 68 (x + 12) (.int d)) (x + 12) (x + 80) := (((Fr.rf.F (by omega) (by omega)).F (by omega) (by omega)).F (by omega) (by omega)).F (by omega) (by omega)
          refine h _ (hM.H fr ?_) fr
          have e4 : (h_open H a.toNatClampNeg b.toNatClampNeg c.toNatClampNeg d.toNatClampNeg).1 4 = 0 := by
            unfold h_open
            rw [hSet_ne (by decide), hSet_ne (by decide), hSet_ne (by decide), hSet_ne (by decide)]; exact h4 q0
          rw [h4 q0] at hA1
          rw [e4, Nat.zero_mod]
          rw [Nat.zero_mod] at hA1
          exact hA1
        · simp only [↓s_79_49, ↓s_79_54, ↓s_79_55, ↓s_79_58, ↓s_79_59, ↓s_79_60, ↓s_79_61, ↓s_79_63, kd_uF, ln_uF, ai_uF, al_uF, ar_uF, zs_uF, fd_uF, kd_uA, ln_uA, fd_uA, al_uA, ar_uA, zs_uA, ai_uA, kd_uL, ln_uL, fd_uL, ai_uL, ar_uL, zs_uL, al_uL, kd_uR, ln_uR, fd_uR, ai_uR, al_uR, zs_uR, ar_uR, true_and, and_true, Option.toList_some, Option.toList_none, List.cons_append, List.nil_append, catS_nil, catS_int, catS_ref, catS_null, catS_long, cat_int, cat_ref, cat_null, Nat.reduceEqDiff, Nat.reduceLeDiff, Nat.reduceAdd, false_and, and_false, if_false, if_true, ite_true, ite_false, true_or, or_true, false_or, or_false, and_self, forall_const, true_implies, reduceCtorEq, clr_int, clr_ref, clr_null, clr_none, clr_long, va_rf_some, va_rf_none]
          exact ⟨fun q => absurd trivial q, j52 (fun e => d1 e.2.2.2.2)⟩
      · simp only [↓s_79_37, ↓s_79_40, ↓s_79_42, ↓s_79_43, ↓s_79_46, kd_uF, ln_uF, ai_uF, al_uF, ar_uF, zs_uF, fd_uF, kd_uA, ln_uA, fd_uA, al_uA, ar_uA, zs_uA, ai_uA, kd_uL, ln_uL, fd_uL, ai_uL, ar_uL, zs_uL, al_uL, kd_uR, ln_uR, fd_uR, ai_uR, al_uR, zs_uR, ar_uR, true_and, and_true, Option.toList_some, Option.toList_none, List.cons_append, List.nil_append, catS_nil, catS_int, catS_ref, catS_null, catS_long, cat_int, cat_ref, cat_null, Nat.reduceEqDiff, Nat.reduceLeDiff, Nat.reduceAdd, false_and, and_false, if_false, if_true, ite_true, ite_false, true_or, or_true, false_or, or_false, and_self, forall_const, true_implies, reduceCtorEq, clr_int, clr_ref, clr_null, clr_none, clr_long, va_rf_some, va_rf_none]
        exact ⟨j52 (fun e => c1 e.2.2.2.1), fun q => absurd trivial q⟩
    · simp only [↓s_79_27, ↓s_79_30, ↓s_79_31, ↓s_79_32, ↓s_79_34, kd_uF, ln_uF, ai_uF, al_uF, ar_uF, zs_uF, fd_uF, kd_uA, ln_uA, fd_uA, al_uA, ar_uA, zs_uA, ai_uA, kd_uL, ln_uL, fd_uL, ai_uL, ar_uL, zs_uL, al_uL, kd_uR, ln_uR, fd_uR, ai_uR, al_uR, zs_uR, ar_uR, true_and, and_true, Option.toList_some, Option.toList_none, List.cons_append, List.nil_append, catS_nil, catS_int, catS_ref, catS_null, catS_long, cat_int, cat_ref, cat_null, Nat.reduceEqDiff, Nat.reduceLeDiff, Nat.reduceAdd, false_and, and_false, if_false, if_true, ite_true, ite_false, true_or, or_true, false_or, or_false, and_self, forall_const, true_implies, reduceCtorEq, clr_int, clr_ref, clr_null, clr_none, clr_long, va_rf_some, va_rf_none]
      exact ⟨j52 (fun e => b1 e.2.2.1), fun q => absurd trivial q⟩
  · simp only [↓s_79_17, ↓s_79_20, ↓s_79_21, ↓s_79_22, ↓s_79_24, kd_uF, ln_uF, ai_uF, al_uF, ar_uF, zs_uF, fd_uF, kd_uA, ln_uA, fd_uA, al_uA, ar_uA, zs_uA, ai_uA, kd_uL, ln_uL, fd_uL, ai_uL, ar_uL, zs_uL, al_uL, kd_uR, ln_uR, fd_uR, ai_uR, al_uR, zs_uR, ar_uR, true_and, and_true, Option.toList_some, Option.toList_none, List.cons_append, List.nil_append, catS_nil, catS_int, catS_ref, catS_null, catS_long, cat_int, cat_ref, cat_null, Nat.reduceEqDiff, Nat.reduceLeDiff, Nat.reduceAdd, false_and, and_false, if_false, if_true, ite_true, ite_false, true_or, or_true, false_or, or_false, and_self, forall_const, true_implies, reduceCtorEq, clr_int, clr_ref, clr_null, clr_none, clr_long, va_rf_some, va_rf_none]
    exact ⟨j52 (fun e => a1 e.2.1), fun q => absurd trivial q⟩
def h_busy (H : hs) : Nat → Nat
  | 0 => 0
  | n + 1 => h_busy H n + (if (h_steps H n).1 6 = 0 then 0 else 1)
theorem h_step_idle {H : hs} : (h_step H).1 10 + (if H.1 6 = 0 then 0 else 1) = H.1 10 + 1 := by
  unfold h_step
  rw [h_disp_0 (by omega), h_beat_0 (by omega)]
  unfold h_inst
  rw [hSet_ne (show (6 : Nat) ≠ 4 by decide)]
  by_cases c : H.1 6 = 0
  · rw [if_pos c, if_pos c, hSet_at, hSet_ne (by decide)]
  · rw [if_neg c, if_neg c]
    split
    · show (hSet H 4 (H.1 4 + 1)).1 10 + 1 = _
      rw [hSet_ne (by decide)]
    · rw [hSet_ne (by decide), hSet_ne (by decide)]
      show (hSet H 4 (H.1 4 + 1)).1 10 + 1 = _
      rw [hSet_ne (by decide)]
theorem h_busy_eq {H : hs} {n : Nat} : (h_steps H n).1 10 + h_busy H n = H.1 10 + n := by
  induction n with
  | zero => rfl
  | succ n ih =>
    have := h_step_idle (H := h_steps H n)
    show (h_step (h_steps H n)).1 10 + (h_busy H n + (if (h_steps H n).1 6 = 0 then 0 else 1)) = _
    omega
theorem nI_subs (a b c d : Nat) (h : a + b = c + d) : nI d - (nI a - nI c) = nI b := by
  have e : nI a + nI b = nI c + nI d := by rw [nI_add, nI_add, h]
  have : nI b = nI c + nI d - nI a := by rw [← e, Int32.add_comm, Int32.add_sub_cancel]
  rw [this]
  generalize nI a = x; generalize nI c = y; generalize nI d = z
  rw [Int32.sub_eq_add_neg z, Int32.neg_sub, Int32.sub_eq_add_neg y, Int32.sub_eq_add_neg (y + z), ← Int32.add_assoc, Int32.add_comm z y]
theorem sp_C_run {d : Nat} {w : aw} {x : Nat} {n : Int32} {H : hs} {Q : wQ} (hM : CM w x H) (hX : HX H) (hJ : HJ H) (hS : H.1 4 < 2147482000) (h : ∀ w', CM w' x (c_run H n).2 → Fr w w' (x + 12) (x + 80) → Q (some (.int (c_run H n).1)) w') : wpD (d + 8) 91 [.ref x, .int n] w Q := by
  refine ⟨Nat.le_of_ble_eq_true rfl, ?_⟩
  show wp (d + 7) 91 Q 0 [some (.ref x), some (.int n), none, none] [] w 0 0
  have h8 := hX.1.1
  have kx := hM.1
  have fx := hM.2.1
  have kh := hM.2.2.1.1
  have j21 : c_run H n = (-1, H) → wp (d + 7) 91 Q 21 [some (.ref x), some (.int n), none, none] [] w 0 0 := by
    intro hc
    rw [hc] at h
    simp only [↓s_91_21, ↓s_91_22, kd_uF, ln_uF, ai_uF, al_uF, ar_uF, zs_uF, fd_uF, kd_uA, ln_uA, fd_uA, al_uA, ar_uA, zs_uA, ai_uA, kd_uL, ln_uL, fd_uL, ai_uL, ar_uL, zs_uL, al_uL, kd_uR, ln_uR, fd_uR, ai_uR, al_uR, zs_uR, ar_uR, true_and, and_true, Option.toList_some, Option.toList_none, List.cons_append, List.nil_append, catS_nil, catS_int, catS_ref, catS_null, catS_long, cat_int, cat_ref, cat_null, Nat.reduceEqDiff, Nat.reduceLeDiff, Nat.reduceAdd, false_and, and_false, if_false, if_true, ite_true, ite_false, true_or, or_true, false_or, or_false, and_self, forall_const, true_implies, reduceCtorEq, clr_int, clr_ref, clr_null, clr_none, clr_long, va_rf_some, va_rf_none]
    exact h w hM Fr.rf
  simp only [↓s_91_0, ↓s_91_1, ↓s_91_4, kd_uF, ln_uF, ai_uF, al_uF, ar_uF, zs_uF, fd_uF, kd_uA, ln_uA, fd_uA, al_uA, ar_uA, zs_uA, ai_uA, kd_uL, ln_uL, fd_uL, ai_uL, ar_uL, zs_uL, al_uL, kd_uR, ln_uR, fd_uR, ai_uR, al_uR, zs_uR, ar_uR, true_and, and_true, Option.toList_some, Option.toList_none, List.cons_append, List.nil_append, catS_nil, catS_int, catS_ref, catS_null, catS_long, cat_int, cat_ref, cat_null, Nat.reduceEqDiff, Nat.reduceLeDiff, Nat.reduceAdd, false_and, and_false, if_false, if_true, ite_true, ite_false, true_or, or_true, false_or, or_false, and_self, forall_const, true_implies, reduceCtorEq, clr_int, clr_ref, clr_null, clr_none, clr_long, va_rf_some, va_rf_none, kx, fx, kh]
  refine sp_C_isOpen hM.2.2 h8 (fun q => ?_) (fun q => ?_)
  · simp only [↓s_91_7, ↓s_91_10, ↓s_91_11, ↓s_91_12, ↓s_91_15, kd_uF, ln_uF, ai_uF, al_uF, ar_uF, zs_uF, fd_uF, kd_uA, ln_uA, fd_uA, al_uA, ar_uA, zs_uA, ai_uA, kd_uL, ln_uL, fd_uL, ai_uL, ar_uL, zs_uL, al_uL, kd_uR, ln_uR, fd_uR, ai_uR, al_uR, zs_uR, ar_uR, true_and, and_true, Option.toList_some, Option.toList_none, List.cons_append, List.nil_append, catS_nil, catS_int, catS_ref, catS_null, catS_long, cat_int, cat_ref, cat_null, Nat.reduceEqDiff, Nat.reduceLeDiff, Nat.reduceAdd, false_and, and_false, if_false, if_true, ite_true, ite_false, true_or, or_true, false_or, or_false, and_self, forall_const, true_implies, reduceCtorEq, clr_int, clr_ref, clr_null, clr_none, clr_long, va_rf_some, va_rf_none]
    refine ⟨fun q => absurd q (by decide), fun _ => sp_C_in (n := 1001) rfl (by decide) (fun k a1 a2 a3 => ?_) (fun a1 => ?_)⟩
    · have hc : c_run H n = (nI k - (nI ((h_steps H k).1 10) - nI (H.1 10)), h_steps H k) := by unfold c_run; rw [if_neg q, a1]
      rw [nI_subs _ (h_busy H k) _ _ h_busy_eq] at hc
      rw [hc] at h
      subst a3
      have lp : ∀ (j i : Nat), i + j = k → ∀ w', CAt w' (x + 12) (h_steps H i) ((h_steps H i).1 4 % (h_steps H i).1 3) → Fr w w' (x + 12) (x + 80) → wp (d + 7) 91 Q 27 [some (.ref x), some (.int (nI k)), some (.int (nI (h_busy H i))), some (.int (nI i))] [] w' 0 0 := by
        intro j
        induction j with
        | zero =>
          intro i hi w' c1 f1
          have hi : i = k := by omega
          subst hi
          rw [s_91_27]
          simp only [↓s_91_28, ↓s_91_29, ↓s_91_51, ↓s_91_52, kd_uF, ln_uF, ai_uF, al_uF, ar_uF, zs_uF, fd_uF, kd_uA, ln_uA, fd_uA, al_uA, ar_uA, zs_uA, ai_uA, kd_uL, ln_uL, fd_uL, ai_uL, ar_uL, zs_uL, al_uL, kd_uR, ln_uR, fd_uR, ai_uR, al_uR, zs_uR, ar_uR, true_and, and_true, Option.toList_some, Option.toList_none, List.cons_append, List.nil_append, catS_nil, catS_int, catS_ref, catS_null, catS_long, cat_int, cat_ref, cat_null, Nat.reduceEqDiff, Nat.reduceLeDiff, Nat.reduceAdd, false_and, and_false, if_false, if_true, ite_true, ite_false, true_or, or_true, false_or, or_false, and_self, forall_const, true_implies, reduceCtorEq, clr_int, clr_ref, clr_null, clr_none, clr_long, va_rf_some, va_rf_none]
          exact ⟨fun _ => h w' (hM.H f1 c1) f1, fun q => absurd (nI_le (Nat.le_refl _) (by omega)) q⟩
        | succ j ih =>
          intro i hi w' c1 f1
          have kx1 : kd w' x = 8 := (f1.1 x).trans kx
          have fx1 : fd w' 450 x = .ref (x + 12) := ((f1.2.2.2 x (by omega)).1 _).trans fx
          have kh1 := c1.1.1
          rw [s_91_27]
          simp only [↓s_91_28, ↓s_91_29, ↓s_91_32, ↓s_91_33, ↓s_91_36, kd_uF, ln_uF, ai_uF, al_uF, ar_uF, zs_uF, fd_uF, kd_uA, ln_uA, fd_uA, al_uA, ar_uA, zs_uA, ai_uA, kd_uL, ln_uL, fd_uL, ai_uL, ar_uL, zs_uL, al_uL, kd_uR, ln_uR, fd_uR, ai_uR, al_uR, zs_uR, ar_uR, true_and, and_true, Option.toList_some, Option.toList_none, List.cons_append, List.nil_append, catS_nil, catS_int, catS_ref, catS_null, catS_long, cat_int, cat_ref, cat_null, Nat.reduceEqDiff, Nat.reduceLeDiff, Nat.reduceAdd, false_and, and_false, if_false, if_true, ite_true, ite_false, true_or, or_true, false_or, or_false, and_self, forall_const, true_implies, reduceCtorEq, clr_int, clr_ref, clr_null, clr_none, clr_long, va_rf_some, va_rf_none, kx1, fx1, kh1]
          refine ⟨fun q => absurd q (nI_ge (by omega) (by omega)), fun _ => sp_C_step c1 hX.steps (hJ.steps hX) (by rw [h_steps_0 (by omega)]; exact q) (by rw [h_steps_4]; omega) (fun w2 g1 g2 => ?_)⟩
          have eb : h_busy H (i + 1) = h_busy H i + (if (h_steps H i).1 6 = 0 then 0 else 1) := rfl
          have go := ih (i + 1) (by omega) w2 g1 (f1.tr g2)
          rw [eb] at go
          by_cases c6 : (h_steps H i).1 6 = 0
          · rw [if_pos c6]
            rw [if_pos c6] at go
            simp only [↓s_91_39, ↓s_91_42, ↓s_91_45, ↓s_91_48, kd_uF, ln_uF, ai_uF, al_uF, ar_uF, zs_uF, fd_uF, kd_uA, ln_uA, fd_uA, al_uA, ar_uA, zs_uA, ai_uA, kd_uL, ln_uL, fd_uL, ai_uL, ar_uL, zs_uL, al_uL, kd_uR, ln_uR, fd_uR, ai_uR, al_uR, zs_uR, ar_uR, true_and, and_true, Option.toList_some, Option.toList_none, List.cons_append, List.nil_append, catS_nil, catS_int, catS_ref, catS_null, catS_long, cat_int, cat_ref, cat_null, Nat.reduceEqDiff, Nat.reduceLeDiff, Nat.reduceAdd, false_and, and_false, if_false, if_true, ite_true, ite_false, true_or, or_true, false_or, or_false, and_self, forall_const, true_implies, reduceCtorEq, clr_int, clr_ref, clr_null, clr_none, clr_long, va_rf_some, va_rf_none]
            rw [nI_1]
            exact ⟨go, fun q => absurd trivial q⟩
          · rw [if_neg c6]
            rw [if_neg c6] at go
            simp only [↓s_91_39, ↓s_91_42, ↓s_91_45, ↓s_91_48, kd_uF, ln_uF, ai_uF, al_uF, ar_uF, zs_uF, fd_uF, kd_uA, ln_uA, fd_uA, al_uA, ar_uA, zs_uA, ai_uA, kd_uL, ln_uL, fd_uL, ai_uL, ar_uL, zs_uL, al_uL, kd_uR, ln_uR, fd_uR, ai_uR, al_uR, zs_uR, ar_uR, true_and, and_true, Option.toList_some, Option.toList_none, List.cons_append, List.nil_append, catS_nil, catS_int, catS_ref, catS_null, catS_long, cat_int, cat_ref, cat_null, Nat.reduceEqDiff, Nat.reduceLeDiff, Nat.reduceAdd, false_and, and_false, if_false, if_true, ite_true, ite_false, true_or, or_true, false_or, or_false, and_self, forall_const, true_implies, reduceCtorEq, clr_int, clr_ref, clr_null, clr_none, clr_long, va_rf_some, va_rf_none]
            rw [nI_1, nI_1]
            exact ⟨fun q => absurd q (by decide), fun _ => go⟩
      simp only [↓s_91_18, ↓s_91_23, ↓s_91_24, ↓s_91_25, ↓s_91_26, kd_uF, ln_uF, ai_uF, al_uF, ar_uF, zs_uF, fd_uF, kd_uA, ln_uA, fd_uA, al_uA, ar_uA, zs_uA, ai_uA, kd_uL, ln_uL, fd_uL, ai_uL, ar_uL, zs_uL, al_uL, kd_uR, ln_uR, fd_uR, ai_uR, al_uR, zs_uR, ar_uR, true_and, and_true, Option.toList_some, Option.toList_none, List.cons_append, List.nil_append, catS_nil, catS_int, catS_ref, catS_null, catS_long, cat_int, cat_ref, cat_null, Nat.reduceEqDiff, Nat.reduceLeDiff, Nat.reduceAdd, false_and, and_false, if_false, if_true, ite_true, ite_false, true_or, or_true, false_or, or_false, and_self, forall_const, true_implies, reduceCtorEq, clr_int, clr_ref, clr_null, clr_none, clr_long, va_rf_some, va_rf_none]
      exact ⟨fun _ => lp k 0 (by omega) w hM.2.2 Fr.rf, fun q => absurd q (by decide)⟩
    · simp only [↓s_91_18, ↓s_91_23, ↓s_91_24, ↓s_91_25, ↓s_91_26, kd_uF, ln_uF, ai_uF, al_uF, ar_uF, zs_uF, fd_uF, kd_uA, ln_uA, fd_uA, al_uA, ar_uA, zs_uA, ai_uA, kd_uL, ln_uL, fd_uL, ai_uL, ar_uL, zs_uL, al_uL, kd_uR, ln_uR, fd_uR, ai_uR, al_uR, zs_uR, ar_uR, true_and, and_true, Option.toList_some, Option.toList_none, List.cons_append, List.nil_append, catS_nil, catS_int, catS_ref, catS_null, catS_long, cat_int, cat_ref, cat_null, Nat.reduceEqDiff, Nat.reduceLeDiff, Nat.reduceAdd, false_and, and_false, if_false, if_true, ite_true, ite_false, true_or, or_true, false_or, or_false, and_self, forall_const, true_implies, reduceCtorEq, clr_int, clr_ref, clr_null, clr_none, clr_long, va_rf_some, va_rf_none]
      exact ⟨fun q => absurd trivial q, j21 (by unfold c_run; rw [if_neg q, a1])⟩
  · simp only [↓s_91_7, ↓s_91_10, ↓s_91_11, ↓s_91_12, ↓s_91_15, kd_uF, ln_uF, ai_uF, al_uF, ar_uF, zs_uF, fd_uF, kd_uA, ln_uA, fd_uA, al_uA, ar_uA, zs_uA, ai_uA, kd_uL, ln_uL, fd_uL, ai_uL, ar_uL, zs_uL, al_uL, kd_uR, ln_uR, fd_uR, ai_uR, al_uR, zs_uR, ar_uR, true_and, and_true, Option.toList_some, Option.toList_none, List.cons_append, List.nil_append, catS_nil, catS_int, catS_ref, catS_null, catS_long, cat_int, cat_ref, cat_null, Nat.reduceEqDiff, Nat.reduceLeDiff, Nat.reduceAdd, false_and, and_false, if_false, if_true, ite_true, ite_false, true_or, or_true, false_or, or_false, and_self, forall_const, true_implies, reduceCtorEq, clr_int, clr_ref, clr_null, clr_none, clr_long, va_rf_some, va_rf_none]
    exact ⟨j21 (by unfold c_run; rw [if_pos q]), fun q => absurd trivial q⟩
theorem sp_U_tell {d : Nat} {w : aw} {h v s : Nat} {x : Int32} {H : hs} {Q : wQ} (hC : CAt w h H s) (hv : v < 8) (hQ : Q (some (.int (match rg x 12 with | some k => h_about H v k | none => -1))) w) : wpD (d + 1) 77 [.ref (ub h v), .int x] w Q := by
  refine ⟨Nat.le_of_ble_eq_true rfl, ?_⟩
  show wp d 77 Q 0 [some (.ref (ub h v)), some (.int x)] [] w 0 0
  have hu := (hC.2.2.2.2.2 v hv).1
  have tr := (hC.2.2.2.2.2 v hv).2
  obtain ⟨y0, y1, y2, y3, y4, y5, y6, z0, z1, z2, z3, z4, z5, z6, z7, z8, z9, mw1, mw2, mw3, fw1, fw2, fw3, pw1, pw2, pw3, lin, lou⟩ := hu
  have ki := lin.1
  have ko := lou.1
  obtain ⟨_, _, _, _, _, _, _, fi, _, _⟩ := lin
  obtain ⟨_, _, _, _, _, _, _, fo, _, _⟩ := lou
  simp only [↓s_77_0, ↓s_77_1, kd_uF, ln_uF, ai_uF, al_uF, ar_uF, zs_uF, fd_uF, kd_uA, ln_uA, fd_uA, al_uA, ar_uA, zs_uA, ai_uA, kd_uL, ln_uL, fd_uL, ai_uL, ar_uL, zs_uL, al_uL, kd_uR, ln_uR, fd_uR, ai_uR, al_uR, zs_uR, ar_uR, true_and, and_true, Option.toList_some, Option.toList_none, List.cons_append, List.nil_append, catS_nil, catS_int, catS_ref, catS_null, catS_long, cat_int, cat_ref, cat_null, Nat.reduceEqDiff, Nat.reduceLeDiff, Nat.reduceAdd, false_and, and_false, if_false, if_true, ite_true, ite_false, true_or, or_true, false_or, or_false, and_self, forall_const, true_implies, reduceCtorEq, clr_int, clr_ref, clr_null, clr_none, clr_long, va_rf_some, va_rf_none]
  refine tsr (by decide) rfl (fun i t hi e => ?_) (fun e => ?_)
  · have e' : rg x 12 = some i := e
    rw [e'] at hQ
    have h' : Q (some (.int (h_about H v i))) w := hQ
    rcases i with _ | _ | _ | _ | _ | _ | _ | _ | _ | _ | _ | _ | i
    · cases hi
      simp only [↓s_77_64, ↓s_77_65, ↓s_77_68, kd_uF, ln_uF, ai_uF, al_uF, ar_uF, zs_uF, fd_uF, kd_uA, ln_uA, fd_uA, al_uA, ar_uA, zs_uA, ai_uA, kd_uL, ln_uL, fd_uL, ai_uL, ar_uL, zs_uL, al_uL, kd_uR, ln_uR, fd_uR, ai_uR, al_uR, zs_uR, ar_uR, true_and, and_true, Option.toList_some, Option.toList_none, List.cons_append, List.nil_append, catS_nil, catS_int, catS_ref, catS_null, catS_long, cat_int, cat_ref, cat_null, Nat.reduceEqDiff, Nat.reduceLeDiff, Nat.reduceAdd, false_and, and_false, if_false, if_true, ite_true, ite_false, true_or, or_true, false_or, or_false, and_self, forall_const, true_implies, reduceCtorEq, clr_int, clr_ref, clr_null, clr_none, clr_long, va_rf_some, va_rf_none, y0, z0]
      exact h'
    · cases hi
      simp only [↓s_77_69, ↓s_77_70, ↓s_77_73, kd_uF, ln_uF, ai_uF, al_uF, ar_uF, zs_uF, fd_uF, kd_uA, ln_uA, fd_uA, al_uA, ar_uA, zs_uA, ai_uA, kd_uL, ln_uL, fd_uL, ai_uL, ar_uL, zs_uL, al_uL, kd_uR, ln_uR, fd_uR, ai_uR, al_uR, zs_uR, ar_uR, true_and, and_true, Option.toList_some, Option.toList_none, List.cons_append, List.nil_append, catS_nil, catS_int, catS_ref, catS_null, catS_long, cat_int, cat_ref, cat_null, Nat.reduceEqDiff, Nat.reduceLeDiff, Nat.reduceAdd, false_and, and_false, if_false, if_true, ite_true, ite_false, true_or, or_true, false_or, or_false, and_self, forall_const, true_implies, reduceCtorEq, clr_int, clr_ref, clr_null, clr_none, clr_long, va_rf_some, va_rf_none, y0, z1]
      exact h'
    · cases hi
      simp only [↓s_77_74, ↓s_77_75, ↓s_77_78, kd_uF, ln_uF, ai_uF, al_uF, ar_uF, zs_uF, fd_uF, kd_uA, ln_uA, fd_uA, al_uA, ar_uA, zs_uA, ai_uA, kd_uL, ln_uL, fd_uL, ai_uL, ar_uL, zs_uL, al_uL, kd_uR, ln_uR, fd_uR, ai_uR, al_uR, zs_uR, ar_uR, true_and, and_true, Option.toList_some, Option.toList_none, List.cons_append, List.nil_append, catS_nil, catS_int, catS_ref, catS_null, catS_long, cat_int, cat_ref, cat_null, Nat.reduceEqDiff, Nat.reduceLeDiff, Nat.reduceAdd, false_and, and_false, if_false, if_true, ite_true, ite_false, true_or, or_true, false_or, or_false, and_self, forall_const, true_implies, reduceCtorEq, clr_int, clr_ref, clr_null, clr_none, clr_long, va_rf_some, va_rf_none, y0, z2]
      exact h'
    · cases hi
      simp only [↓s_77_79, ↓s_77_80, ↓s_77_83, kd_uF, ln_uF, ai_uF, al_uF, ar_uF, zs_uF, fd_uF, kd_uA, ln_uA, fd_uA, al_uA, ar_uA, zs_uA, ai_uA, kd_uL, ln_uL, fd_uL, ai_uL, ar_uL, zs_uL, al_uL, kd_uR, ln_uR, fd_uR, ai_uR, al_uR, zs_uR, ar_uR, true_and, and_true, Option.toList_some, Option.toList_none, List.cons_append, List.nil_append, catS_nil, catS_int, catS_ref, catS_null, catS_long, cat_int, cat_ref, cat_null, Nat.reduceEqDiff, Nat.reduceLeDiff, Nat.reduceAdd, false_and, and_false, if_false, if_true, ite_true, ite_false, true_or, or_true, false_or, or_false, and_self, forall_const, true_implies, reduceCtorEq, clr_int, clr_ref, clr_null, clr_none, clr_long, va_rf_some, va_rf_none, y0, z3]
      exact h'
    · cases hi
      simp only [↓s_77_84, ↓s_77_85, ↓s_77_88, kd_uF, ln_uF, ai_uF, al_uF, ar_uF, zs_uF, fd_uF, kd_uA, ln_uA, fd_uA, al_uA, ar_uA, zs_uA, ai_uA, kd_uL, ln_uL, fd_uL, ai_uL, ar_uL, zs_uL, al_uL, kd_uR, ln_uR, fd_uR, ai_uR, al_uR, zs_uR, ar_uR, true_and, and_true, Option.toList_some, Option.toList_none, List.cons_append, List.nil_append, catS_nil, catS_int, catS_ref, catS_null, catS_long, cat_int, cat_ref, cat_null, Nat.reduceEqDiff, Nat.reduceLeDiff, Nat.reduceAdd, false_and, and_false, if_false, if_true, ite_true, ite_false, true_or, or_true, false_or, or_false, and_self, forall_const, true_implies, reduceCtorEq, clr_int, clr_ref, clr_null, clr_none, clr_long, va_rf_some, va_rf_none, y0, z4]
      exact h'
    · cases hi
      simp only [↓s_77_89, ↓s_77_90, ↓s_77_93, ↓s_77_96, kd_uF, ln_uF, ai_uF, al_uF, ar_uF, zs_uF, fd_uF, kd_uA, ln_uA, fd_uA, al_uA, ar_uA, zs_uA, ai_uA, kd_uL, ln_uL, fd_uL, ai_uL, ar_uL, zs_uL, al_uL, kd_uR, ln_uR, fd_uR, ai_uR, al_uR, zs_uR, ar_uR, true_and, and_true, Option.toList_some, Option.toList_none, List.cons_append, List.nil_append, catS_nil, catS_int, catS_ref, catS_null, catS_long, cat_int, cat_ref, cat_null, Nat.reduceEqDiff, Nat.reduceLeDiff, Nat.reduceAdd, false_and, and_false, if_false, if_true, ite_true, ite_false, true_or, or_true, false_or, or_false, and_self, forall_const, true_implies, reduceCtorEq, clr_int, clr_ref, clr_null, clr_none, clr_long, va_rf_some, va_rf_none, y0, y5, ki, fi]
      exact h'
    · cases hi
      simp only [↓s_77_97, ↓s_77_98, ↓s_77_101, ↓s_77_104, kd_uF, ln_uF, ai_uF, al_uF, ar_uF, zs_uF, fd_uF, kd_uA, ln_uA, fd_uA, al_uA, ar_uA, zs_uA, ai_uA, kd_uL, ln_uL, fd_uL, ai_uL, ar_uL, zs_uL, al_uL, kd_uR, ln_uR, fd_uR, ai_uR, al_uR, zs_uR, ar_uR, true_and, and_true, Option.toList_some, Option.toList_none, List.cons_append, List.nil_append, catS_nil, catS_int, catS_ref, catS_null, catS_long, cat_int, cat_ref, cat_null, Nat.reduceEqDiff, Nat.reduceLeDiff, Nat.reduceAdd, false_and, and_false, if_false, if_true, ite_true, ite_false, true_or, or_true, false_or, or_false, and_self, forall_const, true_implies, reduceCtorEq, clr_int, clr_ref, clr_null, clr_none, clr_long, va_rf_some, va_rf_none, y0, y6, ko, fo]
      exact h'
    · cases hi
      simp only [↓s_77_105, ↓s_77_106, ↓s_77_109, kd_uF, ln_uF, ai_uF, al_uF, ar_uF, zs_uF, fd_uF, kd_uA, ln_uA, fd_uA, al_uA, ar_uA, zs_uA, ai_uA, kd_uL, ln_uL, fd_uL, ai_uL, ar_uL, zs_uL, al_uL, kd_uR, ln_uR, fd_uR, ai_uR, al_uR, zs_uR, ar_uR, true_and, and_true, Option.toList_some, Option.toList_none, List.cons_append, List.nil_append, catS_nil, catS_int, catS_ref, catS_null, catS_long, cat_int, cat_ref, cat_null, Nat.reduceEqDiff, Nat.reduceLeDiff, Nat.reduceAdd, false_and, and_false, if_false, if_true, ite_true, ite_false, true_or, or_true, false_or, or_false, and_self, forall_const, true_implies, reduceCtorEq, clr_int, clr_ref, clr_null, clr_none, clr_long, va_rf_some, va_rf_none, y0, z6]
      exact h'
    · cases hi
      simp only [↓s_77_110, ↓s_77_111, ↓s_77_114, kd_uF, ln_uF, ai_uF, al_uF, ar_uF, zs_uF, fd_uF, kd_uA, ln_uA, fd_uA, al_uA, ar_uA, zs_uA, ai_uA, kd_uL, ln_uL, fd_uL, ai_uL, ar_uL, zs_uL, al_uL, kd_uR, ln_uR, fd_uR, ai_uR, al_uR, zs_uR, ar_uR, true_and, and_true, Option.toList_some, Option.toList_none, List.cons_append, List.nil_append, catS_nil, catS_int, catS_ref, catS_null, catS_long, cat_int, cat_ref, cat_null, Nat.reduceEqDiff, Nat.reduceLeDiff, Nat.reduceAdd, false_and, and_false, if_false, if_true, ite_true, ite_false, true_or, or_true, false_or, or_false, and_self, forall_const, true_implies, reduceCtorEq, clr_int, clr_ref, clr_null, clr_none, clr_long, va_rf_some, va_rf_none, y0, z7]
      exact h'
    · cases hi
      simp only [↓s_77_115, ↓s_77_116, ↓s_77_119, kd_uF, ln_uF, ai_uF, al_uF, ar_uF, zs_uF, fd_uF, kd_uA, ln_uA, fd_uA, al_uA, ar_uA, zs_uA, ai_uA, kd_uL, ln_uL, fd_uL, ai_uL, ar_uL, zs_uL, al_uL, kd_uR, ln_uR, fd_uR, ai_uR, al_uR, zs_uR, ar_uR, true_and, and_true, Option.toList_some, Option.toList_none, List.cons_append, List.nil_append, catS_nil, catS_int, catS_ref, catS_null, catS_long, cat_int, cat_ref, cat_null, Nat.reduceEqDiff, Nat.reduceLeDiff, Nat.reduceAdd, false_and, and_false, if_false, if_true, ite_true, ite_false, true_or, or_true, false_or, or_false, and_self, forall_const, true_implies, reduceCtorEq, clr_int, clr_ref, clr_null, clr_none, clr_long, va_rf_some, va_rf_none, y0, z8]
      exact h'
    · cases hi
      simp only [↓s_77_120, ↓s_77_121, ↓s_77_124, kd_uF, ln_uF, ai_uF, al_uF, ar_uF, zs_uF, fd_uF, kd_uA, ln_uA, fd_uA, al_uA, ar_uA, zs_uA, ai_uA, kd_uL, ln_uL, fd_uL, ai_uL, ar_uL, zs_uL, al_uL, kd_uR, ln_uR, fd_uR, ai_uR, al_uR, zs_uR, ar_uR, true_and, and_true, Option.toList_some, Option.toList_none, List.cons_append, List.nil_append, catS_nil, catS_int, catS_ref, catS_null, catS_long, cat_int, cat_ref, cat_null, Nat.reduceEqDiff, Nat.reduceLeDiff, Nat.reduceAdd, false_and, and_false, if_false, if_true, ite_true, ite_false, true_or, or_true, false_or, or_false, and_self, forall_const, true_implies, reduceCtorEq, clr_int, clr_ref, clr_null, clr_none, clr_long, va_rf_some, va_rf_none, y0, tr]
      have h2 : Q (some (.int (if H.1 6 = v + 1 then nI (H.1 7) else 0))) w := h'
      have e2 : nI (if H.1 6 = v + 1 then H.1 7 else 0) = if H.1 6 = v + 1 then nI (H.1 7) else 0 := by split <;> rfl
      rw [e2]
      exact h2
    · cases hi
      simp only [↓s_77_125, ↓s_77_126, ↓s_77_129, kd_uF, ln_uF, ai_uF, al_uF, ar_uF, zs_uF, fd_uF, kd_uA, ln_uA, fd_uA, al_uA, ar_uA, zs_uA, ai_uA, kd_uL, ln_uL, fd_uL, ai_uL, ar_uL, zs_uL, al_uL, kd_uR, ln_uR, fd_uR, ai_uR, al_uR, zs_uR, ar_uR, true_and, and_true, Option.toList_some, Option.toList_none, List.cons_append, List.nil_append, catS_nil, catS_int, catS_ref, catS_null, catS_long, cat_int, cat_ref, cat_null, Nat.reduceEqDiff, Nat.reduceLeDiff, Nat.reduceAdd, false_and, and_false, if_false, if_true, ite_true, ite_false, true_or, or_true, false_or, or_false, and_self, forall_const, true_implies, reduceCtorEq, clr_int, clr_ref, clr_null, clr_none, clr_long, va_rf_some, va_rf_none, y0, z9]
      exact h'
    · exact absurd hi (by simp)
  · have e' : rg x 12 = none := e
    rw [e'] at hQ
    simp only [↓s_77_130, ↓s_77_131, kd_uF, ln_uF, ai_uF, al_uF, ar_uF, zs_uF, fd_uF, kd_uA, ln_uA, fd_uA, al_uA, ar_uA, zs_uA, ai_uA, kd_uL, ln_uL, fd_uL, ai_uL, ar_uL, zs_uL, al_uL, kd_uR, ln_uR, fd_uR, ai_uR, al_uR, zs_uR, ar_uR, true_and, and_true, Option.toList_some, Option.toList_none, List.cons_append, List.nil_append, catS_nil, catS_int, catS_ref, catS_null, catS_long, cat_int, cat_ref, cat_null, Nat.reduceEqDiff, Nat.reduceLeDiff, Nat.reduceAdd, false_and, and_false, if_false, if_true, ite_true, ite_false, true_or, or_true, false_or, or_false, and_self, forall_const, true_implies, reduceCtorEq, clr_int, clr_ref, clr_null, clr_none, clr_long, va_rf_some, va_rf_none]
    exact hQ
theorem sp_C_about {d : Nat} {w : aw} {x : Nat} {u y : Int32} {H : hs} {Q : wQ} (hM : CM w x H) (hI : HI H) (h : Q (some (.int (c_about H u y))) w) : wpD (d + 2) 92 [.ref x, .int u, .int y] w Q := by
  refine ⟨Nat.le_of_ble_eq_true rfl, ?_⟩
  show wp (d + 1) 92 Q 0 [some (.ref x), some (.int u), some (.int y), none] [] w 0 0
  have h8 := hI.1
  have kx := hM.1
  have fx := hM.2.1
  have kh := hM.2.2.1.1
  simp only [↓s_92_0, ↓s_92_1, ↓s_92_4, ↓s_92_5, kd_uF, ln_uF, ai_uF, al_uF, ar_uF, zs_uF, fd_uF, kd_uA, ln_uA, fd_uA, al_uA, ar_uA, zs_uA, ai_uA, kd_uL, ln_uL, fd_uL, ai_uL, ar_uL, zs_uL, al_uL, kd_uR, ln_uR, fd_uR, ai_uR, al_uR, zs_uR, ar_uR, true_and, and_true, Option.toList_some, Option.toList_none, List.cons_append, List.nil_append, catS_nil, catS_int, catS_ref, catS_null, catS_long, cat_int, cat_ref, cat_null, Nat.reduceEqDiff, Nat.reduceLeDiff, Nat.reduceAdd, false_and, and_false, if_false, if_true, ite_true, ite_false, true_or, or_true, false_or, or_false, and_self, forall_const, true_implies, reduceCtorEq, clr_int, clr_ref, clr_null, clr_none, clr_long, va_rf_some, va_rf_none, kx, fx, kh]
  refine sp_C_userAt hM.2.2 h8 (fun k e1 e2 e3 => ?_) (fun e1 => ?_)
  · have hc : c_about H u y = (match rg y 12 with | some i => h_about H k i | none => -1) := by unfold c_about; rw [e1]; cases rg y 12 <;> rfl
    rw [hc] at h
    have ku := (hM.u (show k < 8 by omega)).1
    simp only [↓s_92_8, ↓s_92_8n, ↓s_92_9, ↓s_92_9n, ↓s_92_10, ↓s_92_10n, ↓s_92_13, ↓s_92_14, ↓s_92_17, ↓s_92_17n, ↓s_92_18, ↓s_92_19, ↓s_92_22, kd_uF, ln_uF, ai_uF, al_uF, ar_uF, zs_uF, fd_uF, kd_uA, ln_uA, fd_uA, al_uA, ar_uA, zs_uA, ai_uA, kd_uL, ln_uL, fd_uL, ai_uL, ar_uL, zs_uL, al_uL, kd_uR, ln_uR, fd_uR, ai_uR, al_uR, zs_uR, ar_uR, true_and, and_true, Option.toList_some, Option.toList_none, List.cons_append, List.nil_append, catS_nil, catS_int, catS_ref, catS_null, catS_long, cat_int, cat_ref, cat_null, Nat.reduceEqDiff, Nat.reduceLeDiff, Nat.reduceAdd, false_and, and_false, if_false, if_true, ite_true, ite_false, true_or, or_true, false_or, or_false, and_self, forall_const, true_implies, reduceCtorEq, clr_int, clr_ref, clr_null, clr_none, clr_long, va_rf_some, va_rf_none, ku]
    refine sp_U_tell hM.2.2 (by omega) ?_
    simp only [↓s_92_22, kd_uF, ln_uF, ai_uF, al_uF, ar_uF, zs_uF, fd_uF, kd_uA, ln_uA, fd_uA, al_uA, ar_uA, zs_uA, ai_uA, kd_uL, ln_uL, fd_uL, ai_uL, ar_uL, zs_uL, al_uL, kd_uR, ln_uR, fd_uR, ai_uR, al_uR, zs_uR, ar_uR, true_and, and_true, Option.toList_some, Option.toList_none, List.cons_append, List.nil_append, catS_nil, catS_int, catS_ref, catS_null, catS_long, cat_int, cat_ref, cat_null, Nat.reduceEqDiff, Nat.reduceLeDiff, Nat.reduceAdd, false_and, and_false, if_false, if_true, ite_true, ite_false, true_or, or_true, false_or, or_false, and_self, forall_const, true_implies, reduceCtorEq, clr_int, clr_ref, clr_null, clr_none, clr_long, va_rf_some, va_rf_none]
    exact h
  · have hc : c_about H u y = -1 := by unfold c_about; rw [e1]
    rw [hc] at h
    simp only [↓s_92_8, ↓s_92_8n, ↓s_92_9, ↓s_92_9n, ↓s_92_10, ↓s_92_10n, ↓s_92_13, ↓s_92_14, ↓s_92_17, ↓s_92_17n, ↓s_92_18, ↓s_92_19, ↓s_92_22, kd_uF, ln_uF, ai_uF, al_uF, ar_uF, zs_uF, fd_uF, kd_uA, ln_uA, fd_uA, al_uA, ar_uA, zs_uA, ai_uA, kd_uL, ln_uL, fd_uL, ai_uL, ar_uL, zs_uL, al_uL, kd_uR, ln_uR, fd_uR, ai_uR, al_uR, zs_uR, ar_uR, true_and, and_true, Option.toList_some, Option.toList_none, List.cons_append, List.nil_append, catS_nil, catS_int, catS_ref, catS_null, catS_long, cat_int, cat_ref, cat_null, Nat.reduceEqDiff, Nat.reduceLeDiff, Nat.reduceAdd, false_and, and_false, if_false, if_true, ite_true, ite_false, true_or, or_true, false_or, or_false, and_self, forall_const, true_implies, reduceCtorEq, clr_int, clr_ref, clr_null, clr_none, clr_long, va_rf_some, va_rf_none]
    exact h
theorem sp_C_waiting {d : Nat} {w : aw} {x : Nat} {u y : Int32} {H : hs} {Q : wQ} (hM : CM w x H) (hI : HI H) (h : Q (some (.int (c_waiting H u y))) w) : wpD (d + 2) 94 [.ref x, .int u, .int y] w Q := by
  refine ⟨Nat.le_of_ble_eq_true rfl, ?_⟩
  show wp (d + 1) 94 Q 0 [some (.ref x), some (.int u), some (.int y), none] [] w 0 0
  have h8 := hI.1
  have kx := hM.1
  have fx := hM.2.1
  have kh := hM.2.2.1.1
  simp only [↓s_94_0, ↓s_94_1, ↓s_94_4, ↓s_94_5, kd_uF, ln_uF, ai_uF, al_uF, ar_uF, zs_uF, fd_uF, kd_uA, ln_uA, fd_uA, al_uA, ar_uA, zs_uA, ai_uA, kd_uL, ln_uL, fd_uL, ai_uL, ar_uL, zs_uL, al_uL, kd_uR, ln_uR, fd_uR, ai_uR, al_uR, zs_uR, ar_uR, true_and, and_true, Option.toList_some, Option.toList_none, List.cons_append, List.nil_append, catS_nil, catS_int, catS_ref, catS_null, catS_long, cat_int, cat_ref, cat_null, Nat.reduceEqDiff, Nat.reduceLeDiff, Nat.reduceAdd, false_and, and_false, if_false, if_true, ite_true, ite_false, true_or, or_true, false_or, or_false, and_self, forall_const, true_implies, reduceCtorEq, clr_int, clr_ref, clr_null, clr_none, clr_long, va_rf_some, va_rf_none, kx, fx, kh]
  refine sp_C_userAt hM.2.2 h8 (fun k e1 e2 e3 => ?_) (fun e1 => ?_)
  · have hc : c_waiting H u y = (match rg y (uIn (H.2.2 k)).length with | some i => nI ((uIn (H.2.2 k)).getD i 0) | none => -1) := by unfold c_waiting; rw [e1]; rfl
    rw [hc] at h
    have hu := hM.u (show k < 8 by omega)
    have hl := (hi_ub hI k).2.2.2.2.2.2.2.2.2.2.2.1
    obtain ⟨y0, y1, y2, y3, y4, y5, y6, z0, z1, z2, z3, z4, z5, z6, z7, z8, z9, mw1, mw2, mw3, fw1, fw2, fw3, pw1, pw2, pw3, lin, lou⟩ := hu
    have kl := lin.1
    simp only [↓s_94_8, ↓s_94_8n, ↓s_94_9, ↓s_94_9n, ↓s_94_10, ↓s_94_10n, ↓s_94_13, ↓s_94_14, ↓s_94_17, ↓s_94_17n, ↓s_94_18, ↓s_94_21, ↓s_94_22, ↓s_94_25, kd_uF, ln_uF, ai_uF, al_uF, ar_uF, zs_uF, fd_uF, kd_uA, ln_uA, fd_uA, al_uA, ar_uA, zs_uA, ai_uA, kd_uL, ln_uL, fd_uL, ai_uL, ar_uL, zs_uL, al_uL, kd_uR, ln_uR, fd_uR, ai_uR, al_uR, zs_uR, ar_uR, true_and, and_true, Option.toList_some, Option.toList_none, List.cons_append, List.nil_append, catS_nil, catS_int, catS_ref, catS_null, catS_long, cat_int, cat_ref, cat_null, Nat.reduceEqDiff, Nat.reduceLeDiff, Nat.reduceAdd, false_and, and_false, if_false, if_true, ite_true, ite_false, true_or, or_true, false_or, or_false, and_self, forall_const, true_implies, reduceCtorEq, clr_int, clr_ref, clr_null, clr_none, clr_long, va_rf_some, va_rf_none, y0, y5, kl]
    refine sp_L_at lin (fun j hj ej => ?_) (fun hj => ?_)
    · subst ej
      rw [rg_nI hj (by omega)] at h
      simp only [↓s_94_25, kd_uF, ln_uF, ai_uF, al_uF, ar_uF, zs_uF, fd_uF, kd_uA, ln_uA, fd_uA, al_uA, ar_uA, zs_uA, ai_uA, kd_uL, ln_uL, fd_uL, ai_uL, ar_uL, zs_uL, al_uL, kd_uR, ln_uR, fd_uR, ai_uR, al_uR, zs_uR, ar_uR, true_and, and_true, Option.toList_some, Option.toList_none, List.cons_append, List.nil_append, catS_nil, catS_int, catS_ref, catS_null, catS_long, cat_int, cat_ref, cat_null, Nat.reduceEqDiff, Nat.reduceLeDiff, Nat.reduceAdd, false_and, and_false, if_false, if_true, ite_true, ite_false, true_or, or_true, false_or, or_false, and_self, forall_const, true_implies, reduceCtorEq, clr_int, clr_ref, clr_null, clr_none, clr_long, va_rf_some, va_rf_none]
      exact h
    · have e : rg y (uIn (H.2.2 k)).length = none := by
        cases e : rg y (uIn (H.2.2 k)).length with
        | none => rfl
        | some j => exact absurd (rg_in e).2 (hj j (rg_in e).1)
      rw [e] at h
      simp only [↓s_94_25, kd_uF, ln_uF, ai_uF, al_uF, ar_uF, zs_uF, fd_uF, kd_uA, ln_uA, fd_uA, al_uA, ar_uA, zs_uA, ai_uA, kd_uL, ln_uL, fd_uL, ai_uL, ar_uL, zs_uL, al_uL, kd_uR, ln_uR, fd_uR, ai_uR, al_uR, zs_uR, ar_uR, true_and, and_true, Option.toList_some, Option.toList_none, List.cons_append, List.nil_append, catS_nil, catS_int, catS_ref, catS_null, catS_long, cat_int, cat_ref, cat_null, Nat.reduceEqDiff, Nat.reduceLeDiff, Nat.reduceAdd, false_and, and_false, if_false, if_true, ite_true, ite_false, true_or, or_true, false_or, or_false, and_self, forall_const, true_implies, reduceCtorEq, clr_int, clr_ref, clr_null, clr_none, clr_long, va_rf_some, va_rf_none]
      exact h
  · have hc : c_waiting H u y = -1 := by unfold c_waiting; rw [e1]
    rw [hc] at h
    simp only [↓s_94_8, ↓s_94_8n, ↓s_94_9, ↓s_94_9n, ↓s_94_10, ↓s_94_10n, ↓s_94_13, ↓s_94_14, ↓s_94_17, ↓s_94_17n, ↓s_94_18, ↓s_94_21, ↓s_94_22, ↓s_94_25, kd_uF, ln_uF, ai_uF, al_uF, ar_uF, zs_uF, fd_uF, kd_uA, ln_uA, fd_uA, al_uA, ar_uA, zs_uA, ai_uA, kd_uL, ln_uL, fd_uL, ai_uL, ar_uL, zs_uL, al_uL, kd_uR, ln_uR, fd_uR, ai_uR, al_uR, zs_uR, ar_uR, true_and, and_true, Option.toList_some, Option.toList_none, List.cons_append, List.nil_append, catS_nil, catS_int, catS_ref, catS_null, catS_long, cat_int, cat_ref, cat_null, Nat.reduceEqDiff, Nat.reduceLeDiff, Nat.reduceAdd, false_and, and_false, if_false, if_true, ite_true, ite_false, true_or, or_true, false_or, or_false, and_self, forall_const, true_implies, reduceCtorEq, clr_int, clr_ref, clr_null, clr_none, clr_long, va_rf_some, va_rf_none]
    exact h
theorem sp_C_queued {d : Nat} {w : aw} {x : Nat} {u y : Int32} {H : hs} {Q : wQ} (hM : CM w x H) (hI : HI H) (h : Q (some (.int (c_queued H u y))) w) : wpD (d + 2) 95 [.ref x, .int u, .int y] w Q := by
  refine ⟨Nat.le_of_ble_eq_true rfl, ?_⟩
  show wp (d + 1) 95 Q 0 [some (.ref x), some (.int u), some (.int y), none] [] w 0 0
  have h8 := hI.1
  have kx := hM.1
  have fx := hM.2.1
  have kh := hM.2.2.1.1
  simp only [↓s_95_0, ↓s_95_1, ↓s_95_4, ↓s_95_5, kd_uF, ln_uF, ai_uF, al_uF, ar_uF, zs_uF, fd_uF, kd_uA, ln_uA, fd_uA, al_uA, ar_uA, zs_uA, ai_uA, kd_uL, ln_uL, fd_uL, ai_uL, ar_uL, zs_uL, al_uL, kd_uR, ln_uR, fd_uR, ai_uR, al_uR, zs_uR, ar_uR, true_and, and_true, Option.toList_some, Option.toList_none, List.cons_append, List.nil_append, catS_nil, catS_int, catS_ref, catS_null, catS_long, cat_int, cat_ref, cat_null, Nat.reduceEqDiff, Nat.reduceLeDiff, Nat.reduceAdd, false_and, and_false, if_false, if_true, ite_true, ite_false, true_or, or_true, false_or, or_false, and_self, forall_const, true_implies, reduceCtorEq, clr_int, clr_ref, clr_null, clr_none, clr_long, va_rf_some, va_rf_none, kx, fx, kh]
  refine sp_C_userAt hM.2.2 h8 (fun k e1 e2 e3 => ?_) (fun e1 => ?_)
  · have hc : c_queued H u y = (match rg y (uOt (H.2.2 k)).length with | some i => nI ((uOt (H.2.2 k)).getD i 0) | none => -1) := by unfold c_queued; rw [e1]; rfl
    rw [hc] at h
    have hu := hM.u (show k < 8 by omega)
    have hl := (hi_ub hI k).2.2.2.2.2.2.2.2.2.2.2.2.1
    obtain ⟨y0, y1, y2, y3, y4, y5, y6, z0, z1, z2, z3, z4, z5, z6, z7, z8, z9, mw1, mw2, mw3, fw1, fw2, fw3, pw1, pw2, pw3, lin, lou⟩ := hu
    have kl := lou.1
    simp only [↓s_95_8, ↓s_95_8n, ↓s_95_9, ↓s_95_9n, ↓s_95_10, ↓s_95_10n, ↓s_95_13, ↓s_95_14, ↓s_95_17, ↓s_95_17n, ↓s_95_18, ↓s_95_21, ↓s_95_22, ↓s_95_25, kd_uF, ln_uF, ai_uF, al_uF, ar_uF, zs_uF, fd_uF, kd_uA, ln_uA, fd_uA, al_uA, ar_uA, zs_uA, ai_uA, kd_uL, ln_uL, fd_uL, ai_uL, ar_uL, zs_uL, al_uL, kd_uR, ln_uR, fd_uR, ai_uR, al_uR, zs_uR, ar_uR, true_and, and_true, Option.toList_some, Option.toList_none, List.cons_append, List.nil_append, catS_nil, catS_int, catS_ref, catS_null, catS_long, cat_int, cat_ref, cat_null, Nat.reduceEqDiff, Nat.reduceLeDiff, Nat.reduceAdd, false_and, and_false, if_false, if_true, ite_true, ite_false, true_or, or_true, false_or, or_false, and_self, forall_const, true_implies, reduceCtorEq, clr_int, clr_ref, clr_null, clr_none, clr_long, va_rf_some, va_rf_none, y0, y6, kl]
    refine sp_L_at lou (fun j hj ej => ?_) (fun hj => ?_)
    · subst ej
      rw [rg_nI hj (by omega)] at h
      simp only [↓s_95_25, kd_uF, ln_uF, ai_uF, al_uF, ar_uF, zs_uF, fd_uF, kd_uA, ln_uA, fd_uA, al_uA, ar_uA, zs_uA, ai_uA, kd_uL, ln_uL, fd_uL, ai_uL, ar_uL, zs_uL, al_uL, kd_uR, ln_uR, fd_uR, ai_uR, al_uR, zs_uR, ar_uR, true_and, and_true, Option.toList_some, Option.toList_none, List.cons_append, List.nil_append, catS_nil, catS_int, catS_ref, catS_null, catS_long, cat_int, cat_ref, cat_null, Nat.reduceEqDiff, Nat.reduceLeDiff, Nat.reduceAdd, false_and, and_false, if_false, if_true, ite_true, ite_false, true_or, or_true, false_or, or_false, and_self, forall_const, true_implies, reduceCtorEq, clr_int, clr_ref, clr_null, clr_none, clr_long, va_rf_some, va_rf_none]
      exact h
    · have e : rg y (uOt (H.2.2 k)).length = none := by
        cases e : rg y (uOt (H.2.2 k)).length with
        | none => rfl
        | some j => exact absurd (rg_in e).2 (hj j (rg_in e).1)
      rw [e] at h
      simp only [↓s_95_25, kd_uF, ln_uF, ai_uF, al_uF, ar_uF, zs_uF, fd_uF, kd_uA, ln_uA, fd_uA, al_uA, ar_uA, zs_uA, ai_uA, kd_uL, ln_uL, fd_uL, ai_uL, ar_uL, zs_uL, al_uL, kd_uR, ln_uR, fd_uR, ai_uR, al_uR, zs_uR, ar_uR, true_and, and_true, Option.toList_some, Option.toList_none, List.cons_append, List.nil_append, catS_nil, catS_int, catS_ref, catS_null, catS_long, cat_int, cat_ref, cat_null, Nat.reduceEqDiff, Nat.reduceLeDiff, Nat.reduceAdd, false_and, and_false, if_false, if_true, ite_true, ite_false, true_or, or_true, false_or, or_false, and_self, forall_const, true_implies, reduceCtorEq, clr_int, clr_ref, clr_null, clr_none, clr_long, va_rf_some, va_rf_none]
      exact h
  · have hc : c_queued H u y = -1 := by unfold c_queued; rw [e1]
    rw [hc] at h
    simp only [↓s_95_8, ↓s_95_8n, ↓s_95_9, ↓s_95_9n, ↓s_95_10, ↓s_95_10n, ↓s_95_13, ↓s_95_14, ↓s_95_17, ↓s_95_17n, ↓s_95_18, ↓s_95_21, ↓s_95_22, ↓s_95_25, kd_uF, ln_uF, ai_uF, al_uF, ar_uF, zs_uF, fd_uF, kd_uA, ln_uA, fd_uA, al_uA, ar_uA, zs_uA, ai_uA, kd_uL, ln_uL, fd_uL, ai_uL, ar_uL, zs_uL, al_uL, kd_uR, ln_uR, fd_uR, ai_uR, al_uR, zs_uR, ar_uR, true_and, and_true, Option.toList_some, Option.toList_none, List.cons_append, List.nil_append, catS_nil, catS_int, catS_ref, catS_null, catS_long, cat_int, cat_ref, cat_null, Nat.reduceEqDiff, Nat.reduceLeDiff, Nat.reduceAdd, false_and, and_false, if_false, if_true, ite_true, ite_false, true_or, or_true, false_or, or_false, and_self, forall_const, true_implies, reduceCtorEq, clr_int, clr_ref, clr_null, clr_none, clr_long, va_rf_some, va_rf_none]
    exact h
