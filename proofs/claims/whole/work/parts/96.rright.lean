theorem sp_R_rightRow {d : Nat} {w : aw} {m e p dot : Nat} {T : Nat → Nat} {t : nt} {Q : wQ} (hQ : RQ w m T e t dot p) (hN : TN t) (hd : dot < 4096) (h1 : rS T e (e - p) p = true → ∀ w', FrA w w' m → Q (some (.int 1)) w') (h2 : rS T e (e - p) p = false → ∀ w', FrA w w' m → Q (some (.int 0)) w') : wpD (d + 6) 162 [.ref m] w Q := by
  refine ⟨Nat.le_of_ble_eq_true rfl, ?_⟩
  show wp (d + 5) 162 Q 0 [some (.ref m), none, none] [] w 0 0
  have he := hQ.1.2.2.2.2.1
  have bad : ∀ w1 (M : Option Value), rS T e (e - p) p = false → FrA w w1 m → wp (d + 5) 162 Q 2 [some (.ref m), some (.int 0), M] [] w1 0 0 := by
    intro w1 M e1 f1
    rw [s_162_2]
    simp only [↓s_162_3, ↓s_162_63, ↓s_162_64, kd_uF, ln_uF, ai_uF, al_uF, ar_uF, zs_uF, fd_uF, kd_uA, ln_uA, fd_uA, al_uA, ar_uA, zs_uA, ai_uA, kd_uL, ln_uL, fd_uL, ai_uL, ar_uL, zs_uL, al_uL, kd_uR, ln_uR, fd_uR, ai_uR, al_uR, zs_uR, ar_uR, true_and, and_true, Option.toList_some, Option.toList_none, List.cons_append, List.nil_append, catS_nil, catS_int, catS_ref, catS_null, catS_long, cat_int, cat_ref, cat_null, Nat.reduceEqDiff, Nat.reduceLeDiff, Nat.reduceAdd, false_and, and_false, if_false, if_true, ite_true, ite_false, true_or, or_true, false_or, or_false, and_self, forall_const, true_implies, reduceCtorEq, clr_int, clr_ref, clr_null, clr_none, clr_long, va_rf_some, va_rf_none]
    exact ⟨⟨rfl, h2 e1 w1 f1⟩, fun q => absurd trivial q⟩
  have lp : ∀ (k q : Nat) (M : Option Value) (w1 : aw), e ≤ q + k → RQ w1 m T e t dot q → FrA w w1 m → rS T e k q = rS T e (e - p) p → wp (d + 5) 162 Q 2 [some (.ref m), some (.int 1), M] [] w1 0 0 := by
    intro k
    induction k with
    | zero =>
      intro q M w1 hk hq f1 e1
      have rk1 := hq.1.1.1
      have at1 := hq.1.2.2.2.1
      have st1 := hq.1.2.2.1
      have hqe := hq.1.2.2.2.2.2.2
      rw [s_162_2]
      simp only [↓s_162_3, ↓s_162_6, ↓s_162_7, ↓s_162_10, ↓s_162_11, ↓s_162_14, ↓s_162_63, ↓s_162_64, kd_uF, ln_uF, ai_uF, al_uF, ar_uF, zs_uF, fd_uF, kd_uA, ln_uA, fd_uA, al_uA, ar_uA, zs_uA, ai_uA, kd_uL, ln_uL, fd_uL, ai_uL, ar_uL, zs_uL, al_uL, kd_uR, ln_uR, fd_uR, ai_uR, al_uR, zs_uR, ar_uR, true_and, and_true, Option.toList_some, Option.toList_none, List.cons_append, List.nil_append, catS_nil, catS_int, catS_ref, catS_null, catS_long, cat_int, cat_ref, cat_null, Nat.reduceEqDiff, Nat.reduceLeDiff, Nat.reduceAdd, false_and, and_false, if_false, if_true, ite_true, ite_false, true_or, or_true, false_or, or_false, and_self, forall_const, true_implies, reduceCtorEq, clr_int, clr_ref, clr_null, clr_none, clr_long, va_rf_some, va_rf_none, rk1, at1, st1]
      exact ⟨fun q => absurd q (by decide), fun _ => ⟨fun _ => ⟨rfl, h1 (by rw [← e1]; rfl) w1 f1⟩, fun z => absurd (nI_le (by omega) (by omega)) z⟩⟩
    | succ k ih =>
      intro q M w1 hk hq f1 e1
      have rk1 := hq.1.1.1
      have at1 := hq.1.2.2.2.1
      have st1 := hq.1.2.2.1
      have hqe := hq.1.2.2.2.2.2.2
      have e1' : (if e ≤ q then true else match eS T e q with | none => false | some q_1 => if q_1 < bE T e q_1 ∨ e ≤ bE T e q_1 then rS T e k (bE T e q_1) else false) = rS T e (e - p) p := e1
      rw [s_162_2]
      simp only [↓s_162_3, ↓s_162_6, ↓s_162_7, ↓s_162_10, ↓s_162_11, ↓s_162_14, ↓s_162_17, ↓s_162_18, ↓s_162_63, ↓s_162_64, kd_uF, ln_uF, ai_uF, al_uF, ar_uF, zs_uF, fd_uF, kd_uA, ln_uA, fd_uA, al_uA, ar_uA, zs_uA, ai_uA, kd_uL, ln_uL, fd_uL, ai_uL, ar_uL, zs_uL, al_uL, kd_uR, ln_uR, fd_uR, ai_uR, al_uR, zs_uR, ar_uR, true_and, and_true, Option.toList_some, Option.toList_none, List.cons_append, List.nil_append, catS_nil, catS_int, catS_ref, catS_null, catS_long, cat_int, cat_ref, cat_null, Nat.reduceEqDiff, Nat.reduceLeDiff, Nat.reduceAdd, false_and, and_false, if_false, if_true, ite_true, ite_false, true_or, or_true, false_or, or_false, and_self, forall_const, true_implies, reduceCtorEq, clr_int, clr_ref, clr_null, clr_none, clr_long, va_rf_some, va_rf_none, rk1, at1, st1]
      rw [nI_leI (by omega) (by omega)]
      refine ⟨fun q => absurd q (by decide), fun _ => ⟨fun z => ⟨rfl, h1 (by rw [← e1', if_pos z]) w1 f1⟩, fun z => ?_⟩⟩
      rw [if_neg z] at e1'
      refine sp_R_expr hq hN hd (fun r w2 b1 b2 b3 b4 => ?_) (fun b1 w2 r b2 b3 => ?_)
      · rw [b1] at e1'
        have e1'' : (if r < bE T e r ∨ e ≤ bE T e r then rS T e k (bE T e r) else false) = rS T e (e - p) p := e1'
        have hr := eS_b b1
        have rk2 := b2.1.1.1
        have at2 := b2.1.2.2.2.1
        simp only [↓s_162_21, ↓s_162_22, ↓s_162_23, ↓s_162_26, ↓s_162_27, ↓s_162_28, kd_uF, ln_uF, ai_uF, al_uF, ar_uF, zs_uF, fd_uF, kd_uA, ln_uA, fd_uA, al_uA, ar_uA, zs_uA, ai_uA, kd_uL, ln_uL, fd_uL, ai_uL, ar_uL, zs_uL, al_uL, kd_uR, ln_uR, fd_uR, ai_uR, al_uR, zs_uR, ar_uR, true_and, and_true, Option.toList_some, Option.toList_none, List.cons_append, List.nil_append, catS_nil, catS_int, catS_ref, catS_null, catS_long, cat_int, cat_ref, cat_null, Nat.reduceEqDiff, Nat.reduceLeDiff, Nat.reduceAdd, false_and, and_false, if_false, if_true, ite_true, ite_false, true_or, or_true, false_or, or_false, and_self, forall_const, true_implies, reduceCtorEq, clr_int, clr_ref, clr_null, clr_none, clr_long, va_rf_some, va_rf_none, rk2, at2]
        refine sp_R_blanks b2.1 (fun w3 c1 c2 _ => ?_)
        have rk3 := c1.1.1
        have at3 := c1.2.2.2.1
        have st3 := c1.2.2.1
        have hbe := c1.2.2.2.2.2.2
        have hbr := bE_ge (T := T) (e := e) (p := r)
        have f3 := (f1.tr b3).tr c2
        have hq3 := b2.A c2 c1
        have go : (r < bE T e r ∨ e ≤ bE T e r) → wp (d + 5) 162 Q 54 [some (.ref m), some (.int 1), some (.int (nI r))] [] w3 0 0 := by
          intro z
          rw [if_pos z] at e1''
          simp only [↓s_162_54, ↓s_162_55, ↓s_162_59, ↓s_162_60, kd_uF, ln_uF, ai_uF, al_uF, ar_uF, zs_uF, fd_uF, kd_uA, ln_uA, fd_uA, al_uA, ar_uA, zs_uA, ai_uA, kd_uL, ln_uL, fd_uL, ai_uL, ar_uL, zs_uL, al_uL, kd_uR, ln_uR, fd_uR, ai_uR, al_uR, zs_uR, ar_uR, true_and, and_true, Option.toList_some, Option.toList_none, List.cons_append, List.nil_append, catS_nil, catS_int, catS_ref, catS_null, catS_long, cat_int, cat_ref, cat_null, Nat.reduceEqDiff, Nat.reduceLeDiff, Nat.reduceAdd, false_and, and_false, if_false, if_true, ite_true, ite_false, true_or, or_true, false_or, or_false, and_self, forall_const, true_implies, reduceCtorEq, clr_int, clr_ref, clr_null, clr_none, clr_long, va_rf_some, va_rf_none]
          exact ih _ _ w3 (by omega) hq3 f3 e1''
        simp only [↓s_162_31, ↓s_162_32, ↓s_162_35, ↓s_162_36, ↓s_162_39, ↓s_162_40, ↓s_162_43, ↓s_162_44, ↓s_162_47, ↓s_162_48, ↓s_162_51, ↓s_162_58, kd_uF, ln_uF, ai_uF, al_uF, ar_uF, zs_uF, fd_uF, kd_uA, ln_uA, fd_uA, al_uA, ar_uA, zs_uA, ai_uA, kd_uL, ln_uL, fd_uL, ai_uL, ar_uL, zs_uL, al_uL, kd_uR, ln_uR, fd_uR, ai_uR, al_uR, zs_uR, ar_uR, true_and, and_true, Option.toList_some, Option.toList_none, List.cons_append, List.nil_append, catS_nil, catS_int, catS_ref, catS_null, catS_long, cat_int, cat_ref, cat_null, Nat.reduceEqDiff, Nat.reduceLeDiff, Nat.reduceAdd, false_and, and_false, if_false, if_true, ite_true, ite_false, true_or, or_true, false_or, or_false, and_self, forall_const, true_implies, reduceCtorEq, clr_int, clr_ref, clr_null, clr_none, clr_long, va_rf_some, va_rf_none, rk3, at3, st3]
        rw [nI_ltI (by omega) (by omega), nI_ltI (by omega) (by omega)]
        refine ⟨fun q => absurd q (by decide), fun _ => ⟨fun z => go (Or.inl z), fun z => ⟨fun z2 => ?_, fun z2 => go (Or.inr (by omega))⟩⟩⟩
        rw [if_neg (by omega)] at e1''
        simp only [↓s_162_59, ↓s_162_60, kd_uF, ln_uF, ai_uF, al_uF, ar_uF, zs_uF, fd_uF, kd_uA, ln_uA, fd_uA, al_uA, ar_uA, zs_uA, ai_uA, kd_uL, ln_uL, fd_uL, ai_uL, ar_uL, zs_uL, al_uL, kd_uR, ln_uR, fd_uR, ai_uR, al_uR, zs_uR, ar_uR, true_and, and_true, Option.toList_some, Option.toList_none, List.cons_append, List.nil_append, catS_nil, catS_int, catS_ref, catS_null, catS_long, cat_int, cat_ref, cat_null, Nat.reduceEqDiff, Nat.reduceLeDiff, Nat.reduceAdd, false_and, and_false, if_false, if_true, ite_true, ite_false, true_or, or_true, false_or, or_false, and_self, forall_const, true_implies, reduceCtorEq, clr_int, clr_ref, clr_null, clr_none, clr_long, va_rf_some, va_rf_none]
        exact bad w3 _ e1''.symm f3
      · rw [b1] at e1'
        have rk2 := b2.1.1
        have at2 := b2.2.2.2.1
        simp only [↓s_162_21, ↓s_162_22, ↓s_162_23, ↓s_162_26, ↓s_162_27, ↓s_162_28, kd_uF, ln_uF, ai_uF, al_uF, ar_uF, zs_uF, fd_uF, kd_uA, ln_uA, fd_uA, al_uA, ar_uA, zs_uA, ai_uA, kd_uL, ln_uL, fd_uL, ai_uL, ar_uL, zs_uL, al_uL, kd_uR, ln_uR, fd_uR, ai_uR, al_uR, zs_uR, ar_uR, true_and, and_true, Option.toList_some, Option.toList_none, List.cons_append, List.nil_append, catS_nil, catS_int, catS_ref, catS_null, catS_long, cat_int, cat_ref, cat_null, Nat.reduceEqDiff, Nat.reduceLeDiff, Nat.reduceAdd, false_and, and_false, if_false, if_true, ite_true, ite_false, true_or, or_true, false_or, or_false, and_self, forall_const, true_implies, reduceCtorEq, clr_int, clr_ref, clr_null, clr_none, clr_long, va_rf_some, va_rf_none, rk2, at2]
        refine sp_R_blanks b2 (fun w3 c1 c2 _ => ?_)
        simp only [↓s_162_31, ↓s_162_32, ↓s_162_35, ↓s_162_36, ↓s_162_39, ↓s_162_40, ↓s_162_43, ↓s_162_44, ↓s_162_47, ↓s_162_48, ↓s_162_51, ↓s_162_58, kd_uF, ln_uF, ai_uF, al_uF, ar_uF, zs_uF, fd_uF, kd_uA, ln_uA, fd_uA, al_uA, ar_uA, zs_uA, ai_uA, kd_uL, ln_uL, fd_uL, ai_uL, ar_uL, zs_uL, al_uL, kd_uR, ln_uR, fd_uR, ai_uR, al_uR, zs_uR, ar_uR, true_and, and_true, Option.toList_some, Option.toList_none, List.cons_append, List.nil_append, catS_nil, catS_int, catS_ref, catS_null, catS_long, cat_int, cat_ref, cat_null, Nat.reduceEqDiff, Nat.reduceLeDiff, Nat.reduceAdd, false_and, and_false, if_false, if_true, ite_true, ite_false, true_or, or_true, false_or, or_false, and_self, forall_const, true_implies, reduceCtorEq, clr_int, clr_ref, clr_null, clr_none, clr_long, va_rf_some, va_rf_none]
        refine ⟨?_, fun q => absurd trivial q⟩
        simp only [↓s_162_59, ↓s_162_60, kd_uF, ln_uF, ai_uF, al_uF, ar_uF, zs_uF, fd_uF, kd_uA, ln_uA, fd_uA, al_uA, ar_uA, zs_uA, ai_uA, kd_uL, ln_uL, fd_uL, ai_uL, ar_uL, zs_uL, al_uL, kd_uR, ln_uR, fd_uR, ai_uR, al_uR, zs_uR, ar_uR, true_and, and_true, Option.toList_some, Option.toList_none, List.cons_append, List.nil_append, catS_nil, catS_int, catS_ref, catS_null, catS_long, cat_int, cat_ref, cat_null, Nat.reduceEqDiff, Nat.reduceLeDiff, Nat.reduceAdd, false_and, and_false, if_false, if_true, ite_true, ite_false, true_or, or_true, false_or, or_false, and_self, forall_const, true_implies, reduceCtorEq, clr_int, clr_ref, clr_null, clr_none, clr_long, va_rf_some, va_rf_none]
        exact bad w3 _ e1'.symm ((f1.tr b3).tr c2)
  simp only [↓s_162_0, ↓s_162_1, kd_uF, ln_uF, ai_uF, al_uF, ar_uF, zs_uF, fd_uF, kd_uA, ln_uA, fd_uA, al_uA, ar_uA, zs_uA, ai_uA, kd_uL, ln_uL, fd_uL, ai_uL, ar_uL, zs_uL, al_uL, kd_uR, ln_uR, fd_uR, ai_uR, al_uR, zs_uR, ar_uR, true_and, and_true, Option.toList_some, Option.toList_none, List.cons_append, List.nil_append, catS_nil, catS_int, catS_ref, catS_null, catS_long, cat_int, cat_ref, cat_null, Nat.reduceEqDiff, Nat.reduceLeDiff, Nat.reduceAdd, false_and, and_false, if_false, if_true, ite_true, ite_false, true_or, or_true, false_or, or_false, and_self, forall_const, true_implies, reduceCtorEq, clr_int, clr_ref, clr_null, clr_none, clr_long, va_rf_some, va_rf_none]
  exact lp (e - p) p _ w (by omega) hQ FrA.rf rfl
theorem sp_R_rightMem {d : Nat} {w : aw} {m e p dot : Nat} {T : Nat → Nat} {t : nt} {Q : wQ} (hQ : RQ w m T e t dot p) (hN : TN t) (hd : dot < 4096) (h1 : (if isLi T e p = true then lOK T e (eS T e (m3 T e p)) else eOK T e (eS T e (m3 T e p))) = true → ∀ w', FrA w w' m → Q (some (.int 1)) w') (h2 : (if isLi T e p = true then lOK T e (eS T e (m3 T e p)) else eOK T e (eS T e (m3 T e p))) = false → ∀ w', FrA w w' m → Q (some (.int 0)) w') : wpD (d + 6) 161 [.ref m] w Q := by
  refine ⟨Nat.le_of_ble_eq_true rfl, ?_⟩
  show wp (d + 5) 161 Q 0 [some (.ref m)] [] w 0 0
  have he := hQ.1.2.2.2.2.1
  have hT := hQ.1.2.2.2.2.2.1
  have hpe := hQ.1.2.2.2.2.2.2
  have rk := hQ.1.1.1
  have at' := hQ.1.2.2.2.1
  -- behind the I
  have j37 : ∀ w1, RQ w1 m T e t dot (m2 T e p) → FrA w w1 m → wp (d + 5) 161 Q 37 [some (.ref m)] [] w1 0 0 := by
    intro w1 hq f1
    have rk1 := hq.1.1.1
    have at1 := hq.1.2.2.2.1
    have st1 := hq.1.2.2.1
    have hqe := hq.1.2.2.2.2.2.2
    have hc := lk_lt (T := T) (e := e) (p := m2 T e p) hT
    have j61 : isLi T e p = false → wp (d + 5) 161 Q 61 [some (.ref m)] [] w1 0 0 := by
      intro z
      have hm3 : m3 T e p = m2 T e p := by unfold m3; rw [if_neg (by rw [z]; decide)]
      rw [z, hm3] at h1 h2
      have h1' : eOK T e (eS T e (m2 T e p)) = true → ∀ w', FrA w w' m → Q (some (.int 1)) w' := h1
      have h2' : eOK T e (eS T e (m2 T e p)) = false → ∀ w', FrA w w' m → Q (some (.int 0)) w' := h2
      simp only [↓s_161_61, ↓s_161_62, kd_uF, ln_uF, ai_uF, al_uF, ar_uF, zs_uF, fd_uF, kd_uA, ln_uA, fd_uA, al_uA, ar_uA, zs_uA, ai_uA, kd_uL, ln_uL, fd_uL, ai_uL, ar_uL, zs_uL, al_uL, kd_uR, ln_uR, fd_uR, ai_uR, al_uR, zs_uR, ar_uR, true_and, and_true, Option.toList_some, Option.toList_none, List.cons_append, List.nil_append, catS_nil, catS_int, catS_ref, catS_null, catS_long, cat_int, cat_ref, cat_null, Nat.reduceEqDiff, Nat.reduceLeDiff, Nat.reduceAdd, false_and, and_false, if_false, if_true, ite_true, ite_false, true_or, or_true, false_or, or_false, and_self, forall_const, true_implies, reduceCtorEq, clr_int, clr_ref, clr_null, clr_none, clr_long, va_rf_some, va_rf_none, rk1]
      refine sp_R_expr hq hN hd (fun r w2 b1 b2 b3 b4 => ?_) (fun b1 w2 r b2 b3 => ?_)
      · have rk2 := b2.1.1.1
        simp only [↓s_161_65, ↓s_161_68, ↓s_161_69, kd_uF, ln_uF, ai_uF, al_uF, ar_uF, zs_uF, fd_uF, kd_uA, ln_uA, fd_uA, al_uA, ar_uA, zs_uA, ai_uA, kd_uL, ln_uL, fd_uL, ai_uL, ar_uL, zs_uL, al_uL, kd_uR, ln_uR, fd_uR, ai_uR, al_uR, zs_uR, ar_uR, true_and, and_true, Option.toList_some, Option.toList_none, List.cons_append, List.nil_append, catS_nil, catS_int, catS_ref, catS_null, catS_long, cat_int, cat_ref, cat_null, Nat.reduceEqDiff, Nat.reduceLeDiff, Nat.reduceAdd, false_and, and_false, if_false, if_true, ite_true, ite_false, true_or, or_true, false_or, or_false, and_self, forall_const, true_implies, reduceCtorEq, clr_int, clr_ref, clr_null, clr_none, clr_long, va_rf_some, va_rf_none, rk2]
        refine ⟨fun q => absurd q (by decide), fun _ => sp_R_ends b2.1 (fun y w3 c1 => ?_) (fun y w3 c1 => ?_)⟩
        · simp only [↓s_161_72, ↓s_161_75, ↓s_161_76, ↓s_161_79, ↓s_161_80, kd_uF, ln_uF, ai_uF, al_uF, ar_uF, zs_uF, fd_uF, kd_uA, ln_uA, fd_uA, al_uA, ar_uA, zs_uA, ai_uA, kd_uL, ln_uL, fd_uL, ai_uL, ar_uL, zs_uL, al_uL, kd_uR, ln_uR, fd_uR, ai_uR, al_uR, zs_uR, ar_uR, true_and, and_true, Option.toList_some, Option.toList_none, List.cons_append, List.nil_append, catS_nil, catS_int, catS_ref, catS_null, catS_long, cat_int, cat_ref, cat_null, Nat.reduceEqDiff, Nat.reduceLeDiff, Nat.reduceAdd, false_and, and_false, if_false, if_true, ite_true, ite_false, true_or, or_true, false_or, or_false, and_self, forall_const, true_implies, reduceCtorEq, clr_int, clr_ref, clr_null, clr_none, clr_long, va_rf_some, va_rf_none]
          exact ⟨fun q => absurd q (by decide), fun _ => ⟨rfl, h1' (eOK_iff.mpr ⟨r, b1, y⟩) w3 ((f1.tr b3).tr c1)⟩⟩
        · simp only [↓s_161_72, ↓s_161_75, ↓s_161_76, ↓s_161_79, ↓s_161_80, kd_uF, ln_uF, ai_uF, al_uF, ar_uF, zs_uF, fd_uF, kd_uA, ln_uA, fd_uA, al_uA, ar_uA, zs_uA, ai_uA, kd_uL, ln_uL, fd_uL, ai_uL, ar_uL, zs_uL, al_uL, kd_uR, ln_uR, fd_uR, ai_uR, al_uR, zs_uR, ar_uR, true_and, and_true, Option.toList_some, Option.toList_none, List.cons_append, List.nil_append, catS_nil, catS_int, catS_ref, catS_null, catS_long, cat_int, cat_ref, cat_null, Nat.reduceEqDiff, Nat.reduceLeDiff, Nat.reduceAdd, false_and, and_false, if_false, if_true, ite_true, ite_false, true_or, or_true, false_or, or_false, and_self, forall_const, true_implies, reduceCtorEq, clr_int, clr_ref, clr_null, clr_none, clr_long, va_rf_some, va_rf_none]
          refine ⟨⟨rfl, h2' ?_ w3 ((f1.tr b3).tr c1)⟩, fun q => absurd trivial q⟩
          rw [b1]; unfold eOK; exact decide_eq_false y
      · simp only [↓s_161_65, ↓s_161_68, ↓s_161_69, ↓s_161_79, ↓s_161_80, kd_uF, ln_uF, ai_uF, al_uF, ar_uF, zs_uF, fd_uF, kd_uA, ln_uA, fd_uA, al_uA, ar_uA, zs_uA, ai_uA, kd_uL, ln_uL, fd_uL, ai_uL, ar_uL, zs_uL, al_uL, kd_uR, ln_uR, fd_uR, ai_uR, al_uR, zs_uR, ar_uR, true_and, and_true, Option.toList_some, Option.toList_none, List.cons_append, List.nil_append, catS_nil, catS_int, catS_ref, catS_null, catS_long, cat_int, cat_ref, cat_null, Nat.reduceEqDiff, Nat.reduceLeDiff, Nat.reduceAdd, false_and, and_false, if_false, if_true, ite_true, ite_false, true_or, or_true, false_or, or_false, and_self, forall_const, true_implies, reduceCtorEq, clr_int, clr_ref, clr_null, clr_none, clr_long, va_rf_some, va_rf_none]
        exact ⟨⟨rfl, h2' (by rw [b1]; rfl) w2 (f1.tr b3)⟩, fun q => absurd trivial q⟩
    simp only [↓s_161_37, ↓s_161_38, ↓s_161_39, ↓s_161_42, kd_uF, ln_uF, ai_uF, al_uF, ar_uF, zs_uF, fd_uF, kd_uA, ln_uA, fd_uA, al_uA, ar_uA, zs_uA, ai_uA, kd_uL, ln_uL, fd_uL, ai_uL, ar_uL, zs_uL, al_uL, kd_uR, ln_uR, fd_uR, ai_uR, al_uR, zs_uR, ar_uR, true_and, and_true, Option.toList_some, Option.toList_none, List.cons_append, List.nil_append, catS_nil, catS_int, catS_ref, catS_null, catS_long, cat_int, cat_ref, cat_null, Nat.reduceEqDiff, Nat.reduceLeDiff, Nat.reduceAdd, false_and, and_false, if_false, if_true, ite_true, ite_false, true_or, or_true, false_or, or_false, and_self, forall_const, true_implies, reduceCtorEq, clr_int, clr_ref, clr_null, clr_none, clr_long, va_rf_some, va_rf_none, rk1, at1]
    refine sp_R_look hq.1 (by omega) ?_
    simp only [↓s_161_45, ↓s_161_47, ↓s_161_50, ↓s_161_51, ↓s_161_54, ↓s_161_55, ↓s_161_58, ↓s_161_81, ↓s_161_82, ↓s_161_83, ↓s_161_86, ↓s_161_87, ↓s_161_88, ↓s_161_91, ↓s_161_92, kd_uF, ln_uF, ai_uF, al_uF, ar_uF, zs_uF, fd_uF, kd_uA, ln_uA, fd_uA, al_uA, ar_uA, zs_uA, ai_uA, kd_uL, ln_uL, fd_uL, ai_uL, ar_uL, zs_uL, al_uL, kd_uR, ln_uR, fd_uR, ai_uR, al_uR, zs_uR, ar_uR, true_and, and_true, Option.toList_some, Option.toList_none, List.cons_append, List.nil_append, catS_nil, catS_int, catS_ref, catS_null, catS_long, cat_int, cat_ref, cat_null, Nat.reduceEqDiff, Nat.reduceLeDiff, Nat.reduceAdd, false_and, and_false, if_false, if_true, ite_true, ite_false, true_or, or_true, false_or, or_false, and_self, forall_const, true_implies, reduceCtorEq, clr_int, clr_ref, clr_null, clr_none, clr_long, va_rf_some, va_rf_none, rk1, at1, st1]
    rw [show (40 : Int32) = nI 40 from rfl, nI_eq (by omega) (by decide), nI_ltI (by omega) (by omega)]
    refine ⟨fun z => j61 (by unfold isLi; simp [z]), fun z => ?_⟩
    have hl : isLi T e p = true := by unfold isLi; simp [z]
    have hlt : m2 T e p < e := lk_pos (T := T) (by rw [z]; decide)
    refine ⟨fun _ => ?_, fun z2 => absurd hlt z2⟩
    have hm3 : m3 T e p = bE T e (m2 T e p + 1) := by unfold m3; rw [if_pos hl]
    rw [hl, hm3] at h1 h2
    have h1' : lOK T e (eS T e (bE T e (m2 T e p + 1))) = true → ∀ w', FrA w w' m → Q (some (.int 1)) w' := h1
    have h2' : lOK T e (eS T e (bE T e (m2 T e p + 1))) = false → ∀ w', FrA w w' m → Q (some (.int 0)) w' := h2
    rw [nI_1]
    have g2 := hq.1.at_ (q := m2 T e p + 1) (by omega)
    have f2 : FrA w1 (uF w1 555 m (.int (nI (m2 T e p + 1)))) m := FrA.rf.F (Or.inl rfl)
    refine sp_R_blanks g2 (fun w2 c1 c2 _ => ?_)
    have hq2 := hq.A (f2.tr c2) c1
    have rk2 := c1.1.1
    simp only [↓s_161_95, ↓s_161_96, kd_uF, ln_uF, ai_uF, al_uF, ar_uF, zs_uF, fd_uF, kd_uA, ln_uA, fd_uA, al_uA, ar_uA, zs_uA, ai_uA, kd_uL, ln_uL, fd_uL, ai_uL, ar_uL, zs_uL, al_uL, kd_uR, ln_uR, fd_uR, ai_uR, al_uR, zs_uR, ar_uR, true_and, and_true, Option.toList_some, Option.toList_none, List.cons_append, List.nil_append, catS_nil, catS_int, catS_ref, catS_null, catS_long, cat_int, cat_ref, cat_null, Nat.reduceEqDiff, Nat.reduceLeDiff, Nat.reduceAdd, false_and, and_false, if_false, if_true, ite_true, ite_false, true_or, or_true, false_or, or_false, and_self, forall_const, true_implies, reduceCtorEq, clr_int, clr_ref, clr_null, clr_none, clr_long, va_rf_some, va_rf_none, rk2]
    refine sp_R_expr hq2 hN hd (fun r w3 b1 b2 b3 b4 => ?_) (fun b1 w3 r b2 b3 => ?_)
    · have rk3 := b2.1.1.1
      simp only [↓s_161_99, ↓s_161_102, ↓s_161_103, ↓s_161_104, ↓s_161_105, kd_uF, ln_uF, ai_uF, al_uF, ar_uF, zs_uF, fd_uF, kd_uA, ln_uA, fd_uA, al_uA, ar_uA, zs_uA, ai_uA, kd_uL, ln_uL, fd_uL, ai_uL, ar_uL, zs_uL, al_uL, kd_uR, ln_uR, fd_uR, ai_uR, al_uR, zs_uR, ar_uR, true_and, and_true, Option.toList_some, Option.toList_none, List.cons_append, List.nil_append, catS_nil, catS_int, catS_ref, catS_null, catS_long, cat_int, cat_ref, cat_null, Nat.reduceEqDiff, Nat.reduceLeDiff, Nat.reduceAdd, false_and, and_false, if_false, if_true, ite_true, ite_false, true_or, or_true, false_or, or_false, and_self, forall_const, true_implies, reduceCtorEq, clr_int, clr_ref, clr_null, clr_none, clr_long, va_rf_some, va_rf_none, rk3]
      refine ⟨fun _ => sp_R_blanks b2.1 (fun w4 d1 d2 _ => ?_), fun q => absurd q (by decide)⟩
      have rk4 := d1.1.1
      have at4 := d1.2.2.2.1
      have hbe := d1.2.2.2.2.2.2
      have hc4 := lk_lt (T := T) (e := e) (p := bE T e r) hT
      have f4 := (((f1.tr f2).tr c2).tr b3).tr d2
      have fin : ∀ w5, RP w5 m T e (cPar T e r) → FrA w w5 m → wp (d + 5) 161 Q 131 [some (.ref m)] [] w5 0 0 := by
        intro w5 i1 i2
        have rk5 := i1.1.1
        simp only [↓s_161_131, ↓s_161_132, kd_uF, ln_uF, ai_uF, al_uF, ar_uF, zs_uF, fd_uF, kd_uA, ln_uA, fd_uA, al_uA, ar_uA, zs_uA, ai_uA, kd_uL, ln_uL, fd_uL, ai_uL, ar_uL, zs_uL, al_uL, kd_uR, ln_uR, fd_uR, ai_uR, al_uR, zs_uR, ar_uR, true_and, and_true, Option.toList_some, Option.toList_none, List.cons_append, List.nil_append, catS_nil, catS_int, catS_ref, catS_null, catS_long, cat_int, cat_ref, cat_null, Nat.reduceEqDiff, Nat.reduceLeDiff, Nat.reduceAdd, false_and, and_false, if_false, if_true, ite_true, ite_false, true_or, or_true, false_or, or_false, and_self, forall_const, true_implies, reduceCtorEq, clr_int, clr_ref, clr_null, clr_none, clr_long, va_rf_some, va_rf_none, rk5]
        refine sp_R_ends i1 (fun y w6 i3 => ?_) (fun y w6 i3 => ?_)
        · simp only [↓s_161_135, kd_uF, ln_uF, ai_uF, al_uF, ar_uF, zs_uF, fd_uF, kd_uA, ln_uA, fd_uA, al_uA, ar_uA, zs_uA, ai_uA, kd_uL, ln_uL, fd_uL, ai_uL, ar_uL, zs_uL, al_uL, kd_uR, ln_uR, fd_uR, ai_uR, al_uR, zs_uR, ar_uR, true_and, and_true, Option.toList_some, Option.toList_none, List.cons_append, List.nil_append, catS_nil, catS_int, catS_ref, catS_null, catS_long, cat_int, cat_ref, cat_null, Nat.reduceEqDiff, Nat.reduceLeDiff, Nat.reduceAdd, false_and, and_false, if_false, if_true, ite_true, ite_false, true_or, or_true, false_or, or_false, and_self, forall_const, true_implies, reduceCtorEq, clr_int, clr_ref, clr_null, clr_none, clr_long, va_rf_some, va_rf_none]
          exact ⟨rfl, h1' (lOK_iff.mpr ⟨r, b1, y⟩) w6 (i2.tr i3)⟩
        · simp only [↓s_161_135, kd_uF, ln_uF, ai_uF, al_uF, ar_uF, zs_uF, fd_uF, kd_uA, ln_uA, fd_uA, al_uA, ar_uA, zs_uA, ai_uA, kd_uL, ln_uL, fd_uL, ai_uL, ar_uL, zs_uL, al_uL, kd_uR, ln_uR, fd_uR, ai_uR, al_uR, zs_uR, ar_uR, true_and, and_true, Option.toList_some, Option.toList_none, List.cons_append, List.nil_append, catS_nil, catS_int, catS_ref, catS_null, catS_long, cat_int, cat_ref, cat_null, Nat.reduceEqDiff, Nat.reduceLeDiff, Nat.reduceAdd, false_and, and_false, if_false, if_true, ite_true, ite_false, true_or, or_true, false_or, or_false, and_self, forall_const, true_implies, reduceCtorEq, clr_int, clr_ref, clr_null, clr_none, clr_long, va_rf_some, va_rf_none]
          refine ⟨rfl, h2' ?_ w6 (i2.tr i3)⟩
          rw [b1]; unfold lOK; exact decide_eq_false y
      simp only [↓s_161_108, ↓s_161_109, ↓s_161_110, ↓s_161_113, kd_uF, ln_uF, ai_uF, al_uF, ar_uF, zs_uF, fd_uF, kd_uA, ln_uA, fd_uA, al_uA, ar_uA, zs_uA, ai_uA, kd_uL, ln_uL, fd_uL, ai_uL, ar_uL, zs_uL, al_uL, kd_uR, ln_uR, fd_uR, ai_uR, al_uR, zs_uR, ar_uR, true_and, and_true, Option.toList_some, Option.toList_none, List.cons_append, List.nil_append, catS_nil, catS_int, catS_ref, catS_null, catS_long, cat_int, cat_ref, cat_null, Nat.reduceEqDiff, Nat.reduceLeDiff, Nat.reduceAdd, false_and, and_false, if_false, if_true, ite_true, ite_false, true_or, or_true, false_or, or_false, and_self, forall_const, true_implies, reduceCtorEq, clr_int, clr_ref, clr_null, clr_none, clr_long, va_rf_some, va_rf_none, rk4, at4]
      refine sp_R_look d1 (by omega) ?_
      simp only [↓s_161_116, ↓s_161_118, ↓s_161_121, ↓s_161_122, ↓s_161_123, ↓s_161_126, ↓s_161_127, ↓s_161_128, kd_uF, ln_uF, ai_uF, al_uF, ar_uF, zs_uF, fd_uF, kd_uA, ln_uA, fd_uA, al_uA, ar_uA, zs_uA, ai_uA, kd_uL, ln_uL, fd_uL, ai_uL, ar_uL, zs_uL, al_uL, kd_uR, ln_uR, fd_uR, ai_uR, al_uR, zs_uR, ar_uR, true_and, and_true, Option.toList_some, Option.toList_none, List.cons_append, List.nil_append, catS_nil, catS_int, catS_ref, catS_null, catS_long, cat_int, cat_ref, cat_null, Nat.reduceEqDiff, Nat.reduceLeDiff, Nat.reduceAdd, false_and, and_false, if_false, if_true, ite_true, ite_false, true_or, or_true, false_or, or_false, and_self, forall_const, true_implies, reduceCtorEq, clr_int, clr_ref, clr_null, clr_none, clr_long, va_rf_some, va_rf_none, rk4, at4]
      rw [show (41 : Int32) = nI 41 from rfl, nI_eq (by omega) (by decide), nI_1]
      refine ⟨fun y => fin w4 (by unfold cPar; rw [if_neg y]; exact d1) f4, fun y => ?_⟩
      have hlt4 : bE T e r < e := lk_pos (T := T) (by rw [y]; decide)
      exact fin _ (by unfold cPar; rw [if_pos y]; exact d1.at_ (by omega)) (f4.F (Or.inl rfl))
    · simp only [↓s_161_99, ↓s_161_102, ↓s_161_103, ↓s_161_104, ↓s_161_105, kd_uF, ln_uF, ai_uF, al_uF, ar_uF, zs_uF, fd_uF, kd_uA, ln_uA, fd_uA, al_uA, ar_uA, zs_uA, ai_uA, kd_uL, ln_uL, fd_uL, ai_uL, ar_uL, zs_uL, al_uL, kd_uR, ln_uR, fd_uR, ai_uR, al_uR, zs_uR, ar_uR, true_and, and_true, Option.toList_some, Option.toList_none, List.cons_append, List.nil_append, catS_nil, catS_int, catS_ref, catS_null, catS_long, cat_int, cat_ref, cat_null, Nat.reduceEqDiff, Nat.reduceLeDiff, Nat.reduceAdd, false_and, and_false, if_false, if_true, ite_true, ite_false, true_or, or_true, false_or, or_false, and_self, forall_const, true_implies, reduceCtorEq, clr_int, clr_ref, clr_null, clr_none, clr_long, va_rf_some, va_rf_none]
      exact ⟨fun q => absurd trivial q, ⟨rfl, h2' (by rw [b1]; rfl) w3 (((f1.tr f2).tr c2).tr b3)⟩⟩
  have hwe := wE_le (T := T) hpe
  simp only [↓s_161_0, ↓s_161_1, ↓s_161_2, ↓s_161_3, ↓s_161_6, kd_uF, ln_uF, ai_uF, al_uF, ar_uF, zs_uF, fd_uF, kd_uA, ln_uA, fd_uA, al_uA, ar_uA, zs_uA, ai_uA, kd_uL, ln_uL, fd_uL, ai_uL, ar_uL, zs_uL, al_uL, kd_uR, ln_uR, fd_uR, ai_uR, al_uR, zs_uR, ar_uR, true_and, and_true, Option.toList_some, Option.toList_none, List.cons_append, List.nil_append, catS_nil, catS_int, catS_ref, catS_null, catS_long, cat_int, cat_ref, cat_null, Nat.reduceEqDiff, Nat.reduceLeDiff, Nat.reduceAdd, false_and, and_false, if_false, if_true, ite_true, ite_false, true_or, or_true, false_or, or_false, and_self, forall_const, true_implies, reduceCtorEq, clr_int, clr_ref, clr_null, clr_none, clr_long, va_rf_some, va_rf_none, rk, at']
  refine sp_R_wordEnd hQ.1 (by omega) ?_
  simp only [↓s_161_9, ↓s_161_12, ↓s_161_13, kd_uF, ln_uF, ai_uF, al_uF, ar_uF, zs_uF, fd_uF, kd_uA, ln_uA, fd_uA, al_uA, ar_uA, zs_uA, ai_uA, kd_uL, ln_uL, fd_uL, ai_uL, ar_uL, zs_uL, al_uL, kd_uR, ln_uR, fd_uR, ai_uR, al_uR, zs_uR, ar_uR, true_and, and_true, Option.toList_some, Option.toList_none, List.cons_append, List.nil_append, catS_nil, catS_int, catS_ref, catS_null, catS_long, cat_int, cat_ref, cat_null, Nat.reduceEqDiff, Nat.reduceLeDiff, Nat.reduceAdd, false_and, and_false, if_false, if_true, ite_true, ite_false, true_or, or_true, false_or, or_false, and_self, forall_const, true_implies, reduceCtorEq, clr_int, clr_ref, clr_null, clr_none, clr_long, va_rf_some, va_rf_none, rk]
  have g1 := hQ.1.at_ (q := wE T e p) hwe
  have f1 : FrA w (uF w 555 m (.int (nI (wE T e p)))) m := FrA.rf.F (Or.inl rfl)
  refine sp_R_blanks g1 (fun w1 c1 c2 _ => ?_)
  have hq1 := hQ.A (f1.tr c2) c1
  have rk1 := c1.1.1
  have at1 := c1.2.2.2.1
  have hme := c1.2.2.2.2.2.2
  simp only [↓s_161_16, ↓s_161_17, kd_uF, ln_uF, ai_uF, al_uF, ar_uF, zs_uF, fd_uF, kd_uA, ln_uA, fd_uA, al_uA, ar_uA, zs_uA, ai_uA, kd_uL, ln_uL, fd_uL, ai_uL, ar_uL, zs_uL, al_uL, kd_uR, ln_uR, fd_uR, ai_uR, al_uR, zs_uR, ar_uR, true_and, and_true, Option.toList_some, Option.toList_none, List.cons_append, List.nil_append, catS_nil, catS_int, catS_ref, catS_null, catS_long, cat_int, cat_ref, cat_null, Nat.reduceEqDiff, Nat.reduceLeDiff, Nat.reduceAdd, false_and, and_false, if_false, if_true, ite_true, ite_false, true_or, or_true, false_or, or_false, and_self, forall_const, true_implies, reduceCtorEq, clr_int, clr_ref, clr_null, clr_none, clr_long, va_rf_some, va_rf_none, rk1]
  refine sp_R_isBy c1 (fun z => ?_) (fun z => ?_)
  · have em : m2 T e p = bE T e (bE T e (wE T e p) + 1) := if_pos z
    have hlt : bE T e (wE T e p) < e := lk_pos (T := T) (by rw [(isBy_iff.mp z).1]; decide)
    simp only [↓s_161_20, ↓s_161_23, ↓s_161_24, ↓s_161_25, ↓s_161_28, ↓s_161_29, ↓s_161_30, ↓s_161_33, ↓s_161_34, kd_uF, ln_uF, ai_uF, al_uF, ar_uF, zs_uF, fd_uF, kd_uA, ln_uA, fd_uA, al_uA, ar_uA, zs_uA, ai_uA, kd_uL, ln_uL, fd_uL, ai_uL, ar_uL, zs_uL, al_uL, kd_uR, ln_uR, fd_uR, ai_uR, al_uR, zs_uR, ar_uR, true_and, and_true, Option.toList_some, Option.toList_none, List.cons_append, List.nil_append, catS_nil, catS_int, catS_ref, catS_null, catS_long, cat_int, cat_ref, cat_null, Nat.reduceEqDiff, Nat.reduceLeDiff, Nat.reduceAdd, false_and, and_false, if_false, if_true, ite_true, ite_false, true_or, or_true, false_or, or_false, and_self, forall_const, true_implies, reduceCtorEq, clr_int, clr_ref, clr_null, clr_none, clr_long, va_rf_some, va_rf_none, rk1, at1]
    rw [nI_1]
    have g2 := c1.at_ (q := bE T e (wE T e p) + 1) (by omega)
    refine ⟨fun q => absurd q (by decide), fun _ => sp_R_blanks g2 (fun w2 d1 d2 _ => ?_)⟩
    exact j37 w2 (by rw [em]; exact hq1.A ((FrA.rf.F (Or.inl rfl)).tr d2) d1) (((f1.tr c2).F (Or.inl rfl)).tr d2)
  · have em : m2 T e p = bE T e (wE T e p) := if_neg (by rw [show m1 T e p = bE T e (wE T e p) from rfl, z]; decide)
    simp only [↓s_161_20, ↓s_161_23, ↓s_161_24, ↓s_161_25, ↓s_161_28, ↓s_161_29, ↓s_161_30, ↓s_161_33, ↓s_161_34, kd_uF, ln_uF, ai_uF, al_uF, ar_uF, zs_uF, fd_uF, kd_uA, ln_uA, fd_uA, al_uA, ar_uA, zs_uA, ai_uA, kd_uL, ln_uL, fd_uL, ai_uL, ar_uL, zs_uL, al_uL, kd_uR, ln_uR, fd_uR, ai_uR, al_uR, zs_uR, ar_uR, true_and, and_true, Option.toList_some, Option.toList_none, List.cons_append, List.nil_append, catS_nil, catS_int, catS_ref, catS_null, catS_long, cat_int, cat_ref, cat_null, Nat.reduceEqDiff, Nat.reduceLeDiff, Nat.reduceAdd, false_and, and_false, if_false, if_true, ite_true, ite_false, true_or, or_true, false_or, or_false, and_self, forall_const, true_implies, reduceCtorEq, clr_int, clr_ref, clr_null, clr_none, clr_long, va_rf_some, va_rf_none]
    exact ⟨j37 w1 (by rw [em]; exact hq1) (f1.tr c2), fun q => absurd trivial q⟩
theorem sp_R_isRight {d : Nat} {w : aw} {m e p dot : Nat} {T : Nat → Nat} {t : nt} {Q : wQ} (hQ : RQ w m T e t dot p) (hN : TN t) (hd : dot < 4096) (h1 : right T e (p0 T p e) = true → ∀ w', FrA w w' m → Q (some (.int 1)) w') (h2 : right T e (p0 T p e) = false → ∀ w', FrA w w' m → Q (some (.int 0)) w') : wpD (d + 7) 160 [.ref m] w Q := by
  refine ⟨Nat.le_of_ble_eq_true rfl, ?_⟩
  show wp (d + 6) 160 Q 0 [some (.ref m)] [] w 0 0
  have he := hQ.1.2.2.2.2.1
  have hT := hQ.1.2.2.2.2.2.1
  have hpe := hQ.1.2.2.2.2.2.2
  have rk := hQ.1.1.1
  -- behind the labels
  have body : ∀ w1, RQ w1 m T e t dot (p0 T p e) → FrA w w1 m → wp (d + 6) 160 Q 32 [some (.ref m)] [] w1 0 0 := by
    intro w1 hq f1
    generalize p0 T p e = b at *
    have rk1 := hq.1.1.1
    have at1 := hq.1.2.2.2.1
    have st1 := hq.1.2.2.1
    have hbe := hq.1.2.2.2.2.2.2
    have hc := lk_lt (T := T) (e := e) (p := b) hT
    simp only [↓s_160_32, ↓s_160_33, ↓s_160_36, ↓s_160_37, ↓s_160_40, ↓s_160_43, ↓s_160_44, ↓s_160_45, ↓s_160_46, ↓s_160_47, ↓s_160_50, kd_uF, ln_uF, ai_uF, al_uF, ar_uF, zs_uF, fd_uF, kd_uA, ln_uA, fd_uA, al_uA, ar_uA, zs_uA, ai_uA, kd_uL, ln_uL, fd_uL, ai_uL, ar_uL, zs_uL, al_uL, kd_uR, ln_uR, fd_uR, ai_uR, al_uR, zs_uR, ar_uR, true_and, and_true, Option.toList_some, Option.toList_none, List.cons_append, List.nil_append, catS_nil, catS_int, catS_ref, catS_null, catS_long, cat_int, cat_ref, cat_null, Nat.reduceEqDiff, Nat.reduceLeDiff, Nat.reduceAdd, false_and, and_false, if_false, if_true, ite_true, ite_false, true_or, or_true, false_or, or_false, and_self, forall_const, true_implies, reduceCtorEq, clr_int, clr_ref, clr_null, clr_none, clr_long, va_rf_some, va_rf_none, rk1, at1, st1]
    rw [nI_ltI (by omega) (by omega)]
    refine ⟨fun zb => sp_R_look hq.1 (by omega) ?_, fun zb => ⟨rfl, h1 (by unfold right knd; rw [if_pos (by omega)]; rfl) w1 f1⟩⟩
    simp only [↓s_160_53, ↓s_160_55, ↓s_160_58, ↓s_160_59, ↓s_160_60, ↓s_160_63, ↓s_160_64, ↓s_160_65, ↓s_160_68, ↓s_160_69, ↓s_160_92, ↓s_160_93, kd_uF, ln_uF, ai_uF, al_uF, ar_uF, zs_uF, fd_uF, kd_uA, ln_uA, fd_uA, al_uA, ar_uA, zs_uA, ai_uA, kd_uL, ln_uL, fd_uL, ai_uL, ar_uL, zs_uL, al_uL, kd_uR, ln_uR, fd_uR, ai_uR, al_uR, zs_uR, ar_uR, true_and, and_true, Option.toList_some, Option.toList_none, List.cons_append, List.nil_append, catS_nil, catS_int, catS_ref, catS_null, catS_long, cat_int, cat_ref, cat_null, Nat.reduceEqDiff, Nat.reduceLeDiff, Nat.reduceAdd, false_and, and_false, if_false, if_true, ite_true, ite_false, true_or, or_true, false_or, or_false, and_self, forall_const, true_implies, reduceCtorEq, clr_int, clr_ref, clr_null, clr_none, clr_long, va_rf_some, va_rf_none, rk1, at1]
    rw [show (42 : Int32) = nI 42 from rfl, nI_eq (by omega) (by decide), nI_1]
    refine ⟨fun z => sp_R_isTelling hq.1 (fun y => ?_) (fun y => ?_), fun z => ?_⟩
    · -- an equation
      have hk : knd T e b = 2 := by unfold knd; rw [if_neg (by omega), if_neg z, if_pos y]
      have hr : right T e b = eOK T e (eS T e (bE T e (wE T e b + 1))) := by unfold right; rw [hk]; rfl
      rw [hr] at h1 h2
      have hy := isTe_pos y
      simp only [↓s_160_96, ↓s_160_99, ↓s_160_100, ↓s_160_101, ↓s_160_102, ↓s_160_105, ↓s_160_137, ↓s_160_138, ↓s_160_139, ↓s_160_142, kd_uF, ln_uF, ai_uF, al_uF, ar_uF, zs_uF, fd_uF, kd_uA, ln_uA, fd_uA, al_uA, ar_uA, zs_uA, ai_uA, kd_uL, ln_uL, fd_uL, ai_uL, ar_uL, zs_uL, al_uL, kd_uR, ln_uR, fd_uR, ai_uR, al_uR, zs_uR, ar_uR, true_and, and_true, Option.toList_some, Option.toList_none, List.cons_append, List.nil_append, catS_nil, catS_int, catS_ref, catS_null, catS_long, cat_int, cat_ref, cat_null, Nat.reduceEqDiff, Nat.reduceLeDiff, Nat.reduceAdd, false_and, and_false, if_false, if_true, ite_true, ite_false, true_or, or_true, false_or, or_false, and_self, forall_const, true_implies, reduceCtorEq, clr_int, clr_ref, clr_null, clr_none, clr_long, va_rf_some, va_rf_none, rk1, at1]
      refine ⟨fun q => absurd q (by decide), fun _ => sp_R_wordEnd hq.1 (by omega) ?_⟩
      simp only [↓s_160_108, ↓s_160_109, ↓s_160_110, ↓s_160_113, ↓s_160_114, kd_uF, ln_uF, ai_uF, al_uF, ar_uF, zs_uF, fd_uF, kd_uA, ln_uA, fd_uA, al_uA, ar_uA, zs_uA, ai_uA, kd_uL, ln_uL, fd_uL, ai_uL, ar_uL, zs_uL, al_uL, kd_uR, ln_uR, fd_uR, ai_uR, al_uR, zs_uR, ar_uR, true_and, and_true, Option.toList_some, Option.toList_none, List.cons_append, List.nil_append, catS_nil, catS_int, catS_ref, catS_null, catS_long, cat_int, cat_ref, cat_null, Nat.reduceEqDiff, Nat.reduceLeDiff, Nat.reduceAdd, false_and, and_false, if_false, if_true, ite_true, ite_false, true_or, or_true, false_or, or_false, and_self, forall_const, true_implies, reduceCtorEq, clr_int, clr_ref, clr_null, clr_none, clr_long, va_rf_some, va_rf_none, rk1]
      rw [nI_1]
      have g2 := hq.1.at_ (q := wE T e b + 1) (by omega)
      have f2 : FrA w1 (uF w1 555 m (.int (nI (wE T e b + 1)))) m := FrA.rf.F (Or.inl rfl)
      refine sp_R_blanks g2 (fun w2 c1 c2 _ => ?_)
      have hq2 := hq.A (f2.tr c2) c1
      have rk2 := c1.1.1
      simp only [↓s_160_117, ↓s_160_118, kd_uF, ln_uF, ai_uF, al_uF, ar_uF, zs_uF, fd_uF, kd_uA, ln_uA, fd_uA, al_uA, ar_uA, zs_uA, ai_uA, kd_uL, ln_uL, fd_uL, ai_uL, ar_uL, zs_uL, al_uL, kd_uR, ln_uR, fd_uR, ai_uR, al_uR, zs_uR, ar_uR, true_and, and_true, Option.toList_some, Option.toList_none, List.cons_append, List.nil_append, catS_nil, catS_int, catS_ref, catS_null, catS_long, cat_int, cat_ref, cat_null, Nat.reduceEqDiff, Nat.reduceLeDiff, Nat.reduceAdd, false_and, and_false, if_false, if_true, ite_true, ite_false, true_or, or_true, false_or, or_false, and_self, forall_const, true_implies, reduceCtorEq, clr_int, clr_ref, clr_null, clr_none, clr_long, va_rf_some, va_rf_none, rk2]
      refine sp_R_expr hq2 hN hd (fun r w3 b1 b2 b3 b4 => ?_) (fun b1 w3 r b2 b3 => ?_)
      · have rk3 := b2.1.1.1
        simp only [↓s_160_121, ↓s_160_124, ↓s_160_125, kd_uF, ln_uF, ai_uF, al_uF, ar_uF, zs_uF, fd_uF, kd_uA, ln_uA, fd_uA, al_uA, ar_uA, zs_uA, ai_uA, kd_uL, ln_uL, fd_uL, ai_uL, ar_uL, zs_uL, al_uL, kd_uR, ln_uR, fd_uR, ai_uR, al_uR, zs_uR, ar_uR, true_and, and_true, Option.toList_some, Option.toList_none, List.cons_append, List.nil_append, catS_nil, catS_int, catS_ref, catS_null, catS_long, cat_int, cat_ref, cat_null, Nat.reduceEqDiff, Nat.reduceLeDiff, Nat.reduceAdd, false_and, and_false, if_false, if_true, ite_true, ite_false, true_or, or_true, false_or, or_false, and_self, forall_const, true_implies, reduceCtorEq, clr_int, clr_ref, clr_null, clr_none, clr_long, va_rf_some, va_rf_none, rk3]
        refine ⟨fun q => absurd q (by decide), fun _ => sp_R_ends b2.1 (fun x w4 d1 => ?_) (fun x w4 d1 => ?_)⟩
        · simp only [↓s_160_128, ↓s_160_131, ↓s_160_132, ↓s_160_135, ↓s_160_136, kd_uF, ln_uF, ai_uF, al_uF, ar_uF, zs_uF, fd_uF, kd_uA, ln_uA, fd_uA, al_uA, ar_uA, zs_uA, ai_uA, kd_uL, ln_uL, fd_uL, ai_uL, ar_uL, zs_uL, al_uL, kd_uR, ln_uR, fd_uR, ai_uR, al_uR, zs_uR, ar_uR, true_and, and_true, Option.toList_some, Option.toList_none, List.cons_append, List.nil_append, catS_nil, catS_int, catS_ref, catS_null, catS_long, cat_int, cat_ref, cat_null, Nat.reduceEqDiff, Nat.reduceLeDiff, Nat.reduceAdd, false_and, and_false, if_false, if_true, ite_true, ite_false, true_or, or_true, false_or, or_false, and_self, forall_const, true_implies, reduceCtorEq, clr_int, clr_ref, clr_null, clr_none, clr_long, va_rf_some, va_rf_none]
          exact ⟨fun q => absurd q (by decide), fun _ => ⟨rfl, h1 (eOK_iff.mpr ⟨r, b1, x⟩) w4 ((((f1.tr f2).tr c2).tr b3).tr d1)⟩⟩
        · simp only [↓s_160_128, ↓s_160_131, ↓s_160_132, ↓s_160_135, ↓s_160_136, kd_uF, ln_uF, ai_uF, al_uF, ar_uF, zs_uF, fd_uF, kd_uA, ln_uA, fd_uA, al_uA, ar_uA, zs_uA, ai_uA, kd_uL, ln_uL, fd_uL, ai_uL, ar_uL, zs_uL, al_uL, kd_uR, ln_uR, fd_uR, ai_uR, al_uR, zs_uR, ar_uR, true_and, and_true, Option.toList_some, Option.toList_none, List.cons_append, List.nil_append, catS_nil, catS_int, catS_ref, catS_null, catS_long, cat_int, cat_ref, cat_null, Nat.reduceEqDiff, Nat.reduceLeDiff, Nat.reduceAdd, false_and, and_false, if_false, if_true, ite_true, ite_false, true_or, or_true, false_or, or_false, and_self, forall_const, true_implies, reduceCtorEq, clr_int, clr_ref, clr_null, clr_none, clr_long, va_rf_some, va_rf_none]
          refine ⟨⟨rfl, h2 ?_ w4 ((((f1.tr f2).tr c2).tr b3).tr d1)⟩, fun q => absurd trivial q⟩
          rw [b1]; unfold eOK; exact decide_eq_false x
      · simp only [↓s_160_121, ↓s_160_124, ↓s_160_125, ↓s_160_135, ↓s_160_136, kd_uF, ln_uF, ai_uF, al_uF, ar_uF, zs_uF, fd_uF, kd_uA, ln_uA, fd_uA, al_uA, ar_uA, zs_uA, ai_uA, kd_uL, ln_uL, fd_uL, ai_uL, ar_uL, zs_uL, al_uL, kd_uR, ln_uR, fd_uR, ai_uR, al_uR, zs_uR, ar_uR, true_and, and_true, Option.toList_some, Option.toList_none, List.cons_append, List.nil_append, catS_nil, catS_int, catS_ref, catS_null, catS_long, cat_int, cat_ref, cat_null, Nat.reduceEqDiff, Nat.reduceLeDiff, Nat.reduceAdd, false_and, and_false, if_false, if_true, ite_true, ite_false, true_or, or_true, false_or, or_false, and_self, forall_const, true_implies, reduceCtorEq, clr_int, clr_ref, clr_null, clr_none, clr_long, va_rf_some, va_rf_none]
        exact ⟨⟨rfl, h2 (by rw [b1]; rfl) w3 (((f1.tr f2).tr c2).tr b3)⟩, fun q => absurd trivial q⟩
    · simp only [↓s_160_96, ↓s_160_99, ↓s_160_100, ↓s_160_101, ↓s_160_102, ↓s_160_105, ↓s_160_137, ↓s_160_138, ↓s_160_139, ↓s_160_142, kd_uF, ln_uF, ai_uF, al_uF, ar_uF, zs_uF, fd_uF, kd_uA, ln_uA, fd_uA, al_uA, ar_uA, zs_uA, ai_uA, kd_uL, ln_uL, fd_uL, ai_uL, ar_uL, zs_uL, al_uL, kd_uR, ln_uR, fd_uR, ai_uR, al_uR, zs_uR, ar_uR, true_and, and_true, Option.toList_some, Option.toList_none, List.cons_append, List.nil_append, catS_nil, catS_int, catS_ref, catS_null, catS_long, cat_int, cat_ref, cat_null, Nat.reduceEqDiff, Nat.reduceLeDiff, Nat.reduceAdd, false_and, and_false, if_false, if_true, ite_true, ite_false, true_or, or_true, false_or, or_false, and_self, forall_const, true_implies, reduceCtorEq, clr_int, clr_ref, clr_null, clr_none, clr_long, va_rf_some, va_rf_none, rk1, at1]
      have y' : ¬ isTe T e b = true := by rw [y]; decide
      refine ⟨sp_R_memoryAt hq.1 hq.2.1 hN hbe ?_, fun q => absurd trivial q⟩
      cases hm : mwA T e b with
      | none =>
        have hk : knd T e b = 4 := by unfold knd; rw [if_neg (by omega), if_neg z, if_neg y', hm, if_neg (by decide)]
        have hr : right T e b = rS T e (e - b) b := by unfold right; rw [hk]; rfl
        rw [hr] at h1 h2
        simp only [↓s_160_145, ↓s_160_148, ↓s_160_149, ↓s_160_155, ↓s_160_156, kd_uF, ln_uF, ai_uF, al_uF, ar_uF, zs_uF, fd_uF, kd_uA, ln_uA, fd_uA, al_uA, ar_uA, zs_uA, ai_uA, kd_uL, ln_uL, fd_uL, ai_uL, ar_uL, zs_uL, al_uL, kd_uR, ln_uR, fd_uR, ai_uR, al_uR, zs_uR, ar_uR, true_and, and_true, Option.toList_some, Option.toList_none, List.cons_append, List.nil_append, catS_nil, catS_int, catS_ref, catS_null, catS_long, cat_int, cat_ref, cat_null, Nat.reduceEqDiff, Nat.reduceLeDiff, Nat.reduceAdd, false_and, and_false, if_false, if_true, ite_true, ite_false, true_or, or_true, false_or, or_false, and_self, forall_const, true_implies, reduceCtorEq, clr_int, clr_ref, clr_null, clr_none, clr_long, va_rf_some, va_rf_none, rk1, oI]
        refine ⟨fun _ => sp_R_rightRow hq hN hd (fun x w2 c1 => ?_) (fun x w2 c1 => ?_), fun q => absurd (by decide) q⟩
        · simp only [↓s_160_159, kd_uF, ln_uF, ai_uF, al_uF, ar_uF, zs_uF, fd_uF, kd_uA, ln_uA, fd_uA, al_uA, ar_uA, zs_uA, ai_uA, kd_uL, ln_uL, fd_uL, ai_uL, ar_uL, zs_uL, al_uL, kd_uR, ln_uR, fd_uR, ai_uR, al_uR, zs_uR, ar_uR, true_and, and_true, Option.toList_some, Option.toList_none, List.cons_append, List.nil_append, catS_nil, catS_int, catS_ref, catS_null, catS_long, cat_int, cat_ref, cat_null, Nat.reduceEqDiff, Nat.reduceLeDiff, Nat.reduceAdd, false_and, and_false, if_false, if_true, ite_true, ite_false, true_or, or_true, false_or, or_false, and_self, forall_const, true_implies, reduceCtorEq, clr_int, clr_ref, clr_null, clr_none, clr_long, va_rf_some, va_rf_none]
          exact ⟨rfl, h1 x w2 (f1.tr c1)⟩
        · simp only [↓s_160_159, kd_uF, ln_uF, ai_uF, al_uF, ar_uF, zs_uF, fd_uF, kd_uA, ln_uA, fd_uA, al_uA, ar_uA, zs_uA, ai_uA, kd_uL, ln_uL, fd_uL, ai_uL, ar_uL, zs_uL, al_uL, kd_uR, ln_uR, fd_uR, ai_uR, al_uR, zs_uR, ar_uR, true_and, and_true, Option.toList_some, Option.toList_none, List.cons_append, List.nil_append, catS_nil, catS_int, catS_ref, catS_null, catS_long, cat_int, cat_ref, cat_null, Nat.reduceEqDiff, Nat.reduceLeDiff, Nat.reduceAdd, false_and, and_false, if_false, if_true, ite_true, ite_false, true_or, or_true, false_or, or_false, and_self, forall_const, true_implies, reduceCtorEq, clr_int, clr_ref, clr_null, clr_none, clr_long, va_rf_some, va_rf_none]
          exact ⟨rfl, h2 x w2 (f1.tr c1)⟩
      | some i =>
        have hk : knd T e b = 3 := by unfold knd; rw [if_neg (by omega), if_neg z, if_neg y', hm]; rfl
        have hr : right T e b = if isLi T e b = true then lOK T e (eS T e (m3 T e b)) else eOK T e (eS T e (m3 T e b)) := by unfold right; rw [hk]; rfl
        rw [hr] at h1 h2
        have hi : i < 6 := by
          unfold mwA at hm
          split at hm
          · exact (mw_in hm).1
          · cases hm
        simp only [↓s_160_145, ↓s_160_148, ↓s_160_149, ↓s_160_155, ↓s_160_156, ↓s_160_159, kd_uF, ln_uF, ai_uF, al_uF, ar_uF, zs_uF, fd_uF, kd_uA, ln_uA, fd_uA, al_uA, ar_uA, zs_uA, ai_uA, kd_uL, ln_uL, fd_uL, ai_uL, ar_uL, zs_uL, al_uL, kd_uR, ln_uR, fd_uR, ai_uR, al_uR, zs_uR, ar_uR, true_and, and_true, Option.toList_some, Option.toList_none, List.cons_append, List.nil_append, catS_nil, catS_int, catS_ref, catS_null, catS_long, cat_int, cat_ref, cat_null, Nat.reduceEqDiff, Nat.reduceLeDiff, Nat.reduceAdd, false_and, and_false, if_false, if_true, ite_true, ite_false, true_or, or_true, false_or, or_false, and_self, forall_const, true_implies, reduceCtorEq, clr_int, clr_ref, clr_null, clr_none, clr_long, va_rf_some, va_rf_none, rk1, oI]
        refine ⟨fun q => absurd q (nI_pos (by omega)), fun _ => sp_R_rightMem hq hN hd (fun x w2 c1 => ?_) (fun x w2 c1 => ?_)⟩
        · simp only [↓s_160_152, ↓s_160_159, kd_uF, ln_uF, ai_uF, al_uF, ar_uF, zs_uF, fd_uF, kd_uA, ln_uA, fd_uA, al_uA, ar_uA, zs_uA, ai_uA, kd_uL, ln_uL, fd_uL, ai_uL, ar_uL, zs_uL, al_uL, kd_uR, ln_uR, fd_uR, ai_uR, al_uR, zs_uR, ar_uR, true_and, and_true, Option.toList_some, Option.toList_none, List.cons_append, List.nil_append, catS_nil, catS_int, catS_ref, catS_null, catS_long, cat_int, cat_ref, cat_null, Nat.reduceEqDiff, Nat.reduceLeDiff, Nat.reduceAdd, false_and, and_false, if_false, if_true, ite_true, ite_false, true_or, or_true, false_or, or_false, and_self, forall_const, true_implies, reduceCtorEq, clr_int, clr_ref, clr_null, clr_none, clr_long, va_rf_some, va_rf_none]
          exact ⟨rfl, h1 x w2 (f1.tr c1)⟩
        · simp only [↓s_160_152, ↓s_160_159, kd_uF, ln_uF, ai_uF, al_uF, ar_uF, zs_uF, fd_uF, kd_uA, ln_uA, fd_uA, al_uA, ar_uA, zs_uA, ai_uA, kd_uL, ln_uL, fd_uL, ai_uL, ar_uL, zs_uL, al_uL, kd_uR, ln_uR, fd_uR, ai_uR, al_uR, zs_uR, ar_uR, true_and, and_true, Option.toList_some, Option.toList_none, List.cons_append, List.nil_append, catS_nil, catS_int, catS_ref, catS_null, catS_long, cat_int, cat_ref, cat_null, Nat.reduceEqDiff, Nat.reduceLeDiff, Nat.reduceAdd, false_and, and_false, if_false, if_true, ite_true, ite_false, true_or, or_true, false_or, or_false, and_self, forall_const, true_implies, reduceCtorEq, clr_int, clr_ref, clr_null, clr_none, clr_long, va_rf_some, va_rf_none]
          exact ⟨rfl, h2 x w2 (f1.tr c1)⟩
    · -- an origin
      have hk : knd T e b = 1 := by unfold knd; rw [if_neg (by omega), if_pos z]
      have hr : right T e b = eOK T e (eS T e (bE T e (b + 1))) := by unfold right; rw [hk]; rfl
      rw [hr] at h1 h2
      have g2 := hq.1.at_ (q := b + 1) (by omega)
      have f2 : FrA w1 (uF w1 555 m (.int (nI (b + 1)))) m := FrA.rf.F (Or.inl rfl)
      refine sp_R_blanks g2 (fun w2 c1 c2 _ => ?_)
      have hq2 := hq.A (f2.tr c2) c1
      have rk2 := c1.1.1
      simp only [↓s_160_72, ↓s_160_73, kd_uF, ln_uF, ai_uF, al_uF, ar_uF, zs_uF, fd_uF, kd_uA, ln_uA, fd_uA, al_uA, ar_uA, zs_uA, ai_uA, kd_uL, ln_uL, fd_uL, ai_uL, ar_uL, zs_uL, al_uL, kd_uR, ln_uR, fd_uR, ai_uR, al_uR, zs_uR, ar_uR, true_and, and_true, Option.toList_some, Option.toList_none, List.cons_append, List.nil_append, catS_nil, catS_int, catS_ref, catS_null, catS_long, cat_int, cat_ref, cat_null, Nat.reduceEqDiff, Nat.reduceLeDiff, Nat.reduceAdd, false_and, and_false, if_false, if_true, ite_true, ite_false, true_or, or_true, false_or, or_false, and_self, forall_const, true_implies, reduceCtorEq, clr_int, clr_ref, clr_null, clr_none, clr_long, va_rf_some, va_rf_none, rk2]
      refine sp_R_expr hq2 hN hd (fun r w3 b1 b2 b3 b4 => ?_) (fun b1 w3 r b2 b3 => ?_)
      · have rk3 := b2.1.1.1
        simp only [↓s_160_76, ↓s_160_79, ↓s_160_80, kd_uF, ln_uF, ai_uF, al_uF, ar_uF, zs_uF, fd_uF, kd_uA, ln_uA, fd_uA, al_uA, ar_uA, zs_uA, ai_uA, kd_uL, ln_uL, fd_uL, ai_uL, ar_uL, zs_uL, al_uL, kd_uR, ln_uR, fd_uR, ai_uR, al_uR, zs_uR, ar_uR, true_and, and_true, Option.toList_some, Option.toList_none, List.cons_append, List.nil_append, catS_nil, catS_int, catS_ref, catS_null, catS_long, cat_int, cat_ref, cat_null, Nat.reduceEqDiff, Nat.reduceLeDiff, Nat.reduceAdd, false_and, and_false, if_false, if_true, ite_true, ite_false, true_or, or_true, false_or, or_false, and_self, forall_const, true_implies, reduceCtorEq, clr_int, clr_ref, clr_null, clr_none, clr_long, va_rf_some, va_rf_none, rk3]
        refine ⟨fun q => absurd q (by decide), fun _ => sp_R_ends b2.1 (fun x w4 d1 => ?_) (fun x w4 d1 => ?_)⟩
        · simp only [↓s_160_83, ↓s_160_86, ↓s_160_87, ↓s_160_90, ↓s_160_91, kd_uF, ln_uF, ai_uF, al_uF, ar_uF, zs_uF, fd_uF, kd_uA, ln_uA, fd_uA, al_uA, ar_uA, zs_uA, ai_uA, kd_uL, ln_uL, fd_uL, ai_uL, ar_uL, zs_uL, al_uL, kd_uR, ln_uR, fd_uR, ai_uR, al_uR, zs_uR, ar_uR, true_and, and_true, Option.toList_some, Option.toList_none, List.cons_append, List.nil_append, catS_nil, catS_int, catS_ref, catS_null, catS_long, cat_int, cat_ref, cat_null, Nat.reduceEqDiff, Nat.reduceLeDiff, Nat.reduceAdd, false_and, and_false, if_false, if_true, ite_true, ite_false, true_or, or_true, false_or, or_false, and_self, forall_const, true_implies, reduceCtorEq, clr_int, clr_ref, clr_null, clr_none, clr_long, va_rf_some, va_rf_none]
          exact ⟨fun q => absurd q (by decide), fun _ => ⟨rfl, h1 (eOK_iff.mpr ⟨r, b1, x⟩) w4 ((((f1.tr f2).tr c2).tr b3).tr d1)⟩⟩
        · simp only [↓s_160_83, ↓s_160_86, ↓s_160_87, ↓s_160_90, ↓s_160_91, kd_uF, ln_uF, ai_uF, al_uF, ar_uF, zs_uF, fd_uF, kd_uA, ln_uA, fd_uA, al_uA, ar_uA, zs_uA, ai_uA, kd_uL, ln_uL, fd_uL, ai_uL, ar_uL, zs_uL, al_uL, kd_uR, ln_uR, fd_uR, ai_uR, al_uR, zs_uR, ar_uR, true_and, and_true, Option.toList_some, Option.toList_none, List.cons_append, List.nil_append, catS_nil, catS_int, catS_ref, catS_null, catS_long, cat_int, cat_ref, cat_null, Nat.reduceEqDiff, Nat.reduceLeDiff, Nat.reduceAdd, false_and, and_false, if_false, if_true, ite_true, ite_false, true_or, or_true, false_or, or_false, and_self, forall_const, true_implies, reduceCtorEq, clr_int, clr_ref, clr_null, clr_none, clr_long, va_rf_some, va_rf_none]
          refine ⟨⟨rfl, h2 ?_ w4 ((((f1.tr f2).tr c2).tr b3).tr d1)⟩, fun q => absurd trivial q⟩
          rw [b1]; unfold eOK; exact decide_eq_false x
      · simp only [↓s_160_76, ↓s_160_79, ↓s_160_80, ↓s_160_90, ↓s_160_91, kd_uF, ln_uF, ai_uF, al_uF, ar_uF, zs_uF, fd_uF, kd_uA, ln_uA, fd_uA, al_uA, ar_uA, zs_uA, ai_uA, kd_uL, ln_uL, fd_uL, ai_uL, ar_uL, zs_uL, al_uL, kd_uR, ln_uR, fd_uR, ai_uR, al_uR, zs_uR, ar_uR, true_and, and_true, Option.toList_some, Option.toList_none, List.cons_append, List.nil_append, catS_nil, catS_int, catS_ref, catS_null, catS_long, cat_int, cat_ref, cat_null, Nat.reduceEqDiff, Nat.reduceLeDiff, Nat.reduceAdd, false_and, and_false, if_false, if_true, ite_true, ite_false, true_or, or_true, false_or, or_false, and_self, forall_const, true_implies, reduceCtorEq, clr_int, clr_ref, clr_null, clr_none, clr_long, va_rf_some, va_rf_none]
        exact ⟨⟨rfl, h2 (by rw [b1]; rfl) w3 (((f1.tr f2).tr c2).tr b3)⟩, fun q => absurd trivial q⟩
  have lp : ∀ (k q : Nat) (w1 : aw), e ≤ q + k → RQ w1 m T e t dot q → FrA w w1 m → lbE T e k q = p0 T p e → wp (d + 6) 160 Q 4 [some (.ref m)] [] w1 0 0 := by
    intro k
    induction k with
    | zero =>
      intro q w1 hk hq f1 e1
      have rk1 := hq.1.1.1
      rw [s_160_4]
      simp only [↓s_160_5, kd_uF, ln_uF, ai_uF, al_uF, ar_uF, zs_uF, fd_uF, kd_uA, ln_uA, fd_uA, al_uA, ar_uA, zs_uA, ai_uA, kd_uL, ln_uL, fd_uL, ai_uL, ar_uL, zs_uL, al_uL, kd_uR, ln_uR, fd_uR, ai_uR, al_uR, zs_uR, ar_uR, true_and, and_true, Option.toList_some, Option.toList_none, List.cons_append, List.nil_append, catS_nil, catS_int, catS_ref, catS_null, catS_long, cat_int, cat_ref, cat_null, Nat.reduceEqDiff, Nat.reduceLeDiff, Nat.reduceAdd, false_and, and_false, if_false, if_true, ite_true, ite_false, true_or, or_true, false_or, or_false, and_self, forall_const, true_implies, reduceCtorEq, clr_int, clr_ref, clr_null, clr_none, clr_long, va_rf_some, va_rf_none, rk1]
      refine sp_R_isLabel hq.1 (fun z => absurd (isLb_pos z) (by have := hq.1.2.2.2.2.2.2; omega)) (fun z => ?_)
      simp only [↓s_160_8, kd_uF, ln_uF, ai_uF, al_uF, ar_uF, zs_uF, fd_uF, kd_uA, ln_uA, fd_uA, al_uA, ar_uA, zs_uA, ai_uA, kd_uL, ln_uL, fd_uL, ai_uL, ar_uL, zs_uL, al_uL, kd_uR, ln_uR, fd_uR, ai_uR, al_uR, zs_uR, ar_uR, true_and, and_true, Option.toList_some, Option.toList_none, List.cons_append, List.nil_append, catS_nil, catS_int, catS_ref, catS_null, catS_long, cat_int, cat_ref, cat_null, Nat.reduceEqDiff, Nat.reduceLeDiff, Nat.reduceAdd, false_and, and_false, if_false, if_true, ite_true, ite_false, true_or, or_true, false_or, or_false, and_self, forall_const, true_implies, reduceCtorEq, clr_int, clr_ref, clr_null, clr_none, clr_long, va_rf_some, va_rf_none]
      have e1' : q = p0 T p e := e1
      exact ⟨body w1 (by rw [← e1']; exact hq) f1, fun q => absurd trivial q⟩
    | succ k ih =>
      intro q w1 hk hq f1 e1
      have rk1 := hq.1.1.1
      have at1 := hq.1.2.2.2.1
      have hqe := hq.1.2.2.2.2.2.2
      have e1' : (if isLb T e q = true then lbE T e k (bE T e (wE T e q + 1)) else q) = p0 T p e := e1
      rw [s_160_4]
      simp only [↓s_160_5, kd_uF, ln_uF, ai_uF, al_uF, ar_uF, zs_uF, fd_uF, kd_uA, ln_uA, fd_uA, al_uA, ar_uA, zs_uA, ai_uA, kd_uL, ln_uL, fd_uL, ai_uL, ar_uL, zs_uL, al_uL, kd_uR, ln_uR, fd_uR, ai_uR, al_uR, zs_uR, ar_uR, true_and, and_true, Option.toList_some, Option.toList_none, List.cons_append, List.nil_append, catS_nil, catS_int, catS_ref, catS_null, catS_long, cat_int, cat_ref, cat_null, Nat.reduceEqDiff, Nat.reduceLeDiff, Nat.reduceAdd, false_and, and_false, if_false, if_true, ite_true, ite_false, true_or, or_true, false_or, or_false, and_self, forall_const, true_implies, reduceCtorEq, clr_int, clr_ref, clr_null, clr_none, clr_long, va_rf_some, va_rf_none, rk1]
      refine sp_R_isLabel hq.1 (fun z => ?_) (fun z => ?_)
      · rw [if_pos z] at e1'
        have hz := isLb_pos z
        simp only [↓s_160_8, ↓s_160_11, ↓s_160_12, ↓s_160_13, ↓s_160_14, ↓s_160_17, ↓s_160_32, ↓s_160_33, ↓s_160_36, ↓s_160_37, ↓s_160_40, ↓s_160_43, ↓s_160_44, ↓s_160_45, ↓s_160_46, ↓s_160_47, ↓s_160_50, kd_uF, ln_uF, ai_uF, al_uF, ar_uF, zs_uF, fd_uF, kd_uA, ln_uA, fd_uA, al_uA, ar_uA, zs_uA, ai_uA, kd_uL, ln_uL, fd_uL, ai_uL, ar_uL, zs_uL, al_uL, kd_uR, ln_uR, fd_uR, ai_uR, al_uR, zs_uR, ar_uR, true_and, and_true, Option.toList_some, Option.toList_none, List.cons_append, List.nil_append, catS_nil, catS_int, catS_ref, catS_null, catS_long, cat_int, cat_ref, cat_null, Nat.reduceEqDiff, Nat.reduceLeDiff, Nat.reduceAdd, false_and, and_false, if_false, if_true, ite_true, ite_false, true_or, or_true, false_or, or_false, and_self, forall_const, true_implies, reduceCtorEq, clr_int, clr_ref, clr_null, clr_none, clr_long, va_rf_some, va_rf_none, rk1, at1]
        refine ⟨fun q => absurd q (by decide), fun _ => sp_R_wordEnd hq.1 (by omega) ?_⟩
        simp only [↓s_160_20, ↓s_160_21, ↓s_160_22, ↓s_160_25, ↓s_160_26, kd_uF, ln_uF, ai_uF, al_uF, ar_uF, zs_uF, fd_uF, kd_uA, ln_uA, fd_uA, al_uA, ar_uA, zs_uA, ai_uA, kd_uL, ln_uL, fd_uL, ai_uL, ar_uL, zs_uL, al_uL, kd_uR, ln_uR, fd_uR, ai_uR, al_uR, zs_uR, ar_uR, true_and, and_true, Option.toList_some, Option.toList_none, List.cons_append, List.nil_append, catS_nil, catS_int, catS_ref, catS_null, catS_long, cat_int, cat_ref, cat_null, Nat.reduceEqDiff, Nat.reduceLeDiff, Nat.reduceAdd, false_and, and_false, if_false, if_true, ite_true, ite_false, true_or, or_true, false_or, or_false, and_self, forall_const, true_implies, reduceCtorEq, clr_int, clr_ref, clr_null, clr_none, clr_long, va_rf_some, va_rf_none, rk1]
        rw [nI_1]
        have g2 := hq.1.at_ (q := wE T e q + 1) (by omega)
        have f2 : FrA w1 (uF w1 555 m (.int (nI (wE T e q + 1)))) m := FrA.rf.F (Or.inl rfl)
        refine sp_R_blanks g2 (fun w2 c1 c2 _ => ?_)
        simp only [↓s_160_29, kd_uF, ln_uF, ai_uF, al_uF, ar_uF, zs_uF, fd_uF, kd_uA, ln_uA, fd_uA, al_uA, ar_uA, zs_uA, ai_uA, kd_uL, ln_uL, fd_uL, ai_uL, ar_uL, zs_uL, al_uL, kd_uR, ln_uR, fd_uR, ai_uR, al_uR, zs_uR, ar_uR, true_and, and_true, Option.toList_some, Option.toList_none, List.cons_append, List.nil_append, catS_nil, catS_int, catS_ref, catS_null, catS_long, cat_int, cat_ref, cat_null, Nat.reduceEqDiff, Nat.reduceLeDiff, Nat.reduceAdd, false_and, and_false, if_false, if_true, ite_true, ite_false, true_or, or_true, false_or, or_false, and_self, forall_const, true_implies, reduceCtorEq, clr_int, clr_ref, clr_null, clr_none, clr_long, va_rf_some, va_rf_none]
        have hge := bE_ge (T := T) (e := e) (p := wE T e q + 1)
        exact ih _ w2 (by omega) (hq.A (f2.tr c2) c1) ((f1.tr f2).tr c2) e1'
      · rw [if_neg (by rw [z]; decide)] at e1'
        simp only [↓s_160_8, kd_uF, ln_uF, ai_uF, al_uF, ar_uF, zs_uF, fd_uF, kd_uA, ln_uA, fd_uA, al_uA, ar_uA, zs_uA, ai_uA, kd_uL, ln_uL, fd_uL, ai_uL, ar_uL, zs_uL, al_uL, kd_uR, ln_uR, fd_uR, ai_uR, al_uR, zs_uR, ar_uR, true_and, and_true, Option.toList_some, Option.toList_none, List.cons_append, List.nil_append, catS_nil, catS_int, catS_ref, catS_null, catS_long, cat_int, cat_ref, cat_null, Nat.reduceEqDiff, Nat.reduceLeDiff, Nat.reduceAdd, false_and, and_false, if_false, if_true, ite_true, ite_false, true_or, or_true, false_or, or_false, and_self, forall_const, true_implies, reduceCtorEq, clr_int, clr_ref, clr_null, clr_none, clr_long, va_rf_some, va_rf_none]
        exact ⟨body w1 (by rw [← e1']; exact hq) f1, fun q => absurd trivial q⟩
  simp only [↓s_160_0, ↓s_160_1, kd_uF, ln_uF, ai_uF, al_uF, ar_uF, zs_uF, fd_uF, kd_uA, ln_uA, fd_uA, al_uA, ar_uA, zs_uA, ai_uA, kd_uL, ln_uL, fd_uL, ai_uL, ar_uL, zs_uL, al_uL, kd_uR, ln_uR, fd_uR, ai_uR, al_uR, zs_uR, ar_uR, true_and, and_true, Option.toList_some, Option.toList_none, List.cons_append, List.nil_append, catS_nil, catS_int, catS_ref, catS_null, catS_long, cat_int, cat_ref, cat_null, Nat.reduceEqDiff, Nat.reduceLeDiff, Nat.reduceAdd, false_and, and_false, if_false, if_true, ite_true, ite_false, true_or, or_true, false_or, or_false, and_self, forall_const, true_implies, reduceCtorEq, clr_int, clr_ref, clr_null, clr_none, clr_long, va_rf_some, va_rf_none, rk]
  refine sp_R_blanks hQ.1 (fun w1 c1 c2 _ => ?_)
  have := lp (e - bE T e p) (bE T e p) w1 (by omega) (hQ.A c2 c1) c2 rfl
  exact this
