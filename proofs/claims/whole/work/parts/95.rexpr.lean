def RQ (w : aw) (m : Nat) (T : Nat → Nat) (e : Nat) (t : nt) (dot p : Nat) : Prop := RP w m T e p ∧ RB w m t ∧ fd w 554 m = .int (nI dot)
theorem RQ.A {w w' : aw} {m e dot p q : Nat} {T : Nat → Nat} {t : nt} (h : RQ w m T e t dot p) (hF : FrA w w' m) (hP : RP w' m T e q) : RQ w' m T e t dot q := ⟨hP, h.2.1.A hF, (hF.2.1 _ (by decide) (by decide) (by decide)).trans h.2.2⟩
theorem sp_R_expr {d : Nat} {w : aw} {m e p dot : Nat} {T : Nat → Nat} {t : nt} {Q : wQ} (hQ : RQ w m T e t dot p) (hN : TN t) (hd : dot < 4096) (h1 : ∀ q w', eS T e p = some q → RQ w' m T e t dot q → FrA w w' m → RV w' m (eV T e t dot p) → Q (some (.int 1)) w') (h2 : eS T e p = none → ∀ w' q, RP w' m T e q → FrA w w' m → Q (some (.int 0)) w') : wpD (d + 5) 158 [.ref m] w Q := by
  refine ⟨Nat.le_of_ble_eq_true rfl, ?_⟩
  show wp (d + 4) 158 Q 0 [some (.ref m), none, none] [] w 0 0
  have hP := hQ.1
  have he := hP.2.2.2.2.1
  have hT := hP.2.2.2.2.2.1
  have hpe := hP.2.2.2.2.2.2
  have rk := hP.1.1
  have at' := hP.2.2.2.1
  have hc := lk_lt (T := T) (e := e) (p := p) hT
  have j125 : ∀ w1 (M : Option Value), eS T e p = none → (∃ q, RP w1 m T e q) → FrA w w1 m → wp (d + 4) 158 Q 57 [some (.ref m), M, some (.int 0)] [] w1 0 0 := by
    intro w1 M e1 ⟨q, g1⟩ f1
    rw [s_158_57]
    simp only [↓s_158_58, ↓s_158_125, ↓s_158_126, kd_uF, ln_uF, ai_uF, al_uF, ar_uF, zs_uF, fd_uF, kd_uA, ln_uA, fd_uA, al_uA, ar_uA, zs_uA, ai_uA, kd_uL, ln_uL, fd_uL, ai_uL, ar_uL, zs_uL, al_uL, kd_uR, ln_uR, fd_uR, ai_uR, al_uR, zs_uR, ar_uR, true_and, and_true, Option.toList_some, Option.toList_none, List.cons_append, List.nil_append, catS_nil, catS_int, catS_ref, catS_null, catS_long, cat_int, cat_ref, cat_null, Nat.reduceEqDiff, Nat.reduceLeDiff, Nat.reduceAdd, false_and, and_false, if_false, if_true, ite_true, ite_false, true_or, or_true, false_or, or_false, and_self, forall_const, true_implies, reduceCtorEq, clr_int, clr_ref, clr_null, clr_none, clr_long, va_rf_some, va_rf_none]
    exact ⟨⟨rfl, h2 e1 w1 q g1 f1⟩, fun q => absurd trivial q⟩
  have lp : ∀ (k q : Nat) (o : Option Nat) (M : Option Value) (w1 : aw), e + 1 ≤ q + k → RQ w1 m T e t dot q → FrA w w1 m → RV w1 m o → (if isPM (lk T e q) = true then xS T e k (q + 1) else some q) = eS T e p → (if isPM (lk T e q) = true then xV T e t dot k (q + 1) (lk T e q == 45) o else o) = eV T e t dot p → wp (d + 4) 158 Q 57 [some (.ref m), M, some (.int 1)] [] w1 0 0 := by
    intro k
    induction k with
    | zero => intro q o M w1 hk hq; exact absurd hq.1.2.2.2.2.2.2 (by omega)
    | succ k ih =>
      intro q o M w1 hk hq f1 g1 e1 e2
      have hP1 := hq.1
      have rk1 := hP1.1.1
      have at1 := hP1.2.2.2.1
      have hqe := hP1.2.2.2.2.2.2
      have hc1 := lk_lt (T := T) (e := e) (p := q) hT
      have go : isPM (lk T e q) = true → wp (d + 4) 158 Q 87 [some (.ref m), M, some (.int 1)] [] w1 0 0 := by
        intro z
        rw [if_pos z] at e1 e2
        have hql : q < e := lk_pos (T := T) (by rcases isPM_iff.mp z with y | y <;> omega)
        have hP2 : RP (uF w1 555 m (.int (nI (q + 1)))) m T e (q + 1) := hP1.at_ (by omega)
        have f2 : FrA w1 (uF w1 555 m (.int (nI (q + 1)))) m := FrA.rf.F (Or.inl rfl)
        have hq2 := hq.A f2 hP2
        have g2 : RV (uF w1 555 m (.int (nI (q + 1)))) m o := g1
        have rk2 := hP2.1.1
        have at2 := hP2.2.2.2.1
        have k2 : kd w1 m = 9 := rk1
        simp only [↓s_158_87, ↓s_158_88, ↓s_158_89, ↓s_158_92, ↓s_158_93, ↓s_158_94, ↓s_158_97, ↓s_158_98, ↓s_158_99, ↓s_158_100, ↓s_158_103, ↓s_158_104, ↓s_158_105, kd_uF, ln_uF, ai_uF, al_uF, ar_uF, zs_uF, fd_uF, kd_uA, ln_uA, fd_uA, al_uA, ar_uA, zs_uA, ai_uA, kd_uL, ln_uL, fd_uL, ai_uL, ar_uL, zs_uL, al_uL, kd_uR, ln_uR, fd_uR, ai_uR, al_uR, zs_uR, ar_uR, true_and, and_true, Option.toList_some, Option.toList_none, List.cons_append, List.nil_append, catS_nil, catS_int, catS_ref, catS_null, catS_long, cat_int, cat_ref, cat_null, Nat.reduceEqDiff, Nat.reduceLeDiff, Nat.reduceAdd, false_and, and_false, if_false, if_true, ite_true, ite_false, true_or, or_true, false_or, or_false, and_self, forall_const, true_implies, reduceCtorEq, clr_int, clr_ref, clr_null, clr_none, clr_long, va_rf_some, va_rf_none, k2, at1]
        rw [nI_1, nI_pred]
        refine sp_R_look hP2 (by omega) ?_
        have j118 : ∀ s, s = sgn (lk T e q == 45) → wp (d + 4) 158 Q 118 [some (.ref m), M, some (.int 1)] [.int s, .ref m] (uF w1 555 m (.int (nI (q + 1)))) 0 0 := by
          intro s hs
          subst hs
          simp only [↓s_158_118, kd_uF, ln_uF, ai_uF, al_uF, ar_uF, zs_uF, fd_uF, kd_uA, ln_uA, fd_uA, al_uA, ar_uA, zs_uA, ai_uA, kd_uL, ln_uL, fd_uL, ai_uL, ar_uL, zs_uL, al_uL, kd_uR, ln_uR, fd_uR, ai_uR, al_uR, zs_uR, ar_uR, true_and, and_true, Option.toList_some, Option.toList_none, List.cons_append, List.nil_append, catS_nil, catS_int, catS_ref, catS_null, catS_long, cat_int, cat_ref, cat_null, Nat.reduceEqDiff, Nat.reduceLeDiff, Nat.reduceAdd, false_and, and_false, if_false, if_true, ite_true, ite_false, true_or, or_true, false_or, or_false, and_self, forall_const, true_implies, reduceCtorEq, clr_int, clr_ref, clr_null, clr_none, clr_long, va_rf_some, va_rf_none, k2]
          refine sp_R_term hP2 hq2.2.1 hN hq2.2.2 hd g2 (fun r w2 b1 b2 b3 b4 => ?_) (fun b1 => ?_)
          · have hb := tS_b b1
            simp only [↓s_158_121, ↓s_158_122, kd_uF, ln_uF, ai_uF, al_uF, ar_uF, zs_uF, fd_uF, kd_uA, ln_uA, fd_uA, al_uA, ar_uA, zs_uA, ai_uA, kd_uL, ln_uL, fd_uL, ai_uL, ar_uL, zs_uL, al_uL, kd_uR, ln_uR, fd_uR, ai_uR, al_uR, zs_uR, ar_uR, true_and, and_true, Option.toList_some, Option.toList_none, List.cons_append, List.nil_append, catS_nil, catS_int, catS_ref, catS_null, catS_long, cat_int, cat_ref, cat_null, Nat.reduceEqDiff, Nat.reduceLeDiff, Nat.reduceAdd, false_and, and_false, if_false, if_true, ite_true, ite_false, true_or, or_true, false_or, or_false, and_self, forall_const, true_implies, reduceCtorEq, clr_int, clr_ref, clr_null, clr_none, clr_long, va_rf_some, va_rf_none]
            refine ih r _ _ w2 (by omega) (hq2.A b3 b2) ((f1.tr f2).tr b3) b4 ?_ ?_
            · rw [← e1]
              show _ = match tS T e (q + 1) with | none => none | some q_1 => if isPM (lk T e q_1) = true then xS T e k (q_1 + 1) else some q_1
              rw [b1]
            · rw [← e2]
              show _ = match tS T e (q + 1) with | none => none | some q_1 => if isPM (lk T e q_1) = true then xV T e t dot k (q_1 + 1) (lk T e q_1 == 45) (comb (lk T e q == 45) o (tV T e t dot (q + 1))) else comb (lk T e q == 45) o (tV T e t dot (q + 1))
              rw [b1]
          · simp only [↓s_158_121, ↓s_158_122, kd_uF, ln_uF, ai_uF, al_uF, ar_uF, zs_uF, fd_uF, kd_uA, ln_uA, fd_uA, al_uA, ar_uA, zs_uA, ai_uA, kd_uL, ln_uL, fd_uL, ai_uL, ar_uL, zs_uL, al_uL, kd_uR, ln_uR, fd_uR, ai_uR, al_uR, zs_uR, ar_uR, true_and, and_true, Option.toList_some, Option.toList_none, List.cons_append, List.nil_append, catS_nil, catS_int, catS_ref, catS_null, catS_long, cat_int, cat_ref, cat_null, Nat.reduceEqDiff, Nat.reduceLeDiff, Nat.reduceAdd, false_and, and_false, if_false, if_true, ite_true, ite_false, true_or, or_true, false_or, or_false, and_self, forall_const, true_implies, reduceCtorEq, clr_int, clr_ref, clr_null, clr_none, clr_long, va_rf_some, va_rf_none]
            refine j125 _ _ ?_ ⟨_, hP2⟩ (f1.tr f2)
            rw [← e1]
            show (match tS T e (q + 1) with | none => none | some q_1 => if isPM (lk T e q_1) = true then xS T e k (q_1 + 1) else some q_1) = none
            rw [b1]
        simp only [↓s_158_108, ↓s_158_110, ↓s_158_113, ↓s_158_114, ↓s_158_117, kd_uF, ln_uF, ai_uF, al_uF, ar_uF, zs_uF, fd_uF, kd_uA, ln_uA, fd_uA, al_uA, ar_uA, zs_uA, ai_uA, kd_uL, ln_uL, fd_uL, ai_uL, ar_uL, zs_uL, al_uL, kd_uR, ln_uR, fd_uR, ai_uR, al_uR, zs_uR, ar_uR, true_and, and_true, Option.toList_some, Option.toList_none, List.cons_append, List.nil_append, catS_nil, catS_int, catS_ref, catS_null, catS_long, cat_int, cat_ref, cat_null, Nat.reduceEqDiff, Nat.reduceLeDiff, Nat.reduceAdd, false_and, and_false, if_false, if_true, ite_true, ite_false, true_or, or_true, false_or, or_false, and_self, forall_const, true_implies, reduceCtorEq, clr_int, clr_ref, clr_null, clr_none, clr_long, va_rf_some, va_rf_none]
        rw [show (45 : Int32) = nI 45 from rfl, nI_eq (by omega) (by decide)]
        refine ⟨fun y => j118 _ ?_, fun y => j118 _ ?_⟩
        · unfold sgn; rw [if_neg (by simp [y])]
        · unfold sgn; rw [if_pos (by simp [y])]
      have done : isPM (lk T e q) = false → wp (d + 4) 158 Q 125 [some (.ref m), M, some (.int 1)] [] w1 0 0 := by
        intro z
        rw [if_neg (by rw [z]; decide)] at e1 e2
        simp only [↓s_158_125, ↓s_158_126, kd_uF, ln_uF, ai_uF, al_uF, ar_uF, zs_uF, fd_uF, kd_uA, ln_uA, fd_uA, al_uA, ar_uA, zs_uA, ai_uA, kd_uL, ln_uL, fd_uL, ai_uL, ar_uL, zs_uL, al_uL, kd_uR, ln_uR, fd_uR, ai_uR, al_uR, zs_uR, ar_uR, true_and, and_true, Option.toList_some, Option.toList_none, List.cons_append, List.nil_append, catS_nil, catS_int, catS_ref, catS_null, catS_long, cat_int, cat_ref, cat_null, Nat.reduceEqDiff, Nat.reduceLeDiff, Nat.reduceAdd, false_and, and_false, if_false, if_true, ite_true, ite_false, true_or, or_true, false_or, or_false, and_self, forall_const, true_implies, reduceCtorEq, clr_int, clr_ref, clr_null, clr_none, clr_long, va_rf_some, va_rf_none]
        exact ⟨rfl, h1 q w1 e1.symm hq f1 (by rw [← e2]; exact g1)⟩
      rw [s_158_57]
      simp only [↓s_158_58, ↓s_158_61, ↓s_158_62, ↓s_158_63, ↓s_158_66, kd_uF, ln_uF, ai_uF, al_uF, ar_uF, zs_uF, fd_uF, kd_uA, ln_uA, fd_uA, al_uA, ar_uA, zs_uA, ai_uA, kd_uL, ln_uL, fd_uL, ai_uL, ar_uL, zs_uL, al_uL, kd_uR, ln_uR, fd_uR, ai_uR, al_uR, zs_uR, ar_uR, true_and, and_true, Option.toList_some, Option.toList_none, List.cons_append, List.nil_append, catS_nil, catS_int, catS_ref, catS_null, catS_long, cat_int, cat_ref, cat_null, Nat.reduceEqDiff, Nat.reduceLeDiff, Nat.reduceAdd, false_and, and_false, if_false, if_true, ite_true, ite_false, true_or, or_true, false_or, or_false, and_self, forall_const, true_implies, reduceCtorEq, clr_int, clr_ref, clr_null, clr_none, clr_long, va_rf_some, va_rf_none, rk1, at1]
      refine ⟨fun q => absurd q (by decide), fun _ => sp_R_look hP1 (by omega) ?_⟩
      simp only [↓s_158_69, ↓s_158_71, ↓s_158_74, ↓s_158_75, ↓s_158_76, ↓s_158_79, kd_uF, ln_uF, ai_uF, al_uF, ar_uF, zs_uF, fd_uF, kd_uA, ln_uA, fd_uA, al_uA, ar_uA, zs_uA, ai_uA, kd_uL, ln_uL, fd_uL, ai_uL, ar_uL, zs_uL, al_uL, kd_uR, ln_uR, fd_uR, ai_uR, al_uR, zs_uR, ar_uR, true_and, and_true, Option.toList_some, Option.toList_none, List.cons_append, List.nil_append, catS_nil, catS_int, catS_ref, catS_null, catS_long, cat_int, cat_ref, cat_null, Nat.reduceEqDiff, Nat.reduceLeDiff, Nat.reduceAdd, false_and, and_false, if_false, if_true, ite_true, ite_false, true_or, or_true, false_or, or_false, and_self, forall_const, true_implies, reduceCtorEq, clr_int, clr_ref, clr_null, clr_none, clr_long, va_rf_some, va_rf_none, rk1, at1]
      rw [show (43 : Int32) = nI 43 from rfl, nI_eq (by omega) (by decide)]
      refine ⟨fun y => go (isPM_iff.mpr (Or.inl y)), fun y => sp_R_look hP1 (by omega) ?_⟩
      simp only [↓s_158_82, ↓s_158_84, kd_uF, ln_uF, ai_uF, al_uF, ar_uF, zs_uF, fd_uF, kd_uA, ln_uA, fd_uA, al_uA, ar_uA, zs_uA, ai_uA, kd_uL, ln_uL, fd_uL, ai_uL, ar_uL, zs_uL, al_uL, kd_uR, ln_uR, fd_uR, ai_uR, al_uR, zs_uR, ar_uR, true_and, and_true, Option.toList_some, Option.toList_none, List.cons_append, List.nil_append, catS_nil, catS_int, catS_ref, catS_null, catS_long, cat_int, cat_ref, cat_null, Nat.reduceEqDiff, Nat.reduceLeDiff, Nat.reduceAdd, false_and, and_false, if_false, if_true, ite_true, ite_false, true_or, or_true, false_or, or_false, and_self, forall_const, true_implies, reduceCtorEq, clr_int, clr_ref, clr_null, clr_none, clr_long, va_rf_some, va_rf_none]
      rw [show (45 : Int32) = nI 45 from rfl, nI_eq (by omega) (by decide)]
      refine ⟨fun y2 => done ?_, fun y2 => go (isPM_iff.mpr (Or.inr y2))⟩
      cases z : isPM (lk T e q) with
      | false => rfl
      | true => rcases isPM_iff.mp z with y3 | y3 <;> contradiction
  -- the first term
  have hm := mP_b (T := T) hpe
  have j53 : ∀ (w1 : aw) (M : Option Value) (s : Int32), s = sgn (lk T e p == 45) → RQ w1 m T e t dot (mP T e p) → FrA w w1 m → RV w1 m (some 0) → wp (d + 4) 158 Q 53 [some (.ref m), M, none] [.int s, .ref m] w1 0 0 := by
    intro w1 M s hs hq f1 g1
    subst hs
    have rk1 := hq.1.1.1
    obtain ⟨k, hk⟩ : ∃ k, e + 1 - mP T e p = k + 1 := ⟨e - mP T e p, by omega⟩
    have eS' : eS T e p = match tS T e (mP T e p) with | none => none | some q_1 => if isPM (lk T e q_1) = true then xS T e k (q_1 + 1) else some q_1 := by unfold eS; rw [hk]; rfl
    have eV' : eV T e t dot p = match tS T e (mP T e p) with | none => none | some q_1 => if isPM (lk T e q_1) = true then xV T e t dot k (q_1 + 1) (lk T e q_1 == 45) (comb (lk T e p == 45) (some 0) (tV T e t dot (mP T e p))) else comb (lk T e p == 45) (some 0) (tV T e t dot (mP T e p)) := by unfold eV; rw [hk]; rfl
    simp only [↓s_158_53, kd_uF, ln_uF, ai_uF, al_uF, ar_uF, zs_uF, fd_uF, kd_uA, ln_uA, fd_uA, al_uA, ar_uA, zs_uA, ai_uA, kd_uL, ln_uL, fd_uL, ai_uL, ar_uL, zs_uL, al_uL, kd_uR, ln_uR, fd_uR, ai_uR, al_uR, zs_uR, ar_uR, true_and, and_true, Option.toList_some, Option.toList_none, List.cons_append, List.nil_append, catS_nil, catS_int, catS_ref, catS_null, catS_long, cat_int, cat_ref, cat_null, Nat.reduceEqDiff, Nat.reduceLeDiff, Nat.reduceAdd, false_and, and_false, if_false, if_true, ite_true, ite_false, true_or, or_true, false_or, or_false, and_self, forall_const, true_implies, reduceCtorEq, clr_int, clr_ref, clr_null, clr_none, clr_long, va_rf_some, va_rf_none, rk1]
    refine sp_R_term hq.1 hq.2.1 hN hq.2.2 hd g1 (fun r w2 b1 b2 b3 b4 => ?_) (fun b1 => ?_)
    · have hb := tS_b b1
      simp only [↓s_158_56, kd_uF, ln_uF, ai_uF, al_uF, ar_uF, zs_uF, fd_uF, kd_uA, ln_uA, fd_uA, al_uA, ar_uA, zs_uA, ai_uA, kd_uL, ln_uL, fd_uL, ai_uL, ar_uL, zs_uL, al_uL, kd_uR, ln_uR, fd_uR, ai_uR, al_uR, zs_uR, ar_uR, true_and, and_true, Option.toList_some, Option.toList_none, List.cons_append, List.nil_append, catS_nil, catS_int, catS_ref, catS_null, catS_long, cat_int, cat_ref, cat_null, Nat.reduceEqDiff, Nat.reduceLeDiff, Nat.reduceAdd, false_and, and_false, if_false, if_true, ite_true, ite_false, true_or, or_true, false_or, or_false, and_self, forall_const, true_implies, reduceCtorEq, clr_int, clr_ref, clr_null, clr_none, clr_long, va_rf_some, va_rf_none]
      refine lp k r _ _ w2 (by omega) (hq.A b3 b2) (f1.tr b3) b4 ?_ ?_
      · rw [eS', b1]
      · rw [eV', b1]
    · simp only [↓s_158_56, kd_uF, ln_uF, ai_uF, al_uF, ar_uF, zs_uF, fd_uF, kd_uA, ln_uA, fd_uA, al_uA, ar_uA, zs_uA, ai_uA, kd_uL, ln_uL, fd_uL, ai_uL, ar_uL, zs_uL, al_uL, kd_uR, ln_uR, fd_uR, ai_uR, al_uR, zs_uR, ar_uR, true_and, and_true, Option.toList_some, Option.toList_none, List.cons_append, List.nil_append, catS_nil, catS_int, catS_ref, catS_null, catS_long, cat_int, cat_ref, cat_null, Nat.reduceEqDiff, Nat.reduceLeDiff, Nat.reduceAdd, false_and, and_false, if_false, if_true, ite_true, ite_false, true_or, or_true, false_or, or_false, and_self, forall_const, true_implies, reduceCtorEq, clr_int, clr_ref, clr_null, clr_none, clr_long, va_rf_some, va_rf_none]
      exact j125 _ _ (by rw [eS', b1]) ⟨_, hq.1⟩ f1
  have f0 : FrA w (uF (uF w 557 m (.int 0)) 558 m (.int 1)) m := (FrA.rf.F (Or.inr (Or.inl rfl))).F (Or.inr (Or.inr rfl))
  have hPx := f0.P hP (q := p) at' hpe
  have hqx := hQ.A f0 hPx
  have gx : RV (uF (uF w 557 m (.int 0)) 558 m (.int 1)) m (some 0) := ⟨0, by decide, by rw [fd_uF, if_neg (fun q => absurd q.1 (by decide)), fd_uF, if_pos ⟨rfl, rfl⟩]; rfl, by rw [fd_uF, if_pos ⟨rfl, rfl⟩]; rfl, fun v hv => by cases hv; rfl⟩
  simp only [↓s_158_0, ↓s_158_1, ↓s_158_2, ↓s_158_5, ↓s_158_6, ↓s_158_7, ↓s_158_10, ↓s_158_11, ↓s_158_12, ↓s_158_15, kd_uF, ln_uF, ai_uF, al_uF, ar_uF, zs_uF, fd_uF, kd_uA, ln_uA, fd_uA, al_uA, ar_uA, zs_uA, ai_uA, kd_uL, ln_uL, fd_uL, ai_uL, ar_uL, zs_uL, al_uL, kd_uR, ln_uR, fd_uR, ai_uR, al_uR, zs_uR, ar_uR, true_and, and_true, Option.toList_some, Option.toList_none, List.cons_append, List.nil_append, catS_nil, catS_int, catS_ref, catS_null, catS_long, cat_int, cat_ref, cat_null, Nat.reduceEqDiff, Nat.reduceLeDiff, Nat.reduceAdd, false_and, and_false, if_false, if_true, ite_true, ite_false, true_or, or_true, false_or, or_false, and_self, forall_const, true_implies, reduceCtorEq, clr_int, clr_ref, clr_null, clr_none, clr_long, va_rf_some, va_rf_none, rk, at']
  refine ⟨ok_z1, sp_R_look hPx (by omega) ?_⟩
  simp only [↓s_158_18, ↓s_158_20, ↓s_158_23, ↓s_158_24, ↓s_158_27, ↓s_158_28, ↓s_158_29, ↓s_158_30, ↓s_158_33, ↓s_158_34, ↓s_158_35, ↓s_158_38, ↓s_158_39, ↓s_158_40, kd_uF, ln_uF, ai_uF, al_uF, ar_uF, zs_uF, fd_uF, kd_uA, ln_uA, fd_uA, al_uA, ar_uA, zs_uA, ai_uA, kd_uL, ln_uL, fd_uL, ai_uL, ar_uL, zs_uL, al_uL, kd_uR, ln_uR, fd_uR, ai_uR, al_uR, zs_uR, ar_uR, true_and, and_true, Option.toList_some, Option.toList_none, List.cons_append, List.nil_append, catS_nil, catS_int, catS_ref, catS_null, catS_long, cat_int, cat_ref, cat_null, Nat.reduceEqDiff, Nat.reduceLeDiff, Nat.reduceAdd, false_and, and_false, if_false, if_true, ite_true, ite_false, true_or, or_true, false_or, or_false, and_self, forall_const, true_implies, reduceCtorEq, clr_int, clr_ref, clr_null, clr_none, clr_long, va_rf_some, va_rf_none]
  rw [show (45 : Int32) = nI 45 from rfl, nI_eq (by omega) (by decide)]
  refine ⟨fun y => ⟨?_, fun q => absurd trivial q⟩, fun y => ⟨fun q => absurd q (by decide), fun _ => ?_⟩⟩
  · have em : mP T e p = p := if_neg y
    simp only [↓s_158_43, ↓s_158_44, ↓s_158_45, ↓s_158_48, ↓s_158_49, ↓s_158_52, kd_uF, ln_uF, ai_uF, al_uF, ar_uF, zs_uF, fd_uF, kd_uA, ln_uA, fd_uA, al_uA, ar_uA, zs_uA, ai_uA, kd_uL, ln_uL, fd_uL, ai_uL, ar_uL, zs_uL, al_uL, kd_uR, ln_uR, fd_uR, ai_uR, al_uR, zs_uR, ar_uR, true_and, and_true, Option.toList_some, Option.toList_none, List.cons_append, List.nil_append, catS_nil, catS_int, catS_ref, catS_null, catS_long, cat_int, cat_ref, cat_null, Nat.reduceEqDiff, Nat.reduceLeDiff, Nat.reduceAdd, false_and, and_false, if_false, if_true, ite_true, ite_false, true_or, or_true, false_or, or_false, and_self, forall_const, true_implies, reduceCtorEq, clr_int, clr_ref, clr_null, clr_none, clr_long, va_rf_some, va_rf_none, rk]
    refine ⟨?_, fun q => absurd trivial q⟩
    have := j53 _ (some (.int 0)) 1 (by unfold sgn; rw [if_neg (by simp [y])]) (by rw [em]; exact hqx) f0 gx
    exact this
  · have em : mP T e p = p + 1 := if_pos y
    have hpl : p < e := lk_pos (T := T) (by rw [y]; decide)
    have hP2 := hPx.at_ (q := p + 1) (by omega)
    have f2 := f0.F (g := 555) (v := .int (nI (p + 1))) (Or.inl rfl)
    simp only [↓s_158_33, ↓s_158_34, ↓s_158_35, ↓s_158_38, ↓s_158_39, ↓s_158_40, ↓s_158_43, ↓s_158_44, ↓s_158_45, ↓s_158_48, ↓s_158_49, ↓s_158_52, kd_uF, ln_uF, ai_uF, al_uF, ar_uF, zs_uF, fd_uF, kd_uA, ln_uA, fd_uA, al_uA, ar_uA, zs_uA, ai_uA, kd_uL, ln_uL, fd_uL, ai_uL, ar_uL, zs_uL, al_uL, kd_uR, ln_uR, fd_uR, ai_uR, al_uR, zs_uR, ar_uR, true_and, and_true, Option.toList_some, Option.toList_none, List.cons_append, List.nil_append, catS_nil, catS_int, catS_ref, catS_null, catS_long, cat_int, cat_ref, cat_null, Nat.reduceEqDiff, Nat.reduceLeDiff, Nat.reduceAdd, false_and, and_false, if_false, if_true, ite_true, ite_false, true_or, or_true, false_or, or_false, and_self, forall_const, true_implies, reduceCtorEq, clr_int, clr_ref, clr_null, clr_none, clr_long, va_rf_some, va_rf_none, rk, at']
    rw [nI_1]
    refine ⟨fun q => absurd q (by decide), fun _ => ?_⟩
    exact j53 _ (some (.int 1)) (-1) (by unfold sgn; rw [if_pos (by simp [y])]) (by rw [em]; exact hQ.A f2 hP2) f2 gx
theorem sp_R_ends {d : Nat} {w : aw} {m e p : Nat} {T : Nat → Nat} {Q : wQ} (hP : RP w m T e p) (h1 : e ≤ bE T e p → ∀ w', FrA w w' m → Q (some (.int 1)) w') (h2 : ¬ e ≤ bE T e p → ∀ w', FrA w w' m → Q (some (.int 0)) w') : wpD (d + 2) 159 [.ref m] w Q := by
  refine ⟨Nat.le_of_ble_eq_true rfl, ?_⟩
  show wp (d + 1) 159 Q 0 [some (.ref m)] [] w 0 0
  have rk := hP.1.1
  have he := hP.2.2.2.2.1
  simp only [↓s_159_0, ↓s_159_1, kd_uF, ln_uF, ai_uF, al_uF, ar_uF, zs_uF, fd_uF, kd_uA, ln_uA, fd_uA, al_uA, ar_uA, zs_uA, ai_uA, kd_uL, ln_uL, fd_uL, ai_uL, ar_uL, zs_uL, al_uL, kd_uR, ln_uR, fd_uR, ai_uR, al_uR, zs_uR, ar_uR, true_and, and_true, Option.toList_some, Option.toList_none, List.cons_append, List.nil_append, catS_nil, catS_int, catS_ref, catS_null, catS_long, cat_int, cat_ref, cat_null, Nat.reduceEqDiff, Nat.reduceLeDiff, Nat.reduceAdd, false_and, and_false, if_false, if_true, ite_true, ite_false, true_or, or_true, false_or, or_false, and_self, forall_const, true_implies, reduceCtorEq, clr_int, clr_ref, clr_null, clr_none, clr_long, va_rf_some, va_rf_none, rk]
  refine sp_R_blanks hP (fun w1 g1 f1 _ => ?_)
  have rk1 := g1.1.1
  have at1 := g1.2.2.2.1
  have st1 := g1.2.2.1
  have hl := g1.2.2.2.2.2.2
  simp only [↓s_159_4, ↓s_159_5, ↓s_159_8, ↓s_159_9, ↓s_159_12, ↓s_159_15, ↓s_159_16, ↓s_159_19, ↓s_159_20, kd_uF, ln_uF, ai_uF, al_uF, ar_uF, zs_uF, fd_uF, kd_uA, ln_uA, fd_uA, al_uA, ar_uA, zs_uA, ai_uA, kd_uL, ln_uL, fd_uL, ai_uL, ar_uL, zs_uL, al_uL, kd_uR, ln_uR, fd_uR, ai_uR, al_uR, zs_uR, ar_uR, true_and, and_true, Option.toList_some, Option.toList_none, List.cons_append, List.nil_append, catS_nil, catS_int, catS_ref, catS_null, catS_long, cat_int, cat_ref, cat_null, Nat.reduceEqDiff, Nat.reduceLeDiff, Nat.reduceAdd, false_and, and_false, if_false, if_true, ite_true, ite_false, true_or, or_true, false_or, or_false, and_self, forall_const, true_implies, reduceCtorEq, clr_int, clr_ref, clr_null, clr_none, clr_long, va_rf_some, va_rf_none, rk1, at1, st1]
  rw [nI_ltI (by omega) (by omega)]
  exact ⟨fun q => ⟨rfl, h2 (by omega) w1 f1⟩, fun q => ⟨rfl, h1 (by omega) w1 f1⟩⟩
theorem eOK_iff {T : Nat → Nat} {e : Nat} {o : Option Nat} : eOK T e o = true ↔ ∃ q, o = some q ∧ e ≤ bE T e q := by
  unfold eOK
  cases o with
  | none => simp
  | some q => simp
theorem lOK_iff {T : Nat → Nat} {e : Nat} {o : Option Nat} : lOK T e o = true ↔ ∃ q, o = some q ∧ e ≤ bE T e (cPar T e q) := by
  unfold lOK
  cases o with
  | none => simp
  | some q => simp
