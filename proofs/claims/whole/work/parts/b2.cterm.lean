def bI (b : Bool) : Int32 := if b = true then 1 else 0
theorem bI_ok (b : Bool) : okv .boolean (.int (bI b)) := by cases b <;> exact ⟨rfl, rfl⟩
theorem bI_or (a b : Bool) : bI a ||| bI b = bI (a || b) := by cases a <;> cases b <;> decide
theorem bI_0 : (0 : Int32) = bI false := rfl
theorem bI_1 : (1 : Int32) = bI true := rfl
def CQ (w : aw) (x : Nat) (T : Nat → Nat) (n e : Nat) (t : nt) (dot p : Nat) : Prop := SR w x T n e ∧ CB w x t ∧ fd w 260 (x + 11) = .int (nI dot) ∧ fd w 258 (x + 11) = .int (nI p)
theorem CQ.B {w w' : aw} {x n e dot p q : Nat} {T : Nat → Nat} {t : nt} (h : CQ w x T n e t dot p) (hF : FrB w w' x) (ha : fd w' 258 (x + 11) = .int (nI q)) : CQ w' x T n e t dot q :=
  ⟨hF.S h.1, h.2.1.Fr hF.1 (Or.inl (by omega)), (hF.2 _ (by decide) (by decide) (by decide)).trans h.2.2.1, ha⟩
theorem sp_c_number {d : Nat} {w : aw} {x n e p dot : Nat} {T : Nat → Nat} {t : nt} {Q : wQ} (hQ : CQ w x T n e t dot p) (hw : p < wE T e p) (hp : p ≤ e) (hB : fd w 267 (x + 11) = .int 0) (h1 : wE T e p ≤ p + 4 → isO T p (wE T e p - p) = true → ∀ w', CQ w' x T n e t dot (wE T e p) → FrB w w' x → fd w' 267 (x + 11) = .int 0 → fd w' 268 (x + 11) = fd w 268 (x + 11) → Q (some (.int (nI (oct T p (wE T e p - p))))) w') (h2 : ¬ (wE T e p ≤ p + 4 ∧ isO T p (wE T e p - p) = true) → ∀ w' v, CQ w' x T n e t dot (wE T e p) → FrB w w' x → fd w' 267 (x + 11) = .int 1 → Q (some (.int v)) w') : wpD (d + 2) 55 [.ref (x + 11), .int (nI (wE T e p))] w Q := by
  refine ⟨Nat.le_of_ble_eq_true rfl, ?_⟩
  show wp (d + 1) 55 Q 0 [some (.ref (x + 11)), some (.int (nI (wE T e p))), none, none, none] [] w 0 0
  have hS := hQ.1
  have at0 := hQ.2.2.2
  have hT := hS.2.2.2.2.2.2.2.2.2.2.2.2
  have hen := hS.2.2.2.2.2.2.2.2.2.2.1
  have hn8 := hS.2.2.2.2.2.2.2.2.2.2.2.1
  have rk := hS.1
  have hwl := wE_le (T := T) hp
  have j88 : ∀ (w1 : aw) (v : Int32) (A B : Option Value), FrB w w1 x → (∀ w', CQ w' x T n e t dot (wE T e p) → FrB w w' x → fd w' 267 (x + 11) = fd w1 267 (x + 11) → fd w' 268 (x + 11) = fd w1 268 (x + 11) → Q (some (.int v)) w') → wp (d + 1) 55 Q 88 [some (.ref (x + 11)), some (.int (nI (wE T e p))), some (.int v), A, B] [] w1 0 0 := by
    intro w1 v A B f1 hh
    have rk1 := (f1.S hS).1
    simp only [↓s_55_88, ↓s_55_89, ↓s_55_90, ↓s_55_93, ↓s_55_94, kd_uF, ln_uF, ai_uF, al_uF, ar_uF, zs_uF, fd_uF, kd_uA, ln_uA, fd_uA, al_uA, ar_uA, zs_uA, ai_uA, kd_uL, ln_uL, fd_uL, ai_uL, ar_uL, zs_uL, al_uL, kd_uR, ln_uR, fd_uR, ai_uR, al_uR, zs_uR, ar_uR, true_and, and_true, Option.toList_some, Option.toList_none, List.cons_append, List.nil_append, catS_nil, catS_int, catS_ref, catS_null, catS_long, cat_int, cat_ref, cat_null, Nat.reduceEqDiff, Nat.reduceLeDiff, Nat.reduceAdd, false_and, and_false, if_false, if_true, ite_true, ite_false, true_or, or_true, false_or, or_false, and_self, forall_const, true_implies, reduceCtorEq, clr_int, clr_ref, clr_null, clr_none, clr_long, va_rf_some, va_rf_none, rk1]
    exact hh _ (hQ.B (f1.F (Or.inl rfl)) (by rw [fd_uF, if_pos ⟨rfl, rfl⟩])) (f1.F (Or.inl rfl)) (by rw [fd_uF, if_neg (fun q => absurd q.1 (by decide))]) (by rw [fd_uF, if_neg (fun q => absurd q.1 (by decide))])
  have bad : ∀ (w1 : aw) (v : Int32) (i : Nat) (B : Option Value), FrB w w1 x → fd w1 267 (x + 11) = .int 1 → ¬ (wE T e p ≤ p + 4 ∧ isO T p (wE T e p - p) = true) → i ≤ wE T e p - p → wp (d + 1) 55 Q 31 [some (.ref (x + 11)), some (.int (nI (wE T e p))), some (.int v), some (.int (nI (p + i))), B] [] w1 0 0 := by
    intro w1 v i B f1 b1 hno hi
    have rk1 := (f1.S hS).1
    have e0 := j88 w1 v (some (.int (nI (p + i)))) B f1 (fun w' g1 g2 g3 _ => h2 hno w' v g1 g2 (g3.trans b1))
    rw [s_55_31]
    simp only [↓s_55_32, ↓s_55_33, ↓s_55_36, ↓s_55_37, ↓s_55_40, kd_uF, ln_uF, ai_uF, al_uF, ar_uF, zs_uF, fd_uF, kd_uA, ln_uA, fd_uA, al_uA, ar_uA, zs_uA, ai_uA, kd_uL, ln_uL, fd_uL, ai_uL, ar_uL, zs_uL, al_uL, kd_uR, ln_uR, fd_uR, ai_uR, al_uR, zs_uR, ar_uR, true_and, and_true, Option.toList_some, Option.toList_none, List.cons_append, List.nil_append, catS_nil, catS_int, catS_ref, catS_null, catS_long, cat_int, cat_ref, cat_null, Nat.reduceEqDiff, Nat.reduceLeDiff, Nat.reduceAdd, false_and, and_false, if_false, if_true, ite_true, ite_false, true_or, or_true, false_or, or_false, and_self, forall_const, true_implies, reduceCtorEq, clr_int, clr_ref, clr_null, clr_none, clr_long, va_rf_some, va_rf_none, rk1, b1]
    exact ⟨fun _ => e0, fun _ => ⟨fun _ => e0, fun q => absurd q (by decide)⟩⟩
  have lp : ∀ (j i : Nat) (w1 : aw) (B : Option Value), i + j = wE T e p - p → wE T e p ≤ p + 4 → isO T p i = true → FrB w w1 x → fd w1 267 (x + 11) = .int 0 → fd w1 268 (x + 11) = fd w 268 (x + 11) → wp (d + 1) 55 Q 31 [some (.ref (x + 11)), some (.int (nI (wE T e p))), some (.int (nI (oct T p i))), some (.int (nI (p + i))), B] [] w1 0 0 := by
    intro j
    induction j with
    | zero =>
      intro i w1 B hi h4 ho f1 b1 u1
      have ei : wE T e p - p = i := by omega
      have e0 := j88 w1 (nI (oct T p i)) (some (.int (nI (p + i)))) B f1 (fun w' g1 g2 g3 g4 => by have := h1 h4 (by rw [ei]; exact ho) w' g1 g2 (g3.trans b1) (g4.trans u1); rw [ei] at this; exact this)
      rw [s_55_31]
      simp only [↓s_55_32, ↓s_55_33, kd_uF, ln_uF, ai_uF, al_uF, ar_uF, zs_uF, fd_uF, kd_uA, ln_uA, fd_uA, al_uA, ar_uA, zs_uA, ai_uA, kd_uL, ln_uL, fd_uL, ai_uL, ar_uL, zs_uL, al_uL, kd_uR, ln_uR, fd_uR, ai_uR, al_uR, zs_uR, ar_uR, true_and, and_true, Option.toList_some, Option.toList_none, List.cons_append, List.nil_append, catS_nil, catS_int, catS_ref, catS_null, catS_long, cat_int, cat_ref, cat_null, Nat.reduceEqDiff, Nat.reduceLeDiff, Nat.reduceAdd, false_and, and_false, if_false, if_true, ite_true, ite_false, true_or, or_true, false_or, or_false, and_self, forall_const, true_implies, reduceCtorEq, clr_int, clr_ref, clr_null, clr_none, clr_long, va_rf_some, va_rf_none]
      exact ⟨fun _ => e0, fun q => absurd (nI_le (by omega) (by omega)) q⟩
    | succ j ih =>
      intro i w1 B hi h4 ho f1 b1 u1
      have hS1 := f1.S hS
      have rk1 := hS1.1
      have hwi := wE_in (T := T) (e := e) (p := p) (i := i) (by omega)
      have hc := hT (p + i)
      have h48 : 48 ≤ T (p + i) := by rw [isW_iff] at hwi; omega
      rw [s_55_31]
      simp only [↓s_55_32, ↓s_55_33, ↓s_55_36, ↓s_55_37, ↓s_55_40, ↓s_55_43, ↓s_55_44, ↓s_55_45, kd_uF, ln_uF, ai_uF, al_uF, ar_uF, zs_uF, fd_uF, kd_uA, ln_uA, fd_uA, al_uA, ar_uA, zs_uA, ai_uA, kd_uL, ln_uL, fd_uL, ai_uL, ar_uL, zs_uL, al_uL, kd_uR, ln_uR, fd_uR, ai_uR, al_uR, zs_uR, ar_uR, true_and, and_true, Option.toList_some, Option.toList_none, List.cons_append, List.nil_append, catS_nil, catS_int, catS_ref, catS_null, catS_long, cat_int, cat_ref, cat_null, Nat.reduceEqDiff, Nat.reduceLeDiff, Nat.reduceAdd, false_and, and_false, if_false, if_true, ite_true, ite_false, true_or, or_true, false_or, or_false, and_self, forall_const, true_implies, reduceCtorEq, clr_int, clr_ref, clr_null, clr_none, clr_long, va_rf_some, va_rf_none, rk1, b1]
      refine ⟨fun q => absurd q (nI_ge (by omega) (by omega)), fun _ => ⟨fun q => absurd trivial q, sp_c_look hS1 (by omega) ?_⟩⟩
      rw [show lkI T e (p + i) = nI (T (p + i)) from if_pos (by omega)]
      simp only [↓s_55_48, ↓s_55_50, ↓s_55_51, ↓s_55_53, ↓s_55_54, ↓s_55_56, ↓s_55_59, ↓s_55_61, ↓s_55_63, ↓s_55_66, ↓s_55_67, ↓s_55_70, ↓s_55_71, ↓s_55_74, ↓s_55_75, ↓s_55_77, ↓s_55_78, ↓s_55_80, ↓s_55_81, ↓s_55_82, ↓s_55_85, kd_uF, ln_uF, ai_uF, al_uF, ar_uF, zs_uF, fd_uF, kd_uA, ln_uA, fd_uA, al_uA, ar_uA, zs_uA, ai_uA, kd_uL, ln_uL, fd_uL, ai_uL, ar_uL, zs_uL, al_uL, kd_uR, ln_uR, fd_uR, ai_uR, al_uR, zs_uR, ar_uR, true_and, and_true, Option.toList_some, Option.toList_none, List.cons_append, List.nil_append, catS_nil, catS_int, catS_ref, catS_null, catS_long, cat_int, cat_ref, cat_null, Nat.reduceEqDiff, Nat.reduceLeDiff, Nat.reduceAdd, false_and, and_false, if_false, if_true, ite_true, ite_false, true_or, or_true, false_or, or_false, and_self, forall_const, true_implies, reduceCtorEq, clr_int, clr_ref, clr_null, clr_none, clr_long, va_rf_some, va_rf_none, rk1]
      rw [show nI (T (p + i)) - 48 = nI (T (p + i) - 48) from pk_sub (b := 48) (by omega), show (7 : Int32) = nI 7 from rfl, nI_leI (by omega) (by decide), show (8 : Int32) = nI 8 from rfl, pk_mul, nI_add, nI_1]
      refine ⟨fun q => absurd q (nI_pos (by omega)), fun _ => ⟨fun q => ⟨bI_ok false, ?_⟩, fun q => ⟨bI_ok true, ?_⟩⟩⟩
      · exact ih (i + 1) _ _ (by omega) h4 (by show (isO T p i && decide (48 ≤ T (p + i) ∧ T (p + i) ≤ 55)) = true; rw [ho, Bool.true_and]; exact decide_eq_true ⟨h48, by omega⟩) (f1.F (Or.inr (Or.inl rfl))) (by rw [fd_uF, if_pos ⟨rfl, rfl⟩]) (by rw [fd_uF, if_neg (fun q => absurd q.1 (by decide))]; exact u1)
      · refine bad _ _ (i + 1) _ (f1.F (Or.inr (Or.inl rfl))) (by rw [fd_uF, if_pos ⟨rfl, rfl⟩]) (fun z => ?_) (by omega)
        have := isO_lt z.2 (show i < wE T e p - p by omega)
        omega
  have j20 : ∀ b : Bool, (b = decide (p + 4 < wE T e p)) → wp (d + 1) 55 Q 20 [some (.ref (x + 11)), some (.int (nI (wE T e p))), none, none, none] [.int (bI b), .int 0, .ref (x + 11)] w 0 0 := by
    intro b hb
    simp only [↓s_55_20, ↓s_55_21, ↓s_55_24, ↓s_55_25, ↓s_55_26, ↓s_55_27, ↓s_55_30, kd_uF, ln_uF, ai_uF, al_uF, ar_uF, zs_uF, fd_uF, kd_uA, ln_uA, fd_uA, al_uA, ar_uA, zs_uA, ai_uA, kd_uL, ln_uL, fd_uL, ai_uL, ar_uL, zs_uL, al_uL, kd_uR, ln_uR, fd_uR, ai_uR, al_uR, zs_uR, ar_uR, true_and, and_true, Option.toList_some, Option.toList_none, List.cons_append, List.nil_append, catS_nil, catS_int, catS_ref, catS_null, catS_long, cat_int, cat_ref, cat_null, Nat.reduceEqDiff, Nat.reduceLeDiff, Nat.reduceAdd, false_and, and_false, if_false, if_true, ite_true, ite_false, true_or, or_true, false_or, or_false, and_self, forall_const, true_implies, reduceCtorEq, clr_int, clr_ref, clr_null, clr_none, clr_long, va_rf_some, va_rf_none, rk, at0]
    rw [bI_0, bI_or, Bool.false_or]
    refine ⟨bI_ok b, ?_⟩
    cases b with
    | true =>
      have h5 : p + 4 < wE T e p := of_decide_eq_true hb.symm
      exact bad _ _ 0 _ (FrB.rf.F (Or.inr (Or.inl rfl))) (by rw [fd_uF, if_pos ⟨rfl, rfl⟩]; rfl) (fun z => by omega) (by omega)
    | false =>
      have h5 : ¬ p + 4 < wE T e p := of_decide_eq_false hb.symm
      exact lp (wE T e p - p) 0 _ _ (by omega) (by omega) rfl (FrB.rf.F (Or.inr (Or.inl rfl))) (by rw [fd_uF, if_pos ⟨rfl, rfl⟩]; rfl) (by rw [fd_uF, if_neg (fun q => absurd q.1 (by decide))])
  simp only [↓s_55_0, ↓s_55_1, ↓s_55_2, ↓s_55_5, ↓s_55_6, ↓s_55_7, ↓s_55_10, ↓s_55_11, ↓s_55_12, ↓s_55_15, ↓s_55_16, ↓s_55_19, kd_uF, ln_uF, ai_uF, al_uF, ar_uF, zs_uF, fd_uF, kd_uA, ln_uA, fd_uA, al_uA, ar_uA, zs_uA, ai_uA, kd_uL, ln_uL, fd_uL, ai_uL, ar_uL, zs_uL, al_uL, kd_uR, ln_uR, fd_uR, ai_uR, al_uR, zs_uR, ar_uR, true_and, and_true, Option.toList_some, Option.toList_none, List.cons_append, List.nil_append, catS_nil, catS_int, catS_ref, catS_null, catS_long, cat_int, cat_ref, cat_null, Nat.reduceEqDiff, Nat.reduceLeDiff, Nat.reduceAdd, false_and, and_false, if_false, if_true, ite_true, ite_false, true_or, or_true, false_or, or_false, and_self, forall_const, true_implies, reduceCtorEq, clr_int, clr_ref, clr_null, clr_none, clr_long, va_rf_some, va_rf_none, rk, at0, hB]
  rw [pk_sub (by omega), show (4 : Int32) = nI 4 from rfl, nI_leI (by omega) (by decide)]
  exact ⟨fun q => j20 false (by rw [decide_eq_false (by omega)]), fun q => j20 true (by rw [decide_eq_true (by omega)])⟩
theorem sp_c_term {d : Nat} {w : aw} {x n e p dot : Nat} {T : Nat → Nat} {t : nt} {U : Bool} {Q : wQ} (hQ : CQ w x T n e t dot p) (hN : TN t) (hp : p ≤ e) (hB : fd w 267 (x + 11) = .int 0) (hU : fd w 268 (x + 11) = .int (bI U)) (h1 : ∀ q w', tS T e p = some q → CQ w' x T n e t dot q → FrB w w' x → fd w' 267 (x + 11) = .int 0 → fd w' 268 (x + 11) = .int (bI (U || (tV T e t dot p).isNone)) → Q (some (.int (nI ((tV T e t dot p).getD 0)))) w') (h2 : tS T e p = none → ∀ w' q v, CQ w' x T n e t dot q → q ≤ e → FrB w w' x → fd w' 267 (x + 11) = .int 1 → Q (some (.int v)) w') : wpD (d + 3) 54 [.ref (x + 11)] w Q := by
  refine ⟨Nat.le_of_ble_eq_true rfl, ?_⟩
  show wp (d + 2) 54 Q 0 [some (.ref (x + 11)), none, none, none, none, none] [] w 0 0
  have hS := hQ.1
  have dt0 := hQ.2.2.1
  have at0 := hQ.2.2.2
  have hT := hS.2.2.2.2.2.2.2.2.2.2.2.2
  have hen := hS.2.2.2.2.2.2.2.2.2.2.1
  have hn8 := hS.2.2.2.2.2.2.2.2.2.2.2.1
  have rk := hS.1
  have nm0 := hS.2.2.1
  have hw := wE_ge (T := T) (e := e) (p := p)
  have hwl := wE_le (T := T) hp
  simp only [↓s_54_0, ↓s_54_1, ↓s_54_2, ↓s_54_5, kd_uF, ln_uF, ai_uF, al_uF, ar_uF, zs_uF, fd_uF, kd_uA, ln_uA, fd_uA, al_uA, ar_uA, zs_uA, ai_uA, kd_uL, ln_uL, fd_uL, ai_uL, ar_uL, zs_uL, al_uL, kd_uR, ln_uR, fd_uR, ai_uR, al_uR, zs_uR, ar_uR, true_and, and_true, Option.toList_some, Option.toList_none, List.cons_append, List.nil_append, catS_nil, catS_int, catS_ref, catS_null, catS_long, cat_int, cat_ref, cat_null, Nat.reduceEqDiff, Nat.reduceLeDiff, Nat.reduceAdd, false_and, and_false, if_false, if_true, ite_true, ite_false, true_or, or_true, false_or, or_false, and_self, forall_const, true_implies, reduceCtorEq, clr_int, clr_ref, clr_null, clr_none, clr_long, va_rf_some, va_rf_none, rk, at0]
  refine sp_c_look hS (by omega) ?_
  simp only [↓s_54_8, ↓s_54_9, ↓s_54_10, ↓s_54_12, ↓s_54_15, ↓s_54_16, ↓s_54_17, ↓s_54_20, ↓s_54_21, ↓s_54_22, ↓s_54_25, ↓s_54_26, ↓s_54_29, ↓s_54_30, ↓s_54_31, ↓s_54_32, ↓s_54_35, kd_uF, ln_uF, ai_uF, al_uF, ar_uF, zs_uF, fd_uF, kd_uA, ln_uA, fd_uA, al_uA, ar_uA, zs_uA, ai_uA, kd_uL, ln_uL, fd_uL, ai_uL, ar_uL, zs_uL, al_uL, kd_uR, ln_uR, fd_uR, ai_uR, al_uR, zs_uR, ar_uR, true_and, and_true, Option.toList_some, Option.toList_none, List.cons_append, List.nil_append, catS_nil, catS_int, catS_ref, catS_null, catS_long, cat_int, cat_ref, cat_null, Nat.reduceEqDiff, Nat.reduceLeDiff, Nat.reduceAdd, false_and, and_false, if_false, if_true, ite_true, ite_false, true_or, or_true, false_or, or_false, and_self, forall_const, true_implies, reduceCtorEq, clr_int, clr_ref, clr_null, clr_none, clr_long, va_rf_some, va_rf_none, rk, at0, dt0]
  rw [show (46 : Int32) = nI 46 from rfl, lkI_eq hT (by decide) (by decide), nI_1]
  refine ⟨fun q46 => sp_c_word hS (by omega) ?_, fun q46 => ?_⟩
  case' refine_2 =>
    have hv : tV T e t dot p = some dot := by unfold tV; rw [if_pos q46]
    have hs : tS T e p = some (p + 1) := by unfold tS; rw [if_pos q46]
    have := h1 (p + 1) (uF w 258 (x + 11) (.int (nI (p + 1)))) hs (hQ.B (FrB.rf.F (Or.inl rfl)) (by rw [fd_uF, if_pos ⟨rfl, rfl⟩])) (FrB.rf.F (Or.inl rfl)) (by rw [fd_uF, if_neg (fun q => absurd q.1 (by decide))]; exact hB) (by rw [fd_uF, if_neg (fun q => absurd q.1 (by decide)), hU, hv]; simp)
    rw [hv] at this
    exact this
  simp only [↓s_54_38, ↓s_54_39, ↓s_54_40, kd_uF, ln_uF, ai_uF, al_uF, ar_uF, zs_uF, fd_uF, kd_uA, ln_uA, fd_uA, al_uA, ar_uA, zs_uA, ai_uA, kd_uL, ln_uL, fd_uL, ai_uL, ar_uL, zs_uL, al_uL, kd_uR, ln_uR, fd_uR, ai_uR, al_uR, zs_uR, ar_uR, true_and, and_true, Option.toList_some, Option.toList_none, List.cons_append, List.nil_append, catS_nil, catS_int, catS_ref, catS_null, catS_long, cat_int, cat_ref, cat_null, Nat.reduceEqDiff, Nat.reduceLeDiff, Nat.reduceAdd, false_and, and_false, if_false, if_true, ite_true, ite_false, true_or, or_true, false_or, or_false, and_self, forall_const, true_implies, reduceCtorEq, clr_int, clr_ref, clr_null, clr_none, clr_long, va_rf_some, va_rf_none]
  refine sp_c_isD hT (fun qd => ?_) (fun qd => ?_)
  · -- a number
    have hd' := isD_iff.mp qd
    have hpe : p < e := lk_pos (T := T) (by omega)
    have nl : isL (lk T e p) = false := by
      cases c : isL (lk T e p) with
      | false => rfl
      | true => have := isL_iff.mp c; omega
    have hw1 : p < wE T e p := by
      have : isW (T p) = true := by rw [isW_lk hpe, qd, Bool.or_true]
      rw [wE_go hpe this]
      exact wE_ge
    have hs : tS T e p = if wE T e p = p ∨ p + 4 < wE T e p then none else if isO T p (wE T e p - p) = true then some (wE T e p) else none := by
      unfold tS; rw [if_neg q46, if_neg (by rw [nl]; decide)]
    have hv : tV T e t dot p = some (oct T p (wE T e p - p)) := by unfold tV; rw [if_neg q46, if_neg (by rw [nl]; decide)]
    simp only [↓s_54_43, ↓s_54_46, ↓s_54_47, ↓s_54_48, ↓s_54_52, ↓s_54_53, ↓s_54_54, ↓s_54_57, ↓s_54_58, kd_uF, ln_uF, ai_uF, al_uF, ar_uF, zs_uF, fd_uF, kd_uA, ln_uA, fd_uA, al_uA, ar_uA, zs_uA, ai_uA, kd_uL, ln_uL, fd_uL, ai_uL, ar_uL, zs_uL, al_uL, kd_uR, ln_uR, fd_uR, ai_uR, al_uR, zs_uR, ar_uR, true_and, and_true, Option.toList_some, Option.toList_none, List.cons_append, List.nil_append, catS_nil, catS_int, catS_ref, catS_null, catS_long, cat_int, cat_ref, cat_null, Nat.reduceEqDiff, Nat.reduceLeDiff, Nat.reduceAdd, false_and, and_false, if_false, if_true, ite_true, ite_false, true_or, or_true, false_or, or_false, and_self, forall_const, true_implies, reduceCtorEq, clr_int, clr_ref, clr_null, clr_none, clr_long, va_rf_some, va_rf_none, rk]
    refine ⟨fun q => absurd q (by decide), fun _ => sp_c_number hQ hw1 hp hB (fun g1 g2 w' c1 c2 c3 c4 => ?_) (fun g w' v c1 c2 c3 => ?_)⟩
    · simp only [↓s_54_51, kd_uF, ln_uF, ai_uF, al_uF, ar_uF, zs_uF, fd_uF, kd_uA, ln_uA, fd_uA, al_uA, ar_uA, zs_uA, ai_uA, kd_uL, ln_uL, fd_uL, ai_uL, ar_uL, zs_uL, al_uL, kd_uR, ln_uR, fd_uR, ai_uR, al_uR, zs_uR, ar_uR, true_and, and_true, Option.toList_some, Option.toList_none, List.cons_append, List.nil_append, catS_nil, catS_int, catS_ref, catS_null, catS_long, cat_int, cat_ref, cat_null, Nat.reduceEqDiff, Nat.reduceLeDiff, Nat.reduceAdd, false_and, and_false, if_false, if_true, ite_true, ite_false, true_or, or_true, false_or, or_false, and_self, forall_const, true_implies, reduceCtorEq, clr_int, clr_ref, clr_null, clr_none, clr_long, va_rf_some, va_rf_none]
      have := h1 _ w' (by rw [hs, if_neg (by omega), if_pos g2]) c1 c2 c3 (by rw [c4, hU, hv]; simp)
      rw [hv] at this
      exact this
    · simp only [↓s_54_51, kd_uF, ln_uF, ai_uF, al_uF, ar_uF, zs_uF, fd_uF, kd_uA, ln_uA, fd_uA, al_uA, ar_uA, zs_uA, ai_uA, kd_uL, ln_uL, fd_uL, ai_uL, ar_uL, zs_uL, al_uL, kd_uR, ln_uR, fd_uR, ai_uR, al_uR, zs_uR, ar_uR, true_and, and_true, Option.toList_some, Option.toList_none, List.cons_append, List.nil_append, catS_nil, catS_int, catS_ref, catS_null, catS_long, cat_int, cat_ref, cat_null, Nat.reduceEqDiff, Nat.reduceLeDiff, Nat.reduceAdd, false_and, and_false, if_false, if_true, ite_true, ite_false, true_or, or_true, false_or, or_false, and_self, forall_const, true_implies, reduceCtorEq, clr_int, clr_ref, clr_null, clr_none, clr_long, va_rf_some, va_rf_none]
      refine h2 ?_ w' _ v c1 hwl c2 c3
      rw [hs]
      by_cases z : p + 4 < wE T e p
      · rw [if_pos (Or.inr z)]
      · rw [if_neg (by omega), if_neg (fun y => g ⟨by omega, y⟩)]
  · simp only [↓s_54_43, ↓s_54_46, ↓s_54_47, ↓s_54_48, ↓s_54_52, ↓s_54_53, ↓s_54_54, ↓s_54_57, ↓s_54_58, kd_uF, ln_uF, ai_uF, al_uF, ar_uF, zs_uF, fd_uF, kd_uA, ln_uA, fd_uA, al_uA, ar_uA, zs_uA, ai_uA, kd_uL, ln_uL, fd_uL, ai_uL, ar_uL, zs_uL, al_uL, kd_uR, ln_uR, fd_uR, ai_uR, al_uR, zs_uR, ar_uR, true_and, and_true, Option.toList_some, Option.toList_none, List.cons_append, List.nil_append, catS_nil, catS_int, catS_ref, catS_null, catS_long, cat_int, cat_ref, cat_null, Nat.reduceEqDiff, Nat.reduceLeDiff, Nat.reduceAdd, false_and, and_false, if_false, if_true, ite_true, ite_false, true_or, or_true, false_or, or_false, and_self, forall_const, true_implies, reduceCtorEq, clr_int, clr_ref, clr_null, clr_none, clr_long, va_rf_some, va_rf_none, rk, at0]
    refine ⟨sp_c_key hS (by omega) ?_, fun q => absurd trivial q⟩
    simp only [↓s_54_61, ↓s_54_62, ↓s_54_63, ↓s_54_64, ↓s_54_65, ↓s_54_68, ↓s_54_69, ↓s_54_70, ↓s_54_73, ↓s_54_74, ↓s_54_75, ↓s_54_76, ↓s_54_77, ↓s_54_80, ↓s_54_81, ↓s_54_84, ↓s_54_85, kd_uF, ln_uF, ai_uF, al_uF, ar_uF, zs_uF, fd_uF, kd_uA, ln_uA, fd_uA, al_uA, ar_uA, zs_uA, ai_uA, kd_uL, ln_uL, fd_uL, ai_uL, ar_uL, zs_uL, al_uL, kd_uR, ln_uR, fd_uR, ai_uR, al_uR, zs_uR, ar_uR, true_and, and_true, Option.toList_some, Option.toList_none, List.cons_append, List.nil_append, catS_nil, catS_int, catS_ref, catS_null, catS_long, cat_int, cat_ref, cat_null, Nat.reduceEqDiff, Nat.reduceLeDiff, Nat.reduceAdd, false_and, and_false, if_false, if_true, ite_true, ite_false, true_or, or_true, false_or, or_false, and_self, forall_const, true_implies, reduceCtorEq, clr_int, clr_ref, clr_null, clr_none, clr_long, va_rf_some, va_rf_none, rk, lg_cmp_eq, nm0, hQ.2.1.1]
    rw [key_0]
    refine ⟨fun qn => ?_, fun qn => ⟨bI_ok true, ?_⟩⟩
    · -- a name
      have qn' : isN T e p = true := by simpa using qn
      obtain ⟨ql, q6⟩ := isN_iff.mp qn'
      have hK := nmK_ok (T := T) (e := e) (p := p)
      have hs : tS T e p = some (wE T e p) := by unfold tS; rw [if_neg q46, if_pos ql, if_pos q6]
      have hv : tV T e t dot p = vN (lu t (nmK T e p)) := by unfold tV nmK; rw [if_neg q46, if_pos ql, if_pos qn']
      have hQ1 : CQ (uF w 258 (x + 11) (.int (nI (wE T e p)))) x T n e t dot (wE T e p) := hQ.B (FrB.rf.F (Or.inl rfl)) (by rw [fd_uF, if_pos ⟨rfl, rfl⟩])
      refine sp_c_value hQ1.2.1 hN hK.1 hK.2 ?_
      have j106 : ∀ b : Bool, b = (tV T e t dot p).isNone → wp (d + 2) 54 Q 106 [some (.ref (x + 11)), some (.int (lkI T e p)), some (.int (nI (wE T e p))), some (.long (lN (b256 (nmK T e p)))), none, some (.int (oI (vN (lu t (nmK T e p)))))] [.int (bI b), .int (bI U), .ref (x + 11)] (uF w 258 (x + 11) (.int (nI (wE T e p)))) 0 0 := by
        intro b hb
        simp only [↓s_54_106, ↓s_54_107, ↓s_54_110, ↓s_54_112, ↓s_54_113, ↓s_54_116, ↓s_54_117, ↓s_54_120, ↓s_54_122, kd_uF, ln_uF, ai_uF, al_uF, ar_uF, zs_uF, fd_uF, kd_uA, ln_uA, fd_uA, al_uA, ar_uA, zs_uA, ai_uA, kd_uL, ln_uL, fd_uL, ai_uL, ar_uL, zs_uL, al_uL, kd_uR, ln_uR, fd_uR, ai_uR, al_uR, zs_uR, ar_uR, true_and, and_true, Option.toList_some, Option.toList_none, List.cons_append, List.nil_append, catS_nil, catS_int, catS_ref, catS_null, catS_long, cat_int, cat_ref, cat_null, Nat.reduceEqDiff, Nat.reduceLeDiff, Nat.reduceAdd, false_and, and_false, if_false, if_true, ite_true, ite_false, true_or, or_true, false_or, or_false, and_self, forall_const, true_implies, reduceCtorEq, clr_int, clr_ref, clr_null, clr_none, clr_long, va_rf_some, va_rf_none, rk]
        rw [bI_or]
        have fin := h1 (wE T e p) (uF (uF w 258 (x + 11) (.int (nI (wE T e p)))) 268 (x + 11) (.int (bI (U || b)))) hs (hQ.B ((FrB.rf.F (Or.inl rfl)).F (Or.inr (Or.inr rfl))) (by rw [fd_uF, if_neg (fun q => absurd q.1 (by decide)), fd_uF, if_pos ⟨rfl, rfl⟩])) ((FrB.rf.F (Or.inl rfl)).F (Or.inr (Or.inr rfl))) (by rw [fd_uF, if_neg (fun q => absurd q.1 (by decide)), fd_uF, if_neg (fun q => absurd q.1 (by decide))]; exact hB) (by rw [fd_uF, if_pos ⟨rfl, rfl⟩, hb])
        refine ⟨bI_ok _, fun q => ?_, fun q => ?_⟩
        · cases e : vN (lu t (nmK T e p)) with
          | none => rw [e] at q; exact absurd rfl q
          | some v => rw [hv, e] at fin; exact fin
        · cases e : vN (lu t (nmK T e p)) with
          | none => rw [hv, e] at fin; exact fin
          | some v =>
            rw [e] at q
            have hvl := tV_lt hN (dot := 0) (by decide) hs (v := v) (by unfold tV; rw [if_neg q46, if_pos ql]; unfold nmK at e; rw [if_pos qn'] at e; exact e)
            have := neg1_lt (c := v) (by omega)
            have q' : nI v = -1 := q
            rw [q'] at this
            exact absurd this (fun z => Int32.lt_irrefl z)
      have u1 : fd (uF w 258 (x + 11) (.int (nI (wE T e p)))) 268 (x + 11) = .int (bI U) := by rw [fd_uF, if_neg (fun q => absurd q.1 (by decide))]; exact hU
      simp only [↓s_54_88, ↓s_54_90, ↓s_54_91, ↓s_54_92, ↓s_54_95, ↓s_54_97, ↓s_54_98, ↓s_54_101, ↓s_54_102, ↓s_54_105, kd_uF, ln_uF, ai_uF, al_uF, ar_uF, zs_uF, fd_uF, kd_uA, ln_uA, fd_uA, al_uA, ar_uA, zs_uA, ai_uA, kd_uL, ln_uL, fd_uL, ai_uL, ar_uL, zs_uL, al_uL, kd_uR, ln_uR, fd_uR, ai_uR, al_uR, zs_uR, ar_uR, true_and, and_true, Option.toList_some, Option.toList_none, List.cons_append, List.nil_append, catS_nil, catS_int, catS_ref, catS_null, catS_long, cat_int, cat_ref, cat_null, Nat.reduceEqDiff, Nat.reduceLeDiff, Nat.reduceAdd, false_and, and_false, if_false, if_true, ite_true, ite_false, true_or, or_true, false_or, or_false, and_self, forall_const, true_implies, reduceCtorEq, clr_int, clr_ref, clr_null, clr_none, clr_long, va_rf_some, va_rf_none, rk, hU]
      refine ⟨fun q => j106 false ?_, fun q => j106 true ?_⟩
      · rw [hv]
        cases e : vN (lu t (nmK T e p)) with
        | none => rw [e] at q; exact absurd rfl q
        | some v => rfl
      · rw [hv]
        cases e : vN (lu t (nmK T e p)) with
        | none => rfl
        | some v =>
          rw [e] at q
          have hvl := tV_lt hN (dot := 0) (by decide) hs (v := v) (by unfold tV; rw [if_neg q46, if_pos ql]; unfold nmK at e; rw [if_pos qn'] at e; exact e)
          have := neg1_lt (c := v) (by omega)
          have q' : nI v = -1 := q
          rw [q'] at this
          exact absurd this (fun z => Int32.lt_irrefl z)
    · refine h2 ?_ _ p 0 (hQ.B (FrB.rf.F (Or.inr (Or.inl rfl))) (by rw [fd_uF, if_neg (fun q => absurd q.1 (by decide))]; exact at0)) hp (FrB.rf.F (Or.inr (Or.inl rfl))) (by rw [fd_uF, if_pos ⟨rfl, rfl⟩])
      unfold tS
      rw [if_neg q46]
      cases c : isL (lk T e p) with
      | true =>
        rw [if_pos rfl, if_neg (fun z => by rw [isN_iff.mpr ⟨c, z⟩] at qn; cases qn)]
      | false =>
        rw [if_neg (by decide), if_pos (Or.inl (wE_no (fun z => by rw [isW_lk z, c, qd]; rfl)))]
