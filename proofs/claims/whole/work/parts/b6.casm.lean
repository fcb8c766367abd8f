def SR0 (w : aw) (x : Nat) (T : Nat → Nat) (n : Nat) : Prop := kd w (x + 11) = 5 ∧ fd w 256 (x + 11) = .ref (x + 1) ∧ fd w 257 (x + 11) = .ref (x + 4) ∧ kd w (x + 1) = 6 ∧ fd w 320 (x + 1) = .ref (x + 2) ∧ kd w (x + 2) = 21 ∧ ln w (x + 2) = 8000 ∧ fd w 321 (x + 1) = .int (nI n) ∧ (∀ k, k < 8000 → ai w (x + 2) k &&& 255 = nI (T k)) ∧ n ≤ 8000 ∧ (∀ k, T k < 256)
theorem SR.S0 {w : aw} {x n e : Nat} {T : Nat → Nat} (h : SR w x T n e) : SR0 w x T n := by
  obtain ⟨a1, a2, a3, a4, a5, a6, a7, a8, a9, a10, a11, a12, a13⟩ := h
  exact ⟨a1, a2, a3, a4, a5, a6, a7, a8, a9, a12, a13⟩
theorem SR0.S {w : aw} {x n e : Nat} {T : Nat → Nat} (h : SR0 w x T n) (he : fd w 259 (x + 11) = .int (nI e)) (hen : e ≤ n) : SR w x T n e := by
  obtain ⟨a1, a2, a3, a4, a5, a6, a7, a8, a9, a12, a13⟩ := h
  exact ⟨a1, a2, a3, a4, a5, a6, a7, a8, a9, he, hen, a12, a13⟩
theorem SR0.kept {w w' : aw} {x n : Nat} {T : Nat → Nat} (h : SR0 w x T n) (hF : Fr w w' (x + 3) (x + 12)) (h1 : fd w' 256 (x + 11) = fd w 256 (x + 11)) (h2 : fd w' 257 (x + 11) = fd w 257 (x + 11)) : SR0 w' x T n := by
  obtain ⟨a1, a2, a3, a4, a5, a6, a7, a8, a9, a11⟩ := h
  have o1 := hF.2.2.2 (x + 1) (by omega)
  have o2 := hF.2.2.2 (x + 2) (by omega)
  exact ⟨(hF.1 _).trans a1, h1.trans a2, h2.trans a3, (hF.1 _).trans a4, (o1.1 _).trans a5, (hF.1 _).trans a6, (hF.2.1 _).trans a7, (o1.1 _).trans a8, fun k hk => by rw [o2.2.1]; exact a9 k hk, a11⟩
def ASh (w : aw) (x : Nat) : Prop := kd w (x + 3) = 1 ∧ fd w 0 (x + 3) = .ref (x + 1) ∧ fd w 1 (x + 3) = .ref (x + 4) ∧ fd w 2 (x + 3) = .ref (x + 11) ∧ fd w 3 (x + 3) = .ref (x + 7) ∧ fd w 4 (x + 3) = .ref (x + 8) ∧ fd w 5 (x + 3) = .ref (x + 9) ∧ fd w 7 (x + 3) = .ref (x + 10) ∧ kd w (x + 7) = 20 ∧ kd w (x + 8) = 23 ∧ kd w (x + 9) = 20 ∧ kd w (x + 10) = 20 ∧ ln w (x + 7) = 4096 ∧ ln w (x + 8) = 4096 ∧ ln w (x + 9) = 4096 ∧ ln w (x + 10) = 32
def ZA (w : aw) (x : Nat) (T : Nat → Nat) (n : Nat) : Prop := SR0 w x T n ∧ ASh w x
def FrX (w w' : aw) (x : Nat) : Prop := Fr w w' (x + 3) (x + 12) ∧ (∀ g, g ≠ 8 → g ≠ 6 → fd w' g (x + 3) = fd w g (x + 3)) ∧ fd w' 256 (x + 11) = fd w 256 (x + 11) ∧ fd w' 257 (x + 11) = fd w 257 (x + 11)
theorem FrX.rf {w : aw} {x : Nat} : FrX w w x := ⟨Fr.rf, fun _ _ _ => rfl, rfl, rfl⟩
theorem FrX.tr {w w1 w2 : aw} {x : Nat} (h : FrX w w1 x) (g : FrX w1 w2 x) : FrX w w2 x := ⟨h.1.tr g.1, fun k a b => (g.2.1 k a b).trans (h.2.1 k a b), g.2.2.1.trans h.2.2.1, g.2.2.2.trans h.2.2.2⟩
theorem FrX.Z {w w' : aw} {x n : Nat} {T : Nat → Nat} (hF : FrX w w' x) (h : ZA w x T n) : ZA w' x T n := by
  obtain ⟨h1, a0, a1, a2, a3, a4, a5, a6, a7, a8⟩ := h
  obtain ⟨f1, f2, f3, f4⟩ := hF
  refine ⟨h1.kept f1 f3 f4, (f1.1 _).trans a0, (f2 _ (by decide) (by decide)).trans a1, (f2 _ (by decide) (by decide)).trans a2, (f2 _ (by decide) (by decide)).trans a3, (f2 _ (by decide) (by decide)).trans a4, (f2 _ (by decide) (by decide)).trans a5, (f2 _ (by decide) (by decide)).trans a6, (f2 _ (by decide) (by decide)).trans a7, ?_⟩
  obtain ⟨b1, b2, b3, b4, b5, b6, b7, b8⟩ := a8
  exact ⟨(f1.1 _).trans b1, (f1.1 _).trans b2, (f1.1 _).trans b3, (f1.1 _).trans b4, (f1.2.1 _).trans b5, (f1.2.1 _).trans b6, (f1.2.1 _).trans b7, (f1.2.1 _).trans b8⟩
theorem FrX.ofR {w w' : aw} {x n e e' : Nat} {T : Nat → Nat} (hF : Fr w w' (x + 11) (x + 12)) (h : SR0 w x T n) (h' : SR w' x T n e') : FrX w w' x :=
  ⟨hF.wide (by omega) (by omega), fun g _ _ => (hF.2.2.2 (x + 3) (by omega)).1 g, h'.2.1.trans h.2.1.symm, h'.2.2.1.trans h.2.2.1.symm⟩
theorem FrX.ofN {w w' : aw} {x : Nat} (hF : Fr w w' (x + 4) (x + 7)) : FrX w w' x :=
  ⟨hF.wide (by omega) (by omega), fun g _ _ => (hF.2.2.2 (x + 3) (by omega)).1 g, (hF.2.2.2 (x + 11) (by omega)).1 _, (hF.2.2.2 (x + 11) (by omega)).1 _⟩
theorem FrX.D {w w' : aw} {x g : Nat} {v : Value} (h : FrX w w' x) (hg : g = 8 ∨ g = 6) : FrX w (uF w' g (x + 3) v) x :=
  ⟨h.1.F (by omega) (by omega), fun k a b => by rw [fd_uF, if_neg (fun q => by omega)]; exact h.2.1 k a b, by rw [fd_uF, if_neg (fun q => by omega)]; exact h.2.2.1, by rw [fd_uF, if_neg (fun q => by omega)]; exact h.2.2.2⟩
theorem FrX.A {w w' : aw} {x k i : Nat} {v : Int32} (h : FrX w w' x) (h1 : 7 ≤ k) (h2 : k ≤ 10) : FrX w (uA w' (x + k) i v) x :=
  ⟨h.1.A (by omega) (by omega), h.2.1, h.2.2.1, h.2.2.2⟩
def CW (w : aw) (x : Nat) (S : ps) : Prop := fd w 6 (x + 3) = .int (nI S.2.2.1.length) ∧ (∀ i, i < S.2.2.1.length → ai w (x + 9) i = nI (S.2.2.1.getD i 0)) ∧ (∀ a, a < 4096 → ai w (x + 8) a = if (S.2.1 a).isSome = true then 1 else 0) ∧ (∀ a v, S.2.1 a = some v → ai w (x + 7) a = nI v) ∧ ∀ g, g < 32 → ai w (x + 10) g = nI (S.2.2.2 g).length
theorem CW.kept {w w' : aw} {x : Nat} {S : ps} (h : CW w x S) (h1 : fd w' 6 (x + 3) = fd w 6 (x + 3)) (h2 : ∀ k i, 7 ≤ k → k ≤ 10 → ai w' (x + k) i = ai w (x + k) i) : CW w' x S := by
  obtain ⟨a, b, c, d, e⟩ := h
  exact ⟨h1.trans a, fun i hi => (h2 9 i (by decide) (by decide)).trans (b i hi), fun i hi => (h2 8 i (by decide) (by decide)).trans (c i hi), fun i v hi => (h2 7 i (by decide) (by decide)).trans (d i v hi), fun g hg => (h2 10 g (by decide) (by decide)).trans (e g hg)⟩
theorem CW.R {w w' : aw} {x lo hi : Nat} {S : ps} (h : CW w x S) (hF : Fr w w' lo hi) (h1 : x + 11 ≤ lo ∨ (x + 4 ≤ lo ∧ hi ≤ x + 7)) : CW w' x S :=
  h.kept ((hF.2.2.2 (x + 3) (by omega)).1 _) (fun k i a b => (hF.2.2.2 (x + k) (by omega)).2.1 i)
theorem CW.dot {w : aw} {x d : Nat} {S : ps} (h : CW w x S) : CW w x (d, S.2) := h
def GW (w : aw) (x : Nat) : Prop := (∃ t, CB w x t) ∧ ∃ S, CW w x S ∧ PI S
theorem sp_c_begin0 {d : Nat} {w : aw} {x n a b : Nat} {T : Nat → Nat} {Q : wQ} (hS : SR0 w x T n) (hab : a ≤ b) (hbn : b ≤ n) (h : ∀ w', SR w' x T n b → fd w' 258 (x + 11) = .int (nI (bE T b a)) → Fr w w' (x + 11) (x + 12) → Q none w') : wpD (d + 3) 46 [.ref (x + 11), .int (nI a), .int (nI b)] w Q := by
  refine ⟨Nat.le_of_ble_eq_true rfl, ?_⟩
  show wp (d + 2) 46 Q 0 [some (.ref (x + 11)), some (.int (nI a)), some (.int (nI b))] [] w 0 0
  have rk := hS.1
  have hn8 := hS.2.2.2.2.2.2.2.2.2.1
  have hS1 : SR (uF w 259 (x + 11) (.int (nI b))) x T n b := (hS.kept (Fr.rf.F (w := w) (w' := w) (by omega) (by omega)) (by rw [fd_uF, if_neg (fun q => absurd q.1 (by decide))]) (by rw [fd_uF, if_neg (fun q => absurd q.1 (by decide))])).S (by rw [fd_uF, if_pos ⟨rfl, rfl⟩]) hbn
  simp only [↓s_46_0, ↓s_46_1, ↓s_46_2, ↓s_46_5, ↓s_46_6, ↓s_46_7, ↓s_46_8, kd_uF, ln_uF, ai_uF, al_uF, ar_uF, zs_uF, fd_uF, kd_uA, ln_uA, fd_uA, al_uA, ar_uA, zs_uA, ai_uA, kd_uL, ln_uL, fd_uL, ai_uL, ar_uL, zs_uL, al_uL, kd_uR, ln_uR, fd_uR, ai_uR, al_uR, zs_uR, ar_uR, true_and, and_true, Option.toList_some, Option.toList_none, List.cons_append, List.nil_append, catS_nil, catS_int, catS_ref, catS_null, catS_long, cat_int, cat_ref, cat_null, Nat.reduceEqDiff, Nat.reduceLeDiff, Nat.reduceAdd, false_and, and_false, if_false, if_true, ite_true, ite_false, true_or, or_true, false_or, or_false, and_self, forall_const, true_implies, reduceCtorEq, clr_int, clr_ref, clr_null, clr_none, clr_long, va_rf_some, va_rf_none, rk]
  refine sp_c_blanks hS1 (by omega) ?_
  simp only [↓s_46_11, ↓s_46_14, kd_uF, ln_uF, ai_uF, al_uF, ar_uF, zs_uF, fd_uF, kd_uA, ln_uA, fd_uA, al_uA, ar_uA, zs_uA, ai_uA, kd_uL, ln_uL, fd_uL, ai_uL, ar_uL, zs_uL, al_uL, kd_uR, ln_uR, fd_uR, ai_uR, al_uR, zs_uR, ar_uR, true_and, and_true, Option.toList_some, Option.toList_none, List.cons_append, List.nil_append, catS_nil, catS_int, catS_ref, catS_null, catS_long, cat_int, cat_ref, cat_null, Nat.reduceEqDiff, Nat.reduceLeDiff, Nat.reduceAdd, false_and, and_false, if_false, if_true, ite_true, ite_false, true_or, or_true, false_or, or_false, and_self, forall_const, true_implies, reduceCtorEq, clr_int, clr_ref, clr_null, clr_none, clr_long, va_rf_some, va_rf_none, rk]
  exact h _ ((FrB.rf.F (Or.inl rfl)).S hS1) (by rw [fd_uF, if_pos ⟨rfl, rfl⟩]) ((Fr.rf.F (by omega) (by omega)).F (by omega) (by omega))
theorem sp_c_skip {d : Nat} {w : aw} {x n e p : Nat} {T : Nat → Nat} {Q : wQ} (hA : ASh w x) (hS : SR w x T n e) (hat : fd w 258 (x + 11) = .int (nI p)) (hp : p ≤ e) (h : ∀ w', SR w' x T n e → fd w' 258 (x + 11) = .int (nI (lbE T e (e - p) p)) → Fr w w' (x + 11) (x + 12) → Q none w') : wpD (d + 4) 5 [.ref (x + 3)] w Q := by
  refine ⟨Nat.le_of_ble_eq_true rfl, ?_⟩
  show wp (d + 3) 5 Q 0 [some (.ref (x + 3)), none, none] [] w 0 0
  have hen := hS.2.2.2.2.2.2.2.2.2.2.1
  have hn8 := hS.2.2.2.2.2.2.2.2.2.2.2.1
  have j33 : ∀ (w1 : aw) (A B : Option Value), SR w1 x T n e → fd w1 258 (x + 11) = .int (nI (lbE T e (e - p) p)) → Fr w w1 (x + 11) (x + 12) → wp (d + 3) 5 Q 33 [some (.ref (x + 3)), A, B] [] w1 0 0 := by
    intro w1 A B a b c
    simp only [↓s_5_33, kd_uF, ln_uF, ai_uF, al_uF, ar_uF, zs_uF, fd_uF, kd_uA, ln_uA, fd_uA, al_uA, ar_uA, zs_uA, ai_uA, kd_uL, ln_uL, fd_uL, ai_uL, ar_uL, zs_uL, al_uL, kd_uR, ln_uR, fd_uR, ai_uR, al_uR, zs_uR, ar_uR, true_and, and_true, Option.toList_some, Option.toList_none, List.cons_append, List.nil_append, catS_nil, catS_int, catS_ref, catS_null, catS_long, cat_int, cat_ref, cat_null, Nat.reduceEqDiff, Nat.reduceLeDiff, Nat.reduceAdd, false_and, and_false, if_false, if_true, ite_true, ite_false, true_or, or_true, false_or, or_false, and_self, forall_const, true_implies, reduceCtorEq, clr_int, clr_ref, clr_null, clr_none, clr_long, va_rf_some, va_rf_none]
    exact h w1 a b c
  have lp : ∀ (k q i : Nat) (w1 : aw), e ≤ q + k → q ≤ e → i ≤ q → SR w1 x T n e → fd w1 258 (x + 11) = .int (nI q) → Fr w w1 (x + 11) (x + 12) → lbE T e k q = lbE T e (e - p) p → wp (d + 3) 5 Q 4 [some (.ref (x + 3)), some (.int 1), some (.int (nI i))] [] w1 0 0 := by
    intro k
    induction k with
    | zero =>
      intro q i w1 hk hq hi hS1 at1 f1 e1
      have e1' : q = lbE T e (e - p) p := e1
      have o3 := f1.2.2.2 (x + 3) (by omega)
      have a0 : kd w1 (x + 3) = 1 := (f1.1 _).trans hA.1
      have a1 : fd w1 0 (x + 3) = .ref (x + 1) := (o3.1 _).trans hA.2.1
      have a2 : fd w1 2 (x + 3) = .ref (x + 11) := (o3.1 _).trans hA.2.2.2.1
      have fin : ∀ (A B : Option Value) w2, SR w2 x T n e → fd w2 258 (x + 11) = .int (nI q) → Fr w w2 (x + 11) (x + 12) → wp (d + 3) 5 Q 33 [some (.ref (x + 3)), A, B] [] w2 0 0 := fun A B w2 u v z => j33 w2 A B u (by rw [← e1']; exact v) z
      rw [s_5_4]
      simp only [↓s_5_5, ↓s_5_6, ↓s_5_9, ↓s_5_12, ↓s_5_15, ↓s_5_16, ↓s_5_19, ↓s_5_20, ↓s_5_23, kd_uF, ln_uF, ai_uF, al_uF, ar_uF, zs_uF, fd_uF, kd_uA, ln_uA, fd_uA, al_uA, ar_uA, zs_uA, ai_uA, kd_uL, ln_uL, fd_uL, ai_uL, ar_uL, zs_uL, al_uL, kd_uR, ln_uR, fd_uR, ai_uR, al_uR, zs_uR, ar_uR, true_and, and_true, Option.toList_some, Option.toList_none, List.cons_append, List.nil_append, catS_nil, catS_int, catS_ref, catS_null, catS_long, cat_int, cat_ref, cat_null, Nat.reduceEqDiff, Nat.reduceLeDiff, Nat.reduceAdd, false_and, and_false, if_false, if_true, ite_true, ite_false, true_or, or_true, false_or, or_false, and_self, forall_const, true_implies, reduceCtorEq, clr_int, clr_ref, clr_null, clr_none, clr_long, va_rf_some, va_rf_none, a0, a1, a2, hS1.1, hS1.2.2.2.1, hS1.2.2.2.2.2.2.2.1]
      refine ⟨fun _ => fin _ _ w1 hS1 at1 f1, fun _ => ⟨fun z => absurd z (by decide), fun _ => sp_c_label hS1 at1 hq (fun z => absurd (isLb_pos z) (by omega)) (fun z w2 c1 c2 c3 => ?_)⟩⟩
      have b0 : kd w2 (x + 3) = 1 := (c3.1 _).trans a0
      have b1 : fd w2 0 (x + 3) = .ref (x + 1) := ((c3.2.2.2 (x + 3) (by omega)).1 _).trans a1
      have g := fin (some (.int 0)) (some (.int (nI (i + 1)))) w2 c1 c2 (f1.tr c3)
      simp only [↓s_5_26, ↓s_5_27, ↓s_5_30, kd_uF, ln_uF, ai_uF, al_uF, ar_uF, zs_uF, fd_uF, kd_uA, ln_uA, fd_uA, al_uA, ar_uA, zs_uA, ai_uA, kd_uL, ln_uL, fd_uL, ai_uL, ar_uL, zs_uL, al_uL, kd_uR, ln_uR, fd_uR, ai_uR, al_uR, zs_uR, ar_uR, true_and, and_true, Option.toList_some, Option.toList_none, List.cons_append, List.nil_append, catS_nil, catS_int, catS_ref, catS_null, catS_long, cat_int, cat_ref, cat_null, Nat.reduceEqDiff, Nat.reduceLeDiff, Nat.reduceAdd, false_and, and_false, if_false, if_true, ite_true, ite_false, true_or, or_true, false_or, or_false, and_self, forall_const, true_implies, reduceCtorEq, clr_int, clr_ref, clr_null, clr_none, clr_long, va_rf_some, va_rf_none]
      rw [nI_1, s_5_4]
      simp only [↓s_5_5, ↓s_5_6, ↓s_5_9, ↓s_5_12, ↓s_5_15, ↓s_5_16, kd_uF, ln_uF, ai_uF, al_uF, ar_uF, zs_uF, fd_uF, kd_uA, ln_uA, fd_uA, al_uA, ar_uA, zs_uA, ai_uA, kd_uL, ln_uL, fd_uL, ai_uL, ar_uL, zs_uL, al_uL, kd_uR, ln_uR, fd_uR, ai_uR, al_uR, zs_uR, ar_uR, true_and, and_true, Option.toList_some, Option.toList_none, List.cons_append, List.nil_append, catS_nil, catS_int, catS_ref, catS_null, catS_long, cat_int, cat_ref, cat_null, Nat.reduceEqDiff, Nat.reduceLeDiff, Nat.reduceAdd, false_and, and_false, if_false, if_true, ite_true, ite_false, true_or, or_true, false_or, or_false, and_self, forall_const, true_implies, reduceCtorEq, clr_int, clr_ref, clr_null, clr_none, clr_long, va_rf_some, va_rf_none, b0, b1, c1.2.2.2.1, c1.2.2.2.2.2.2.2.1]
      exact ⟨fun _ => g, fun _ => ⟨g, fun z => absurd trivial z⟩⟩
    | succ k ih =>
      intro q i w1 hk hq hi hS1 at1 f1 e1
      have e1' : (if isLb T e q = true then lbE T e k (bE T e (wE T e q + 1)) else q) = lbE T e (e - p) p := e1
      have o3 := f1.2.2.2 (x + 3) (by omega)
      have a0 : kd w1 (x + 3) = 1 := (f1.1 _).trans hA.1
      have a1 : fd w1 0 (x + 3) = .ref (x + 1) := (o3.1 _).trans hA.2.1
      have a2 : fd w1 2 (x + 3) = .ref (x + 11) := (o3.1 _).trans hA.2.2.2.1
      cases cl : isLb T e q with
      | true =>
        rw [cl, if_pos rfl] at e1'
        have hz := isLb_pos cl
        rw [s_5_4]
        simp only [↓s_5_5, ↓s_5_6, ↓s_5_9, ↓s_5_12, ↓s_5_15, ↓s_5_16, ↓s_5_19, ↓s_5_20, ↓s_5_23, kd_uF, ln_uF, ai_uF, al_uF, ar_uF, zs_uF, fd_uF, kd_uA, ln_uA, fd_uA, al_uA, ar_uA, zs_uA, ai_uA, kd_uL, ln_uL, fd_uL, ai_uL, ar_uL, zs_uL, al_uL, kd_uR, ln_uR, fd_uR, ai_uR, al_uR, zs_uR, ar_uR, true_and, and_true, Option.toList_some, Option.toList_none, List.cons_append, List.nil_append, catS_nil, catS_int, catS_ref, catS_null, catS_long, cat_int, cat_ref, cat_null, Nat.reduceEqDiff, Nat.reduceLeDiff, Nat.reduceAdd, false_and, and_false, if_false, if_true, ite_true, ite_false, true_or, or_true, false_or, or_false, and_self, forall_const, true_implies, reduceCtorEq, clr_int, clr_ref, clr_null, clr_none, clr_long, va_rf_some, va_rf_none, a0, a1, a2, hS1.1, hS1.2.2.2.1, hS1.2.2.2.2.2.2.2.1]
        refine ⟨fun z => absurd z (nI_ge (by omega) (by omega)), fun _ => ⟨fun z => absurd z (by decide), fun _ => sp_c_label hS1 at1 hq (fun z w2 c1 c2 _ c3 => ?_) (fun z => by rw [cl] at z; cases z)⟩⟩
        simp only [↓s_5_26, ↓s_5_27, ↓s_5_30, kd_uF, ln_uF, ai_uF, al_uF, ar_uF, zs_uF, fd_uF, kd_uA, ln_uA, fd_uA, al_uA, ar_uA, zs_uA, ai_uA, kd_uL, ln_uL, fd_uL, ai_uL, ar_uL, zs_uL, al_uL, kd_uR, ln_uR, fd_uR, ai_uR, al_uR, zs_uR, ar_uR, true_and, and_true, Option.toList_some, Option.toList_none, List.cons_append, List.nil_append, catS_nil, catS_int, catS_ref, catS_null, catS_long, cat_int, cat_ref, cat_null, Nat.reduceEqDiff, Nat.reduceLeDiff, Nat.reduceAdd, false_and, and_false, if_false, if_true, ite_true, ite_false, true_or, or_true, false_or, or_false, and_self, forall_const, true_implies, reduceCtorEq, clr_int, clr_ref, clr_null, clr_none, clr_long, va_rf_some, va_rf_none]
        rw [nI_1]
        have hge := bE_ge (T := T) (e := e) (p := wE T e q + 1)
        exact ih _ (i + 1) w2 (by omega) (bE_le (by omega)) (by omega) c1 c2 (f1.tr c3) e1'
      | false =>
        rw [cl, if_neg (by decide)] at e1'
        have fin : ∀ (A B : Option Value) w2, SR w2 x T n e → fd w2 258 (x + 11) = .int (nI q) → Fr w w2 (x + 11) (x + 12) → wp (d + 3) 5 Q 33 [some (.ref (x + 3)), A, B] [] w2 0 0 := fun A B w2 u v z => j33 w2 A B u (by rw [← e1']; exact v) z
        rw [s_5_4]
        simp only [↓s_5_5, ↓s_5_6, ↓s_5_9, ↓s_5_12, ↓s_5_15, ↓s_5_16, ↓s_5_19, ↓s_5_20, ↓s_5_23, kd_uF, ln_uF, ai_uF, al_uF, ar_uF, zs_uF, fd_uF, kd_uA, ln_uA, fd_uA, al_uA, ar_uA, zs_uA, ai_uA, kd_uL, ln_uL, fd_uL, ai_uL, ar_uL, zs_uL, al_uL, kd_uR, ln_uR, fd_uR, ai_uR, al_uR, zs_uR, ar_uR, true_and, and_true, Option.toList_some, Option.toList_none, List.cons_append, List.nil_append, catS_nil, catS_int, catS_ref, catS_null, catS_long, cat_int, cat_ref, cat_null, Nat.reduceEqDiff, Nat.reduceLeDiff, Nat.reduceAdd, false_and, and_false, if_false, if_true, ite_true, ite_false, true_or, or_true, false_or, or_false, and_self, forall_const, true_implies, reduceCtorEq, clr_int, clr_ref, clr_null, clr_none, clr_long, va_rf_some, va_rf_none, a0, a1, a2, hS1.1, hS1.2.2.2.1, hS1.2.2.2.2.2.2.2.1]
        refine ⟨fun _ => fin _ _ w1 hS1 at1 f1, fun _ => ⟨fun z => absurd z (by decide), fun _ => sp_c_label hS1 at1 hq (fun z => by rw [cl] at z; cases z) (fun z w2 c1 c2 c3 => ?_)⟩⟩
        have b0 : kd w2 (x + 3) = 1 := (c3.1 _).trans a0
        have b1 : fd w2 0 (x + 3) = .ref (x + 1) := ((c3.2.2.2 (x + 3) (by omega)).1 _).trans a1
        have g := fin (some (.int 0)) (some (.int (nI (i + 1)))) w2 c1 c2 (f1.tr c3)
        simp only [↓s_5_26, ↓s_5_27, ↓s_5_30, kd_uF, ln_uF, ai_uF, al_uF, ar_uF, zs_uF, fd_uF, kd_uA, ln_uA, fd_uA, al_uA, ar_uA, zs_uA, ai_uA, kd_uL, ln_uL, fd_uL, ai_uL, ar_uL, zs_uL, al_uL, kd_uR, ln_uR, fd_uR, ai_uR, al_uR, zs_uR, ar_uR, true_and, and_true, Option.toList_some, Option.toList_none, List.cons_append, List.nil_append, catS_nil, catS_int, catS_ref, catS_null, catS_long, cat_int, cat_ref, cat_null, Nat.reduceEqDiff, Nat.reduceLeDiff, Nat.reduceAdd, false_and, and_false, if_false, if_true, ite_true, ite_false, true_or, or_true, false_or, or_false, and_self, forall_const, true_implies, reduceCtorEq, clr_int, clr_ref, clr_null, clr_none, clr_long, va_rf_some, va_rf_none]
        rw [nI_1, s_5_4]
        simp only [↓s_5_5, ↓s_5_6, ↓s_5_9, ↓s_5_12, ↓s_5_15, ↓s_5_16, kd_uF, ln_uF, ai_uF, al_uF, ar_uF, zs_uF, fd_uF, kd_uA, ln_uA, fd_uA, al_uA, ar_uA, zs_uA, ai_uA, kd_uL, ln_uL, fd_uL, ai_uL, ar_uL, zs_uL, al_uL, kd_uR, ln_uR, fd_uR, ai_uR, al_uR, zs_uR, ar_uR, true_and, and_true, Option.toList_some, Option.toList_none, List.cons_append, List.nil_append, catS_nil, catS_int, catS_ref, catS_null, catS_long, cat_int, cat_ref, cat_null, Nat.reduceEqDiff, Nat.reduceLeDiff, Nat.reduceAdd, false_and, and_false, if_false, if_true, ite_true, ite_false, true_or, or_true, false_or, or_false, and_self, forall_const, true_implies, reduceCtorEq, clr_int, clr_ref, clr_null, clr_none, clr_long, va_rf_some, va_rf_none, b0, b1, c1.2.2.2.1, c1.2.2.2.2.2.2.2.1]
        exact ⟨fun _ => g, fun _ => ⟨g, fun z => absurd trivial z⟩⟩
  simp only [↓s_5_0, ↓s_5_1, ↓s_5_2, ↓s_5_3, kd_uF, ln_uF, ai_uF, al_uF, ar_uF, zs_uF, fd_uF, kd_uA, ln_uA, fd_uA, al_uA, ar_uA, zs_uA, ai_uA, kd_uL, ln_uL, fd_uL, ai_uL, ar_uL, zs_uL, al_uL, kd_uR, ln_uR, fd_uR, ai_uR, al_uR, zs_uR, ar_uR, true_and, and_true, Option.toList_some, Option.toList_none, List.cons_append, List.nil_append, catS_nil, catS_int, catS_ref, catS_null, catS_long, cat_int, cat_ref, cat_null, Nat.reduceEqDiff, Nat.reduceLeDiff, Nat.reduceAdd, false_and, and_false, if_false, if_true, ite_true, ite_false, true_or, or_true, false_or, or_false, and_self, forall_const, true_implies, reduceCtorEq, clr_int, clr_ref, clr_null, clr_none, clr_long, va_rf_some, va_rf_none]
  exact lp (e - p) p 0 w (by omega) hp (by omega) hS hat Fr.rf rfl
theorem sp_c_tellL {d : Nat} {w : aw} {x n e p dot : Nat} {T : Nat → Nat} {t : nt} {Q : wQ} (hA : ASh w x) (hS : SR w x T n e) (hC : CB w x t) (hN : TN t) (hdt : fd w 8 (x + 3) = .int (nI dot)) (hd : dot < 4096) (hat : fd w 258 (x + 11) = .int (nI p)) (hp : p ≤ e) (h : ∀ w' t', SR w' x T n e → CB w' x t' → FrX w w' x → fd w' 6 (x + 3) = fd w 6 (x + 3) → fd w' 8 (x + 3) = fd w 8 (x + 3) → (∀ k i, 7 ≤ k → k ≤ 10 → ai w' (x + k) i = ai w (x + k) i) → ((tls dot t (lbs T e (e - p) p)).1 = 0 → fd w' 258 (x + 11) = .int (nI (lbE T e (e - p) p)) ∧ t' = (tls dot t (lbs T e (e - p) p)).2) → Q (some (.int (nI (tls dot t (lbs T e (e - p) p)).1))) w') : wpD (d + 4) 6 [.ref (x + 3)] w Q := by
  refine ⟨Nat.le_of_ble_eq_true rfl, ?_⟩
  show wp (d + 3) 6 Q 0 [some (.ref (x + 3)), none, none] [] w 0 0
  have hen := hS.2.2.2.2.2.2.2.2.2.2.1
  have hn8 := hS.2.2.2.2.2.2.2.2.2.2.2.1
  obtain ⟨X, hX⟩ : ∃ X, X = tls dot t (lbs T e (e - p) p) := ⟨_, rfl⟩
  rw [← hX] at h
  let FX : aw → Prop := fun w1 => FrX w w1 x ∧ fd w1 6 (x + 3) = fd w 6 (x + 3) ∧ fd w1 8 (x + 3) = fd w 8 (x + 3) ∧ (∀ k i, 7 ≤ k → k ≤ 10 → ai w1 (x + k) i = ai w (x + k) i)
  have fxR : ∀ w1 w2, FX w1 → SR w1 x T n e → SR w2 x T n e → Fr w1 w2 (x + 11) (x + 12) → FX w2 := by
    intro w1 w2 h1 s1 s2 hF
    exact ⟨h1.1.tr (FrX.ofR (e := e) hF s1.S0 s2), ((hF.2.2.2 (x + 3) (by omega)).1 _).trans h1.2.1, ((hF.2.2.2 (x + 3) (by omega)).1 _).trans h1.2.2.1, fun k i a b => ((hF.2.2.2 (x + k) (by omega)).2.1 i).trans (h1.2.2.2 k i a b)⟩
  have fxN : ∀ w1 w2, FX w1 → Fr w1 w2 (x + 4) (x + 7) → FX w2 := by
    intro w1 w2 h1 hF
    exact ⟨h1.1.tr (FrX.ofN hF), ((hF.2.2.2 (x + 3) (by omega)).1 _).trans h1.2.1, ((hF.2.2.2 (x + 3) (by omega)).1 _).trans h1.2.2.1, fun k i a b => ((hF.2.2.2 (x + k) (by omega)).2.1 i).trans (h1.2.2.2 k i a b)⟩
  have j54 : ∀ (w1 : aw) (t' : nt) (B : Option Value), SR w1 x T n e → CB w1 x t' → FX w1 → (X.1 = 0 → fd w1 258 (x + 11) = .int (nI (lbE T e (e - p) p)) ∧ t' = X.2) → wp (d + 3) 6 Q 54 [some (.ref (x + 3)), some (.int (nI X.1)), B] [] w1 0 0 := by
    intro w1 t' B a b c g
    simp only [↓s_6_54, ↓s_6_55, kd_uF, ln_uF, ai_uF, al_uF, ar_uF, zs_uF, fd_uF, kd_uA, ln_uA, fd_uA, al_uA, ar_uA, zs_uA, ai_uA, kd_uL, ln_uL, fd_uL, ai_uL, ar_uL, zs_uL, al_uL, kd_uR, ln_uR, fd_uR, ai_uR, al_uR, zs_uR, ar_uR, true_and, and_true, Option.toList_some, Option.toList_none, List.cons_append, List.nil_append, catS_nil, catS_int, catS_ref, catS_null, catS_long, cat_int, cat_ref, cat_null, Nat.reduceEqDiff, Nat.reduceLeDiff, Nat.reduceAdd, false_and, and_false, if_false, if_true, ite_true, ite_false, true_or, or_true, false_or, or_false, and_self, forall_const, true_implies, reduceCtorEq, clr_int, clr_ref, clr_null, clr_none, clr_long, va_rf_some, va_rf_none]
    exact h w1 t' a b c.1 c.2.1 c.2.2.1 c.2.2.2 g
  have lp : ∀ (k q i : Nat) (w1 : aw) (tt : nt), e ≤ q + k → q ≤ e → i ≤ q → SR w1 x T n e → CB w1 x tt → TN tt → fd w1 258 (x + 11) = .int (nI q) → FX w1 → lbE T e k q = lbE T e (e - p) p → tls dot tt (lbs T e k q) = X ∨ ((tls dot tt (lbs T e k q)).1 = X.1 ∧ X.1 ≠ 0) → wp (d + 3) 6 Q 4 [some (.ref (x + 3)), some (.int (nI 0)), some (.int (nI i))] [] w1 0 0 := by
    intro k
    induction k with
    | zero =>
      intro q i w1 tt hk hq hi hS1 hC1 hN1 at1 f1 e1 e2
      have e1' : q = lbE T e (e - p) p := e1
      have a0 : kd w1 (x + 3) = 1 := (f1.1.1.1 _).trans hA.1
      have a1 : fd w1 0 (x + 3) = .ref (x + 1) := (f1.1.2.1 _ (by decide) (by decide)).trans hA.2.1
      have a2 : fd w1 2 (x + 3) = .ref (x + 11) := (f1.1.2.1 _ (by decide) (by decide)).trans hA.2.2.2.1
      have e2' : (0, tt) = X ∨ (0 = X.1 ∧ X.1 ≠ 0) := e2
      have e3 : X = (0, tt) := by
        rcases e2' with z | z
        · exact z.symm
        · exact absurd z.1.symm z.2
      have fin : ∀ (B : Option Value) w2, SR w2 x T n e → CB w2 x tt → FX w2 → fd w2 258 (x + 11) = .int (nI q) → wp (d + 3) 6 Q 54 [some (.ref (x + 3)), some (.int (nI 0)), B] [] w2 0 0 := by
        intro B w2 u v z y
        have := j54 w2 tt B u v z (fun _ => ⟨by rw [← e1']; exact y, by rw [e3]⟩)
        rw [e3] at this
        exact this
      rw [s_6_4]
      simp only [↓s_6_5, ↓s_6_6, ↓s_6_9, ↓s_6_12, ↓s_6_15, ↓s_6_16, ↓s_6_19, ↓s_6_20, ↓s_6_23, kd_uF, ln_uF, ai_uF, al_uF, ar_uF, zs_uF, fd_uF, kd_uA, ln_uA, fd_uA, al_uA, ar_uA, zs_uA, ai_uA, kd_uL, ln_uL, fd_uL, ai_uL, ar_uL, zs_uL, al_uL, kd_uR, ln_uR, fd_uR, ai_uR, al_uR, zs_uR, ar_uR, true_and, and_true, Option.toList_some, Option.toList_none, List.cons_append, List.nil_append, catS_nil, catS_int, catS_ref, catS_null, catS_long, cat_int, cat_ref, cat_null, Nat.reduceEqDiff, Nat.reduceLeDiff, Nat.reduceAdd, false_and, and_false, if_false, if_true, ite_true, ite_false, true_or, or_true, false_or, or_false, and_self, forall_const, true_implies, reduceCtorEq, clr_int, clr_ref, clr_null, clr_none, clr_long, va_rf_some, va_rf_none, a0, a1, a2, hS1.1, hS1.2.2.2.1, hS1.2.2.2.2.2.2.2.1]
      refine ⟨fun _ => fin _ w1 hS1 hC1 f1 at1, fun _ => ⟨fun z => absurd rfl z, fun _ => sp_c_label hS1 at1 hq (fun z => absurd (isLb_pos z) (by omega)) (fun z w2 c1 c2 c3 => ?_)⟩⟩
      simp only [↓s_6_26, kd_uF, ln_uF, ai_uF, al_uF, ar_uF, zs_uF, fd_uF, kd_uA, ln_uA, fd_uA, al_uA, ar_uA, zs_uA, ai_uA, kd_uL, ln_uL, fd_uL, ai_uL, ar_uL, zs_uL, al_uL, kd_uR, ln_uR, fd_uR, ai_uR, al_uR, zs_uR, ar_uR, true_and, and_true, Option.toList_some, Option.toList_none, List.cons_append, List.nil_append, catS_nil, catS_int, catS_ref, catS_null, catS_long, cat_int, cat_ref, cat_null, Nat.reduceEqDiff, Nat.reduceLeDiff, Nat.reduceAdd, false_and, and_false, if_false, if_true, ite_true, ite_false, true_or, or_true, false_or, or_false, and_self, forall_const, true_implies, reduceCtorEq, clr_int, clr_ref, clr_null, clr_none, clr_long, va_rf_some, va_rf_none]
      exact ⟨fin _ w2 c1 (hC1.Fr c3 (Or.inl (by omega))) (fxR w1 w2 f1 hS1 c1 c3) c2, fun z => absurd trivial z⟩
    | succ k ih =>
      intro q i w1 tt hk hq hi hS1 hC1 hN1 at1 f1 e1 e2
      have e1' : (if isLb T e q = true then lbE T e k (bE T e (wE T e q + 1)) else q) = lbE T e (e - p) p := e1
      have el : lbs T e (k + 1) q = if isLb T e q = true then nmE T e q :: lbs T e k (bE T e (wE T e q + 1)) else [] := rfl
      have a0 : kd w1 (x + 3) = 1 := (f1.1.1.1 _).trans hA.1
      have a1 : fd w1 0 (x + 3) = .ref (x + 1) := (f1.1.2.1 _ (by decide) (by decide)).trans hA.2.1
      have a2 : fd w1 2 (x + 3) = .ref (x + 11) := (f1.1.2.1 _ (by decide) (by decide)).trans hA.2.2.2.1
      have a3 : fd w1 1 (x + 3) = .ref (x + 4) := (f1.1.2.1 _ (by decide) (by decide)).trans hA.2.2.1
      have a4 : fd w1 8 (x + 3) = .int (nI dot) := f1.2.2.1.trans hdt
      cases cl : isLb T e q with
      | true =>
        rw [cl, if_pos rfl] at e1'
        rw [el, cl, if_pos rfl] at e2
        have et : tls dot tt (nmE T e q :: lbs T e k (bE T e (wE T e q + 1))) = if (tl1 tt (nmE T e q) dot).1 = 0 then tls dot (tl1 tt (nmE T e q) dot).2 (lbs T e k (bE T e (wE T e q + 1))) else ((tl1 tt (nmE T e q) dot).1, tt) := rfl
        rw [et] at e2
        have hz := isLb_pos cl
        have h6 := nmE_6 (isN_iff.mp (isLb_iff.mp cl).1).2
        rw [s_6_4]
        simp only [↓s_6_5, ↓s_6_6, ↓s_6_9, ↓s_6_12, ↓s_6_15, ↓s_6_16, ↓s_6_19, ↓s_6_20, ↓s_6_23, kd_uF, ln_uF, ai_uF, al_uF, ar_uF, zs_uF, fd_uF, kd_uA, ln_uA, fd_uA, al_uA, ar_uA, zs_uA, ai_uA, kd_uL, ln_uL, fd_uL, ai_uL, ar_uL, zs_uL, al_uL, kd_uR, ln_uR, fd_uR, ai_uR, al_uR, zs_uR, ar_uR, true_and, and_true, Option.toList_some, Option.toList_none, List.cons_append, List.nil_append, catS_nil, catS_int, catS_ref, catS_null, catS_long, cat_int, cat_ref, cat_null, Nat.reduceEqDiff, Nat.reduceLeDiff, Nat.reduceAdd, false_and, and_false, if_false, if_true, ite_true, ite_false, true_or, or_true, false_or, or_false, and_self, forall_const, true_implies, reduceCtorEq, clr_int, clr_ref, clr_null, clr_none, clr_long, va_rf_some, va_rf_none, a0, a1, a2, hS1.1, hS1.2.2.2.1, hS1.2.2.2.2.2.2.2.1]
        refine ⟨fun z => absurd z (nI_ge (by omega) (by omega)), fun _ => ⟨fun z => absurd rfl z, fun _ => sp_c_label hS1 at1 hq (fun z w2 c1 c2 cK c3 => ?_) (fun z => by rw [cl] at z; cases z)⟩⟩
        have f2 := fxR w1 w2 f1 hS1 c1 c3
        have hC2 := hC1.Fr c3 (Or.inl (by omega))
        have o3 := c3.2.2.2 (x + 3) (by omega)
        have b0 : kd w2 (x + 3) = 1 := (c3.1 _).trans a0
        have b2 : fd w2 2 (x + 3) = .ref (x + 11) := (o3.1 _).trans a2
        have b3 : fd w2 1 (x + 3) = .ref (x + 4) := (o3.1 _).trans a3
        have b4 : fd w2 8 (x + 3) = .int (nI dot) := (o3.1 _).trans a4
        simp only [↓s_6_26, ↓s_6_29, ↓s_6_30, ↓s_6_33, ↓s_6_34, ↓s_6_37, ↓s_6_40, ↓s_6_41, ↓s_6_44, ↓s_6_54, ↓s_6_55, kd_uF, ln_uF, ai_uF, al_uF, ar_uF, zs_uF, fd_uF, kd_uA, ln_uA, fd_uA, al_uA, ar_uA, zs_uA, ai_uA, kd_uL, ln_uL, fd_uL, ai_uL, ar_uL, zs_uL, al_uL, kd_uR, ln_uR, fd_uR, ai_uR, al_uR, zs_uR, ar_uR, true_and, and_true, Option.toList_some, Option.toList_none, List.cons_append, List.nil_append, catS_nil, catS_int, catS_ref, catS_null, catS_long, cat_int, cat_ref, cat_null, Nat.reduceEqDiff, Nat.reduceLeDiff, Nat.reduceAdd, false_and, and_false, if_false, if_true, ite_true, ite_false, true_or, or_true, false_or, or_false, and_self, forall_const, true_implies, reduceCtorEq, clr_int, clr_ref, clr_null, clr_none, clr_long, va_rf_some, va_rf_none, b0, b2, b3, b4, c1.1, hC2.1, cK]
        refine ⟨fun z => absurd z (by decide), fun _ => sp_c_tell hC2 hN1 nmE_ok h6 (fun w3 g1 g2 => ?_)⟩
        have f3 := fxN w2 w3 f2 g2
        have hS3 : SR w3 x T n e := c1.kept (g2.wide (by omega) (by omega)) ((g2.2.2.2 (x + 11) (by omega)).1 _) ((g2.2.2.2 (x + 11) (by omega)).1 _) ((g2.2.2.2 (x + 11) (by omega)).1 _)
        have at3 : fd w3 258 (x + 11) = .int (nI (bE T e (wE T e q + 1))) := ((g2.2.2.2 (x + 11) (by omega)).1 _).trans c2
        have hge := bE_ge (T := T) (e := e) (p := wE T e q + 1)
        have hle := bE_le (T := T) (e := e) (p := wE T e q + 1) (by omega)
        simp only [↓s_6_47, ↓s_6_48, ↓s_6_51, kd_uF, ln_uF, ai_uF, al_uF, ar_uF, zs_uF, fd_uF, kd_uA, ln_uA, fd_uA, al_uA, ar_uA, zs_uA, ai_uA, kd_uL, ln_uL, fd_uL, ai_uL, ar_uL, zs_uL, al_uL, kd_uR, ln_uR, fd_uR, ai_uR, al_uR, zs_uR, ar_uR, true_and, and_true, Option.toList_some, Option.toList_none, List.cons_append, List.nil_append, catS_nil, catS_int, catS_ref, catS_null, catS_long, cat_int, cat_ref, cat_null, Nat.reduceEqDiff, Nat.reduceLeDiff, Nat.reduceAdd, false_and, and_false, if_false, if_true, ite_true, ite_false, true_or, or_true, false_or, or_false, and_self, forall_const, true_implies, reduceCtorEq, clr_int, clr_ref, clr_null, clr_none, clr_long, va_rf_some, va_rf_none]
        rw [nI_1]
        by_cases c0 : (tl1 tt (nmE T e q) dot).1 = 0
        · rw [if_pos c0] at e2
          rw [c0]
          exact ih _ (i + 1) w3 _ (by omega) hle (by omega) hS3 g1 (hN1.tell nmE_ok h6 hd) at3 f3 e1' e2
        · rw [if_neg c0] at e2
          have hX1 : (tl1 tt (nmE T e q) dot).1 = X.1 := by
            rcases e2 with z | z
            · rw [← z]
            · exact z.1
          have hle6 := tl1_le (t := tt) (l := nmE T e q) (v := dot)
          have g := j54 w3 _ (some (.int (nI (i + 1)))) hS3 g1 f3 (fun z => absurd (hX1.trans z) c0)
          rw [← hX1] at g
          have d0 : kd w3 (x + 3) = 1 := (g2.1 _).trans b0
          have d1 : fd w3 0 (x + 3) = .ref (x + 1) := (f3.1.2.1 _ (by decide) (by decide)).trans hA.2.1
          rw [s_6_4]
          simp only [↓s_6_5, ↓s_6_6, ↓s_6_9, ↓s_6_12, ↓s_6_15, ↓s_6_16, kd_uF, ln_uF, ai_uF, al_uF, ar_uF, zs_uF, fd_uF, kd_uA, ln_uA, fd_uA, al_uA, ar_uA, zs_uA, ai_uA, kd_uL, ln_uL, fd_uL, ai_uL, ar_uL, zs_uL, al_uL, kd_uR, ln_uR, fd_uR, ai_uR, al_uR, zs_uR, ar_uR, true_and, and_true, Option.toList_some, Option.toList_none, List.cons_append, List.nil_append, catS_nil, catS_int, catS_ref, catS_null, catS_long, cat_int, cat_ref, cat_null, Nat.reduceEqDiff, Nat.reduceLeDiff, Nat.reduceAdd, false_and, and_false, if_false, if_true, ite_true, ite_false, true_or, or_true, false_or, or_false, and_self, forall_const, true_implies, reduceCtorEq, clr_int, clr_ref, clr_null, clr_none, clr_long, va_rf_some, va_rf_none, d0, d1, hS3.2.2.2.1, hS3.2.2.2.2.2.2.2.1]
          rw [show (0 : Int32) = nI 0 from rfl, nI_eq (by omega) (by decide)]
          exact ⟨fun _ => g, fun _ => ⟨fun _ => g, fun z => absurd z c0⟩⟩
      | false =>
        rw [cl, if_neg (by decide)] at e1'
        rw [el, cl, if_neg (by decide)] at e2
        have e2' : (0, tt) = X ∨ (0 = X.1 ∧ X.1 ≠ 0) := e2
        have e3 : X = (0, tt) := by
          rcases e2' with z | z
          · exact z.symm
          · exact absurd z.1.symm z.2
        have fin : ∀ (B : Option Value) w2, SR w2 x T n e → CB w2 x tt → FX w2 → fd w2 258 (x + 11) = .int (nI q) → wp (d + 3) 6 Q 54 [some (.ref (x + 3)), some (.int (nI 0)), B] [] w2 0 0 := by
          intro B w2 u v z y
          have := j54 w2 tt B u v z (fun _ => ⟨by rw [← e1']; exact y, by rw [e3]⟩)
          rw [e3] at this
          exact this
        rw [s_6_4]
        simp only [↓s_6_5, ↓s_6_6, ↓s_6_9, ↓s_6_12, ↓s_6_15, ↓s_6_16, ↓s_6_19, ↓s_6_20, ↓s_6_23, kd_uF, ln_uF, ai_uF, al_uF, ar_uF, zs_uF, fd_uF, kd_uA, ln_uA, fd_uA, al_uA, ar_uA, zs_uA, ai_uA, kd_uL, ln_uL, fd_uL, ai_uL, ar_uL, zs_uL, al_uL, kd_uR, ln_uR, fd_uR, ai_uR, al_uR, zs_uR, ar_uR, true_and, and_true, Option.toList_some, Option.toList_none, List.cons_append, List.nil_append, catS_nil, catS_int, catS_ref, catS_null, catS_long, cat_int, cat_ref, cat_null, Nat.reduceEqDiff, Nat.reduceLeDiff, Nat.reduceAdd, false_and, and_false, if_false, if_true, ite_true, ite_false, true_or, or_true, false_or, or_false, and_self, forall_const, true_implies, reduceCtorEq, clr_int, clr_ref, clr_null, clr_none, clr_long, va_rf_some, va_rf_none, a0, a1, a2, hS1.1, hS1.2.2.2.1, hS1.2.2.2.2.2.2.2.1]
        refine ⟨fun _ => fin _ w1 hS1 hC1 f1 at1, fun _ => ⟨fun z => absurd rfl z, fun _ => sp_c_label hS1 at1 hq (fun z => by rw [cl] at z; cases z) (fun z w2 c1 c2 c3 => ?_)⟩⟩
        simp only [↓s_6_26, kd_uF, ln_uF, ai_uF, al_uF, ar_uF, zs_uF, fd_uF, kd_uA, ln_uA, fd_uA, al_uA, ar_uA, zs_uA, ai_uA, kd_uL, ln_uL, fd_uL, ai_uL, ar_uL, zs_uL, al_uL, kd_uR, ln_uR, fd_uR, ai_uR, al_uR, zs_uR, ar_uR, true_and, and_true, Option.toList_some, Option.toList_none, List.cons_append, List.nil_append, catS_nil, catS_int, catS_ref, catS_null, catS_long, cat_int, cat_ref, cat_null, Nat.reduceEqDiff, Nat.reduceLeDiff, Nat.reduceAdd, false_and, and_false, if_false, if_true, ite_true, ite_false, true_or, or_true, false_or, or_false, and_self, forall_const, true_implies, reduceCtorEq, clr_int, clr_ref, clr_null, clr_none, clr_long, va_rf_some, va_rf_none]
        exact ⟨fin _ w2 c1 (hC1.Fr c3 (Or.inl (by omega))) (fxR w1 w2 f1 hS1 c1 c3) c2, fun z => absurd trivial z⟩
  simp only [↓s_6_0, ↓s_6_1, ↓s_6_2, ↓s_6_3, kd_uF, ln_uF, ai_uF, al_uF, ar_uF, zs_uF, fd_uF, kd_uA, ln_uA, fd_uA, al_uA, ar_uA, zs_uA, ai_uA, kd_uL, ln_uL, fd_uL, ai_uL, ar_uL, zs_uL, al_uL, kd_uR, ln_uR, fd_uR, ai_uR, al_uR, zs_uR, ar_uR, true_and, and_true, Option.toList_some, Option.toList_none, List.cons_append, List.nil_append, catS_nil, catS_int, catS_ref, catS_null, catS_long, cat_int, cat_ref, cat_null, Nat.reduceEqDiff, Nat.reduceLeDiff, Nat.reduceAdd, false_and, and_false, if_false, if_true, ite_true, ite_false, true_or, or_true, false_or, or_false, and_self, forall_const, true_implies, reduceCtorEq, clr_int, clr_ref, clr_null, clr_none, clr_long, va_rf_some, va_rf_none]
  exact lp (e - p) p 0 w t (by omega) hp (by omega) hS hC hN hat ⟨FrX.rf, rfl, rfl, fun _ _ _ _ => rfl⟩ rfl (Or.inl hX.symm)
