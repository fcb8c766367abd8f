def CM (w : aw) (x : Nat) (H : hs) : Prop := kd w x = 8 ∧ fd w 450 x = .ref (x + 12) ∧ CAt w (x + 12) H (H.1 4 % H.1 3)
theorem CM.U {w w' : aw} {x v : Nat} {H : hs} {y : us} (hM : CM w x H) (hv : v < 8) (hF : FrU w w' (ub (x + 12) v)) (hx : UAt w' (ub (x + 12) v) v y) (h7 : y.1 7 = (H.2.2 v).1 7) : CM w' x (hU H v y) :=
  ⟨(hF.1.1 x).trans hM.1, ((hF.1.2.2.2 x (by unfold ub; omega)).1 _).trans hM.2.1, hM.2.2.U hv hF hx h7⟩
theorem FrU.H {w w' : aw} {x v : Nat} (hF : FrU w w' (ub (x + 12) v)) (hv : v < 8) : Fr w w' (x + 12) (x + 80) := hF.1.wide (by unfold ub; omega) (by unfold ub; omega)
theorem CM.H {w w' : aw} {x : Nat} {H K : hs} (hM : CM w x H) (hF : Fr w w' (x + 12) (x + 80)) (hC : CAt w' (x + 12) K (K.1 4 % K.1 3)) : CM w' x K :=
  ⟨(hF.1 x).trans hM.1, ((hF.2.2.2 x (by omega)).1 _).trans hM.2.1, hC⟩
theorem sp_C_in {d : Nat} {w : aw} {x hi : Int32} {n : Nat} {Q : wQ} (hh : hi = nI n - 1) (hn : n < 2147483648) (h1 : ∀ k, rg x n = some k → k < n → x = nI k → Q (some (.int 1)) w) (h2 : rg x n = none → Q (some (.int 0)) w) : wpD (d + 1) 100 [.int x, .int 0, .int hi] w Q := by
  subst hh
  cases e : rg x n with
  | none => exact sp_C_within (fun a b => absurd ((rg_le hn).mp ⟨a, b⟩) (by rw [e]; decide)) (fun _ => h2 e)
  | some k => exact sp_C_within (fun a b => h1 k e (rg_in e).1 (rg_in e).2) (fun q => absurd ((rg_le hn).mpr (by rw [e]; rfl)) q)
theorem sp_C_isWord {d : Nat} {w : aw} {x : Int32} {Q : wQ} (h1 : ∀ k, rg x 4096 = some k → k < 4096 → x = nI k → Q (some (.int 1)) w) (h2 : rg x 4096 = none → Q (some (.int 0)) w) : wpD (d + 1) 101 [.int x] w Q := by
  refine ⟨Nat.le_of_ble_eq_true rfl, ?_⟩
  show wp d 101 Q 0 [some (.int x)] [] w 0 0
  simp only [↓s_101_0, ↓s_101_1, ↓s_101_4, ↓s_101_5, ↓s_101_8, ↓s_101_11, ↓s_101_12, ↓s_101_15, ↓s_101_16, kd_uF, ln_uF, ai_uF, al_uF, ar_uF, zs_uF, fd_uF, kd_uA, ln_uA, fd_uA, al_uA, ar_uA, zs_uA, ai_uA, kd_uL, ln_uL, fd_uL, ai_uL, ar_uL, zs_uL, al_uL, kd_uR, ln_uR, fd_uR, ai_uR, al_uR, zs_uR, ar_uR, true_and, and_true, Option.toList_some, Option.toList_none, List.cons_append, List.nil_append, catS_nil, catS_int, catS_ref, catS_null, catS_long, cat_int, cat_ref, cat_null, Nat.reduceEqDiff, Nat.reduceLeDiff, Nat.reduceAdd, false_and, and_false, if_false, if_true, ite_true, ite_false, true_or, or_true, false_or, or_false, and_self, forall_const, true_implies, reduceCtorEq, clr_int, clr_ref, clr_null, clr_none, clr_long, va_rf_some, va_rf_none]
  cases e : rg x 4096 with
  | none =>
    have hn : ¬ (0 ≤ x ∧ x ≤ nI 4096 - 1) := fun q => absurd ((rg_le (by omega)).mp q) (by rw [e]; decide)
    refine ⟨fun _ => ⟨rfl, h2 e⟩, fun q => ⟨fun _ => ⟨rfl, h2 e⟩, fun q2 => ?_⟩⟩
    exfalso
    have h0 : 0 ≤ x := Int32.not_lt.mp q
    have hx := nI_back h0
    have hl := clamp_lt x
    rw [← hx, show (4096 : Int32) = nI 4096 from rfl, nI_leI (by omega) (by omega)] at q2
    unfold rg at e
    rw [if_pos ⟨h0, by omega⟩] at e
    cases e
  | some k =>
    have hk := rg_in e
    have hk2 := hk.2
    subst hk2
    refine ⟨fun q => absurd q (nI_pos (by omega)), fun _ => ⟨fun q => absurd q (nI_ge hk.1 (by decide)), fun _ => ⟨rfl, h1 k e hk.1 rfl⟩⟩⟩
theorem sp_C_inFile {d : Nat} {w : aw} {b i : Int32} {Q : wQ} (h1 : ∀ p q, rg b 32 = some p → rg i 128 = some q → p < 32 → q < 128 → b = nI p → i = nI q → Q (some (.int 1)) w) (h2 : rg b 32 = none ∨ rg i 128 = none → Q (some (.int 0)) w) : wpD (d + 2) 102 [.int b, .int i] w Q := by
  refine ⟨Nat.le_of_ble_eq_true rfl, ?_⟩
  show wp (d + 1) 102 Q 0 [some (.int b), some (.int i)] [] w 0 0
  simp only [↓s_102_0, ↓s_102_1, ↓s_102_2, ↓s_102_4, kd_uF, ln_uF, ai_uF, al_uF, ar_uF, zs_uF, fd_uF, kd_uA, ln_uA, fd_uA, al_uA, ar_uA, zs_uA, ai_uA, kd_uL, ln_uL, fd_uL, ai_uL, ar_uL, zs_uL, al_uL, kd_uR, ln_uR, fd_uR, ai_uR, al_uR, zs_uR, ar_uR, true_and, and_true, Option.toList_some, Option.toList_none, List.cons_append, List.nil_append, catS_nil, catS_int, catS_ref, catS_null, catS_long, cat_int, cat_ref, cat_null, Nat.reduceEqDiff, Nat.reduceLeDiff, Nat.reduceAdd, false_and, and_false, if_false, if_true, ite_true, ite_false, true_or, or_true, false_or, or_false, and_self, forall_const, true_implies, reduceCtorEq, clr_int, clr_ref, clr_null, clr_none, clr_long, va_rf_some, va_rf_none]
  refine sp_C_in (n := 32) rfl (by decide) (fun p a1 a2 a3 => ?_) (fun a1 => ?_)
  · simp only [↓s_102_7, ↓s_102_10, ↓s_102_11, ↓s_102_12, ↓s_102_14, ↓s_102_24, ↓s_102_25, kd_uF, ln_uF, ai_uF, al_uF, ar_uF, zs_uF, fd_uF, kd_uA, ln_uA, fd_uA, al_uA, ar_uA, zs_uA, ai_uA, kd_uL, ln_uL, fd_uL, ai_uL, ar_uL, zs_uL, al_uL, kd_uR, ln_uR, fd_uR, ai_uR, al_uR, zs_uR, ar_uR, true_and, and_true, Option.toList_some, Option.toList_none, List.cons_append, List.nil_append, catS_nil, catS_int, catS_ref, catS_null, catS_long, cat_int, cat_ref, cat_null, Nat.reduceEqDiff, Nat.reduceLeDiff, Nat.reduceAdd, false_and, and_false, if_false, if_true, ite_true, ite_false, true_or, or_true, false_or, or_false, and_self, forall_const, true_implies, reduceCtorEq, clr_int, clr_ref, clr_null, clr_none, clr_long, va_rf_some, va_rf_none]
    refine ⟨fun q => absurd q (by decide), fun _ => sp_C_in (n := 128) rfl (by decide) (fun q b1 b2 b3 => ?_) (fun b1 => ?_)⟩
    · simp only [↓s_102_17, ↓s_102_20, ↓s_102_21, ↓s_102_24, ↓s_102_25, kd_uF, ln_uF, ai_uF, al_uF, ar_uF, zs_uF, fd_uF, kd_uA, ln_uA, fd_uA, al_uA, ar_uA, zs_uA, ai_uA, kd_uL, ln_uL, fd_uL, ai_uL, ar_uL, zs_uL, al_uL, kd_uR, ln_uR, fd_uR, ai_uR, al_uR, zs_uR, ar_uR, true_and, and_true, Option.toList_some, Option.toList_none, List.cons_append, List.nil_append, catS_nil, catS_int, catS_ref, catS_null, catS_long, cat_int, cat_ref, cat_null, Nat.reduceEqDiff, Nat.reduceLeDiff, Nat.reduceAdd, false_and, and_false, if_false, if_true, ite_true, ite_false, true_or, or_true, false_or, or_false, and_self, forall_const, true_implies, reduceCtorEq, clr_int, clr_ref, clr_null, clr_none, clr_long, va_rf_some, va_rf_none]
      exact ⟨fun q => absurd q (by decide), fun _ => ⟨rfl, h1 p q a1 b1 a2 b2 a3 b3⟩⟩
    · simp only [↓s_102_17, ↓s_102_20, ↓s_102_21, ↓s_102_24, ↓s_102_25, kd_uF, ln_uF, ai_uF, al_uF, ar_uF, zs_uF, fd_uF, kd_uA, ln_uA, fd_uA, al_uA, ar_uA, zs_uA, ai_uA, kd_uL, ln_uL, fd_uL, ai_uL, ar_uL, zs_uL, al_uL, kd_uR, ln_uR, fd_uR, ai_uR, al_uR, zs_uR, ar_uR, true_and, and_true, Option.toList_some, Option.toList_none, List.cons_append, List.nil_append, catS_nil, catS_int, catS_ref, catS_null, catS_long, cat_int, cat_ref, cat_null, Nat.reduceEqDiff, Nat.reduceLeDiff, Nat.reduceAdd, false_and, and_false, if_false, if_true, ite_true, ite_false, true_or, or_true, false_or, or_false, and_self, forall_const, true_implies, reduceCtorEq, clr_int, clr_ref, clr_null, clr_none, clr_long, va_rf_some, va_rf_none]
      exact ⟨⟨rfl, h2 (Or.inr b1)⟩, fun q => absurd trivial q⟩
  · simp only [↓s_102_7, ↓s_102_10, ↓s_102_11, ↓s_102_12, ↓s_102_14, ↓s_102_24, ↓s_102_25, kd_uF, ln_uF, ai_uF, al_uF, ar_uF, zs_uF, fd_uF, kd_uA, ln_uA, fd_uA, al_uA, ar_uA, zs_uA, ai_uA, kd_uL, ln_uL, fd_uL, ai_uL, ar_uL, zs_uL, al_uL, kd_uR, ln_uR, fd_uR, ai_uR, al_uR, zs_uR, ar_uR, true_and, and_true, Option.toList_some, Option.toList_none, List.cons_append, List.nil_append, catS_nil, catS_int, catS_ref, catS_null, catS_long, cat_int, cat_ref, cat_null, Nat.reduceEqDiff, Nat.reduceLeDiff, Nat.reduceAdd, false_and, and_false, if_false, if_true, ite_true, ite_false, true_or, or_true, false_or, or_false, and_self, forall_const, true_implies, reduceCtorEq, clr_int, clr_ref, clr_null, clr_none, clr_long, va_rf_some, va_rf_none]
    exact ⟨⟨rfl, h2 (Or.inl a1)⟩, fun q => absurd trivial q⟩
theorem CM.u {w : aw} {x k : Nat} {H : hs} (hM : CM w x H) (hk : k < 8) : UAt w (ub (x + 12) k) k (H.2.2 k) := (hM.2.2.2.2.2.2.2 k hk).1
theorem sp_C_poke {d : Nat} {w : aw} {x : Nat} {u a v : Int32} {H : hs} {Q : wQ} (hM : CM w x H) (hI : HI H) (h : ∀ w', CM w' x (c_poke H u a v).2 → Fr w w' (x + 12) (x + 80) → Q (some (.int (c_poke H u a v).1)) w') : wpD (d + 2) 84 [.ref x, .int u, .int a, .int v] w Q := by
  refine ⟨Nat.le_of_ble_eq_true rfl, ?_⟩
  show wp (d + 1) 84 Q 0 [some (.ref x), some (.int u), some (.int a), some (.int v), none] [] w 0 0
  have h8 := hI.1
  have kx := hM.1
  have fx := hM.2.1
  have kh := hM.2.2.1.1
  have j29 : ∀ L, c_poke H u a v = (-1, H) → wp (d + 1) 84 Q 29 [some (.ref x), some (.int u), some (.int a), some (.int v), L] [] w 0 0 := by
    intro L hc
    rw [hc] at h
    simp only [↓s_84_29, ↓s_84_30, kd_uF, ln_uF, ai_uF, al_uF, ar_uF, zs_uF, fd_uF, kd_uA, ln_uA, fd_uA, al_uA, ar_uA, zs_uA, ai_uA, kd_uL, ln_uL, fd_uL, ai_uL, ar_uL, zs_uL, al_uL, kd_uR, ln_uR, fd_uR, ai_uR, al_uR, zs_uR, ar_uR, true_and, and_true, Option.toList_some, Option.toList_none, List.cons_append, List.nil_append, catS_nil, catS_int, catS_ref, catS_null, catS_long, cat_int, cat_ref, cat_null, Nat.reduceEqDiff, Nat.reduceLeDiff, Nat.reduceAdd, false_and, and_false, if_false, if_true, ite_true, ite_false, true_or, or_true, false_or, or_false, and_self, forall_const, true_implies, reduceCtorEq, clr_int, clr_ref, clr_null, clr_none, clr_long, va_rf_some, va_rf_none]
    exact h w hM Fr.rf
  simp only [↓s_84_0, ↓s_84_1, ↓s_84_4, ↓s_84_5, kd_uF, ln_uF, ai_uF, al_uF, ar_uF, zs_uF, fd_uF, kd_uA, ln_uA, fd_uA, al_uA, ar_uA, zs_uA, ai_uA, kd_uL, ln_uL, fd_uL, ai_uL, ar_uL, zs_uL, al_uL, kd_uR, ln_uR, fd_uR, ai_uR, al_uR, zs_uR, ar_uR, true_and, and_true, Option.toList_some, Option.toList_none, List.cons_append, List.nil_append, catS_nil, catS_int, catS_ref, catS_null, catS_long, cat_int, cat_ref, cat_null, Nat.reduceEqDiff, Nat.reduceLeDiff, Nat.reduceAdd, false_and, and_false, if_false, if_true, ite_true, ite_false, true_or, or_true, false_or, or_false, and_self, forall_const, true_implies, reduceCtorEq, clr_int, clr_ref, clr_null, clr_none, clr_long, va_rf_some, va_rf_none, kx, fx, kh]
  refine sp_C_userAt hM.2.2 h8 (fun k e1 e2 e3 => ?_) (fun e1 => ?_)
  · simp only [↓s_84_8, ↓s_84_8n, ↓s_84_10, ↓s_84_10n, ↓s_84_12, ↓s_84_12n, ↓s_84_15, ↓s_84_16, kd_uF, ln_uF, ai_uF, al_uF, ar_uF, zs_uF, fd_uF, kd_uA, ln_uA, fd_uA, al_uA, ar_uA, zs_uA, ai_uA, kd_uL, ln_uL, fd_uL, ai_uL, ar_uL, zs_uL, al_uL, kd_uR, ln_uR, fd_uR, ai_uR, al_uR, zs_uR, ar_uR, true_and, and_true, Option.toList_some, Option.toList_none, List.cons_append, List.nil_append, catS_nil, catS_int, catS_ref, catS_null, catS_long, cat_int, cat_ref, cat_null, Nat.reduceEqDiff, Nat.reduceLeDiff, Nat.reduceAdd, false_and, and_false, if_false, if_true, ite_true, ite_false, true_or, or_true, false_or, or_false, and_self, forall_const, true_implies, reduceCtorEq, clr_int, clr_ref, clr_null, clr_none, clr_long, va_rf_some, va_rf_none]
    refine sp_C_isWord (fun p f1 f2 f3 => ?_) (fun f1 => ?_)
    · simp only [↓s_84_19, ↓s_84_22, ↓s_84_23, kd_uF, ln_uF, ai_uF, al_uF, ar_uF, zs_uF, fd_uF, kd_uA, ln_uA, fd_uA, al_uA, ar_uA, zs_uA, ai_uA, kd_uL, ln_uL, fd_uL, ai_uL, ar_uL, zs_uL, al_uL, kd_uR, ln_uR, fd_uR, ai_uR, al_uR, zs_uR, ar_uR, true_and, and_true, Option.toList_some, Option.toList_none, List.cons_append, List.nil_append, catS_nil, catS_int, catS_ref, catS_null, catS_long, cat_int, cat_ref, cat_null, Nat.reduceEqDiff, Nat.reduceLeDiff, Nat.reduceAdd, false_and, and_false, if_false, if_true, ite_true, ite_false, true_or, or_true, false_or, or_false, and_self, forall_const, true_implies, reduceCtorEq, clr_int, clr_ref, clr_null, clr_none, clr_long, va_rf_some, va_rf_none]
      refine ⟨fun q => absurd q (by decide), fun _ => sp_C_isWord (fun y g1 g2 g3 => ?_) (fun g1 => ?_)⟩
      · have hc : c_poke H u a v = (1, hU H k (uMem (H.2.2 k) p y)) := by unfold c_poke; rw [e1, f1, g1]
        rw [hc] at h
        have hu := hM.u (show k < 8 by omega)
        have hu0 := hu
        obtain ⟨y0, y1, y2, y3, y4, y5, y6, z0, z1, z2, z3, z4, z5, z6, z7, z8, z9, mw1, mw2, mw3, fw1, fw2, fw3, pw1, pw2, pw3, lin, lou⟩ := hu
        rw [f3, g3]
        simp only [↓s_84_26, ↓s_84_31, ↓s_84_31n, ↓s_84_33, ↓s_84_36, ↓s_84_37, ↓s_84_38, ↓s_84_39, ↓s_84_40, kd_uF, ln_uF, ai_uF, al_uF, ar_uF, zs_uF, fd_uF, kd_uA, ln_uA, fd_uA, al_uA, ar_uA, zs_uA, ai_uA, kd_uL, ln_uL, fd_uL, ai_uL, ar_uL, zs_uL, al_uL, kd_uR, ln_uR, fd_uR, ai_uR, al_uR, zs_uR, ar_uR, true_and, and_true, Option.toList_some, Option.toList_none, List.cons_append, List.nil_append, catS_nil, catS_int, catS_ref, catS_null, catS_long, cat_int, cat_ref, cat_null, Nat.reduceEqDiff, Nat.reduceLeDiff, Nat.reduceAdd, false_and, and_false, if_false, if_true, ite_true, ite_false, true_or, or_true, false_or, or_false, and_self, forall_const, true_implies, reduceCtorEq, clr_int, clr_ref, clr_null, clr_none, clr_long, va_rf_some, va_rf_none, y0, y2, mw1, mw2, clN (show p < 2147483648 by omega)]
        refine ⟨fun _ => ⟨inR_nI f2 (by decide), ?_⟩, fun q => absurd q (by decide)⟩
        have f9 : FrU w (uA w (ub (x + 12) k + 1) p (nI y)) (ub (x + 12) k) := FrU.rf.A (by decide)
        exact h _ (hM.U (by omega) f9 hu0.Mem rfl) (f9.H (by omega))
      · simp only [↓s_84_26, ↓s_84_31, ↓s_84_31n, ↓s_84_33, ↓s_84_36, ↓s_84_37, ↓s_84_38, ↓s_84_39, ↓s_84_40, kd_uF, ln_uF, ai_uF, al_uF, ar_uF, zs_uF, fd_uF, kd_uA, ln_uA, fd_uA, al_uA, ar_uA, zs_uA, ai_uA, kd_uL, ln_uL, fd_uL, ai_uL, ar_uL, zs_uL, al_uL, kd_uR, ln_uR, fd_uR, ai_uR, al_uR, zs_uR, ar_uR, true_and, and_true, Option.toList_some, Option.toList_none, List.cons_append, List.nil_append, catS_nil, catS_int, catS_ref, catS_null, catS_long, cat_int, cat_ref, cat_null, Nat.reduceEqDiff, Nat.reduceLeDiff, Nat.reduceAdd, false_and, and_false, if_false, if_true, ite_true, ite_false, true_or, or_true, false_or, or_false, and_self, forall_const, true_implies, reduceCtorEq, clr_int, clr_ref, clr_null, clr_none, clr_long, va_rf_some, va_rf_none]
        exact ⟨fun q => absurd trivial q, j29 _ (by unfold c_poke; rw [e1, f1, g1])⟩
    · simp only [↓s_84_19, ↓s_84_22, ↓s_84_23, kd_uF, ln_uF, ai_uF, al_uF, ar_uF, zs_uF, fd_uF, kd_uA, ln_uA, fd_uA, al_uA, ar_uA, zs_uA, ai_uA, kd_uL, ln_uL, fd_uL, ai_uL, ar_uL, zs_uL, al_uL, kd_uR, ln_uR, fd_uR, ai_uR, al_uR, zs_uR, ar_uR, true_and, and_true, Option.toList_some, Option.toList_none, List.cons_append, List.nil_append, catS_nil, catS_int, catS_ref, catS_null, catS_long, cat_int, cat_ref, cat_null, Nat.reduceEqDiff, Nat.reduceLeDiff, Nat.reduceAdd, false_and, and_false, if_false, if_true, ite_true, ite_false, true_or, or_true, false_or, or_false, and_self, forall_const, true_implies, reduceCtorEq, clr_int, clr_ref, clr_null, clr_none, clr_long, va_rf_some, va_rf_none]
      exact ⟨j29 _ (by unfold c_poke; rw [e1, f1]), fun q => absurd trivial q⟩
  · simp only [↓s_84_8, ↓s_84_8n, ↓s_84_10, ↓s_84_10n, ↓s_84_12, ↓s_84_12n, ↓s_84_15, ↓s_84_16, kd_uF, ln_uF, ai_uF, al_uF, ar_uF, zs_uF, fd_uF, kd_uA, ln_uA, fd_uA, al_uA, ar_uA, zs_uA, ai_uA, kd_uL, ln_uL, fd_uL, ai_uL, ar_uL, zs_uL, al_uL, kd_uR, ln_uR, fd_uR, ai_uR, al_uR, zs_uR, ar_uR, true_and, and_true, Option.toList_some, Option.toList_none, List.cons_append, List.nil_append, catS_nil, catS_int, catS_ref, catS_null, catS_long, cat_int, cat_ref, cat_null, Nat.reduceEqDiff, Nat.reduceLeDiff, Nat.reduceAdd, false_and, and_false, if_false, if_true, ite_true, ite_false, true_or, or_true, false_or, or_false, and_self, forall_const, true_implies, reduceCtorEq, clr_int, clr_ref, clr_null, clr_none, clr_long, va_rf_some, va_rf_none]
    exact j29 _ (by unfold c_poke; rw [e1])
theorem sp_C_peek {d : Nat} {w : aw} {x : Nat} {u a : Int32} {H : hs} {Q : wQ} (hM : CM w x H) (hI : HI H) (h : Q (some (.int (c_peek H u a))) w) : wpD (d + 2) 85 [.ref x, .int u, .int a] w Q := by
  refine ⟨Nat.le_of_ble_eq_true rfl, ?_⟩
  show wp (d + 1) 85 Q 0 [some (.ref x), some (.int u), some (.int a), none] [] w 0 0
  have h8 := hI.1
  have kx := hM.1
  have fx := hM.2.1
  have kh := hM.2.2.1.1
  have j20 : ∀ L, c_peek H u a = -1 → wp (d + 1) 85 Q 20 [some (.ref x), some (.int u), some (.int a), L] [] w 0 0 := by
    intro L hc
    rw [hc] at h
    simp only [↓s_85_20, ↓s_85_21, ↓s_85_30, kd_uF, ln_uF, ai_uF, al_uF, ar_uF, zs_uF, fd_uF, kd_uA, ln_uA, fd_uA, al_uA, ar_uA, zs_uA, ai_uA, kd_uL, ln_uL, fd_uL, ai_uL, ar_uL, zs_uL, al_uL, kd_uR, ln_uR, fd_uR, ai_uR, al_uR, zs_uR, ar_uR, true_and, and_true, Option.toList_some, Option.toList_none, List.cons_append, List.nil_append, catS_nil, catS_int, catS_ref, catS_null, catS_long, cat_int, cat_ref, cat_null, Nat.reduceEqDiff, Nat.reduceLeDiff, Nat.reduceAdd, false_and, and_false, if_false, if_true, ite_true, ite_false, true_or, or_true, false_or, or_false, and_self, forall_const, true_implies, reduceCtorEq, clr_int, clr_ref, clr_null, clr_none, clr_long, va_rf_some, va_rf_none]
    exact h
  simp only [↓s_85_0, ↓s_85_1, ↓s_85_4, ↓s_85_5, kd_uF, ln_uF, ai_uF, al_uF, ar_uF, zs_uF, fd_uF, kd_uA, ln_uA, fd_uA, al_uA, ar_uA, zs_uA, ai_uA, kd_uL, ln_uL, fd_uL, ai_uL, ar_uL, zs_uL, al_uL, kd_uR, ln_uR, fd_uR, ai_uR, al_uR, zs_uR, ar_uR, true_and, and_true, Option.toList_some, Option.toList_none, List.cons_append, List.nil_append, catS_nil, catS_int, catS_ref, catS_null, catS_long, cat_int, cat_ref, cat_null, Nat.reduceEqDiff, Nat.reduceLeDiff, Nat.reduceAdd, false_and, and_false, if_false, if_true, ite_true, ite_false, true_or, or_true, false_or, or_false, and_self, forall_const, true_implies, reduceCtorEq, clr_int, clr_ref, clr_null, clr_none, clr_long, va_rf_some, va_rf_none, kx, fx, kh]
  refine sp_C_userAt hM.2.2 h8 (fun k e1 e2 e3 => ?_) (fun e1 => ?_)
  · simp only [↓s_85_8, ↓s_85_8n, ↓s_85_9, ↓s_85_9n, ↓s_85_10, ↓s_85_10n, ↓s_85_13, ↓s_85_14, kd_uF, ln_uF, ai_uF, al_uF, ar_uF, zs_uF, fd_uF, kd_uA, ln_uA, fd_uA, al_uA, ar_uA, zs_uA, ai_uA, kd_uL, ln_uL, fd_uL, ai_uL, ar_uL, zs_uL, al_uL, kd_uR, ln_uR, fd_uR, ai_uR, al_uR, zs_uR, ar_uR, true_and, and_true, Option.toList_some, Option.toList_none, List.cons_append, List.nil_append, catS_nil, catS_int, catS_ref, catS_null, catS_long, cat_int, cat_ref, cat_null, Nat.reduceEqDiff, Nat.reduceLeDiff, Nat.reduceAdd, false_and, and_false, if_false, if_true, ite_true, ite_false, true_or, or_true, false_or, or_false, and_self, forall_const, true_implies, reduceCtorEq, clr_int, clr_ref, clr_null, clr_none, clr_long, va_rf_some, va_rf_none]
    refine sp_C_isWord (fun p f1 f2 f3 => ?_) (fun f1 => ?_)
    · have hc : c_peek H u a = nI (uMm (H.2.2 k) p) := by unfold c_peek; rw [e1, f1]
      rw [hc] at h
      have hu := hM.u (show k < 8 by omega)
      obtain ⟨y0, y1, y2, y3, y4, y5, y6, z0, z1, z2, z3, z4, z5, z6, z7, z8, z9, mw1, mw2, mw3, fw1, fw2, fw3, pw1, pw2, pw3, lin, lou⟩ := hu
      rw [f3]
      simp only [↓s_85_17, ↓s_85_24, ↓s_85_24n, ↓s_85_25, ↓s_85_28, ↓s_85_29, ↓s_85_30, kd_uF, ln_uF, ai_uF, al_uF, ar_uF, zs_uF, fd_uF, kd_uA, ln_uA, fd_uA, al_uA, ar_uA, zs_uA, ai_uA, kd_uL, ln_uL, fd_uL, ai_uL, ar_uL, zs_uL, al_uL, kd_uR, ln_uR, fd_uR, ai_uR, al_uR, zs_uR, ar_uR, true_and, and_true, Option.toList_some, Option.toList_none, List.cons_append, List.nil_append, catS_nil, catS_int, catS_ref, catS_null, catS_long, cat_int, cat_ref, cat_null, Nat.reduceEqDiff, Nat.reduceLeDiff, Nat.reduceAdd, false_and, and_false, if_false, if_true, ite_true, ite_false, true_or, or_true, false_or, or_false, and_self, forall_const, true_implies, reduceCtorEq, clr_int, clr_ref, clr_null, clr_none, clr_long, va_rf_some, va_rf_none, y0, y2, mw1, mw2, clN (show p < 2147483648 by omega), mw3]
      exact ⟨fun _ => ⟨inR_nI f2 (by decide), h⟩, fun q => absurd q (by decide)⟩
    · simp only [↓s_85_17, ↓s_85_24, ↓s_85_24n, ↓s_85_25, ↓s_85_28, ↓s_85_29, kd_uF, ln_uF, ai_uF, al_uF, ar_uF, zs_uF, fd_uF, kd_uA, ln_uA, fd_uA, al_uA, ar_uA, zs_uA, ai_uA, kd_uL, ln_uL, fd_uL, ai_uL, ar_uL, zs_uL, al_uL, kd_uR, ln_uR, fd_uR, ai_uR, al_uR, zs_uR, ar_uR, true_and, and_true, Option.toList_some, Option.toList_none, List.cons_append, List.nil_append, catS_nil, catS_int, catS_ref, catS_null, catS_long, cat_int, cat_ref, cat_null, Nat.reduceEqDiff, Nat.reduceLeDiff, Nat.reduceAdd, false_and, and_false, if_false, if_true, ite_true, ite_false, true_or, or_true, false_or, or_false, and_self, forall_const, true_implies, reduceCtorEq, clr_int, clr_ref, clr_null, clr_none, clr_long, va_rf_some, va_rf_none]
      exact ⟨fun q => absurd trivial q, j20 _ (by unfold c_peek; rw [e1, f1])⟩
  · simp only [↓s_85_8, ↓s_85_8n, ↓s_85_9, ↓s_85_9n, ↓s_85_10, ↓s_85_10n, ↓s_85_13, ↓s_85_14, kd_uF, ln_uF, ai_uF, al_uF, ar_uF, zs_uF, fd_uF, kd_uA, ln_uA, fd_uA, al_uA, ar_uA, zs_uA, ai_uA, kd_uL, ln_uL, fd_uL, ai_uL, ar_uL, zs_uL, al_uL, kd_uR, ln_uR, fd_uR, ai_uR, al_uR, zs_uR, ar_uR, true_and, and_true, Option.toList_some, Option.toList_none, List.cons_append, List.nil_append, catS_nil, catS_int, catS_ref, catS_null, catS_long, cat_int, cat_ref, cat_null, Nat.reduceEqDiff, Nat.reduceLeDiff, Nat.reduceAdd, false_and, and_false, if_false, if_true, ite_true, ite_false, true_or, or_true, false_or, or_false, and_self, forall_const, true_implies, reduceCtorEq, clr_int, clr_ref, clr_null, clr_none, clr_long, va_rf_some, va_rf_none]
    exact j20 _ (by unfold c_peek; rw [e1])
theorem place_c (p q : Nat) : nI p * (128 : Int32) + nI q = nI (128 * p + q) := by
  rw [show (128 : Int32) = nI 128 from rfl, pk_mul, nI_add, Nat.mul_comm]
theorem sp_C_store {d : Nat} {w : aw} {x : Nat} {u b i v : Int32} {H : hs} {Q : wQ} (hM : CM w x H) (hI : HI H) (h : ∀ w', CM w' x (c_store H u b i v).2 → Fr w w' (x + 12) (x + 80) → Q (some (.int (c_store H u b i v).1)) w') : wpD (d + 3) 86 [.ref x, .int u, .int b, .int i, .int v] w Q := by
  refine ⟨Nat.le_of_ble_eq_true rfl, ?_⟩
  show wp (d + 2) 86 Q 0 [some (.ref x), some (.int u), some (.int b), some (.int i), some (.int v), none] [] w 0 0
  have h8 := hI.1
  have kx := hM.1
  have fx := hM.2.1
  have kh := hM.2.2.1.1
  have j31 : ∀ L, c_store H u b i v = (-1, H) → wp (d + 2) 86 Q 31 [some (.ref x), some (.int u), some (.int b), some (.int i), some (.int v), L] [] w 0 0 := by
    intro L hc
    rw [hc] at h
    simp only [↓s_86_31, ↓s_86_32, kd_uF, ln_uF, ai_uF, al_uF, ar_uF, zs_uF, fd_uF, kd_uA, ln_uA, fd_uA, al_uA, ar_uA, zs_uA, ai_uA, kd_uL, ln_uL, fd_uL, ai_uL, ar_uL, zs_uL, al_uL, kd_uR, ln_uR, fd_uR, ai_uR, al_uR, zs_uR, ar_uR, true_and, and_true, Option.toList_some, Option.toList_none, List.cons_append, List.nil_append, catS_nil, catS_int, catS_ref, catS_null, catS_long, cat_int, cat_ref, cat_null, Nat.reduceEqDiff, Nat.reduceLeDiff, Nat.reduceAdd, false_and, and_false, if_false, if_true, ite_true, ite_false, true_or, or_true, false_or, or_false, and_self, forall_const, true_implies, reduceCtorEq, clr_int, clr_ref, clr_null, clr_none, clr_long, va_rf_some, va_rf_none]
    exact h w hM Fr.rf
  simp only [↓s_86_0, ↓s_86_1, ↓s_86_4, ↓s_86_5, kd_uF, ln_uF, ai_uF, al_uF, ar_uF, zs_uF, fd_uF, kd_uA, ln_uA, fd_uA, al_uA, ar_uA, zs_uA, ai_uA, kd_uL, ln_uL, fd_uL, ai_uL, ar_uL, zs_uL, al_uL, kd_uR, ln_uR, fd_uR, ai_uR, al_uR, zs_uR, ar_uR, true_and, and_true, Option.toList_some, Option.toList_none, List.cons_append, List.nil_append, catS_nil, catS_int, catS_ref, catS_null, catS_long, cat_int, cat_ref, cat_null, Nat.reduceEqDiff, Nat.reduceLeDiff, Nat.reduceAdd, false_and, and_false, if_false, if_true, ite_true, ite_false, true_or, or_true, false_or, or_false, and_self, forall_const, true_implies, reduceCtorEq, clr_int, clr_ref, clr_null, clr_none, clr_long, va_rf_some, va_rf_none, kx, fx, kh]
  refine sp_C_userAt hM.2.2 h8 (fun k e1 e2 e3 => ?_) (fun e1 => ?_)
  · simp only [↓s_86_8, ↓s_86_8n, ↓s_86_10, ↓s_86_10n, ↓s_86_12, ↓s_86_12n, ↓s_86_15, ↓s_86_16, ↓s_86_17, kd_uF, ln_uF, ai_uF, al_uF, ar_uF, zs_uF, fd_uF, kd_uA, ln_uA, fd_uA, al_uA, ar_uA, zs_uA, ai_uA, kd_uL, ln_uL, fd_uL, ai_uL, ar_uL, zs_uL, al_uL, kd_uR, ln_uR, fd_uR, ai_uR, al_uR, zs_uR, ar_uR, true_and, and_true, Option.toList_some, Option.toList_none, List.cons_append, List.nil_append, catS_nil, catS_int, catS_ref, catS_null, catS_long, cat_int, cat_ref, cat_null, Nat.reduceEqDiff, Nat.reduceLeDiff, Nat.reduceAdd, false_and, and_false, if_false, if_true, ite_true, ite_false, true_or, or_true, false_or, or_false, and_self, forall_const, true_implies, reduceCtorEq, clr_int, clr_ref, clr_null, clr_none, clr_long, va_rf_some, va_rf_none]
    refine sp_C_inFile (fun p q f1 f2 f3 f4 f5 f6 => ?_) (fun f1 => ?_)
    · have hp : c_place H u b i = some (k, 128 * p + q) := by unfold c_place; rw [e1, f1, f2]
      simp only [↓s_86_20, ↓s_86_23, ↓s_86_25, kd_uF, ln_uF, ai_uF, al_uF, ar_uF, zs_uF, fd_uF, kd_uA, ln_uA, fd_uA, al_uA, ar_uA, zs_uA, ai_uA, kd_uL, ln_uL, fd_uL, ai_uL, ar_uL, zs_uL, al_uL, kd_uR, ln_uR, fd_uR, ai_uR, al_uR, zs_uR, ar_uR, true_and, and_true, Option.toList_some, Option.toList_none, List.cons_append, List.nil_append, catS_nil, catS_int, catS_ref, catS_null, catS_long, cat_int, cat_ref, cat_null, Nat.reduceEqDiff, Nat.reduceLeDiff, Nat.reduceAdd, false_and, and_false, if_false, if_true, ite_true, ite_false, true_or, or_true, false_or, or_false, and_self, forall_const, true_implies, reduceCtorEq, clr_int, clr_ref, clr_null, clr_none, clr_long, va_rf_some, va_rf_none]
      refine ⟨fun q => absurd q (by decide), fun _ => sp_C_isWord (fun y g1 g2 g3 => ?_) (fun g1 => ?_)⟩
      · have hc : c_store H u b i v = (1, hU H k (uFil (H.2.2 k) (128 * p + q) y)) := by unfold c_store; rw [hp, g1]
        rw [hc] at h
        have hu := hM.u (show k < 8 by omega)
        have hu0 := hu
        obtain ⟨y0, y1, y2, y3, y4, y5, y6, z0, z1, z2, z3, z4, z5, z6, z7, z8, z9, mw1, mw2, mw3, fw1, fw2, fw3, pw1, pw2, pw3, lin, lou⟩ := hu
        rw [f5, f6, g3]
        simp only [↓s_86_28, ↓s_86_33, ↓s_86_33n, ↓s_86_35, ↓s_86_38, ↓s_86_39, ↓s_86_42, ↓s_86_43, ↓s_86_44, ↓s_86_45, ↓s_86_47, ↓s_86_48, ↓s_86_49, kd_uF, ln_uF, ai_uF, al_uF, ar_uF, zs_uF, fd_uF, kd_uA, ln_uA, fd_uA, al_uA, ar_uA, zs_uA, ai_uA, kd_uL, ln_uL, fd_uL, ai_uL, ar_uL, zs_uL, al_uL, kd_uR, ln_uR, fd_uR, ai_uR, al_uR, zs_uR, ar_uR, true_and, and_true, Option.toList_some, Option.toList_none, List.cons_append, List.nil_append, catS_nil, catS_int, catS_ref, catS_null, catS_long, cat_int, cat_ref, cat_null, Nat.reduceEqDiff, Nat.reduceLeDiff, Nat.reduceAdd, false_and, and_false, if_false, if_true, ite_true, ite_false, true_or, or_true, false_or, or_false, and_self, forall_const, true_implies, reduceCtorEq, clr_int, clr_ref, clr_null, clr_none, clr_long, va_rf_some, va_rf_none, y0, y3, fw1, fw2, place_c, clN (show 128 * p + q < 2147483648 by omega)]
        refine ⟨fun _ => ⟨inR_nI (by omega) (by decide), ?_⟩, fun q => absurd q (by decide)⟩
        have f9 : FrU w (uA w (ub (x + 12) k + 2) (128 * p + q) (nI y)) (ub (x + 12) k) := FrU.rf.A (by decide)
        exact h _ (hM.U (by omega) f9 hu0.Fil rfl) (f9.H (by omega))
      · simp only [↓s_86_28, ↓s_86_33, ↓s_86_33n, ↓s_86_35, ↓s_86_38, ↓s_86_39, ↓s_86_42, ↓s_86_43, ↓s_86_44, ↓s_86_45, ↓s_86_47, ↓s_86_48, ↓s_86_49, kd_uF, ln_uF, ai_uF, al_uF, ar_uF, zs_uF, fd_uF, kd_uA, ln_uA, fd_uA, al_uA, ar_uA, zs_uA, ai_uA, kd_uL, ln_uL, fd_uL, ai_uL, ar_uL, zs_uL, al_uL, kd_uR, ln_uR, fd_uR, ai_uR, al_uR, zs_uR, ar_uR, true_and, and_true, Option.toList_some, Option.toList_none, List.cons_append, List.nil_append, catS_nil, catS_int, catS_ref, catS_null, catS_long, cat_int, cat_ref, cat_null, Nat.reduceEqDiff, Nat.reduceLeDiff, Nat.reduceAdd, false_and, and_false, if_false, if_true, ite_true, ite_false, true_or, or_true, false_or, or_false, and_self, forall_const, true_implies, reduceCtorEq, clr_int, clr_ref, clr_null, clr_none, clr_long, va_rf_some, va_rf_none]
        exact ⟨fun q => absurd trivial q, j31 _ (by unfold c_store; rw [hp, g1])⟩
    · have hp : c_place H u b i = none := by
        unfold c_place
        rcases f1 with f1 | f1
        · rw [e1, f1]
        · rw [e1, f1]; cases rg b 32 <;> rfl
      simp only [↓s_86_20, ↓s_86_23, ↓s_86_25, kd_uF, ln_uF, ai_uF, al_uF, ar_uF, zs_uF, fd_uF, kd_uA, ln_uA, fd_uA, al_uA, ar_uA, zs_uA, ai_uA, kd_uL, ln_uL, fd_uL, ai_uL, ar_uL, zs_uL, al_uL, kd_uR, ln_uR, fd_uR, ai_uR, al_uR, zs_uR, ar_uR, true_and, and_true, Option.toList_some, Option.toList_none, List.cons_append, List.nil_append, catS_nil, catS_int, catS_ref, catS_null, catS_long, cat_int, cat_ref, cat_null, Nat.reduceEqDiff, Nat.reduceLeDiff, Nat.reduceAdd, false_and, and_false, if_false, if_true, ite_true, ite_false, true_or, or_true, false_or, or_false, and_self, forall_const, true_implies, reduceCtorEq, clr_int, clr_ref, clr_null, clr_none, clr_long, va_rf_some, va_rf_none]
      exact ⟨j31 _ (by unfold c_store; rw [hp]), fun q => absurd trivial q⟩
  · have hp : c_place H u b i = none := by unfold c_place; rw [e1]
    simp only [↓s_86_8, ↓s_86_8n, ↓s_86_10, ↓s_86_10n, ↓s_86_12, ↓s_86_12n, ↓s_86_15, ↓s_86_16, ↓s_86_17, kd_uF, ln_uF, ai_uF, al_uF, ar_uF, zs_uF, fd_uF, kd_uA, ln_uA, fd_uA, al_uA, ar_uA, zs_uA, ai_uA, kd_uL, ln_uL, fd_uL, ai_uL, ar_uL, zs_uL, al_uL, kd_uR, ln_uR, fd_uR, ai_uR, al_uR, zs_uR, ar_uR, true_and, and_true, Option.toList_some, Option.toList_none, List.cons_append, List.nil_append, catS_nil, catS_int, catS_ref, catS_null, catS_long, cat_int, cat_ref, cat_null, Nat.reduceEqDiff, Nat.reduceLeDiff, Nat.reduceAdd, false_and, and_false, if_false, if_true, ite_true, ite_false, true_or, or_true, false_or, or_false, and_self, forall_const, true_implies, reduceCtorEq, clr_int, clr_ref, clr_null, clr_none, clr_long, va_rf_some, va_rf_none]
    exact j31 _ (by unfold c_store; rw [hp])
theorem sp_C_block {d : Nat} {w : aw} {x : Nat} {u b i : Int32} {H : hs} {Q : wQ} (hM : CM w x H) (hI : HI H) (h : Q (some (.int (c_block H u b i))) w) : wpD (d + 3) 87 [.ref x, .int u, .int b, .int i] w Q := by
  refine ⟨Nat.le_of_ble_eq_true rfl, ?_⟩
  show wp (d + 2) 87 Q 0 [some (.ref x), some (.int u), some (.int b), some (.int i), none] [] w 0 0
  have h8 := hI.1
  have kx := hM.1
  have fx := hM.2.1
  have kh := hM.2.2.1.1
  have j23 : ∀ L, c_block H u b i = -1 → wp (d + 2) 87 Q 23 [some (.ref x), some (.int u), some (.int b), some (.int i), L] [] w 0 0 := by
    intro L hc
    rw [hc] at h
    simp only [↓s_87_23, ↓s_87_24, ↓s_87_40, kd_uF, ln_uF, ai_uF, al_uF, ar_uF, zs_uF, fd_uF, kd_uA, ln_uA, fd_uA, al_uA, ar_uA, zs_uA, ai_uA, kd_uL, ln_uL, fd_uL, ai_uL, ar_uL, zs_uL, al_uL, kd_uR, ln_uR, fd_uR, ai_uR, al_uR, zs_uR, ar_uR, true_and, and_true, Option.toList_some, Option.toList_none, List.cons_append, List.nil_append, catS_nil, catS_int, catS_ref, catS_null, catS_long, cat_int, cat_ref, cat_null, Nat.reduceEqDiff, Nat.reduceLeDiff, Nat.reduceAdd, false_and, and_false, if_false, if_true, ite_true, ite_false, true_or, or_true, false_or, or_false, and_self, forall_const, true_implies, reduceCtorEq, clr_int, clr_ref, clr_null, clr_none, clr_long, va_rf_some, va_rf_none]
    exact h
  simp only [↓s_87_0, ↓s_87_1, ↓s_87_4, ↓s_87_5, kd_uF, ln_uF, ai_uF, al_uF, ar_uF, zs_uF, fd_uF, kd_uA, ln_uA, fd_uA, al_uA, ar_uA, zs_uA, ai_uA, kd_uL, ln_uL, fd_uL, ai_uL, ar_uL, zs_uL, al_uL, kd_uR, ln_uR, fd_uR, ai_uR, al_uR, zs_uR, ar_uR, true_and, and_true, Option.toList_some, Option.toList_none, List.cons_append, List.nil_append, catS_nil, catS_int, catS_ref, catS_null, catS_long, cat_int, cat_ref, cat_null, Nat.reduceEqDiff, Nat.reduceLeDiff, Nat.reduceAdd, false_and, and_false, if_false, if_true, ite_true, ite_false, true_or, or_true, false_or, or_false, and_self, forall_const, true_implies, reduceCtorEq, clr_int, clr_ref, clr_null, clr_none, clr_long, va_rf_some, va_rf_none, kx, fx, kh]
  refine sp_C_userAt hM.2.2 h8 (fun k e1 e2 e3 => ?_) (fun e1 => ?_)
  · simp only [↓s_87_8, ↓s_87_8n, ↓s_87_10, ↓s_87_10n, ↓s_87_12, ↓s_87_12n, ↓s_87_15, ↓s_87_16, ↓s_87_17, kd_uF, ln_uF, ai_uF, al_uF, ar_uF, zs_uF, fd_uF, kd_uA, ln_uA, fd_uA, al_uA, ar_uA, zs_uA, ai_uA, kd_uL, ln_uL, fd_uL, ai_uL, ar_uL, zs_uL, al_uL, kd_uR, ln_uR, fd_uR, ai_uR, al_uR, zs_uR, ar_uR, true_and, and_true, Option.toList_some, Option.toList_none, List.cons_append, List.nil_append, catS_nil, catS_int, catS_ref, catS_null, catS_long, cat_int, cat_ref, cat_null, Nat.reduceEqDiff, Nat.reduceLeDiff, Nat.reduceAdd, false_and, and_false, if_false, if_true, ite_true, ite_false, true_or, or_true, false_or, or_false, and_self, forall_const, true_implies, reduceCtorEq, clr_int, clr_ref, clr_null, clr_none, clr_long, va_rf_some, va_rf_none]
    refine sp_C_inFile (fun p q f1 f2 f3 f4 f5 f6 => ?_) (fun f1 => ?_)
    · have hp : c_place H u b i = some (k, 128 * p + q) := by unfold c_place; rw [e1, f1, f2]
      have hc : c_block H u b i = nI (uFf (H.2.2 k) (128 * p + q)) := by unfold c_block; rw [hp]
      rw [hc] at h
      have hu := hM.u (show k < 8 by omega)
      obtain ⟨y0, y1, y2, y3, y4, y5, y6, z0, z1, z2, z3, z4, z5, z6, z7, z8, z9, mw1, mw2, mw3, fw1, fw2, fw3, pw1, pw2, pw3, lin, lou⟩ := hu
      rw [f5, f6]
      simp only [↓s_87_20, ↓s_87_27, ↓s_87_27n, ↓s_87_29, ↓s_87_32, ↓s_87_33, ↓s_87_36, ↓s_87_37, ↓s_87_38, ↓s_87_39, ↓s_87_40, kd_uF, ln_uF, ai_uF, al_uF, ar_uF, zs_uF, fd_uF, kd_uA, ln_uA, fd_uA, al_uA, ar_uA, zs_uA, ai_uA, kd_uL, ln_uL, fd_uL, ai_uL, ar_uL, zs_uL, al_uL, kd_uR, ln_uR, fd_uR, ai_uR, al_uR, zs_uR, ar_uR, true_and, and_true, Option.toList_some, Option.toList_none, List.cons_append, List.nil_append, catS_nil, catS_int, catS_ref, catS_null, catS_long, cat_int, cat_ref, cat_null, Nat.reduceEqDiff, Nat.reduceLeDiff, Nat.reduceAdd, false_and, and_false, if_false, if_true, ite_true, ite_false, true_or, or_true, false_or, or_false, and_self, forall_const, true_implies, reduceCtorEq, clr_int, clr_ref, clr_null, clr_none, clr_long, va_rf_some, va_rf_none, y0, y3, fw1, fw2, place_c, clN (show 128 * p + q < 2147483648 by omega), fw3]
      exact ⟨fun _ => ⟨inR_nI (by omega) (by decide), h⟩, fun q => absurd q (by decide)⟩
    · have hp : c_place H u b i = none := by
        unfold c_place
        rcases f1 with f1 | f1
        · rw [e1, f1]
        · rw [e1, f1]; cases rg b 32 <;> rfl
      simp only [↓s_87_20, ↓s_87_27, ↓s_87_27n, ↓s_87_29, ↓s_87_32, ↓s_87_33, ↓s_87_36, ↓s_87_37, ↓s_87_38, ↓s_87_39, kd_uF, ln_uF, ai_uF, al_uF, ar_uF, zs_uF, fd_uF, kd_uA, ln_uA, fd_uA, al_uA, ar_uA, zs_uA, ai_uA, kd_uL, ln_uL, fd_uL, ai_uL, ar_uL, zs_uL, al_uL, kd_uR, ln_uR, fd_uR, ai_uR, al_uR, zs_uR, ar_uR, true_and, and_true, Option.toList_some, Option.toList_none, List.cons_append, List.nil_append, catS_nil, catS_int, catS_ref, catS_null, catS_long, cat_int, cat_ref, cat_null, Nat.reduceEqDiff, Nat.reduceLeDiff, Nat.reduceAdd, false_and, and_false, if_false, if_true, ite_true, ite_false, true_or, or_true, false_or, or_false, and_self, forall_const, true_implies, reduceCtorEq, clr_int, clr_ref, clr_null, clr_none, clr_long, va_rf_some, va_rf_none]
      exact ⟨fun q => absurd trivial q, j23 _ (by unfold c_block; rw [hp])⟩
  · have hp : c_place H u b i = none := by unfold c_place; rw [e1]
    simp only [↓s_87_8, ↓s_87_8n, ↓s_87_10, ↓s_87_10n, ↓s_87_12, ↓s_87_12n, ↓s_87_15, ↓s_87_16, ↓s_87_17, kd_uF, ln_uF, ai_uF, al_uF, ar_uF, zs_uF, fd_uF, kd_uA, ln_uA, fd_uA, al_uA, ar_uA, zs_uA, ai_uA, kd_uL, ln_uL, fd_uL, ai_uL, ar_uL, zs_uL, al_uL, kd_uR, ln_uR, fd_uR, ai_uR, al_uR, zs_uR, ar_uR, true_and, and_true, Option.toList_some, Option.toList_none, List.cons_append, List.nil_append, catS_nil, catS_int, catS_ref, catS_null, catS_long, cat_int, cat_ref, cat_null, Nat.reduceEqDiff, Nat.reduceLeDiff, Nat.reduceAdd, false_and, and_false, if_false, if_true, ite_true, ite_false, true_or, or_true, false_or, or_false, and_self, forall_const, true_implies, reduceCtorEq, clr_int, clr_ref, clr_null, clr_none, clr_long, va_rf_some, va_rf_none]
    exact j23 _ (by unfold c_block; rw [hp])
theorem sp_C_switches {d : Nat} {w : aw} {x : Nat} {u v : Int32} {H : hs} {Q : wQ} (hM : CM w x H) (hI : HI H) (h : ∀ w', CM w' x (c_switches H u v).2 → Fr w w' (x + 12) (x + 80) → Q (some (.int (c_switches H u v).1)) w') : wpD (d + 2) 88 [.ref x, .int u, .int v] w Q := by
  refine ⟨Nat.le_of_ble_eq_true rfl, ?_⟩
  show wp (d + 1) 88 Q 0 [some (.ref x), some (.int u), some (.int v), none] [] w 0 0
  have h8 := hI.1
  have kx := hM.1
  have fx := hM.2.1
  have kh := hM.2.2.1.1
  have j20 : ∀ L, c_switches H u v = (-1, H) → wp (d + 1) 88 Q 20 [some (.ref x), some (.int u), some (.int v), L] [] w 0 0 := by
    intro L hc
    rw [hc] at h
    simp only [↓s_88_20, ↓s_88_21, kd_uF, ln_uF, ai_uF, al_uF, ar_uF, zs_uF, fd_uF, kd_uA, ln_uA, fd_uA, al_uA, ar_uA, zs_uA, ai_uA, kd_uL, ln_uL, fd_uL, ai_uL, ar_uL, zs_uL, al_uL, kd_uR, ln_uR, fd_uR, ai_uR, al_uR, zs_uR, ar_uR, true_and, and_true, Option.toList_some, Option.toList_none, List.cons_append, List.nil_append, catS_nil, catS_int, catS_ref, catS_null, catS_long, cat_int, cat_ref, cat_null, Nat.reduceEqDiff, Nat.reduceLeDiff, Nat.reduceAdd, false_and, and_false, if_false, if_true, ite_true, ite_false, true_or, or_true, false_or, or_false, and_self, forall_const, true_implies, reduceCtorEq, clr_int, clr_ref, clr_null, clr_none, clr_long, va_rf_some, va_rf_none]
    exact h w hM Fr.rf
  simp only [↓s_88_0, ↓s_88_1, ↓s_88_4, ↓s_88_5, kd_uF, ln_uF, ai_uF, al_uF, ar_uF, zs_uF, fd_uF, kd_uA, ln_uA, fd_uA, al_uA, ar_uA, zs_uA, ai_uA, kd_uL, ln_uL, fd_uL, ai_uL, ar_uL, zs_uL, al_uL, kd_uR, ln_uR, fd_uR, ai_uR, al_uR, zs_uR, ar_uR, true_and, and_true, Option.toList_some, Option.toList_none, List.cons_append, List.nil_append, catS_nil, catS_int, catS_ref, catS_null, catS_long, cat_int, cat_ref, cat_null, Nat.reduceEqDiff, Nat.reduceLeDiff, Nat.reduceAdd, false_and, and_false, if_false, if_true, ite_true, ite_false, true_or, or_true, false_or, or_false, and_self, forall_const, true_implies, reduceCtorEq, clr_int, clr_ref, clr_null, clr_none, clr_long, va_rf_some, va_rf_none, kx, fx, kh]
  refine sp_C_userAt hM.2.2 h8 (fun k e1 e2 e3 => ?_) (fun e1 => ?_)
  · simp only [↓s_88_8, ↓s_88_8n, ↓s_88_9, ↓s_88_9n, ↓s_88_10, ↓s_88_10n, ↓s_88_13, ↓s_88_14, kd_uF, ln_uF, ai_uF, al_uF, ar_uF, zs_uF, fd_uF, kd_uA, ln_uA, fd_uA, al_uA, ar_uA, zs_uA, ai_uA, kd_uL, ln_uL, fd_uL, ai_uL, ar_uL, zs_uL, al_uL, kd_uR, ln_uR, fd_uR, ai_uR, al_uR, zs_uR, ar_uR, true_and, and_true, Option.toList_some, Option.toList_none, List.cons_append, List.nil_append, catS_nil, catS_int, catS_ref, catS_null, catS_long, cat_int, cat_ref, cat_null, Nat.reduceEqDiff, Nat.reduceLeDiff, Nat.reduceAdd, false_and, and_false, if_false, if_true, ite_true, ite_false, true_or, or_true, false_or, or_false, and_self, forall_const, true_implies, reduceCtorEq, clr_int, clr_ref, clr_null, clr_none, clr_long, va_rf_some, va_rf_none]
    refine sp_C_isWord (fun p f1 f2 f3 => ?_) (fun f1 => ?_)
    · have hc : c_switches H u v = (1, hU H k (uS (H.2.2 k) 5 p)) := by unfold c_switches; rw [e1, f1]
      rw [hc] at h
      have hu := hM.u (show k < 8 by omega)
      have hu0 := hu
      obtain ⟨y0, y1, y2, y3, y4, y5, y6, z0, z1, z2, z3, z4, z5, z6, z7, z8, z9, mw1, mw2, mw3, fw1, fw2, fw3, pw1, pw2, pw3, lin, lou⟩ := hu
      rw [f3]
      simp only [↓s_88_17, ↓s_88_22, ↓s_88_22n, ↓s_88_23, ↓s_88_24, ↓s_88_27, ↓s_88_28, kd_uF, ln_uF, ai_uF, al_uF, ar_uF, zs_uF, fd_uF, kd_uA, ln_uA, fd_uA, al_uA, ar_uA, zs_uA, ai_uA, kd_uL, ln_uL, fd_uL, ai_uL, ar_uL, zs_uL, al_uL, kd_uR, ln_uR, fd_uR, ai_uR, al_uR, zs_uR, ar_uR, true_and, and_true, Option.toList_some, Option.toList_none, List.cons_append, List.nil_append, catS_nil, catS_int, catS_ref, catS_null, catS_long, cat_int, cat_ref, cat_null, Nat.reduceEqDiff, Nat.reduceLeDiff, Nat.reduceAdd, false_and, and_false, if_false, if_true, ite_true, ite_false, true_or, or_true, false_or, or_false, and_self, forall_const, true_implies, reduceCtorEq, clr_int, clr_ref, clr_null, clr_none, clr_long, va_rf_some, va_rf_none, y0]
      refine ⟨fun _ => ?_, fun q => absurd q (by decide)⟩
      have f9 : FrU w (uF w 393 (ub (x + 12) k) (.int (nI p))) (ub (x + 12) k) := FrU.rf.S5
      exact h _ (hM.U (by omega) f9 hu0.S5 (uS_ne (by decide))) (f9.H (by omega))
    · simp only [↓s_88_17, ↓s_88_22, ↓s_88_22n, ↓s_88_23, ↓s_88_24, ↓s_88_27, ↓s_88_28, kd_uF, ln_uF, ai_uF, al_uF, ar_uF, zs_uF, fd_uF, kd_uA, ln_uA, fd_uA, al_uA, ar_uA, zs_uA, ai_uA, kd_uL, ln_uL, fd_uL, ai_uL, ar_uL, zs_uL, al_uL, kd_uR, ln_uR, fd_uR, ai_uR, al_uR, zs_uR, ar_uR, true_and, and_true, Option.toList_some, Option.toList_none, List.cons_append, List.nil_append, catS_nil, catS_int, catS_ref, catS_null, catS_long, cat_int, cat_ref, cat_null, Nat.reduceEqDiff, Nat.reduceLeDiff, Nat.reduceAdd, false_and, and_false, if_false, if_true, ite_true, ite_false, true_or, or_true, false_or, or_false, and_self, forall_const, true_implies, reduceCtorEq, clr_int, clr_ref, clr_null, clr_none, clr_long, va_rf_some, va_rf_none]
      exact ⟨fun q => absurd trivial q, j20 _ (by unfold c_switches; rw [e1, f1])⟩
  · simp only [↓s_88_8, ↓s_88_8n, ↓s_88_9, ↓s_88_9n, ↓s_88_10, ↓s_88_10n, ↓s_88_13, ↓s_88_14, kd_uF, ln_uF, ai_uF, al_uF, ar_uF, zs_uF, fd_uF, kd_uA, ln_uA, fd_uA, al_uA, ar_uA, zs_uA, ai_uA, kd_uL, ln_uL, fd_uL, ai_uL, ar_uL, zs_uL, al_uL, kd_uR, ln_uR, fd_uR, ai_uR, al_uR, zs_uR, ar_uR, true_and, and_true, Option.toList_some, Option.toList_none, List.cons_append, List.nil_append, catS_nil, catS_int, catS_ref, catS_null, catS_long, cat_int, cat_ref, cat_null, Nat.reduceEqDiff, Nat.reduceLeDiff, Nat.reduceAdd, false_and, and_false, if_false, if_true, ite_true, ite_false, true_or, or_true, false_or, or_false, and_self, forall_const, true_implies, reduceCtorEq, clr_int, clr_ref, clr_null, clr_none, clr_long, va_rf_some, va_rf_none]
    exact j20 _ (by unfold c_switches; rw [e1])
theorem h_disp_4 {H : hs} : (h_disp H).1 4 % (h_disp H).1 3 = H.1 4 % H.1 3 := by rw [h_disp_0 (by omega), h_disp_0 (by omega)]
theorem sp_C_start {d : Nat} {w : aw} {x : Nat} {u a : Int32} {H : hs} {Q : wQ} (hM : CM w x H) (hI : HI H) (h : ∀ w', CM w' x (c_start H u a).2 → Fr w w' (x + 12) (x + 80) → Q (some (.int (c_start H u a).1)) w') : wpD (d + 3) 89 [.ref x, .int u, .int a] w Q := by
  refine ⟨Nat.le_of_ble_eq_true rfl, ?_⟩
  show wp (d + 2) 89 Q 0 [some (.ref x), some (.int u), some (.int a), none] [] w 0 0
  have h8 := hI.1
  have kx := hM.1
  have fx := hM.2.1
  have kh := hM.2.2.1.1
  have j20 : ∀ L, c_start H u a = (-1, H) → wp (d + 2) 89 Q 20 [some (.ref x), some (.int u), some (.int a), L] [] w 0 0 := by
    intro L hc
    rw [hc] at h
    simp only [↓s_89_20, ↓s_89_21, kd_uF, ln_uF, ai_uF, al_uF, ar_uF, zs_uF, fd_uF, kd_uA, ln_uA, fd_uA, al_uA, ar_uA, zs_uA, ai_uA, kd_uL, ln_uL, fd_uL, ai_uL, ar_uL, zs_uL, al_uL, kd_uR, ln_uR, fd_uR, ai_uR, al_uR, zs_uR, ar_uR, true_and, and_true, Option.toList_some, Option.toList_none, List.cons_append, List.nil_append, catS_nil, catS_int, catS_ref, catS_null, catS_long, cat_int, cat_ref, cat_null, Nat.reduceEqDiff, Nat.reduceLeDiff, Nat.reduceAdd, false_and, and_false, if_false, if_true, ite_true, ite_false, true_or, or_true, false_or, or_false, and_self, forall_const, true_implies, reduceCtorEq, clr_int, clr_ref, clr_null, clr_none, clr_long, va_rf_some, va_rf_none]
    exact h w hM Fr.rf
  simp only [↓s_89_0, ↓s_89_1, ↓s_89_4, ↓s_89_5, kd_uF, ln_uF, ai_uF, al_uF, ar_uF, zs_uF, fd_uF, kd_uA, ln_uA, fd_uA, al_uA, ar_uA, zs_uA, ai_uA, kd_uL, ln_uL, fd_uL, ai_uL, ar_uL, zs_uL, al_uL, kd_uR, ln_uR, fd_uR, ai_uR, al_uR, zs_uR, ar_uR, true_and, and_true, Option.toList_some, Option.toList_none, List.cons_append, List.nil_append, catS_nil, catS_int, catS_ref, catS_null, catS_long, cat_int, cat_ref, cat_null, Nat.reduceEqDiff, Nat.reduceLeDiff, Nat.reduceAdd, false_and, and_false, if_false, if_true, ite_true, ite_false, true_or, or_true, false_or, or_false, and_self, forall_const, true_implies, reduceCtorEq, clr_int, clr_ref, clr_null, clr_none, clr_long, va_rf_some, va_rf_none, kx, fx, kh]
  refine sp_C_userAt hM.2.2 h8 (fun k e1 e2 e3 => ?_) (fun e1 => ?_)
  · simp only [↓s_89_8, ↓s_89_8n, ↓s_89_9, ↓s_89_9n, ↓s_89_10, ↓s_89_10n, ↓s_89_13, ↓s_89_14, kd_uF, ln_uF, ai_uF, al_uF, ar_uF, zs_uF, fd_uF, kd_uA, ln_uA, fd_uA, al_uA, ar_uA, zs_uA, ai_uA, kd_uL, ln_uL, fd_uL, ai_uL, ar_uL, zs_uL, al_uL, kd_uR, ln_uR, fd_uR, ai_uR, al_uR, zs_uR, ar_uR, true_and, and_true, Option.toList_some, Option.toList_none, List.cons_append, List.nil_append, catS_nil, catS_int, catS_ref, catS_null, catS_long, cat_int, cat_ref, cat_null, Nat.reduceEqDiff, Nat.reduceLeDiff, Nat.reduceAdd, false_and, and_false, if_false, if_true, ite_true, ite_false, true_or, or_true, false_or, or_false, and_self, forall_const, true_implies, reduceCtorEq, clr_int, clr_ref, clr_null, clr_none, clr_long, va_rf_some, va_rf_none]
    refine sp_C_isWord (fun p f1 f2 f3 => ?_) (fun f1 => ?_)
    · have hc : c_start H u a = if (H.2.2 k).1 3 = 0 then (1, h_disp (h_ready (hU H k (uS (H.2.2 k) 0 p)) k)) else (0, H) := by unfold c_start; rw [e1, f1]
      rw [hc] at h
      have hu := hM.u (show k < 8 by omega)
      have hu0 := hu
      have b3 := (hi_ub hI k).2.2.2.1
      obtain ⟨y0, y1, y2, y3, y4, y5, y6, z0, z1, z2, z3, z4, z5, z6, z7, z8, z9, mw1, mw2, mw3, fw1, fw2, fw3, pw1, pw2, pw3, lin, lou⟩ := hu
      have ne : ¬ x = ub (x + 12) k := by unfold ub; omega
      rw [f3]
      simp only [↓s_89_17, ↓s_89_22, ↓s_89_22n, ↓s_89_23, ↓s_89_26, ↓s_89_29, ↓s_89_30, ↓s_89_31, ↓s_89_31n, ↓s_89_32, ↓s_89_33, ↓s_89_36, ↓s_89_37, ↓s_89_40, ↓s_89_40n, ↓s_89_41, kd_uF, ln_uF, ai_uF, al_uF, ar_uF, zs_uF, fd_uF, kd_uA, ln_uA, fd_uA, al_uA, ar_uA, zs_uA, ai_uA, kd_uL, ln_uL, fd_uL, ai_uL, ar_uL, zs_uL, al_uL, kd_uR, ln_uR, fd_uR, ai_uR, al_uR, zs_uR, ar_uR, true_and, and_true, Option.toList_some, Option.toList_none, List.cons_append, List.nil_append, catS_nil, catS_int, catS_ref, catS_null, catS_long, cat_int, cat_ref, cat_null, Nat.reduceEqDiff, Nat.reduceLeDiff, Nat.reduceAdd, false_and, and_false, if_false, if_true, ite_true, ite_false, true_or, or_true, false_or, or_false, and_self, forall_const, true_implies, reduceCtorEq, clr_int, clr_ref, clr_null, clr_none, clr_long, va_rf_some, va_rf_none, y0, z3, kx, fx, kh, eq_false ne, and_false, if_false]
      rw [show (0 : Int32) = nI 0 from rfl, nI_eq (by omega) (by decide)]
      refine ⟨fun _ => ⟨fun q => ?_, fun q => ?_⟩, fun q => absurd q (by decide)⟩
      · rw [if_pos q] at h
        have f9 : FrU w (uF w 390 (ub (x + 12) k) (.int (nI p))) (ub (x + 12) k) := FrU.rf.S0
        have c1 := hM.U (by omega) f9 hu0.S0 (uS_ne (by decide))
        have hI1 : HI (hU H k (uS (H.2.2 k) 0 p)) := hI.U ((hi_ub hI k).S0 f2) (uS_ne (by decide)) (fun q2 => by rw [uS_ne (by decide)] at q2; omega)
        have s3 : ((hU H k (uS (H.2.2 k) 0 p)).2.2 k).1 3 = 0 := by rw [hU_at, uS_ne (by decide)]; exact q
        refine sp_C_ready c1.2.2 (by omega) (hI1.len' (u := k) e2 (by omega)) (fun w1 g1 g2 => ?_)
        have fr1 : Fr w w1 (x + 12) (x + 80) := (f9.H (by omega)).tr g2
        have kx1 : kd w1 x = 8 := (fr1.1 x).trans kx
        have fx1 : fd w1 450 x = .ref (x + 12) := ((fr1.2.2.2 x (by omega)).1 _).trans fx
        have kh1 := g1.1.1
        have hI2 : HI (h_ready (hU H k (uS (H.2.2 k) 0 p)) k) := hI1.ready e2 (by omega) (hI1.run (by omega))
        simp only [↓s_89_44, ↓s_89_45, ↓s_89_48, kd_uF, ln_uF, ai_uF, al_uF, ar_uF, zs_uF, fd_uF, kd_uA, ln_uA, fd_uA, al_uA, ar_uA, zs_uA, ai_uA, kd_uL, ln_uL, fd_uL, ai_uL, ar_uL, zs_uL, al_uL, kd_uR, ln_uR, fd_uR, ai_uR, al_uR, zs_uR, ar_uR, true_and, and_true, Option.toList_some, Option.toList_none, List.cons_append, List.nil_append, catS_nil, catS_int, catS_ref, catS_null, catS_long, cat_int, cat_ref, cat_null, Nat.reduceEqDiff, Nat.reduceLeDiff, Nat.reduceAdd, false_and, and_false, if_false, if_true, ite_true, ite_false, true_or, or_true, false_or, or_false, and_self, forall_const, true_implies, reduceCtorEq, clr_int, clr_ref, clr_null, clr_none, clr_long, va_rf_some, va_rf_none, kx1, fx1, kh1]
        refine sp_C_choose g1 hI2 (fun w2 i1 i2 => ?_)
        simp only [↓s_89_51, ↓s_89_52, kd_uF, ln_uF, ai_uF, al_uF, ar_uF, zs_uF, fd_uF, kd_uA, ln_uA, fd_uA, al_uA, ar_uA, zs_uA, ai_uA, kd_uL, ln_uL, fd_uL, ai_uL, ar_uL, zs_uL, al_uL, kd_uR, ln_uR, fd_uR, ai_uR, al_uR, zs_uR, ar_uR, true_and, and_true, Option.toList_some, Option.toList_none, List.cons_append, List.nil_append, catS_nil, catS_int, catS_ref, catS_null, catS_long, cat_int, cat_ref, cat_null, Nat.reduceEqDiff, Nat.reduceLeDiff, Nat.reduceAdd, false_and, and_false, if_false, if_true, ite_true, ite_false, true_or, or_true, false_or, or_false, and_self, forall_const, true_implies, reduceCtorEq, clr_int, clr_ref, clr_null, clr_none, clr_long, va_rf_some, va_rf_none]
        have fr2 := fr1.tr i2
        exact h w2 (hM.H fr2 (by rw [h_disp_4]; exact i1)) fr2
      · rw [if_neg q] at h
        exact h w hM Fr.rf
    · simp only [↓s_89_17, ↓s_89_22, ↓s_89_22n, ↓s_89_23, ↓s_89_26, ↓s_89_29, ↓s_89_30, ↓s_89_31, ↓s_89_31n, ↓s_89_32, ↓s_89_33, ↓s_89_36, ↓s_89_37, ↓s_89_40, ↓s_89_40n, ↓s_89_41, kd_uF, ln_uF, ai_uF, al_uF, ar_uF, zs_uF, fd_uF, kd_uA, ln_uA, fd_uA, al_uA, ar_uA, zs_uA, ai_uA, kd_uL, ln_uL, fd_uL, ai_uL, ar_uL, zs_uL, al_uL, kd_uR, ln_uR, fd_uR, ai_uR, al_uR, zs_uR, ar_uR, true_and, and_true, Option.toList_some, Option.toList_none, List.cons_append, List.nil_append, catS_nil, catS_int, catS_ref, catS_null, catS_long, cat_int, cat_ref, cat_null, Nat.reduceEqDiff, Nat.reduceLeDiff, Nat.reduceAdd, false_and, and_false, if_false, if_true, ite_true, ite_false, true_or, or_true, false_or, or_false, and_self, forall_const, true_implies, reduceCtorEq, clr_int, clr_ref, clr_null, clr_none, clr_long, va_rf_some, va_rf_none]
      exact ⟨fun q => absurd trivial q, j20 _ (by unfold c_start; rw [e1, f1])⟩
  · simp only [↓s_89_8, ↓s_89_8n, ↓s_89_9, ↓s_89_9n, ↓s_89_10, ↓s_89_10n, ↓s_89_13, ↓s_89_14, kd_uF, ln_uF, ai_uF, al_uF, ar_uF, zs_uF, fd_uF, kd_uA, ln_uA, fd_uA, al_uA, ar_uA, zs_uA, ai_uA, kd_uL, ln_uL, fd_uL, ai_uL, ar_uL, zs_uL, al_uL, kd_uR, ln_uR, fd_uR, ai_uR, al_uR, zs_uR, ar_uR, true_and, and_true, Option.toList_some, Option.toList_none, List.cons_append, List.nil_append, catS_nil, catS_int, catS_ref, catS_null, catS_long, cat_int, cat_ref, cat_null, Nat.reduceEqDiff, Nat.reduceLeDiff, Nat.reduceAdd, false_and, and_false, if_false, if_true, ite_true, ite_false, true_or, or_true, false_or, or_false, and_self, forall_const, true_implies, reduceCtorEq, clr_int, clr_ref, clr_null, clr_none, clr_long, va_rf_some, va_rf_none]
    exact j20 _ (by unfold c_start; rw [e1])
def HS (H : hs) : Prop := H.1 6 ≠ 0 ∨ H.2.1 = []
theorem HS.disp {H : hs} (h : HS H) : h_disp H = H := by
  unfold h_disp
  rcases h with q | q
  · rw [if_pos q]
  · split
    · rfl
    · rw [q]
theorem sp_C_key {d : Nat} {w : aw} {x : Nat} {u c : Int32} {H : hs} {Q : wQ} (hM : CM w x H) (hI : HI H) (hS : HS H) (h : ∀ w', CM w' x (c_key H u c).2 → Fr w w' (x + 12) (x + 80) → Q (some (.int (c_key H u c).1)) w') : wpD (d + 3) 90 [.ref x, .int u, .int c] w Q := by
  refine ⟨Nat.le_of_ble_eq_true rfl, ?_⟩
  show wp (d + 2) 90 Q 0 [some (.ref x), some (.int u), some (.int c), none] [] w 0 0
  have h8 := hI.1
  have kx := hM.1
  have fx := hM.2.1
  have kh := hM.2.2.1.1
  have j24 : ∀ L, c_key H u c = (-1, H) → wp (d + 2) 90 Q 24 [some (.ref x), some (.int u), some (.int c), L] [] w 0 0 := by
    intro L hc
    rw [hc] at h
    simp only [↓s_90_24, ↓s_90_25, kd_uF, ln_uF, ai_uF, al_uF, ar_uF, zs_uF, fd_uF, kd_uA, ln_uA, fd_uA, al_uA, ar_uA, zs_uA, ai_uA, kd_uL, ln_uL, fd_uL, ai_uL, ar_uL, zs_uL, al_uL, kd_uR, ln_uR, fd_uR, ai_uR, al_uR, zs_uR, ar_uR, true_and, and_true, Option.toList_some, Option.toList_none, List.cons_append, List.nil_append, catS_nil, catS_int, catS_ref, catS_null, catS_long, cat_int, cat_ref, cat_null, Nat.reduceEqDiff, Nat.reduceLeDiff, Nat.reduceAdd, false_and, and_false, if_false, if_true, ite_true, ite_false, true_or, or_true, false_or, or_false, and_self, forall_const, true_implies, reduceCtorEq, clr_int, clr_ref, clr_null, clr_none, clr_long, va_rf_some, va_rf_none]
    exact h w hM Fr.rf
  simp only [↓s_90_0, ↓s_90_1, ↓s_90_4, ↓s_90_5, kd_uF, ln_uF, ai_uF, al_uF, ar_uF, zs_uF, fd_uF, kd_uA, ln_uA, fd_uA, al_uA, ar_uA, zs_uA, ai_uA, kd_uL, ln_uL, fd_uL, ai_uL, ar_uL, zs_uL, al_uL, kd_uR, ln_uR, fd_uR, ai_uR, al_uR, zs_uR, ar_uR, true_and, and_true, Option.toList_some, Option.toList_none, List.cons_append, List.nil_append, catS_nil, catS_int, catS_ref, catS_null, catS_long, cat_int, cat_ref, cat_null, Nat.reduceEqDiff, Nat.reduceLeDiff, Nat.reduceAdd, false_and, and_false, if_false, if_true, ite_true, ite_false, true_or, or_true, false_or, or_false, and_self, forall_const, true_implies, reduceCtorEq, clr_int, clr_ref, clr_null, clr_none, clr_long, va_rf_some, va_rf_none, kx, fx, kh]
  refine sp_C_userAt hM.2.2 h8 (fun k e1 e2 e3 => ?_) (fun e1 => ?_)
  · simp only [↓s_90_8, ↓s_90_8n, ↓s_90_9, ↓s_90_9n, ↓s_90_10, ↓s_90_10n, ↓s_90_13, ↓s_90_14, ↓s_90_15, ↓s_90_18, kd_uF, ln_uF, ai_uF, al_uF, ar_uF, zs_uF, fd_uF, kd_uA, ln_uA, fd_uA, al_uA, ar_uA, zs_uA, ai_uA, kd_uL, ln_uL, fd_uL, ai_uL, ar_uL, zs_uL, al_uL, kd_uR, ln_uR, fd_uR, ai_uR, al_uR, zs_uR, ar_uR, true_and, and_true, Option.toList_some, Option.toList_none, List.cons_append, List.nil_append, catS_nil, catS_int, catS_ref, catS_null, catS_long, cat_int, cat_ref, cat_null, Nat.reduceEqDiff, Nat.reduceLeDiff, Nat.reduceAdd, false_and, and_false, if_false, if_true, ite_true, ite_false, true_or, or_true, false_or, or_false, and_self, forall_const, true_implies, reduceCtorEq, clr_int, clr_ref, clr_null, clr_none, clr_long, va_rf_some, va_rf_none]
    refine sp_C_in (n := 256) rfl (by decide) (fun p f1 f2 f3 => ?_) (fun f1 => ?_)
    · have hc : c_key H u c = if (uIn (H.2.2 k)).length = 16 then (0, hU H k (uS (H.2.2 k) 6 (((H.2.2 k).1 6 + 1) % 4096))) else (1, h_disp (h_key H k p)) := by unfold c_key; rw [e1, f1]
      rw [hc] at h
      have hu := hM.u (show k < 8 by omega)
      have hu0 := hu
      have hB := hi_ub hI k
      have b3 := hB.2.2.2.1
      have b6 := hB.2.2.2.2.2.2.1
      obtain ⟨y0, y1, y2, y3, y4, y5, y6, z0, z1, z2, z3, z4, z5, z6, z7, z8, z9, mw1, mw2, mw3, fw1, fw2, fw3, pw1, pw2, pw3, lin, lou⟩ := hu
      rw [f3]
      have kL := lin.1
      simp only [↓s_90_21, ↓s_90_26, ↓s_90_26n, ↓s_90_27, ↓s_90_30, ↓s_90_31, kd_uF, ln_uF, ai_uF, al_uF, ar_uF, zs_uF, fd_uF, kd_uA, ln_uA, fd_uA, al_uA, ar_uA, zs_uA, ai_uA, kd_uL, ln_uL, fd_uL, ai_uL, ar_uL, zs_uL, al_uL, kd_uR, ln_uR, fd_uR, ai_uR, al_uR, zs_uR, ar_uR, true_and, and_true, Option.toList_some, Option.toList_none, List.cons_append, List.nil_append, catS_nil, catS_int, catS_ref, catS_null, catS_long, cat_int, cat_ref, cat_null, Nat.reduceEqDiff, Nat.reduceLeDiff, Nat.reduceAdd, false_and, and_false, if_false, if_true, ite_true, ite_false, true_or, or_true, false_or, or_false, and_self, forall_const, true_implies, reduceCtorEq, clr_int, clr_ref, clr_null, clr_none, clr_long, va_rf_some, va_rf_none, y0, y5, kL]
      refine ⟨fun _ => sp_L_add lin (fun hl w1 l1 l2 => ?_) (fun hl => ?_), fun q => absurd q (by decide)⟩
      · rw [if_neg (by omega)] at h
        have u1 := hu0.Inp l1 l2
        have f9 : FrU w w1 (ub (x + 12) k) := l2.U (by omega) (by omega)
        have c1 := hM.U (by omega) f9 u1 rfl
        have fr1 := f9.H (x := x) (show k < 8 by omega)
        have kx1 := c1.1
        have fx1 := c1.2.1
        have kh1 := c1.2.2.1.1
        have t3 : fd w1 394 (ub (x + 12) k) = .int (nI ((H.2.2 k).1 3)) := u1.2.2.2.2.2.2.2.2.2.2.1
        have ku1 := u1.1
        have hI1 : HI (hU H k (uInp (H.2.2 k) (uIn (H.2.2 k) ++ [p]))) := hI.U (hB.push f2 hl) rfl (hI.2.2.2.2.2.2.2.2.2.2.2.1 k)
        simp only [↓s_90_34, ↓s_90_37, ↓s_90_37n, ↓s_90_38, ↓s_90_38n, ↓s_90_39, ↓s_90_42, ↓s_90_43, ↓s_90_44, ↓s_90_47, ↓s_90_48, ↓s_90_51, ↓s_90_52, ↓s_90_53, ↓s_90_53n, ↓s_90_54, ↓s_90_57, ↓s_90_58, ↓s_90_61, ↓s_90_62, ↓s_90_65, ↓s_90_65n, ↓s_90_66, ↓s_90_76, ↓s_90_77, kd_uF, ln_uF, ai_uF, al_uF, ar_uF, zs_uF, fd_uF, kd_uA, ln_uA, fd_uA, al_uA, ar_uA, zs_uA, ai_uA, kd_uL, ln_uL, fd_uL, ai_uL, ar_uL, zs_uL, al_uL, kd_uR, ln_uR, fd_uR, ai_uR, al_uR, zs_uR, ar_uR, true_and, and_true, Option.toList_some, Option.toList_none, List.cons_append, List.nil_append, catS_nil, catS_int, catS_ref, catS_null, catS_long, cat_int, cat_ref, cat_null, Nat.reduceEqDiff, Nat.reduceLeDiff, Nat.reduceAdd, false_and, and_false, if_false, if_true, ite_true, ite_false, true_or, or_true, false_or, or_false, and_self, forall_const, true_implies, reduceCtorEq, clr_int, clr_ref, clr_null, clr_none, clr_long, va_rf_some, va_rf_none, ku1, t3, kx1, fx1, kh1]
        rw [show (3 : Int32) = nI 3 from rfl, nI_eq (by omega) (by decide)]
        refine ⟨fun _ => ⟨fun q => ?_, fun q => ?_⟩, fun q => absurd q (by decide)⟩
        · have e : h_disp (h_key H k p) = hU H k (uInp (H.2.2 k) (uIn (H.2.2 k) ++ [p])) := by
            unfold h_key; rw [if_neg q]
            exact HS.disp hS
          rw [e] at h
          exact h w1 c1 fr1
        · have e : h_key H k p = h_ready (hU H k (uInp (H.2.2 k) (uIn (H.2.2 k) ++ [p]))) k := by unfold h_key; rw [if_pos q]
          have hK := hI.key (u := k) e2 f2 hl
          rw [e] at h hK
          have s3 : ((hU H k (uInp (H.2.2 k) (uIn (H.2.2 k) ++ [p]))).2.2 k).1 3 = 3 := by rw [hU_at]; exact q
          refine sp_C_ready c1.2.2 (by omega) (hI1.len' (u := k) e2 (by omega)) (fun w2 g1 g2 => ?_)
          have fr2 : Fr w w2 (x + 12) (x + 80) := fr1.tr g2
          have kx2 : kd w2 x = 8 := (fr2.1 x).trans kx
          have fx2 : fd w2 450 x = .ref (x + 12) := ((fr2.2.2.2 x (by omega)).1 _).trans fx
          have kh2 := g1.1.1
          simp only [↓s_90_69, ↓s_90_70, ↓s_90_73, kd_uF, ln_uF, ai_uF, al_uF, ar_uF, zs_uF, fd_uF, kd_uA, ln_uA, fd_uA, al_uA, ar_uA, zs_uA, ai_uA, kd_uL, ln_uL, fd_uL, ai_uL, ar_uL, zs_uL, al_uL, kd_uR, ln_uR, fd_uR, ai_uR, al_uR, zs_uR, ar_uR, true_and, and_true, Option.toList_some, Option.toList_none, List.cons_append, List.nil_append, catS_nil, catS_int, catS_ref, catS_null, catS_long, cat_int, cat_ref, cat_null, Nat.reduceEqDiff, Nat.reduceLeDiff, Nat.reduceAdd, false_and, and_false, if_false, if_true, ite_true, ite_false, true_or, or_true, false_or, or_false, and_self, forall_const, true_implies, reduceCtorEq, clr_int, clr_ref, clr_null, clr_none, clr_long, va_rf_some, va_rf_none, kx2, fx2, kh2]
          refine sp_C_choose g1 hK (fun w3 i1 i2 => ?_)
          simp only [↓s_90_76, ↓s_90_77, kd_uF, ln_uF, ai_uF, al_uF, ar_uF, zs_uF, fd_uF, kd_uA, ln_uA, fd_uA, al_uA, ar_uA, zs_uA, ai_uA, kd_uL, ln_uL, fd_uL, ai_uL, ar_uL, zs_uL, al_uL, kd_uR, ln_uR, fd_uR, ai_uR, al_uR, zs_uR, ar_uR, true_and, and_true, Option.toList_some, Option.toList_none, List.cons_append, List.nil_append, catS_nil, catS_int, catS_ref, catS_null, catS_long, cat_int, cat_ref, cat_null, Nat.reduceEqDiff, Nat.reduceLeDiff, Nat.reduceAdd, false_and, and_false, if_false, if_true, ite_true, ite_false, true_or, or_true, false_or, or_false, and_self, forall_const, true_implies, reduceCtorEq, clr_int, clr_ref, clr_null, clr_none, clr_long, va_rf_some, va_rf_none]
          have fr3 := fr2.tr i2
          exact h w3 (hM.H fr3 (by rw [h_disp_4]; exact i1)) fr3
      · rw [if_pos hl] at h
        simp only [↓s_90_34, ↓s_90_37, ↓s_90_37n, ↓s_90_38, ↓s_90_38n, ↓s_90_39, ↓s_90_42, ↓s_90_43, ↓s_90_44, ↓s_90_47, ↓s_90_48, ↓s_90_51, ↓s_90_52, ↓s_90_53, ↓s_90_53n, ↓s_90_54, ↓s_90_57, ↓s_90_58, ↓s_90_61, ↓s_90_62, ↓s_90_65, ↓s_90_65n, ↓s_90_66, ↓s_90_76, ↓s_90_77, kd_uF, ln_uF, ai_uF, al_uF, ar_uF, zs_uF, fd_uF, kd_uA, ln_uA, fd_uA, al_uA, ar_uA, zs_uA, ai_uA, kd_uL, ln_uL, fd_uL, ai_uL, ar_uL, zs_uL, al_uL, kd_uR, ln_uR, fd_uR, ai_uR, al_uR, zs_uR, ar_uR, true_and, and_true, Option.toList_some, Option.toList_none, List.cons_append, List.nil_append, catS_nil, catS_int, catS_ref, catS_null, catS_long, cat_int, cat_ref, cat_null, Nat.reduceEqDiff, Nat.reduceLeDiff, Nat.reduceAdd, false_and, and_false, if_false, if_true, ite_true, ite_false, true_or, or_true, false_or, or_false, and_self, forall_const, true_implies, reduceCtorEq, clr_int, clr_ref, clr_null, clr_none, clr_long, va_rf_some, va_rf_none, y0, z6]
        rw [nI_1, m12 (by omega)]
        refine ⟨fun q => absurd trivial q, ?_⟩
        have f9 : FrU w (uF w 397 (ub (x + 12) k) (.int (nI (((H.2.2 k).1 6 + 1) % 4096)))) (ub (x + 12) k) := FrU.rf.S6
        exact h _ (hM.U (by omega) f9 hu0.S6 (uS_ne (by decide))) (f9.H (by omega))
    · simp only [↓s_90_21, ↓s_90_26, ↓s_90_26n, ↓s_90_27, ↓s_90_30, ↓s_90_31, kd_uF, ln_uF, ai_uF, al_uF, ar_uF, zs_uF, fd_uF, kd_uA, ln_uA, fd_uA, al_uA, ar_uA, zs_uA, ai_uA, kd_uL, ln_uL, fd_uL, ai_uL, ar_uL, zs_uL, al_uL, kd_uR, ln_uR, fd_uR, ai_uR, al_uR, zs_uR, ar_uR, true_and, and_true, Option.toList_some, Option.toList_none, List.cons_append, List.nil_append, catS_nil, catS_int, catS_ref, catS_null, catS_long, cat_int, cat_ref, cat_null, Nat.reduceEqDiff, Nat.reduceLeDiff, Nat.reduceAdd, false_and, and_false, if_false, if_true, ite_true, ite_false, true_or, or_true, false_or, or_false, and_self, forall_const, true_implies, reduceCtorEq, clr_int, clr_ref, clr_null, clr_none, clr_long, va_rf_some, va_rf_none]
      exact ⟨fun q => absurd trivial q, j24 _ (by unfold c_key; rw [e1, f1])⟩
  · simp only [↓s_90_8, ↓s_90_8n, ↓s_90_9, ↓s_90_9n, ↓s_90_10, ↓s_90_10n, ↓s_90_13, ↓s_90_14, ↓s_90_15, ↓s_90_18, kd_uF, ln_uF, ai_uF, al_uF, ar_uF, zs_uF, fd_uF, kd_uA, ln_uA, fd_uA, al_uA, ar_uA, zs_uA, ai_uA, kd_uL, ln_uL, fd_uL, ai_uL, ar_uL, zs_uL, al_uL, kd_uR, ln_uR, fd_uR, ai_uR, al_uR, zs_uR, ar_uR, true_and, and_true, Option.toList_some, Option.toList_none, List.cons_append, List.nil_append, catS_nil, catS_int, catS_ref, catS_null, catS_long, cat_int, cat_ref, cat_null, Nat.reduceEqDiff, Nat.reduceLeDiff, Nat.reduceAdd, false_and, and_false, if_false, if_true, ite_true, ite_false, true_or, or_true, false_or, or_false, and_self, forall_const, true_implies, reduceCtorEq, clr_int, clr_ref, clr_null, clr_none, clr_long, va_rf_some, va_rf_none]
    exact j24 _ (by unfold c_key; rw [e1])
