/-! the calls -/
/-- an argument that must lie between 0 and n -/
def rg (x : Int32) (n : Nat) : Option Nat := if 0 ≤ x ∧ x.toNatClampNeg < n then some x.toNatClampNeg else none
theorem nI_back {x : Int32} (h : 0 ≤ x) : nI x.toNatClampNeg = x := by
  unfold nI
  exact Int32.ofNat_toNatClampNeg x h
theorem clamp_lt (x : Int32) : x.toNatClampNeg < 2147483648 := x.toNatClampNeg_lt
theorem rg_nI {k n : Nat} (hk : k < n) (hn : n ≤ 2147483648) : rg (nI k) n = some k := by
  unfold rg
  rw [clN (by omega), if_pos ⟨nI_pos' (by omega), hk⟩]
theorem rg_in {x : Int32} {n k : Nat} (h : rg x n = some k) : k < n ∧ x = nI k := by
  unfold rg at h
  split at h
  · rename_i q
    cases h
    exact ⟨q.2, (nI_back q.1).symm⟩
  · cases h
theorem rg_le {x : Int32} {n : Nat} (hn : n < 2147483648) : (0 ≤ x ∧ x ≤ nI n - 1) ↔ (rg x n).isSome = true := by
  unfold rg
  by_cases c : 0 ≤ x
  · have hx := nI_back c
    have hl := clamp_lt x
    by_cases z : n = 0
    · subst z
      rw [if_neg (fun q => absurd q.2 (Nat.not_lt_zero _))]
      refine ⟨fun q => ?_, fun q => by cases q⟩
      exact absurd (Int32.le_trans c q.2) (by decide)
    · rw [nI_pred' (by omega), ← hx, nI_leI (by omega) (by omega)]
      rw [hx]
      by_cases y : x.toNatClampNeg < n
      · rw [if_pos ⟨c, y⟩]; exact ⟨fun _ => rfl, fun _ => ⟨c, by omega⟩⟩
      · rw [if_neg (fun q => y q.2)]; exact ⟨fun q => by omega, fun q => by cases q⟩
  · rw [if_neg (fun q => c q.1)]
    exact ⟨fun q => absurd q.1 c, fun q => by cases q⟩
theorem sp_R_in {d : Nat} {w : aw} {x hi : Int32} {n : Nat} {Q : wQ} (hh : hi = nI n - 1) (hn : n < 2147483648) (h1 : ∀ k, rg x n = some k → k < n → x = nI k → Q (some (.int 1)) w) (h2 : rg x n = none → Q (some (.int 0)) w) : wpD (d + 1) 105 [.int x, .int 0, .int hi] w Q := by
  subst hh
  cases e : rg x n with
  | none => exact sp_R_isIn (fun a b => absurd ((rg_le hn).mp ⟨a, b⟩) (by rw [e]; decide)) (fun _ => h2 e)
  | some k => exact sp_R_isIn (fun a b => h1 k e (rg_in e).1 (rg_in e).2) (fun q => absurd ((rg_le hn).mpr (by rw [e]; rfl)) q)
theorem sp_R_isUser {d : Nat} {w : aw} {m : Nat} {x : Int32} {H : hs} {Q : wQ} (hA : RAt w m H) (h8 : H.1 0 ≤ 8) (h1 : ∀ k, rg x (H.1 0) = some k → k < H.1 0 → x = nI k → Q (some (.int 1)) w) (h2 : rg x (H.1 0) = none → Q (some (.int 0)) w) : wpD (d + 2) 106 [.ref m, .int x] w Q := by
  refine ⟨Nat.le_of_ble_eq_true rfl, ?_⟩
  show wp (d + 1) 106 Q 0 [some (.ref m), some (.int x)] [] w 0 0
  have rk := hA.1.1
  have q0 := hA.2.1
  simp only [↓s_106_0, ↓s_106_1, ↓s_106_2, ↓s_106_3, ↓s_106_6, ↓s_106_7, ↓s_106_8, kd_uF, ln_uF, ai_uF, al_uF, ar_uF, zs_uF, fd_uF, kd_uA, ln_uA, fd_uA, al_uA, ar_uA, zs_uA, ai_uA, kd_uL, ln_uL, fd_uL, ai_uL, ar_uL, zs_uL, al_uL, kd_uR, ln_uR, fd_uR, ai_uR, al_uR, zs_uR, ar_uR, true_and, and_true, Option.toList_some, Option.toList_none, List.cons_append, List.nil_append, catS_nil, catS_int, catS_ref, catS_null, catS_long, cat_int, cat_ref, cat_null, Nat.reduceEqDiff, Nat.reduceLeDiff, Nat.reduceAdd, false_and, and_false, if_false, if_true, ite_true, ite_false, true_or, or_true, false_or, or_false, and_self, forall_const, true_implies, reduceCtorEq, clr_int, clr_ref, clr_null, clr_none, clr_long, va_rf_some, va_rf_none, rk, q0]
  refine sp_R_in rfl (by omega) (fun k a b c => ?_) (fun a => ?_)
  · simp only [↓s_106_11, kd_uF, ln_uF, ai_uF, al_uF, ar_uF, zs_uF, fd_uF, kd_uA, ln_uA, fd_uA, al_uA, ar_uA, zs_uA, ai_uA, kd_uL, ln_uL, fd_uL, ai_uL, ar_uL, zs_uL, al_uL, kd_uR, ln_uR, fd_uR, ai_uR, al_uR, zs_uR, ar_uR, true_and, and_true, Option.toList_some, Option.toList_none, List.cons_append, List.nil_append, catS_nil, catS_int, catS_ref, catS_null, catS_long, cat_int, cat_ref, cat_null, Nat.reduceEqDiff, Nat.reduceLeDiff, Nat.reduceAdd, false_and, and_false, if_false, if_true, ite_true, ite_false, true_or, or_true, false_or, or_false, and_self, forall_const, true_implies, reduceCtorEq, clr_int, clr_ref, clr_null, clr_none, clr_long, va_rf_some, va_rf_none]
    exact ⟨rfl, h1 k a b c⟩
  · simp only [↓s_106_11, kd_uF, ln_uF, ai_uF, al_uF, ar_uF, zs_uF, fd_uF, kd_uA, ln_uA, fd_uA, al_uA, ar_uA, zs_uA, ai_uA, kd_uL, ln_uL, fd_uL, ai_uL, ar_uL, zs_uL, al_uL, kd_uR, ln_uR, fd_uR, ai_uR, al_uR, zs_uR, ar_uR, true_and, and_true, Option.toList_some, Option.toList_none, List.cons_append, List.nil_append, catS_nil, catS_int, catS_ref, catS_null, catS_long, cat_int, cat_ref, cat_null, Nat.reduceEqDiff, Nat.reduceLeDiff, Nat.reduceAdd, false_and, and_false, if_false, if_true, ite_true, ite_false, true_or, or_true, false_or, or_false, and_self, forall_const, true_implies, reduceCtorEq, clr_int, clr_ref, clr_null, clr_none, clr_long, va_rf_some, va_rf_none]
    exact ⟨rfl, h2 a⟩
/-- the monitor of the document: the house, the tape, the fault and its line -/
abbrev ms : Type := hs × List Nat × Nat × Nat
def c_poke (S : hs) (u a v : Int32) : Int32 × hs := match rg u (S.1 0), rg a 4096, rg v 4096 with
  | some u, some a, some v => (1, hU S u (uMem (S.2.2 u) a v))
  | _, _, _ => (-1, S)
def c_peek (S : hs) (u a : Int32) : Int32 := match rg u (S.1 0), rg a 4096 with
  | some u, some a => nI (uMm (S.2.2 u) a)
  | _, _ => -1
theorem sp_R_peek {d : Nat} {w : aw} {m : Nat} {u a : Int32} {H : hs} {Q : wQ} (hA : RAt w m H) (hI : HI H) (h : Q (some (.int (c_peek H u a))) w) : wpD (d + 3) 129 [.ref m, .int u, .int a] w Q := by
  refine ⟨Nat.le_of_ble_eq_true rfl, ?_⟩
  show wp (d + 2) 129 Q 0 [some (.ref m), some (.int u), some (.int a)] [] w 0 0
  have rk := hA.1.1
  have h8 := hI.1
  have j29 : ∀ x, c_peek H u a = x → wp (d + 2) 129 Q 29 [some (.ref m), some (.int u), some (.int a)] [.int x] w 0 0 := by
    intro x hx
    simp only [↓s_129_29, kd_uF, ln_uF, ai_uF, al_uF, ar_uF, zs_uF, fd_uF, kd_uA, ln_uA, fd_uA, al_uA, ar_uA, zs_uA, ai_uA, kd_uL, ln_uL, fd_uL, ai_uL, ar_uL, zs_uL, al_uL, kd_uR, ln_uR, fd_uR, ai_uR, al_uR, zs_uR, ar_uR, true_and, and_true, Option.toList_some, Option.toList_none, List.cons_append, List.nil_append, catS_nil, catS_int, catS_ref, catS_null, catS_long, cat_int, cat_ref, cat_null, Nat.reduceEqDiff, Nat.reduceLeDiff, Nat.reduceAdd, false_and, and_false, if_false, if_true, ite_true, ite_false, true_or, or_true, false_or, or_false, and_self, forall_const, true_implies, reduceCtorEq, clr_int, clr_ref, clr_null, clr_none, clr_long, va_rf_some, va_rf_none]
    rw [← hx]; exact h
  simp only [↓s_129_0, ↓s_129_1, ↓s_129_2, kd_uF, ln_uF, ai_uF, al_uF, ar_uF, zs_uF, fd_uF, kd_uA, ln_uA, fd_uA, al_uA, ar_uA, zs_uA, ai_uA, kd_uL, ln_uL, fd_uL, ai_uL, ar_uL, zs_uL, al_uL, kd_uR, ln_uR, fd_uR, ai_uR, al_uR, zs_uR, ar_uR, true_and, and_true, Option.toList_some, Option.toList_none, List.cons_append, List.nil_append, catS_nil, catS_int, catS_ref, catS_null, catS_long, cat_int, cat_ref, cat_null, Nat.reduceEqDiff, Nat.reduceLeDiff, Nat.reduceAdd, false_and, and_false, if_false, if_true, ite_true, ite_false, true_or, or_true, false_or, or_false, and_self, forall_const, true_implies, reduceCtorEq, clr_int, clr_ref, clr_null, clr_none, clr_long, va_rf_some, va_rf_none, rk]
  refine sp_R_isUser hA h8 (fun k e1 e2 e3 => ?_) (fun e1 => ?_)
  · simp only [↓s_129_5, ↓s_129_8, ↓s_129_9, ↓s_129_10, ↓s_129_13, ↓s_129_28, kd_uF, ln_uF, ai_uF, al_uF, ar_uF, zs_uF, fd_uF, kd_uA, ln_uA, fd_uA, al_uA, ar_uA, zs_uA, ai_uA, kd_uL, ln_uL, fd_uL, ai_uL, ar_uL, zs_uL, al_uL, kd_uR, ln_uR, fd_uR, ai_uR, al_uR, zs_uR, ar_uR, true_and, and_true, Option.toList_some, Option.toList_none, List.cons_append, List.nil_append, catS_nil, catS_int, catS_ref, catS_null, catS_long, cat_int, cat_ref, cat_null, Nat.reduceEqDiff, Nat.reduceLeDiff, Nat.reduceAdd, false_and, and_false, if_false, if_true, ite_true, ite_false, true_or, or_true, false_or, or_false, and_self, forall_const, true_implies, reduceCtorEq, clr_int, clr_ref, clr_null, clr_none, clr_long, va_rf_some, va_rf_none]
    refine ⟨fun q => absurd q (by decide), fun _ => sp_R_in (n := 4096) rfl (by decide) (fun b f1 f2 f3 => ?_) (fun f1 => ?_)⟩
    · simp only [↓s_129_16, ↓s_129_19, ↓s_129_20, ↓s_129_21, ↓s_129_22, ↓s_129_28, kd_uF, ln_uF, ai_uF, al_uF, ar_uF, zs_uF, fd_uF, kd_uA, ln_uA, fd_uA, al_uA, ar_uA, zs_uA, ai_uA, kd_uL, ln_uL, fd_uL, ai_uL, ar_uL, zs_uL, al_uL, kd_uR, ln_uR, fd_uR, ai_uR, al_uR, zs_uR, ar_uR, true_and, and_true, Option.toList_some, Option.toList_none, List.cons_append, List.nil_append, catS_nil, catS_int, catS_ref, catS_null, catS_long, cat_int, cat_ref, cat_null, Nat.reduceEqDiff, Nat.reduceLeDiff, Nat.reduceAdd, false_and, and_false, if_false, if_true, ite_true, ite_false, true_or, or_true, false_or, or_false, and_self, forall_const, true_implies, reduceCtorEq, clr_int, clr_ref, clr_null, clr_none, clr_long, va_rf_some, va_rf_none, rk]
      rw [e3, f3]
      refine ⟨fun q => absurd q (by decide), fun _ => sp_R_get hA.1 (hA.2.2.2.2.2.2.2.2.2.2.2.2.2.2 k (by omega)) (by omega) f2 ?_⟩
      simp only [↓s_129_25, kd_uF, ln_uF, ai_uF, al_uF, ar_uF, zs_uF, fd_uF, kd_uA, ln_uA, fd_uA, al_uA, ar_uA, zs_uA, ai_uA, kd_uL, ln_uL, fd_uL, ai_uL, ar_uL, zs_uL, al_uL, kd_uR, ln_uR, fd_uR, ai_uR, al_uR, zs_uR, ar_uR, true_and, and_true, Option.toList_some, Option.toList_none, List.cons_append, List.nil_append, catS_nil, catS_int, catS_ref, catS_null, catS_long, cat_int, cat_ref, cat_null, Nat.reduceEqDiff, Nat.reduceLeDiff, Nat.reduceAdd, false_and, and_false, if_false, if_true, ite_true, ite_false, true_or, or_true, false_or, or_false, and_self, forall_const, true_implies, reduceCtorEq, clr_int, clr_ref, clr_null, clr_none, clr_long, va_rf_some, va_rf_none]
      rw [← e3, ← f3]
      exact j29 _ (by unfold c_peek; rw [e1, f1])
    · simp only [↓s_129_16, ↓s_129_19, ↓s_129_20, ↓s_129_21, ↓s_129_22, ↓s_129_28, kd_uF, ln_uF, ai_uF, al_uF, ar_uF, zs_uF, fd_uF, kd_uA, ln_uA, fd_uA, al_uA, ar_uA, zs_uA, ai_uA, kd_uL, ln_uL, fd_uL, ai_uL, ar_uL, zs_uL, al_uL, kd_uR, ln_uR, fd_uR, ai_uR, al_uR, zs_uR, ar_uR, true_and, and_true, Option.toList_some, Option.toList_none, List.cons_append, List.nil_append, catS_nil, catS_int, catS_ref, catS_null, catS_long, cat_int, cat_ref, cat_null, Nat.reduceEqDiff, Nat.reduceLeDiff, Nat.reduceAdd, false_and, and_false, if_false, if_true, ite_true, ite_false, true_or, or_true, false_or, or_false, and_self, forall_const, true_implies, reduceCtorEq, clr_int, clr_ref, clr_null, clr_none, clr_long, va_rf_some, va_rf_none, rk]
      exact ⟨j29 _ (by unfold c_peek; rw [e1, f1]), fun q => absurd trivial q⟩
  · simp only [↓s_129_5, ↓s_129_8, ↓s_129_9, ↓s_129_10, ↓s_129_13, ↓s_129_28, kd_uF, ln_uF, ai_uF, al_uF, ar_uF, zs_uF, fd_uF, kd_uA, ln_uA, fd_uA, al_uA, ar_uA, zs_uA, ai_uA, kd_uL, ln_uL, fd_uL, ai_uL, ar_uL, zs_uL, al_uL, kd_uR, ln_uR, fd_uR, ai_uR, al_uR, zs_uR, ar_uR, true_and, and_true, Option.toList_some, Option.toList_none, List.cons_append, List.nil_append, catS_nil, catS_int, catS_ref, catS_null, catS_long, cat_int, cat_ref, cat_null, Nat.reduceEqDiff, Nat.reduceLeDiff, Nat.reduceAdd, false_and, and_false, if_false, if_true, ite_true, ite_false, true_or, or_true, false_or, or_false, and_self, forall_const, true_implies, reduceCtorEq, clr_int, clr_ref, clr_null, clr_none, clr_long, va_rf_some, va_rf_none]
    exact ⟨j29 _ (by unfold c_peek; rw [e1]), fun q => absurd trivial q⟩
