def rb (x : Int32) (lo hi : Nat) : Bool := decide (nI lo ≤ x ∧ x ≤ nI hi)
theorem rb_in {x : Int32} {lo hi : Nat} (h : nI lo ≤ x ∧ x ≤ nI hi) (h1 : lo < 2147483648) (h2 : hi < 2147483648) : x = nI x.toNatClampNeg ∧ lo ≤ x.toNatClampNeg ∧ x.toNatClampNeg ≤ hi := by
  have h0 : 0 ≤ x := Int32.le_trans (nI_pos' (by omega)) h.1
  have e := nI_back h0
  have hl := clamp_lt x
  refine ⟨e.symm, ?_, ?_⟩
  · have := h.1; rw [← e, nI_leI (by omega) (by omega)] at this; exact this
  · have := h.2; rw [← e, nI_leI (by omega) (by omega)] at this; exact this
def h_open (H : hs) (a b c d : Nat) : hs := hSet (hSet (hSet (hSet H 0 a) 1 b) 2 c) 3 d
def c_open (H : hs) (a b c d : Int32) : Int32 × hs := if H.1 0 = 0 ∧ (nI 1 ≤ a ∧ a ≤ nI 8) ∧ (nI 1 ≤ b ∧ b ≤ nI 7) ∧ (nI 1 ≤ c ∧ c ≤ nI 64) ∧ (nI 4 ≤ d ∧ d ≤ nI 1000) then (1, h_open H a.toNatClampNeg b.toNatClampNeg c.toNatClampNeg d.toNatClampNeg) else (-1, H)
theorem sp_R_open {dd : Nat} {w : aw} {m : Nat} {a b c d : Int32} {H : hs} {Q : wQ} (hA : RAt w m H) (hI : HI H) (h : ∀ w', RAt w' m (c_open H a b c d).2 → FrM w w' m → Q (some (.int (c_open H a b c d).1)) w') : wpD (dd + 2) 123 [.ref m, .int a, .int b, .int c, .int d] w Q := by
  refine ⟨Nat.le_of_ble_eq_true rfl, ?_⟩
  show wp (dd + 1) 123 Q 0 [some (.ref m), some (.int a), some (.int b), some (.int c), some (.int d)] [] w 0 0
  have hA0 := hA
  have h8 := hI.1
  have rk := hA.1.1
  have q0 := hA.2.1
  have j49 : ¬ (H.1 0 = 0 ∧ (nI 1 ≤ a ∧ a ≤ nI 8) ∧ (nI 1 ≤ b ∧ b ≤ nI 7) ∧ (nI 1 ≤ c ∧ c ≤ nI 64) ∧ (nI 4 ≤ d ∧ d ≤ nI 1000)) → wp (dd + 1) 123 Q 49 [some (.ref m), some (.int a), some (.int b), some (.int c), some (.int d)] [] w 0 0 := by
    intro hn
    have hc : c_open H a b c d = (-1, H) := if_neg hn
    rw [hc] at h
    simp only [↓s_123_49, ↓s_123_50, kd_uF, ln_uF, ai_uF, al_uF, ar_uF, zs_uF, fd_uF, kd_uA, ln_uA, fd_uA, al_uA, ar_uA, zs_uA, ai_uA, kd_uL, ln_uL, fd_uL, ai_uL, ar_uL, zs_uL, al_uL, kd_uR, ln_uR, fd_uR, ai_uR, al_uR, zs_uR, ar_uR, true_and, and_true, Option.toList_some, Option.toList_none, List.cons_append, List.nil_append, catS_nil, catS_int, catS_ref, catS_null, catS_long, cat_int, cat_ref, cat_null, Nat.reduceEqDiff, Nat.reduceLeDiff, Nat.reduceAdd, false_and, and_false, if_false, if_true, ite_true, ite_false, true_or, or_true, false_or, or_false, and_self, forall_const, true_implies, reduceCtorEq, clr_int, clr_ref, clr_null, clr_none, clr_long, va_rf_some, va_rf_none]
    exact h w hA FrM.rf
  simp only [↓s_123_0, ↓s_123_1, ↓s_123_4, ↓s_123_7, ↓s_123_8, ↓s_123_9, ↓s_123_11, kd_uF, ln_uF, ai_uF, al_uF, ar_uF, zs_uF, fd_uF, kd_uA, ln_uA, fd_uA, al_uA, ar_uA, zs_uA, ai_uA, kd_uL, ln_uL, fd_uL, ai_uL, ar_uL, zs_uL, al_uL, kd_uR, ln_uR, fd_uR, ai_uR, al_uR, zs_uR, ar_uR, true_and, and_true, Option.toList_some, Option.toList_none, List.cons_append, List.nil_append, catS_nil, catS_int, catS_ref, catS_null, catS_long, cat_int, cat_ref, cat_null, Nat.reduceEqDiff, Nat.reduceLeDiff, Nat.reduceAdd, false_and, and_false, if_false, if_true, ite_true, ite_false, true_or, or_true, false_or, or_false, and_self, forall_const, true_implies, reduceCtorEq, clr_int, clr_ref, clr_null, clr_none, clr_long, va_rf_some, va_rf_none, rk, q0]
  rw [show (0 : Int32) = nI 0 from rfl, nI_ltI (by decide) (by omega)]
  refine ⟨fun q => j49 (fun e => by omega), fun q0' => sp_R_isIn (fun a1 a2 => ?_) (fun a1 => ?_)⟩
  · simp only [↓s_123_14, ↓s_123_17, ↓s_123_18, ↓s_123_19, ↓s_123_21, kd_uF, ln_uF, ai_uF, al_uF, ar_uF, zs_uF, fd_uF, kd_uA, ln_uA, fd_uA, al_uA, ar_uA, zs_uA, ai_uA, kd_uL, ln_uL, fd_uL, ai_uL, ar_uL, zs_uL, al_uL, kd_uR, ln_uR, fd_uR, ai_uR, al_uR, zs_uR, ar_uR, true_and, and_true, Option.toList_some, Option.toList_none, List.cons_append, List.nil_append, catS_nil, catS_int, catS_ref, catS_null, catS_long, cat_int, cat_ref, cat_null, Nat.reduceEqDiff, Nat.reduceLeDiff, Nat.reduceAdd, false_and, and_false, if_false, if_true, ite_true, ite_false, true_or, or_true, false_or, or_false, and_self, forall_const, true_implies, reduceCtorEq, clr_int, clr_ref, clr_null, clr_none, clr_long, va_rf_some, va_rf_none]
    refine ⟨fun q => absurd q (by decide), fun _ => sp_R_isIn (fun b1 b2 => ?_) (fun b1 => ?_)⟩
    · simp only [↓s_123_24, ↓s_123_27, ↓s_123_28, ↓s_123_29, ↓s_123_31, kd_uF, ln_uF, ai_uF, al_uF, ar_uF, zs_uF, fd_uF, kd_uA, ln_uA, fd_uA, al_uA, ar_uA, zs_uA, ai_uA, kd_uL, ln_uL, fd_uL, ai_uL, ar_uL, zs_uL, al_uL, kd_uR, ln_uR, fd_uR, ai_uR, al_uR, zs_uR, ar_uR, true_and, and_true, Option.toList_some, Option.toList_none, List.cons_append, List.nil_append, catS_nil, catS_int, catS_ref, catS_null, catS_long, cat_int, cat_ref, cat_null, Nat.reduceEqDiff, Nat.reduceLeDiff, Nat.reduceAdd, false_and, and_false, if_false, if_true, ite_true, ite_false, true_or, or_true, false_or, or_false, and_self, forall_const, true_implies, reduceCtorEq, clr_int, clr_ref, clr_null, clr_none, clr_long, va_rf_some, va_rf_none]
      refine ⟨fun q => absurd q (by decide), fun _ => sp_R_isIn (fun c1 c2 => ?_) (fun c1 => ?_)⟩
      · simp only [↓s_123_34, ↓s_123_37, ↓s_123_39, ↓s_123_40, ↓s_123_43, kd_uF, ln_uF, ai_uF, al_uF, ar_uF, zs_uF, fd_uF, kd_uA, ln_uA, fd_uA, al_uA, ar_uA, zs_uA, ai_uA, kd_uL, ln_uL, fd_uL, ai_uL, ar_uL, zs_uL, al_uL, kd_uR, ln_uR, fd_uR, ai_uR, al_uR, zs_uR, ar_uR, true_and, and_true, Option.toList_some, Option.toList_none, List.cons_append, List.nil_append, catS_nil, catS_int, catS_ref, catS_null, catS_long, cat_int, cat_ref, cat_null, Nat.reduceEqDiff, Nat.reduceLeDiff, Nat.reduceAdd, false_and, and_false, if_false, if_true, ite_true, ite_false, true_or, or_true, false_or, or_false, and_self, forall_const, true_implies, reduceCtorEq, clr_int, clr_ref, clr_null, clr_none, clr_long, va_rf_some, va_rf_none]
        refine ⟨fun q => absurd q (by decide), fun _ => sp_R_isIn (fun d1 d2 => ?_) (fun d1 => ?_)⟩
        · simp only [↓s_123_46, ↓s_123_51, ↓s_123_52, ↓s_123_53, ↓s_123_56, ↓s_123_57, ↓s_123_58, ↓s_123_61, ↓s_123_62, ↓s_123_63, ↓s_123_66, ↓s_123_67, ↓s_123_69, ↓s_123_72, ↓s_123_73, kd_uF, ln_uF, ai_uF, al_uF, ar_uF, zs_uF, fd_uF, kd_uA, ln_uA, fd_uA, al_uA, ar_uA, zs_uA, ai_uA, kd_uL, ln_uL, fd_uL, ai_uL, ar_uL, zs_uL, al_uL, kd_uR, ln_uR, fd_uR, ai_uR, al_uR, zs_uR, ar_uR, true_and, and_true, Option.toList_some, Option.toList_none, List.cons_append, List.nil_append, catS_nil, catS_int, catS_ref, catS_null, catS_long, cat_int, cat_ref, cat_null, Nat.reduceEqDiff, Nat.reduceLeDiff, Nat.reduceAdd, false_and, and_false, if_false, if_true, ite_true, ite_false, true_or, or_true, false_or, or_false, and_self, forall_const, true_implies, reduceCtorEq, clr_int, clr_ref, clr_null, clr_none, clr_long, va_rf_some, va_rf_none, rk]
          refine ⟨fun _ => ?_, fun q => absurd q (by decide)⟩
          have hc : c_open H a b c d = (1, h_open H a.toNatClampNeg b.toNatClampNeg c.toNatClampNeg d.toNatClampNeg) := if_pos ⟨by omega, ⟨a1, a2⟩, ⟨b1, b2⟩, ⟨c1, c2⟩, d1, d2⟩
          rw [hc] at h
          have hA1 := (((hA.S0 (v := a.toNatClampNeg)).S1 (v := b.toNatClampNeg)).S2 (v := c.toNatClampNeg)).S3 (v := d.toNatClampNeg)
          rw [← (rb_in (lo := 1) (hi := 8) ⟨a1, a2⟩ (by decide) (by decide)).1, ← (rb_in (lo := 1) (hi := 7) ⟨b1, b2⟩ (by decide) (by decide)).1, ← (rb_in (lo := 1) (hi := 64) ⟨c1, c2⟩ (by decide) (by decide)).1, ← (rb_in (lo := 4) (hi := 1000) ⟨d1, d2⟩ (by decide) (by decide)).1] at hA1
          exact h _ hA1 FrM.rf.users.fields.quantum.beat
        · simp only [↓s_123_46, ↓s_123_51, ↓s_123_52, ↓s_123_53, ↓s_123_56, ↓s_123_57, ↓s_123_58, ↓s_123_61, ↓s_123_62, ↓s_123_63, ↓s_123_66, ↓s_123_67, ↓s_123_69, ↓s_123_72, ↓s_123_73, kd_uF, ln_uF, ai_uF, al_uF, ar_uF, zs_uF, fd_uF, kd_uA, ln_uA, fd_uA, al_uA, ar_uA, zs_uA, ai_uA, kd_uL, ln_uL, fd_uL, ai_uL, ar_uL, zs_uL, al_uL, kd_uR, ln_uR, fd_uR, ai_uR, al_uR, zs_uR, ar_uR, true_and, and_true, Option.toList_some, Option.toList_none, List.cons_append, List.nil_append, catS_nil, catS_int, catS_ref, catS_null, catS_long, cat_int, cat_ref, cat_null, Nat.reduceEqDiff, Nat.reduceLeDiff, Nat.reduceAdd, false_and, and_false, if_false, if_true, ite_true, ite_false, true_or, or_true, false_or, or_false, and_self, forall_const, true_implies, reduceCtorEq, clr_int, clr_ref, clr_null, clr_none, clr_long, va_rf_some, va_rf_none]
          exact ⟨fun q => absurd trivial q, j49 (fun e => d1 e.2.2.2.2)⟩
      · simp only [↓s_123_34, ↓s_123_37, ↓s_123_39, ↓s_123_40, ↓s_123_43, kd_uF, ln_uF, ai_uF, al_uF, ar_uF, zs_uF, fd_uF, kd_uA, ln_uA, fd_uA, al_uA, ar_uA, zs_uA, ai_uA, kd_uL, ln_uL, fd_uL, ai_uL, ar_uL, zs_uL, al_uL, kd_uR, ln_uR, fd_uR, ai_uR, al_uR, zs_uR, ar_uR, true_and, and_true, Option.toList_some, Option.toList_none, List.cons_append, List.nil_append, catS_nil, catS_int, catS_ref, catS_null, catS_long, cat_int, cat_ref, cat_null, Nat.reduceEqDiff, Nat.reduceLeDiff, Nat.reduceAdd, false_and, and_false, if_false, if_true, ite_true, ite_false, true_or, or_true, false_or, or_false, and_self, forall_const, true_implies, reduceCtorEq, clr_int, clr_ref, clr_null, clr_none, clr_long, va_rf_some, va_rf_none]
        exact ⟨j49 (fun e => c1 e.2.2.2.1), fun q => absurd trivial q⟩
    · simp only [↓s_123_24, ↓s_123_27, ↓s_123_28, ↓s_123_29, ↓s_123_31, kd_uF, ln_uF, ai_uF, al_uF, ar_uF, zs_uF, fd_uF, kd_uA, ln_uA, fd_uA, al_uA, ar_uA, zs_uA, ai_uA, kd_uL, ln_uL, fd_uL, ai_uL, ar_uL, zs_uL, al_uL, kd_uR, ln_uR, fd_uR, ai_uR, al_uR, zs_uR, ar_uR, true_and, and_true, Option.toList_some, Option.toList_none, List.cons_append, List.nil_append, catS_nil, catS_int, catS_ref, catS_null, catS_long, cat_int, cat_ref, cat_null, Nat.reduceEqDiff, Nat.reduceLeDiff, Nat.reduceAdd, false_and, and_false, if_false, if_true, ite_true, ite_false, true_or, or_true, false_or, or_false, and_self, forall_const, true_implies, reduceCtorEq, clr_int, clr_ref, clr_null, clr_none, clr_long, va_rf_some, va_rf_none]
      exact ⟨j49 (fun e => b1 e.2.2.1), fun q => absurd trivial q⟩
  · simp only [↓s_123_14, ↓s_123_17, ↓s_123_18, ↓s_123_19, ↓s_123_21, kd_uF, ln_uF, ai_uF, al_uF, ar_uF, zs_uF, fd_uF, kd_uA, ln_uA, fd_uA, al_uA, ar_uA, zs_uA, ai_uA, kd_uL, ln_uL, fd_uL, ai_uL, ar_uL, zs_uL, al_uL, kd_uR, ln_uR, fd_uR, ai_uR, al_uR, zs_uR, ar_uR, true_and, and_true, Option.toList_some, Option.toList_none, List.cons_append, List.nil_append, catS_nil, catS_int, catS_ref, catS_null, catS_long, cat_int, cat_ref, cat_null, Nat.reduceEqDiff, Nat.reduceLeDiff, Nat.reduceAdd, false_and, and_false, if_false, if_true, ite_true, ite_false, true_or, or_true, false_or, or_false, and_self, forall_const, true_implies, reduceCtorEq, clr_int, clr_ref, clr_null, clr_none, clr_long, va_rf_some, va_rf_none]
    exact ⟨j49 (fun e => a1 e.2.1), fun q => absurd trivial q⟩
def c_run (H : hs) (n : Int32) : Int32 × hs := if H.1 0 = 0 then (-1, H) else match rg n 1001 with
  | some k => (nI k - (nI ((h_steps H k).1 10) - nI (H.1 10)), h_steps H k)
  | none => (-1, H)
theorem sp_R_runs {dd : Nat} {w : aw} {m : Nat} {n : Int32} {H : hs} {Q : wQ} (hA : RAt w m H) (hX : HX H) (hS : H.1 4 < 2147482000) (h : ∀ w', RAt w' m (c_run H n).2 → FrM w w' m → Q (some (.int (c_run H n).1)) w') : wpD (dd + 6) 136 [.ref m, .int n] w Q := by
  refine ⟨Nat.le_of_ble_eq_true rfl, ?_⟩
  show wp (dd + 5) 136 Q 0 [some (.ref m), some (.int n), none, none] [] w 0 0
  have h8 := hX.1.1
  have rk := hA.1.1
  have q0 := hA.2.1
  have j18 : c_run H n = (-1, H) → wp (dd + 5) 136 Q 18 [some (.ref m), some (.int n), none, none] [] w 0 0 := by
    intro hc
    rw [hc] at h
    simp only [↓s_136_18, ↓s_136_19, kd_uF, ln_uF, ai_uF, al_uF, ar_uF, zs_uF, fd_uF, kd_uA, ln_uA, fd_uA, al_uA, ar_uA, zs_uA, ai_uA, kd_uL, ln_uL, fd_uL, ai_uL, ar_uL, zs_uL, al_uL, kd_uR, ln_uR, fd_uR, ai_uR, al_uR, zs_uR, ar_uR, true_and, and_true, Option.toList_some, Option.toList_none, List.cons_append, List.nil_append, catS_nil, catS_int, catS_ref, catS_null, catS_long, cat_int, cat_ref, cat_null, Nat.reduceEqDiff, Nat.reduceLeDiff, Nat.reduceAdd, false_and, and_false, if_false, if_true, ite_true, ite_false, true_or, or_true, false_or, or_false, and_self, forall_const, true_implies, reduceCtorEq, clr_int, clr_ref, clr_null, clr_none, clr_long, va_rf_some, va_rf_none]
    exact h w hA FrM.rf
  simp only [↓s_136_0, ↓s_136_1, ↓s_136_4, ↓s_136_7, ↓s_136_8, ↓s_136_9, ↓s_136_12, kd_uF, ln_uF, ai_uF, al_uF, ar_uF, zs_uF, fd_uF, kd_uA, ln_uA, fd_uA, al_uA, ar_uA, zs_uA, ai_uA, kd_uL, ln_uL, fd_uL, ai_uL, ar_uL, zs_uL, al_uL, kd_uR, ln_uR, fd_uR, ai_uR, al_uR, zs_uR, ar_uR, true_and, and_true, Option.toList_some, Option.toList_none, List.cons_append, List.nil_append, catS_nil, catS_int, catS_ref, catS_null, catS_long, cat_int, cat_ref, cat_null, Nat.reduceEqDiff, Nat.reduceLeDiff, Nat.reduceAdd, false_and, and_false, if_false, if_true, ite_true, ite_false, true_or, or_true, false_or, or_false, and_self, forall_const, true_implies, reduceCtorEq, clr_int, clr_ref, clr_null, clr_none, clr_long, va_rf_some, va_rf_none, rk, q0]
  rw [show (0 : Int32) = nI 0 from rfl, nI_eq (by omega) (by decide)]
  refine ⟨fun q => j18 (by unfold c_run; rw [if_pos q]), fun q => sp_R_in (n := 1001) rfl (by decide) (fun k a1 a2 a3 => ?_) (fun a1 => ?_)⟩
  · have hc : c_run H n = (nI k - (nI ((h_steps H k).1 10) - nI (H.1 10)), h_steps H k) := by unfold c_run; rw [if_neg q, a1]
    rw [hc] at h
    rw [a3]
    show wp (dd + 5) 136 Q 15 [some (.ref m), some (.int (nI k)), none, none] [.int 1] w 0 0
    rw [s_136_15]
    exact ⟨fun _ => sp_R_run hA hX q (by omega) hS h, fun q => absurd q (by decide)⟩
  · show wp (dd + 5) 136 Q 15 [some (.ref m), some (.int n), none, none] [.int 0] w 0 0
    rw [s_136_15]
    exact ⟨fun q => absurd rfl q, fun _ => j18 (by unfold c_run; rw [if_neg q, a1])⟩
theorem tsr {x : Int32} {hi : Int} {ts : List Nat} {P : Nat → Prop} {E : Prop} (hl : ts.length < 2147483648) (hh : hi = (ts.length : Int) - 1) (h1 : ∀ i t, ts[i]? = some t → rg x ts.length = some i → P t) (h2 : rg x ts.length = none → E) : (x.toInt < 0 ∨ hi < x.toInt → E) ∧ ∀ (i t : Nat), ts[i]? = some t → x.toInt = 0 + (i : Int) → P t := by
  rw [hh]
  cases e : rg x ts.length with
  | none =>
    refine ⟨fun _ => h2 e, fun i t hi q => ?_⟩
    have hi' := (List.getElem?_eq_some_iff.mp hi).1
    have hx : x = nI i := Int32.toInt_inj.mp (by rw [nI_toInt (by omega)]; omega)
    rw [hx, rg_nI hi' (by omega)] at e
    cases e
  | some k =>
    have hk := rg_in e
    have hx : x.toInt = (k : Int) := by rw [hk.2, nI_toInt (by omega)]
    exact ⟨fun q => by omega, fun i t hi q => h1 i t hi (by rw [e]; congr 1; omega)⟩
def h_about (H : hs) (u : Nat) : Nat → Int32
  | 0 => nI ((H.2.2 u).1 0)
  | 1 => nI ((H.2.2 u).1 1)
  | 2 => nI ((H.2.2 u).1 2)
  | 3 => nI ((H.2.2 u).1 3)
  | 4 => nI ((H.2.2 u).1 4)
  | 5 => nI (uIn (H.2.2 u)).length
  | 6 => nI (uOt (H.2.2 u)).length
  | 7 => nI ((H.2.2 u).1 6)
  | 8 => nI ((H.2.2 u).1 7)
  | 9 => nI ((H.2.2 u).1 8)
  | 10 => if H.1 6 = u + 1 then nI (H.1 7) else 0
  | 11 => nI ((H.2.2 u).1 9)
  | _ => -1
def c_about (H : hs) (u x : Int32) : Int32 := match rg u (H.1 0), rg x 12 with
  | some u, some k => h_about H u k
  | _, _ => -1
theorem sp_R_about {dd : Nat} {w : aw} {m : Nat} {u x : Int32} {H : hs} {Q : wQ} (hA : RAt w m H) (hI : HI H) (h : Q (some (.int (c_about H u x))) w) : wpD (dd + 3) 137 [.ref m, .int u, .int x] w Q := by
  refine ⟨Nat.le_of_ble_eq_true rfl, ?_⟩
  show wp (dd + 2) 137 Q 0 [some (.ref m), some (.int u), some (.int x)] [] w 0 0
  have hA0 := hA
  have h8 := hI.1
  obtain ⟨sh, q0, q1, q2, q3, q4, q5, q6, q7, q8, q9, q10, qm, qr, qu⟩ := hA
  obtain ⟨rk, r1, r2, r3, r4, r5, r6, r7, r8, r9, r10, r11, r12, r13, r14, r15, r16, r17, r18, r19, r20, r21, r22, r23, r24, k1, k2, k3, k4, k5, k6, k7, k8, k9, k10, k11, k12, k13, k14, k15, k16, k17, k18, k19, k20, k21, k22, k23, k24, n1, n2, n3, n4, n5, n6, n7, n8, n9, n10, n11, n12, n13, n14, n15, n16, n17, n18, n19, n20, n21, n22, n23, n24⟩ := sh
  simp only [↓s_137_0, ↓s_137_1, ↓s_137_2, kd_uF, ln_uF, ai_uF, al_uF, ar_uF, zs_uF, fd_uF, kd_uA, ln_uA, fd_uA, al_uA, ar_uA, zs_uA, ai_uA, kd_uL, ln_uL, fd_uL, ai_uL, ar_uL, zs_uL, al_uL, kd_uR, ln_uR, fd_uR, ai_uR, al_uR, zs_uR, ar_uR, true_and, and_true, Option.toList_some, Option.toList_none, List.cons_append, List.nil_append, catS_nil, catS_int, catS_ref, catS_null, catS_long, cat_int, cat_ref, cat_null, Nat.reduceEqDiff, Nat.reduceLeDiff, Nat.reduceAdd, false_and, and_false, if_false, if_true, ite_true, ite_false, true_or, or_true, false_or, or_false, and_self, forall_const, true_implies, reduceCtorEq, clr_int, clr_ref, clr_null, clr_none, clr_long, va_rf_some, va_rf_none, rk]
  refine sp_R_isUser hA0 h8 (fun k e1 e2 e3 => ?_) (fun e1 => ?_)
  · have hc : ∀ i, rg x 12 = some i → c_about H u x = h_about H k i := fun i hi => by unfold c_about; rw [e1, hi]
    have hin : inR (nI k) 8 := inR_nI (by omega) (by decide)
    have hx := qu k (by omega)
    obtain ⟨t0, t1, t2, t3, t4, t5, t6, t7, t8, t9, mm, ff, pp, il, ix, ol, ox⟩ := hx
    have ck : (nI k).toNatClampNeg = k := clN (by omega)
    rw [e3]
    rw [e3] at h hc
    simp only [↓s_137_5, ↓s_137_8, ↓s_137_9, ↓s_137_10, ↓s_137_11, kd_uF, ln_uF, ai_uF, al_uF, ar_uF, zs_uF, fd_uF, kd_uA, ln_uA, fd_uA, al_uA, ar_uA, zs_uA, ai_uA, kd_uL, ln_uL, fd_uL, ai_uL, ar_uL, zs_uL, al_uL, kd_uR, ln_uR, fd_uR, ai_uR, al_uR, zs_uR, ar_uR, true_and, and_true, Option.toList_some, Option.toList_none, List.cons_append, List.nil_append, catS_nil, catS_int, catS_ref, catS_null, catS_long, cat_int, cat_ref, cat_null, Nat.reduceEqDiff, Nat.reduceLeDiff, Nat.reduceAdd, false_and, and_false, if_false, if_true, ite_true, ite_false, true_or, or_true, false_or, or_false, and_self, forall_const, true_implies, reduceCtorEq, clr_int, clr_ref, clr_null, clr_none, clr_long, va_rf_some, va_rf_none]
    refine ⟨fun _ => tsr (by decide) rfl (fun i t hi e => ?_) (fun e => ?_), fun q => absurd q (by decide)⟩
    · rw [hc i e] at h
      rcases i with _ | _ | _ | _ | _ | _ | _ | _ | _ | _ | _ | _ | i
      · cases hi
        simp only [↓s_137_72, ↓s_137_73, ↓s_137_76, ↓s_137_77, ↓s_137_78, kd_uF, ln_uF, ai_uF, al_uF, ar_uF, zs_uF, fd_uF, kd_uA, ln_uA, fd_uA, al_uA, ar_uA, zs_uA, ai_uA, kd_uL, ln_uL, fd_uL, ai_uL, ar_uL, zs_uL, al_uL, kd_uR, ln_uR, fd_uR, ai_uR, al_uR, zs_uR, ar_uR, true_and, and_true, Option.toList_some, Option.toList_none, List.cons_append, List.nil_append, catS_nil, catS_int, catS_ref, catS_null, catS_long, cat_int, cat_ref, cat_null, Nat.reduceEqDiff, Nat.reduceLeDiff, Nat.reduceAdd, false_and, and_false, if_false, if_true, ite_true, ite_false, true_or, or_true, false_or, or_false, and_self, forall_const, true_implies, reduceCtorEq, clr_int, clr_ref, clr_null, clr_none, clr_long, va_rf_some, va_rf_none, rk, r6, k6, n6, ck, t0]
        exact ⟨hin, h⟩
      · cases hi
        simp only [↓s_137_79, ↓s_137_80, ↓s_137_83, ↓s_137_84, ↓s_137_85, kd_uF, ln_uF, ai_uF, al_uF, ar_uF, zs_uF, fd_uF, kd_uA, ln_uA, fd_uA, al_uA, ar_uA, zs_uA, ai_uA, kd_uL, ln_uL, fd_uL, ai_uL, ar_uL, zs_uL, al_uL, kd_uR, ln_uR, fd_uR, ai_uR, al_uR, zs_uR, ar_uR, true_and, and_true, Option.toList_some, Option.toList_none, List.cons_append, List.nil_append, catS_nil, catS_int, catS_ref, catS_null, catS_long, cat_int, cat_ref, cat_null, Nat.reduceEqDiff, Nat.reduceLeDiff, Nat.reduceAdd, false_and, and_false, if_false, if_true, ite_true, ite_false, true_or, or_true, false_or, or_false, and_self, forall_const, true_implies, reduceCtorEq, clr_int, clr_ref, clr_null, clr_none, clr_long, va_rf_some, va_rf_none, rk, r5, k5, n5, ck, t1]
        exact ⟨hin, h⟩
      · cases hi
        simp only [↓s_137_86, ↓s_137_87, ↓s_137_90, ↓s_137_91, ↓s_137_92, kd_uF, ln_uF, ai_uF, al_uF, ar_uF, zs_uF, fd_uF, kd_uA, ln_uA, fd_uA, al_uA, ar_uA, zs_uA, ai_uA, kd_uL, ln_uL, fd_uL, ai_uL, ar_uL, zs_uL, al_uL, kd_uR, ln_uR, fd_uR, ai_uR, al_uR, zs_uR, ar_uR, true_and, and_true, Option.toList_some, Option.toList_none, List.cons_append, List.nil_append, catS_nil, catS_int, catS_ref, catS_null, catS_long, cat_int, cat_ref, cat_null, Nat.reduceEqDiff, Nat.reduceLeDiff, Nat.reduceAdd, false_and, and_false, if_false, if_true, ite_true, ite_false, true_or, or_true, false_or, or_false, and_self, forall_const, true_implies, reduceCtorEq, clr_int, clr_ref, clr_null, clr_none, clr_long, va_rf_some, va_rf_none, rk, r7, k7, n7, ck, t2]
        exact ⟨hin, h⟩
      · cases hi
        simp only [↓s_137_93, ↓s_137_94, ↓s_137_97, ↓s_137_98, ↓s_137_99, kd_uF, ln_uF, ai_uF, al_uF, ar_uF, zs_uF, fd_uF, kd_uA, ln_uA, fd_uA, al_uA, ar_uA, zs_uA, ai_uA, kd_uL, ln_uL, fd_uL, ai_uL, ar_uL, zs_uL, al_uL, kd_uR, ln_uR, fd_uR, ai_uR, al_uR, zs_uR, ar_uR, true_and, and_true, Option.toList_some, Option.toList_none, List.cons_append, List.nil_append, catS_nil, catS_int, catS_ref, catS_null, catS_long, cat_int, cat_ref, cat_null, Nat.reduceEqDiff, Nat.reduceLeDiff, Nat.reduceAdd, false_and, and_false, if_false, if_true, ite_true, ite_false, true_or, or_true, false_or, or_false, and_self, forall_const, true_implies, reduceCtorEq, clr_int, clr_ref, clr_null, clr_none, clr_long, va_rf_some, va_rf_none, rk, r8, k8, n8, ck, t3]
        exact ⟨hin, h⟩
      · cases hi
        simp only [↓s_137_100, ↓s_137_101, ↓s_137_104, ↓s_137_105, ↓s_137_106, kd_uF, ln_uF, ai_uF, al_uF, ar_uF, zs_uF, fd_uF, kd_uA, ln_uA, fd_uA, al_uA, ar_uA, zs_uA, ai_uA, kd_uL, ln_uL, fd_uL, ai_uL, ar_uL, zs_uL, al_uL, kd_uR, ln_uR, fd_uR, ai_uR, al_uR, zs_uR, ar_uR, true_and, and_true, Option.toList_some, Option.toList_none, List.cons_append, List.nil_append, catS_nil, catS_int, catS_ref, catS_null, catS_long, cat_int, cat_ref, cat_null, Nat.reduceEqDiff, Nat.reduceLeDiff, Nat.reduceAdd, false_and, and_false, if_false, if_true, ite_true, ite_false, true_or, or_true, false_or, or_false, and_self, forall_const, true_implies, reduceCtorEq, clr_int, clr_ref, clr_null, clr_none, clr_long, va_rf_some, va_rf_none, rk, r9, k9, n9, ck, t4]
        exact ⟨hin, h⟩
      · cases hi
        simp only [↓s_137_107, ↓s_137_108, ↓s_137_111, ↓s_137_112, ↓s_137_113, kd_uF, ln_uF, ai_uF, al_uF, ar_uF, zs_uF, fd_uF, kd_uA, ln_uA, fd_uA, al_uA, ar_uA, zs_uA, ai_uA, kd_uL, ln_uL, fd_uL, ai_uL, ar_uL, zs_uL, al_uL, kd_uR, ln_uR, fd_uR, ai_uR, al_uR, zs_uR, ar_uR, true_and, and_true, Option.toList_some, Option.toList_none, List.cons_append, List.nil_append, catS_nil, catS_int, catS_ref, catS_null, catS_long, cat_int, cat_ref, cat_null, Nat.reduceEqDiff, Nat.reduceLeDiff, Nat.reduceAdd, false_and, and_false, if_false, if_true, ite_true, ite_false, true_or, or_true, false_or, or_false, and_self, forall_const, true_implies, reduceCtorEq, clr_int, clr_ref, clr_null, clr_none, clr_long, va_rf_some, va_rf_none, rk, r14, k14, n14, ck, il]
        exact ⟨hin, h⟩
      · cases hi
        simp only [↓s_137_114, ↓s_137_115, ↓s_137_118, ↓s_137_119, ↓s_137_120, kd_uF, ln_uF, ai_uF, al_uF, ar_uF, zs_uF, fd_uF, kd_uA, ln_uA, fd_uA, al_uA, ar_uA, zs_uA, ai_uA, kd_uL, ln_uL, fd_uL, ai_uL, ar_uL, zs_uL, al_uL, kd_uR, ln_uR, fd_uR, ai_uR, al_uR, zs_uR, ar_uR, true_and, and_true, Option.toList_some, Option.toList_none, List.cons_append, List.nil_append, catS_nil, catS_int, catS_ref, catS_null, catS_long, cat_int, cat_ref, cat_null, Nat.reduceEqDiff, Nat.reduceLeDiff, Nat.reduceAdd, false_and, and_false, if_false, if_true, ite_true, ite_false, true_or, or_true, false_or, or_false, and_self, forall_const, true_implies, reduceCtorEq, clr_int, clr_ref, clr_null, clr_none, clr_long, va_rf_some, va_rf_none, rk, r16, k16, n16, ck, ol]
        exact ⟨hin, h⟩
      · cases hi
        simp only [↓s_137_121, ↓s_137_122, ↓s_137_125, ↓s_137_126, ↓s_137_127, kd_uF, ln_uF, ai_uF, al_uF, ar_uF, zs_uF, fd_uF, kd_uA, ln_uA, fd_uA, al_uA, ar_uA, zs_uA, ai_uA, kd_uL, ln_uL, fd_uL, ai_uL, ar_uL, zs_uL, al_uL, kd_uR, ln_uR, fd_uR, ai_uR, al_uR, zs_uR, ar_uR, true_and, and_true, Option.toList_some, Option.toList_none, List.cons_append, List.nil_append, catS_nil, catS_int, catS_ref, catS_null, catS_long, cat_int, cat_ref, cat_null, Nat.reduceEqDiff, Nat.reduceLeDiff, Nat.reduceAdd, false_and, and_false, if_false, if_true, ite_true, ite_false, true_or, or_true, false_or, or_false, and_self, forall_const, true_implies, reduceCtorEq, clr_int, clr_ref, clr_null, clr_none, clr_long, va_rf_some, va_rf_none, rk, r11, k11, n11, ck, t6]
        exact ⟨hin, h⟩
      · cases hi
        simp only [↓s_137_128, ↓s_137_129, ↓s_137_132, ↓s_137_133, ↓s_137_134, kd_uF, ln_uF, ai_uF, al_uF, ar_uF, zs_uF, fd_uF, kd_uA, ln_uA, fd_uA, al_uA, ar_uA, zs_uA, ai_uA, kd_uL, ln_uL, fd_uL, ai_uL, ar_uL, zs_uL, al_uL, kd_uR, ln_uR, fd_uR, ai_uR, al_uR, zs_uR, ar_uR, true_and, and_true, Option.toList_some, Option.toList_none, List.cons_append, List.nil_append, catS_nil, catS_int, catS_ref, catS_null, catS_long, cat_int, cat_ref, cat_null, Nat.reduceEqDiff, Nat.reduceLeDiff, Nat.reduceAdd, false_and, and_false, if_false, if_true, ite_true, ite_false, true_or, or_true, false_or, or_false, and_self, forall_const, true_implies, reduceCtorEq, clr_int, clr_ref, clr_null, clr_none, clr_long, va_rf_some, va_rf_none, rk, r2, k2, n2, ck, t7]
        exact ⟨hin, h⟩
      · cases hi
        simp only [↓s_137_135, ↓s_137_136, ↓s_137_139, ↓s_137_140, ↓s_137_141, kd_uF, ln_uF, ai_uF, al_uF, ar_uF, zs_uF, fd_uF, kd_uA, ln_uA, fd_uA, al_uA, ar_uA, zs_uA, ai_uA, kd_uL, ln_uL, fd_uL, ai_uL, ar_uL, zs_uL, al_uL, kd_uR, ln_uR, fd_uR, ai_uR, al_uR, zs_uR, ar_uR, true_and, and_true, Option.toList_some, Option.toList_none, List.cons_append, List.nil_append, catS_nil, catS_int, catS_ref, catS_null, catS_long, cat_int, cat_ref, cat_null, Nat.reduceEqDiff, Nat.reduceLeDiff, Nat.reduceAdd, false_and, and_false, if_false, if_true, ite_true, ite_false, true_or, or_true, false_or, or_false, and_self, forall_const, true_implies, reduceCtorEq, clr_int, clr_ref, clr_null, clr_none, clr_long, va_rf_some, va_rf_none, rk, r18, k18, n18, ck, t8]
        exact ⟨hin, h⟩
      · cases hi
        simp only [↓s_137_142, ↓s_137_143, ↓s_137_144, ↓s_137_147, ↓s_137_150, ↓s_137_151, ↓s_137_154, ↓s_137_157, ↓s_137_158, kd_uF, ln_uF, ai_uF, al_uF, ar_uF, zs_uF, fd_uF, kd_uA, ln_uA, fd_uA, al_uA, ar_uA, zs_uA, ai_uA, kd_uL, ln_uL, fd_uL, ai_uL, ar_uL, zs_uL, al_uL, kd_uR, ln_uR, fd_uR, ai_uR, al_uR, zs_uR, ar_uR, true_and, and_true, Option.toList_some, Option.toList_none, List.cons_append, List.nil_append, catS_nil, catS_int, catS_ref, catS_null, catS_long, cat_int, cat_ref, cat_null, Nat.reduceEqDiff, Nat.reduceLeDiff, Nat.reduceAdd, false_and, and_false, if_false, if_true, ite_true, ite_false, true_or, or_true, false_or, or_false, and_self, forall_const, true_implies, reduceCtorEq, clr_int, clr_ref, clr_null, clr_none, clr_long, va_rf_some, va_rf_none, rk, q6, q7]
        have h6 := hI.2.2.2.2.1
        have hr : nI k = rn (H.1 6) ↔ H.1 6 = k + 1 := by
          unfold rn
          by_cases c : H.1 6 = 0
          · rw [if_pos c]
            exact ⟨fun q => absurd (show ¬ nI k < 0 from nI_pos (by omega)) (by rw [q]; decide), fun q => by omega⟩
          · rw [if_neg c, nI_eq (by omega) (by omega)]; omega
        rw [hr]
        have h' : Q (some (.int (if H.1 6 = k + 1 then nI (H.1 7) else 0))) w := h
        exact ⟨fun q => by rw [if_neg q] at h'; exact h', fun q => by rw [if_pos q] at h'; exact h'⟩
      · cases hi
        simp only [↓s_137_159, ↓s_137_160, ↓s_137_163, ↓s_137_164, ↓s_137_165, kd_uF, ln_uF, ai_uF, al_uF, ar_uF, zs_uF, fd_uF, kd_uA, ln_uA, fd_uA, al_uA, ar_uA, zs_uA, ai_uA, kd_uL, ln_uL, fd_uL, ai_uL, ar_uL, zs_uL, al_uL, kd_uR, ln_uR, fd_uR, ai_uR, al_uR, zs_uR, ar_uR, true_and, and_true, Option.toList_some, Option.toList_none, List.cons_append, List.nil_append, catS_nil, catS_int, catS_ref, catS_null, catS_long, cat_int, cat_ref, cat_null, Nat.reduceEqDiff, Nat.reduceLeDiff, Nat.reduceAdd, false_and, and_false, if_false, if_true, ite_true, ite_false, true_or, or_true, false_or, or_false, and_self, forall_const, true_implies, reduceCtorEq, clr_int, clr_ref, clr_null, clr_none, clr_long, va_rf_some, va_rf_none, rk, r12, k12, n12, ck, t9]
        exact ⟨hin, h⟩
      · exact absurd hi (by simp)
    · have hc2 : c_about H (nI k) x = -1 := by
        have e' : rg x 12 = none := e
        unfold c_about; rw [e']; cases rg (nI k) (H.1 0) <;> rfl
      rw [hc2] at h
      simp only [↓s_137_166, ↓s_137_167, kd_uF, ln_uF, ai_uF, al_uF, ar_uF, zs_uF, fd_uF, kd_uA, ln_uA, fd_uA, al_uA, ar_uA, zs_uA, ai_uA, kd_uL, ln_uL, fd_uL, ai_uL, ar_uL, zs_uL, al_uL, kd_uR, ln_uR, fd_uR, ai_uR, al_uR, zs_uR, ar_uR, true_and, and_true, Option.toList_some, Option.toList_none, List.cons_append, List.nil_append, catS_nil, catS_int, catS_ref, catS_null, catS_long, cat_int, cat_ref, cat_null, Nat.reduceEqDiff, Nat.reduceLeDiff, Nat.reduceAdd, false_and, and_false, if_false, if_true, ite_true, ite_false, true_or, or_true, false_or, or_false, and_self, forall_const, true_implies, reduceCtorEq, clr_int, clr_ref, clr_null, clr_none, clr_long, va_rf_some, va_rf_none]
      exact h
  · have hc : c_about H u x = -1 := by unfold c_about; rw [e1]
    rw [hc] at h
    simp only [↓s_137_5, ↓s_137_8, ↓s_137_9, ↓s_137_10, ↓s_137_11, kd_uF, ln_uF, ai_uF, al_uF, ar_uF, zs_uF, fd_uF, kd_uA, ln_uA, fd_uA, al_uA, ar_uA, zs_uA, ai_uA, kd_uL, ln_uL, fd_uL, ai_uL, ar_uL, zs_uL, al_uL, kd_uR, ln_uR, fd_uR, ai_uR, al_uR, zs_uR, ar_uR, true_and, and_true, Option.toList_some, Option.toList_none, List.cons_append, List.nil_append, catS_nil, catS_int, catS_ref, catS_null, catS_long, cat_int, cat_ref, cat_null, Nat.reduceEqDiff, Nat.reduceLeDiff, Nat.reduceAdd, false_and, and_false, if_false, if_true, ite_true, ite_false, true_or, or_true, false_or, or_false, and_self, forall_const, true_implies, reduceCtorEq, clr_int, clr_ref, clr_null, clr_none, clr_long, va_rf_some, va_rf_none]
    exact ⟨fun q => absurd trivial q, h⟩
def h_house (H : hs) : Nat → Int32
  | 0 => nI (H.1 0)
  | 1 => nI (H.1 1)
  | 2 => nI (H.1 2)
  | 3 => nI (H.1 3)
  | 4 => nI (H.1 4)
  | 5 => nI (H.1 5)
  | 6 => rn (H.1 6)
  | 7 => nI H.2.1.length
  | 8 => nI (H.1 8)
  | 9 => nI (H.1 9)
  | 10 => nI (H.1 10)
  | _ => -1
def c_house (H : hs) (x : Int32) : Int32 := if H.1 0 = 0 then -1 else match rg x 11 with
  | some k => h_house H k
  | none => -1
theorem sp_R_house {dd : Nat} {w : aw} {m : Nat} {x : Int32} {H : hs} {Q : wQ} (hA : RAt w m H) (hI : HI H) (h : Q (some (.int (c_house H x))) w) : wpD (dd + 1) 141 [.ref m, .int x] w Q := by
  refine ⟨Nat.le_of_ble_eq_true rfl, ?_⟩
  show wp dd 141 Q 0 [some (.ref m), some (.int x)] [] w 0 0
  have h8 := hI.1
  obtain ⟨sh, q0, q1, q2, q3, q4, q5, q6, q7, q8, q9, q10, qm, qr, qu⟩ := hA
  have rk := sh.1
  simp only [↓s_141_0, ↓s_141_1, ↓s_141_4, ↓s_141_7, ↓s_141_8, ↓s_141_9, ↓s_141_10, kd_uF, ln_uF, ai_uF, al_uF, ar_uF, zs_uF, fd_uF, kd_uA, ln_uA, fd_uA, al_uA, ar_uA, zs_uA, ai_uA, kd_uL, ln_uL, fd_uL, ai_uL, ar_uL, zs_uL, al_uL, kd_uR, ln_uR, fd_uR, ai_uR, al_uR, zs_uR, ar_uR, true_and, and_true, Option.toList_some, Option.toList_none, List.cons_append, List.nil_append, catS_nil, catS_int, catS_ref, catS_null, catS_long, cat_int, cat_ref, cat_null, Nat.reduceEqDiff, Nat.reduceLeDiff, Nat.reduceAdd, false_and, and_false, if_false, if_true, ite_true, ite_false, true_or, or_true, false_or, or_false, and_self, forall_const, true_implies, reduceCtorEq, clr_int, clr_ref, clr_null, clr_none, clr_long, va_rf_some, va_rf_none, rk, q0]
  rw [show (0 : Int32) = nI 0 from rfl, nI_eq (by omega) (by decide)]
  refine ⟨fun q => tsr (by decide) rfl (fun i t hi e => ?_) (fun e => ?_), fun q => ?_⟩
  · have hc : c_house H x = h_house H i := by
      have e' : rg x 11 = some i := e
      unfold c_house; rw [if_neg q, e']
    rw [hc] at h
    rcases i with _ | _ | _ | _ | _ | _ | _ | _ | _ | _ | _ | i
    · cases hi
      simp only [↓s_141_68, ↓s_141_69, ↓s_141_72, kd_uF, ln_uF, ai_uF, al_uF, ar_uF, zs_uF, fd_uF, kd_uA, ln_uA, fd_uA, al_uA, ar_uA, zs_uA, ai_uA, kd_uL, ln_uL, fd_uL, ai_uL, ar_uL, zs_uL, al_uL, kd_uR, ln_uR, fd_uR, ai_uR, al_uR, zs_uR, ar_uR, true_and, and_true, Option.toList_some, Option.toList_none, List.cons_append, List.nil_append, catS_nil, catS_int, catS_ref, catS_null, catS_long, cat_int, cat_ref, cat_null, Nat.reduceEqDiff, Nat.reduceLeDiff, Nat.reduceAdd, false_and, and_false, if_false, if_true, ite_true, ite_false, true_or, or_true, false_or, or_false, and_self, forall_const, true_implies, reduceCtorEq, clr_int, clr_ref, clr_null, clr_none, clr_long, va_rf_some, va_rf_none, rk, q0]
      exact h
    · cases hi
      simp only [↓s_141_73, ↓s_141_74, ↓s_141_77, kd_uF, ln_uF, ai_uF, al_uF, ar_uF, zs_uF, fd_uF, kd_uA, ln_uA, fd_uA, al_uA, ar_uA, zs_uA, ai_uA, kd_uL, ln_uL, fd_uL, ai_uL, ar_uL, zs_uL, al_uL, kd_uR, ln_uR, fd_uR, ai_uR, al_uR, zs_uR, ar_uR, true_and, and_true, Option.toList_some, Option.toList_none, List.cons_append, List.nil_append, catS_nil, catS_int, catS_ref, catS_null, catS_long, cat_int, cat_ref, cat_null, Nat.reduceEqDiff, Nat.reduceLeDiff, Nat.reduceAdd, false_and, and_false, if_false, if_true, ite_true, ite_false, true_or, or_true, false_or, or_false, and_self, forall_const, true_implies, reduceCtorEq, clr_int, clr_ref, clr_null, clr_none, clr_long, va_rf_some, va_rf_none, rk, q1]
      exact h
    · cases hi
      simp only [↓s_141_78, ↓s_141_79, ↓s_141_82, kd_uF, ln_uF, ai_uF, al_uF, ar_uF, zs_uF, fd_uF, kd_uA, ln_uA, fd_uA, al_uA, ar_uA, zs_uA, ai_uA, kd_uL, ln_uL, fd_uL, ai_uL, ar_uL, zs_uL, al_uL, kd_uR, ln_uR, fd_uR, ai_uR, al_uR, zs_uR, ar_uR, true_and, and_true, Option.toList_some, Option.toList_none, List.cons_append, List.nil_append, catS_nil, catS_int, catS_ref, catS_null, catS_long, cat_int, cat_ref, cat_null, Nat.reduceEqDiff, Nat.reduceLeDiff, Nat.reduceAdd, false_and, and_false, if_false, if_true, ite_true, ite_false, true_or, or_true, false_or, or_false, and_self, forall_const, true_implies, reduceCtorEq, clr_int, clr_ref, clr_null, clr_none, clr_long, va_rf_some, va_rf_none, rk, q2]
      exact h
    · cases hi
      simp only [↓s_141_83, ↓s_141_84, ↓s_141_87, kd_uF, ln_uF, ai_uF, al_uF, ar_uF, zs_uF, fd_uF, kd_uA, ln_uA, fd_uA, al_uA, ar_uA, zs_uA, ai_uA, kd_uL, ln_uL, fd_uL, ai_uL, ar_uL, zs_uL, al_uL, kd_uR, ln_uR, fd_uR, ai_uR, al_uR, zs_uR, ar_uR, true_and, and_true, Option.toList_some, Option.toList_none, List.cons_append, List.nil_append, catS_nil, catS_int, catS_ref, catS_null, catS_long, cat_int, cat_ref, cat_null, Nat.reduceEqDiff, Nat.reduceLeDiff, Nat.reduceAdd, false_and, and_false, if_false, if_true, ite_true, ite_false, true_or, or_true, false_or, or_false, and_self, forall_const, true_implies, reduceCtorEq, clr_int, clr_ref, clr_null, clr_none, clr_long, va_rf_some, va_rf_none, rk, q3]
      exact h
    · cases hi
      simp only [↓s_141_88, ↓s_141_89, ↓s_141_92, kd_uF, ln_uF, ai_uF, al_uF, ar_uF, zs_uF, fd_uF, kd_uA, ln_uA, fd_uA, al_uA, ar_uA, zs_uA, ai_uA, kd_uL, ln_uL, fd_uL, ai_uL, ar_uL, zs_uL, al_uL, kd_uR, ln_uR, fd_uR, ai_uR, al_uR, zs_uR, ar_uR, true_and, and_true, Option.toList_some, Option.toList_none, List.cons_append, List.nil_append, catS_nil, catS_int, catS_ref, catS_null, catS_long, cat_int, cat_ref, cat_null, Nat.reduceEqDiff, Nat.reduceLeDiff, Nat.reduceAdd, false_and, and_false, if_false, if_true, ite_true, ite_false, true_or, or_true, false_or, or_false, and_self, forall_const, true_implies, reduceCtorEq, clr_int, clr_ref, clr_null, clr_none, clr_long, va_rf_some, va_rf_none, rk, q4]
      exact h
    · cases hi
      simp only [↓s_141_93, ↓s_141_94, ↓s_141_97, kd_uF, ln_uF, ai_uF, al_uF, ar_uF, zs_uF, fd_uF, kd_uA, ln_uA, fd_uA, al_uA, ar_uA, zs_uA, ai_uA, kd_uL, ln_uL, fd_uL, ai_uL, ar_uL, zs_uL, al_uL, kd_uR, ln_uR, fd_uR, ai_uR, al_uR, zs_uR, ar_uR, true_and, and_true, Option.toList_some, Option.toList_none, List.cons_append, List.nil_append, catS_nil, catS_int, catS_ref, catS_null, catS_long, cat_int, cat_ref, cat_null, Nat.reduceEqDiff, Nat.reduceLeDiff, Nat.reduceAdd, false_and, and_false, if_false, if_true, ite_true, ite_false, true_or, or_true, false_or, or_false, and_self, forall_const, true_implies, reduceCtorEq, clr_int, clr_ref, clr_null, clr_none, clr_long, va_rf_some, va_rf_none, rk, q5]
      exact h
    · cases hi
      simp only [↓s_141_98, ↓s_141_99, ↓s_141_102, kd_uF, ln_uF, ai_uF, al_uF, ar_uF, zs_uF, fd_uF, kd_uA, ln_uA, fd_uA, al_uA, ar_uA, zs_uA, ai_uA, kd_uL, ln_uL, fd_uL, ai_uL, ar_uL, zs_uL, al_uL, kd_uR, ln_uR, fd_uR, ai_uR, al_uR, zs_uR, ar_uR, true_and, and_true, Option.toList_some, Option.toList_none, List.cons_append, List.nil_append, catS_nil, catS_int, catS_ref, catS_null, catS_long, cat_int, cat_ref, cat_null, Nat.reduceEqDiff, Nat.reduceLeDiff, Nat.reduceAdd, false_and, and_false, if_false, if_true, ite_true, ite_false, true_or, or_true, false_or, or_false, and_self, forall_const, true_implies, reduceCtorEq, clr_int, clr_ref, clr_null, clr_none, clr_long, va_rf_some, va_rf_none, rk, q6]
      exact h
    · cases hi
      simp only [↓s_141_103, ↓s_141_104, ↓s_141_107, kd_uF, ln_uF, ai_uF, al_uF, ar_uF, zs_uF, fd_uF, kd_uA, ln_uA, fd_uA, al_uA, ar_uA, zs_uA, ai_uA, kd_uL, ln_uL, fd_uL, ai_uL, ar_uL, zs_uL, al_uL, kd_uR, ln_uR, fd_uR, ai_uR, al_uR, zs_uR, ar_uR, true_and, and_true, Option.toList_some, Option.toList_none, List.cons_append, List.nil_append, catS_nil, catS_int, catS_ref, catS_null, catS_long, cat_int, cat_ref, cat_null, Nat.reduceEqDiff, Nat.reduceLeDiff, Nat.reduceAdd, false_and, and_false, if_false, if_true, ite_true, ite_false, true_or, or_true, false_or, or_false, and_self, forall_const, true_implies, reduceCtorEq, clr_int, clr_ref, clr_null, clr_none, clr_long, va_rf_some, va_rf_none, rk, qm]
      exact h
    · cases hi
      simp only [↓s_141_108, ↓s_141_109, ↓s_141_112, kd_uF, ln_uF, ai_uF, al_uF, ar_uF, zs_uF, fd_uF, kd_uA, ln_uA, fd_uA, al_uA, ar_uA, zs_uA, ai_uA, kd_uL, ln_uL, fd_uL, ai_uL, ar_uL, zs_uL, al_uL, kd_uR, ln_uR, fd_uR, ai_uR, al_uR, zs_uR, ar_uR, true_and, and_true, Option.toList_some, Option.toList_none, List.cons_append, List.nil_append, catS_nil, catS_int, catS_ref, catS_null, catS_long, cat_int, cat_ref, cat_null, Nat.reduceEqDiff, Nat.reduceLeDiff, Nat.reduceAdd, false_and, and_false, if_false, if_true, ite_true, ite_false, true_or, or_true, false_or, or_false, and_self, forall_const, true_implies, reduceCtorEq, clr_int, clr_ref, clr_null, clr_none, clr_long, va_rf_some, va_rf_none, rk, q8]
      exact h
    · cases hi
      simp only [↓s_141_113, ↓s_141_114, ↓s_141_117, kd_uF, ln_uF, ai_uF, al_uF, ar_uF, zs_uF, fd_uF, kd_uA, ln_uA, fd_uA, al_uA, ar_uA, zs_uA, ai_uA, kd_uL, ln_uL, fd_uL, ai_uL, ar_uL, zs_uL, al_uL, kd_uR, ln_uR, fd_uR, ai_uR, al_uR, zs_uR, ar_uR, true_and, and_true, Option.toList_some, Option.toList_none, List.cons_append, List.nil_append, catS_nil, catS_int, catS_ref, catS_null, catS_long, cat_int, cat_ref, cat_null, Nat.reduceEqDiff, Nat.reduceLeDiff, Nat.reduceAdd, false_and, and_false, if_false, if_true, ite_true, ite_false, true_or, or_true, false_or, or_false, and_self, forall_const, true_implies, reduceCtorEq, clr_int, clr_ref, clr_null, clr_none, clr_long, va_rf_some, va_rf_none, rk, q9]
      exact h
    · cases hi
      simp only [↓s_141_118, ↓s_141_119, ↓s_141_122, kd_uF, ln_uF, ai_uF, al_uF, ar_uF, zs_uF, fd_uF, kd_uA, ln_uA, fd_uA, al_uA, ar_uA, zs_uA, ai_uA, kd_uL, ln_uL, fd_uL, ai_uL, ar_uL, zs_uL, al_uL, kd_uR, ln_uR, fd_uR, ai_uR, al_uR, zs_uR, ar_uR, true_and, and_true, Option.toList_some, Option.toList_none, List.cons_append, List.nil_append, catS_nil, catS_int, catS_ref, catS_null, catS_long, cat_int, cat_ref, cat_null, Nat.reduceEqDiff, Nat.reduceLeDiff, Nat.reduceAdd, false_and, and_false, if_false, if_true, ite_true, ite_false, true_or, or_true, false_or, or_false, and_self, forall_const, true_implies, reduceCtorEq, clr_int, clr_ref, clr_null, clr_none, clr_long, va_rf_some, va_rf_none, rk, q10]
      exact h
    · exact absurd hi (by simp)
  · have hc : c_house H x = -1 := by
      have e' : rg x 11 = none := e
      unfold c_house; rw [if_neg q, e']
    rw [hc] at h
    simp only [↓s_141_123, ↓s_141_124, kd_uF, ln_uF, ai_uF, al_uF, ar_uF, zs_uF, fd_uF, kd_uA, ln_uA, fd_uA, al_uA, ar_uA, zs_uA, ai_uA, kd_uL, ln_uL, fd_uL, ai_uL, ar_uL, zs_uL, al_uL, kd_uR, ln_uR, fd_uR, ai_uR, al_uR, zs_uR, ar_uR, true_and, and_true, Option.toList_some, Option.toList_none, List.cons_append, List.nil_append, catS_nil, catS_int, catS_ref, catS_null, catS_long, cat_int, cat_ref, cat_null, Nat.reduceEqDiff, Nat.reduceLeDiff, Nat.reduceAdd, false_and, and_false, if_false, if_true, ite_true, ite_false, true_or, or_true, false_or, or_false, and_self, forall_const, true_implies, reduceCtorEq, clr_int, clr_ref, clr_null, clr_none, clr_long, va_rf_some, va_rf_none]
    exact h
  · have hc : c_house H x = -1 := by unfold c_house; rw [if_pos q]
    rw [hc] at h
    exact h
def dg (d : Int64) (x : Int32) : Int64 := d * 31 + x.toInt64
def dgl (f : Nat → Int32) (d : Int64) : Nat → Int64
  | 0 => d
  | n + 1 => dg (dgl f d n) (f n)
def dgu (H : hs) (d : Int64) : Nat → Int64
  | 0 => d
  | u + 1 => dgl (fun k => nI (uFf (H.2.2 u) k)) (dgl (fun k => nI (uMm (H.2.2 u) k)) (dgl (fun k => h_about H u k) (dgu H d u) 12) 4096) 4096
def c_digest (H : hs) : Int64 := dgu H (dgl (fun k => c_house H (nI k)) 7 11) (H.1 0)
theorem sp_R_digest {dd : Nat} {w : aw} {m : Nat} {H : hs} {Q : wQ} (hA : RAt w m H) (hI : HI H) (h : Q (some (.long (c_digest H))) w) : wpD (dd + 4) 143 [.ref m] w Q := by
  refine ⟨Nat.le_of_ble_eq_true rfl, ?_⟩
  show wp (dd + 3) 143 Q 0 [some (.ref m), none, none, none, none] [] w 0 0
  have hA0 := hA
  have h8 := hI.1
  obtain ⟨sh, q0, q1, q2, q3, q4, q5, q6, q7, q8, q9, q10, qm, qr, qu⟩ := hA
  obtain ⟨rk, r1, r2, r3, r4, r5, r6, r7, r8, r9, r10, r11, r12, r13, r14, r15, r16, r17, r18, r19, r20, r21, r22, r23, r24, k1, k2, k3, k4, k5, k6, k7, k8, k9, k10, k11, k12, k13, k14, k15, k16, k17, k18, k19, k20, k21, k22, k23, k24, n1, n2, n3, n4, n5, n6, n7, n8, n9, n10, n11, n12, n13, n14, n15, n16, n17, n18, n19, n20, n21, n22, n23, n24⟩ := sh
  have L0 := dgl (fun k => c_house H (nI k)) 7 11
  -- the users
  have l33 : ∀ (j u : Nat) (x : Option Value), u + j = H.1 0 → wp (dd + 3) 143 Q 33 [some (.ref m), some (.long (dgu H (dgl (fun k => c_house H (nI k)) 7 11) u)), none, some (.int (nI u)), x] [] w 0 0 := by
    intro j
    induction j with
    | zero =>
      intro u x hu
      rw [s_143_33]
      simp only [↓s_143_34, ↓s_143_35, ↓s_143_38, ↓s_143_41, ↓s_143_42, ↓s_143_148, ↓s_143_149, kd_uF, ln_uF, ai_uF, al_uF, ar_uF, zs_uF, fd_uF, kd_uA, ln_uA, fd_uA, al_uA, ar_uA, zs_uA, ai_uA, kd_uL, ln_uL, fd_uL, ai_uL, ar_uL, zs_uL, al_uL, kd_uR, ln_uR, fd_uR, ai_uR, al_uR, zs_uR, ar_uR, true_and, and_true, Option.toList_some, Option.toList_none, List.cons_append, List.nil_append, catS_nil, catS_int, catS_ref, catS_null, catS_long, cat_int, cat_ref, cat_null, Nat.reduceEqDiff, Nat.reduceLeDiff, Nat.reduceAdd, false_and, and_false, if_false, if_true, ite_true, ite_false, true_or, or_true, false_or, or_false, and_self, forall_const, true_implies, reduceCtorEq, clr_int, clr_ref, clr_null, clr_none, clr_long, va_rf_some, va_rf_none, rk, q0]
      have e : u = H.1 0 := by omega
      subst e
      exact ⟨fun _ => h, fun q => absurd (nI_le (Nat.le_refl _) (by omega)) q⟩
    | succ j ih =>
      intro u x hu
      have hx := qu u (by omega)
      have ff := hx.2.2.2.2.2.2.2.2.2.2.2.1
      rw [s_143_33]
      simp only [↓s_143_34, ↓s_143_35, ↓s_143_38, ↓s_143_41, ↓s_143_42, ↓s_143_148, ↓s_143_149, kd_uF, ln_uF, ai_uF, al_uF, ar_uF, zs_uF, fd_uF, kd_uA, ln_uA, fd_uA, al_uA, ar_uA, zs_uA, ai_uA, kd_uL, ln_uL, fd_uL, ai_uL, ar_uL, zs_uL, al_uL, kd_uR, ln_uR, fd_uR, ai_uR, al_uR, zs_uR, ar_uR, true_and, and_true, Option.toList_some, Option.toList_none, List.cons_append, List.nil_append, catS_nil, catS_int, catS_ref, catS_null, catS_long, cat_int, cat_ref, cat_null, Nat.reduceEqDiff, Nat.reduceLeDiff, Nat.reduceAdd, false_and, and_false, if_false, if_true, ite_true, ite_false, true_or, or_true, false_or, or_false, and_self, forall_const, true_implies, reduceCtorEq, clr_int, clr_ref, clr_null, clr_none, clr_long, va_rf_some, va_rf_none, rk, q0]
      refine ⟨fun q => absurd q (nI_ge (by omega) (by omega)), fun _ => ?_⟩
      have l107 : ∀ (i k : Nat), k + i = 4096 → wp (dd + 3) 143 Q 107 [some (.ref m), some (.long (dgl (fun k => nI (uFf (H.2.2 u) k)) (dgl (fun k => nI (uMm (H.2.2 u) k)) (dgl (fun k => h_about H u k) (dgu H (dgl (fun k => c_house H (nI k)) 7 11) u) 12) 4096) k)), none, some (.int (nI u)), some (.int (nI k))] [] w 0 0 := by
        intro i
        induction i with
        | zero =>
          intro k hk
          have e : k = 4096 := by omega
          subst e
          rw [s_143_107]
          simp only [↓s_143_109, ↓s_143_112, ↓s_143_115, ↓s_143_116, ↓s_143_119, ↓s_143_120, ↓s_143_121, ↓s_143_124, ↓s_143_127, ↓s_143_128, ↓s_143_129, ↓s_143_131, ↓s_143_132, ↓s_143_133, ↓s_143_134, ↓s_143_135, ↓s_143_136, ↓s_143_139, ↓s_143_142, ↓s_143_145, kd_uF, ln_uF, ai_uF, al_uF, ar_uF, zs_uF, fd_uF, kd_uA, ln_uA, fd_uA, al_uA, ar_uA, zs_uA, ai_uA, kd_uL, ln_uL, fd_uL, ai_uL, ar_uL, zs_uL, al_uL, kd_uR, ln_uR, fd_uR, ai_uR, al_uR, zs_uR, ar_uR, true_and, and_true, Option.toList_some, Option.toList_none, List.cons_append, List.nil_append, catS_nil, catS_int, catS_ref, catS_null, catS_long, cat_int, cat_ref, cat_null, Nat.reduceEqDiff, Nat.reduceLeDiff, Nat.reduceAdd, false_and, and_false, if_false, if_true, ite_true, ite_false, true_or, or_true, false_or, or_false, and_self, forall_const, true_implies, reduceCtorEq, clr_int, clr_ref, clr_null, clr_none, clr_long, va_rf_some, va_rf_none, rk, r4, k4, n4]
          exact ⟨fun _ => by rw [nI_1]; exact ih (u + 1) _ (by omega), fun q => absurd (by decide) q⟩
        | succ i ihi =>
          intro k hk
          rw [s_143_107]
          simp only [↓s_143_109, ↓s_143_112, ↓s_143_115, ↓s_143_116, ↓s_143_119, ↓s_143_120, ↓s_143_121, ↓s_143_124, ↓s_143_127, ↓s_143_128, ↓s_143_129, ↓s_143_131, ↓s_143_132, ↓s_143_133, ↓s_143_134, ↓s_143_135, ↓s_143_136, ↓s_143_139, ↓s_143_142, ↓s_143_145, kd_uF, ln_uF, ai_uF, al_uF, ar_uF, zs_uF, fd_uF, kd_uA, ln_uA, fd_uA, al_uA, ar_uA, zs_uA, ai_uA, kd_uL, ln_uL, fd_uL, ai_uL, ar_uL, zs_uL, al_uL, kd_uR, ln_uR, fd_uR, ai_uR, al_uR, zs_uR, ar_uR, true_and, and_true, Option.toList_some, Option.toList_none, List.cons_append, List.nil_append, catS_nil, catS_int, catS_ref, catS_null, catS_long, cat_int, cat_ref, cat_null, Nat.reduceEqDiff, Nat.reduceLeDiff, Nat.reduceAdd, false_and, and_false, if_false, if_true, ite_true, ite_false, true_or, or_true, false_or, or_false, and_self, forall_const, true_implies, reduceCtorEq, clr_int, clr_ref, clr_null, clr_none, clr_long, va_rf_some, va_rf_none, rk, r4, k4, n4]
          rw [show (4096 : Int32) = nI 4096 from rfl, pk_mul, nI_add, clN (by omega), ff k (by omega), nI_1 k]
          refine ⟨fun q => absurd q (nI_ge (by omega) (by decide)), fun _ => ⟨inR_nI (by omega) (by decide), ?_⟩⟩
          exact ihi (k + 1) (by omega)
      have l75 : ∀ (i k : Nat), k + i = 4096 → wp (dd + 3) 143 Q 75 [some (.ref m), some (.long (dgl (fun k => nI (uMm (H.2.2 u) k)) (dgl (fun k => h_about H u k) (dgu H (dgl (fun k => c_house H (nI k)) 7 11) u) 12) k)), none, some (.int (nI u)), some (.int (nI k))] [] w 0 0 := by
        intro i
        induction i with
        | zero =>
          intro k hk
          have e : k = 4096 := by omega
          subst e
          rw [s_143_75]
          simp only [↓s_143_77, ↓s_143_80, ↓s_143_83, ↓s_143_84, ↓s_143_87, ↓s_143_88, ↓s_143_89, ↓s_143_90, ↓s_143_92, ↓s_143_104, ↓s_143_105, kd_uF, ln_uF, ai_uF, al_uF, ar_uF, zs_uF, fd_uF, kd_uA, ln_uA, fd_uA, al_uA, ar_uA, zs_uA, ai_uA, kd_uL, ln_uL, fd_uL, ai_uL, ar_uL, zs_uL, al_uL, kd_uR, ln_uR, fd_uR, ai_uR, al_uR, zs_uR, ar_uR, true_and, and_true, Option.toList_some, Option.toList_none, List.cons_append, List.nil_append, catS_nil, catS_int, catS_ref, catS_null, catS_long, cat_int, cat_ref, cat_null, Nat.reduceEqDiff, Nat.reduceLeDiff, Nat.reduceAdd, false_and, and_false, if_false, if_true, ite_true, ite_false, true_or, or_true, false_or, or_false, and_self, forall_const, true_implies, reduceCtorEq, clr_int, clr_ref, clr_null, clr_none, clr_long, va_rf_some, va_rf_none, rk]
          exact ⟨fun _ => l107 4096 0 (by omega), fun q => absurd (by decide) q⟩
        | succ i ihi =>
          intro k hk
          rw [s_143_75]
          simp only [↓s_143_77, ↓s_143_80, ↓s_143_83, ↓s_143_84, ↓s_143_87, ↓s_143_88, ↓s_143_89, ↓s_143_90, ↓s_143_92, ↓s_143_104, ↓s_143_105, kd_uF, ln_uF, ai_uF, al_uF, ar_uF, zs_uF, fd_uF, kd_uA, ln_uA, fd_uA, al_uA, ar_uA, zs_uA, ai_uA, kd_uL, ln_uL, fd_uL, ai_uL, ar_uL, zs_uL, al_uL, kd_uR, ln_uR, fd_uR, ai_uR, al_uR, zs_uR, ar_uR, true_and, and_true, Option.toList_some, Option.toList_none, List.cons_append, List.nil_append, catS_nil, catS_int, catS_ref, catS_null, catS_long, cat_int, cat_ref, cat_null, Nat.reduceEqDiff, Nat.reduceLeDiff, Nat.reduceAdd, false_and, and_false, if_false, if_true, ite_true, ite_false, true_or, or_true, false_or, or_false, and_self, forall_const, true_implies, reduceCtorEq, clr_int, clr_ref, clr_null, clr_none, clr_long, va_rf_some, va_rf_none, rk]
          refine ⟨fun q => absurd q (nI_ge (show k < 4096 by omega) (by decide)), fun _ => sp_R_get hA0.1 hx (by omega) (by omega) ?_⟩
          simp only [↓s_143_95, ↓s_143_96, ↓s_143_97, ↓s_143_98, ↓s_143_101, kd_uF, ln_uF, ai_uF, al_uF, ar_uF, zs_uF, fd_uF, kd_uA, ln_uA, fd_uA, al_uA, ar_uA, zs_uA, ai_uA, kd_uL, ln_uL, fd_uL, ai_uL, ar_uL, zs_uL, al_uL, kd_uR, ln_uR, fd_uR, ai_uR, al_uR, zs_uR, ar_uR, true_and, and_true, Option.toList_some, Option.toList_none, List.cons_append, List.nil_append, catS_nil, catS_int, catS_ref, catS_null, catS_long, cat_int, cat_ref, cat_null, Nat.reduceEqDiff, Nat.reduceLeDiff, Nat.reduceAdd, false_and, and_false, if_false, if_true, ite_true, ite_false, true_or, or_true, false_or, or_false, and_self, forall_const, true_implies, reduceCtorEq, clr_int, clr_ref, clr_null, clr_none, clr_long, va_rf_some, va_rf_none]
          rw [nI_1]
          exact ihi (k + 1) (by omega)
      have l44 : ∀ (i k : Nat), k + i = 12 → wp (dd + 3) 143 Q 44 [some (.ref m), some (.long (dgl (fun k => h_about H u k) (dgu H (dgl (fun k => c_house H (nI k)) 7 11) u) k)), none, some (.int (nI u)), some (.int (nI k))] [] w 0 0 := by
        intro i
        induction i with
        | zero =>
          intro k hk
          have e : k = 12 := by omega
          subst e
          rw [s_143_44]
          simp only [↓s_143_46, ↓s_143_48, ↓s_143_51, ↓s_143_52, ↓s_143_55, ↓s_143_56, ↓s_143_57, ↓s_143_58, ↓s_143_60, ↓s_143_72, ↓s_143_73, kd_uF, ln_uF, ai_uF, al_uF, ar_uF, zs_uF, fd_uF, kd_uA, ln_uA, fd_uA, al_uA, ar_uA, zs_uA, ai_uA, kd_uL, ln_uL, fd_uL, ai_uL, ar_uL, zs_uL, al_uL, kd_uR, ln_uR, fd_uR, ai_uR, al_uR, zs_uR, ar_uR, true_and, and_true, Option.toList_some, Option.toList_none, List.cons_append, List.nil_append, catS_nil, catS_int, catS_ref, catS_null, catS_long, cat_int, cat_ref, cat_null, Nat.reduceEqDiff, Nat.reduceLeDiff, Nat.reduceAdd, false_and, and_false, if_false, if_true, ite_true, ite_false, true_or, or_true, false_or, or_false, and_self, forall_const, true_implies, reduceCtorEq, clr_int, clr_ref, clr_null, clr_none, clr_long, va_rf_some, va_rf_none, rk]
          exact ⟨fun _ => l75 4096 0 (by omega), fun q => absurd (by decide) q⟩
        | succ i ihi =>
          intro k hk
          rw [s_143_44]
          simp only [↓s_143_46, ↓s_143_48, ↓s_143_51, ↓s_143_52, ↓s_143_55, ↓s_143_56, ↓s_143_57, ↓s_143_58, ↓s_143_60, ↓s_143_72, ↓s_143_73, kd_uF, ln_uF, ai_uF, al_uF, ar_uF, zs_uF, fd_uF, kd_uA, ln_uA, fd_uA, al_uA, ar_uA, zs_uA, ai_uA, kd_uL, ln_uL, fd_uL, ai_uL, ar_uL, zs_uL, al_uL, kd_uR, ln_uR, fd_uR, ai_uR, al_uR, zs_uR, ar_uR, true_and, and_true, Option.toList_some, Option.toList_none, List.cons_append, List.nil_append, catS_nil, catS_int, catS_ref, catS_null, catS_long, cat_int, cat_ref, cat_null, Nat.reduceEqDiff, Nat.reduceLeDiff, Nat.reduceAdd, false_and, and_false, if_false, if_true, ite_true, ite_false, true_or, or_true, false_or, or_false, and_self, forall_const, true_implies, reduceCtorEq, clr_int, clr_ref, clr_null, clr_none, clr_long, va_rf_some, va_rf_none, rk]
          refine ⟨fun q => absurd q (nI_ge (show k < 12 by omega) (by decide)), fun _ => sp_R_about hA0 hI ?_⟩
          have e : c_about H (nI u) (nI k) = h_about H u k := by unfold c_about; rw [rg_nI (by omega) (by omega), rg_nI (by omega) (by decide)]
          rw [e]
          simp only [↓s_143_63, ↓s_143_64, ↓s_143_65, ↓s_143_66, ↓s_143_69, kd_uF, ln_uF, ai_uF, al_uF, ar_uF, zs_uF, fd_uF, kd_uA, ln_uA, fd_uA, al_uA, ar_uA, zs_uA, ai_uA, kd_uL, ln_uL, fd_uL, ai_uL, ar_uL, zs_uL, al_uL, kd_uR, ln_uR, fd_uR, ai_uR, al_uR, zs_uR, ar_uR, true_and, and_true, Option.toList_some, Option.toList_none, List.cons_append, List.nil_append, catS_nil, catS_int, catS_ref, catS_null, catS_long, cat_int, cat_ref, cat_null, Nat.reduceEqDiff, Nat.reduceLeDiff, Nat.reduceAdd, false_and, and_false, if_false, if_true, ite_true, ite_false, true_or, or_true, false_or, or_false, and_self, forall_const, true_implies, reduceCtorEq, clr_int, clr_ref, clr_null, clr_none, clr_long, va_rf_some, va_rf_none]
          rw [nI_1]
          exact ihi (k + 1) (by omega)
      exact l44 12 0 (by omega)
  have l6 : ∀ (i k : Nat), k + i = 11 → wp (dd + 3) 143 Q 6 [some (.ref m), some (.long (dgl (fun k => c_house H (nI k)) 7 k)), none, some (.int (nI k)), none] [] w 0 0 := by
    intro i
    induction i with
    | zero =>
      intro k hk
      have e : k = 11 := by omega
      subst e
      rw [s_143_6]
      simp only [↓s_143_7, ↓s_143_9, ↓s_143_12, ↓s_143_13, ↓s_143_16, ↓s_143_17, ↓s_143_18, ↓s_143_19, ↓s_143_31, ↓s_143_32, kd_uF, ln_uF, ai_uF, al_uF, ar_uF, zs_uF, fd_uF, kd_uA, ln_uA, fd_uA, al_uA, ar_uA, zs_uA, ai_uA, kd_uL, ln_uL, fd_uL, ai_uL, ar_uL, zs_uL, al_uL, kd_uR, ln_uR, fd_uR, ai_uR, al_uR, zs_uR, ar_uR, true_and, and_true, Option.toList_some, Option.toList_none, List.cons_append, List.nil_append, catS_nil, catS_int, catS_ref, catS_null, catS_long, cat_int, cat_ref, cat_null, Nat.reduceEqDiff, Nat.reduceLeDiff, Nat.reduceAdd, false_and, and_false, if_false, if_true, ite_true, ite_false, true_or, or_true, false_or, or_false, and_self, forall_const, true_implies, reduceCtorEq, clr_int, clr_ref, clr_null, clr_none, clr_long, va_rf_some, va_rf_none, rk]
      exact ⟨fun _ => l33 (H.1 0) 0 _ (by omega), fun q => absurd (by decide) q⟩
    | succ i ihi =>
      intro k hk
      rw [s_143_6]
      simp only [↓s_143_7, ↓s_143_9, ↓s_143_12, ↓s_143_13, ↓s_143_16, ↓s_143_17, ↓s_143_18, ↓s_143_19, ↓s_143_31, ↓s_143_32, kd_uF, ln_uF, ai_uF, al_uF, ar_uF, zs_uF, fd_uF, kd_uA, ln_uA, fd_uA, al_uA, ar_uA, zs_uA, ai_uA, kd_uL, ln_uL, fd_uL, ai_uL, ar_uL, zs_uL, al_uL, kd_uR, ln_uR, fd_uR, ai_uR, al_uR, zs_uR, ar_uR, true_and, and_true, Option.toList_some, Option.toList_none, List.cons_append, List.nil_append, catS_nil, catS_int, catS_ref, catS_null, catS_long, cat_int, cat_ref, cat_null, Nat.reduceEqDiff, Nat.reduceLeDiff, Nat.reduceAdd, false_and, and_false, if_false, if_true, ite_true, ite_false, true_or, or_true, false_or, or_false, and_self, forall_const, true_implies, reduceCtorEq, clr_int, clr_ref, clr_null, clr_none, clr_long, va_rf_some, va_rf_none, rk]
      refine ⟨fun q => absurd q (nI_ge (show k < 11 by omega) (by decide)), fun _ => sp_R_house hA0 hI ?_⟩
      simp only [↓s_143_22, ↓s_143_23, ↓s_143_24, ↓s_143_25, ↓s_143_28, kd_uF, ln_uF, ai_uF, al_uF, ar_uF, zs_uF, fd_uF, kd_uA, ln_uA, fd_uA, al_uA, ar_uA, zs_uA, ai_uA, kd_uL, ln_uL, fd_uL, ai_uL, ar_uL, zs_uL, al_uL, kd_uR, ln_uR, fd_uR, ai_uR, al_uR, zs_uR, ar_uR, true_and, and_true, Option.toList_some, Option.toList_none, List.cons_append, List.nil_append, catS_nil, catS_int, catS_ref, catS_null, catS_long, cat_int, cat_ref, cat_null, Nat.reduceEqDiff, Nat.reduceLeDiff, Nat.reduceAdd, false_and, and_false, if_false, if_true, ite_true, ite_false, true_or, or_true, false_or, or_false, and_self, forall_const, true_implies, reduceCtorEq, clr_int, clr_ref, clr_null, clr_none, clr_long, va_rf_some, va_rf_none]
      rw [nI_1]
      exact ihi (k + 1) (by omega)
  simp only [↓s_143_0, ↓s_143_3, ↓s_143_4, ↓s_143_5, kd_uF, ln_uF, ai_uF, al_uF, ar_uF, zs_uF, fd_uF, kd_uA, ln_uA, fd_uA, al_uA, ar_uA, zs_uA, ai_uA, kd_uL, ln_uL, fd_uL, ai_uL, ar_uL, zs_uL, al_uL, kd_uR, ln_uR, fd_uR, ai_uR, al_uR, zs_uR, ar_uR, true_and, and_true, Option.toList_some, Option.toList_none, List.cons_append, List.nil_append, catS_nil, catS_int, catS_ref, catS_null, catS_long, cat_int, cat_ref, cat_null, Nat.reduceEqDiff, Nat.reduceLeDiff, Nat.reduceAdd, false_and, and_false, if_false, if_true, ite_true, ite_false, true_or, or_true, false_or, or_false, and_self, forall_const, true_implies, reduceCtorEq, clr_int, clr_ref, clr_null, clr_none, clr_long, va_rf_some, va_rf_none]
  exact l6 11 0 (by omega)
