theorem s2_0 {T : Nat → Nat} {p e : Nat} {t : nt} {S : ps} (hr : right T e (p0 T p e) = true) (hk : knd T e (p0 T p e) = 0 ∨ knd T e (p0 T p e) = 2) : s2 T p e t S = (0, S) := by
  unfold s2; rw [if_neg (by rw [hr]; decide)]
  rcases hk with hk | hk <;> (rw [hk]; rfl)
theorem s2_1n {T : Nat → Nat} {p e : Nat} {t : nt} {S : ps} (hr : right T e (p0 T p e) = true) (hk : knd T e (p0 T p e) = 1) (hv : vAt T e t S.1 (p0 T p e) = none) : s2 T p e t S = (99, S) := by
  unfold s2; rw [if_neg (by rw [hr]; decide), hk, hv]; rfl
theorem s2_1s {T : Nat → Nat} {p e v : Nat} {t : nt} {S : ps} (hr : right T e (p0 T p e) = true) (hk : knd T e (p0 T p e) = 1) (hv : vAt T e t S.1 (p0 T p e) = some v) : s2 T p e t S = (0, (v, S.2)) := by
  unfold s2; rw [if_neg (by rw [hr]; decide), hk, hv]; rfl
theorem s2_3 {T : Nat → Nat} {p e : Nat} {t : nt} {S : ps} (hr : right T e (p0 T p e) = true) (hk : knd T e (p0 T p e) = 3) : s2 T p e t S = match vAt T e t S.1 (p0 T p e) with | none => (2, S) | some v => putM T e (p0 T p e) v ((mwA T e (p0 T p e)).getD 0) S := by
  unfold s2; rw [if_neg (by rw [hr]; decide), hk]; rfl
theorem s2_4 {T : Nat → Nat} {p e : Nat} {t : nt} {S : ps} (hr : right T e (p0 T p e) = true) (hk : knd T e (p0 T p e) = 4) : s2 T p e t S = match vAt T e t S.1 (p0 T p e) with | none => (2, S) | some v => putN S v := by
  unfold s2; rw [if_neg (by rw [hr]; decide), hk]; rfl
theorem orO_some {a b v : Option Nat} {x y : Nat} (h : orO a b = some x) : ∃ p q, a = some p ∧ b = some q ∧ x = p ||| q := by
  unfold orO at h
  split at h
  · cases h; exact ⟨_, _, rfl, rfl, rfl⟩
  · cases h
theorem sp_R_rowWord {d : Nat} {w : aw} {m e p : Nat} {T : Nat → Nat} {t : nt} {S : ps} {r : Nat × ps} {Q : wQ} (hQ : RQ w m T e t S.1 p) (hN : TN t) (hW : RWd w m S) (hI : PI S) (hS : rS T e (e - p) p = true) (hr : r = match rV T e t S.1 (e - p) p (some 0) with | none => (2, S) | some v => putN S v) (h : ∀ w', FrD w w' m → RO w' m r → Q (some (.int (nI r.1))) w') : wpD (d + 6) 169 [.ref m] w Q := by
  refine ⟨Nat.le_of_ble_eq_true rfl, ?_⟩
  show wp (d + 5) 169 Q 0 [some (.ref m), none, none, none] [] w 0 0
  have he := hQ.1.2.2.2.2.1
  have hd := hI.1
  have j51 : ∀ w1 (o : Option Nat) (a : Nat) (A : Option Value), rV T e t S.1 (e - p) p (some 0) = o → a < 4096 → (∀ v, o = some v → v = a) → RQ w1 m T e t S.1 e → FrA w w1 m → wp (d + 5) 169 Q 51 [some (.ref m), some (.int (nI a)), some (.int (if o.isSome = true then 1 else 0)), A] [] w1 0 0 := by
    intro w1 o a A e1 ha ho hq f1
    have rk1 := hq.1.1.1
    have hD1 := hq.2.2
    have hW1 := hW.A f1
    rw [e1] at hr
    cases o with
    | none =>
      have hr' : r = (2, S) := hr
      rw [hr'] at h
      simp only [Option.isSome_none, Bool.false_eq_true, if_false, ↓s_169_51, ↓s_169_52, ↓s_169_55, ↓s_169_56, ↓s_169_57, ↓s_169_58, ↓s_169_59, ↓s_169_62, ↓s_169_63, ↓s_169_64, kd_uF, ln_uF, ai_uF, al_uF, ar_uF, zs_uF, fd_uF, kd_uA, ln_uA, fd_uA, al_uA, ar_uA, zs_uA, ai_uA, kd_uL, ln_uL, fd_uL, ai_uL, ar_uL, zs_uL, al_uL, kd_uR, ln_uR, fd_uR, ai_uR, al_uR, zs_uR, ar_uR, true_and, and_true, Option.toList_some, Option.toList_none, List.cons_append, List.nil_append, catS_nil, catS_int, catS_ref, catS_null, catS_long, cat_int, cat_ref, cat_null, Nat.reduceEqDiff, Nat.reduceLeDiff, Nat.reduceAdd, false_and, and_false, if_false, if_true, ite_true, ite_false, true_or, or_true, false_or, or_false, and_self, forall_const, true_implies, reduceCtorEq, clr_int, clr_ref, clr_null, clr_none, clr_long, va_rf_some, va_rf_none, rk1]
      exact ⟨fun q => absurd trivial q, h w1 f1.D (fun q => absurd (show (2 : Nat) = 0 from q) (by decide))⟩
    | some v =>
      have ev := ho v rfl
      subst ev
      have hr' : r = putN S v := hr
      simp only [Option.isSome_some, if_true, ↓s_169_51, ↓s_169_52, ↓s_169_55, ↓s_169_56, ↓s_169_57, ↓s_169_58, ↓s_169_59, ↓s_169_62, ↓s_169_63, ↓s_169_64, kd_uF, ln_uF, ai_uF, al_uF, ar_uF, zs_uF, fd_uF, kd_uA, ln_uA, fd_uA, al_uA, ar_uA, zs_uA, ai_uA, kd_uL, ln_uL, fd_uL, ai_uL, ar_uL, zs_uL, al_uL, kd_uR, ln_uR, fd_uR, ai_uR, al_uR, zs_uR, ar_uR, true_and, and_true, Option.toList_some, Option.toList_none, List.cons_append, List.nil_append, catS_nil, catS_int, catS_ref, catS_null, catS_long, cat_int, cat_ref, cat_null, Nat.reduceEqDiff, Nat.reduceLeDiff, Nat.reduceAdd, false_and, and_false, if_false, if_true, ite_true, ite_false, true_or, or_true, false_or, or_false, and_self, forall_const, true_implies, reduceCtorEq, clr_int, clr_ref, clr_null, clr_none, clr_long, va_rf_some, va_rf_none, rk1, hD1]
      refine ⟨fun _ => sp_R_comes hq.1.1 hW1 hI hd ha (fun y e2 => ?_) (fun e2 => ?_), fun q => absurd q (by decide)⟩
      · rw [putN_none e2] at hr'
        rw [hr'] at h
        simp only [↓s_169_67, ↓s_169_68, ↓s_169_69, ↓s_169_70, ↓s_169_73, ↓s_169_74, ↓s_169_75, ↓s_169_78, ↓s_169_79, ↓s_169_82, ↓s_169_83, kd_uF, ln_uF, ai_uF, al_uF, ar_uF, zs_uF, fd_uF, kd_uA, ln_uA, fd_uA, al_uA, ar_uA, zs_uA, ai_uA, kd_uL, ln_uL, fd_uL, ai_uL, ar_uL, zs_uL, al_uL, kd_uR, ln_uR, fd_uR, ai_uR, al_uR, zs_uR, ar_uR, true_and, and_true, Option.toList_some, Option.toList_none, List.cons_append, List.nil_append, catS_nil, catS_int, catS_ref, catS_null, catS_long, cat_int, cat_ref, cat_null, Nat.reduceEqDiff, Nat.reduceLeDiff, Nat.reduceAdd, false_and, and_false, if_false, if_true, ite_true, ite_false, true_or, or_true, false_or, or_false, and_self, forall_const, true_implies, reduceCtorEq, clr_int, clr_ref, clr_null, clr_none, clr_long, va_rf_some, va_rf_none, rk1, hD1]
        exact h _ (f1.D.F (by omega)) (fun q => absurd (show (5 : Nat) = 0 from q) (by decide))
      · rw [putN_some e2] at hr'
        rw [hr'] at h
        have nl : vp_nar .boolean 0 = 0 := by decide
        rw [nl]
        have hW2 := hW1.put (x := v) (dd := (S.1 + 1) % 4096) hI hd e2
        have hI2 := hI.put (x := v) (d := (S.1 + 1) % 4096) hd ha (Nat.mod_lt _ (by decide)) e2
        simp only [↓s_169_67, ↓s_169_68, ↓s_169_69, ↓s_169_70, ↓s_169_73, ↓s_169_74, ↓s_169_75, ↓s_169_78, ↓s_169_79, ↓s_169_82, ↓s_169_83, kd_uF, ln_uF, ai_uF, al_uF, ar_uF, zs_uF, fd_uF, kd_uA, ln_uA, fd_uA, al_uA, ar_uA, zs_uA, ai_uA, kd_uL, ln_uL, fd_uL, ai_uL, ar_uL, zs_uL, al_uL, kd_uR, ln_uR, fd_uR, ai_uR, al_uR, zs_uR, ar_uR, true_and, and_true, Option.toList_some, Option.toList_none, List.cons_append, List.nil_append, catS_nil, catS_int, catS_ref, catS_null, catS_long, cat_int, cat_ref, cat_null, Nat.reduceEqDiff, Nat.reduceLeDiff, Nat.reduceAdd, false_and, and_false, if_false, if_true, ite_true, ite_false, true_or, or_true, false_or, or_false, and_self, forall_const, true_implies, reduceCtorEq, clr_int, clr_ref, clr_null, clr_none, clr_long, va_rf_some, va_rf_none, rk1, hD1]
        rw [nI_1, m12 (by omega)]
        refine h _ ((((f1.D.A (by omega) (by omega)).A (by omega) (by omega)).F (by omega)).F (by omega)) (fun _ => ⟨hW2, hI2, ?_⟩)
        rw [fd_uF, if_pos ⟨rfl, rfl⟩]
  have lp : ∀ (k q : Nat) (o : Option Nat) (a : Nat) (A : Option Value) (w1 : aw), e ≤ q + k → RQ w1 m T e t S.1 q → FrA w w1 m → rS T e k q = true → rV T e t S.1 k q o = rV T e t S.1 (e - p) p (some 0) → a < 4096 → (∀ v, o = some v → v = a) → wp (d + 5) 169 Q 4 [some (.ref m), some (.int (nI a)), some (.int (if o.isSome = true then 1 else 0)), A] [] w1 0 0 := by
    intro k
    induction k with
    | zero =>
      intro q o a A w1 hk hq f1 e1 e2 ha ho
      have rk1 := hq.1.1.1
      have at1 := hq.1.2.2.2.1
      have st1 := hq.1.2.2.1
      have hqe := hq.1.2.2.2.2.2.2
      have eq : q = e := by omega
      subst eq
      rw [s_169_4]
      simp only [↓s_169_5, ↓s_169_8, ↓s_169_9, ↓s_169_12, kd_uF, ln_uF, ai_uF, al_uF, ar_uF, zs_uF, fd_uF, kd_uA, ln_uA, fd_uA, al_uA, ar_uA, zs_uA, ai_uA, kd_uL, ln_uL, fd_uL, ai_uL, ar_uL, zs_uL, al_uL, kd_uR, ln_uR, fd_uR, ai_uR, al_uR, zs_uR, ar_uR, true_and, and_true, Option.toList_some, Option.toList_none, List.cons_append, List.nil_append, catS_nil, catS_int, catS_ref, catS_null, catS_long, cat_int, cat_ref, cat_null, Nat.reduceEqDiff, Nat.reduceLeDiff, Nat.reduceAdd, false_and, and_false, if_false, if_true, ite_true, ite_false, true_or, or_true, false_or, or_false, and_self, forall_const, true_implies, reduceCtorEq, clr_int, clr_ref, clr_null, clr_none, clr_long, va_rf_some, va_rf_none, rk1, at1, st1]
      exact ⟨fun _ => j51 w1 o a A e2.symm ha ho hq f1, fun z => absurd (nI_le (Nat.le_refl _) (by omega)) z⟩
    | succ k ih =>
      intro q o a A w1 hk hq f1 e1 e2 ha ho
      have rk1 := hq.1.1.1
      have at1 := hq.1.2.2.2.1
      have st1 := hq.1.2.2.1
      have hqe := hq.1.2.2.2.2.2.2
      have e1' : (if e ≤ q then true else match eS T e q with | none => false | some q_1 => if q_1 < bE T e q_1 ∨ e ≤ bE T e q_1 then rS T e k (bE T e q_1) else false) = true := e1
      have e2' : (if e ≤ q then o else match eS T e q with | none => none | some q_1 => rV T e t S.1 k (bE T e q_1) (orO o (eV T e t S.1 q))) = rV T e t S.1 (e - p) p (some 0) := e2
      rw [s_169_4]
      simp only [↓s_169_5, ↓s_169_8, ↓s_169_9, ↓s_169_12, ↓s_169_15, ↓s_169_16, kd_uF, ln_uF, ai_uF, al_uF, ar_uF, zs_uF, fd_uF, kd_uA, ln_uA, fd_uA, al_uA, ar_uA, zs_uA, ai_uA, kd_uL, ln_uL, fd_uL, ai_uL, ar_uL, zs_uL, al_uL, kd_uR, ln_uR, fd_uR, ai_uR, al_uR, zs_uR, ar_uR, true_and, and_true, Option.toList_some, Option.toList_none, List.cons_append, List.nil_append, catS_nil, catS_int, catS_ref, catS_null, catS_long, cat_int, cat_ref, cat_null, Nat.reduceEqDiff, Nat.reduceLeDiff, Nat.reduceAdd, false_and, and_false, if_false, if_true, ite_true, ite_false, true_or, or_true, false_or, or_false, and_self, forall_const, true_implies, reduceCtorEq, clr_int, clr_ref, clr_null, clr_none, clr_long, va_rf_some, va_rf_none, rk1, at1, st1]
      rw [nI_leI (by omega) (by omega)]
      refine ⟨fun z => ?_, fun z => ?_⟩
      · have eq : q = e := by omega
        subst eq
        rw [if_pos z] at e2'
        exact j51 w1 o a A e2'.symm ha ho hq f1
      · rw [if_neg z] at e1' e2'
        refine sp_R_expr hq hN hd (fun x w2 b1 b2 b3 b4 => ?_) (fun b1 => by rw [b1] at e1'; cases e1')
        rw [b1] at e1' e2'
        have e1'' : (if x < bE T e x ∨ e ≤ bE T e x then rS T e k (bE T e x) else false) = true := e1'
        have e2'' : rV T e t S.1 k (bE T e x) (orO o (eV T e t S.1 q)) = rV T e t S.1 (e - p) p (some 0) := e2'
        have hx := eS_b b1
        have hbx := bE_ge (T := T) (e := e) (p := x)
        split at e1''
        · obtain ⟨v', hv4, va, hva, oa⟩ := b4
          have rk2 := b2.1.1.1
          have hor := or12 ha hv4
          have next : ∀ (y : Int32) (B : Option Value), y = (if (orO o (eV T e t S.1 q)).isSome = true then 1 else 0) → wp (d + 5) 169 Q 36 [some (.ref m), some (.int (nI a)), some (.int (if o.isSome = true then 1 else 0)), B] [.int y] w2 0 0 := by
            intro y B hy
            subst hy
            simp only [↓s_169_36, ↓s_169_37, ↓s_169_38, ↓s_169_39, ↓s_169_42, ↓s_169_43, ↓s_169_44, ↓s_169_45, kd_uF, ln_uF, ai_uF, al_uF, ar_uF, zs_uF, fd_uF, kd_uA, ln_uA, fd_uA, al_uA, ar_uA, zs_uA, ai_uA, kd_uL, ln_uL, fd_uL, ai_uL, ar_uL, zs_uL, al_uL, kd_uR, ln_uR, fd_uR, ai_uR, al_uR, zs_uR, ar_uR, true_and, and_true, Option.toList_some, Option.toList_none, List.cons_append, List.nil_append, catS_nil, catS_int, catS_ref, catS_null, catS_long, cat_int, cat_ref, cat_null, Nat.reduceEqDiff, Nat.reduceLeDiff, Nat.reduceAdd, false_and, and_false, if_false, if_true, ite_true, ite_false, true_or, or_true, false_or, or_false, and_self, forall_const, true_implies, reduceCtorEq, clr_int, clr_ref, clr_null, clr_none, clr_long, va_rf_some, va_rf_none, rk2, va]
            rw [or2]
            refine sp_R_blanks b2.1 (fun w3 c1 c2 _ => ?_)
            simp only [↓s_169_48, kd_uF, ln_uF, ai_uF, al_uF, ar_uF, zs_uF, fd_uF, kd_uA, ln_uA, fd_uA, al_uA, ar_uA, zs_uA, ai_uA, kd_uL, ln_uL, fd_uL, ai_uL, ar_uL, zs_uL, al_uL, kd_uR, ln_uR, fd_uR, ai_uR, al_uR, zs_uR, ar_uR, true_and, and_true, Option.toList_some, Option.toList_none, List.cons_append, List.nil_append, catS_nil, catS_int, catS_ref, catS_null, catS_long, cat_int, cat_ref, cat_null, Nat.reduceEqDiff, Nat.reduceLeDiff, Nat.reduceAdd, false_and, and_false, if_false, if_true, ite_true, ite_false, true_or, or_true, false_or, or_false, and_self, forall_const, true_implies, reduceCtorEq, clr_int, clr_ref, clr_null, clr_none, clr_long, va_rf_some, va_rf_none]
            refine ih (bE T e x) _ (a ||| v') _ w3 (by omega) (b2.A c2 c1) ((f1.tr b3).tr c2) e1'' e2'' hor (fun v hv => ?_)
            obtain ⟨s1', s2', h1, h2, h3⟩ := orO_some (v := none) (y := 0) hv
            rw [h3, ho _ h1, oa _ h2]
          simp only [↓s_169_19, ↓s_169_20, ↓s_169_21, ↓s_169_24, ↓s_169_25, ↓s_169_28, ↓s_169_31, ↓s_169_32, ↓s_169_35, kd_uF, ln_uF, ai_uF, al_uF, ar_uF, zs_uF, fd_uF, kd_uA, ln_uA, fd_uA, al_uA, ar_uA, zs_uA, ai_uA, kd_uL, ln_uL, fd_uL, ai_uL, ar_uL, zs_uL, al_uL, kd_uR, ln_uR, fd_uR, ai_uR, al_uR, zs_uR, ar_uR, true_and, and_true, Option.toList_some, Option.toList_none, List.cons_append, List.nil_append, catS_nil, catS_int, catS_ref, catS_null, catS_long, cat_int, cat_ref, cat_null, Nat.reduceEqDiff, Nat.reduceLeDiff, Nat.reduceAdd, false_and, and_false, if_false, if_true, ite_true, ite_false, true_or, or_true, false_or, or_false, and_self, forall_const, true_implies, reduceCtorEq, clr_int, clr_ref, clr_null, clr_none, clr_long, va_rf_some, va_rf_none, rk2, hva]
          cases ho1 : o with
          | none =>
            rw [ho1] at next
            simp only [Option.isSome_none, Bool.false_eq_true, if_false]
            exact ⟨fun _ => next 0 _ rfl, fun q => absurd trivial q⟩
          | some v1 =>
            rw [ho1] at next
            cases ho2 : eV T e t S.1 q with
            | none =>
              rw [ho2] at next
              simp only [Option.isSome_some, Option.isSome_none, Bool.false_eq_true, if_false, if_true]
              exact ⟨fun q => absurd q (by decide), fun _ => ⟨fun _ => next 0 _ rfl, fun q => absurd trivial q⟩⟩
            | some v2 =>
              rw [ho2] at next
              simp only [Option.isSome_some, if_true]
              exact ⟨fun q => absurd q (by decide), fun _ => ⟨fun q => absurd q (by decide), fun _ => next 1 _ rfl⟩⟩
        · cases e1''
  simp only [↓s_169_0, ↓s_169_1, ↓s_169_2, ↓s_169_3, kd_uF, ln_uF, ai_uF, al_uF, ar_uF, zs_uF, fd_uF, kd_uA, ln_uA, fd_uA, al_uA, ar_uA, zs_uA, ai_uA, kd_uL, ln_uL, fd_uL, ai_uL, ar_uL, zs_uL, al_uL, kd_uR, ln_uR, fd_uR, ai_uR, al_uR, zs_uR, ar_uR, true_and, and_true, Option.toList_some, Option.toList_none, List.cons_append, List.nil_append, catS_nil, catS_int, catS_ref, catS_null, catS_long, cat_int, cat_ref, cat_null, Nat.reduceEqDiff, Nat.reduceLeDiff, Nat.reduceAdd, false_and, and_false, if_false, if_true, ite_true, ite_false, true_or, or_true, false_or, or_false, and_self, forall_const, true_implies, reduceCtorEq, clr_int, clr_ref, clr_null, clr_none, clr_long, va_rf_some, va_rf_none]
  exact lp (e - p) p (some 0) 0 _ w (by omega) hQ FrA.rf hS rfl (by decide) (fun v hv => by cases hv; rfl)
theorem sp_R_second {d : Nat} {w : aw} {m e p : Nat} {T : Nat → Nat} {t : nt} {S : ps} {Q : wQ} (hQ : RQ w m T e t S.1 p) (hN : TN t) (hW : RWd w m S) (hI : PI S) (h99 : (s2 T p e t S).1 ≠ 99) (h : ∀ w', FrD w w' m → RO w' m (s2 T p e t S) → Q (some (.int (nI (s2 T p e t S).1))) w') : wpD (d + 7) 167 [.ref m] w Q := by
  refine ⟨Nat.le_of_ble_eq_true rfl, ?_⟩
  show wp (d + 6) 167 Q 0 [some (.ref m), none] [] w 0 0
  have he := hQ.1.2.2.2.2.1
  have hT := hQ.1.2.2.2.2.2.1
  have hpe := hQ.1.2.2.2.2.2.2
  have rk := hQ.1.1.1
  have hd := hI.1
  have hr : right T e (p0 T p e) = true := by
    cases c : right T e (p0 T p e) with
    | true => rfl
    | false => exact absurd (by unfold s2; rw [if_pos c]) h99
  have body : ∀ w1, RQ w1 m T e t S.1 (p0 T p e) → FrA w w1 m → wp (d + 6) 167 Q 32 [some (.ref m), none] [] w1 0 0 := by
    intro w1 hq f1
    have hr0 := hr
    obtain ⟨b, hb⟩ : ∃ b, b = p0 T p e := ⟨_, rfl⟩
    rw [← hb] at hq hr
    have rk1 := hq.1.1.1
    have at1 := hq.1.2.2.2.1
    have st1 := hq.1.2.2.1
    have hbe := hq.1.2.2.2.2.2.2
    have hc := lk_lt (T := T) (e := e) (p := b) hT
    have hW1 := hW.A f1
    have j50 : s2 T p e t S = (0, S) → wp (d + 6) 167 Q 50 [some (.ref m), none] [] w1 0 0 := by
      intro e1
      rw [e1] at h
      simp only [↓s_167_50, ↓s_167_51, kd_uF, ln_uF, ai_uF, al_uF, ar_uF, zs_uF, fd_uF, kd_uA, ln_uA, fd_uA, al_uA, ar_uA, zs_uA, ai_uA, kd_uL, ln_uL, fd_uL, ai_uL, ar_uL, zs_uL, al_uL, kd_uR, ln_uR, fd_uR, ai_uR, al_uR, zs_uR, ar_uR, true_and, and_true, Option.toList_some, Option.toList_none, List.cons_append, List.nil_append, catS_nil, catS_int, catS_ref, catS_null, catS_long, cat_int, cat_ref, cat_null, Nat.reduceEqDiff, Nat.reduceLeDiff, Nat.reduceAdd, false_and, and_false, if_false, if_true, ite_true, ite_false, true_or, or_true, false_or, or_false, and_self, forall_const, true_implies, reduceCtorEq, clr_int, clr_ref, clr_null, clr_none, clr_long, va_rf_some, va_rf_none]
      exact h w1 f1.D (fun _ => ⟨hW1, hI, hq.2.2⟩)
    simp only [↓s_167_32, ↓s_167_33, ↓s_167_36, ↓s_167_37, ↓s_167_40, ↓s_167_43, ↓s_167_44, kd_uF, ln_uF, ai_uF, al_uF, ar_uF, zs_uF, fd_uF, kd_uA, ln_uA, fd_uA, al_uA, ar_uA, zs_uA, ai_uA, kd_uL, ln_uL, fd_uL, ai_uL, ar_uL, zs_uL, al_uL, kd_uR, ln_uR, fd_uR, ai_uR, al_uR, zs_uR, ar_uR, true_and, and_true, Option.toList_some, Option.toList_none, List.cons_append, List.nil_append, catS_nil, catS_int, catS_ref, catS_null, catS_long, cat_int, cat_ref, cat_null, Nat.reduceEqDiff, Nat.reduceLeDiff, Nat.reduceAdd, false_and, and_false, if_false, if_true, ite_true, ite_false, true_or, or_true, false_or, or_false, and_self, forall_const, true_implies, reduceCtorEq, clr_int, clr_ref, clr_null, clr_none, clr_long, va_rf_some, va_rf_none, rk1, at1, st1]
    rw [nI_leI (by omega) (by omega)]
    refine ⟨fun zb => j50 (s2_0 hr0 (Or.inl (by rw [← hb]; unfold knd; rw [if_pos zb]))), fun zb => sp_R_isTelling hq.1 (fun y => ?_) (fun y => ?_)⟩
    · have hk : knd T e b = 2 := by
        unfold knd
        rw [if_neg zb, if_neg (fun z => ?_), if_pos y]
        have := (isN_iff.mp (isTe_iff.mp y).1).1
        rw [z] at this; cases this
      simp only [↓s_167_47, ↓s_167_52, ↓s_167_53, ↓s_167_54, ↓s_167_57, kd_uF, ln_uF, ai_uF, al_uF, ar_uF, zs_uF, fd_uF, kd_uA, ln_uA, fd_uA, al_uA, ar_uA, zs_uA, ai_uA, kd_uL, ln_uL, fd_uL, ai_uL, ar_uL, zs_uL, al_uL, kd_uR, ln_uR, fd_uR, ai_uR, al_uR, zs_uR, ar_uR, true_and, and_true, Option.toList_some, Option.toList_none, List.cons_append, List.nil_append, catS_nil, catS_int, catS_ref, catS_null, catS_long, cat_int, cat_ref, cat_null, Nat.reduceEqDiff, Nat.reduceLeDiff, Nat.reduceAdd, false_and, and_false, if_false, if_true, ite_true, ite_false, true_or, or_true, false_or, or_false, and_self, forall_const, true_implies, reduceCtorEq, clr_int, clr_ref, clr_null, clr_none, clr_long, va_rf_some, va_rf_none]
      exact ⟨fun q => absurd q (by decide), fun _ => j50 (s2_0 hr0 (Or.inr (by rw [← hb]; exact hk)))⟩
    · have y' : ¬ isTe T e b = true := by rw [y]; decide
      simp only [↓s_167_47, ↓s_167_52, ↓s_167_53, ↓s_167_54, ↓s_167_57, kd_uF, ln_uF, ai_uF, al_uF, ar_uF, zs_uF, fd_uF, kd_uA, ln_uA, fd_uA, al_uA, ar_uA, zs_uA, ai_uA, kd_uL, ln_uL, fd_uL, ai_uL, ar_uL, zs_uL, al_uL, kd_uR, ln_uR, fd_uR, ai_uR, al_uR, zs_uR, ar_uR, true_and, and_true, Option.toList_some, Option.toList_none, List.cons_append, List.nil_append, catS_nil, catS_int, catS_ref, catS_null, catS_long, cat_int, cat_ref, cat_null, Nat.reduceEqDiff, Nat.reduceLeDiff, Nat.reduceAdd, false_and, and_false, if_false, if_true, ite_true, ite_false, true_or, or_true, false_or, or_false, and_self, forall_const, true_implies, reduceCtorEq, clr_int, clr_ref, clr_null, clr_none, clr_long, va_rf_some, va_rf_none, rk1, at1]
      refine ⟨sp_R_look hq.1 (by omega) ?_, fun q => absurd trivial q⟩
      simp only [↓s_167_60, ↓s_167_62, ↓s_167_65, ↓s_167_66, ↓s_167_67, ↓s_167_70, ↓s_167_71, ↓s_167_72, ↓s_167_75, ↓s_167_76, ↓s_167_94, ↓s_167_95, ↓s_167_96, ↓s_167_99, kd_uF, ln_uF, ai_uF, al_uF, ar_uF, zs_uF, fd_uF, kd_uA, ln_uA, fd_uA, al_uA, ar_uA, zs_uA, ai_uA, kd_uL, ln_uL, fd_uL, ai_uL, ar_uL, zs_uL, al_uL, kd_uR, ln_uR, fd_uR, ai_uR, al_uR, zs_uR, ar_uR, true_and, and_true, Option.toList_some, Option.toList_none, List.cons_append, List.nil_append, catS_nil, catS_int, catS_ref, catS_null, catS_long, cat_int, cat_ref, cat_null, Nat.reduceEqDiff, Nat.reduceLeDiff, Nat.reduceAdd, false_and, and_false, if_false, if_true, ite_true, ite_false, true_or, or_true, false_or, or_false, and_self, forall_const, true_implies, reduceCtorEq, clr_int, clr_ref, clr_null, clr_none, clr_long, va_rf_some, va_rf_none, rk1, at1]
      rw [show (42 : Int32) = nI 42 from rfl, nI_eq (by omega) (by decide), nI_1]
      refine ⟨fun z => sp_R_memoryAt hq.1 hq.2.1 hN hbe ?_, fun z => ?_⟩
      · cases hm : mwA T e b with
        | none =>
          have hk : knd T e b = 4 := by unfold knd; rw [if_neg zb, if_neg z, if_neg y', hm]; rfl
          have hrr : rS T e (e - b) b = true := by unfold right at hr; rw [hk] at hr; exact hr
          have hs := s2_4 (t := t) (S := S) hr0 (by rw [← hb]; exact hk)
          have hv : vAt T e t S.1 b = rV T e t S.1 (e - b) b (some 0) := by unfold vAt; rw [hk]; rfl
          rw [← hb, hv] at hs
          simp only [↓s_167_102, ↓s_167_103, ↓s_167_104, ↓s_167_107, ↓s_167_108, ↓s_167_109, ↓s_167_115, ↓s_167_116, kd_uF, ln_uF, ai_uF, al_uF, ar_uF, zs_uF, fd_uF, kd_uA, ln_uA, fd_uA, al_uA, ar_uA, zs_uA, ai_uA, kd_uL, ln_uL, fd_uL, ai_uL, ar_uL, zs_uL, al_uL, kd_uR, ln_uR, fd_uR, ai_uR, al_uR, zs_uR, ar_uR, true_and, and_true, Option.toList_some, Option.toList_none, List.cons_append, List.nil_append, catS_nil, catS_int, catS_ref, catS_null, catS_long, cat_int, cat_ref, cat_null, Nat.reduceEqDiff, Nat.reduceLeDiff, Nat.reduceAdd, false_and, and_false, if_false, if_true, ite_true, ite_false, true_or, or_true, false_or, or_false, and_self, forall_const, true_implies, reduceCtorEq, clr_int, clr_ref, clr_null, clr_none, clr_long, va_rf_some, va_rf_none, rk1, oI]
          refine ⟨fun _ => sp_R_rowWord hq hN hW1 hI hrr hs (fun w2 c1 c2 => ?_), fun q => absurd (by decide) q⟩
          simp only [↓s_167_119, kd_uF, ln_uF, ai_uF, al_uF, ar_uF, zs_uF, fd_uF, kd_uA, ln_uA, fd_uA, al_uA, ar_uA, zs_uA, ai_uA, kd_uL, ln_uL, fd_uL, ai_uL, ar_uL, zs_uL, al_uL, kd_uR, ln_uR, fd_uR, ai_uR, al_uR, zs_uR, ar_uR, true_and, and_true, Option.toList_some, Option.toList_none, List.cons_append, List.nil_append, catS_nil, catS_int, catS_ref, catS_null, catS_long, cat_int, cat_ref, cat_null, Nat.reduceEqDiff, Nat.reduceLeDiff, Nat.reduceAdd, false_and, and_false, if_false, if_true, ite_true, ite_false, true_or, or_true, false_or, or_false, and_self, forall_const, true_implies, reduceCtorEq, clr_int, clr_ref, clr_null, clr_none, clr_long, va_rf_some, va_rf_none]
          exact h w2 (f1.D.tr c1) c2
        | some i =>
          have hk : knd T e b = 3 := by unfold knd; rw [if_neg zb, if_neg z, if_neg y', hm]; rfl
          have hi : i < 6 := by
            unfold mwA at hm
            split at hm
            · exact (mw_in hm).1
            · cases hm
          have hrr : (if isLi T e b = true then lOK T e (eS T e (m3 T e b)) else eOK T e (eS T e (m3 T e b))) = true := by unfold right at hr; rw [hk] at hr; exact hr
          obtain ⟨q0, hq0⟩ : ∃ q0, eS T e (m3 T e b) = some q0 := by
            split at hrr
            · obtain ⟨q, a1, _⟩ := lOK_iff.mp hrr; exact ⟨q, a1⟩
            · obtain ⟨q, a1, _⟩ := eOK_iff.mp hrr; exact ⟨q, a1⟩
          have hs := s2_3 (t := t) (S := S) hr0 (by rw [← hb]; exact hk)
          have hv : vAt T e t S.1 b = eV T e t S.1 (m3 T e b) := by unfold vAt; rw [hk]; rfl
          rw [← hb, hv, hm] at hs
          have hs' : s2 T p e t S = match eV T e t S.1 (m3 T e b) with | none => (2, S) | some v => putM T e b v i S := hs
          simp only [↓s_167_102, ↓s_167_103, ↓s_167_104, ↓s_167_107, ↓s_167_108, ↓s_167_109, ↓s_167_115, ↓s_167_116, ↓s_167_119, kd_uF, ln_uF, ai_uF, al_uF, ar_uF, zs_uF, fd_uF, kd_uA, ln_uA, fd_uA, al_uA, ar_uA, zs_uA, ai_uA, kd_uL, ln_uL, fd_uL, ai_uL, ar_uL, zs_uL, al_uL, kd_uR, ln_uR, fd_uR, ai_uR, al_uR, zs_uR, ar_uR, true_and, and_true, Option.toList_some, Option.toList_none, List.cons_append, List.nil_append, catS_nil, catS_int, catS_ref, catS_null, catS_long, cat_int, cat_ref, cat_null, Nat.reduceEqDiff, Nat.reduceLeDiff, Nat.reduceAdd, false_and, and_false, if_false, if_true, ite_true, ite_false, true_or, or_true, false_or, or_false, and_self, forall_const, true_implies, reduceCtorEq, clr_int, clr_ref, clr_null, clr_none, clr_long, va_rf_some, va_rf_none, rk1, oI]
          refine ⟨fun q => absurd q (nI_pos (by omega)), fun _ => sp_R_memWord hq hN hW1 hI hi hq0 hs' (fun w2 c1 c2 => ?_)⟩
          simp only [↓s_167_112, ↓s_167_119, kd_uF, ln_uF, ai_uF, al_uF, ar_uF, zs_uF, fd_uF, kd_uA, ln_uA, fd_uA, al_uA, ar_uA, zs_uA, ai_uA, kd_uL, ln_uL, fd_uL, ai_uL, ar_uL, zs_uL, al_uL, kd_uR, ln_uR, fd_uR, ai_uR, al_uR, zs_uR, ar_uR, true_and, and_true, Option.toList_some, Option.toList_none, List.cons_append, List.nil_append, catS_nil, catS_int, catS_ref, catS_null, catS_long, cat_int, cat_ref, cat_null, Nat.reduceEqDiff, Nat.reduceLeDiff, Nat.reduceAdd, false_and, and_false, if_false, if_true, ite_true, ite_false, true_or, or_true, false_or, or_false, and_self, forall_const, true_implies, reduceCtorEq, clr_int, clr_ref, clr_null, clr_none, clr_long, va_rf_some, va_rf_none]
          exact h w2 (f1.D.tr c1) c2
      · have hk : knd T e b = 1 := by unfold knd; rw [if_neg zb, if_pos z]
        have hrr : eOK T e (eS T e (bE T e (b + 1))) = true := by unfold right at hr; rw [hk] at hr; exact hr
        have hv : vAt T e t S.1 b = eV T e t S.1 (bE T e (b + 1)) := by unfold vAt; rw [hk]; rfl
        have g2 := hq.1.at_ (q := b + 1) (by omega)
        have f2 : FrA w1 (uF w1 555 m (.int (nI (b + 1)))) m := FrA.rf.F (Or.inl rfl)
        refine sp_R_blanks g2 (fun w2 c1 c2 _ => ?_)
        have hq2 := hq.A (f2.tr c2) c1
        have rk2 := c1.1.1
        simp only [↓s_167_79, ↓s_167_80, kd_uF, ln_uF, ai_uF, al_uF, ar_uF, zs_uF, fd_uF, kd_uA, ln_uA, fd_uA, al_uA, ar_uA, zs_uA, ai_uA, kd_uL, ln_uL, fd_uL, ai_uL, ar_uL, zs_uL, al_uL, kd_uR, ln_uR, fd_uR, ai_uR, al_uR, zs_uR, ar_uR, true_and, and_true, Option.toList_some, Option.toList_none, List.cons_append, List.nil_append, catS_nil, catS_int, catS_ref, catS_null, catS_long, cat_int, cat_ref, cat_null, Nat.reduceEqDiff, Nat.reduceLeDiff, Nat.reduceAdd, false_and, and_false, if_false, if_true, ite_true, ite_false, true_or, or_true, false_or, or_false, and_self, forall_const, true_implies, reduceCtorEq, clr_int, clr_ref, clr_null, clr_none, clr_long, va_rf_some, va_rf_none, rk2]
        refine sp_R_expr hq2 hN hd (fun x w3 b1 b2 b3 b4 => ?_) (fun b1 => by rw [b1] at hrr; cases hrr)
        obtain ⟨v', hv4, va, hva, oa⟩ := b4
        have rk3 := b2.1.1.1
        have f3 := f1.tr ((f2.tr c2).tr b3)
        rw [← hv] at oa
        cases hvv : vAt T e t S.1 b with
        | none => exact absurd (by rw [s2_1n hr0 (by rw [← hb]; exact hk) (by rw [← hb]; exact hvv)]) h99
        | some v =>
          have ev := oa v hvv
          subst ev
          rw [s2_1s hr0 (by rw [← hb]; exact hk) (by rw [← hb]; exact hvv)] at h
          simp only [↓s_167_83, ↓s_167_84, ↓s_167_85, ↓s_167_86, ↓s_167_89, ↓s_167_92, ↓s_167_93, kd_uF, ln_uF, ai_uF, al_uF, ar_uF, zs_uF, fd_uF, kd_uA, ln_uA, fd_uA, al_uA, ar_uA, zs_uA, ai_uA, kd_uL, ln_uL, fd_uL, ai_uL, ar_uL, zs_uL, al_uL, kd_uR, ln_uR, fd_uR, ai_uR, al_uR, zs_uR, ar_uR, true_and, and_true, Option.toList_some, Option.toList_none, List.cons_append, List.nil_append, catS_nil, catS_int, catS_ref, catS_null, catS_long, cat_int, cat_ref, cat_null, Nat.reduceEqDiff, Nat.reduceLeDiff, Nat.reduceAdd, false_and, and_false, if_false, if_true, ite_true, ite_false, true_or, or_true, false_or, or_false, and_self, forall_const, true_implies, reduceCtorEq, clr_int, clr_ref, clr_null, clr_none, clr_long, va_rf_some, va_rf_none, rk3, va]
          have hW3 := hW.A f3
          refine h _ (f3.D.F (by omega)) (fun _ => ⟨hW3, hI.dot hv4, ?_⟩)
          rw [fd_uF, if_pos ⟨rfl, rfl⟩]
  have lp : ∀ (k q : Nat) (w1 : aw), e ≤ q + k → RQ w1 m T e t S.1 q → FrA w w1 m → lbE T e k q = p0 T p e → wp (d + 6) 167 Q 4 [some (.ref m), none] [] w1 0 0 := by
    intro k
    induction k with
    | zero =>
      intro q w1 hk hq f1 e1
      have rk1 := hq.1.1.1
      rw [s_167_4]
      simp only [↓s_167_5, kd_uF, ln_uF, ai_uF, al_uF, ar_uF, zs_uF, fd_uF, kd_uA, ln_uA, fd_uA, al_uA, ar_uA, zs_uA, ai_uA, kd_uL, ln_uL, fd_uL, ai_uL, ar_uL, zs_uL, al_uL, kd_uR, ln_uR, fd_uR, ai_uR, al_uR, zs_uR, ar_uR, true_and, and_true, Option.toList_some, Option.toList_none, List.cons_append, List.nil_append, catS_nil, catS_int, catS_ref, catS_null, catS_long, cat_int, cat_ref, cat_null, Nat.reduceEqDiff, Nat.reduceLeDiff, Nat.reduceAdd, false_and, and_false, if_false, if_true, ite_true, ite_false, true_or, or_true, false_or, or_false, and_self, forall_const, true_implies, reduceCtorEq, clr_int, clr_ref, clr_null, clr_none, clr_long, va_rf_some, va_rf_none, rk1]
      refine sp_R_isLabel hq.1 (fun z => absurd (isLb_pos z) (by have := hq.1.2.2.2.2.2.2; omega)) (fun z => ?_)
      simp only [↓s_167_8, kd_uF, ln_uF, ai_uF, al_uF, ar_uF, zs_uF, fd_uF, kd_uA, ln_uA, fd_uA, al_uA, ar_uA, zs_uA, ai_uA, kd_uL, ln_uL, fd_uL, ai_uL, ar_uL, zs_uL, al_uL, kd_uR, ln_uR, fd_uR, ai_uR, al_uR, zs_uR, ar_uR, true_and, and_true, Option.toList_some, Option.toList_none, List.cons_append, List.nil_append, catS_nil, catS_int, catS_ref, catS_null, catS_long, cat_int, cat_ref, cat_null, Nat.reduceEqDiff, Nat.reduceLeDiff, Nat.reduceAdd, false_and, and_false, if_false, if_true, ite_true, ite_false, true_or, or_true, false_or, or_false, and_self, forall_const, true_implies, reduceCtorEq, clr_int, clr_ref, clr_null, clr_none, clr_long, va_rf_some, va_rf_none]
      have e1' : q = p0 T p e := e1
      exact ⟨body w1 (by rw [← e1']; exact hq) f1, fun q => absurd trivial q⟩
    | succ k ih =>
      intro q w1 hk hq f1 e1
      have rk1 := hq.1.1.1
      have at1 := hq.1.2.2.2.1
      have hqe := hq.1.2.2.2.2.2.2
      have e1' : (if isLb T e q = true then lbE T e k (bE T e (wE T e q + 1)) else q) = p0 T p e := e1
      rw [s_167_4]
      simp only [↓s_167_5, kd_uF, ln_uF, ai_uF, al_uF, ar_uF, zs_uF, fd_uF, kd_uA, ln_uA, fd_uA, al_uA, ar_uA, zs_uA, ai_uA, kd_uL, ln_uL, fd_uL, ai_uL, ar_uL, zs_uL, al_uL, kd_uR, ln_uR, fd_uR, ai_uR, al_uR, zs_uR, ar_uR, true_and, and_true, Option.toList_some, Option.toList_none, List.cons_append, List.nil_append, catS_nil, catS_int, catS_ref, catS_null, catS_long, cat_int, cat_ref, cat_null, Nat.reduceEqDiff, Nat.reduceLeDiff, Nat.reduceAdd, false_and, and_false, if_false, if_true, ite_true, ite_false, true_or, or_true, false_or, or_false, and_self, forall_const, true_implies, reduceCtorEq, clr_int, clr_ref, clr_null, clr_none, clr_long, va_rf_some, va_rf_none, rk1]
      refine sp_R_isLabel hq.1 (fun z => ?_) (fun z => ?_)
      · rw [if_pos z] at e1'
        have hz := isLb_pos z
        simp only [↓s_167_8, ↓s_167_11, ↓s_167_12, ↓s_167_13, ↓s_167_14, ↓s_167_17, ↓s_167_32, ↓s_167_33, ↓s_167_36, ↓s_167_37, ↓s_167_40, ↓s_167_43, ↓s_167_44, kd_uF, ln_uF, ai_uF, al_uF, ar_uF, zs_uF, fd_uF, kd_uA, ln_uA, fd_uA, al_uA, ar_uA, zs_uA, ai_uA, kd_uL, ln_uL, fd_uL, ai_uL, ar_uL, zs_uL, al_uL, kd_uR, ln_uR, fd_uR, ai_uR, al_uR, zs_uR, ar_uR, true_and, and_true, Option.toList_some, Option.toList_none, List.cons_append, List.nil_append, catS_nil, catS_int, catS_ref, catS_null, catS_long, cat_int, cat_ref, cat_null, Nat.reduceEqDiff, Nat.reduceLeDiff, Nat.reduceAdd, false_and, and_false, if_false, if_true, ite_true, ite_false, true_or, or_true, false_or, or_false, and_self, forall_const, true_implies, reduceCtorEq, clr_int, clr_ref, clr_null, clr_none, clr_long, va_rf_some, va_rf_none, rk1, at1]
        refine ⟨fun q => absurd q (by decide), fun _ => sp_R_wordEnd hq.1 (by omega) ?_⟩
        simp only [↓s_167_20, ↓s_167_21, ↓s_167_22, ↓s_167_25, ↓s_167_26, kd_uF, ln_uF, ai_uF, al_uF, ar_uF, zs_uF, fd_uF, kd_uA, ln_uA, fd_uA, al_uA, ar_uA, zs_uA, ai_uA, kd_uL, ln_uL, fd_uL, ai_uL, ar_uL, zs_uL, al_uL, kd_uR, ln_uR, fd_uR, ai_uR, al_uR, zs_uR, ar_uR, true_and, and_true, Option.toList_some, Option.toList_none, List.cons_append, List.nil_append, catS_nil, catS_int, catS_ref, catS_null, catS_long, cat_int, cat_ref, cat_null, Nat.reduceEqDiff, Nat.reduceLeDiff, Nat.reduceAdd, false_and, and_false, if_false, if_true, ite_true, ite_false, true_or, or_true, false_or, or_false, and_self, forall_const, true_implies, reduceCtorEq, clr_int, clr_ref, clr_null, clr_none, clr_long, va_rf_some, va_rf_none, rk1]
        rw [nI_1]
        have g2 := hq.1.at_ (q := wE T e q + 1) (by omega)
        have f2 : FrA w1 (uF w1 555 m (.int (nI (wE T e q + 1)))) m := FrA.rf.F (Or.inl rfl)
        refine sp_R_blanks g2 (fun w2 c1 c2 _ => ?_)
        simp only [↓s_167_29, kd_uF, ln_uF, ai_uF, al_uF, ar_uF, zs_uF, fd_uF, kd_uA, ln_uA, fd_uA, al_uA, ar_uA, zs_uA, ai_uA, kd_uL, ln_uL, fd_uL, ai_uL, ar_uL, zs_uL, al_uL, kd_uR, ln_uR, fd_uR, ai_uR, al_uR, zs_uR, ar_uR, true_and, and_true, Option.toList_some, Option.toList_none, List.cons_append, List.nil_append, catS_nil, catS_int, catS_ref, catS_null, catS_long, cat_int, cat_ref, cat_null, Nat.reduceEqDiff, Nat.reduceLeDiff, Nat.reduceAdd, false_and, and_false, if_false, if_true, ite_true, ite_false, true_or, or_true, false_or, or_false, and_self, forall_const, true_implies, reduceCtorEq, clr_int, clr_ref, clr_null, clr_none, clr_long, va_rf_some, va_rf_none]
        have hge := bE_ge (T := T) (e := e) (p := wE T e q + 1)
        exact ih _ w2 (by omega) (hq.A (f2.tr c2) c1) ((f1.tr f2).tr c2) e1'
      · rw [if_neg (by rw [z]; decide)] at e1'
        simp only [↓s_167_8, kd_uF, ln_uF, ai_uF, al_uF, ar_uF, zs_uF, fd_uF, kd_uA, ln_uA, fd_uA, al_uA, ar_uA, zs_uA, ai_uA, kd_uL, ln_uL, fd_uL, ai_uL, ar_uL, zs_uL, al_uL, kd_uR, ln_uR, fd_uR, ai_uR, al_uR, zs_uR, ar_uR, true_and, and_true, Option.toList_some, Option.toList_none, List.cons_append, List.nil_append, catS_nil, catS_int, catS_ref, catS_null, catS_long, cat_int, cat_ref, cat_null, Nat.reduceEqDiff, Nat.reduceLeDiff, Nat.reduceAdd, false_and, and_false, if_false, if_true, ite_true, ite_false, true_or, or_true, false_or, or_false, and_self, forall_const, true_implies, reduceCtorEq, clr_int, clr_ref, clr_null, clr_none, clr_long, va_rf_some, va_rf_none]
        exact ⟨body w1 (by rw [← e1']; exact hq) f1, fun q => absurd trivial q⟩
  simp only [↓s_167_0, ↓s_167_1, kd_uF, ln_uF, ai_uF, al_uF, ar_uF, zs_uF, fd_uF, kd_uA, ln_uA, fd_uA, al_uA, ar_uA, zs_uA, ai_uA, kd_uL, ln_uL, fd_uL, ai_uL, ar_uL, zs_uL, al_uL, kd_uR, ln_uR, fd_uR, ai_uR, al_uR, zs_uR, ar_uR, true_and, and_true, Option.toList_some, Option.toList_none, List.cons_append, List.nil_append, catS_nil, catS_int, catS_ref, catS_null, catS_long, cat_int, cat_ref, cat_null, Nat.reduceEqDiff, Nat.reduceLeDiff, Nat.reduceAdd, false_and, and_false, if_false, if_true, ite_true, ite_false, true_or, or_true, false_or, or_false, and_self, forall_const, true_implies, reduceCtorEq, clr_int, clr_ref, clr_null, clr_none, clr_long, va_rf_some, va_rf_none, rk]
  refine sp_R_blanks hQ.1 (fun w1 c1 c2 _ => ?_)
  have := lp (e - bE T e p) (bE T e p) w1 (by omega) (hQ.A c2 c1) c2 rfl
  exact this
