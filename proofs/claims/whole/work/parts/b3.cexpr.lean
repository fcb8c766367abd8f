theorem subM {a v : Nat} (h : v ≤ 4096) : nI a - nI v &&& 4095 = nI ((a + (4096 - v)) % 4096) := by
  have e : nI a - nI v = nI a + (-1 : Int32) * nI v := by
    rw [Int32.neg_mul, Int32.one_mul, Int32.sub_eq_add_neg]
  rw [e, subP h]
theorem comb_none {neg : Bool} {o u : Option Nat} : (comb neg o u).isNone = (o.isNone || u.isNone) := by
  cases o <;> cases u <;> rfl
theorem sp_c_expr {d : Nat} {w : aw} {x n e p dot : Nat} {T : Nat → Nat} {t : nt} {U : Bool} {Q : wQ} (hQ : CQ w x T n e t dot p) (hN : TN t) (hd : dot < 4096) (hp : p ≤ e) (hB : fd w 267 (x + 11) = .int 0) (hU : fd w 268 (x + 11) = .int (bI U)) (h1 : ∀ q w' v, eS T e p = some q → CQ w' x T n e t dot q → FrB w w' x → fd w' 267 (x + 11) = .int 0 → fd w' 268 (x + 11) = .int (bI (U || (eV T e t dot p).isNone)) → v < 4096 → (∀ y, eV T e t dot p = some y → y = v) → Q (some (.int (nI v))) w') (h2 : eS T e p = none → ∀ w' q v, CQ w' x T n e t dot q → q ≤ e → FrB w w' x → fd w' 267 (x + 11) = .int 1 → Q (some (.int v)) w') : wpD (d + 4) 53 [.ref (x + 11)] w Q := by
  refine ⟨Nat.le_of_ble_eq_true rfl, ?_⟩
  show wp (d + 3) 53 Q 0 [some (.ref (x + 11)), none, none, none, none, none] [] w 0 0
  have hS := hQ.1
  have at0 := hQ.2.2.2
  have hT := hS.2.2.2.2.2.2.2.2.2.2.2.2
  have hen := hS.2.2.2.2.2.2.2.2.2.2.1
  have hn8 := hS.2.2.2.2.2.2.2.2.2.2.2.1
  have rk := hS.1
  -- with a break
  have bad : ∀ (w2 : aw) (q i : Nat) (z M v : Int32) (A B : Option Value), eS T e p = none → CQ w2 x T n e t dot q → q ≤ e → FrB w w2 x → fd w2 267 (x + 11) = .int 1 → wp (d + 3) 53 Q 69 [some (.ref (x + 11)), some (.int M), B, some (.int (nI i)), some (.int v), A] [.int z] w2 0 0 := by
    intro w2 q i z M v A B e1 hq hqe f2 b2
    have rk2 := hq.1.1
    simp only [↓s_53_69, ↓s_53_72, ↓s_53_73, ↓s_53_74, ↓s_53_75, ↓s_53_76, ↓s_53_79, kd_uF, ln_uF, ai_uF, al_uF, ar_uF, zs_uF, fd_uF, kd_uA, ln_uA, fd_uA, al_uA, ar_uA, zs_uA, ai_uA, kd_uL, ln_uL, fd_uL, ai_uL, ar_uL, zs_uL, al_uL, kd_uR, ln_uR, fd_uR, ai_uR, al_uR, zs_uR, ar_uR, true_and, and_true, Option.toList_some, Option.toList_none, List.cons_append, List.nil_append, catS_nil, catS_int, catS_ref, catS_null, catS_long, cat_int, cat_ref, cat_null, Nat.reduceEqDiff, Nat.reduceLeDiff, Nat.reduceAdd, false_and, and_false, if_false, if_true, ite_true, ite_false, true_or, or_true, false_or, or_false, and_self, forall_const, true_implies, reduceCtorEq, clr_int, clr_ref, clr_null, clr_none, clr_long, va_rf_some, va_rf_none, rk2, hq.2.2.2]
    refine sp_c_look hq.1 (by omega) ?_
    simp only [↓s_53_82, ↓s_53_84, ↓s_53_85, ↓s_53_88, ↓s_53_137, ↓s_53_138, kd_uF, ln_uF, ai_uF, al_uF, ar_uF, zs_uF, fd_uF, kd_uA, ln_uA, fd_uA, al_uA, ar_uA, zs_uA, ai_uA, kd_uL, ln_uL, fd_uL, ai_uL, ar_uL, zs_uL, al_uL, kd_uR, ln_uR, fd_uR, ai_uR, al_uR, zs_uR, ar_uR, true_and, and_true, Option.toList_some, Option.toList_none, List.cons_append, List.nil_append, catS_nil, catS_int, catS_ref, catS_null, catS_long, cat_int, cat_ref, cat_null, Nat.reduceEqDiff, Nat.reduceLeDiff, Nat.reduceAdd, false_and, and_false, if_false, if_true, ite_true, ite_false, true_or, or_true, false_or, or_false, and_self, forall_const, true_implies, reduceCtorEq, clr_int, clr_ref, clr_null, clr_none, clr_long, va_rf_some, va_rf_none, rk2, b2]
    exact ⟨fun _ => h2 e1 w2 q _ hq hqe f2 b2, fun q => absurd q (by decide)⟩
  have lp : ∀ (k p2 i s : Nat) (neg : Bool) (o : Option Nat) (w1 : aw) (A B : Option Value), i + k = e + 1 → i ≤ p2 → p2 ≤ e → CQ w1 x T n e t dot p2 → FrB w w1 x → fd w1 267 (x + 11) = .int 0 → fd w1 268 (x + 11) = .int (bI (U || o.isNone)) → s < 4096 → (∀ y, o = some y → y = s) → xS T e k p2 = eS T e p → xV T e t dot k p2 neg o = eV T e t dot p → wp (d + 3) 53 Q 40 [some (.ref (x + 11)), some (.int (bI neg)), some (.int (nI s)), some (.int (nI i)), A, B] [] w1 0 0 := by
    intro k
    induction k with
    | zero => intro p2 i s neg o w1 A B hk hi hpe; omega
    | succ k ih =>
      intro p2 i s neg o w1 A B hk hi hpe hq f1 b1 u1 hs ho e1 e2
      have hS1 := hq.1
      have rk1 := hS1.1
      have en1 := hS1.2.2.2.2.2.2.2.2.2.1
      rw [s_53_40]
      simp only [↓s_53_41, ↓s_53_42, ↓s_53_45, ↓s_53_48, ↓s_53_49, kd_uF, ln_uF, ai_uF, al_uF, ar_uF, zs_uF, fd_uF, kd_uA, ln_uA, fd_uA, al_uA, ar_uA, zs_uA, ai_uA, kd_uL, ln_uL, fd_uL, ai_uL, ar_uL, zs_uL, al_uL, kd_uR, ln_uR, fd_uR, ai_uR, al_uR, zs_uR, ar_uR, true_and, and_true, Option.toList_some, Option.toList_none, List.cons_append, List.nil_append, catS_nil, catS_int, catS_ref, catS_null, catS_long, cat_int, cat_ref, cat_null, Nat.reduceEqDiff, Nat.reduceLeDiff, Nat.reduceAdd, false_and, and_false, if_false, if_true, ite_true, ite_false, true_or, or_true, false_or, or_false, and_self, forall_const, true_implies, reduceCtorEq, clr_int, clr_ref, clr_null, clr_none, clr_long, va_rf_some, va_rf_none, rk1, en1]
      refine ⟨fun q => absurd q (nI_nlt (by omega) (by omega)), fun _ => sp_c_term hq hN hpe b1 u1 (fun q w2 c1 c2 c3 c4 c5 => ?_) (fun c1 w2 q v c2 c3 c4 c5 => ?_)⟩
      · have hqb := tS_b c1
        have hv4 : (tV T e t dot p2).getD 0 < 4096 := by
          cases ev : tV T e t dot p2 with
          | none => exact (by decide : 0 < 4096)
          | some v => exact tV_lt hN hd c1 ev
        obtain ⟨v, hv⟩ : ∃ v, v = (tV T e t dot p2).getD 0 := ⟨_, rfl⟩
        rw [← hv] at hv4 ⊢
        obtain ⟨s', hs'⟩ : ∃ s', s' = if neg = true then (s + (4096 - v)) % 4096 else (s + v) % 4096 := ⟨_, rfl⟩
        have hs4 : s' < 4096 := by rw [hs']; split <;> exact Nat.mod_lt _ (by decide)
        have ho' : ∀ y, comb neg o (tV T e t dot p2) = some y → y = s' := by
          intro y hy
          cases eo : o with
          | none => rw [eo] at hy; cases hy
          | some a =>
            cases ev : tV T e t dot p2 with
            | none => rw [eo, ev] at hy; cases hy
            | some b =>
              rw [eo, ev] at hy
              have ha := ho a eo
              rw [ev] at hv
              have hv' : v = b := hv
              rw [hs', hv', ← ha]
              exact (Option.some.inj hy).symm
        have u2 : fd w2 268 (x + 11) = .int (bI (U || (comb neg o (tV T e t dot p2)).isNone)) := by rw [c5, comb_none, Bool.or_assoc]
        have f2 := f1.tr c3
        have rk2 := c2.1.1
        -- behind the sum
        have j69 : ∀ z : Int32, z &&& 4095 = nI s' → wp (d + 3) 53 Q 69 [some (.ref (x + 11)), some (.int (bI neg)), some (.int (nI s)), some (.int (nI i)), some (.int (nI v)), B] [.int z] w2 0 0 := by
          intro z hz
          simp only [↓s_53_69, ↓s_53_72, ↓s_53_73, ↓s_53_74, ↓s_53_75, ↓s_53_76, ↓s_53_79, kd_uF, ln_uF, ai_uF, al_uF, ar_uF, zs_uF, fd_uF, kd_uA, ln_uA, fd_uA, al_uA, ar_uA, zs_uA, ai_uA, kd_uL, ln_uL, fd_uL, ai_uL, ar_uL, zs_uL, al_uL, kd_uR, ln_uR, fd_uR, ai_uR, al_uR, zs_uR, ar_uR, true_and, and_true, Option.toList_some, Option.toList_none, List.cons_append, List.nil_append, catS_nil, catS_int, catS_ref, catS_null, catS_long, cat_int, cat_ref, cat_null, Nat.reduceEqDiff, Nat.reduceLeDiff, Nat.reduceAdd, false_and, and_false, if_false, if_true, ite_true, ite_false, true_or, or_true, false_or, or_false, and_self, forall_const, true_implies, reduceCtorEq, clr_int, clr_ref, clr_null, clr_none, clr_long, va_rf_some, va_rf_none, rk2, c2.2.2.2]
          rw [hz]
          refine sp_c_look c2.1 (by omega) ?_
          have x1 : xS T e (k + 1) p2 = if isPM (lk T e q) = true then xS T e k (q + 1) else some q := by
            show (match tS T e p2 with | none => none | some q => if isPM (lk T e q) = true then xS T e k (q + 1) else some q) = _
            rw [c1]
          have x2 : xV T e t dot (k + 1) p2 neg o = if isPM (lk T e q) = true then xV T e t dot k (q + 1) (lk T e q == 45) (comb neg o (tV T e t dot p2)) else comb neg o (tV T e t dot p2) := by
            show (match tS T e p2 with | none => none | some q => if isPM (lk T e q) = true then xV T e t dot k (q + 1) (lk T e q == 45) (comb neg o (tV T e t dot p2)) else comb neg o (tV T e t dot p2)) = _
            rw [c1]
          rw [x1] at e1
          rw [x2] at e2
          have go : isPM (lk T e q) = true → wp (d + 3) 53 Q 108 [some (.ref (x + 11)), some (.int (bI neg)), some (.int (nI s')), some (.int (nI i)), some (.int (nI v)), some (.int (lkI T e q))] [] w2 0 0 := by
            intro zp
            rw [if_pos zp] at e1 e2
            have hqe : q < e := lk_pos (T := T) (by rcases isPM_iff.mp zp with y | y <;> omega)
            have j120 : ∀ b : Bool, b = (lk T e q == 45) → wp (d + 3) 53 Q 120 [some (.ref (x + 11)), some (.int (bI neg)), some (.int (nI s')), some (.int (nI i)), some (.int (nI v)), some (.int (lkI T e q))] [.int (bI b)] w2 0 0 := by
              intro b hb
              simp only [↓s_53_120, ↓s_53_121, ↓s_53_122, ↓s_53_123, ↓s_53_126, ↓s_53_127, ↓s_53_128, ↓s_53_131, ↓s_53_134, kd_uF, ln_uF, ai_uF, al_uF, ar_uF, zs_uF, fd_uF, kd_uA, ln_uA, fd_uA, al_uA, ar_uA, zs_uA, ai_uA, kd_uL, ln_uL, fd_uL, ai_uL, ar_uL, zs_uL, al_uL, kd_uR, ln_uR, fd_uR, ai_uR, al_uR, zs_uR, ar_uR, true_and, and_true, Option.toList_some, Option.toList_none, List.cons_append, List.nil_append, catS_nil, catS_int, catS_ref, catS_null, catS_long, cat_int, cat_ref, cat_null, Nat.reduceEqDiff, Nat.reduceLeDiff, Nat.reduceAdd, false_and, and_false, if_false, if_true, ite_true, ite_false, true_or, or_true, false_or, or_false, and_self, forall_const, true_implies, reduceCtorEq, clr_int, clr_ref, clr_null, clr_none, clr_long, va_rf_some, va_rf_none, rk2, c2.2.2.2]
              rw [nI_1, nI_1]
              exact ih (q + 1) (i + 1) s' b _ _ _ _ (by omega) (by omega) (by omega) (c2.B (FrB.rf.F (Or.inl rfl)) (by rw [fd_uF, if_pos ⟨rfl, rfl⟩])) (f2.F (Or.inl rfl)) (by rw [fd_uF, if_neg (fun q => absurd q.1 (by decide))]; exact c4) (by rw [fd_uF, if_neg (fun q => absurd q.1 (by decide))]; exact u2) hs4 ho' e1 (by rw [hb]; exact e2)
            simp only [↓s_53_108, ↓s_53_110, ↓s_53_112, ↓s_53_115, ↓s_53_116, ↓s_53_119, kd_uF, ln_uF, ai_uF, al_uF, ar_uF, zs_uF, fd_uF, kd_uA, ln_uA, fd_uA, al_uA, ar_uA, zs_uA, ai_uA, kd_uL, ln_uL, fd_uL, ai_uL, ar_uL, zs_uL, al_uL, kd_uR, ln_uR, fd_uR, ai_uR, al_uR, zs_uR, ar_uR, true_and, and_true, Option.toList_some, Option.toList_none, List.cons_append, List.nil_append, catS_nil, catS_int, catS_ref, catS_null, catS_long, cat_int, cat_ref, cat_null, Nat.reduceEqDiff, Nat.reduceLeDiff, Nat.reduceAdd, false_and, and_false, if_false, if_true, ite_true, ite_false, true_or, or_true, false_or, or_false, and_self, forall_const, true_implies, reduceCtorEq, clr_int, clr_ref, clr_null, clr_none, clr_long, va_rf_some, va_rf_none]
            rw [show (45 : Int32) = nI 45 from rfl, lkI_eq hT (by decide) (by decide)]
            exact ⟨fun q5 => j120 false (by rw [beq_eq_false_iff_ne.mpr q5]), fun q5 => j120 true (by rw [q5]; rfl)⟩
          have no : ¬ isPM (lk T e q) = true → wp (d + 3) 53 Q 137 [some (.ref (x + 11)), some (.int (bI neg)), some (.int (nI s')), some (.int (nI i)), some (.int (nI v)), some (.int (lkI T e q))] [] w2 0 0 := by
            intro zp
            rw [if_neg zp] at e1 e2
            simp only [↓s_53_137, ↓s_53_138, kd_uF, ln_uF, ai_uF, al_uF, ar_uF, zs_uF, fd_uF, kd_uA, ln_uA, fd_uA, al_uA, ar_uA, zs_uA, ai_uA, kd_uL, ln_uL, fd_uL, ai_uL, ar_uL, zs_uL, al_uL, kd_uR, ln_uR, fd_uR, ai_uR, al_uR, zs_uR, ar_uR, true_and, and_true, Option.toList_some, Option.toList_none, List.cons_append, List.nil_append, catS_nil, catS_int, catS_ref, catS_null, catS_long, cat_int, cat_ref, cat_null, Nat.reduceEqDiff, Nat.reduceLeDiff, Nat.reduceAdd, false_and, and_false, if_false, if_true, ite_true, ite_false, true_or, or_true, false_or, or_false, and_self, forall_const, true_implies, reduceCtorEq, clr_int, clr_ref, clr_null, clr_none, clr_long, va_rf_some, va_rf_none]
            refine h1 q w2 s' e1.symm c2 f2 c4 (by rw [u2, e2]) hs4 (by rw [← e2]; exact ho')
          simp only [↓s_53_82, ↓s_53_84, ↓s_53_85, ↓s_53_88, ↓s_53_91, ↓s_53_93, ↓s_53_95, ↓s_53_98, ↓s_53_100, ↓s_53_102, ↓s_53_105, kd_uF, ln_uF, ai_uF, al_uF, ar_uF, zs_uF, fd_uF, kd_uA, ln_uA, fd_uA, al_uA, ar_uA, zs_uA, ai_uA, kd_uL, ln_uL, fd_uL, ai_uL, ar_uL, zs_uL, al_uL, kd_uR, ln_uR, fd_uR, ai_uR, al_uR, zs_uR, ar_uR, true_and, and_true, Option.toList_some, Option.toList_none, List.cons_append, List.nil_append, catS_nil, catS_int, catS_ref, catS_null, catS_long, cat_int, cat_ref, cat_null, Nat.reduceEqDiff, Nat.reduceLeDiff, Nat.reduceAdd, false_and, and_false, if_false, if_true, ite_true, ite_false, true_or, or_true, false_or, or_false, and_self, forall_const, true_implies, reduceCtorEq, clr_int, clr_ref, clr_null, clr_none, clr_long, va_rf_some, va_rf_none, rk2, c4]
          rw [show (43 : Int32) = nI 43 from rfl, show (45 : Int32) = nI 45 from rfl, lkI_eq hT (by decide) (by decide), lkI_eq hT (by decide) (by decide)]
          exact ⟨fun q => absurd trivial q, fun q3 => go (isPM_iff.mpr (Or.inl q3)), fun q3 => ⟨fun q5 => go (isPM_iff.mpr (Or.inr q5)), fun q5 => no (fun zp => (isPM_iff.mp zp).elim q3 q5)⟩⟩
        simp only [↓s_53_52, ↓s_53_54, ↓s_53_55, ↓s_53_58, ↓s_53_59, ↓s_53_61, ↓s_53_62, ↓s_53_65, ↓s_53_66, ↓s_53_68, kd_uF, ln_uF, ai_uF, al_uF, ar_uF, zs_uF, fd_uF, kd_uA, ln_uA, fd_uA, al_uA, ar_uA, zs_uA, ai_uA, kd_uL, ln_uL, fd_uL, ai_uL, ar_uL, zs_uL, al_uL, kd_uR, ln_uR, fd_uR, ai_uR, al_uR, zs_uR, ar_uR, true_and, and_true, Option.toList_some, Option.toList_none, List.cons_append, List.nil_append, catS_nil, catS_int, catS_ref, catS_null, catS_long, cat_int, cat_ref, cat_null, Nat.reduceEqDiff, Nat.reduceLeDiff, Nat.reduceAdd, false_and, and_false, if_false, if_true, ite_true, ite_false, true_or, or_true, false_or, or_false, and_self, forall_const, true_implies, reduceCtorEq, clr_int, clr_ref, clr_null, clr_none, clr_long, va_rf_some, va_rf_none]
        cases neg with
        | true =>
          refine ⟨fun q => absurd q (by decide), fun _ => j69 _ ?_⟩
          rw [subM (by omega), hs', if_pos rfl]
        | false =>
          refine ⟨fun _ => j69 _ ?_, fun q => absurd rfl q⟩
          rw [nI_add, mask12, hs', if_neg (by decide)]
      · have e0 : eS T e p = none := by
          rw [← e1]
          show (match tS T e p2 with | none => none | some q => if isPM (lk T e q) = true then xS T e k (q + 1) else some q) = none
          rw [c1]
        simp only [↓s_53_52, ↓s_53_54, ↓s_53_55, ↓s_53_58, ↓s_53_59, ↓s_53_61, ↓s_53_62, ↓s_53_65, ↓s_53_66, ↓s_53_68, kd_uF, ln_uF, ai_uF, al_uF, ar_uF, zs_uF, fd_uF, kd_uA, ln_uA, fd_uA, al_uA, ar_uA, zs_uA, ai_uA, kd_uL, ln_uL, fd_uL, ai_uL, ar_uL, zs_uL, al_uL, kd_uR, ln_uR, fd_uR, ai_uR, al_uR, zs_uR, ar_uR, true_and, and_true, Option.toList_some, Option.toList_none, List.cons_append, List.nil_append, catS_nil, catS_int, catS_ref, catS_null, catS_long, cat_int, cat_ref, cat_null, Nat.reduceEqDiff, Nat.reduceLeDiff, Nat.reduceAdd, false_and, and_false, if_false, if_true, ite_true, ite_false, true_or, or_true, false_or, or_false, and_self, forall_const, true_implies, reduceCtorEq, clr_int, clr_ref, clr_null, clr_none, clr_long, va_rf_some, va_rf_none]
        exact ⟨fun _ => bad w2 q i _ _ v _ _ e0 c2 c3 (f1.tr c4) c5, fun _ => bad w2 q i _ _ v _ _ e0 c2 c3 (f1.tr c4) c5⟩
  have j33 : ∀ (w1 : aw), CQ w1 x T n e t dot (mP T e p) → FrB w w1 x → fd w1 267 (x + 11) = .int 0 → fd w1 268 (x + 11) = .int (bI U) → wp (d + 3) 53 Q 33 [some (.ref (x + 11)), some (.int (bI (lk T e p == 45))), none, none, none, none] [] w1 0 0 := by
    intro w1 hq f1 b1 u1
    have rk1 := hq.1.1
    have hm := mP_b (T := T) hp
    simp only [↓s_53_33, ↓s_53_34, ↓s_53_35, ↓s_53_36, ↓s_53_39, kd_uF, ln_uF, ai_uF, al_uF, ar_uF, zs_uF, fd_uF, kd_uA, ln_uA, fd_uA, al_uA, ar_uA, zs_uA, ai_uA, kd_uL, ln_uL, fd_uL, ai_uL, ar_uL, zs_uL, al_uL, kd_uR, ln_uR, fd_uR, ai_uR, al_uR, zs_uR, ar_uR, true_and, and_true, Option.toList_some, Option.toList_none, List.cons_append, List.nil_append, catS_nil, catS_int, catS_ref, catS_null, catS_long, cat_int, cat_ref, cat_null, Nat.reduceEqDiff, Nat.reduceLeDiff, Nat.reduceAdd, false_and, and_false, if_false, if_true, ite_true, ite_false, true_or, or_true, false_or, or_false, and_self, forall_const, true_implies, reduceCtorEq, clr_int, clr_ref, clr_null, clr_none, clr_long, va_rf_some, va_rf_none, rk1, hq.2.2.2]
    exact lp (e + 1 - mP T e p) (mP T e p) (mP T e p) 0 _ (some 0) w1 _ _ (by omega) (Nat.le_refl _) hm.2 hq f1 b1 (by rw [u1]; simp) (by decide) (fun y hy => (Option.some.inj hy).symm) rfl rfl
  simp only [↓s_53_0, ↓s_53_1, ↓s_53_2, ↓s_53_5, kd_uF, ln_uF, ai_uF, al_uF, ar_uF, zs_uF, fd_uF, kd_uA, ln_uA, fd_uA, al_uA, ar_uA, zs_uA, ai_uA, kd_uL, ln_uL, fd_uL, ai_uL, ar_uL, zs_uL, al_uL, kd_uR, ln_uR, fd_uR, ai_uR, al_uR, zs_uR, ar_uR, true_and, and_true, Option.toList_some, Option.toList_none, List.cons_append, List.nil_append, catS_nil, catS_int, catS_ref, catS_null, catS_long, cat_int, cat_ref, cat_null, Nat.reduceEqDiff, Nat.reduceLeDiff, Nat.reduceAdd, false_and, and_false, if_false, if_true, ite_true, ite_false, true_or, or_true, false_or, or_false, and_self, forall_const, true_implies, reduceCtorEq, clr_int, clr_ref, clr_null, clr_none, clr_long, va_rf_some, va_rf_none, rk, at0]
  refine sp_c_look hS (by omega) ?_
  simp only [↓s_53_8, ↓s_53_10, ↓s_53_13, ↓s_53_14, ↓s_53_17, ↓s_53_18, ↓s_53_19, ↓s_53_20, ↓s_53_23, ↓s_53_24, ↓s_53_25, ↓s_53_28, ↓s_53_29, ↓s_53_30, kd_uF, ln_uF, ai_uF, al_uF, ar_uF, zs_uF, fd_uF, kd_uA, ln_uA, fd_uA, al_uA, ar_uA, zs_uA, ai_uA, kd_uL, ln_uL, fd_uL, ai_uL, ar_uL, zs_uL, al_uL, kd_uR, ln_uR, fd_uR, ai_uR, al_uR, zs_uR, ar_uR, true_and, and_true, Option.toList_some, Option.toList_none, List.cons_append, List.nil_append, catS_nil, catS_int, catS_ref, catS_null, catS_long, cat_int, cat_ref, cat_null, Nat.reduceEqDiff, Nat.reduceLeDiff, Nat.reduceAdd, false_and, and_false, if_false, if_true, ite_true, ite_false, true_or, or_true, false_or, or_false, and_self, forall_const, true_implies, reduceCtorEq, clr_int, clr_ref, clr_null, clr_none, clr_long, va_rf_some, va_rf_none, rk, at0]
  rw [show (45 : Int32) = nI 45 from rfl, lkI_eq hT (by decide) (by decide), nI_1]
  refine ⟨fun q => ⟨?_, fun z => absurd trivial z⟩, fun q => ⟨fun z => absurd z (by decide), fun _ => ?_⟩⟩
  · have e1 : mP T e p = p := by unfold mP; rw [if_neg q]
    have := j33 w (by rw [e1]; exact hQ) FrB.rf hB hU
    rw [show (lk T e p == 45) = false from beq_eq_false_iff_ne.mpr q] at this
    exact this
  · have e1 : mP T e p = p + 1 := by unfold mP; rw [if_pos q]
    have := j33 (uF w 258 (x + 11) (.int (nI (p + 1)))) (by rw [e1]; exact hQ.B (FrB.rf.F (Or.inl rfl)) (by rw [fd_uF, if_pos ⟨rfl, rfl⟩])) (FrB.rf.F (Or.inl rfl)) (by rw [fd_uF, if_neg (fun q => absurd q.1 (by decide))]; exact hB) (by rw [fd_uF, if_neg (fun q => absurd q.1 (by decide))]; exact hU)
    rw [show (lk T e p == 45) = true from by rw [q]; rfl] at this
    exact this
