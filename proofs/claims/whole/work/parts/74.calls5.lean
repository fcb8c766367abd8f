def c_start (S : hs) (u a : Int32) : Int32 × hs := match rg u (S.1 0), rg a 4096 with
  | some u, some a => if (S.2.2 u).1 3 = 0 then (1, h_disp (h_ready (hU S u (uS (S.2.2 u) 0 a)) u)) else (0, S)
  | _, _ => (-1, S)
def h_key (S : hs) (u c : Nat) : hs := if (S.2.2 u).1 3 = 3 then h_ready (hU S u (uInp (S.2.2 u) (uIn (S.2.2 u) ++ [c]))) u else hU S u (uInp (S.2.2 u) (uIn (S.2.2 u) ++ [c]))
def c_key (S : hs) (u c : Int32) : Int32 × hs := match rg u (S.1 0), rg c 256 with
  | some u, some c => if (uIn (S.2.2 u)).length = 16 then (0, hU S u (uS (S.2.2 u) 6 (((S.2.2 u).1 6 + 1) % 4096))) else (1, h_disp (h_key S u c))
  | _, _ => (-1, S)
theorem sp_R_disp' {d : Nat} {w : aw} {m : Nat} {H : hs} {Q : wQ} (hA : RAt w m H) (hI : HI H) (h : ∀ w', RAt w' m (h_disp H) → FrM w w' m → Q none w') : wpD (d + 1) 121 [.ref m] w Q := by
  have ⟨a0, a1, a2, a3, a6, a7, a8, a9, an, ar, at', as, ab⟩ := hI
  exact sp_R_dispatch hA ab a0 a1 (by omega) a8 a9.1 (fun v hv => by have := (ar v hv).1; omega) hI.len h
theorem sp_R_start {d : Nat} {w : aw} {m : Nat} {u a : Int32} {H : hs} {Q : wQ} (hA : RAt w m H) (hI : HI H) (h : ∀ w', RAt w' m (c_start H u a).2 → FrM w w' m → Q (some (.int (c_start H u a).1)) w') : wpD (d + 3) 134 [.ref m, .int u, .int a] w Q := by
  refine ⟨Nat.le_of_ble_eq_true rfl, ?_⟩
  show wp (d + 2) 134 Q 0 [some (.ref m), some (.int u), some (.int a)] [] w 0 0
  have h8 := hI.1
  have hB := hi_ub hI
  obtain ⟨rk, r1, r2, r3, r4, r5, r6, r7, r8, r9, r10, r11, r12, r13, r14, r15, r16, r17, r18, r19, r20, r21, r22, r23, r24, k1, k2, k3, k4, k5, k6, k7, k8, k9, k10, k11, k12, k13, k14, k15, k16, k17, k18, k19, k20, k21, k22, k23, k24, n1, n2, n3, n4, n5, n6, n7, n8, n9, n10, n11, n12, n13, n14, n15, n16, n17, n18, n19, n20, n21, n22, n23, n24⟩ := hA.1
  have j19 : c_start H u a = (-1, H) → wp (d + 2) 134 Q 19 [some (.ref m), some (.int u), some (.int a)] [] w 0 0 := by
    intro hx
    rw [hx] at h
    simp only [↓s_134_19, ↓s_134_20, kd_uF, ln_uF, ai_uF, al_uF, ar_uF, zs_uF, fd_uF, kd_uA, ln_uA, fd_uA, al_uA, ar_uA, zs_uA, ai_uA, kd_uL, ln_uL, fd_uL, ai_uL, ar_uL, zs_uL, al_uL, kd_uR, ln_uR, fd_uR, ai_uR, al_uR, zs_uR, ar_uR, true_and, and_true, Option.toList_some, Option.toList_none, List.cons_append, List.nil_append, catS_nil, catS_int, catS_ref, catS_null, catS_long, cat_int, cat_ref, cat_null, Nat.reduceEqDiff, Nat.reduceLeDiff, Nat.reduceAdd, false_and, and_false, if_false, if_true, ite_true, ite_false, true_or, or_true, false_or, or_false, and_self, forall_const, true_implies, reduceCtorEq, clr_int, clr_ref, clr_null, clr_none, clr_long, va_rf_some, va_rf_none]
    exact h w hA FrM.rf
  simp only [↓s_134_0, ↓s_134_1, ↓s_134_2, kd_uF, ln_uF, ai_uF, al_uF, ar_uF, zs_uF, fd_uF, kd_uA, ln_uA, fd_uA, al_uA, ar_uA, zs_uA, ai_uA, kd_uL, ln_uL, fd_uL, ai_uL, ar_uL, zs_uL, al_uL, kd_uR, ln_uR, fd_uR, ai_uR, al_uR, zs_uR, ar_uR, true_and, and_true, Option.toList_some, Option.toList_none, List.cons_append, List.nil_append, catS_nil, catS_int, catS_ref, catS_null, catS_long, cat_int, cat_ref, cat_null, Nat.reduceEqDiff, Nat.reduceLeDiff, Nat.reduceAdd, false_and, and_false, if_false, if_true, ite_true, ite_false, true_or, or_true, false_or, or_false, and_self, forall_const, true_implies, reduceCtorEq, clr_int, clr_ref, clr_null, clr_none, clr_long, va_rf_some, va_rf_none, rk]
  refine sp_R_isUser hA h8 (fun k e1 e2 e3 => ?_) (fun e1 => ?_)
  · simp only [↓s_134_5, ↓s_134_8, ↓s_134_9, ↓s_134_10, ↓s_134_13, kd_uF, ln_uF, ai_uF, al_uF, ar_uF, zs_uF, fd_uF, kd_uA, ln_uA, fd_uA, al_uA, ar_uA, zs_uA, ai_uA, kd_uL, ln_uL, fd_uL, ai_uL, ar_uL, zs_uL, al_uL, kd_uR, ln_uR, fd_uR, ai_uR, al_uR, zs_uR, ar_uR, true_and, and_true, Option.toList_some, Option.toList_none, List.cons_append, List.nil_append, catS_nil, catS_int, catS_ref, catS_null, catS_long, cat_int, cat_ref, cat_null, Nat.reduceEqDiff, Nat.reduceLeDiff, Nat.reduceAdd, false_and, and_false, if_false, if_true, ite_true, ite_false, true_or, or_true, false_or, or_false, and_self, forall_const, true_implies, reduceCtorEq, clr_int, clr_ref, clr_null, clr_none, clr_long, va_rf_some, va_rf_none]
    refine ⟨fun q => absurd q (by decide), fun _ => sp_R_in (n := 4096) rfl (by decide) (fun c g1 g2 g3 => ?_) (fun g1 => ?_)⟩
    · have hc : c_start H u a = if (H.2.2 k).1 3 = 0 then (1, h_disp (h_ready (hU H k (uS (H.2.2 k) 0 c)) k)) else (0, H) := by unfold c_start; rw [e1, g1]
      have t3 := (ru_of hA (show k < 8 by omega)).2.2.2.1
      have b3 := (hB k).2.2.2.1
      have hin : inR (nI k) 8 := inR_nI (by omega) (by decide)
      rw [hc] at h
      rw [e3, g3]
      simp only [↓s_134_16, ↓s_134_21, ↓s_134_22, ↓s_134_25, ↓s_134_26, ↓s_134_27, ↓s_134_30, ↓s_134_31, ↓s_134_32, ↓s_134_33, ↓s_134_36, ↓s_134_37, ↓s_134_38, ↓s_134_39, ↓s_134_40, ↓s_134_41, kd_uF, ln_uF, ai_uF, al_uF, ar_uF, zs_uF, fd_uF, kd_uA, ln_uA, fd_uA, al_uA, ar_uA, zs_uA, ai_uA, kd_uL, ln_uL, fd_uL, ai_uL, ar_uL, zs_uL, al_uL, kd_uR, ln_uR, fd_uR, ai_uR, al_uR, zs_uR, ar_uR, true_and, and_true, Option.toList_some, Option.toList_none, List.cons_append, List.nil_append, catS_nil, catS_int, catS_ref, catS_null, catS_long, cat_int, cat_ref, cat_null, Nat.reduceEqDiff, Nat.reduceLeDiff, Nat.reduceAdd, false_and, and_false, if_false, if_true, ite_true, ite_false, true_or, or_true, false_or, or_false, and_self, forall_const, true_implies, reduceCtorEq, clr_int, clr_ref, clr_null, clr_none, clr_long, va_rf_some, va_rf_none, rk, r8, k8, n8, r6, k6, n6, clN (show k < 2147483648 by omega), t3]
      rw [show (0 : Int32) = nI 0 from rfl, nI_eq (by omega) (by decide)]
      refine ⟨fun _ => ⟨hin, fun q => ⟨hin, ?_⟩, fun q => ?_⟩, fun q => absurd q (by decide)⟩
      · rw [if_pos q] at h
        have hA1 := hA.U hB (FrN.rf.one (k := 6) (x := nI c) (by omega)) ((ru_of hA (show k < 8 by omega)).S0 (v := c))
        have hI1 : HI (hU H k (uS (H.2.2 k) 0 c)) := hI.U ((hB k).S0 g2) (uS_ne (by decide)) (fun z => by rw [uS_ne (by decide)] at z; omega)
        have s3 : ((hU H k (uS (H.2.2 k) 0 c)).2.2 k).1 3 = 0 := by rw [hU_at, uS_ne (by decide)]; exact q
        refine sp_R_ready hA1 (hi_ub hI1) (by omega) (hI1.len' (u := k) e2 (by omega)) (fun w2 i1 i2 => ?_)
        have hI2 : HI (h_ready (hU H k (uS (H.2.2 k) 0 c)) k) := hI1.ready e2 (by omega) (hI1.run (by omega))
        have rk2 := i1.1.1
        simp only [↓s_134_44, ↓s_134_45, kd_uF, ln_uF, ai_uF, al_uF, ar_uF, zs_uF, fd_uF, kd_uA, ln_uA, fd_uA, al_uA, ar_uA, zs_uA, ai_uA, kd_uL, ln_uL, fd_uL, ai_uL, ar_uL, zs_uL, al_uL, kd_uR, ln_uR, fd_uR, ai_uR, al_uR, zs_uR, ar_uR, true_and, and_true, Option.toList_some, Option.toList_none, List.cons_append, List.nil_append, catS_nil, catS_int, catS_ref, catS_null, catS_long, cat_int, cat_ref, cat_null, Nat.reduceEqDiff, Nat.reduceLeDiff, Nat.reduceAdd, false_and, and_false, if_false, if_true, ite_true, ite_false, true_or, or_true, false_or, or_false, and_self, forall_const, true_implies, reduceCtorEq, clr_int, clr_ref, clr_null, clr_none, clr_long, va_rf_some, va_rf_none, rk2]
        refine sp_R_disp' i1 hI2 (fun w3 i3 i4 => ?_)
        simp only [↓s_134_48, ↓s_134_49, kd_uF, ln_uF, ai_uF, al_uF, ar_uF, zs_uF, fd_uF, kd_uA, ln_uA, fd_uA, al_uA, ar_uA, zs_uA, ai_uA, kd_uL, ln_uL, fd_uL, ai_uL, ar_uL, zs_uL, al_uL, kd_uR, ln_uR, fd_uR, ai_uR, al_uR, zs_uR, ar_uR, true_and, and_true, Option.toList_some, Option.toList_none, List.cons_append, List.nil_append, catS_nil, catS_int, catS_ref, catS_null, catS_long, cat_int, cat_ref, cat_null, Nat.reduceEqDiff, Nat.reduceLeDiff, Nat.reduceAdd, false_and, and_false, if_false, if_true, ite_true, ite_false, true_or, or_true, false_or, or_false, and_self, forall_const, true_implies, reduceCtorEq, clr_int, clr_ref, clr_null, clr_none, clr_long, va_rf_some, va_rf_none]
        exact h w3 i3 (((FrM.rf.A (by decide)).tr i2).tr i4)
      · rw [if_neg q] at h
        exact h w hA FrM.rf
    · simp only [↓s_134_16, ↓s_134_21, ↓s_134_22, ↓s_134_25, ↓s_134_26, ↓s_134_27, ↓s_134_30, ↓s_134_31, ↓s_134_32, ↓s_134_33, ↓s_134_36, ↓s_134_37, ↓s_134_38, ↓s_134_39, ↓s_134_40, ↓s_134_41, kd_uF, ln_uF, ai_uF, al_uF, ar_uF, zs_uF, fd_uF, kd_uA, ln_uA, fd_uA, al_uA, ar_uA, zs_uA, ai_uA, kd_uL, ln_uL, fd_uL, ai_uL, ar_uL, zs_uL, al_uL, kd_uR, ln_uR, fd_uR, ai_uR, al_uR, zs_uR, ar_uR, true_and, and_true, Option.toList_some, Option.toList_none, List.cons_append, List.nil_append, catS_nil, catS_int, catS_ref, catS_null, catS_long, cat_int, cat_ref, cat_null, Nat.reduceEqDiff, Nat.reduceLeDiff, Nat.reduceAdd, false_and, and_false, if_false, if_true, ite_true, ite_false, true_or, or_true, false_or, or_false, and_self, forall_const, true_implies, reduceCtorEq, clr_int, clr_ref, clr_null, clr_none, clr_long, va_rf_some, va_rf_none, rk]
      exact ⟨fun q => absurd trivial q, j19 (by unfold c_start; rw [e1, g1])⟩
  · simp only [↓s_134_5, ↓s_134_8, ↓s_134_9, ↓s_134_10, ↓s_134_13, kd_uF, ln_uF, ai_uF, al_uF, ar_uF, zs_uF, fd_uF, kd_uA, ln_uA, fd_uA, al_uA, ar_uA, zs_uA, ai_uA, kd_uL, ln_uL, fd_uL, ai_uL, ar_uL, zs_uL, al_uL, kd_uR, ln_uR, fd_uR, ai_uR, al_uR, zs_uR, ar_uR, true_and, and_true, Option.toList_some, Option.toList_none, List.cons_append, List.nil_append, catS_nil, catS_int, catS_ref, catS_null, catS_long, cat_int, cat_ref, cat_null, Nat.reduceEqDiff, Nat.reduceLeDiff, Nat.reduceAdd, false_and, and_false, if_false, if_true, ite_true, ite_false, true_or, or_true, false_or, or_false, and_self, forall_const, true_implies, reduceCtorEq, clr_int, clr_ref, clr_null, clr_none, clr_long, va_rf_some, va_rf_none, rk]
    exact ⟨j19 (by unfold c_start; rw [e1]), fun q => absurd trivial q⟩
