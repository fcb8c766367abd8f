theorem sp_C_tickOf {d : Nat} {w : aw} {h v s : Nat} {H : hs} {Q : wQ} (hC : CAt w h H s) (hI : HI H) (hv : v < H.1 0) (hp : (H.2.2 v).1 8 < 2147483647) (hQ : ∀ w', CAt w' h (h_tickU H v) s → Fr w w' h (h + 68) → Q none w') : wpD (d + 4) 23 [.ref h, .ref (ub h v)] w Q := by
  refine ⟨Nat.le_of_ble_eq_true rfl, ?_⟩
  show wp (d + 3) 23 Q 0 [some (.ref h), some (.ref (ub h v))] [] w 0 0
  have h8 := hI.1
  have hv8 : v < 8 := by omega
  have hUu := (hC.2.2.2.2.2 v hv8).1
  have ku := hUu.1
  have hB := hi_ub hI v
  have j20 : ∀ w1 K, K = h_print H v → CAt w1 h K s → Fr w w1 h (h + 68) → wp (d + 3) 23 Q 20 [some (.ref h), some (.ref (ub h v))] [] w1 0 0 := by
    intro w1 K eK c1 f1
    have hIK : HI K := by rw [eK]; exact hI.print hv
    have hv' : v < K.1 0 := by rw [eK, h_print_1]; exact hv
    have u1 := (c1.2.2.2.2.2 v hv8).1
    have k1 := u1.1
    have k0 := c1.1.1
    have t3 := u1.2.2.2.2.2.2.2.2.2.2.1
    have t4 := u1.2.2.2.2.2.2.2.2.2.2.2.1
    have b3 := (hi_ub hIK v).2.2.2.1
    have b4 := (hi_ub hIK v).2.2.2.2.1
    have hQ' : ∀ w', CAt w' h (h_wake K v) s → Fr w1 w' h (h + 68) → Q none w' := fun w' e1 e2 => hQ w' (by unfold h_tickU; rw [← eK]; exact e1) (f1.tr e2)
    have ne : ¬ h = ub h v := by unfold ub; omega
    simp only [↓s_23_20, ↓s_23_20n, ↓s_23_21, ↓s_23_24, ↓s_23_25, ↓s_23_28, ↓s_23_28n, ↓s_23_29, ↓s_23_30, ↓s_23_33, ↓s_23_34, ↓s_23_35, ↓s_23_38, ↓s_23_38n, ↓s_23_39, ↓s_23_42, ↓s_23_45, ↓s_23_46, ↓s_23_46n, ↓s_23_47, ↓s_23_50, kd_uF, ln_uF, ai_uF, al_uF, ar_uF, zs_uF, fd_uF, kd_uA, ln_uA, fd_uA, al_uA, ar_uA, zs_uA, ai_uA, kd_uL, ln_uL, fd_uL, ai_uL, ar_uL, zs_uL, al_uL, kd_uR, ln_uR, fd_uR, ai_uR, al_uR, zs_uR, ar_uR, true_and, and_true, Option.toList_some, Option.toList_none, List.cons_append, List.nil_append, catS_nil, catS_int, catS_ref, catS_null, catS_long, cat_int, cat_ref, cat_null, Nat.reduceEqDiff, Nat.reduceLeDiff, Nat.reduceAdd, false_and, and_false, if_false, if_true, ite_true, ite_false, true_or, or_true, false_or, or_false, and_self, forall_const, true_implies, reduceCtorEq, clr_int, clr_ref, clr_null, clr_none, clr_long, va_rf_some, va_rf_none, k0, k1, t3, t4, eq_false ne, false_and, and_false, if_false]
    rw [show (5 : Int32) = nI 5 from rfl, nI_eq (by omega) (by decide)]
    refine ⟨fun q => ?_, fun q => ?_⟩
    · exact hQ' w1 (by unfold h_wake; rw [if_neg q]; exact c1) Fr.rf
    · have h4 := hIK.2.2.2.2.2.2.2.2.2.2.2.1 v q
      rw [nI_pred' h4, show (0 : Int32) = nI 0 from rfl, nI_eq (by omega) (by decide)]
      have c2 : CAt (uF w1 395 (ub h v) (.int (nI ((K.2.2 v).1 4 - 1)))) h (hU K v (uS (K.2.2 v) 4 ((K.2.2 v).1 4 - 1))) s := c1.U hv8 FrU.rf.S4 u1.S4 (uS_ne (by decide))
      have f2 : Fr w1 (uF w1 395 (ub h v) (.int (nI ((K.2.2 v).1 4 - 1)))) h (h + 68) := Fr.rf.F (by unfold ub; omega) (by unfold ub; omega)
      refine ⟨fun q2 => ?_, fun q2 => ?_⟩
      · exact hQ' _ (by unfold h_wake; rw [if_pos q, if_neg q2]; exact c2) f2
      · refine sp_C_ready c2 hv8 ?_ (fun w2 e1 e2 => ?_)
        · show K.2.1.length < 8
          exact hIK.len' hv' (by omega)
        · simp only [↓s_23_50, kd_uF, ln_uF, ai_uF, al_uF, ar_uF, zs_uF, fd_uF, kd_uA, ln_uA, fd_uA, al_uA, ar_uA, zs_uA, ai_uA, kd_uL, ln_uL, fd_uL, ai_uL, ar_uL, zs_uL, al_uL, kd_uR, ln_uR, fd_uR, ai_uR, al_uR, zs_uR, ar_uR, true_and, and_true, Option.toList_some, Option.toList_none, List.cons_append, List.nil_append, catS_nil, catS_int, catS_ref, catS_null, catS_long, cat_int, cat_ref, cat_null, Nat.reduceEqDiff, Nat.reduceLeDiff, Nat.reduceAdd, false_and, and_false, if_false, if_true, ite_true, ite_false, true_or, or_true, false_or, or_false, and_self, forall_const, true_implies, reduceCtorEq, clr_int, clr_ref, clr_null, clr_none, clr_long, va_rf_some, va_rf_none]
          exact hQ' _ (by unfold h_wake; rw [if_pos q, if_pos q2]; exact e1) (f2.tr e2)
  simp only [↓s_23_0, ↓s_23_0n, ↓s_23_1, kd_uF, ln_uF, ai_uF, al_uF, ar_uF, zs_uF, fd_uF, kd_uA, ln_uA, fd_uA, al_uA, ar_uA, zs_uA, ai_uA, kd_uL, ln_uL, fd_uL, ai_uL, ar_uL, zs_uL, al_uL, kd_uR, ln_uR, fd_uR, ai_uR, al_uR, zs_uR, ar_uR, true_and, and_true, Option.toList_some, Option.toList_none, List.cons_append, List.nil_append, catS_nil, catS_int, catS_ref, catS_null, catS_long, cat_int, cat_ref, cat_null, Nat.reduceEqDiff, Nat.reduceLeDiff, Nat.reduceAdd, false_and, and_false, if_false, if_true, ite_true, ite_false, true_or, or_true, false_or, or_false, and_self, forall_const, true_implies, reduceCtorEq, clr_int, clr_ref, clr_null, clr_none, clr_long, va_rf_some, va_rf_none, ku]
  refine sp_U_print hUu hB hp (fun e => ?_) (fun c r w1 e u1 f1 => ?_)
  · simp only [↓s_23_4, ↓s_23_7, ↓s_23_7n, ↓s_23_8, ↓s_23_11, ↓s_23_12, ↓s_23_15, ↓s_23_16, ↓s_23_16n, ↓s_23_17, kd_uF, ln_uF, ai_uF, al_uF, ar_uF, zs_uF, fd_uF, kd_uA, ln_uA, fd_uA, al_uA, ar_uA, zs_uA, ai_uA, kd_uL, ln_uL, fd_uL, ai_uL, ar_uL, zs_uL, al_uL, kd_uR, ln_uR, fd_uR, ai_uR, al_uR, zs_uR, ar_uR, true_and, and_true, Option.toList_some, Option.toList_none, List.cons_append, List.nil_append, catS_nil, catS_int, catS_ref, catS_null, catS_long, cat_int, cat_ref, cat_null, Nat.reduceEqDiff, Nat.reduceLeDiff, Nat.reduceAdd, false_and, and_false, if_false, if_true, ite_true, ite_false, true_or, or_true, false_or, or_false, and_self, forall_const, true_implies, reduceCtorEq, clr_int, clr_ref, clr_null, clr_none, clr_long, va_rf_some, va_rf_none]
    refine ⟨j20 w H ?_ hC Fr.rf, fun q => absurd trivial q⟩
    unfold h_print; rw [e]
  · have c1 := hC.U hv8 f1 u1 (uS_ne (by decide))
    have fw : Fr w w1 h (h + 68) := f1.1.wide (by unfold ub; omega) (by unfold ub; omega)
    have k1 := u1.1
    have t3 : fd w1 394 (ub h v) = .int (nI ((H.2.2 v).1 3)) := u1.2.2.2.2.2.2.2.2.2.2.1
    have k0 := c1.1.1
    have b3 := hB.2.2.2.1
    simp only [↓s_23_4, ↓s_23_7, ↓s_23_7n, ↓s_23_8, ↓s_23_11, ↓s_23_12, ↓s_23_15, ↓s_23_16, ↓s_23_16n, ↓s_23_17, kd_uF, ln_uF, ai_uF, al_uF, ar_uF, zs_uF, fd_uF, kd_uA, ln_uA, fd_uA, al_uA, ar_uA, zs_uA, ai_uA, kd_uL, ln_uL, fd_uL, ai_uL, ar_uL, zs_uL, al_uL, kd_uR, ln_uR, fd_uR, ai_uR, al_uR, zs_uR, ar_uR, true_and, and_true, Option.toList_some, Option.toList_none, List.cons_append, List.nil_append, catS_nil, catS_int, catS_ref, catS_null, catS_long, cat_int, cat_ref, cat_null, Nat.reduceEqDiff, Nat.reduceLeDiff, Nat.reduceAdd, false_and, and_false, if_false, if_true, ite_true, ite_false, true_or, or_true, false_or, or_false, and_self, forall_const, true_implies, reduceCtorEq, clr_int, clr_ref, clr_null, clr_none, clr_long, va_rf_some, va_rf_none, k1, k0, t3]
    rw [show (4 : Int32) = nI 4 from rfl, nI_eq (by omega) (by decide)]
    refine ⟨fun q => absurd q (by decide), fun _ => ⟨fun q => j20 w1 _ ?_ c1 fw, fun q => ?_⟩⟩
    · unfold h_print; rw [e]; show _ = if _ then _ else _; rw [if_neg q]
    · refine sp_C_ready c1 hv8 ?_ (fun w2 e1 e2 => ?_)
      · show H.2.1.length < 8
        exact hI.len' hv (by omega)
      · refine j20 w2 _ ?_ e1 (fw.tr e2)
        unfold h_print; rw [e]; show _ = if _ then _ else _; rw [if_pos q]
theorem sp_C_quant {d : Nat} {w : aw} {h v s : Nat} {H : hs} {Q : wQ} (hC : CAt w h H s) (hI : HI H) (hv : H.1 6 = v + 1) (h7 : 1 ≤ H.1 7) (hQ : ∀ w', CAt w' h (h_quant H) s → Fr w w' h (h + 68) → Q none w') : wpD (d + 2) 24 [.ref h, .ref (ub h v)] w Q := by
  refine ⟨Nat.le_of_ble_eq_true rfl, ?_⟩
  show wp (d + 1) 24 Q 0 [some (.ref h), some (.ref (ub h v))] [] w 0 0
  have h8 := hI.1
  have h6 := hI.2.2.2.2.1
  have h7' := hI.2.2.2.2.2.1
  have hv8 : v < 8 := by omega
  have hUu := (hC.2.2.2.2.2 v hv8).1
  have ku := hUu.1
  have k0 := hC.1.1
  have tr : fd w 396 (ub h v) = .int (nI (H.1 7)) := by rw [(hC.2.2.2.2.2 v hv8).2, if_pos hv]
  simp only [↓s_24_0, ↓s_24_0n, ↓s_24_1, ↓s_24_2, ↓s_24_5, ↓s_24_6, ↓s_24_7, ↓s_24_10, ↓s_24_10n, ↓s_24_11, ↓s_24_14, ↓s_24_17, ↓s_24_18, ↓s_24_19, ↓s_24_19n, ↓s_24_22, ↓s_24_23, ↓s_24_23n, ↓s_24_24, ↓s_24_27, kd_uF, ln_uF, ai_uF, al_uF, ar_uF, zs_uF, fd_uF, kd_uA, ln_uA, fd_uA, al_uA, ar_uA, zs_uA, ai_uA, kd_uL, ln_uL, fd_uL, ai_uL, ar_uL, zs_uL, al_uL, kd_uR, ln_uR, fd_uR, ai_uR, al_uR, zs_uR, ar_uR, true_and, and_true, Option.toList_some, Option.toList_none, List.cons_append, List.nil_append, catS_nil, catS_int, catS_ref, catS_null, catS_long, cat_int, cat_ref, cat_null, Nat.reduceEqDiff, Nat.reduceLeDiff, Nat.reduceAdd, false_and, and_false, if_false, if_true, ite_true, ite_false, true_or, or_true, false_or, or_false, and_self, forall_const, true_implies, reduceCtorEq, clr_int, clr_ref, clr_null, clr_none, clr_long, va_rf_some, va_rf_none, ku, k0, tr]
  rw [nI_pred' h7, show (0 : Int32) = nI 0 from rfl, nI_eq (by omega) (by decide)]
  refine ⟨fun q => ?_, fun q => ?_⟩
  · refine hQ _ ?_ (Fr.rf.F (by unfold ub; omega) (by unfold ub; omega))
    unfold h_quant
    rw [if_neg (by omega), if_pos (by omega)]
    exact hC.S7 hv8 hv
  · have c2 := hC.S60 hv8 hv
    have e7 : H.1 7 - 1 = 0 := q
    rw [e7]
    have f2 : Fr w (uF (uF w 396 (ub h v) (.int 0)) 73 h .null) h (h + 68) := (Fr.rf.F (by unfold ub; omega) (by unfold ub; omega)).F (by omega) (by omega)
    have hst := hI.2.2.2.2.2.2.2.2.2.2.1 (by omega)
    rw [hv] at hst
    have hst' : (H.2.2 v).1 3 = 2 := hst
    refine sp_C_ready c2 hv8 ?_ (fun w2 e1 e2 => ?_)
    · show H.2.1.length < 8
      exact hI.len' (u := v) (by omega) (by omega)
    · simp only [↓s_24_27, kd_uF, ln_uF, ai_uF, al_uF, ar_uF, zs_uF, fd_uF, kd_uA, ln_uA, fd_uA, al_uA, ar_uA, zs_uA, ai_uA, kd_uL, ln_uL, fd_uL, ai_uL, ar_uL, zs_uL, al_uL, kd_uR, ln_uR, fd_uR, ai_uR, al_uR, zs_uR, ar_uR, true_and, and_true, Option.toList_some, Option.toList_none, List.cons_append, List.nil_append, catS_nil, catS_int, catS_ref, catS_null, catS_long, cat_int, cat_ref, cat_null, Nat.reduceEqDiff, Nat.reduceLeDiff, Nat.reduceAdd, false_and, and_false, if_false, if_true, ite_true, ite_false, true_or, or_true, false_or, or_false, and_self, forall_const, true_implies, reduceCtorEq, clr_int, clr_ref, clr_null, clr_none, clr_long, va_rf_some, va_rf_none]
      refine hQ w2 ?_ (f2.tr e2)
      unfold h_quant
      rw [if_neg (by omega), if_neg (by omega), hv]
      exact e1
theorem h_ticks_pm {H : hs} {n : Nat} (hP : ∀ v, (H.2.2 v).1 8 ≤ H.1 5) : ∀ v, ((h_ticks (hSet H 5 (H.1 5 + 1)) n).2.2 v).1 8 ≤ H.1 5 + 1 := by
  intro v
  have hP1 : PM (hSet H 5 (H.1 5 + 1)) 0 := fun v => by
    have := hP v
    rw [hSet_at, if_neg (by omega)]
    show (H.2.2 v).1 8 + 1 ≤ _
    omega
  have hP2 := hP1.ticks (k := n) v
  rw [h_ticks_1, hSet_at] at hP2
  omega
theorem sp_C_tick {d : Nat} {w : aw} {h s : Nat} {H : hs} {Q : wQ} (hC : CAt w h H s) (hI : HI H) (hP : ∀ v, (H.2.2 v).1 8 ≤ H.1 5) (h5 : H.1 5 < 2147483646) (hJ : H.1 6 ≠ 0 → 1 ≤ H.1 7) (hQ : ∀ w', CAt w' h (h_tick H) s → Fr w w' h (h + 68) → Q none w') : wpD (d + 5) 22 [.ref h] w Q := by
  refine ⟨Nat.le_of_ble_eq_true rfl, ?_⟩
  show wp (d + 4) 22 Q 0 [some (.ref h), none, none] [] w 0 0
  have h8 := hI.1
  have k0 := hC.1.1
  have n5 := hC.2.1.2.2.2.2.2.1
  have hC1 : CAt (uF w 76 h (.int (nI (H.1 5 + 1)))) h (hSet H 5 (H.1 5 + 1)) s := hC.S5
  have hI1 : HI (hSet H 5 (H.1 5 + 1)) := hI.set (by omega)
  have e0 : (hSet H 5 (H.1 5 + 1)).1 0 = H.1 0 := hSet_ne (by decide)
  have e6 : (hSet H 5 (H.1 5 + 1)).1 6 = H.1 6 := hSet_ne (by decide)
  have e7 : (hSet H 5 (H.1 5 + 1)).1 7 = H.1 7 := hSet_ne (by decide)
  have hPm := fun n => h_ticks_pm (n := n) hP
  have eT : h_tick H = h_quant (h_ticks (hSet H 5 (H.1 5 + 1)) (H.1 0)) := rfl
  have f1 : Fr w (uF w 76 h (.int (nI (H.1 5 + 1)))) h (h + 68) := Fr.rf.F (by omega) (by omega)
  have hv1 : ∀ k, (h_ticks (hSet H 5 (H.1 5 + 1)) k).1 = (hSet H 5 (H.1 5 + 1)).1 := fun k => h_ticks_1
  rw [eT] at hQ
  have lp : ∀ (n k : Nat), k + n = H.1 0 → ∀ (w1 : aw) (L : Option Value), CAt w1 h (h_ticks (hSet H 5 (H.1 5 + 1)) k) s → Fr w w1 h (h + 68) → wp (d + 4) 22 Q 12 [some (.ref h), some (.int (nI k)), L] [] w1 0 0 := by
    intro n
    induction n with
    | zero =>
      intro k hk w1 L c1 f1
      have e : k = H.1 0 := by omega
      subst e
      have k1 := c1.1.1
      have n0 : fd w1 65 h = .int (nI (H.1 0)) := by have := c1.2.1.1; rw [hv1, e0] at this; exact this
      have n6 : fd w1 73 h = cRun h (H.1 6) := by have := c1.2.1.2.2.2.2.2.2.1; rw [hv1, e6] at this; exact this
      have hIT : HI (h_ticks (hSet H 5 (H.1 5 + 1)) (H.1 0)) := hI1.ticks (by rw [e0]; exact Nat.le_refl _)
      rw [s_22_12]
      by_cases c6 : H.1 6 = 0
      · rw [c6, cRun_0] at n6
        have eq : h_quant (h_ticks (hSet H 5 (H.1 5 + 1)) (H.1 0)) = h_ticks (hSet H 5 (H.1 5 + 1)) (H.1 0) := by unfold h_quant; rw [hv1, e6, if_pos c6]
        rw [eq] at hQ
        simp only [↓s_22_13, ↓s_22_14, ↓s_22_17, ↓s_22_20, ↓s_22_21, ↓s_22_22, ↓s_22_41, ↓s_22_42, ↓s_22_45, ↓s_22_45n, ↓s_22_48, ↓s_22_49, ↓s_22_50, ↓s_22_53, ↓s_22_56, kd_uF, ln_uF, ai_uF, al_uF, ar_uF, zs_uF, fd_uF, kd_uA, ln_uA, fd_uA, al_uA, ar_uA, zs_uA, ai_uA, kd_uL, ln_uL, fd_uL, ai_uL, ar_uL, zs_uL, al_uL, kd_uR, ln_uR, fd_uR, ai_uR, al_uR, zs_uR, ar_uR, true_and, and_true, Option.toList_some, Option.toList_none, List.cons_append, List.nil_append, catS_nil, catS_int, catS_ref, catS_null, catS_long, cat_int, cat_ref, cat_null, Nat.reduceEqDiff, Nat.reduceLeDiff, Nat.reduceAdd, false_and, and_false, if_false, if_true, ite_true, ite_false, true_or, or_true, false_or, or_false, and_self, forall_const, true_implies, reduceCtorEq, clr_int, clr_ref, clr_null, clr_none, clr_long, va_rf_some, va_rf_none, k1, n0, n6]
        exact ⟨fun _ => hQ w1 c1 f1, fun q => absurd (nI_le (Nat.le_refl _) (by omega)) q⟩
      · rw [cRun_p c6] at n6
        simp only [↓s_22_13, ↓s_22_14, ↓s_22_17, ↓s_22_20, ↓s_22_21, ↓s_22_22, ↓s_22_41, ↓s_22_42, ↓s_22_45, ↓s_22_45n, ↓s_22_48, ↓s_22_49, ↓s_22_50, ↓s_22_53, ↓s_22_56, kd_uF, ln_uF, ai_uF, al_uF, ar_uF, zs_uF, fd_uF, kd_uA, ln_uA, fd_uA, al_uA, ar_uA, zs_uA, ai_uA, kd_uL, ln_uL, fd_uL, ai_uL, ar_uL, zs_uL, al_uL, kd_uR, ln_uR, fd_uR, ai_uR, al_uR, zs_uR, ar_uR, true_and, and_true, Option.toList_some, Option.toList_none, List.cons_append, List.nil_append, catS_nil, catS_int, catS_ref, catS_null, catS_long, cat_int, cat_ref, cat_null, Nat.reduceEqDiff, Nat.reduceLeDiff, Nat.reduceAdd, false_and, and_false, if_false, if_true, ite_true, ite_false, true_or, or_true, false_or, or_false, and_self, forall_const, true_implies, reduceCtorEq, clr_int, clr_ref, clr_null, clr_none, clr_long, va_rf_some, va_rf_none, k1, n0, n6]
        refine ⟨fun _ => sp_C_quant c1 hIT (by rw [hv1, e6]; omega) (by rw [hv1, e7]; exact hJ c6) (fun w2 e1 e2 => ?_), fun q => absurd (nI_le (Nat.le_refl _) (by omega)) q⟩
        simp only [↓s_22_56, kd_uF, ln_uF, ai_uF, al_uF, ar_uF, zs_uF, fd_uF, kd_uA, ln_uA, fd_uA, al_uA, ar_uA, zs_uA, ai_uA, kd_uL, ln_uL, fd_uL, ai_uL, ar_uL, zs_uL, al_uL, kd_uR, ln_uR, fd_uR, ai_uR, al_uR, zs_uR, ar_uR, true_and, and_true, Option.toList_some, Option.toList_none, List.cons_append, List.nil_append, catS_nil, catS_int, catS_ref, catS_null, catS_long, cat_int, cat_ref, cat_null, Nat.reduceEqDiff, Nat.reduceLeDiff, Nat.reduceAdd, false_and, and_false, if_false, if_true, ite_true, ite_false, true_or, or_true, false_or, or_false, and_self, forall_const, true_implies, reduceCtorEq, clr_int, clr_ref, clr_null, clr_none, clr_long, va_rf_some, va_rf_none]
        exact hQ w2 e1 (f1.tr e2)
    | succ n ih =>
      intro k hk w1 L c1 f1
      have k1 := c1.1.1
      have n0 : fd w1 65 h = .int (nI (H.1 0)) := by have := c1.2.1.1; rw [hv1, e0] at this; exact this
      have n0' : (h_ticks (hSet H 5 (H.1 5 + 1)) k).1 0 = H.1 0 := by rw [hv1, e0]
      rw [s_22_12]
      simp only [↓s_22_13, ↓s_22_14, ↓s_22_17, ↓s_22_20, ↓s_22_21, ↓s_22_22, kd_uF, ln_uF, ai_uF, al_uF, ar_uF, zs_uF, fd_uF, kd_uA, ln_uA, fd_uA, al_uA, ar_uA, zs_uA, ai_uA, kd_uL, ln_uL, fd_uL, ai_uL, ar_uL, zs_uL, al_uL, kd_uR, ln_uR, fd_uR, ai_uR, al_uR, zs_uR, ar_uR, true_and, and_true, Option.toList_some, Option.toList_none, List.cons_append, List.nil_append, catS_nil, catS_int, catS_ref, catS_null, catS_long, cat_int, cat_ref, cat_null, Nat.reduceEqDiff, Nat.reduceLeDiff, Nat.reduceAdd, false_and, and_false, if_false, if_true, ite_true, ite_false, true_or, or_true, false_or, or_false, and_self, forall_const, true_implies, reduceCtorEq, clr_int, clr_ref, clr_null, clr_none, clr_long, va_rf_some, va_rf_none, k1, n0]
      refine ⟨fun q => absurd q (nI_ge (by omega) (by omega)), fun _ => sp_C_userAt c1 (by omega) (fun j a1 a2 a3 => ?_) (fun a1 => ?_)⟩
      · have ej : j = k := by
          rw [n0', rg_nI (by omega) (by omega)] at a1
          cases a1; rfl
        subst ej
        simp only [↓s_22_25, ↓s_22_25n, ↓s_22_26, ↓s_22_26n, ↓s_22_27, ↓s_22_27n, ↓s_22_30, ↓s_22_31, ↓s_22_31n, ↓s_22_32, ↓s_22_35, ↓s_22_38, kd_uF, ln_uF, ai_uF, al_uF, ar_uF, zs_uF, fd_uF, kd_uA, ln_uA, fd_uA, al_uA, ar_uA, zs_uA, ai_uA, kd_uL, ln_uL, fd_uL, ai_uL, ar_uL, zs_uL, al_uL, kd_uR, ln_uR, fd_uR, ai_uR, al_uR, zs_uR, ar_uR, true_and, and_true, Option.toList_some, Option.toList_none, List.cons_append, List.nil_append, catS_nil, catS_int, catS_ref, catS_null, catS_long, cat_int, cat_ref, cat_null, Nat.reduceEqDiff, Nat.reduceLeDiff, Nat.reduceAdd, false_and, and_false, if_false, if_true, ite_true, ite_false, true_or, or_true, false_or, or_false, and_self, forall_const, true_implies, reduceCtorEq, clr_int, clr_ref, clr_null, clr_none, clr_long, va_rf_some, va_rf_none, k1]
        have hIk : HI (h_ticks (hSet H 5 (H.1 5 + 1)) j) := hI1.ticks (by rw [e0]; omega)
        refine sp_C_tickOf c1 hIk (by omega) (by have := hPm j j; omega) (fun w2 e1 e2 => ?_)
        simp only [↓s_22_35, ↓s_22_38, kd_uF, ln_uF, ai_uF, al_uF, ar_uF, zs_uF, fd_uF, kd_uA, ln_uA, fd_uA, al_uA, ar_uA, zs_uA, ai_uA, kd_uL, ln_uL, fd_uL, ai_uL, ar_uL, zs_uL, al_uL, kd_uR, ln_uR, fd_uR, ai_uR, al_uR, zs_uR, ar_uR, true_and, and_true, Option.toList_some, Option.toList_none, List.cons_append, List.nil_append, catS_nil, catS_int, catS_ref, catS_null, catS_long, cat_int, cat_ref, cat_null, Nat.reduceEqDiff, Nat.reduceLeDiff, Nat.reduceAdd, false_and, and_false, if_false, if_true, ite_true, ite_false, true_or, or_true, false_or, or_false, and_self, forall_const, true_implies, reduceCtorEq, clr_int, clr_ref, clr_null, clr_none, clr_long, va_rf_some, va_rf_none]
        rw [nI_1]
        exact ih (j + 1) (by omega) w2 _ e1 (f1.tr e2)
      · rw [n0', rg_nI (by omega) (by omega)] at a1
        cases a1
  simp only [↓s_22_0, ↓s_22_1, ↓s_22_2, ↓s_22_5, ↓s_22_6, ↓s_22_7, ↓s_22_10, ↓s_22_11, kd_uF, ln_uF, ai_uF, al_uF, ar_uF, zs_uF, fd_uF, kd_uA, ln_uA, fd_uA, al_uA, ar_uA, zs_uA, ai_uA, kd_uL, ln_uL, fd_uL, ai_uL, ar_uL, zs_uL, al_uL, kd_uR, ln_uR, fd_uR, ai_uR, al_uR, zs_uR, ar_uR, true_and, and_true, Option.toList_some, Option.toList_none, List.cons_append, List.nil_append, catS_nil, catS_int, catS_ref, catS_null, catS_long, cat_int, cat_ref, cat_null, Nat.reduceEqDiff, Nat.reduceLeDiff, Nat.reduceAdd, false_and, and_false, if_false, if_true, ite_true, ite_false, true_or, or_true, false_or, or_false, and_self, forall_const, true_implies, reduceCtorEq, clr_int, clr_ref, clr_null, clr_none, clr_long, va_rf_some, va_rf_none, k0, n5]
  rw [nI_1]
  exact lp (H.1 0) 0 (by omega) _ _ hC1 f1
theorem hSet_hSet {H : hs} {a b x y : Nat} (h : a ≠ b) : hSet (hSet H a x) b y = hSet (hSet H b y) a x := by
  unfold hSet
  have : va_up (va_up H.1 a x) b y = va_up (va_up H.1 b y) a x := by
    funext j; unfold va_up
    by_cases c : j = b
    · rw [if_pos c, if_neg (by omega), if_pos c]
    · rw [if_neg c]
      by_cases c2 : j = a
      · rw [if_pos c2, if_pos c2]
      · rw [if_neg c2, if_neg c2, if_neg c]
  show (_, _) = (_, _)
  rw [this]
theorem h_inst_4 {H : hs} {x : Nat} : h_inst (hSet H 4 x) = hSet (h_inst H) 4 x := by
  have e6 : (hSet H 4 x).1 6 = H.1 6 := hSet_ne (by decide)
  have e10 : (hSet H 4 x).1 10 = H.1 10 := hSet_ne (by decide)
  have eU : (hSet H 4 x).2.2 = H.2.2 := rfl
  unfold h_inst
  rw [e6, e10, eU]
  split
  · exact hSet_hSet (by decide)
  · split
    · rfl
    · have e : hU (hSet H 4 x) (H.1 6 - 1) (inst (H.1 6 - 1) (H.2.2 (H.1 6 - 1))) = hSet (hU H (H.1 6 - 1) (inst (H.1 6 - 1) (H.2.2 (H.1 6 - 1)))) 4 x := rfl
      rw [e, hSet_hSet (a := 4) (b := 6) (by decide), hSet_hSet (a := 4) (b := 7) (by decide)]
theorem sp_C_inst {d : Nat} {w : aw} {h v s : Nat} {H : hs} {Q : wQ} (hC : CAt w h H s) (hI : HI H) (hv : H.1 6 = v + 1) (hQ : ∀ w', CAt w' h (h_inst H) s → Fr w w' h (h + 68) → Q none w') : wpD (d + 6) 21 [.ref h, .ref (ub h v)] w Q := by
  refine ⟨Nat.le_of_ble_eq_true rfl, ?_⟩
  show wp (d + 5) 21 Q 0 [some (.ref h), some (.ref (ub h v))] [] w 0 0
  have h8 := hI.1
  have h6 := hI.2.2.2.2.1
  have hv8 : v < 8 := by omega
  have hUu := (hC.2.2.2.2.2 v hv8).1
  have ku := hUu.1
  have hB := hi_ub hI v
  have eI : h_inst H = if (inst v (H.2.2 v)).1 3 = 2 then hU H v (inst v (H.2.2 v)) else hSet (hSet (hU H v (inst v (H.2.2 v))) 6 0) 7 0 := by
    unfold h_inst; rw [if_neg (by omega), hv]; rfl
  rw [eI] at hQ
  simp only [↓s_21_0, ↓s_21_0n, ↓s_21_1, kd_uF, ln_uF, ai_uF, al_uF, ar_uF, zs_uF, fd_uF, kd_uA, ln_uA, fd_uA, al_uA, ar_uA, zs_uA, ai_uA, kd_uL, ln_uL, fd_uL, ai_uL, ar_uL, zs_uL, al_uL, kd_uR, ln_uR, fd_uR, ai_uR, al_uR, zs_uR, ar_uR, true_and, and_true, Option.toList_some, Option.toList_none, List.cons_append, List.nil_append, catS_nil, catS_int, catS_ref, catS_null, catS_long, cat_int, cat_ref, cat_null, Nat.reduceEqDiff, Nat.reduceLeDiff, Nat.reduceAdd, false_and, and_false, if_false, if_true, ite_true, ite_false, true_or, or_true, false_or, or_false, and_self, forall_const, true_implies, reduceCtorEq, clr_int, clr_ref, clr_null, clr_none, clr_long, va_rf_some, va_rf_none, ku]
  refine sp_U_inst hUu hB (fun w1 u1 f1 => ?_)
  have c1 := hC.U hv8 f1 u1 K7_inst
  have fw : Fr w w1 h (h + 68) := f1.1.wide (by unfold ub; omega) (by unfold ub; omega)
  have b3 := (UB_inst (n := v) hB hv8).2.2.2.1
  have k1 := u1.1
  have k0 := c1.1.1
  have t3 := u1.2.2.2.2.2.2.2.2.2.2.1
  generalize inst v (H.2.2 v) = x at *
  simp only [↓s_21_4, ↓s_21_4n, ↓s_21_5, ↓s_21_8, ↓s_21_9, ↓s_21_12, ↓s_21_12n, ↓s_21_13, ↓s_21_14, ↓s_21_17, ↓s_21_18, ↓s_21_19, ↓s_21_19n, ↓s_21_22, kd_uF, ln_uF, ai_uF, al_uF, ar_uF, zs_uF, fd_uF, kd_uA, ln_uA, fd_uA, al_uA, ar_uA, zs_uA, ai_uA, kd_uL, ln_uL, fd_uL, ai_uL, ar_uL, zs_uL, al_uL, kd_uR, ln_uR, fd_uR, ai_uR, al_uR, zs_uR, ar_uR, true_and, and_true, Option.toList_some, Option.toList_none, List.cons_append, List.nil_append, catS_nil, catS_int, catS_ref, catS_null, catS_long, cat_int, cat_ref, cat_null, Nat.reduceEqDiff, Nat.reduceLeDiff, Nat.reduceAdd, false_and, and_false, if_false, if_true, ite_true, ite_false, true_or, or_true, false_or, or_false, and_self, forall_const, true_implies, reduceCtorEq, clr_int, clr_ref, clr_null, clr_none, clr_long, va_rf_some, va_rf_none, k1, k0, t3]
  rw [show (2 : Int32) = nI 2 from rfl, nI_eq (by omega) (by decide)]
  refine ⟨fun q => ?_, fun q => ?_⟩
  · rw [if_pos q] at hQ
    exact hQ w1 c1 fw
  · rw [if_neg q] at hQ
    exact hQ _ (c1.S60 hv8 hv) ((fw.F (by unfold ub; omega) (by unfold ub; omega)).F (by omega) (by omega))
def HJ (H : hs) : Prop := H.1 6 ≠ 0 → 1 ≤ H.1 7
theorem HJ.inst {H : hs} (h : HJ H) : HJ (h_inst H) := by
  unfold HJ h_inst
  split
  · rw [hSet_ne (by decide), hSet_ne (by decide)]; exact h
  · split
    · exact h
    · rw [hSet_ne (by decide), hSet_at]; intro q; exact absurd rfl q
theorem HJ.quant {H : hs} : HJ (h_quant H) ∨ H.1 6 = 0 := by
  by_cases c : H.1 6 = 0
  · exact Or.inr c
  · refine Or.inl ?_
    unfold HJ h_quant
    rw [if_neg c]
    split
    · rename_i q
      rw [hSet_at]; intro _; omega
    · rw [h_ready_1, hSet_ne (by decide), hSet_at]; intro q; exact absurd rfl q
theorem HJ.tick {H : hs} (h : HJ H) : HJ (h_tick H) := by
  show HJ (h_quant (h_ticks (hSet H 5 (H.1 5 + 1)) (H.1 0)))
  rcases HJ.quant (H := h_ticks (hSet H 5 (H.1 5 + 1)) (H.1 0)) with q | q
  · exact q
  · have e : h_quant (h_ticks (hSet H 5 (H.1 5 + 1)) (H.1 0)) = h_ticks (hSet H 5 (H.1 5 + 1)) (H.1 0) := by unfold h_quant; rw [if_pos q]
    rw [e]
    intro q2; exact absurd q q2
theorem HJ.disp {H : hs} (h : HJ H) (hI : HI H) : HJ (h_disp H) := by
  unfold h_disp
  split
  · exact h
  · split
    · exact h
    · rename_i u r e
      have h0 := (hI.2.2.2.2.2.2.2.2.2.1 u (by rw [e]; exact List.mem_cons_self)).1
      have h2 := (hI.2.2.2.2.2.2.2.1.2 (by omega)).2.2.2.1
      have k : (hU (hSet (hSet (hRow H r) 6 (u + 1)) 7 (H.1 2)) u (uS (H.2.2 u) 3 2)).1 7 = H.1 2 := by
        show (hSet (hSet (hRow H r) 6 (u + 1)) 7 (H.1 2)).1 7 = H.1 2
        exact hSet_at
      split
      · intro _; rw [k]; exact h2
      · intro _
        unfold h_swap
        rw [hSet_ne (by decide), hSet_ne (by decide)]
        rw [k]; exact h2
theorem HJ.step {H : hs} (h : HJ H) (hI : HI H) : HJ (h_step H) := by
  unfold h_step
  have a : HJ (h_inst (hSet H 4 (H.1 4 + 1))) := HJ.inst (by unfold HJ; rw [hSet_ne (by decide), hSet_ne (by decide)]; exact h)
  have b : HI (h_inst (hSet H 4 (H.1 4 + 1))) := (hI.set (by omega)).insta
  generalize h_inst (hSet H 4 (H.1 4 + 1)) = K at *
  have c : HJ (h_beat K) ∧ HI (h_beat K) := by
    unfold h_beat; split
    · exact ⟨a.tick, b.tick⟩
    · exact ⟨a, b⟩
  exact c.1.disp c.2
theorem HJ.steps {H : hs} {n : Nat} (h : HJ H) (hX : HX H) : HJ (h_steps H n) := by
  induction n with
  | zero => exact h
  | succ n ih => exact ih.step hX.steps.1
theorem sp_C_step {d : Nat} {w : aw} {h : Nat} {H : hs} {Q : wQ} (hC : CAt w h H (H.1 4 % H.1 3)) (hX : HX H) (hJ : HJ H) (h0 : H.1 0 ≠ 0) (hS : H.1 4 < 2147483645) (hQ : ∀ w', CAt w' h (h_step H) ((h_step H).1 4 % (h_step H).1 3) → Fr w w' h (h + 68) → Q (some (.int (if H.1 6 = 0 then 0 else 1))) w') : wpD (d + 7) 20 [.ref h] w Q := by
  refine ⟨Nat.le_of_ble_eq_true rfl, ?_⟩
  show wp (d + 6) 20 Q 0 [some (.ref h), none] [] w 0 0
  obtain ⟨hI, hP, hT⟩ := hX
  have hX : HX H := ⟨hI, hP, hT⟩
  have hb := (hI.2.2.2.2.2.2.2.1.2 h0).2.2.2.2
  have h3 := hI.2.2.2.1
  have k0 := hC.1.1
  have n6 := hC.2.1.2.2.2.2.2.2.1
  have n10 := hC.2.1.2.2.2.2.2.2.2.2.2
  have hs0 := Nat.mod_lt (H.1 4) (show 0 < H.1 3 by omega)
  rw [h_step_4, h_step_0 (by omega)] at hQ
  -- behind the instruction
  have j38 : ∀ w1 (y : Int32), y = (if H.1 6 = 0 then 0 else 1) → CAt w1 h (h_inst H) (H.1 4 % H.1 3) → Fr w w1 h (h + 68) → wp (d + 6) 20 Q 38 [some (.ref h), some (.int y)] [] w1 0 0 := by
    intro w1 y hy c1 f1
    subst hy
    have i4 : (h_inst H).1 4 = H.1 4 := h_inst_0 (by omega)
    have i3 : (h_inst H).1 3 = H.1 3 := h_inst_0 (by omega)
    have k1 := c1.1.1
    have m4 : fd w1 74 h = .int (nI (H.1 4)) := by have := c1.2.1.2.2.2.2.1; rw [i4] at this; exact this
    have m3 : fd w1 68 h = .int (nI (H.1 3)) := by have := c1.2.1.2.2.2.1; rw [i3] at this; exact this
    have mb := c1.2.2.1
    have c2 : CAt (uF w1 74 h (.int (nI (H.1 4 + 1)))) h (h_inst (hSet H 4 (H.1 4 + 1))) (H.1 4 % H.1 3) := by rw [h_inst_4]; exact c1.S4
    have f2 : Fr w (uF w1 74 h (.int (nI (H.1 4 + 1)))) h (h + 68) := f1.F (by omega) (by omega)
    have j78 : ∀ w2 K, CAt w2 h K ((H.1 4 + 1) % H.1 3) → HI K → h_disp K = h_step H → Fr w w2 h (h + 68) → wp (d + 6) 20 Q 78 [some (.ref h), some (.int (if H.1 6 = 0 then 0 else 1))] [] w2 0 0 := by
      intro w2 K e1 e2 e3 e4
      have k2 := e1.1.1
      simp only [↓s_20_78, ↓s_20_79, kd_uF, ln_uF, ai_uF, al_uF, ar_uF, zs_uF, fd_uF, kd_uA, ln_uA, fd_uA, al_uA, ar_uA, zs_uA, ai_uA, kd_uL, ln_uL, fd_uL, ai_uL, ar_uL, zs_uL, al_uL, kd_uR, ln_uR, fd_uR, ai_uR, al_uR, zs_uR, ar_uR, true_and, and_true, Option.toList_some, Option.toList_none, List.cons_append, List.nil_append, catS_nil, catS_int, catS_ref, catS_null, catS_long, cat_int, cat_ref, cat_null, Nat.reduceEqDiff, Nat.reduceLeDiff, Nat.reduceAdd, false_and, and_false, if_false, if_true, ite_true, ite_false, true_or, or_true, false_or, or_false, and_self, forall_const, true_implies, reduceCtorEq, clr_int, clr_ref, clr_null, clr_none, clr_long, va_rf_some, va_rf_none, k2]
      refine sp_C_choose e1 e2 (fun w3 g1 g2 => ?_)
      simp only [↓s_20_82, ↓s_20_83, kd_uF, ln_uF, ai_uF, al_uF, ar_uF, zs_uF, fd_uF, kd_uA, ln_uA, fd_uA, al_uA, ar_uA, zs_uA, ai_uA, kd_uL, ln_uL, fd_uL, ai_uL, ar_uL, zs_uL, al_uL, kd_uR, ln_uR, fd_uR, ai_uR, al_uR, zs_uR, ar_uR, true_and, and_true, Option.toList_some, Option.toList_none, List.cons_append, List.nil_append, catS_nil, catS_int, catS_ref, catS_null, catS_long, cat_int, cat_ref, cat_null, Nat.reduceEqDiff, Nat.reduceLeDiff, Nat.reduceAdd, false_and, and_false, if_false, if_true, ite_true, ite_false, true_or, or_true, false_or, or_false, and_self, forall_const, true_implies, reduceCtorEq, clr_int, clr_ref, clr_null, clr_none, clr_long, va_rf_some, va_rf_none]
      refine ⟨by split <;> rfl, hQ w3 (by rw [← e3]; exact g1) (e4.tr g2)⟩
    have hI2 : HI (h_inst (hSet H 4 (H.1 4 + 1))) := (hI.set (by omega)).insta
    simp only [↓s_20_38, ↓s_20_39, ↓s_20_40, ↓s_20_43, ↓s_20_44, ↓s_20_45, ↓s_20_48, ↓s_20_49, ↓s_20_50, ↓s_20_53, ↓s_20_54, ↓s_20_55, ↓s_20_58, ↓s_20_59, ↓s_20_62, ↓s_20_63, ↓s_20_66, ↓s_20_69, ↓s_20_70, ↓s_20_71, ↓s_20_74, ↓s_20_75, kd_uF, ln_uF, ai_uF, al_uF, ar_uF, zs_uF, fd_uF, kd_uA, ln_uA, fd_uA, al_uA, ar_uA, zs_uA, ai_uA, kd_uL, ln_uL, fd_uL, ai_uL, ar_uL, zs_uL, al_uL, kd_uR, ln_uR, fd_uR, ai_uR, al_uR, zs_uR, ar_uR, true_and, and_true, Option.toList_some, Option.toList_none, List.cons_append, List.nil_append, catS_nil, catS_int, catS_ref, catS_null, catS_long, cat_int, cat_ref, cat_null, Nat.reduceEqDiff, Nat.reduceLeDiff, Nat.reduceAdd, false_and, and_false, if_false, if_true, ite_true, ite_false, true_or, or_true, false_or, or_false, and_self, forall_const, true_implies, reduceCtorEq, clr_int, clr_ref, clr_null, clr_none, clr_long, va_rf_some, va_rf_none, k1, m4, m3, mb]
    rw [nI_1, nI_1, nI_ltI (by omega) (by omega)]
    have q4 : (h_inst (hSet H 4 (H.1 4 + 1))).1 4 = H.1 4 + 1 := by rw [h_inst_0 (by omega), hSet_at]
    have q3 : (h_inst (hSet H 4 (H.1 4 + 1))).1 3 = H.1 3 := by rw [h_inst_0 (by omega), hSet_ne (by decide)]
    have q5 : (h_inst (hSet H 4 (H.1 4 + 1))).1 5 = H.1 5 := by rw [h_inst_0 (by omega), hSet_ne (by decide)]
    have hmod : (H.1 4 + 1) % H.1 3 = if H.1 4 % H.1 3 + 1 < H.1 3 then H.1 4 % H.1 3 + 1 else 0 := by
      have e := Nat.div_add_mod (H.1 4) (H.1 3)
      split
      · rename_i c
        rw [show H.1 4 + 1 = (H.1 4 % H.1 3 + 1) + H.1 3 * (H.1 4 / H.1 3) by omega, Nat.add_mul_mod_self_left, Nat.mod_eq_of_lt c]
      · rename_i c
        have e2 : H.1 4 + 1 = 0 + H.1 3 * (H.1 4 / H.1 3 + 1) := by rw [Nat.mul_add, Nat.mul_one]; omega
        rw [e2, Nat.add_mul_mod_self_left, Nat.zero_mod]
    refine ⟨fun q => ?_, fun q => ?_⟩
    · rw [if_pos q] at hmod
      refine j78 _ _ ?_ hI2 ?_ ?_
      · rw [hmod]; exact c2.B
      · show _ = h_disp (h_beat _)
        unfold h_beat
        rw [q4, q3, hmod, if_neg (by omega)]
      · exact f2.F (by omega) (by omega)
    · rw [if_neg q] at hmod
      have c3 := (c2.B (v := H.1 4 % H.1 3 + 1)).B (v := 0)
      have hJ2 : HJ (h_inst (hSet H 4 (H.1 4 + 1))) := HJ.inst (by unfold HJ; rw [hSet_ne (by decide), hSet_ne (by decide)]; exact hJ)
      refine sp_C_tick c3 hI2 (fun v => by rw [h_inst_pm, q5]; exact hP v) (by omega) hJ2 (fun w2 e1 e2 => ?_)
      refine j78 w2 _ (by rw [hmod]; exact e1) hI2.tick ?_ (((f2.F (by omega) (by omega)).F (by omega) (by omega)).tr e2)
      show _ = h_disp (h_beat _)
      unfold h_beat
      rw [q4, q3, hmod, if_pos rfl]
  by_cases c6 : H.1 6 = 0
  · rw [c6, cRun_0] at n6
    simp only [↓s_20_0, ↓s_20_1, ↓s_20_4, ↓s_20_4n, ↓s_20_7, ↓s_20_8, ↓s_20_11, ↓s_20_12, ↓s_20_13, ↓s_20_14, ↓s_20_17, ↓s_20_18, ↓s_20_19, ↓s_20_22, ↓s_20_28, ↓s_20_29, ↓s_20_30, ↓s_20_33, ↓s_20_34, ↓s_20_35, kd_uF, ln_uF, ai_uF, al_uF, ar_uF, zs_uF, fd_uF, kd_uA, ln_uA, fd_uA, al_uA, ar_uA, zs_uA, ai_uA, kd_uL, ln_uL, fd_uL, ai_uL, ar_uL, zs_uL, al_uL, kd_uR, ln_uR, fd_uR, ai_uR, al_uR, zs_uR, ar_uR, true_and, and_true, Option.toList_some, Option.toList_none, List.cons_append, List.nil_append, catS_nil, catS_int, catS_ref, catS_null, catS_long, cat_int, cat_ref, cat_null, Nat.reduceEqDiff, Nat.reduceLeDiff, Nat.reduceAdd, false_and, and_false, if_false, if_true, ite_true, ite_false, true_or, or_true, false_or, or_false, and_self, forall_const, true_implies, reduceCtorEq, clr_int, clr_ref, clr_null, clr_none, clr_long, va_rf_some, va_rf_none, k0, n6, n10]
    rw [nI_1]
    refine ⟨?_, fun q => absurd trivial q⟩
    refine j38 _ _ (by rw [if_pos c6]) ?_ ?_
    · unfold h_inst; rw [if_pos c6]; exact hC.S10
    · exact Fr.rf.F (by omega) (by omega)
  · obtain ⟨v, hv⟩ : ∃ v, H.1 6 = v + 1 := ⟨H.1 6 - 1, by omega⟩
    rw [hv, cRun_s] at n6
    simp only [↓s_20_0, ↓s_20_1, ↓s_20_4, ↓s_20_4n, ↓s_20_7, ↓s_20_8, ↓s_20_11, ↓s_20_12, ↓s_20_13, ↓s_20_14, ↓s_20_17, ↓s_20_18, ↓s_20_19, ↓s_20_22, ↓s_20_28, ↓s_20_29, ↓s_20_30, ↓s_20_33, ↓s_20_34, ↓s_20_35, kd_uF, ln_uF, ai_uF, al_uF, ar_uF, zs_uF, fd_uF, kd_uA, ln_uA, fd_uA, al_uA, ar_uA, zs_uA, ai_uA, kd_uL, ln_uL, fd_uL, ai_uL, ar_uL, zs_uL, al_uL, kd_uR, ln_uR, fd_uR, ai_uR, al_uR, zs_uR, ar_uR, true_and, and_true, Option.toList_some, Option.toList_none, List.cons_append, List.nil_append, catS_nil, catS_int, catS_ref, catS_null, catS_long, cat_int, cat_ref, cat_null, Nat.reduceEqDiff, Nat.reduceLeDiff, Nat.reduceAdd, false_and, and_false, if_false, if_true, ite_true, ite_false, true_or, or_true, false_or, or_false, and_self, forall_const, true_implies, reduceCtorEq, clr_int, clr_ref, clr_null, clr_none, clr_long, va_rf_some, va_rf_none, k0, n6]
    refine ⟨fun q => absurd q (by decide), fun _ => sp_C_inst hC hI hv (fun w1 e1 e2 => ?_)⟩
    simp only [↓s_20_25, kd_uF, ln_uF, ai_uF, al_uF, ar_uF, zs_uF, fd_uF, kd_uA, ln_uA, fd_uA, al_uA, ar_uA, zs_uA, ai_uA, kd_uL, ln_uL, fd_uL, ai_uL, ar_uL, zs_uL, al_uL, kd_uR, ln_uR, fd_uR, ai_uR, al_uR, zs_uR, ar_uR, true_and, and_true, Option.toList_some, Option.toList_none, List.cons_append, List.nil_append, catS_nil, catS_int, catS_ref, catS_null, catS_long, cat_int, cat_ref, cat_null, Nat.reduceEqDiff, Nat.reduceLeDiff, Nat.reduceAdd, false_and, and_false, if_false, if_true, ite_true, ite_false, true_or, or_true, false_or, or_false, and_self, forall_const, true_implies, reduceCtorEq, clr_int, clr_ref, clr_null, clr_none, clr_long, va_rf_some, va_rf_none]
    exact j38 w1 _ (by rw [if_neg c6]) e1 e2
