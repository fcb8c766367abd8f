theorem rn_eq0 : rn 0 = -1 := rfl
theorem rn_pos {k : Nat} (h : k ≠ 0) : rn k = nI (k - 1) := by unfold rn; rw [if_neg h]
theorem FrV.house {w w' : aw} {m u : Nat} {K : hs} {x : us} (h : FrV w w' m u) (hA : RAt w m K) (hB : ∀ v, UB (K.2.2 v)) (hx : RU w' m u x) (h1 : fd w' 521 m = .int (-1)) (h2 : fd w' 522 m = .int 0) : RAt w' m (hSet (hSet (hU K u x) 6 0) 7 0) := by
  obtain ⟨sh, q0, q1, q2, q3, q4, q5, q6, q7, q8, q9, q10, qm, qr, qu⟩ := hA
  have hf := h.2.1
  refine ⟨h.sh sh, (hf _ (by decide) (by decide)).trans q0, (hf _ (by decide) (by decide)).trans q1, (hf _ (by decide) (by decide)).trans q2, (hf _ (by decide) (by decide)).trans q3, (hf _ (by decide) (by decide)).trans q4, (hf _ (by decide) (by decide)).trans q5, h1, h2, (hf _ (by decide) (by decide)).trans q8, (hf _ (by decide) (by decide)).trans q9, (hf _ (by decide) (by decide)).trans q10, (hf _ (by decide) (by decide)).trans qm, fun i hi => (h.2.2.1 1 i (Or.inl rfl)).trans (qr i hi), fun v hv => ?_⟩
  show RU w' m v (va_up K.2.2 u x v)
  unfold va_up
  split
  · rename_i e; rw [e]; exact hx
  · rename_i e; exact h.other e (hB v) (qu v hv)
theorem sp_R_tick {d : Nat} {w : aw} {m : Nat} {H : hs} {Q : wQ} (hA : RAt w m H) (hH : HI H) (hP : ∀ v, (H.2.2 v).1 8 ≤ H.1 5) (hT : H.1 5 < 2147483646) (h : ∀ w', RAt w' m (h_tick H) → FrM w w' m → Q none w') : wpD (d + 2) 120 [.ref m] w Q := by
  refine ⟨Nat.le_of_ble_eq_true rfl, ?_⟩
  show wp (d + 1) 120 Q 0 [some (.ref m), none] [] w 0 0
  have hA1 : RAt (uF w 517 m (.int (nI (H.1 5 + 1)))) m (hSet H 5 (H.1 5 + 1)) := hA.S5
  have hH1 : HI (hSet H 5 (H.1 5 + 1)) := hH.set (by omega)
  have hP1 : PM (hSet H 5 (H.1 5 + 1)) 0 := fun v => by
    have := hP v
    rw [hSet_at, if_neg (by omega)]
    show (H.2.2 v).1 8 + 1 ≤ _
    omega
  have hT1 : (hSet H 5 (H.1 5 + 1)).1 5 < 2147483647 := by rw [hSet_at]; omega
  have hF1 : FrM w (uF w 517 m (.int (nI (H.1 5 + 1)))) m := FrM.rf.ticks
  have h8 := hH.1
  have e8 : (hSet H 5 (H.1 5 + 1)).1 0 = H.1 0 := hSet_ne (by decide)
  have hg : ∀ w', RAt w' m (h_quant (h_ticks (hSet H 5 (H.1 5 + 1)) (H.1 0))) → FrM w w' m → Q none w' := h
  obtain ⟨sh, q0, q1, q2, q3, q4, q5, q6, q7, q8, q9, q10, qm, qr, qu⟩ := hA
  obtain ⟨rk, r1, r2, r3, r4, r5, r6, r7, r8, r9, r10, r11, r12, r13, r14, r15, r16, r17, r18, r19, r20, r21, r22, r23, r24, k1, k2, k3, k4, k5, k6, k7, k8, k9, k10, k11, k12, k13, k14, k15, k16, k17, k18, k19, k20, k21, k22, k23, k24, n1, n2, n3, n4, n5, n6, n7, n8, n9, n10, n11, n12, n13, n14, n15, n16, n17, n18, n19, n20, n21, n22, n23, n24⟩ := sh
  simp only [↓s_120_0, ↓s_120_1, ↓s_120_2, ↓s_120_5, ↓s_120_6, ↓s_120_7, ↓s_120_10, ↓s_120_11, kd_uF, ln_uF, ai_uF, al_uF, ar_uF, zs_uF, fd_uF, kd_uA, ln_uA, fd_uA, al_uA, ar_uA, zs_uA, ai_uA, kd_uL, ln_uL, fd_uL, ai_uL, ar_uL, zs_uL, al_uL, kd_uR, ln_uR, fd_uR, ai_uR, al_uR, zs_uR, ar_uR, true_and, and_true, Option.toList_some, Option.toList_none, List.cons_append, List.nil_append, catS_nil, catS_int, catS_ref, catS_null, catS_long, cat_int, cat_ref, cat_null, Nat.reduceEqDiff, Nat.reduceLeDiff, Nat.reduceAdd, false_and, and_false, if_false, if_true, ite_true, ite_false, true_or, or_true, false_or, or_false, and_self, forall_const, true_implies, reduceCtorEq, clr_int, clr_ref, clr_null, clr_none, clr_long, va_rf_some, va_rf_none, rk, q5]
  rw [nI_1]
  clear rk r1 r2 r3 r4 r5 r6 r7 r8 r9 r10 r11 r12 r13 r14 r15 r16 r17 r18 r19 r20 r21 r22 r23 r24 k1 k2 k3 k4 k5 k6 k7 k8 k9 k10 k11 k12 k13 k14 k15 k16 k17 k18 k19 k20 k21 k22 k23 k24 n1 n2 n3 n4 n5 n6 n7 n8 n9 n10 n11 n12 n13 n14 n15 n16 n17 n18 n19 n20 n21 n22 n23 n24
  clear q0 q1 q2 q3 q4 q5 q6 q7 q8 q9 q10 qm qr qu
  generalize uF w 517 m (.int (nI (H.1 5 + 1))) = w1 at *
  generalize hSet H 5 (H.1 5 + 1) = K at *
  have lp : ∀ (k i : Nat), i + k = H.1 0 → ∀ w', RAt w' m (h_ticks K i) → FrM w w' m → wp (d + 1) 120 Q 12 [some (.ref m), some (.int (nI i))] [] w' 0 0 := by
    intro k
    induction k with
    | zero =>
      intro i hi w' hA' hF
      have hi : i = H.1 0 := by omega
      subst hi
      have hK := hH1.ticks (n := H.1 0) (by omega)
      have hKr := hK.2.2.2.2.1
      have hK6 := hK.2.2.2.2.2.2.2.2.2.2.1
      have hK7 := hK.2.2.2.2.2.1
      have hKB := hK.2.2.2.2.2.2.2.2.2.2.2.2
      have hK0 := hK.1
      have e0 : (h_ticks K (H.1 0)).1 0 = H.1 0 := by rw [h_ticks_1, e8]
      clear h
      generalize h_ticks K (H.1 0) = J at *
      have hA0 := hA'
      obtain ⟨sh, q0, q1, q2, q3, q4, q5, q6, q7, q8, q9, q10, qm, qr, qu⟩ := hA'
      have sh0 := sh
      obtain ⟨rk, r1, r2, r3, r4, r5, r6, r7, r8, r9, r10, r11, r12, r13, r14, r15, r16, r17, r18, r19, r20, r21, r22, r23, r24, k1, k2, k3, k4, k5, k6, k7, k8, k9, k10, k11, k12, k13, k14, k15, k16, k17, k18, k19, k20, k21, k22, k23, k24, n1, n2, n3, n4, n5, n6, n7, n8, n9, n10, n11, n12, n13, n14, n15, n16, n17, n18, n19, n20, n21, n22, n23, n24⟩ := sh
      rw [s_120_12]
      simp only [↓s_120_13, ↓s_120_14, ↓s_120_17, ↓s_120_20, ↓s_120_21, ↓s_120_24, ↓s_120_25, ↓s_120_26, ↓s_120_29, ↓s_120_30, ↓s_120_33, ↓s_120_36, ↓s_120_37, ↓s_120_38, ↓s_120_39, ↓s_120_42, ↓s_120_43, ↓s_120_44, ↓s_120_47, ↓s_120_48, ↓s_120_49, ↓s_120_50, ↓s_120_53, ↓s_120_54, ↓s_120_57, ↓s_120_58, ↓s_120_127, ↓s_120_128, ↓s_120_131, ↓s_120_134, ↓s_120_135, ↓s_120_136, ↓s_120_137, ↓s_120_140, ↓s_120_141, ↓s_120_142, ↓s_120_145, ↓s_120_146, ↓s_120_149, ↓s_120_152, ↓s_120_153, ↓s_120_154, ↓s_120_157, ↓s_120_158, ↓s_120_159, ↓s_120_160, ↓s_120_161, ↓s_120_164, ↓s_120_165, ↓s_120_166, kd_uF, ln_uF, ai_uF, al_uF, ar_uF, zs_uF, fd_uF, kd_uA, ln_uA, fd_uA, al_uA, ar_uA, zs_uA, ai_uA, kd_uL, ln_uL, fd_uL, ai_uL, ar_uL, zs_uL, al_uL, kd_uR, ln_uR, fd_uR, ai_uR, al_uR, zs_uR, ar_uR, true_and, and_true, Option.toList_some, Option.toList_none, List.cons_append, List.nil_append, catS_nil, catS_int, catS_ref, catS_null, catS_long, cat_int, cat_ref, cat_null, Nat.reduceEqDiff, Nat.reduceLeDiff, Nat.reduceAdd, false_and, and_false, if_false, if_true, ite_true, ite_false, true_or, or_true, false_or, or_false, and_self, forall_const, true_implies, reduceCtorEq, clr_int, clr_ref, clr_null, clr_none, clr_long, va_rf_some, va_rf_none, rk, q0, q6, q7, e0]
      refine ⟨fun _ => ?_, fun q => absurd (nI_le (Nat.le_refl _) (by omega)) q⟩
      rw [rn_ge _ (by omega)]
      have hz : nI (J.1 7) - 1 ≤ 0 ↔ J.1 7 - 1 = 0 := by
        by_cases c : J.1 7 = 0
        · rw [c]; decide
        · rw [nI_pred' (by omega), show (0 : Int32) = nI 0 from rfl, nI_leI (by omega) (by decide)]; omega
      rw [hz]
      refine ⟨fun q => ⟨fun q2 => ?_, fun q2 => ?_⟩, fun q => ?_⟩
      · rw [rn_pos q]
        have e6 : fd (uF w' 522 m (.int (nI (J.1 7) - 1))) 521 m = .int (rn (J.1 6)) := q6
        have hUx : RU (uF w' 522 m (.int (nI (J.1 7) - 1))) m (J.1 6 - 1) (J.2.2 (J.1 6 - 1)) := qu (J.1 6 - 1) (by omega)
        refine sp_R_leave (how := 1) sh0 hUx (by omega) (fun w2 g1 g2 g3 g4 => ?_)
        have hFx : FrV w' w2 m (J.1 6 - 1) := (FrV.rf.fld (Or.inr rfl)).tr g2
        have hA2 := hFx.house hA0 hKB g1 g3 g4
        refine ⟨hA2.1.1, by simp only [kd_uF, ln_uF, ai_uF, al_uF, ar_uF, zs_uF, fd_uF, kd_uA, ln_uA, fd_uA, al_uA, ar_uA, zs_uA, ai_uA, kd_uL, ln_uL, fd_uL, ai_uL, ar_uL, zs_uL, al_uL, kd_uR, ln_uR, fd_uR, ai_uR, al_uR, zs_uR, ar_uR, true_and, and_true, Option.toList_some, Option.toList_none, List.cons_append, List.nil_append, catS_nil, catS_int, catS_ref, catS_null, catS_long, cat_int, cat_ref, cat_null, Nat.reduceEqDiff, Nat.reduceLeDiff, Nat.reduceAdd, false_and, and_false, if_false, if_true, ite_true, ite_false, true_or, or_true, false_or, or_false, and_self, forall_const, true_implies, reduceCtorEq, clr_int, clr_ref, clr_null, clr_none, clr_long, va_rf_some, va_rf_none], ?_⟩
        have hl := hK.len' (u := J.1 6 - 1) (by omega) (by rw [hK6 q]; decide)
        refine sp_R_ready hA2 (UB_hU hKB ((hKB _).S3 (by decide))) (by omega) hl (fun w3 g5 g6 => ?_)
        simp only [↓s_120_169, kd_uF, ln_uF, ai_uF, al_uF, ar_uF, zs_uF, fd_uF, kd_uA, ln_uA, fd_uA, al_uA, ar_uA, zs_uA, ai_uA, kd_uL, ln_uL, fd_uL, ai_uL, ar_uL, zs_uL, al_uL, kd_uR, ln_uR, fd_uR, ai_uR, al_uR, zs_uR, ar_uR, true_and, and_true, Option.toList_some, Option.toList_none, List.cons_append, List.nil_append, catS_nil, catS_int, catS_ref, catS_null, catS_long, cat_int, cat_ref, cat_null, Nat.reduceEqDiff, Nat.reduceLeDiff, Nat.reduceAdd, false_and, and_false, if_false, if_true, ite_true, ite_false, true_or, or_true, false_or, or_false, and_self, forall_const, true_implies, reduceCtorEq, clr_int, clr_ref, clr_null, clr_none, clr_long, va_rf_some, va_rf_none]
        refine hg w3 ?_ ((hF.tr hFx.M).tr g6)
        unfold h_quant
        rw [if_neg q, if_neg (by omega)]
        have e7 : h_ready (hSet (hSet (hU J (J.1 6 - 1) (uS (J.2.2 (J.1 6 - 1)) 3 1)) 6 0) 7 0) (J.1 6 - 1) = h_ready (hSet (hSet J 6 0) 7 0) (J.1 6 - 1) := by
          unfold h_ready
          show hRow (hU (hU (hSet (hSet J 6 0) 7 0) (J.1 6 - 1) (uS (J.2.2 (J.1 6 - 1)) 3 1)) (J.1 6 - 1) _) _ = _
          rw [hU_hU]
          show hRow (hU (hSet (hSet J 6 0) 7 0) (J.1 6 - 1) (uS ((hU J (J.1 6 - 1) (uS (J.2.2 (J.1 6 - 1)) 3 1)).2.2 (J.1 6 - 1)) 3 1)) _ = _
          rw [hU_at, show uS (uS (J.2.2 (J.1 6 - 1)) 3 1) 3 1 = uS (J.2.2 (J.1 6 - 1)) 3 1 from by unfold uS; rw [show va_up (va_up (J.2.2 (J.1 6 - 1)).1 3 1) 3 1 = va_up (J.2.2 (J.1 6 - 1)).1 3 1 from by funext j; unfold va_up; split <;> rfl]]
          rfl
        rw [e7] at g5
        exact g5
      · rw [nI_pred' (by omega)]
        refine hg _ ?_ (hF.left)
        unfold h_quant
        rw [if_neg q, if_pos (by omega)]
        exact hA0.S7
      · refine hg _ ?_ hF
        unfold h_quant
        rw [if_pos (by omega)]
        exact hA0
    | succ k ih =>
      intro i hi w' hA' hF
      have hK := hH1.ticks (n := i) (by omega)
      have hPi := hP1.ticks (k := i) i
      rw [if_neg (by omega), h_ticks_1] at hPi
      have e0 : (h_ticks K i).1 0 = H.1 0 := by rw [h_ticks_1, e8]
      have hA0 := hA'
      obtain ⟨sh, q0, q1, q2, q3, q4, q5, q6, q7, q8, q9, q10, qm, qr, qu⟩ := hA'
      obtain ⟨rk, r1, r2, r3, r4, r5, r6, r7, r8, r9, r10, r11, r12, r13, r14, r15, r16, r17, r18, r19, r20, r21, r22, r23, r24, k1, k2, k3, k4, k5, k6, k7, k8, k9, k10, k11, k12, k13, k14, k15, k16, k17, k18, k19, k20, k21, k22, k23, k24, n1, n2, n3, n4, n5, n6, n7, n8, n9, n10, n11, n12, n13, n14, n15, n16, n17, n18, n19, n20, n21, n22, n23, n24⟩ := sh
      rw [s_120_12]
      simp only [↓s_120_13, ↓s_120_14, ↓s_120_17, kd_uF, ln_uF, ai_uF, al_uF, ar_uF, zs_uF, fd_uF, kd_uA, ln_uA, fd_uA, al_uA, ar_uA, zs_uA, ai_uA, kd_uL, ln_uL, fd_uL, ai_uL, ar_uL, zs_uL, al_uL, kd_uR, ln_uR, fd_uR, ai_uR, al_uR, zs_uR, ar_uR, true_and, and_true, Option.toList_some, Option.toList_none, List.cons_append, List.nil_append, catS_nil, catS_int, catS_ref, catS_null, catS_long, cat_int, cat_ref, cat_null, Nat.reduceEqDiff, Nat.reduceLeDiff, Nat.reduceAdd, false_and, and_false, if_false, if_true, ite_true, ite_false, true_or, or_true, false_or, or_false, and_self, forall_const, true_implies, reduceCtorEq, clr_int, clr_ref, clr_null, clr_none, clr_long, va_rf_some, va_rf_none, rk, q0, e0]
      refine ⟨fun q => absurd q (nI_ge (by omega) (by omega)), fun _ => ?_⟩
      refine sp_R_print hA0 hK (by omega) (by omega) (fun w2 g1 g2 => ?_)
      refine sp_R_wake g1 (hK.print (by omega)) (by rw [h_print_1]; omega) (fun w3 g3 g4 => ?_)
      have rk3 := g3.1.1
      simp only [↓s_120_121, ↓s_120_124, kd_uF, ln_uF, ai_uF, al_uF, ar_uF, zs_uF, fd_uF, kd_uA, ln_uA, fd_uA, al_uA, ar_uA, zs_uA, ai_uA, kd_uL, ln_uL, fd_uL, ai_uL, ar_uL, zs_uL, al_uL, kd_uR, ln_uR, fd_uR, ai_uR, al_uR, zs_uR, ar_uR, true_and, and_true, Option.toList_some, Option.toList_none, List.cons_append, List.nil_append, catS_nil, catS_int, catS_ref, catS_null, catS_long, cat_int, cat_ref, cat_null, Nat.reduceEqDiff, Nat.reduceLeDiff, Nat.reduceAdd, false_and, and_false, if_false, if_true, ite_true, ite_false, true_or, or_true, false_or, or_false, and_self, forall_const, true_implies, reduceCtorEq, clr_int, clr_ref, clr_null, clr_none, clr_long, va_rf_some, va_rf_none, nI_1]
      exact ih (i + 1) (by omega) w3 g3 ((hF.tr g2).tr g4)
  exact lp (H.1 0) 0 (by omega) w1 hA1 hF1
