/-! the step -/
theorem h_inst_pm {H : hs} {v : Nat} : ((h_inst H).2.2 v).1 8 = (H.2.2 v).1 8 := by
  have key : ((hU H (H.1 6 - 1) (inst (H.1 6 - 1) (H.2.2 (H.1 6 - 1)))).2.2 v).1 8 = (H.2.2 v).1 8 := by
    by_cases c : v = H.1 6 - 1
    · subst c; rw [hU_at]; exact IK_inst.1
    · rw [hU_ne c]
  unfold h_inst
  split
  · rfl
  · split
    · exact key
    · exact key
theorem h_disp_pm {H : hs} {v : Nat} : ((h_disp H).2.2 v).1 8 = (H.2.2 v).1 8 := by
  unfold h_disp
  split
  · rfl
  · split
    · rfl
    · rename_i u r e
      have key : ((hU H u (uS (H.2.2 u) 3 2)).2.2 v).1 8 = (H.2.2 v).1 8 := by
        by_cases c : v = u
        · subst c; rw [hU_at, uS_ne (by decide)]
        · rw [hU_ne c]
      split
      · exact key
      · have ko : ∀ j, (h_out (hU H u (uS (H.2.2 u) 3 2)).2.2 (H.1 0) (H.1 9) j).1 8 = ((hU H u (uS (H.2.2 u) 3 2)).2.2 j).1 8 := fun j => by
          unfold h_out; split
          · exact uS_ne (by decide)
          · rfl
        show (va_up (h_out (hU H u (uS (H.2.2 u) 3 2)).2.2 (H.1 0) (H.1 9)) u (uS (h_out (hU H u (uS (H.2.2 u) 3 2)).2.2 (H.1 0) (H.1 9) u) 7 (H.1 9)) v).1 8 = (H.2.2 v).1 8
        unfold va_up
        split
        · rename_i c; subst c; rw [uS_ne (by decide), ko]; exact key
        · rw [ko]; exact key
theorem h_tick_5 {H : hs} : (h_tick H).1 5 = H.1 5 + 1 := by
  unfold h_tick h_quant
  have e : (h_ticks (hSet H 5 (H.1 5 + 1)) (H.1 0)).1 5 = H.1 5 + 1 := by rw [h_ticks_1, hSet_at]
  split
  · exact e
  · split
    · rw [hSet_ne (by omega)]; exact e
    · rw [h_ready_1, hSet_ne (by omega), hSet_ne (by omega)]; exact e
theorem h_tick_pm {H : hs} (h : ∀ v, (H.2.2 v).1 8 ≤ H.1 5) (v : Nat) : ((h_tick H).2.2 v).1 8 ≤ H.1 5 + 1 := by
  have hP1 : PM (hSet H 5 (H.1 5 + 1)) 0 := fun v => by
    have := h v
    rw [hSet_at, if_neg (by omega)]
    show (H.2.2 v).1 8 + 1 ≤ _
    omega
  have hP2 := hP1.ticks (k := H.1 0) v
  rw [h_ticks_1, hSet_at] at hP2
  unfold h_tick
  generalize h_ticks (hSet H 5 (H.1 5 + 1)) (H.1 0) = J at *
  unfold h_quant
  split
  · omega
  · split
    · show (J.2.2 v).1 8 ≤ _
      omega
    · show ((hU J (J.1 6 - 1) (uS (J.2.2 (J.1 6 - 1)) 3 1)).2.2 v).1 8 ≤ _
      by_cases c : v = J.1 6 - 1
      · subst c; rw [hU_at, uS_ne (by decide)]; omega
      · rw [hU_ne c]; omega
def HX (H : hs) : Prop := HI H ∧ (∀ v, (H.2.2 v).1 8 ≤ H.1 5) ∧ H.1 5 ≤ H.1 4
theorem HX.step {H : hs} (h : HX H) : HX (h_step H) := by
  obtain ⟨hI, hP, hT⟩ := h
  unfold h_step
  have a1 : HI (h_inst (hSet H 4 (H.1 4 + 1))) := (hI.set (by omega)).insta
  have a4 : (h_inst (hSet H 4 (H.1 4 + 1))).1 4 = H.1 4 + 1 := by rw [h_inst_0 (by omega), hSet_at]
  have a5 : (h_inst (hSet H 4 (H.1 4 + 1))).1 5 = H.1 5 := by rw [h_inst_0 (by omega), hSet_ne (by decide)]
  have aP : ∀ v, ((h_inst (hSet H 4 (H.1 4 + 1))).2.2 v).1 8 ≤ (h_inst (hSet H 4 (H.1 4 + 1))).1 5 := fun v => by rw [h_inst_pm, a5]; exact hP v
  generalize h_inst (hSet H 4 (H.1 4 + 1)) = K at *
  have b : HI (h_beat K) ∧ (∀ v, ((h_beat K).2.2 v).1 8 ≤ (h_beat K).1 5) ∧ (h_beat K).1 5 ≤ (h_beat K).1 4 := by
    unfold h_beat
    split
    · refine ⟨a1.tick, fun v => ?_, ?_⟩
      · rw [h_tick_5]; exact h_tick_pm aP v
      · rw [h_tick_5, h_tick_0 (by omega)]; omega
    · exact ⟨a1, aP, by omega⟩
  generalize h_beat K = J at *
  exact ⟨b.1.disp, fun v => by rw [h_disp_pm, h_disp_0 (by omega)]; exact b.2.1 v, by rw [h_disp_0 (by omega), h_disp_0 (by omega)]; exact b.2.2⟩
theorem h_beat_0 {H : hs} {j : Nat} (h : j = 0 ∨ j = 1 ∨ j = 2 ∨ j = 3 ∨ j = 4 ∨ j = 10) : (h_beat H).1 j = H.1 j := by
  unfold h_beat; split
  · exact h_tick_0 h
  · rfl
theorem h_step_0 {H : hs} {j : Nat} (h : j = 0 ∨ j = 1 ∨ j = 2 ∨ j = 3) : (h_step H).1 j = H.1 j := by
  unfold h_step
  rw [h_disp_0 (by omega), h_beat_0 (by omega), h_inst_0 (by omega), hSet_ne (by omega)]
theorem h_step_4 {H : hs} : (h_step H).1 4 = H.1 4 + 1 := by
  unfold h_step
  rw [h_disp_0 (by omega), h_beat_0 (by omega), h_inst_0 (by omega), hSet_at]
theorem h_steps_0 {H : hs} {n j : Nat} (h : j = 0 ∨ j = 1 ∨ j = 2 ∨ j = 3) : (h_steps H n).1 j = H.1 j := by
  induction n with
  | zero => rfl
  | succ n ih => exact (h_step_0 h).trans ih
theorem h_steps_4 {H : hs} {n : Nat} : (h_steps H n).1 4 = H.1 4 + n := by
  induction n with
  | zero => rfl
  | succ n ih => exact h_step_4.trans (by rw [ih]; rfl)
theorem HX.steps {H : hs} {n : Nat} (h : HX H) : HX (h_steps H n) := by
  induction n with
  | zero => exact h
  | succ n ih => exact ih.step
theorem h_step_10 {H : hs} : (h_step H).1 10 = H.1 10 ∨ (h_step H).1 10 = H.1 10 + 1 := by
  unfold h_step
  rw [h_disp_0 (by omega), h_beat_0 (by omega)]
  unfold h_inst
  split
  · right; rw [hSet_at, hSet_ne (by decide)]
  · left
    split
    · show (hSet H 4 (H.1 4 + 1)).1 10 = _
      rw [hSet_ne (by decide)]
    · rw [hSet_ne (by decide), hSet_ne (by decide)]
      show (hSet H 4 (H.1 4 + 1)).1 10 = _
      rw [hSet_ne (by decide)]
theorem sp_R_step {d : Nat} {w : aw} {m : Nat} {H : hs} {Q : wQ} (hA : RAt w m H) (hX : HX H) (h0 : H.1 0 ≠ 0) (hS : H.1 4 < 2147483645) (h : ∀ w', RAt w' m (h_step H) → FrM w w' m → Q none w') : wpD (d + 5) 122 [.ref m] w Q := by
  refine ⟨Nat.le_of_ble_eq_true rfl, ?_⟩
  show wp (d + 4) 122 Q 0 [some (.ref m)] [] w 0 0
  obtain ⟨hI, hP, hT⟩ := hX
  have hA1 : RAt (uF w 516 m (.int (nI (H.1 4 + 1)))) m (hSet H 4 (H.1 4 + 1)) := hA.S4
  have hI1 : HI (hSet H 4 (H.1 4 + 1)) := hI.set (by omega)
  have hF1 : FrM w (uF w 516 m (.int (nI (H.1 4 + 1)))) m := FrM.rf.steps
  -- behind the instruction
  have j38 : ∀ w2 K, RAt w2 m K → HI K → (∀ v, (K.2.2 v).1 8 ≤ K.1 5) → K.1 5 < 2147483646 → K.1 4 < 2147483648 → 4 ≤ K.1 3 → h_disp (h_beat K) = h_step H → FrM w w2 m → wp (d + 4) 122 Q 38 [some (.ref m)] [] w2 0 0 := by
    intro w2 K g1 g2 g3 g4 g5 g6 g7 g8
    have j54 : ∀ w3 J, RAt w3 m J → HI J → h_disp J = h_step H → FrM w w3 m → wp (d + 4) 122 Q 54 [some (.ref m)] [] w3 0 0 := by
      intro w3 J f1 f2 f3 f4
      have rk := f1.1.1
      have ⟨a0, a1, a2, a3, a6, a7, a8, a9, an, ar, at', as, ab⟩ := f2
      simp only [↓s_122_54, ↓s_122_55, kd_uF, ln_uF, ai_uF, al_uF, ar_uF, zs_uF, fd_uF, kd_uA, ln_uA, fd_uA, al_uA, ar_uA, zs_uA, ai_uA, kd_uL, ln_uL, fd_uL, ai_uL, ar_uL, zs_uL, al_uL, kd_uR, ln_uR, fd_uR, ai_uR, al_uR, zs_uR, ar_uR, true_and, and_true, Option.toList_some, Option.toList_none, List.cons_append, List.nil_append, catS_nil, catS_int, catS_ref, catS_null, catS_long, cat_int, cat_ref, cat_null, Nat.reduceEqDiff, Nat.reduceLeDiff, Nat.reduceAdd, false_and, and_false, if_false, if_true, ite_true, ite_false, true_or, or_true, false_or, or_false, and_self, forall_const, true_implies, reduceCtorEq, clr_int, clr_ref, clr_null, clr_none, clr_long, va_rf_some, va_rf_none, rk]
      refine sp_R_dispatch f1 ab a0 a1 (by omega) a8 a9.1 (fun v hv => by have := (ar v hv).1; omega) f2.len (fun w4 e1 e2 => ?_)
      simp only [↓s_122_58, kd_uF, ln_uF, ai_uF, al_uF, ar_uF, zs_uF, fd_uF, kd_uA, ln_uA, fd_uA, al_uA, ar_uA, zs_uA, ai_uA, kd_uL, ln_uL, fd_uL, ai_uL, ar_uL, zs_uL, al_uL, kd_uR, ln_uR, fd_uR, ai_uR, al_uR, zs_uR, ar_uR, true_and, and_true, Option.toList_some, Option.toList_none, List.cons_append, List.nil_append, catS_nil, catS_int, catS_ref, catS_null, catS_long, cat_int, cat_ref, cat_null, Nat.reduceEqDiff, Nat.reduceLeDiff, Nat.reduceAdd, false_and, and_false, if_false, if_true, ite_true, ite_false, true_or, or_true, false_or, or_false, and_self, forall_const, true_implies, reduceCtorEq, clr_int, clr_ref, clr_null, clr_none, clr_long, va_rf_some, va_rf_none]
      exact h w4 (by rw [← f3]; exact e1) (f4.tr e2)
    have g1' := g1
    obtain ⟨sh, q0, q1, q2, q3, q4, q5, q6, q7, q8, q9, q10, qm, qr, qu⟩ := g1
    obtain ⟨rk, r1, r2, r3, r4, r5, r6, r7, r8, r9, r10, r11, r12, r13, r14, r15, r16, r17, r18, r19, r20, r21, r22, r23, r24, k1, k2, k3, k4, k5, k6, k7, k8, k9, k10, k11, k12, k13, k14, k15, k16, k17, k18, k19, k20, k21, k22, k23, k24, n1, n2, n3, n4, n5, n6, n7, n8, n9, n10, n11, n12, n13, n14, n15, n16, n17, n18, n19, n20, n21, n22, n23, n24⟩ := sh
    simp only [↓s_122_38, ↓s_122_39, ↓s_122_42, ↓s_122_43, ↓s_122_46, ↓s_122_47, ↓s_122_50, ↓s_122_51, kd_uF, ln_uF, ai_uF, al_uF, ar_uF, zs_uF, fd_uF, kd_uA, ln_uA, fd_uA, al_uA, ar_uA, zs_uA, ai_uA, kd_uL, ln_uL, fd_uL, ai_uL, ar_uL, zs_uL, al_uL, kd_uR, ln_uR, fd_uR, ai_uR, al_uR, zs_uR, ar_uR, true_and, and_true, Option.toList_some, Option.toList_none, List.cons_append, List.nil_append, catS_nil, catS_int, catS_ref, catS_null, catS_long, cat_int, cat_ref, cat_null, Nat.reduceEqDiff, Nat.reduceLeDiff, Nat.reduceAdd, false_and, and_false, if_false, if_true, ite_true, ite_false, true_or, or_true, false_or, or_false, and_self, forall_const, true_implies, reduceCtorEq, clr_int, clr_ref, clr_null, clr_none, clr_long, va_rf_some, va_rf_none, rk, q3, q4]
    have h3 := g2.2.2.2.1
    rw [show nI (K.1 4) - nI (K.1 4) / nI (K.1 3) * nI (K.1 3) = nI (K.1 4 % K.1 3) from pk_rem (by omega) (by omega) (by omega)]
    have hmod := Nat.mod_lt (K.1 4) (show 0 < K.1 3 by omega)
    rw [show (0 : Int32) = nI 0 from rfl, nI_eq (by omega) (by decide), nI_eq (by omega) (by decide)]
    refine ⟨by omega, fun q => j54 w2 K g1' g2 (by rw [← g7]; unfold h_beat; rw [if_neg q]) g8, fun q => sp_R_tick g1' g2 g3 g4 (fun w3 e1 e2 => ?_)⟩
    simp only [kd_uF, ln_uF, ai_uF, al_uF, ar_uF, zs_uF, fd_uF, kd_uA, ln_uA, fd_uA, al_uA, ar_uA, zs_uA, ai_uA, kd_uL, ln_uL, fd_uL, ai_uL, ar_uL, zs_uL, al_uL, kd_uR, ln_uR, fd_uR, ai_uR, al_uR, zs_uR, ar_uR, true_and, and_true, Option.toList_some, Option.toList_none, List.cons_append, List.nil_append, catS_nil, catS_int, catS_ref, catS_null, catS_long, cat_int, cat_ref, cat_null, Nat.reduceEqDiff, Nat.reduceLeDiff, Nat.reduceAdd, false_and, and_false, if_false, if_true, ite_true, ite_false, true_or, or_true, false_or, or_false, and_self, forall_const, true_implies, reduceCtorEq, clr_int, clr_ref, clr_null, clr_none, clr_long, va_rf_some, va_rf_none]
    exact j54 w3 _ e1 g2.tick (by rw [← g7]; unfold h_beat; rw [if_pos q]) (g8.tr e2)
  have hA0 := hA
  obtain ⟨sh, q0, q1, q2, q3, q4, q5, q6, q7, q8, q9, q10, qm, qr, qu⟩ := hA
  have sh0 := sh
  obtain ⟨rk, r1, r2, r3, r4, r5, r6, r7, r8, r9, r10, r11, r12, r13, r14, r15, r16, r17, r18, r19, r20, r21, r22, r23, r24, k1, k2, k3, k4, k5, k6, k7, k8, k9, k10, k11, k12, k13, k14, k15, k16, k17, k18, k19, k20, k21, k22, k23, k24, n1, n2, n3, n4, n5, n6, n7, n8, n9, n10, n11, n12, n13, n14, n15, n16, n17, n18, n19, n20, n21, n22, n23, n24⟩ := sh
  simp only [↓s_122_0, ↓s_122_1, ↓s_122_2, ↓s_122_5, ↓s_122_6, ↓s_122_7, ↓s_122_10, ↓s_122_11, ↓s_122_14, ↓s_122_17, ↓s_122_18, ↓s_122_19, ↓s_122_22, ↓s_122_28, ↓s_122_29, ↓s_122_30, ↓s_122_33, ↓s_122_34, ↓s_122_35, kd_uF, ln_uF, ai_uF, al_uF, ar_uF, zs_uF, fd_uF, kd_uA, ln_uA, fd_uA, al_uA, ar_uA, zs_uA, ai_uA, kd_uL, ln_uL, fd_uL, ai_uL, ar_uL, zs_uL, al_uL, kd_uR, ln_uR, fd_uR, ai_uR, al_uR, zs_uR, ar_uR, true_and, and_true, Option.toList_some, Option.toList_none, List.cons_append, List.nil_append, catS_nil, catS_int, catS_ref, catS_null, catS_long, cat_int, cat_ref, cat_null, Nat.reduceEqDiff, Nat.reduceLeDiff, Nat.reduceAdd, false_and, and_false, if_false, if_true, ite_true, ite_false, true_or, or_true, false_or, or_false, and_self, forall_const, true_implies, reduceCtorEq, clr_int, clr_ref, clr_null, clr_none, clr_long, va_rf_some, va_rf_none, rk, q4, q6, q10]
  rw [nI_1, nI_1, rn_lt _ (by have := hI.2.2.2.2.1; have := hI.1; omega)]
  have hb := (hI.2.2.2.2.2.2.2.1.2 h0).2.2.2.2
  have f3 : (hSet H 4 (H.1 4 + 1)).1 3 = H.1 3 := hSet_ne (by decide)
  have f4 : (hSet H 4 (H.1 4 + 1)).1 4 = H.1 4 + 1 := hSet_at
  have f5 : (hSet H 4 (H.1 4 + 1)).1 5 = H.1 5 := hSet_ne (by decide)
  have f6 : (hSet H 4 (H.1 4 + 1)).1 6 = H.1 6 := hSet_ne (by decide)
  have fu : ∀ v, (hSet H 4 (H.1 4 + 1)).2.2 v = H.2.2 v := fun _ => rfl
  have e4 := h_inst_0 (H := hSet H 4 (H.1 4 + 1)) (j := 4) (by omega)
  have e5 := h_inst_0 (H := hSet H 4 (H.1 4 + 1)) (j := 5) (by omega)
  have e3 := h_inst_0 (H := hSet H 4 (H.1 4 + 1)) (j := 3) (by omega)
  have eP : ∀ v, ((h_inst (hSet H 4 (H.1 4 + 1))).2.2 v).1 8 ≤ (h_inst (hSet H 4 (H.1 4 + 1))).1 5 := fun v => by rw [h_inst_pm, e5, f5]; exact hP v
  have go : ∀ w2, RAt w2 m (h_inst (hSet H 4 (H.1 4 + 1))) → FrM w w2 m → wp (d + 4) 122 Q 38 [some (.ref m)] [] w2 0 0 := fun w2 g1 g2 => j38 w2 _ g1 hI1.insta eP (by omega) (by omega) (by omega) rfl g2
  refine ⟨fun q => go _ ?_ hF1.idle, fun q => ?_⟩
  · unfold h_inst
    rw [if_pos (by omega)]
    exact hA1.S10
  · have hu8 : H.1 6 - 1 < 8 := by have := hI.2.2.2.2.1; have := hI.1; omega
    have hst : ((hSet H 4 (H.1 4 + 1)).2.2 (H.1 6 - 1)).1 3 = 2 := hI.2.2.2.2.2.2.2.2.2.2.1 q
    have hB1 := hI1.2.2.2.2.2.2.2.2.2.2.2.2
    rw [rn_pos q]
    refine sp_R_inst hA1.1 (hA1.2.2.2.2.2.2.2.2.2.2.2.2.2.2 (H.1 6 - 1) hu8) (hB1 _) hu8 hst (fun w2 g1 g2 g3 => ?_)
    simp only [↓s_122_25, kd_uF, ln_uF, ai_uF, al_uF, ar_uF, zs_uF, fd_uF, kd_uA, ln_uA, fd_uA, al_uA, ar_uA, zs_uA, ai_uA, kd_uL, ln_uL, fd_uL, ai_uL, ar_uL, zs_uL, al_uL, kd_uR, ln_uR, fd_uR, ai_uR, al_uR, zs_uR, ar_uR, true_and, and_true, Option.toList_some, Option.toList_none, List.cons_append, List.nil_append, catS_nil, catS_int, catS_ref, catS_null, catS_long, cat_int, cat_ref, cat_null, Nat.reduceEqDiff, Nat.reduceLeDiff, Nat.reduceAdd, false_and, and_false, if_false, if_true, ite_true, ite_false, true_or, or_true, false_or, or_false, and_self, forall_const, true_implies, reduceCtorEq, clr_int, clr_ref, clr_null, clr_none, clr_long, va_rf_some, va_rf_none]
    refine go w2 ?_ (hF1.tr g2.M)
    unfold h_inst
    rw [if_neg (by omega), f6, fu]
    rw [fu] at g1 g3
    unfold Lft at g3
    split
    · rename_i q2
      rw [if_pos q2] at g3
      refine hA1.U hB1 ⟨g2, fun g => ?_⟩ g1
      by_cases c1 : g = 521
      · rw [c1]; exact g3.1
      · by_cases c2 : g = 522
        · rw [c2]; exact g3.2
        · exact g2.2.1 g c1 c2
    · rename_i q2
      rw [if_neg q2] at g3
      exact g2.house hA1 hB1 g1 g3.1 g3.2
theorem sp_R_run {d : Nat} {w : aw} {m n : Nat} {H : hs} {Q : wQ} (hA : RAt w m H) (hX : HX H) (h0 : H.1 0 ≠ 0) (hn : n ≤ 1000) (hS : H.1 4 < 2147482000) (h : ∀ w', RAt w' m (h_steps H n) → FrM w w' m → Q (some (.int (nI n - (nI ((h_steps H n).1 10) - nI (H.1 10))))) w') : wp (d + 5) 136 Q 20 [some (.ref m), some (.int (nI n)), none, none] [] w 0 0 := by
  have lp : ∀ (k i : Nat), i + k = n → ∀ w', RAt w' m (h_steps H i) → FrM w w' m → wp (d + 5) 136 Q 27 [some (.ref m), some (.int (nI n)), some (.int (nI (H.1 10))), some (.int (nI i))] [] w' 0 0 := by
    intro k
    induction k with
    | zero =>
      intro i hi w' hA' hF
      have hi : i = n := by omega
      subst hi
      have rk := hA'.1.1
      have q10 := hA'.2.2.2.2.2.2.2.2.2.2.2.1
      rw [s_136_27]
      simp only [↓s_136_28, ↓s_136_29, ↓s_136_32, ↓s_136_33, ↓s_136_42, ↓s_136_43, ↓s_136_44, ↓s_136_47, ↓s_136_48, ↓s_136_49, ↓s_136_50, kd_uF, ln_uF, ai_uF, al_uF, ar_uF, zs_uF, fd_uF, kd_uA, ln_uA, fd_uA, al_uA, ar_uA, zs_uA, ai_uA, kd_uL, ln_uL, fd_uL, ai_uL, ar_uL, zs_uL, al_uL, kd_uR, ln_uR, fd_uR, ai_uR, al_uR, zs_uR, ar_uR, true_and, and_true, Option.toList_some, Option.toList_none, List.cons_append, List.nil_append, catS_nil, catS_int, catS_ref, catS_null, catS_long, cat_int, cat_ref, cat_null, Nat.reduceEqDiff, Nat.reduceLeDiff, Nat.reduceAdd, false_and, and_false, if_false, if_true, ite_true, ite_false, true_or, or_true, false_or, or_false, and_self, forall_const, true_implies, reduceCtorEq, clr_int, clr_ref, clr_null, clr_none, clr_long, va_rf_some, va_rf_none, rk, q10]
      exact ⟨fun _ => h _ hA' hF, fun q => absurd (nI_le (Nat.le_refl _) (by omega)) q⟩
    | succ k ih =>
      intro i hi w' hA' hF
      have rk := hA'.1.1
      rw [s_136_27]
      simp only [↓s_136_28, ↓s_136_29, ↓s_136_32, ↓s_136_33, kd_uF, ln_uF, ai_uF, al_uF, ar_uF, zs_uF, fd_uF, kd_uA, ln_uA, fd_uA, al_uA, ar_uA, zs_uA, ai_uA, kd_uL, ln_uL, fd_uL, ai_uL, ar_uL, zs_uL, al_uL, kd_uR, ln_uR, fd_uR, ai_uR, al_uR, zs_uR, ar_uR, true_and, and_true, Option.toList_some, Option.toList_none, List.cons_append, List.nil_append, catS_nil, catS_int, catS_ref, catS_null, catS_long, cat_int, cat_ref, cat_null, Nat.reduceEqDiff, Nat.reduceLeDiff, Nat.reduceAdd, false_and, and_false, if_false, if_true, ite_true, ite_false, true_or, or_true, false_or, or_false, and_self, forall_const, true_implies, reduceCtorEq, clr_int, clr_ref, clr_null, clr_none, clr_long, va_rf_some, va_rf_none, rk]
      refine ⟨fun q => absurd q (nI_ge (by omega) (by omega)), fun _ => sp_R_step hA' hX.steps (by rw [h_steps_0 (by omega)]; exact h0) (by rw [h_steps_4]; omega) (fun w2 g1 g2 => ?_)⟩
      simp only [↓s_136_36, ↓s_136_39, kd_uF, ln_uF, ai_uF, al_uF, ar_uF, zs_uF, fd_uF, kd_uA, ln_uA, fd_uA, al_uA, ar_uA, zs_uA, ai_uA, kd_uL, ln_uL, fd_uL, ai_uL, ar_uL, zs_uL, al_uL, kd_uR, ln_uR, fd_uR, ai_uR, al_uR, zs_uR, ar_uR, true_and, and_true, Option.toList_some, Option.toList_none, List.cons_append, List.nil_append, catS_nil, catS_int, catS_ref, catS_null, catS_long, cat_int, cat_ref, cat_null, Nat.reduceEqDiff, Nat.reduceLeDiff, Nat.reduceAdd, false_and, and_false, if_false, if_true, ite_true, ite_false, true_or, or_true, false_or, or_false, and_self, forall_const, true_implies, reduceCtorEq, clr_int, clr_ref, clr_null, clr_none, clr_long, va_rf_some, va_rf_none, nI_1]
      exact ih (i + 1) (by omega) w2 g1 (hF.tr g2)
  have rk := hA.1.1
  have q10 := hA.2.2.2.2.2.2.2.2.2.2.2.1
  simp only [↓s_136_20, ↓s_136_21, ↓s_136_24, ↓s_136_25, ↓s_136_26, kd_uF, ln_uF, ai_uF, al_uF, ar_uF, zs_uF, fd_uF, kd_uA, ln_uA, fd_uA, al_uA, ar_uA, zs_uA, ai_uA, kd_uL, ln_uL, fd_uL, ai_uL, ar_uL, zs_uL, al_uL, kd_uR, ln_uR, fd_uR, ai_uR, al_uR, zs_uR, ar_uR, true_and, and_true, Option.toList_some, Option.toList_none, List.cons_append, List.nil_append, catS_nil, catS_int, catS_ref, catS_null, catS_long, cat_int, cat_ref, cat_null, Nat.reduceEqDiff, Nat.reduceLeDiff, Nat.reduceAdd, false_and, and_false, if_false, if_true, ite_true, ite_false, true_or, or_true, false_or, or_false, and_self, forall_const, true_implies, reduceCtorEq, clr_int, clr_ref, clr_null, clr_none, clr_long, va_rf_some, va_rf_none, rk, q10]
  exact lp n 0 (by omega) w hA FrM.rf
