theorem sp_U_paper {d : Nat} {w : aw} {b n : Nat} {x : Int32} {u : us} {Q : wQ} (hu : UAt w b n u) (hp : u.1 8 < 2147483648) (hQ : Q (some (.int (match rg x (u.1 8) with | some i => if u.1 8 ≤ i + 512 then nI (uPp u (i % 512)) else -1 | none => -1))) w) : wpD (d + 1) 76 [.ref b, .int x] w Q := by
  refine ⟨Nat.le_of_ble_eq_true rfl, ?_⟩
  show wp d 76 Q 0 [some (.ref b), some (.int x), none] [] w 0 0
  obtain ⟨y0, y1, y2, y3, y4, y5, y6, z0, z1, z2, z3, z4, z5, z6, z7, z8, z9, mw1, mw2, mw3, fw1, fw2, fw3, pw1, pw2, pw3, lin, lou⟩ := hu
  have j28 : Q (some (.int (-1))) w → wp d 76 Q 28 [some (.ref b), some (.int x), none] [] w 0 0 := by
    intro hq
    simp only [↓s_76_28, ↓s_76_29, ↓s_76_30, ↓s_76_31, ↓s_76_34, ↓s_76_35, ↓s_76_38, ↓s_76_39, ↓s_76_42, ↓s_76_43, ↓s_76_44, ↓s_76_47, ↓s_76_48, kd_uF, ln_uF, ai_uF, al_uF, ar_uF, zs_uF, fd_uF, kd_uA, ln_uA, fd_uA, al_uA, ar_uA, zs_uA, ai_uA, kd_uL, ln_uL, fd_uL, ai_uL, ar_uL, zs_uL, al_uL, kd_uR, ln_uR, fd_uR, ai_uR, al_uR, zs_uR, ar_uR, true_and, and_true, Option.toList_some, Option.toList_none, List.cons_append, List.nil_append, catS_nil, catS_int, catS_ref, catS_null, catS_long, cat_int, cat_ref, cat_null, Nat.reduceEqDiff, Nat.reduceLeDiff, Nat.reduceAdd, false_and, and_false, if_false, if_true, ite_true, ite_false, true_or, or_true, false_or, or_false, and_self, forall_const, true_implies, reduceCtorEq, clr_int, clr_ref, clr_null, clr_none, clr_long, va_rf_some, va_rf_none]
    exact ⟨hq, fun q => absurd trivial q⟩
  cases e : rg x (u.1 8) with
  | none =>
    rw [e] at hQ
    simp only [↓s_76_0, ↓s_76_1, ↓s_76_4, ↓s_76_5, ↓s_76_6, ↓s_76_9, ↓s_76_12, ↓s_76_13, ↓s_76_14, ↓s_76_17, ↓s_76_20, ↓s_76_21, ↓s_76_24, ↓s_76_25, ↓s_76_29, ↓s_76_30, ↓s_76_31, ↓s_76_34, ↓s_76_35, ↓s_76_38, ↓s_76_39, ↓s_76_42, ↓s_76_43, ↓s_76_44, ↓s_76_47, ↓s_76_48, kd_uF, ln_uF, ai_uF, al_uF, ar_uF, zs_uF, fd_uF, kd_uA, ln_uA, fd_uA, al_uA, ar_uA, zs_uA, ai_uA, kd_uL, ln_uL, fd_uL, ai_uL, ar_uL, zs_uL, al_uL, kd_uR, ln_uR, fd_uR, ai_uR, al_uR, zs_uR, ar_uR, true_and, and_true, Option.toList_some, Option.toList_none, List.cons_append, List.nil_append, catS_nil, catS_int, catS_ref, catS_null, catS_long, cat_int, cat_ref, cat_null, Nat.reduceEqDiff, Nat.reduceLeDiff, Nat.reduceAdd, false_and, and_false, if_false, if_true, ite_true, ite_false, true_or, or_true, false_or, or_false, and_self, forall_const, true_implies, reduceCtorEq, clr_int, clr_ref, clr_null, clr_none, clr_long, va_rf_some, va_rf_none, y0, z8]
    refine ⟨fun _ => j28 hQ, fun q => ⟨fun _ => j28 hQ, fun q2 => ?_⟩⟩
    exfalso
    have h0 : 0 ≤ x := Int32.not_lt.mp q
    have hx := nI_back h0
    have hl := clamp_lt x
    rw [← hx, nI_leI (by omega) (by omega)] at q2
    unfold rg at e
    rw [if_pos ⟨h0, by omega⟩] at e
    cases e
  | some c =>
    have hk := rg_in e
    have hk2 := hk.2
    rw [e] at hQ
    subst hk2
    have hQ' : Q (some (.int (if u.1 8 ≤ c + 512 then nI (uPp u (c % 512)) else -1))) w := hQ
    have hm := Nat.mod_lt c (show 0 < 512 by decide)
    have hr : nI c &&& 511 = nI (c % 512) := rem512 (by omega)
    have hlt : nI c < nI (u.1 8) - 512 ↔ ¬ u.1 8 ≤ c + 512 := by
      by_cases z : 512 ≤ u.1 8
      · rw [show nI (u.1 8) - 512 = nI (u.1 8 - 512) from pk_sub (b := 512) z, nI_ltI (by omega) (by omega)]; omega
      · refine ⟨fun q => ?_, fun q => by omega⟩
        exact absurd q (not_lt_of_neg (sub512 (by omega)) (by omega))
    simp only [↓s_76_0, ↓s_76_1, ↓s_76_4, ↓s_76_5, ↓s_76_6, ↓s_76_9, ↓s_76_12, ↓s_76_13, ↓s_76_14, ↓s_76_17, ↓s_76_20, ↓s_76_21, ↓s_76_24, ↓s_76_25, ↓s_76_29, ↓s_76_30, ↓s_76_31, ↓s_76_34, ↓s_76_35, ↓s_76_38, ↓s_76_39, ↓s_76_42, ↓s_76_43, ↓s_76_44, ↓s_76_47, ↓s_76_48, kd_uF, ln_uF, ai_uF, al_uF, ar_uF, zs_uF, fd_uF, kd_uA, ln_uA, fd_uA, al_uA, ar_uA, zs_uA, ai_uA, kd_uL, ln_uL, fd_uL, ai_uL, ar_uL, zs_uL, al_uL, kd_uR, ln_uR, fd_uR, ai_uR, al_uR, zs_uR, ar_uR, true_and, and_true, Option.toList_some, Option.toList_none, List.cons_append, List.nil_append, catS_nil, catS_int, catS_ref, catS_null, catS_long, cat_int, cat_ref, cat_null, Nat.reduceEqDiff, Nat.reduceLeDiff, Nat.reduceAdd, false_and, and_false, if_false, if_true, ite_true, ite_false, true_or, or_true, false_or, or_false, and_self, forall_const, true_implies, reduceCtorEq, clr_int, clr_ref, clr_null, clr_none, clr_long, va_rf_some, va_rf_none, y0, y4, z8, pw1, pw2, hr, hlt, clN (show c % 512 < 2147483648 by omega), pw3]
    refine ⟨fun q => absurd q (nI_pos (by omega)), fun _ => ⟨fun q => absurd q (nI_ge hk.1 hp), fun _ => ⟨fun q => ?_, fun q => ?_⟩⟩⟩
    · rw [if_neg q] at hQ'; exact j28 hQ'
    · rw [if_pos (by omega)] at hQ'
      exact ⟨fun q => absurd q (by decide), fun _ => ⟨inR_nI hm (by decide), hQ'⟩⟩
theorem sp_C_letter {d : Nat} {w : aw} {x : Nat} {u y : Int32} {H : hs} {Q : wQ} (hM : CM w x H) (hI : HI H) (hP : ∀ v, (H.2.2 v).1 8 < 2147483648) (h : Q (some (.int (c_letter H u y))) w) : wpD (d + 2) 93 [.ref x, .int u, .int y] w Q := by
  refine ⟨Nat.le_of_ble_eq_true rfl, ?_⟩
  show wp (d + 1) 93 Q 0 [some (.ref x), some (.int u), some (.int y), none] [] w 0 0
  have h8 := hI.1
  have kx := hM.1
  have fx := hM.2.1
  have kh := hM.2.2.1.1
  simp only [↓s_93_0, ↓s_93_1, ↓s_93_4, ↓s_93_5, kd_uF, ln_uF, ai_uF, al_uF, ar_uF, zs_uF, fd_uF, kd_uA, ln_uA, fd_uA, al_uA, ar_uA, zs_uA, ai_uA, kd_uL, ln_uL, fd_uL, ai_uL, ar_uL, zs_uL, al_uL, kd_uR, ln_uR, fd_uR, ai_uR, al_uR, zs_uR, ar_uR, true_and, and_true, Option.toList_some, Option.toList_none, List.cons_append, List.nil_append, catS_nil, catS_int, catS_ref, catS_null, catS_long, cat_int, cat_ref, cat_null, Nat.reduceEqDiff, Nat.reduceLeDiff, Nat.reduceAdd, false_and, and_false, if_false, if_true, ite_true, ite_false, true_or, or_true, false_or, or_false, and_self, forall_const, true_implies, reduceCtorEq, clr_int, clr_ref, clr_null, clr_none, clr_long, va_rf_some, va_rf_none, kx, fx, kh]
  refine sp_C_userAt hM.2.2 h8 (fun k e1 e2 e3 => ?_) (fun e1 => ?_)
  · have hc : c_letter H u y = (match rg y ((H.2.2 k).1 8) with | some i => if (H.2.2 k).1 8 ≤ i + 512 then nI (uPp (H.2.2 k) (i % 512)) else -1 | none => -1) := by unfold c_letter; rw [e1]; rfl
    rw [hc] at h
    have hu := hM.u (show k < 8 by omega)
    have ku := hu.1
    simp only [↓s_93_8, ↓s_93_8n, ↓s_93_9, ↓s_93_9n, ↓s_93_10, ↓s_93_10n, ↓s_93_13, ↓s_93_14, ↓s_93_17, ↓s_93_17n, ↓s_93_18, ↓s_93_19, ↓s_93_22, kd_uF, ln_uF, ai_uF, al_uF, ar_uF, zs_uF, fd_uF, kd_uA, ln_uA, fd_uA, al_uA, ar_uA, zs_uA, ai_uA, kd_uL, ln_uL, fd_uL, ai_uL, ar_uL, zs_uL, al_uL, kd_uR, ln_uR, fd_uR, ai_uR, al_uR, zs_uR, ar_uR, true_and, and_true, Option.toList_some, Option.toList_none, List.cons_append, List.nil_append, catS_nil, catS_int, catS_ref, catS_null, catS_long, cat_int, cat_ref, cat_null, Nat.reduceEqDiff, Nat.reduceLeDiff, Nat.reduceAdd, false_and, and_false, if_false, if_true, ite_true, ite_false, true_or, or_true, false_or, or_false, and_self, forall_const, true_implies, reduceCtorEq, clr_int, clr_ref, clr_null, clr_none, clr_long, va_rf_some, va_rf_none, ku]
    refine sp_U_paper hu (hP k) ?_
    simp only [↓s_93_22, kd_uF, ln_uF, ai_uF, al_uF, ar_uF, zs_uF, fd_uF, kd_uA, ln_uA, fd_uA, al_uA, ar_uA, zs_uA, ai_uA, kd_uL, ln_uL, fd_uL, ai_uL, ar_uL, zs_uL, al_uL, kd_uR, ln_uR, fd_uR, ai_uR, al_uR, zs_uR, ar_uR, true_and, and_true, Option.toList_some, Option.toList_none, List.cons_append, List.nil_append, catS_nil, catS_int, catS_ref, catS_null, catS_long, cat_int, cat_ref, cat_null, Nat.reduceEqDiff, Nat.reduceLeDiff, Nat.reduceAdd, false_and, and_false, if_false, if_true, ite_true, ite_false, true_or, or_true, false_or, or_false, and_self, forall_const, true_implies, reduceCtorEq, clr_int, clr_ref, clr_null, clr_none, clr_long, va_rf_some, va_rf_none]
    exact h
  · have hc : c_letter H u y = -1 := by unfold c_letter; rw [e1]
    rw [hc] at h
    simp only [↓s_93_8, ↓s_93_8n, ↓s_93_9, ↓s_93_9n, ↓s_93_10, ↓s_93_10n, ↓s_93_13, ↓s_93_14, ↓s_93_17, ↓s_93_17n, ↓s_93_18, ↓s_93_19, ↓s_93_22, kd_uF, ln_uF, ai_uF, al_uF, ar_uF, zs_uF, fd_uF, kd_uA, ln_uA, fd_uA, al_uA, ar_uA, zs_uA, ai_uA, kd_uL, ln_uL, fd_uL, ai_uL, ar_uL, zs_uL, al_uL, kd_uR, ln_uR, fd_uR, ai_uR, al_uR, zs_uR, ar_uR, true_and, and_true, Option.toList_some, Option.toList_none, List.cons_append, List.nil_append, catS_nil, catS_int, catS_ref, catS_null, catS_long, cat_int, cat_ref, cat_null, Nat.reduceEqDiff, Nat.reduceLeDiff, Nat.reduceAdd, false_and, and_false, if_false, if_true, ite_true, ite_false, true_or, or_true, false_or, or_false, and_self, forall_const, true_implies, reduceCtorEq, clr_int, clr_ref, clr_null, clr_none, clr_long, va_rf_some, va_rf_none]
    exact h
theorem sp_H_tell {d : Nat} {w : aw} {h s : Nat} {x : Int32} {H : hs} {Q : wQ} (hC : CAt w h H s) (hI : HI H) (hQ : Q (some (.int (c_house H x))) w) : wpD (d + 2) 26 [.ref h, .int x] w Q := by
  refine ⟨Nat.le_of_ble_eq_true rfl, ?_⟩
  show wp (d + 1) 26 Q 0 [some (.ref h), some (.int x)] [] w 0 0
  have h8 := hI.1
  have h6 := hI.2.2.2.2.1
  have k0 := hC.1.1
  obtain ⟨n0, n1, n2, n3, n4, n5, n6, n8, n9, n10⟩ := hC.2.1
  have r1 := hC.2.2.2.1.1
  simp only [↓s_26_0, ↓s_26_1, kd_uF, ln_uF, ai_uF, al_uF, ar_uF, zs_uF, fd_uF, kd_uA, ln_uA, fd_uA, al_uA, ar_uA, zs_uA, ai_uA, kd_uL, ln_uL, fd_uL, ai_uL, ar_uL, zs_uL, al_uL, kd_uR, ln_uR, fd_uR, ai_uR, al_uR, zs_uR, ar_uR, true_and, and_true, Option.toList_some, Option.toList_none, List.cons_append, List.nil_append, catS_nil, catS_int, catS_ref, catS_null, catS_long, cat_int, cat_ref, cat_null, Nat.reduceEqDiff, Nat.reduceLeDiff, Nat.reduceAdd, false_and, and_false, if_false, if_true, ite_true, ite_false, true_or, or_true, false_or, or_false, and_self, forall_const, true_implies, reduceCtorEq, clr_int, clr_ref, clr_null, clr_none, clr_long, va_rf_some, va_rf_none, k0]
  refine sp_C_isOpen hC h8 (fun q => ?_) (fun q => ?_)
  · simp only [↓s_26_4, ↓s_26_7, ↓s_26_8, ↓s_26_9, ↓s_26_10, kd_uF, ln_uF, ai_uF, al_uF, ar_uF, zs_uF, fd_uF, kd_uA, ln_uA, fd_uA, al_uA, ar_uA, zs_uA, ai_uA, kd_uL, ln_uL, fd_uL, ai_uL, ar_uL, zs_uL, al_uL, kd_uR, ln_uR, fd_uR, ai_uR, al_uR, zs_uR, ar_uR, true_and, and_true, Option.toList_some, Option.toList_none, List.cons_append, List.nil_append, catS_nil, catS_int, catS_ref, catS_null, catS_long, cat_int, cat_ref, cat_null, Nat.reduceEqDiff, Nat.reduceLeDiff, Nat.reduceAdd, false_and, and_false, if_false, if_true, ite_true, ite_false, true_or, or_true, false_or, or_false, and_self, forall_const, true_implies, reduceCtorEq, clr_int, clr_ref, clr_null, clr_none, clr_long, va_rf_some, va_rf_none]
    refine ⟨fun _ => tsr (by decide) rfl (fun i t hi e => ?_) (fun e => ?_), fun q => absurd q (by decide)⟩
    · have hc : c_house H x = h_house H i := by
        have e' : rg x 11 = some i := e
        unfold c_house; rw [if_neg q, e']
      rw [hc] at hQ
      rcases i with _ | _ | _ | _ | _ | _ | _ | _ | _ | _ | _ | i
      · cases hi
        simp only [↓s_26_68, ↓s_26_69, ↓s_26_72, kd_uF, ln_uF, ai_uF, al_uF, ar_uF, zs_uF, fd_uF, kd_uA, ln_uA, fd_uA, al_uA, ar_uA, zs_uA, ai_uA, kd_uL, ln_uL, fd_uL, ai_uL, ar_uL, zs_uL, al_uL, kd_uR, ln_uR, fd_uR, ai_uR, al_uR, zs_uR, ar_uR, true_and, and_true, Option.toList_some, Option.toList_none, List.cons_append, List.nil_append, catS_nil, catS_int, catS_ref, catS_null, catS_long, cat_int, cat_ref, cat_null, Nat.reduceEqDiff, Nat.reduceLeDiff, Nat.reduceAdd, false_and, and_false, if_false, if_true, ite_true, ite_false, true_or, or_true, false_or, or_false, and_self, forall_const, true_implies, reduceCtorEq, clr_int, clr_ref, clr_null, clr_none, clr_long, va_rf_some, va_rf_none, k0, n0]
        exact hQ
      · cases hi
        simp only [↓s_26_73, ↓s_26_74, ↓s_26_77, kd_uF, ln_uF, ai_uF, al_uF, ar_uF, zs_uF, fd_uF, kd_uA, ln_uA, fd_uA, al_uA, ar_uA, zs_uA, ai_uA, kd_uL, ln_uL, fd_uL, ai_uL, ar_uL, zs_uL, al_uL, kd_uR, ln_uR, fd_uR, ai_uR, al_uR, zs_uR, ar_uR, true_and, and_true, Option.toList_some, Option.toList_none, List.cons_append, List.nil_append, catS_nil, catS_int, catS_ref, catS_null, catS_long, cat_int, cat_ref, cat_null, Nat.reduceEqDiff, Nat.reduceLeDiff, Nat.reduceAdd, false_and, and_false, if_false, if_true, ite_true, ite_false, true_or, or_true, false_or, or_false, and_self, forall_const, true_implies, reduceCtorEq, clr_int, clr_ref, clr_null, clr_none, clr_long, va_rf_some, va_rf_none, k0, n1]
        exact hQ
      · cases hi
        simp only [↓s_26_78, ↓s_26_79, ↓s_26_82, kd_uF, ln_uF, ai_uF, al_uF, ar_uF, zs_uF, fd_uF, kd_uA, ln_uA, fd_uA, al_uA, ar_uA, zs_uA, ai_uA, kd_uL, ln_uL, fd_uL, ai_uL, ar_uL, zs_uL, al_uL, kd_uR, ln_uR, fd_uR, ai_uR, al_uR, zs_uR, ar_uR, true_and, and_true, Option.toList_some, Option.toList_none, List.cons_append, List.nil_append, catS_nil, catS_int, catS_ref, catS_null, catS_long, cat_int, cat_ref, cat_null, Nat.reduceEqDiff, Nat.reduceLeDiff, Nat.reduceAdd, false_and, and_false, if_false, if_true, ite_true, ite_false, true_or, or_true, false_or, or_false, and_self, forall_const, true_implies, reduceCtorEq, clr_int, clr_ref, clr_null, clr_none, clr_long, va_rf_some, va_rf_none, k0, n2]
        exact hQ
      · cases hi
        simp only [↓s_26_83, ↓s_26_84, ↓s_26_87, kd_uF, ln_uF, ai_uF, al_uF, ar_uF, zs_uF, fd_uF, kd_uA, ln_uA, fd_uA, al_uA, ar_uA, zs_uA, ai_uA, kd_uL, ln_uL, fd_uL, ai_uL, ar_uL, zs_uL, al_uL, kd_uR, ln_uR, fd_uR, ai_uR, al_uR, zs_uR, ar_uR, true_and, and_true, Option.toList_some, Option.toList_none, List.cons_append, List.nil_append, catS_nil, catS_int, catS_ref, catS_null, catS_long, cat_int, cat_ref, cat_null, Nat.reduceEqDiff, Nat.reduceLeDiff, Nat.reduceAdd, false_and, and_false, if_false, if_true, ite_true, ite_false, true_or, or_true, false_or, or_false, and_self, forall_const, true_implies, reduceCtorEq, clr_int, clr_ref, clr_null, clr_none, clr_long, va_rf_some, va_rf_none, k0, n3]
        exact hQ
      · cases hi
        simp only [↓s_26_88, ↓s_26_89, ↓s_26_92, kd_uF, ln_uF, ai_uF, al_uF, ar_uF, zs_uF, fd_uF, kd_uA, ln_uA, fd_uA, al_uA, ar_uA, zs_uA, ai_uA, kd_uL, ln_uL, fd_uL, ai_uL, ar_uL, zs_uL, al_uL, kd_uR, ln_uR, fd_uR, ai_uR, al_uR, zs_uR, ar_uR, true_and, and_true, Option.toList_some, Option.toList_none, List.cons_append, List.nil_append, catS_nil, catS_int, catS_ref, catS_null, catS_long, cat_int, cat_ref, cat_null, Nat.reduceEqDiff, Nat.reduceLeDiff, Nat.reduceAdd, false_and, and_false, if_false, if_true, ite_true, ite_false, true_or, or_true, false_or, or_false, and_self, forall_const, true_implies, reduceCtorEq, clr_int, clr_ref, clr_null, clr_none, clr_long, va_rf_some, va_rf_none, k0, n4]
        exact hQ
      · cases hi
        simp only [↓s_26_93, ↓s_26_94, ↓s_26_97, kd_uF, ln_uF, ai_uF, al_uF, ar_uF, zs_uF, fd_uF, kd_uA, ln_uA, fd_uA, al_uA, ar_uA, zs_uA, ai_uA, kd_uL, ln_uL, fd_uL, ai_uL, ar_uL, zs_uL, al_uL, kd_uR, ln_uR, fd_uR, ai_uR, al_uR, zs_uR, ar_uR, true_and, and_true, Option.toList_some, Option.toList_none, List.cons_append, List.nil_append, catS_nil, catS_int, catS_ref, catS_null, catS_long, cat_int, cat_ref, cat_null, Nat.reduceEqDiff, Nat.reduceLeDiff, Nat.reduceAdd, false_and, and_false, if_false, if_true, ite_true, ite_false, true_or, or_true, false_or, or_false, and_self, forall_const, true_implies, reduceCtorEq, clr_int, clr_ref, clr_null, clr_none, clr_long, va_rf_some, va_rf_none, k0, n5]
        exact hQ
      · cases hi
        have hQ' : Q (some (.int (rn (H.1 6)))) w := hQ
        by_cases c6 : H.1 6 = 0
        · rw [c6] at n6 hQ'
          rw [cRun_0] at n6
          simp only [↓s_26_98, ↓s_26_99, ↓s_26_102, ↓s_26_102n, ↓s_26_105, ↓s_26_106, ↓s_26_109, ↓s_26_110, ↓s_26_113, ↓s_26_116, kd_uF, ln_uF, ai_uF, al_uF, ar_uF, zs_uF, fd_uF, kd_uA, ln_uA, fd_uA, al_uA, ar_uA, zs_uA, ai_uA, kd_uL, ln_uL, fd_uL, ai_uL, ar_uL, zs_uL, al_uL, kd_uR, ln_uR, fd_uR, ai_uR, al_uR, zs_uR, ar_uR, true_and, and_true, Option.toList_some, Option.toList_none, List.cons_append, List.nil_append, catS_nil, catS_int, catS_ref, catS_null, catS_long, cat_int, cat_ref, cat_null, Nat.reduceEqDiff, Nat.reduceLeDiff, Nat.reduceAdd, false_and, and_false, if_false, if_true, ite_true, ite_false, true_or, or_true, false_or, or_false, and_self, forall_const, true_implies, reduceCtorEq, clr_int, clr_ref, clr_null, clr_none, clr_long, va_rf_some, va_rf_none, k0, n6]
          exact hQ'
        · rw [cRun_p c6] at n6
          have ku := (hC.2.2.2.2.2 (H.1 6 - 1) (by omega)).1.1
          have nu := (hC.2.2.2.2.2 (H.1 6 - 1) (by omega)).1.2.1
          rw [rn_pos c6] at hQ'
          simp only [↓s_26_98, ↓s_26_99, ↓s_26_102, ↓s_26_102n, ↓s_26_105, ↓s_26_106, ↓s_26_109, ↓s_26_110, ↓s_26_113, ↓s_26_116, kd_uF, ln_uF, ai_uF, al_uF, ar_uF, zs_uF, fd_uF, kd_uA, ln_uA, fd_uA, al_uA, ar_uA, zs_uA, ai_uA, kd_uL, ln_uL, fd_uL, ai_uL, ar_uL, zs_uL, al_uL, kd_uR, ln_uR, fd_uR, ai_uR, al_uR, zs_uR, ar_uR, true_and, and_true, Option.toList_some, Option.toList_none, List.cons_append, List.nil_append, catS_nil, catS_int, catS_ref, catS_null, catS_long, cat_int, cat_ref, cat_null, Nat.reduceEqDiff, Nat.reduceLeDiff, Nat.reduceAdd, false_and, and_false, if_false, if_true, ite_true, ite_false, true_or, or_true, false_or, or_false, and_self, forall_const, true_implies, reduceCtorEq, clr_int, clr_ref, clr_null, clr_none, clr_long, va_rf_some, va_rf_none, k0, n6, ku, nu]
          exact hQ'
      · cases hi
        simp only [↓s_26_117, ↓s_26_118, ↓s_26_121, kd_uF, ln_uF, ai_uF, al_uF, ar_uF, zs_uF, fd_uF, kd_uA, ln_uA, fd_uA, al_uA, ar_uA, zs_uA, ai_uA, kd_uL, ln_uL, fd_uL, ai_uL, ar_uL, zs_uL, al_uL, kd_uR, ln_uR, fd_uR, ai_uR, al_uR, zs_uR, ar_uR, true_and, and_true, Option.toList_some, Option.toList_none, List.cons_append, List.nil_append, catS_nil, catS_int, catS_ref, catS_null, catS_long, cat_int, cat_ref, cat_null, Nat.reduceEqDiff, Nat.reduceLeDiff, Nat.reduceAdd, false_and, and_false, if_false, if_true, ite_true, ite_false, true_or, or_true, false_or, or_false, and_self, forall_const, true_implies, reduceCtorEq, clr_int, clr_ref, clr_null, clr_none, clr_long, va_rf_some, va_rf_none, k0, r1]
        exact hQ
      · cases hi
        simp only [↓s_26_122, ↓s_26_123, ↓s_26_126, kd_uF, ln_uF, ai_uF, al_uF, ar_uF, zs_uF, fd_uF, kd_uA, ln_uA, fd_uA, al_uA, ar_uA, zs_uA, ai_uA, kd_uL, ln_uL, fd_uL, ai_uL, ar_uL, zs_uL, al_uL, kd_uR, ln_uR, fd_uR, ai_uR, al_uR, zs_uR, ar_uR, true_and, and_true, Option.toList_some, Option.toList_none, List.cons_append, List.nil_append, catS_nil, catS_int, catS_ref, catS_null, catS_long, cat_int, cat_ref, cat_null, Nat.reduceEqDiff, Nat.reduceLeDiff, Nat.reduceAdd, false_and, and_false, if_false, if_true, ite_true, ite_false, true_or, or_true, false_or, or_false, and_self, forall_const, true_implies, reduceCtorEq, clr_int, clr_ref, clr_null, clr_none, clr_long, va_rf_some, va_rf_none, k0, n8]
        exact hQ
      · cases hi
        simp only [↓s_26_127, ↓s_26_128, ↓s_26_131, kd_uF, ln_uF, ai_uF, al_uF, ar_uF, zs_uF, fd_uF, kd_uA, ln_uA, fd_uA, al_uA, ar_uA, zs_uA, ai_uA, kd_uL, ln_uL, fd_uL, ai_uL, ar_uL, zs_uL, al_uL, kd_uR, ln_uR, fd_uR, ai_uR, al_uR, zs_uR, ar_uR, true_and, and_true, Option.toList_some, Option.toList_none, List.cons_append, List.nil_append, catS_nil, catS_int, catS_ref, catS_null, catS_long, cat_int, cat_ref, cat_null, Nat.reduceEqDiff, Nat.reduceLeDiff, Nat.reduceAdd, false_and, and_false, if_false, if_true, ite_true, ite_false, true_or, or_true, false_or, or_false, and_self, forall_const, true_implies, reduceCtorEq, clr_int, clr_ref, clr_null, clr_none, clr_long, va_rf_some, va_rf_none, k0, n9]
        exact hQ
      · cases hi
        simp only [↓s_26_132, ↓s_26_133, ↓s_26_136, kd_uF, ln_uF, ai_uF, al_uF, ar_uF, zs_uF, fd_uF, kd_uA, ln_uA, fd_uA, al_uA, ar_uA, zs_uA, ai_uA, kd_uL, ln_uL, fd_uL, ai_uL, ar_uL, zs_uL, al_uL, kd_uR, ln_uR, fd_uR, ai_uR, al_uR, zs_uR, ar_uR, true_and, and_true, Option.toList_some, Option.toList_none, List.cons_append, List.nil_append, catS_nil, catS_int, catS_ref, catS_null, catS_long, cat_int, cat_ref, cat_null, Nat.reduceEqDiff, Nat.reduceLeDiff, Nat.reduceAdd, false_and, and_false, if_false, if_true, ite_true, ite_false, true_or, or_true, false_or, or_false, and_self, forall_const, true_implies, reduceCtorEq, clr_int, clr_ref, clr_null, clr_none, clr_long, va_rf_some, va_rf_none, k0, n10]
        exact hQ
      · exact absurd hi (by simp)
    · have hc : c_house H x = -1 := by
        have e' : rg x 11 = none := e
        unfold c_house; rw [if_neg q, e']
      rw [hc] at hQ
      simp only [↓s_26_137, ↓s_26_138, kd_uF, ln_uF, ai_uF, al_uF, ar_uF, zs_uF, fd_uF, kd_uA, ln_uA, fd_uA, al_uA, ar_uA, zs_uA, ai_uA, kd_uL, ln_uL, fd_uL, ai_uL, ar_uL, zs_uL, al_uL, kd_uR, ln_uR, fd_uR, ai_uR, al_uR, zs_uR, ar_uR, true_and, and_true, Option.toList_some, Option.toList_none, List.cons_append, List.nil_append, catS_nil, catS_int, catS_ref, catS_null, catS_long, cat_int, cat_ref, cat_null, Nat.reduceEqDiff, Nat.reduceLeDiff, Nat.reduceAdd, false_and, and_false, if_false, if_true, ite_true, ite_false, true_or, or_true, false_or, or_false, and_self, forall_const, true_implies, reduceCtorEq, clr_int, clr_ref, clr_null, clr_none, clr_long, va_rf_some, va_rf_none]
      exact hQ
  · have hc : c_house H x = -1 := by unfold c_house; rw [if_pos q]
    rw [hc] at hQ
    simp only [↓s_26_4, ↓s_26_7, ↓s_26_8, ↓s_26_9, ↓s_26_10, kd_uF, ln_uF, ai_uF, al_uF, ar_uF, zs_uF, fd_uF, kd_uA, ln_uA, fd_uA, al_uA, ar_uA, zs_uA, ai_uA, kd_uL, ln_uL, fd_uL, ai_uL, ar_uL, zs_uL, al_uL, kd_uR, ln_uR, fd_uR, ai_uR, al_uR, zs_uR, ar_uR, true_and, and_true, Option.toList_some, Option.toList_none, List.cons_append, List.nil_append, catS_nil, catS_int, catS_ref, catS_null, catS_long, cat_int, cat_ref, cat_null, Nat.reduceEqDiff, Nat.reduceLeDiff, Nat.reduceAdd, false_and, and_false, if_false, if_true, ite_true, ite_false, true_or, or_true, false_or, or_false, and_self, forall_const, true_implies, reduceCtorEq, clr_int, clr_ref, clr_null, clr_none, clr_long, va_rf_some, va_rf_none]
    exact ⟨fun q => absurd trivial q, hQ⟩
theorem sp_C_house {d : Nat} {w : aw} {x : Nat} {y : Int32} {H : hs} {Q : wQ} (hM : CM w x H) (hI : HI H) (h : Q (some (.int (c_house H y))) w) : wpD (d + 3) 96 [.ref x, .int y] w Q := by
  refine ⟨Nat.le_of_ble_eq_true rfl, ?_⟩
  show wp (d + 2) 96 Q 0 [some (.ref x), some (.int y)] [] w 0 0
  have kx := hM.1
  have fx := hM.2.1
  have kh := hM.2.2.1.1
  simp only [↓s_96_0, ↓s_96_1, ↓s_96_4, ↓s_96_5, kd_uF, ln_uF, ai_uF, al_uF, ar_uF, zs_uF, fd_uF, kd_uA, ln_uA, fd_uA, al_uA, ar_uA, zs_uA, ai_uA, kd_uL, ln_uL, fd_uL, ai_uL, ar_uL, zs_uL, al_uL, kd_uR, ln_uR, fd_uR, ai_uR, al_uR, zs_uR, ar_uR, true_and, and_true, Option.toList_some, Option.toList_none, List.cons_append, List.nil_append, catS_nil, catS_int, catS_ref, catS_null, catS_long, cat_int, cat_ref, cat_null, Nat.reduceEqDiff, Nat.reduceLeDiff, Nat.reduceAdd, false_and, and_false, if_false, if_true, ite_true, ite_false, true_or, or_true, false_or, or_false, and_self, forall_const, true_implies, reduceCtorEq, clr_int, clr_ref, clr_null, clr_none, clr_long, va_rf_some, va_rf_none, kx, fx, kh]
  refine sp_H_tell hM.2.2 hI ?_
  simp only [↓s_96_8, kd_uF, ln_uF, ai_uF, al_uF, ar_uF, zs_uF, fd_uF, kd_uA, ln_uA, fd_uA, al_uA, ar_uA, zs_uA, ai_uA, kd_uL, ln_uL, fd_uL, ai_uL, ar_uL, zs_uL, al_uL, kd_uR, ln_uR, fd_uR, ai_uR, al_uR, zs_uR, ar_uR, true_and, and_true, Option.toList_some, Option.toList_none, List.cons_append, List.nil_append, catS_nil, catS_int, catS_ref, catS_null, catS_long, cat_int, cat_ref, cat_null, Nat.reduceEqDiff, Nat.reduceLeDiff, Nat.reduceAdd, false_and, and_false, if_false, if_true, ite_true, ite_false, true_or, or_true, false_or, or_false, and_self, forall_const, true_implies, reduceCtorEq, clr_int, clr_ref, clr_null, clr_none, clr_long, va_rf_some, va_rf_none]
  exact h
theorem sp_H_inRow {d : Nat} {w : aw} {h s : Nat} {y : Int32} {H : hs} {Q2 : wQ} (hC : CAt w h H s) (hI : HI H) (h2 : Q2 (some (.int (c_row H y))) w) : wpD (d + 1) 25 [.ref h, .int y] w Q2 := by
  refine ⟨Nat.le_of_ble_eq_true rfl, ?_⟩
  have hlen := hI.len
  have h8 := hI.1
  obtain ⟨⟨s0, s1, s2, s3, s4, s5, s6, s7, s8, s9, s10⟩, n, b, ⟨r1, r2, r3⟩, i, u⟩ := hC
  show wp d 25 Q2 0 [some (.ref h), some (.int y), none] [] w 0 0
  unfold c_row at h2
  cases e : rg y H.2.1.length with
  | none =>
    rw [e] at h2
    have j21 : wp d 25 Q2 21 [some (.ref h), some (.int y), none] [] w 0 0 := by
      simp only [↓s_25_21, ↓s_25_22, kd_uF, ln_uF, ai_uF, al_uF, ar_uF, zs_uF, fd_uF, kd_uA, ln_uA, fd_uA, al_uA, ar_uA, zs_uA, ai_uA, kd_uL, ln_uL, fd_uL, ai_uL, ar_uL, zs_uL, al_uL, kd_uR, ln_uR, fd_uR, ai_uR, al_uR, zs_uR, ar_uR, true_and, and_true, Option.toList_some, Option.toList_none, List.cons_append, List.nil_append, catS_nil, catS_int, catS_ref, catS_null, catS_long, cat_int, cat_ref, cat_null, Nat.reduceEqDiff, Nat.reduceLeDiff, Nat.reduceAdd, false_and, and_false, if_false, if_true, ite_true, ite_false, true_or, or_true, false_or, or_false, and_self, forall_const, true_implies, reduceCtorEq, clr_int, clr_ref, clr_null, clr_none, clr_long, va_rf_some, va_rf_none]
      exact h2
    simp only [↓s_25_0, ↓s_25_1, ↓s_25_4, ↓s_25_5, ↓s_25_6, ↓s_25_9, ↓s_25_12, ↓s_25_13, ↓s_25_14, ↓s_25_17, ↓s_25_18, ↓s_25_23, ↓s_25_24, ↓s_25_27, ↓s_25_28, ↓s_25_29, ↓s_25_29n, ↓s_25_30, ↓s_25_30n, ↓s_25_31, ↓s_25_31n, ↓s_25_34, ↓s_25_35, ↓s_25_38, ↓s_25_38n, ↓s_25_39, ↓s_25_42, kd_uF, ln_uF, ai_uF, al_uF, ar_uF, zs_uF, fd_uF, kd_uA, ln_uA, fd_uA, al_uA, ar_uA, zs_uA, ai_uA, kd_uL, ln_uL, fd_uL, ai_uL, ar_uL, zs_uL, al_uL, kd_uR, ln_uR, fd_uR, ai_uR, al_uR, zs_uR, ar_uR, true_and, and_true, Option.toList_some, Option.toList_none, List.cons_append, List.nil_append, catS_nil, catS_int, catS_ref, catS_null, catS_long, cat_int, cat_ref, cat_null, Nat.reduceEqDiff, Nat.reduceLeDiff, Nat.reduceAdd, false_and, and_false, if_false, if_true, ite_true, ite_false, true_or, or_true, false_or, or_false, and_self, forall_const, true_implies, reduceCtorEq, clr_int, clr_ref, clr_null, clr_none, clr_long, va_rf_some, va_rf_none, s0, s2, s5, s8, r1]
    refine ⟨fun _ => j21, fun q => ⟨fun _ => j21, fun q2 => ?_⟩⟩
    exfalso
    have h0 : 0 ≤ y := Int32.not_lt.mp q
    have hx := nI_back h0
    have hl := clamp_lt y
    rw [← hx, nI_leI (by omega) (by omega)] at q2
    unfold rg at e
    rw [if_pos ⟨h0, by omega⟩] at e
    cases e
  | some k =>
    have hk := rg_in e
    have hk2 := hk.2
    rw [e] at h2
    subst hk2
    have hm : H.2.1.getD k 0 ∈ H.2.1 := by
      rw [List.getD_eq_getElem?_getD, List.getElem?_eq_getElem hk.1]
      exact List.getElem_mem hk.1
    have hv := (hI.2.2.2.2.2.2.2.2.2.1 _ hm).1
    have hu := (u (H.2.1.getD k 0) (by omega)).1
    have ku := hu.1
    have nu := hu.2.1
    simp only [↓s_25_0, ↓s_25_1, ↓s_25_4, ↓s_25_5, ↓s_25_6, ↓s_25_9, ↓s_25_12, ↓s_25_13, ↓s_25_14, ↓s_25_17, ↓s_25_18, ↓s_25_23, ↓s_25_24, ↓s_25_27, ↓s_25_28, ↓s_25_29, ↓s_25_29n, ↓s_25_30, ↓s_25_30n, ↓s_25_31, ↓s_25_31n, ↓s_25_34, ↓s_25_35, ↓s_25_38, ↓s_25_38n, ↓s_25_39, ↓s_25_42, kd_uF, ln_uF, ai_uF, al_uF, ar_uF, zs_uF, fd_uF, kd_uA, ln_uA, fd_uA, al_uA, ar_uA, zs_uA, ai_uA, kd_uL, ln_uL, fd_uL, ai_uL, ar_uL, zs_uL, al_uL, kd_uR, ln_uR, fd_uR, ai_uR, al_uR, zs_uR, ar_uR, true_and, and_true, Option.toList_some, Option.toList_none, List.cons_append, List.nil_append, catS_nil, catS_int, catS_ref, catS_null, catS_long, cat_int, cat_ref, cat_null, Nat.reduceEqDiff, Nat.reduceLeDiff, Nat.reduceAdd, false_and, and_false, if_false, if_true, ite_true, ite_false, true_or, or_true, false_or, or_false, and_self, forall_const, true_implies, reduceCtorEq, clr_int, clr_ref, clr_null, clr_none, clr_long, va_rf_some, va_rf_none, s0, s2, s5, s8, r1, clN (show k < 2147483648 by omega), r2 k hk.1, ku, nu]
    exact ⟨fun q => absurd q (nI_pos (by omega)), fun _ => ⟨fun q => absurd q (nI_ge hk.1 (by omega)), fun _ => ⟨by decide, fun _ => ⟨inR_nI (by omega) (by decide), h2⟩, fun q => absurd (nI_lt (show k < 8 by omega) (by decide)) q⟩⟩⟩
theorem sp_C_row {d : Nat} {w : aw} {x : Nat} {y : Int32} {H : hs} {Q : wQ} (hM : CM w x H) (hI : HI H) (h : Q (some (.int (c_row H y))) w) : wpD (d + 2) 97 [.ref x, .int y] w Q := by
  refine ⟨Nat.le_of_ble_eq_true rfl, ?_⟩
  show wp (d + 1) 97 Q 0 [some (.ref x), some (.int y)] [] w 0 0
  have kx := hM.1
  have fx := hM.2.1
  have kh := hM.2.2.1.1
  simp only [↓s_97_0, ↓s_97_1, ↓s_97_4, ↓s_97_5, kd_uF, ln_uF, ai_uF, al_uF, ar_uF, zs_uF, fd_uF, kd_uA, ln_uA, fd_uA, al_uA, ar_uA, zs_uA, ai_uA, kd_uL, ln_uL, fd_uL, ai_uL, ar_uL, zs_uL, al_uL, kd_uR, ln_uR, fd_uR, ai_uR, al_uR, zs_uR, ar_uR, true_and, and_true, Option.toList_some, Option.toList_none, List.cons_append, List.nil_append, catS_nil, catS_int, catS_ref, catS_null, catS_long, cat_int, cat_ref, cat_null, Nat.reduceEqDiff, Nat.reduceLeDiff, Nat.reduceAdd, false_and, and_false, if_false, if_true, ite_true, ite_false, true_or, or_true, false_or, or_false, and_self, forall_const, true_implies, reduceCtorEq, clr_int, clr_ref, clr_null, clr_none, clr_long, va_rf_some, va_rf_none, kx, fx, kh]
  refine sp_H_inRow hM.2.2 hI ?_
  simp only [↓s_97_8, kd_uF, ln_uF, ai_uF, al_uF, ar_uF, zs_uF, fd_uF, kd_uA, ln_uA, fd_uA, al_uA, ar_uA, zs_uA, ai_uA, kd_uL, ln_uL, fd_uL, ai_uL, ar_uL, zs_uL, al_uL, kd_uR, ln_uR, fd_uR, ai_uR, al_uR, zs_uR, ar_uR, true_and, and_true, Option.toList_some, Option.toList_none, List.cons_append, List.nil_append, catS_nil, catS_int, catS_ref, catS_null, catS_long, cat_int, cat_ref, cat_null, Nat.reduceEqDiff, Nat.reduceLeDiff, Nat.reduceAdd, false_and, and_false, if_false, if_true, ite_true, ite_false, true_or, or_true, false_or, or_false, and_self, forall_const, true_implies, reduceCtorEq, clr_int, clr_ref, clr_null, clr_none, clr_long, va_rf_some, va_rf_none]
  exact h
theorem sp_C_digestOf {d : Nat} {w : aw} {x v : Nat} {H : hs} {D : Int64} {Q : wQ} (hM : CM w x H) (hv : v < 8) (h : Q (some (.long (dgl (fun k => nI (uFf (H.2.2 v) k)) (dgl (fun k => nI (uMm (H.2.2 v) k)) (dgl (fun k => h_about H v k) D 12) 4096) 4096))) w) : wpD (d + 2) 99 [.ref (ub (x + 12) v), .long D] w Q := by
  refine ⟨Nat.le_of_ble_eq_true rfl, ?_⟩
  show wp (d + 1) 99 Q 0 [some (.ref (ub (x + 12) v)), some (.long D), none, none, none, none, none, none, none] [] w 0 0
  have hu := hM.u hv
  obtain ⟨y0, y1, y2, y3, y4, y5, y6, z0, z1, z2, z3, z4, z5, z6, z7, z8, z9, mw1, mw2, mw3, fw1, fw2, fw3, pw1, pw2, pw3, lin, lou⟩ := hu
  have l90 : ∀ (i k : Nat) (L : Option Value), k + i = 4096 → wp (d + 1) 99 Q 90 [some (.ref (ub (x + 12) v)), some (.long D), none, some (.long (dgl (fun k => nI (uFf (H.2.2 v) k)) (dgl (fun k => nI (uMm (H.2.2 v) k)) (dgl (fun k => h_about H v k) D 12) 4096) k)), none, some (.ref (ub (x + 12) v + 2)), some (.int (nI 4096)), some (.int (nI k)), L] [] w 0 0 := by
    intro i
    induction i with
    | zero =>
      intro k L hk
      have e : k = 4096 := by omega
      subst e
      rw [s_99_90]
      simp only [↓s_99_92, ↓s_99_94, ↓s_99_120, ↓s_99_121, kd_uF, ln_uF, ai_uF, al_uF, ar_uF, zs_uF, fd_uF, kd_uA, ln_uA, fd_uA, al_uA, ar_uA, zs_uA, ai_uA, kd_uL, ln_uL, fd_uL, ai_uL, ar_uL, zs_uL, al_uL, kd_uR, ln_uR, fd_uR, ai_uR, al_uR, zs_uR, ar_uR, true_and, and_true, Option.toList_some, Option.toList_none, List.cons_append, List.nil_append, catS_nil, catS_int, catS_ref, catS_null, catS_long, cat_int, cat_ref, cat_null, Nat.reduceEqDiff, Nat.reduceLeDiff, Nat.reduceAdd, false_and, and_false, if_false, if_true, ite_true, ite_false, true_or, or_true, false_or, or_false, and_self, forall_const, true_implies, reduceCtorEq, clr_int, clr_ref, clr_null, clr_none, clr_long, va_rf_some, va_rf_none]
      exact ⟨fun _ => h, fun q => absurd (by decide) q⟩
    | succ i ihi =>
      intro k L hk
      rw [s_99_90]
      simp only [↓s_99_92, ↓s_99_94, ↓s_99_97, ↓s_99_97n, ↓s_99_99, ↓s_99_101, ↓s_99_102, ↓s_99_104, ↓s_99_105, ↓s_99_108, ↓s_99_109, ↓s_99_111, ↓s_99_112, ↓s_99_113, ↓s_99_114, ↓s_99_117, ↓s_99_120, ↓s_99_121, kd_uF, ln_uF, ai_uF, al_uF, ar_uF, zs_uF, fd_uF, kd_uA, ln_uA, fd_uA, al_uA, ar_uA, zs_uA, ai_uA, kd_uL, ln_uL, fd_uL, ai_uL, ar_uL, zs_uL, al_uL, kd_uR, ln_uR, fd_uR, ai_uR, al_uR, zs_uR, ar_uR, true_and, and_true, Option.toList_some, Option.toList_none, List.cons_append, List.nil_append, catS_nil, catS_int, catS_ref, catS_null, catS_long, cat_int, cat_ref, cat_null, Nat.reduceEqDiff, Nat.reduceLeDiff, Nat.reduceAdd, false_and, and_false, if_false, if_true, ite_true, ite_false, true_or, or_true, false_or, or_false, and_self, forall_const, true_implies, reduceCtorEq, clr_int, clr_ref, clr_null, clr_none, clr_long, va_rf_some, va_rf_none, fw1, fw2, fw3, clN (show k < 2147483648 by omega)]
      rw [nI_1]
      exact ⟨fun q => absurd q (nI_ge (show k < 4096 by omega) (by decide)), fun _ => ⟨inR_nI (by omega) (by decide), ihi (k + 1) _ (by omega)⟩⟩
  have l46 : ∀ (i k : Nat) (L : Option Value), k + i = 4096 → wp (d + 1) 99 Q 46 [some (.ref (ub (x + 12) v)), some (.long D), none, some (.long (dgl (fun k => nI (uMm (H.2.2 v) k)) (dgl (fun k => h_about H v k) D 12) k)), none, some (.ref (ub (x + 12) v + 1)), some (.int (nI 4096)), some (.int (nI k)), L] [] w 0 0 := by
    intro i
    induction i with
    | zero =>
      intro k L hk
      have e : k = 4096 := by omega
      subst e
      rw [s_99_46]
      simp only [↓s_99_48, ↓s_99_50, ↓s_99_76, ↓s_99_77, ↓s_99_80, ↓s_99_82, ↓s_99_84, ↓s_99_85, ↓s_99_87, ↓s_99_88, kd_uF, ln_uF, ai_uF, al_uF, ar_uF, zs_uF, fd_uF, kd_uA, ln_uA, fd_uA, al_uA, ar_uA, zs_uA, ai_uA, kd_uL, ln_uL, fd_uL, ai_uL, ar_uL, zs_uL, al_uL, kd_uR, ln_uR, fd_uR, ai_uR, al_uR, zs_uR, ar_uR, true_and, and_true, Option.toList_some, Option.toList_none, List.cons_append, List.nil_append, catS_nil, catS_int, catS_ref, catS_null, catS_long, cat_int, cat_ref, cat_null, Nat.reduceEqDiff, Nat.reduceLeDiff, Nat.reduceAdd, false_and, and_false, if_false, if_true, ite_true, ite_false, true_or, or_true, false_or, or_false, and_self, forall_const, true_implies, reduceCtorEq, clr_int, clr_ref, clr_null, clr_none, clr_long, va_rf_some, va_rf_none, y0, y3, fw1, fw2]
      exact ⟨fun _ => ⟨by decide, l90 4096 0 _ (by omega)⟩, fun q => absurd (by decide) q⟩
    | succ i ihi =>
      intro k L hk
      rw [s_99_46]
      simp only [↓s_99_48, ↓s_99_50, ↓s_99_53, ↓s_99_53n, ↓s_99_55, ↓s_99_57, ↓s_99_58, ↓s_99_60, ↓s_99_61, ↓s_99_64, ↓s_99_65, ↓s_99_67, ↓s_99_68, ↓s_99_69, ↓s_99_70, ↓s_99_73, ↓s_99_76, ↓s_99_76n, ↓s_99_77, ↓s_99_80, ↓s_99_80n, ↓s_99_82, ↓s_99_82n, ↓s_99_84, ↓s_99_85, ↓s_99_87, ↓s_99_88, kd_uF, ln_uF, ai_uF, al_uF, ar_uF, zs_uF, fd_uF, kd_uA, ln_uA, fd_uA, al_uA, ar_uA, zs_uA, ai_uA, kd_uL, ln_uL, fd_uL, ai_uL, ar_uL, zs_uL, al_uL, kd_uR, ln_uR, fd_uR, ai_uR, al_uR, zs_uR, ar_uR, true_and, and_true, Option.toList_some, Option.toList_none, List.cons_append, List.nil_append, catS_nil, catS_int, catS_ref, catS_null, catS_long, cat_int, cat_ref, cat_null, Nat.reduceEqDiff, Nat.reduceLeDiff, Nat.reduceAdd, false_and, and_false, if_false, if_true, ite_true, ite_false, true_or, or_true, false_or, or_false, and_self, forall_const, true_implies, reduceCtorEq, clr_int, clr_ref, clr_null, clr_none, clr_long, va_rf_some, va_rf_none, mw1, mw2, mw3, clN (show k < 2147483648 by omega)]
      rw [nI_1]
      exact ⟨fun q => absurd q (nI_ge (show k < 4096 by omega) (by decide)), fun _ => ⟨inR_nI (by omega) (by decide), ihi (k + 1) _ (by omega)⟩⟩
  have l5 : ∀ (i k : Nat), k + i = 12 → wp (d + 1) 99 Q 5 [some (.ref (ub (x + 12) v)), some (.long D), none, some (.long (dgl (fun k => h_about H v k) D k)), none, some (.int (nI k)), none, none, none] [] w 0 0 := by
    intro i
    induction i with
    | zero =>
      intro k hk
      have e : k = 12 := by omega
      subst e
      rw [s_99_5]
      simp only [↓s_99_7, ↓s_99_9, ↓s_99_32, ↓s_99_33, ↓s_99_36, ↓s_99_38, ↓s_99_40, ↓s_99_41, ↓s_99_43, ↓s_99_44, kd_uF, ln_uF, ai_uF, al_uF, ar_uF, zs_uF, fd_uF, kd_uA, ln_uA, fd_uA, al_uA, ar_uA, zs_uA, ai_uA, kd_uL, ln_uL, fd_uL, ai_uL, ar_uL, zs_uL, al_uL, kd_uR, ln_uR, fd_uR, ai_uR, al_uR, zs_uR, ar_uR, true_and, and_true, Option.toList_some, Option.toList_none, List.cons_append, List.nil_append, catS_nil, catS_int, catS_ref, catS_null, catS_long, cat_int, cat_ref, cat_null, Nat.reduceEqDiff, Nat.reduceLeDiff, Nat.reduceAdd, false_and, and_false, if_false, if_true, ite_true, ite_false, true_or, or_true, false_or, or_false, and_self, forall_const, true_implies, reduceCtorEq, clr_int, clr_ref, clr_null, clr_none, clr_long, va_rf_some, va_rf_none, y0, y2, mw1, mw2]
      exact ⟨fun _ => ⟨by decide, l46 4096 0 _ (by omega)⟩, fun q => absurd (by decide) q⟩
    | succ i ihi =>
      intro k hk
      rw [s_99_5]
      simp only [↓s_99_7, ↓s_99_9, ↓s_99_12, ↓s_99_13, ↓s_99_16, ↓s_99_17, ↓s_99_18, ↓s_99_20, kd_uF, ln_uF, ai_uF, al_uF, ar_uF, zs_uF, fd_uF, kd_uA, ln_uA, fd_uA, al_uA, ar_uA, zs_uA, ai_uA, kd_uL, ln_uL, fd_uL, ai_uL, ar_uL, zs_uL, al_uL, kd_uR, ln_uR, fd_uR, ai_uR, al_uR, zs_uR, ar_uR, true_and, and_true, Option.toList_some, Option.toList_none, List.cons_append, List.nil_append, catS_nil, catS_int, catS_ref, catS_null, catS_long, cat_int, cat_ref, cat_null, Nat.reduceEqDiff, Nat.reduceLeDiff, Nat.reduceAdd, false_and, and_false, if_false, if_true, ite_true, ite_false, true_or, or_true, false_or, or_false, and_self, forall_const, true_implies, reduceCtorEq, clr_int, clr_ref, clr_null, clr_none, clr_long, va_rf_some, va_rf_none, y0]
      refine ⟨fun q => absurd q (nI_ge (show k < 12 by omega) (by decide)), fun _ => sp_U_tell hM.2.2 hv ?_⟩
      rw [rg_nI (by omega) (by decide)]
      simp only [↓s_99_23, ↓s_99_24, ↓s_99_25, ↓s_99_26, ↓s_99_29, kd_uF, ln_uF, ai_uF, al_uF, ar_uF, zs_uF, fd_uF, kd_uA, ln_uA, fd_uA, al_uA, ar_uA, zs_uA, ai_uA, kd_uL, ln_uL, fd_uL, ai_uL, ar_uL, zs_uL, al_uL, kd_uR, ln_uR, fd_uR, ai_uR, al_uR, zs_uR, ar_uR, true_and, and_true, Option.toList_some, Option.toList_none, List.cons_append, List.nil_append, catS_nil, catS_int, catS_ref, catS_null, catS_long, cat_int, cat_ref, cat_null, Nat.reduceEqDiff, Nat.reduceLeDiff, Nat.reduceAdd, false_and, and_false, if_false, if_true, ite_true, ite_false, true_or, or_true, false_or, or_false, and_self, forall_const, true_implies, reduceCtorEq, clr_int, clr_ref, clr_null, clr_none, clr_long, va_rf_some, va_rf_none]
      rw [nI_1]
      exact ihi (k + 1) (by omega)
  simp only [↓s_99_0, ↓s_99_1, ↓s_99_2, ↓s_99_3, kd_uF, ln_uF, ai_uF, al_uF, ar_uF, zs_uF, fd_uF, kd_uA, ln_uA, fd_uA, al_uA, ar_uA, zs_uA, ai_uA, kd_uL, ln_uL, fd_uL, ai_uL, ar_uL, zs_uL, al_uL, kd_uR, ln_uR, fd_uR, ai_uR, al_uR, zs_uR, ar_uR, true_and, and_true, Option.toList_some, Option.toList_none, List.cons_append, List.nil_append, catS_nil, catS_int, catS_ref, catS_null, catS_long, cat_int, cat_ref, cat_null, Nat.reduceEqDiff, Nat.reduceLeDiff, Nat.reduceAdd, false_and, and_false, if_false, if_true, ite_true, ite_false, true_or, or_true, false_or, or_false, and_self, forall_const, true_implies, reduceCtorEq, clr_int, clr_ref, clr_null, clr_none, clr_long, va_rf_some, va_rf_none]
  exact l5 12 0 (by omega)
theorem sp_C_digest {d : Nat} {w : aw} {x : Nat} {H : hs} {Q : wQ} (hM : CM w x H) (hI : HI H) (h : Q (some (.long (c_digest H))) w) : wpD (d + 4) 98 [.ref x] w Q := by
  refine ⟨Nat.le_of_ble_eq_true rfl, ?_⟩
  show wp (d + 3) 98 Q 0 [some (.ref x), none, none, none, none] [] w 0 0
  have h8 := hI.1
  have kx := hM.1
  have fx := hM.2.1
  have kh := hM.2.2.1.1
  have l33 : ∀ (j u : Nat) (L : Option Value), u + j = 8 → wp (d + 3) 98 Q 33 [some (.ref x), some (.long (dgu H (dgl (fun k => c_house H (nI k)) 7 11) (min u (H.1 0)))), none, some (.int (nI u)), L] [] w 0 0 := by
    intro j
    induction j with
    | zero =>
      intro u L hu
      have e : u = 8 := by omega
      subst e
      rw [s_98_33]
      simp only [↓s_98_34, ↓s_98_36, ↓s_98_67, ↓s_98_68, kd_uF, ln_uF, ai_uF, al_uF, ar_uF, zs_uF, fd_uF, kd_uA, ln_uA, fd_uA, al_uA, ar_uA, zs_uA, ai_uA, kd_uL, ln_uL, fd_uL, ai_uL, ar_uL, zs_uL, al_uL, kd_uR, ln_uR, fd_uR, ai_uR, al_uR, zs_uR, ar_uR, true_and, and_true, Option.toList_some, Option.toList_none, List.cons_append, List.nil_append, catS_nil, catS_int, catS_ref, catS_null, catS_long, cat_int, cat_ref, cat_null, Nat.reduceEqDiff, Nat.reduceLeDiff, Nat.reduceAdd, false_and, and_false, if_false, if_true, ite_true, ite_false, true_or, or_true, false_or, or_false, and_self, forall_const, true_implies, reduceCtorEq, clr_int, clr_ref, clr_null, clr_none, clr_long, va_rf_some, va_rf_none]
      rw [Nat.min_eq_right h8]
      exact ⟨fun _ => h, fun q => absurd (by decide) q⟩
    | succ j ih =>
      intro u L hu
      rw [s_98_33]
      simp only [↓s_98_34, ↓s_98_36, ↓s_98_39, ↓s_98_40, ↓s_98_43, ↓s_98_44, kd_uF, ln_uF, ai_uF, al_uF, ar_uF, zs_uF, fd_uF, kd_uA, ln_uA, fd_uA, al_uA, ar_uA, zs_uA, ai_uA, kd_uL, ln_uL, fd_uL, ai_uL, ar_uL, zs_uL, al_uL, kd_uR, ln_uR, fd_uR, ai_uR, al_uR, zs_uR, ar_uR, true_and, and_true, Option.toList_some, Option.toList_none, List.cons_append, List.nil_append, catS_nil, catS_int, catS_ref, catS_null, catS_long, cat_int, cat_ref, cat_null, Nat.reduceEqDiff, Nat.reduceLeDiff, Nat.reduceAdd, false_and, and_false, if_false, if_true, ite_true, ite_false, true_or, or_true, false_or, or_false, and_self, forall_const, true_implies, reduceCtorEq, clr_int, clr_ref, clr_null, clr_none, clr_long, va_rf_some, va_rf_none, kx, fx, kh]
      refine ⟨fun q => absurd q (nI_ge (show u < 8 by omega) (by decide)), fun _ => sp_C_userAt hM.2.2 h8 (fun k e1 e2 e3 => ?_) (fun e1 => ?_)⟩
      · have ek : k = u := by rw [nI_eq (by omega) (by omega)] at e3; omega
        subst ek
        simp only [↓s_98_47, ↓s_98_47n, ↓s_98_49, ↓s_98_49n, ↓s_98_51, ↓s_98_51n, ↓s_98_54, ↓s_98_54n, ↓s_98_56, ↓s_98_57, kd_uF, ln_uF, ai_uF, al_uF, ar_uF, zs_uF, fd_uF, kd_uA, ln_uA, fd_uA, al_uA, ar_uA, zs_uA, ai_uA, kd_uL, ln_uL, fd_uL, ai_uL, ar_uL, zs_uL, al_uL, kd_uR, ln_uR, fd_uR, ai_uR, al_uR, zs_uR, ar_uR, true_and, and_true, Option.toList_some, Option.toList_none, List.cons_append, List.nil_append, catS_nil, catS_int, catS_ref, catS_null, catS_long, cat_int, cat_ref, cat_null, Nat.reduceEqDiff, Nat.reduceLeDiff, Nat.reduceAdd, false_and, and_false, if_false, if_true, ite_true, ite_false, true_or, or_true, false_or, or_false, and_self, forall_const, true_implies, reduceCtorEq, clr_int, clr_ref, clr_null, clr_none, clr_long, va_rf_some, va_rf_none]
        refine sp_C_digestOf hM (by omega) ?_
        simp only [↓s_98_60, ↓s_98_61, ↓s_98_64, kd_uF, ln_uF, ai_uF, al_uF, ar_uF, zs_uF, fd_uF, kd_uA, ln_uA, fd_uA, al_uA, ar_uA, zs_uA, ai_uA, kd_uL, ln_uL, fd_uL, ai_uL, ar_uL, zs_uL, al_uL, kd_uR, ln_uR, fd_uR, ai_uR, al_uR, zs_uR, ar_uR, true_and, and_true, Option.toList_some, Option.toList_none, List.cons_append, List.nil_append, catS_nil, catS_int, catS_ref, catS_null, catS_long, cat_int, cat_ref, cat_null, Nat.reduceEqDiff, Nat.reduceLeDiff, Nat.reduceAdd, false_and, and_false, if_false, if_true, ite_true, ite_false, true_or, or_true, false_or, or_false, and_self, forall_const, true_implies, reduceCtorEq, clr_int, clr_ref, clr_null, clr_none, clr_long, va_rf_some, va_rf_none]
        rw [nI_1]
        have := ih (k + 1) (some (.ref (ub (x + 12) k))) (by omega)
        rw [Nat.min_eq_left (by omega)] at this ⊢
        exact this
      · have hn : ¬ u < H.1 0 := fun q => by rw [rg_nI q (by omega)] at e1; cases e1
        simp only [↓s_98_47, ↓s_98_47n, ↓s_98_49, ↓s_98_49n, ↓s_98_51, ↓s_98_51n, ↓s_98_54, ↓s_98_54n, ↓s_98_56, ↓s_98_57, ↓s_98_61, ↓s_98_64, kd_uF, ln_uF, ai_uF, al_uF, ar_uF, zs_uF, fd_uF, kd_uA, ln_uA, fd_uA, al_uA, ar_uA, zs_uA, ai_uA, kd_uL, ln_uL, fd_uL, ai_uL, ar_uL, zs_uL, al_uL, kd_uR, ln_uR, fd_uR, ai_uR, al_uR, zs_uR, ar_uR, true_and, and_true, Option.toList_some, Option.toList_none, List.cons_append, List.nil_append, catS_nil, catS_int, catS_ref, catS_null, catS_long, cat_int, cat_ref, cat_null, Nat.reduceEqDiff, Nat.reduceLeDiff, Nat.reduceAdd, false_and, and_false, if_false, if_true, ite_true, ite_false, true_or, or_true, false_or, or_false, and_self, forall_const, true_implies, reduceCtorEq, clr_int, clr_ref, clr_null, clr_none, clr_long, va_rf_some, va_rf_none]
        rw [nI_1]
        have := ih (u + 1) (some .null) (by omega)
        rw [Nat.min_eq_right (by omega)] at this ⊢
        exact this
  have l6 : ∀ (i k : Nat), k + i = 11 → wp (d + 3) 98 Q 6 [some (.ref x), some (.long (dgl (fun k => c_house H (nI k)) 7 k)), none, some (.int (nI k)), none] [] w 0 0 := by
    intro i
    induction i with
    | zero =>
      intro k hk
      have e : k = 11 := by omega
      subst e
      rw [s_98_6]
      simp only [↓s_98_7, ↓s_98_9, ↓s_98_31, ↓s_98_32, kd_uF, ln_uF, ai_uF, al_uF, ar_uF, zs_uF, fd_uF, kd_uA, ln_uA, fd_uA, al_uA, ar_uA, zs_uA, ai_uA, kd_uL, ln_uL, fd_uL, ai_uL, ar_uL, zs_uL, al_uL, kd_uR, ln_uR, fd_uR, ai_uR, al_uR, zs_uR, ar_uR, true_and, and_true, Option.toList_some, Option.toList_none, List.cons_append, List.nil_append, catS_nil, catS_int, catS_ref, catS_null, catS_long, cat_int, cat_ref, cat_null, Nat.reduceEqDiff, Nat.reduceLeDiff, Nat.reduceAdd, false_and, and_false, if_false, if_true, ite_true, ite_false, true_or, or_true, false_or, or_false, and_self, forall_const, true_implies, reduceCtorEq, clr_int, clr_ref, clr_null, clr_none, clr_long, va_rf_some, va_rf_none]
      have := l33 8 0 none (by omega)
      rw [Nat.zero_min] at this
      exact ⟨fun _ => this, fun q => absurd (by decide) q⟩
    | succ i ihi =>
      intro k hk
      rw [s_98_6]
      simp only [↓s_98_7, ↓s_98_9, ↓s_98_12, ↓s_98_13, ↓s_98_16, ↓s_98_17, ↓s_98_18, ↓s_98_19, kd_uF, ln_uF, ai_uF, al_uF, ar_uF, zs_uF, fd_uF, kd_uA, ln_uA, fd_uA, al_uA, ar_uA, zs_uA, ai_uA, kd_uL, ln_uL, fd_uL, ai_uL, ar_uL, zs_uL, al_uL, kd_uR, ln_uR, fd_uR, ai_uR, al_uR, zs_uR, ar_uR, true_and, and_true, Option.toList_some, Option.toList_none, List.cons_append, List.nil_append, catS_nil, catS_int, catS_ref, catS_null, catS_long, cat_int, cat_ref, cat_null, Nat.reduceEqDiff, Nat.reduceLeDiff, Nat.reduceAdd, false_and, and_false, if_false, if_true, ite_true, ite_false, true_or, or_true, false_or, or_false, and_self, forall_const, true_implies, reduceCtorEq, clr_int, clr_ref, clr_null, clr_none, clr_long, va_rf_some, va_rf_none, kx]
      refine ⟨fun q => absurd q (nI_ge (show k < 11 by omega) (by decide)), fun _ => sp_C_house hM hI ?_⟩
      simp only [↓s_98_22, ↓s_98_23, ↓s_98_24, ↓s_98_25, ↓s_98_28, kd_uF, ln_uF, ai_uF, al_uF, ar_uF, zs_uF, fd_uF, kd_uA, ln_uA, fd_uA, al_uA, ar_uA, zs_uA, ai_uA, kd_uL, ln_uL, fd_uL, ai_uL, ar_uL, zs_uL, al_uL, kd_uR, ln_uR, fd_uR, ai_uR, al_uR, zs_uR, ar_uR, true_and, and_true, Option.toList_some, Option.toList_none, List.cons_append, List.nil_append, catS_nil, catS_int, catS_ref, catS_null, catS_long, cat_int, cat_ref, cat_null, Nat.reduceEqDiff, Nat.reduceLeDiff, Nat.reduceAdd, false_and, and_false, if_false, if_true, ite_true, ite_false, true_or, or_true, false_or, or_false, and_self, forall_const, true_implies, reduceCtorEq, clr_int, clr_ref, clr_null, clr_none, clr_long, va_rf_some, va_rf_none]
      rw [nI_1]
      exact ihi (k + 1) (by omega)
  simp only [↓s_98_0, ↓s_98_3, ↓s_98_4, ↓s_98_5, kd_uF, ln_uF, ai_uF, al_uF, ar_uF, zs_uF, fd_uF, kd_uA, ln_uA, fd_uA, al_uA, ar_uA, zs_uA, ai_uA, kd_uL, ln_uL, fd_uL, ai_uL, ar_uL, zs_uL, al_uL, kd_uR, ln_uR, fd_uR, ai_uR, al_uR, zs_uR, ar_uR, true_and, and_true, Option.toList_some, Option.toList_none, List.cons_append, List.nil_append, catS_nil, catS_int, catS_ref, catS_null, catS_long, cat_int, cat_ref, cat_null, Nat.reduceEqDiff, Nat.reduceLeDiff, Nat.reduceAdd, false_and, and_false, if_false, if_true, ite_true, ite_false, true_or, or_true, false_or, or_false, and_self, forall_const, true_implies, reduceCtorEq, clr_int, clr_ref, clr_null, clr_none, clr_long, va_rf_some, va_rf_none]
  exact l6 11 0 (by omega)
