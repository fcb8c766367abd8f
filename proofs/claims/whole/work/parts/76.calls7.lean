theorem sub512 {p : Nat} (h : p < 512) : nI p - 512 < 0 := by
  have e : (nI p).toInt = p := Int32.toInt_ofNat_of_lt (by omega)
  rw [Int32.lt_iff_toInt_lt, Int32.toInt_sub, e]
  show ((p : Int) - 512).bmod (2 ^ 32) < 0
  rw [Int.bmod_eq_of_le (by omega) (by omega)]
  omega
theorem not_lt_of_neg {x : Int32} {c : Nat} (h : x < 0) (hc : c < 2147483648) : ¬ nI c < x := fun q => by
  have a : (0 : Int32) ≤ nI c := nI_pos' hc
  exact absurd (Int32.lt_of_le_of_lt a q) (fun z => Int32.lt_irrefl (Int32.lt_trans z h))
theorem sp_R_letter {d : Nat} {w : aw} {m : Nat} {u i : Int32} {H : hs} {Q : wQ} (hA : RAt w m H) (hI : HI H) (hP : ∀ v, (H.2.2 v).1 8 < 2147483648) (h : Q (some (.int (c_letter H u i))) w) : wpD (d + 3) 138 [.ref m, .int u, .int i] w Q := by
  refine ⟨Nat.le_of_ble_eq_true rfl, ?_⟩
  show wp (d + 2) 138 Q 0 [some (.ref m), some (.int u), some (.int i)] [] w 0 0
  have h8 := hI.1
  obtain ⟨rk, r1, r2, r3, r4, r5, r6, r7, r8, r9, r10, r11, r12, r13, r14, r15, r16, r17, r18, r19, r20, r21, r22, r23, r24, k1, k2, k3, k4, k5, k6, k7, k8, k9, k10, k11, k12, k13, k14, k15, k16, k17, k18, k19, k20, k21, k22, k23, k24, n1, n2, n3, n4, n5, n6, n7, n8, n9, n10, n11, n12, n13, n14, n15, n16, n17, n18, n19, n20, n21, n22, n23, n24⟩ := hA.1
  have j57 : c_letter H u i = -1 → wp (d + 2) 138 Q 57 [some (.ref m), some (.int u), some (.int i)] [] w 0 0 := by
    intro hx
    rw [hx] at h
    simp only [↓s_138_57, ↓s_138_58, kd_uF, ln_uF, ai_uF, al_uF, ar_uF, zs_uF, fd_uF, kd_uA, ln_uA, fd_uA, al_uA, ar_uA, zs_uA, ai_uA, kd_uL, ln_uL, fd_uL, ai_uL, ar_uL, zs_uL, al_uL, kd_uR, ln_uR, fd_uR, ai_uR, al_uR, zs_uR, ar_uR, true_and, and_true, Option.toList_some, Option.toList_none, List.cons_append, List.nil_append, catS_nil, catS_int, catS_ref, catS_null, catS_long, cat_int, cat_ref, cat_null, Nat.reduceEqDiff, Nat.reduceLeDiff, Nat.reduceAdd, false_and, and_false, if_false, if_true, ite_true, ite_false, true_or, or_true, false_or, or_false, and_self, forall_const, true_implies, reduceCtorEq, clr_int, clr_ref, clr_null, clr_none, clr_long, va_rf_some, va_rf_none]
    exact h
  simp only [↓s_138_0, ↓s_138_1, ↓s_138_2, kd_uF, ln_uF, ai_uF, al_uF, ar_uF, zs_uF, fd_uF, kd_uA, ln_uA, fd_uA, al_uA, ar_uA, zs_uA, ai_uA, kd_uL, ln_uL, fd_uL, ai_uL, ar_uL, zs_uL, al_uL, kd_uR, ln_uR, fd_uR, ai_uR, al_uR, zs_uR, ar_uR, true_and, and_true, Option.toList_some, Option.toList_none, List.cons_append, List.nil_append, catS_nil, catS_int, catS_ref, catS_null, catS_long, cat_int, cat_ref, cat_null, Nat.reduceEqDiff, Nat.reduceLeDiff, Nat.reduceAdd, false_and, and_false, if_false, if_true, ite_true, ite_false, true_or, or_true, false_or, or_false, and_self, forall_const, true_implies, reduceCtorEq, clr_int, clr_ref, clr_null, clr_none, clr_long, va_rf_some, va_rf_none, rk]
  refine sp_R_isUser hA h8 (fun k e1 e2 e3 => ?_) (fun e1 => ?_)
  · have hp := hP k
    have ⟨t0, t1, t2, t3, t4, t5, t6, t7, t8, t9, mm, ff, pp, il, ix, ol, ox⟩ := ru_of hA (show k < 8 by omega)
    have hin : inR (nI k) 8 := inR_nI (by omega) (by decide)
    simp only [↓s_138_5, ↓s_138_8, ↓s_138_9, ↓s_138_10, ↓s_138_11, ↓s_138_14, ↓s_138_15, ↓s_138_16, ↓s_138_17, ↓s_138_18, kd_uF, ln_uF, ai_uF, al_uF, ar_uF, zs_uF, fd_uF, kd_uA, ln_uA, fd_uA, al_uA, ar_uA, zs_uA, ai_uA, kd_uL, ln_uL, fd_uL, ai_uL, ar_uL, zs_uL, al_uL, kd_uR, ln_uR, fd_uR, ai_uR, al_uR, zs_uR, ar_uR, true_and, and_true, Option.toList_some, Option.toList_none, List.cons_append, List.nil_append, catS_nil, catS_int, catS_ref, catS_null, catS_long, cat_int, cat_ref, cat_null, Nat.reduceEqDiff, Nat.reduceLeDiff, Nat.reduceAdd, false_and, and_false, if_false, if_true, ite_true, ite_false, true_or, or_true, false_or, or_false, and_self, forall_const, true_implies, reduceCtorEq, clr_int, clr_ref, clr_null, clr_none, clr_long, va_rf_some, va_rf_none, rk, r18, k18, n18, e3, clN (show k < 2147483648 by omega), t8]
    refine ⟨fun q => absurd q (by decide), fun _ => ⟨hin, sp_R_in (n := (H.2.2 k).1 8) rfl (by omega) (fun c g1 g2 g3 => ?_) (fun g1 => ?_)⟩⟩
    · have hm := Nat.mod_lt c (show 0 < 512 by decide)
      have hr : nI c - nI c / 512 * 512 = nI (c % 512) := pk_rem (d := 512) (by omega) (by decide) (by decide)
      have hs : (512 : Int32) * nI k + nI (c % 512) = nI (512 * k + c % 512) := by rw [show (512 : Int32) = nI 512 from rfl, pk_mul, nI_add]
      have hlt : nI c < nI ((H.2.2 k).1 8) - 512 ↔ ¬ (H.2.2 k).1 8 ≤ c + 512 := by
        by_cases z : 512 ≤ (H.2.2 k).1 8
        · rw [show nI ((H.2.2 k).1 8) - 512 = nI ((H.2.2 k).1 8 - 512) from pk_sub (b := 512) z, nI_ltI (by omega) (by omega)]; omega
        · refine ⟨fun q => ?_, fun q => by omega⟩
          exact absurd q (not_lt_of_neg (sub512 (by omega)) (by omega))
      rw [g3]
      simp only [↓s_138_21, ↓s_138_24, ↓s_138_25, ↓s_138_26, ↓s_138_29, ↓s_138_30, ↓s_138_31, ↓s_138_34, ↓s_138_35, ↓s_138_38, ↓s_138_39, ↓s_138_42, ↓s_138_45, ↓s_138_46, ↓s_138_47, ↓s_138_48, ↓s_138_51, ↓s_138_52, ↓s_138_53, ↓s_138_54, ↓s_138_58, kd_uF, ln_uF, ai_uF, al_uF, ar_uF, zs_uF, fd_uF, kd_uA, ln_uA, fd_uA, al_uA, ar_uA, zs_uA, ai_uA, kd_uL, ln_uL, fd_uL, ai_uL, ar_uL, zs_uL, al_uL, kd_uR, ln_uR, fd_uR, ai_uR, al_uR, zs_uR, ar_uR, true_and, and_true, Option.toList_some, Option.toList_none, List.cons_append, List.nil_append, catS_nil, catS_int, catS_ref, catS_null, catS_long, cat_int, cat_ref, cat_null, Nat.reduceEqDiff, Nat.reduceLeDiff, Nat.reduceAdd, false_and, and_false, if_false, if_true, ite_true, ite_false, true_or, or_true, false_or, or_false, and_self, forall_const, true_implies, reduceCtorEq, clr_int, clr_ref, clr_null, clr_none, clr_long, va_rf_some, va_rf_none, rk, r17, k17, n17, r18, k18, n18, clN (show k < 2147483648 by omega), t8, hr, hs, clN (show 512 * k + c % 512 < 2147483648 by omega), pp (c % 512) hm, hlt]
      refine ⟨fun q => absurd q (by decide), fun _ => ⟨hin, fun q => ?_, fun q => ?_⟩⟩
      · rw [← e3, ← g3]
        exact j57 (by unfold c_letter; rw [e1]; dsimp only; rw [g1]; dsimp only; rw [if_neg q])
      · rw [show c_letter H u i = nI (uPp (H.2.2 k) (c % 512)) from by unfold c_letter; rw [e1]; dsimp only; rw [g1]; dsimp only; rw [if_pos (by omega)]] at h
        exact ⟨by decide, inR_nI (by omega) (by decide), h⟩
    · simp only [↓s_138_21, ↓s_138_24, ↓s_138_25, ↓s_138_26, ↓s_138_29, ↓s_138_30, ↓s_138_31, ↓s_138_34, ↓s_138_35, ↓s_138_38, ↓s_138_39, ↓s_138_42, ↓s_138_45, ↓s_138_46, ↓s_138_47, ↓s_138_48, ↓s_138_51, ↓s_138_52, ↓s_138_53, ↓s_138_54, kd_uF, ln_uF, ai_uF, al_uF, ar_uF, zs_uF, fd_uF, kd_uA, ln_uA, fd_uA, al_uA, ar_uA, zs_uA, ai_uA, kd_uL, ln_uL, fd_uL, ai_uL, ar_uL, zs_uL, al_uL, kd_uR, ln_uR, fd_uR, ai_uR, al_uR, zs_uR, ar_uR, true_and, and_true, Option.toList_some, Option.toList_none, List.cons_append, List.nil_append, catS_nil, catS_int, catS_ref, catS_null, catS_long, cat_int, cat_ref, cat_null, Nat.reduceEqDiff, Nat.reduceLeDiff, Nat.reduceAdd, false_and, and_false, if_false, if_true, ite_true, ite_false, true_or, or_true, false_or, or_false, and_self, forall_const, true_implies, reduceCtorEq, clr_int, clr_ref, clr_null, clr_none, clr_long, va_rf_some, va_rf_none, rk]
      rw [← e3]
      exact ⟨j57 (by unfold c_letter; rw [e1]; dsimp only; rw [g1]), fun q => absurd trivial q⟩
  · simp only [↓s_138_5, ↓s_138_8, ↓s_138_9, ↓s_138_10, ↓s_138_11, ↓s_138_14, ↓s_138_15, ↓s_138_16, ↓s_138_17, ↓s_138_18, kd_uF, ln_uF, ai_uF, al_uF, ar_uF, zs_uF, fd_uF, kd_uA, ln_uA, fd_uA, al_uA, ar_uA, zs_uA, ai_uA, kd_uL, ln_uL, fd_uL, ai_uL, ar_uL, zs_uL, al_uL, kd_uR, ln_uR, fd_uR, ai_uR, al_uR, zs_uR, ar_uR, true_and, and_true, Option.toList_some, Option.toList_none, List.cons_append, List.nil_append, catS_nil, catS_int, catS_ref, catS_null, catS_long, cat_int, cat_ref, cat_null, Nat.reduceEqDiff, Nat.reduceLeDiff, Nat.reduceAdd, false_and, and_false, if_false, if_true, ite_true, ite_false, true_or, or_true, false_or, or_false, and_self, forall_const, true_implies, reduceCtorEq, clr_int, clr_ref, clr_null, clr_none, clr_long, va_rf_some, va_rf_none, rk]
    exact ⟨j57 (by unfold c_letter; rw [e1]), fun q => absurd trivial q⟩
