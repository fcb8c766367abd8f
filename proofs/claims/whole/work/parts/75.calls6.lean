theorem RU.push {w : aw} {m u c : Nat} {x : us} (h : RU w m u x) (hu : u < 8) (hl : (uIn x).length < 16) : RU (uA (uA w (m + 13) (16 * u + (uIn x).length) (nI c)) (m + 14) u (nI ((uIn x).length + 1))) m u (uInp x (uIn x ++ [c])) := by
  have hx := h
  obtain ⟨t0, t1, t2, t3, t4, t5, t6, t7, t8, t9, mm, ff, pp, il, ix, ol, ox⟩ := hx
  refine h.Inp ((TK.rf.let hl).many) ?_ (fun i hi => ?_) hu
  · rw [ai_uA, if_pos ⟨rfl, rfl⟩, List.length_append]; rfl
  · rw [ai_uA, if_neg (by omega), ai_uA]
    rw [List.length_append] at hi
    by_cases e : i = (uIn x).length
    · rw [if_pos ⟨rfl, by omega⟩, e]; simp
    · have hlt : i < (uIn x).length := by simp at hi; omega
      rw [if_neg (by omega), ix i hlt]
      simp [List.getD_eq_getElem?_getD, List.getElem?_append_left hlt]
theorem UB.push {x : us} {c : Nat} (h : UB x) (hc : c < 256) (hl : (uIn x).length < 16) : UB (uInp x (uIn x ++ [c])) :=
  h.Inp (by rw [List.length_append]; simp; omega) (fun y hy => by
    rcases List.mem_append.mp hy with q | q
    · exact h.2.2.2.2.2.2.2.2.2.2.2.2.2.1 y q
    · rw [List.mem_singleton.mp q]; exact hc)
theorem HI.key {H : hs} {u c : Nat} (hI : HI H) (hu : u < H.1 0) (hc : c < 256) (hl : (uIn (H.2.2 u)).length < 16) : HI (h_key H u c) := by
  have hB := hi_ub hI
  have h5 := hI.2.2.2.2.2.2.2.2.2.2.2.1 u
  have hI1 : HI (hU H u (uInp (H.2.2 u) (uIn (H.2.2 u) ++ [c]))) := hI.U ((hB u).push hc hl) rfl h5
  unfold h_key
  split
  · rename_i q
    have s3 : ((hU H u (uInp (H.2.2 u) (uIn (H.2.2 u) ++ [c]))).2.2 u).1 3 = 3 := by rw [hU_at]; exact q
    exact hI1.ready hu (by omega) (hI1.run (by omega))
  · exact hI1
theorem sp_R_key {d : Nat} {w : aw} {m : Nat} {u c : Int32} {H : hs} {Q : wQ} (hA : RAt w m H) (hI : HI H) (h : ∀ w', RAt w' m (c_key H u c).2 → FrM w w' m → Q (some (.int (c_key H u c).1)) w') : wpD (d + 3) 135 [.ref m, .int u, .int c] w Q := by
  refine ⟨Nat.le_of_ble_eq_true rfl, ?_⟩
  show wp (d + 2) 135 Q 0 [some (.ref m), some (.int u), some (.int c)] [] w 0 0
  have h8 := hI.1
  have hB := hi_ub hI
  obtain ⟨rk, r1, r2, r3, r4, r5, r6, r7, r8, r9, r10, r11, r12, r13, r14, r15, r16, r17, r18, r19, r20, r21, r22, r23, r24, k1, k2, k3, k4, k5, k6, k7, k8, k9, k10, k11, k12, k13, k14, k15, k16, k17, k18, k19, k20, k21, k22, k23, k24, n1, n2, n3, n4, n5, n6, n7, n8, n9, n10, n11, n12, n13, n14, n15, n16, n17, n18, n19, n20, n21, n22, n23, n24⟩ := hA.1
  have j19 : c_key H u c = (-1, H) → wp (d + 2) 135 Q 19 [some (.ref m), some (.int u), some (.int c)] [] w 0 0 := by
    intro hx
    rw [hx] at h
    simp only [↓s_135_19, ↓s_135_20, kd_uF, ln_uF, ai_uF, al_uF, ar_uF, zs_uF, fd_uF, kd_uA, ln_uA, fd_uA, al_uA, ar_uA, zs_uA, ai_uA, kd_uL, ln_uL, fd_uL, ai_uL, ar_uL, zs_uL, al_uL, kd_uR, ln_uR, fd_uR, ai_uR, al_uR, zs_uR, ar_uR, true_and, and_true, Option.toList_some, Option.toList_none, List.cons_append, List.nil_append, catS_nil, catS_int, catS_ref, catS_null, catS_long, cat_int, cat_ref, cat_null, Nat.reduceEqDiff, Nat.reduceLeDiff, Nat.reduceAdd, false_and, and_false, if_false, if_true, ite_true, ite_false, true_or, or_true, false_or, or_false, and_self, forall_const, true_implies, reduceCtorEq, clr_int, clr_ref, clr_null, clr_none, clr_long, va_rf_some, va_rf_none]
    exact h w hA FrM.rf
  simp only [↓s_135_0, ↓s_135_1, ↓s_135_2, kd_uF, ln_uF, ai_uF, al_uF, ar_uF, zs_uF, fd_uF, kd_uA, ln_uA, fd_uA, al_uA, ar_uA, zs_uA, ai_uA, kd_uL, ln_uL, fd_uL, ai_uL, ar_uL, zs_uL, al_uL, kd_uR, ln_uR, fd_uR, ai_uR, al_uR, zs_uR, ar_uR, true_and, and_true, Option.toList_some, Option.toList_none, List.cons_append, List.nil_append, catS_nil, catS_int, catS_ref, catS_null, catS_long, cat_int, cat_ref, cat_null, Nat.reduceEqDiff, Nat.reduceLeDiff, Nat.reduceAdd, false_and, and_false, if_false, if_true, ite_true, ite_false, true_or, or_true, false_or, or_false, and_self, forall_const, true_implies, reduceCtorEq, clr_int, clr_ref, clr_null, clr_none, clr_long, va_rf_some, va_rf_none, rk]
  refine sp_R_isUser hA h8 (fun k e1 e2 e3 => ?_) (fun e1 => ?_)
  · simp only [↓s_135_5, ↓s_135_8, ↓s_135_9, ↓s_135_10, ↓s_135_13, kd_uF, ln_uF, ai_uF, al_uF, ar_uF, zs_uF, fd_uF, kd_uA, ln_uA, fd_uA, al_uA, ar_uA, zs_uA, ai_uA, kd_uL, ln_uL, fd_uL, ai_uL, ar_uL, zs_uL, al_uL, kd_uR, ln_uR, fd_uR, ai_uR, al_uR, zs_uR, ar_uR, true_and, and_true, Option.toList_some, Option.toList_none, List.cons_append, List.nil_append, catS_nil, catS_int, catS_ref, catS_null, catS_long, cat_int, cat_ref, cat_null, Nat.reduceEqDiff, Nat.reduceLeDiff, Nat.reduceAdd, false_and, and_false, if_false, if_true, ite_true, ite_false, true_or, or_true, false_or, or_false, and_self, forall_const, true_implies, reduceCtorEq, clr_int, clr_ref, clr_null, clr_none, clr_long, va_rf_some, va_rf_none]
    refine ⟨fun q => absurd q (by decide), fun _ => sp_R_in (n := 256) rfl (by decide) (fun b g1 g2 g3 => ?_) (fun g1 => ?_)⟩
    · have hc : c_key H u c = if (uIn (H.2.2 k)).length = 16 then (0, hU H k (uS (H.2.2 k) 6 (((H.2.2 k).1 6 + 1) % 4096))) else (1, h_disp (h_key H k b)) := by unfold c_key; rw [e1, g1]
      have hx := ru_of hA (show k < 8 by omega)
      have hx0 := hx
      obtain ⟨t0, t1, t2, t3, t4, t5, t6, t7, t8, t9, mm, ff, pp, il, ix, ol, ox⟩ := hx
      have b3 := (hB k).2.2.2.1
      have b6 := (hB k).2.2.2.2.2.2.1
      have bl := (hB k).2.2.2.2.2.2.2.2.2.2.2.1
      have hin : inR (nI k) 8 := inR_nI (by omega) (by decide)
      rw [hc] at h
      rw [e3, g3]
      have j94 : ∀ w2 K, RAt w2 m K → HI K → FrM w w2 m → (∀ w', RAt w' m (h_disp K) → FrM w w' m → Q (some (.int 1)) w') → wp (d + 2) 135 Q 94 [some (.ref m), some (.int (nI k)), some (.int (nI b))] [] w2 0 0 := by
        intro w2 K i1 i2 i3 i4
        have rk2 := i1.1.1
        simp only [↓s_135_94, ↓s_135_95, kd_uF, ln_uF, ai_uF, al_uF, ar_uF, zs_uF, fd_uF, kd_uA, ln_uA, fd_uA, al_uA, ar_uA, zs_uA, ai_uA, kd_uL, ln_uL, fd_uL, ai_uL, ar_uL, zs_uL, al_uL, kd_uR, ln_uR, fd_uR, ai_uR, al_uR, zs_uR, ar_uR, true_and, and_true, Option.toList_some, Option.toList_none, List.cons_append, List.nil_append, catS_nil, catS_int, catS_ref, catS_null, catS_long, cat_int, cat_ref, cat_null, Nat.reduceEqDiff, Nat.reduceLeDiff, Nat.reduceAdd, false_and, and_false, if_false, if_true, ite_true, ite_false, true_or, or_true, false_or, or_false, and_self, forall_const, true_implies, reduceCtorEq, clr_int, clr_ref, clr_null, clr_none, clr_long, va_rf_some, va_rf_none, rk2]
        refine sp_R_disp' i1 i2 (fun w3 i5 i6 => ?_)
        simp only [↓s_135_98, ↓s_135_99, kd_uF, ln_uF, ai_uF, al_uF, ar_uF, zs_uF, fd_uF, kd_uA, ln_uA, fd_uA, al_uA, ar_uA, zs_uA, ai_uA, kd_uL, ln_uL, fd_uL, ai_uL, ar_uL, zs_uL, al_uL, kd_uR, ln_uR, fd_uR, ai_uR, al_uR, zs_uR, ar_uR, true_and, and_true, Option.toList_some, Option.toList_none, List.cons_append, List.nil_append, catS_nil, catS_int, catS_ref, catS_null, catS_long, cat_int, cat_ref, cat_null, Nat.reduceEqDiff, Nat.reduceLeDiff, Nat.reduceAdd, false_and, and_false, if_false, if_true, ite_true, ite_false, true_or, or_true, false_or, or_false, and_self, forall_const, true_implies, reduceCtorEq, clr_int, clr_ref, clr_null, clr_none, clr_long, va_rf_some, va_rf_none]
        exact i4 w3 i5 (i3.tr i6)
      simp only [↓s_135_16, ↓s_135_21, ↓s_135_22, ↓s_135_25, ↓s_135_26, ↓s_135_27, ↓s_135_29, ↓s_135_32, ↓s_135_33, ↓s_135_36, ↓s_135_37, ↓s_135_38, ↓s_135_41, ↓s_135_42, ↓s_135_43, ↓s_135_44, ↓s_135_45, ↓s_135_48, ↓s_135_49, ↓s_135_50, ↓s_135_51, ↓s_135_52, ↓s_135_53, ↓s_135_56, ↓s_135_58, ↓s_135_59, ↓s_135_60, ↓s_135_61, ↓s_135_64, ↓s_135_65, ↓s_135_66, ↓s_135_67, ↓s_135_68, ↓s_135_69, ↓s_135_70, ↓s_135_73, ↓s_135_74, ↓s_135_75, ↓s_135_76, ↓s_135_77, ↓s_135_78, ↓s_135_79, ↓s_135_80, ↓s_135_83, ↓s_135_84, ↓s_135_85, ↓s_135_86, ↓s_135_89, ↓s_135_90, ↓s_135_91, kd_uF, ln_uF, ai_uF, al_uF, ar_uF, zs_uF, fd_uF, kd_uA, ln_uA, fd_uA, al_uA, ar_uA, zs_uA, ai_uA, kd_uL, ln_uL, fd_uL, ai_uL, ar_uL, zs_uL, al_uL, kd_uR, ln_uR, fd_uR, ai_uR, al_uR, zs_uR, ar_uR, true_and, and_true, Option.toList_some, Option.toList_none, List.cons_append, List.nil_append, catS_nil, catS_int, catS_ref, catS_null, catS_long, cat_int, cat_ref, cat_null, Nat.reduceEqDiff, Nat.reduceLeDiff, Nat.reduceAdd, false_and, and_false, if_false, if_true, ite_true, ite_false, true_or, or_true, false_or, or_false, and_self, forall_const, true_implies, reduceCtorEq, clr_int, clr_ref, clr_null, clr_none, clr_long, va_rf_some, va_rf_none, rk, r8, k8, n8, r11, k11, n11, r13, k13, n13, r14, k14, n14, clN (show k < 2147483648 by omega), t3, t6, il, sixteen, clN (show 16 * k + (uIn (H.2.2 k)).length < 2147483648 by omega)]
      simp only [eq_false (show ¬ m = m + 6 by omega), eq_false (show ¬ m + 1 = m by omega), eq_false (show ¬ m = m + 5 by omega), false_and, if_false, nI_1]
      rw [show (16 : Int32) = nI 16 from rfl, show (3 : Int32) = nI 3 from rfl, nI_eq (by omega) (by decide), nI_eq (by omega) (by decide), m12 (by omega)]
      refine ⟨fun _ => ⟨hin, fun q => ?_, fun q => ⟨hin, hin, ?_⟩⟩, fun q => absurd q (by decide)⟩
      · have hl : (uIn (H.2.2 k)).length < 16 := by omega
        rw [if_neg q] at h
        have hT : TK w (uA (uA w (m + 13) (16 * k + (uIn (H.2.2 k)).length) (nI b)) (m + 14) k (nI ((uIn (H.2.2 k)).length + 1))) (m + 13) (m + 14) k := (TK.rf.let hl).many
        have hA1 := hA.U hB (hT.F (Or.inl ⟨rfl, rfl⟩)) (hx0.push (c := b) (by omega) hl)
        have hF1 : FrM w _ m := (hT.F (Or.inl ⟨rfl, rfl⟩)).1.M
        have hK := hI.key (u := k) e2 g2 hl
        have hI1 : HI (hU H k (uInp (H.2.2 k) (uIn (H.2.2 k) ++ [b]))) := hI.U ((hB k).push g2 hl) rfl (hI.2.2.2.2.2.2.2.2.2.2.2.1 k)
        refine ⟨hin, inR_nI (by omega) (by decide), hin, hin, hin, fun q2 => ?_, fun q2 => ?_⟩
        · have e : h_key H k b = hU H k (uInp (H.2.2 k) (uIn (H.2.2 k) ++ [b])) := by unfold h_key; rw [if_neg q2]
          rw [e] at h
          exact j94 _ _ hA1 hI1 hF1 h
        · have e : h_key H k b = h_ready (hU H k (uInp (H.2.2 k) (uIn (H.2.2 k) ++ [b]))) k := by unfold h_key; rw [if_pos q2]
          rw [e] at h hK
          have s3 : ((hU H k (uInp (H.2.2 k) (uIn (H.2.2 k) ++ [b]))).2.2 k).1 3 = 3 := by rw [hU_at]; exact q2
          refine sp_R_ready hA1 (hi_ub hI1) (by omega) (hI1.len' (u := k) e2 (by omega)) (fun w2 i1 i2 => ?_)
          simp only [kd_uF, ln_uF, ai_uF, al_uF, ar_uF, zs_uF, fd_uF, kd_uA, ln_uA, fd_uA, al_uA, ar_uA, zs_uA, ai_uA, kd_uL, ln_uL, fd_uL, ai_uL, ar_uL, zs_uL, al_uL, kd_uR, ln_uR, fd_uR, ai_uR, al_uR, zs_uR, ar_uR, true_and, and_true, Option.toList_some, Option.toList_none, List.cons_append, List.nil_append, catS_nil, catS_int, catS_ref, catS_null, catS_long, cat_int, cat_ref, cat_null, Nat.reduceEqDiff, Nat.reduceLeDiff, Nat.reduceAdd, false_and, and_false, if_false, if_true, ite_true, ite_false, true_or, or_true, false_or, or_false, and_self, forall_const, true_implies, reduceCtorEq, clr_int, clr_ref, clr_null, clr_none, clr_long, va_rf_some, va_rf_none]
          exact j94 _ _ i1 hK (hF1.tr i2) h
      · rw [if_pos q] at h
        exact h _ (hA.U hB (FrN.rf.one (by omega)) hx0.S6) (FrM.rf.A (by decide))
    · simp only [↓s_135_16, ↓s_135_21, ↓s_135_22, ↓s_135_25, ↓s_135_26, ↓s_135_27, ↓s_135_29, ↓s_135_32, ↓s_135_33, ↓s_135_36, ↓s_135_37, ↓s_135_38, ↓s_135_41, ↓s_135_42, ↓s_135_43, ↓s_135_44, ↓s_135_45, ↓s_135_48, ↓s_135_49, ↓s_135_50, ↓s_135_51, ↓s_135_52, ↓s_135_53, ↓s_135_56, ↓s_135_58, ↓s_135_59, ↓s_135_60, ↓s_135_61, ↓s_135_64, ↓s_135_65, ↓s_135_66, ↓s_135_67, ↓s_135_68, ↓s_135_69, ↓s_135_70, ↓s_135_73, ↓s_135_74, ↓s_135_75, ↓s_135_76, ↓s_135_77, ↓s_135_78, ↓s_135_79, ↓s_135_80, ↓s_135_83, ↓s_135_84, ↓s_135_85, ↓s_135_86, ↓s_135_89, ↓s_135_90, ↓s_135_91, kd_uF, ln_uF, ai_uF, al_uF, ar_uF, zs_uF, fd_uF, kd_uA, ln_uA, fd_uA, al_uA, ar_uA, zs_uA, ai_uA, kd_uL, ln_uL, fd_uL, ai_uL, ar_uL, zs_uL, al_uL, kd_uR, ln_uR, fd_uR, ai_uR, al_uR, zs_uR, ar_uR, true_and, and_true, Option.toList_some, Option.toList_none, List.cons_append, List.nil_append, catS_nil, catS_int, catS_ref, catS_null, catS_long, cat_int, cat_ref, cat_null, Nat.reduceEqDiff, Nat.reduceLeDiff, Nat.reduceAdd, false_and, and_false, if_false, if_true, ite_true, ite_false, true_or, or_true, false_or, or_false, and_self, forall_const, true_implies, reduceCtorEq, clr_int, clr_ref, clr_null, clr_none, clr_long, va_rf_some, va_rf_none, rk]
      exact ⟨fun q => absurd trivial q, j19 (by unfold c_key; rw [e1, g1])⟩
  · simp only [↓s_135_5, ↓s_135_8, ↓s_135_9, ↓s_135_10, ↓s_135_13, kd_uF, ln_uF, ai_uF, al_uF, ar_uF, zs_uF, fd_uF, kd_uA, ln_uA, fd_uA, al_uA, ar_uA, zs_uA, ai_uA, kd_uL, ln_uL, fd_uL, ai_uL, ar_uL, zs_uL, al_uL, kd_uR, ln_uR, fd_uR, ai_uR, al_uR, zs_uR, ar_uR, true_and, and_true, Option.toList_some, Option.toList_none, List.cons_append, List.nil_append, catS_nil, catS_int, catS_ref, catS_null, catS_long, cat_int, cat_ref, cat_null, Nat.reduceEqDiff, Nat.reduceLeDiff, Nat.reduceAdd, false_and, and_false, if_false, if_true, ite_true, ite_false, true_or, or_true, false_or, or_false, and_self, forall_const, true_implies, reduceCtorEq, clr_int, clr_ref, clr_null, clr_none, clr_long, va_rf_some, va_rf_none, rk]
    exact ⟨j19 (by unfold c_key; rw [e1]), fun q => absurd trivial q⟩
