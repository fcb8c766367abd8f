/-! the reference's tick -/
theorem nI_pred' {a : Nat} (h : 1 ≤ a) : nI a - 1 = nI (a - 1) := by
  have := nI_pred (a - 1)
  rw [Nat.sub_add_cancel h] at this
  exact this
theorem sp_R_wake {d : Nat} {w : aw} {m k : Nat} {K : hs} {Q : wQ} (hA : RAt w m K) (hH : HI K) (hk : k < K.1 0) (h : ∀ w', RAt w' m (h_wake K k) → FrM w w' m → wp (d + 1) 120 Q 121 [some (.ref m), some (.int (nI k))] [] w' 0 0) : wp (d + 1) 120 Q 87 [some (.ref m), some (.int (nI k))] [] w 0 0 := by
  have hk8 : k < 8 := Nat.lt_of_lt_of_le hk hH.1
  have hB := hH.2.2.2.2.2.2.2.2.2.2.2.2
  have h5 := hH.2.2.2.2.2.2.2.2.2.2.2.1 k
  have hin : inR (nI k) 8 := inR_nI hk8 (by decide)
  have ck : (nI k).toNatClampNeg = k := clN (by omega)
  have hA0 := hA
  obtain ⟨sh, q0, q1, q2, q3, q4, q5, q6, q7, q8, q9, q10, qm, qr, qu⟩ := hA
  obtain ⟨rk, r1, r2, r3, r4, r5, r6, r7, r8, r9, r10, r11, r12, r13, r14, r15, r16, r17, r18, r19, r20, r21, r22, r23, r24, k1, k2, k3, k4, k5, k6, k7, k8, k9, k10, k11, k12, k13, k14, k15, k16, k17, k18, k19, k20, k21, k22, k23, k24, n1, n2, n3, n4, n5, n6, n7, n8, n9, n10, n11, n12, n13, n14, n15, n16, n17, n18, n19, n20, n21, n22, n23, n24⟩ := sh
  have hU := qu k hk8
  have hU0 := hU
  obtain ⟨t0, t1, t2, t3, t4, t5, t6, t7, t8, t9, mm, ff, pp, il, ix, ol, ox⟩ := hU
  have b3 := (hB k).2.2.2.1
  have b4 := (hB k).2.2.2.2.1
  simp only [↓s_120_87, ↓s_120_88, ↓s_120_91, ↓s_120_92, ↓s_120_93, ↓s_120_94, ↓s_120_97, ↓s_120_98, ↓s_120_101, ↓s_120_102, ↓s_120_103, ↓s_120_104, ↓s_120_105, ↓s_120_106, ↓s_120_107, ↓s_120_108, ↓s_120_111, ↓s_120_112, ↓s_120_113, ↓s_120_116, ↓s_120_117, ↓s_120_118, kd_uF, ln_uF, ai_uF, al_uF, ar_uF, zs_uF, fd_uF, kd_uA, ln_uA, fd_uA, al_uA, ar_uA, zs_uA, ai_uA, kd_uL, ln_uL, fd_uL, ai_uL, ar_uL, zs_uL, al_uL, kd_uR, ln_uR, fd_uR, ai_uR, al_uR, zs_uR, ar_uR, true_and, and_true, Option.toList_some, Option.toList_none, List.cons_append, List.nil_append, catS_nil, catS_int, catS_ref, catS_null, catS_long, cat_int, cat_ref, cat_null, Nat.reduceEqDiff, Nat.reduceLeDiff, Nat.reduceAdd, false_and, and_false, if_false, if_true, ite_true, ite_false, true_or, or_true, false_or, or_false, and_self, forall_const, true_implies, reduceCtorEq, clr_int, clr_ref, clr_null, clr_none, clr_long, va_rf_some, va_rf_none, rk, r8, k8, n8, r9, k9, n9, ck, t3, t4]
  rw [show (5 : Int32) = nI 5 from rfl, nI_eq (by omega) (by decide)]
  refine ⟨hin, fun q => h _ (by unfold h_wake; rw [if_neg q]; exact hA0) FrM.rf, fun q => ?_⟩
  have hs := h5 q
  rw [nI_pred' hs, show (0 : Int32) = nI 0 from rfl, nI_eq (by omega) (by decide)]
  have e1 : RAt (uA w (m + 9) k (nI ((K.2.2 k).1 4 - 1))) m (hU K k (uS (K.2.2 k) 4 ((K.2.2 k).1 4 - 1))) := hA0.U hB (FrN.rf.one (by omega)) hU0.S4
  have hl := hH.len' hk (by omega)
  refine ⟨hin, hin, hin, fun q2 => h _ (by unfold h_wake; rw [if_pos q, if_neg q2]; exact e1) (FrM.rf.A (by decide)), fun q2 => ?_⟩
  refine sp_R_ready e1 (UB_hU hB ((hB k).S4 (by omega))) hk8 hl (fun w' g1 g2 => ?_)
  simp only [kd_uF, ln_uF, ai_uF, al_uF, ar_uF, zs_uF, fd_uF, kd_uA, ln_uA, fd_uA, al_uA, ar_uA, zs_uA, ai_uA, kd_uL, ln_uL, fd_uL, ai_uL, ar_uL, zs_uL, al_uL, kd_uR, ln_uR, fd_uR, ai_uR, al_uR, zs_uR, ar_uR, true_and, and_true, Option.toList_some, Option.toList_none, List.cons_append, List.nil_append, catS_nil, catS_int, catS_ref, catS_null, catS_long, cat_int, cat_ref, cat_null, Nat.reduceEqDiff, Nat.reduceLeDiff, Nat.reduceAdd, false_and, and_false, if_false, if_true, ite_true, ite_false, true_or, or_true, false_or, or_false, and_self, forall_const, true_implies, reduceCtorEq, clr_int, clr_ref, clr_null, clr_none, clr_long, va_rf_some, va_rf_none]
  exact h w' (by unfold h_wake; rw [if_pos q, if_pos q2]; exact g1) ((FrM.rf.A (by decide)).tr g2)
theorem RU.Pap {w : aw} {m u a v : Nat} {x : us} (h : RU w m u x) (ha : a < 512) : RU (uA w (m + 17) (512 * u + a) (nI v)) m u (uPap x a v) := by
  obtain ⟨t0, t1, t2, t3, t4, t5, t6, t7, t8, t9, mm, ff, pp, il, ix, ol, ox⟩ := h
  exact ⟨by rw [ai_uA, if_neg (by omega)]; exact t0, by rw [ai_uA, if_neg (by omega)]; exact t1, by rw [ai_uA, if_neg (by omega)]; exact t2, by rw [ai_uA, if_neg (by omega)]; exact t3, by rw [ai_uA, if_neg (by omega)]; exact t4, by rw [ai_uA, if_neg (by omega)]; exact t5, by rw [ai_uA, if_neg (by omega)]; exact t6, by rw [ai_uA, if_neg (by omega)]; exact t7, by rw [ai_uA, if_neg (by omega)]; exact t8, by rw [ai_uA, if_neg (by omega)]; exact t9, fun a ha => by rw [ai_uA, if_neg (by omega)]; exact mm a ha, fun a ha => by rw [ai_uA, if_neg (by omega)]; exact ff a ha, fun c hc => by rw [ai_uA, show uPp (uPap x a v) c = va_up (uPp x) a v c from rfl]; unfold va_up; exact (if q : c = a then (by rw [if_pos ⟨rfl, by omega⟩, if_pos q]) else (by rw [if_neg (by omega), if_neg q]; exact pp c hc)), by rw [ai_uA, if_neg (by omega)]; exact il, fun i q => by rw [ai_uA, if_neg (by omega)]; exact ix i q, by rw [ai_uA, if_neg (by omega)]; exact ol, fun i q => by rw [ai_uA, if_neg (by omega)]; exact ox i q⟩
theorem FrN.pap {w w' : aw} {m u a : Nat} {x : Int32} (h : FrN w w' m u) (ha : a < 512) : FrN w (uA w' (m + 17) (512 * u + a) x) m u := ⟨h.1.pap ha, h.2⟩
theorem hU_hU {H : hs} {u : Nat} {x y : us} : hU (hU H u x) u y = hU H u y := by
  unfold hU
  have : va_up (va_up H.2.2 u x) u y = va_up H.2.2 u y := by
    funext j; unfold va_up; by_cases c : j = u
    · rw [if_pos c, if_pos c]
    · rw [if_neg c, if_neg c, if_neg c]
  show (H.1, H.2.1, va_up (va_up H.2.2 u x) u y) = _
  rw [this]
theorem UB.S8' {u : us} {v : Nat} (h : UB (uS u 8 v)) : UB u := h
theorem sp_R_print {d : Nat} {w : aw} {m k : Nat} {K : hs} {Q : wQ} (hA : RAt w m K) (hH : HI K) (hk : k < K.1 0) (hp : (K.2.2 k).1 8 < 2147483647) (h : ∀ w', RAt w' m (h_print K k) → FrM w w' m → wp (d + 1) 120 Q 87 [some (.ref m), some (.int (nI k))] [] w' 0 0) : wp (d + 1) 120 Q 20 [some (.ref m), some (.int (nI k))] [] w 0 0 := by
  have hk8 : k < 8 := Nat.lt_of_lt_of_le hk hH.1
  have hB := hH.2.2.2.2.2.2.2.2.2.2.2.2
  have hin : inR (nI k) 8 := inR_nI hk8 (by decide)
  have ck : (nI k).toNatClampNeg = k := clN (by omega)
  have hA0 := hA
  obtain ⟨sh, q0, q1, q2, q3, q4, q5, q6, q7, q8, q9, q10, qm, qr, qu⟩ := hA
  have sh0 := sh
  obtain ⟨rk, r1, r2, r3, r4, r5, r6, r7, r8, r9, r10, r11, r12, r13, r14, r15, r16, r17, r18, r19, r20, r21, r22, r23, r24, k1, k2, k3, k4, k5, k6, k7, k8, k9, k10, k11, k12, k13, k14, k15, k16, k17, k18, k19, k20, k21, k22, k23, k24, n1, n2, n3, n4, n5, n6, n7, n8, n9, n10, n11, n12, n13, n14, n15, n16, n17, n18, n19, n20, n21, n22, n23, n24⟩ := sh
  have hU := qu k hk8
  have hU0 := hU
  obtain ⟨t0, t1, t2, t3, t4, t5, t6, t7, t8, t9, mm, ff, pp, il, ix, ol, ox⟩ := hU
  have b3 := (hB k).2.2.2.1
  have b12 := (hB k).2.2.2.2.2.2.2.2.2.2.2.2.1
  simp only [↓s_120_20, ↓s_120_21, ↓s_120_24, ↓s_120_25, ↓s_120_26, ↓s_120_29, ↓s_120_30, ↓s_120_33, ↓s_120_36, ↓s_120_37, ↓s_120_38, ↓s_120_39, ↓s_120_42, ↓s_120_43, ↓s_120_44, ↓s_120_47, ↓s_120_48, ↓s_120_49, ↓s_120_50, ↓s_120_53, ↓s_120_54, ↓s_120_57, ↓s_120_58, kd_uF, ln_uF, ai_uF, al_uF, ar_uF, zs_uF, fd_uF, kd_uA, ln_uA, fd_uA, al_uA, ar_uA, zs_uA, ai_uA, kd_uL, ln_uL, fd_uL, ai_uL, ar_uL, zs_uL, al_uL, kd_uR, ln_uR, fd_uR, ai_uR, al_uR, zs_uR, ar_uR, true_and, and_true, Option.toList_some, Option.toList_none, List.cons_append, List.nil_append, catS_nil, catS_int, catS_ref, catS_null, catS_long, cat_int, cat_ref, cat_null, Nat.reduceEqDiff, Nat.reduceLeDiff, Nat.reduceAdd, false_and, and_false, if_false, if_true, ite_true, ite_false, true_or, or_true, false_or, or_false, and_self, forall_const, true_implies, reduceCtorEq, clr_int, clr_ref, clr_null, clr_none, clr_long, va_rf_some, va_rf_none, rk, r15, r16, k16, n16, r17, r18, k18, n18, ck, ol, t8]
  rw [show (0 : Int32) = nI 0 from rfl, nI_leI (by omega) (by decide)]
  cases e : uOt (K.2.2 k) with
  | nil => exact ⟨hin, fun _ => h _ (by unfold h_print; rw [e]; exact hA0) FrM.rf, fun q => absurd (Nat.le_refl 0) q⟩
  | cons c r =>
    rw [e] at ol ox b12
    refine ⟨hin, fun q => absurd q (by simp), fun _ => ⟨hin, by decide, sp_R_taken (c := c) (r := r) k15 n15 k16 n16 (by omega) hk8 ol (by simp at b12; omega) ox (fun w1 hT g1 g2 => ?_)⟩⟩
    have hx1 : RU w1 m k (uOut (K.2.2 k) r) := hU0.Out hT g1 g2 hk8
    have hA1 : RAt w1 m (hU K k (uOut (K.2.2 k) r)) := hA0.U hB (hT.F (Or.inr ⟨rfl, rfl⟩)) hx1
    have hF1 : FrM w w1 m := (hT.F (Or.inr ⟨rfl, rfl⟩)).1.M
    rw [show (512 : Int32) * nI k + (nI ((K.2.2 k).1 8) - nI ((K.2.2 k).1 8) / 512 * 512) = nI (512 * k + (K.2.2 k).1 8 % 512) from by rw [show nI ((K.2.2 k).1 8) - nI ((K.2.2 k).1 8) / 512 * 512 = nI ((K.2.2 k).1 8 % 512) from pk_rem (d := 512) (by omega) (by decide) (by decide), show (512 : Int32) = nI 512 from rfl, pk_mul, nI_add]]
    have hm := Nat.mod_lt ((K.2.2 k).1 8) (show 0 < 512 by decide)
    have hB1 : ∀ v, UB ((hU K k (uOut (K.2.2 k) r)).2.2 v) := UB_hU hB ((hB k).Out (by simp at b12; omega) (fun x hx => (hB k).2.2.2.2.2.2.2.2.2.2.2.2.2.2 x (by rw [e]; exact List.mem_cons_of_mem _ hx)))
    clear rk r1 r2 r3 r4 r5 r6 r7 r8 r9 r10 r11 r12 r13 r14 r15 r16 r17 r18 r19 r20 r21 r22 r23 r24 k1 k2 k3 k4 k5 k6 k7 k8 k9 k10 k11 k12 k13 k14 k15 k16 k17 k18 k19 k20 k21 k22 k23 k24 n1 n2 n3 n4 n5 n6 n7 n8 n9 n10 n11 n12 n13 n14 n15 n16 n17 n18 n19 n20 n21 n22 n23 n24
    obtain ⟨rk, r1, r2, r3, r4, r5, r6, r7, r8, r9, r10, r11, r12, r13, r14, r15, r16, r17, r18, r19, r20, r21, r22, r23, r24, k1, k2, k3, k4, k5, k6, k7, k8, k9, k10, k11, k12, k13, k14, k15, k16, k17, k18, k19, k20, k21, k22, k23, k24, n1, n2, n3, n4, n5, n6, n7, n8, n9, n10, n11, n12, n13, n14, n15, n16, n17, n18, n19, n20, n21, n22, n23, n24⟩ := hA1.1
    have t8' : ai w1 (m + 18) k = nI ((K.2.2 k).1 8) := hx1.2.2.2.2.2.2.2.2.1
    have t3' : ai w1 (m + 8) k = nI ((K.2.2 k).1 3) := hx1.2.2.2.1
    simp only [↓s_120_61, ↓s_120_62, ↓s_120_63, ↓s_120_66, ↓s_120_67, ↓s_120_68, ↓s_120_69, ↓s_120_70, ↓s_120_71, ↓s_120_72, ↓s_120_73, ↓s_120_76, ↓s_120_77, ↓s_120_78, ↓s_120_79, ↓s_120_82, ↓s_120_83, ↓s_120_84, kd_uF, ln_uF, ai_uF, al_uF, ar_uF, zs_uF, fd_uF, kd_uA, ln_uA, fd_uA, al_uA, ar_uA, zs_uA, ai_uA, kd_uL, ln_uL, fd_uL, ai_uL, ar_uL, zs_uL, al_uL, kd_uR, ln_uR, fd_uR, ai_uR, al_uR, zs_uR, ar_uR, true_and, and_true, Option.toList_some, Option.toList_none, List.cons_append, List.nil_append, catS_nil, catS_int, catS_ref, catS_null, catS_long, cat_int, cat_ref, cat_null, Nat.reduceEqDiff, Nat.reduceLeDiff, Nat.reduceAdd, false_and, and_false, if_false, if_true, ite_true, ite_false, true_or, or_true, false_or, or_false, and_self, forall_const, true_implies, reduceCtorEq, clr_int, clr_ref, clr_null, clr_none, clr_long, va_rf_some, va_rf_none, rk, r8, k8, n8, r17, k17, n17, r18, k18, n18, ck, t8', t3', clN (show 512 * k + (K.2.2 k).1 8 % 512 < 2147483648 by omega)]
    simp only [eq_false (show ¬ m = m + 10 by omega), eq_false (show ¬ m + 1 = m by omega), eq_false (show ¬ m = m + 9 by omega), false_and, if_false, nI_1]
    rw [show (4 : Int32) = nI 4 from rfl, nI_eq (by omega) (by decide)]
    have hA2 := hA1.U hB1 (FrN.rf.pap hm) (hx1.Pap (v := c) hm)
    rw [show hU (hU K k (uOut (K.2.2 k) r)) k (uPap (uOut (K.2.2 k) r) ((K.2.2 k).1 8 % 512) c) = hU K k (uPap (uOut (K.2.2 k) r) ((K.2.2 k).1 8 % 512) c) from hU_hU] at hA2
    have hB2 : ∀ v, UB ((hU K k (uPap (uOut (K.2.2 k) r) ((K.2.2 k).1 8 % 512) c)).2.2 v) := UB_hU hB ((hB k).paper (n := 0) e).S8'
    have hA3 := hA2.U hB2 (FrN.rf.one (k := 18) (x := nI ((K.2.2 k).1 8 + 1)) (by omega)) ((hx1.Pap (v := c) hm).S8 (v := (K.2.2 k).1 8 + 1))
    rw [hU_hU] at hA3
    have hF3 := (hF1.A (k := 17) (i := 512 * k + (K.2.2 k).1 8 % 512) (x := nI c) (by decide)).A (k := 18) (i := k) (x := nI ((K.2.2 k).1 8 + 1)) (by decide)
    refine ⟨inR_nI (by omega) (by decide), hin, hin, hin, fun q => h _ (by unfold h_print; rw [e]; dsimp only; rw [if_neg q]; exact hA3) hF3, fun q => ?_⟩
    refine sp_R_ready hA3 (UB_hU hB ((hB k).paper e)) hk8 (hH.len' hk (by omega)) (fun w' g1 g2 => ?_)
    simp only [kd_uF, ln_uF, ai_uF, al_uF, ar_uF, zs_uF, fd_uF, kd_uA, ln_uA, fd_uA, al_uA, ar_uA, zs_uA, ai_uA, kd_uL, ln_uL, fd_uL, ai_uL, ar_uL, zs_uL, al_uL, kd_uR, ln_uR, fd_uR, ai_uR, al_uR, zs_uR, ar_uR, true_and, and_true, Option.toList_some, Option.toList_none, List.cons_append, List.nil_append, catS_nil, catS_int, catS_ref, catS_null, catS_long, cat_int, cat_ref, cat_null, Nat.reduceEqDiff, Nat.reduceLeDiff, Nat.reduceAdd, false_and, and_false, if_false, if_true, ite_true, ite_false, true_or, or_true, false_or, or_false, and_self, forall_const, true_implies, reduceCtorEq, clr_int, clr_ref, clr_null, clr_none, clr_long, va_rf_some, va_rf_none]
    exact h w' (by unfold h_print; rw [e]; dsimp only; rw [if_pos q]; exact g1) (hF3.tr g2)
