def RP (w : aw) (m : Nat) (T : Nat → Nat) (e p : Nat) : Prop := RSh w m ∧ (∀ k, k < 8000 → ai w (m + 19) k = nI (T k)) ∧ fd w 556 m = .int (nI e) ∧ fd w 555 m = .int (nI p) ∧ e ≤ 8000 ∧ (∀ k, T k < 256) ∧ p ≤ e
def FrA (w w' : aw) (m : Nat) : Prop := Fr w w' m (m + 25) ∧ (∀ g, g ≠ 555 → g ≠ 557 → g ≠ 558 → fd w' g m = fd w g m) ∧ (∀ q i, ai w' q i = ai w q i) ∧ (∀ q i, al w' q i = al w q i)
theorem FrA.rf {w : aw} {m : Nat} : FrA w w m := ⟨Fr.rf, fun _ _ _ _ => rfl, fun _ _ => rfl, fun _ _ => rfl⟩
theorem FrA.tr {w w1 w2 : aw} {m : Nat} (h : FrA w w1 m) (g : FrA w1 w2 m) : FrA w w2 m := ⟨h.1.tr g.1, fun k a b c => (g.2.1 k a b c).trans (h.2.1 k a b c), fun q i => (g.2.2.1 q i).trans (h.2.2.1 q i), fun q i => (g.2.2.2 q i).trans (h.2.2.2 q i)⟩
theorem FrA.F {w w' : aw} {m g : Nat} {v : Value} (h : FrA w w' m) (hg : g = 555 ∨ g = 557 ∨ g = 558) : FrA w (uF w' g m v) m :=
  ⟨h.1.F (by omega) (by omega), fun k a b c => by rw [fd_uF, if_neg (fun q => by omega)]; exact h.2.1 k a b c, h.2.2.1, h.2.2.2⟩
theorem FrA.T {w w' : aw} {m : Nat} (h : FrA w w' m) : FrT w w' m := ⟨h.1, fun g hg => h.2.1 g (fun q => by rw [q] at hg; exact absurd hg (by decide)) (fun q => by rw [q] at hg; exact absurd hg (by decide)) (fun q => by rw [q] at hg; exact absurd hg (by decide)), fun k i _ => h.2.2.1 _ i⟩
theorem FrA.P {w w' : aw} {m e p q : Nat} {T : Nat → Nat} (h : FrA w w' m) (hP : RP w m T e p) (hq : fd w' 555 m = .int (nI q)) (hqe : q ≤ e) : RP w' m T e q := by
  obtain ⟨a, b, c, d, f, g, i⟩ := hP
  exact ⟨h.T.sh a, fun k hk => (h.2.2.1 _ _).trans (b k hk), (h.2.1 _ (by decide) (by decide) (by decide)).trans c, hq, f, g, hqe⟩
theorem RP.at_ {w : aw} {m e p q : Nat} {T : Nat → Nat} (hP : RP w m T e p) (hq : q ≤ e) : RP (uF w 555 m (.int (nI q))) m T e q := FrA.P (FrA.rf.F (Or.inl rfl)) hP (by rw [fd_uF, if_pos ⟨rfl, rfl⟩]) hq
theorem sp_R_isL {d : Nat} {w : aw} {c : Nat} {Q : wQ} (hc : c < 256) (h1 : isL c = true → Q (some (.int 1)) w) (h2 : isL c = false → Q (some (.int 0)) w) : wpD (d + 1) 144 [.int (nI c)] w Q := by
  refine ⟨Nat.le_of_ble_eq_true rfl, ?_⟩
  show wp d 144 Q 0 [some (.int (nI c))] [] w 0 0
  simp only [↓s_144_0, ↓s_144_1, ↓s_144_3, ↓s_144_6, ↓s_144_7, ↓s_144_9, ↓s_144_12, ↓s_144_13, ↓s_144_16, ↓s_144_17, kd_uF, ln_uF, ai_uF, al_uF, ar_uF, zs_uF, fd_uF, kd_uA, ln_uA, fd_uA, al_uA, ar_uA, zs_uA, ai_uA, kd_uL, ln_uL, fd_uL, ai_uL, ar_uL, zs_uL, al_uL, kd_uR, ln_uR, fd_uR, ai_uR, al_uR, zs_uR, ar_uR, true_and, and_true, Option.toList_some, Option.toList_none, List.cons_append, List.nil_append, catS_nil, catS_int, catS_ref, catS_null, catS_long, cat_int, cat_ref, cat_null, Nat.reduceEqDiff, Nat.reduceLeDiff, Nat.reduceAdd, false_and, and_false, if_false, if_true, ite_true, ite_false, true_or, or_true, false_or, or_false, and_self, forall_const, true_implies, reduceCtorEq, clr_int, clr_ref, clr_null, clr_none, clr_long, va_rf_some, va_rf_none]
  rw [show (65 : Int32) = nI 65 from rfl, show (90 : Int32) = nI 90 from rfl, nI_ltI (by omega) (by decide), nI_ltI (by decide) (by omega)]
  have n : ¬ (65 ≤ c ∧ c ≤ 90) → isL c = false := fun q => by cases e : isL c with | false => rfl | true => exact absurd (isL_iff.mp e) q
  exact ⟨fun q => ⟨rfl, h2 (n (by omega))⟩, fun q => ⟨fun q2 => ⟨rfl, h2 (n (by omega))⟩, fun q2 => ⟨rfl, h1 (isL_iff.mpr (by omega))⟩⟩⟩
theorem sp_R_isD {d : Nat} {w : aw} {c : Nat} {Q : wQ} (hc : c < 256) (h1 : isD c = true → Q (some (.int 1)) w) (h2 : isD c = false → Q (some (.int 0)) w) : wpD (d + 1) 145 [.int (nI c)] w Q := by
  refine ⟨Nat.le_of_ble_eq_true rfl, ?_⟩
  show wp d 145 Q 0 [some (.int (nI c))] [] w 0 0
  simp only [↓s_145_0, ↓s_145_1, ↓s_145_3, ↓s_145_6, ↓s_145_7, ↓s_145_9, ↓s_145_12, ↓s_145_13, ↓s_145_16, ↓s_145_17, kd_uF, ln_uF, ai_uF, al_uF, ar_uF, zs_uF, fd_uF, kd_uA, ln_uA, fd_uA, al_uA, ar_uA, zs_uA, ai_uA, kd_uL, ln_uL, fd_uL, ai_uL, ar_uL, zs_uL, al_uL, kd_uR, ln_uR, fd_uR, ai_uR, al_uR, zs_uR, ar_uR, true_and, and_true, Option.toList_some, Option.toList_none, List.cons_append, List.nil_append, catS_nil, catS_int, catS_ref, catS_null, catS_long, cat_int, cat_ref, cat_null, Nat.reduceEqDiff, Nat.reduceLeDiff, Nat.reduceAdd, false_and, and_false, if_false, if_true, ite_true, ite_false, true_or, or_true, false_or, or_false, and_self, forall_const, true_implies, reduceCtorEq, clr_int, clr_ref, clr_null, clr_none, clr_long, va_rf_some, va_rf_none]
  rw [show (48 : Int32) = nI 48 from rfl, show (57 : Int32) = nI 57 from rfl, nI_ltI (by omega) (by decide), nI_ltI (by decide) (by omega)]
  have n : ¬ (48 ≤ c ∧ c ≤ 57) → isD c = false := fun q => by cases e : isD c with | false => rfl | true => exact absurd (isD_iff.mp e) q
  exact ⟨fun q => ⟨rfl, h2 (n (by omega))⟩, fun q => ⟨fun q2 => ⟨rfl, h2 (n (by omega))⟩, fun q2 => ⟨rfl, h1 (isD_iff.mpr (by omega))⟩⟩⟩
theorem sp_R_sign {d : Nat} {w : aw} {c : Nat} {Q : wQ} (hc : c < 256) (hw : isW c = true) (h : Q (some (.int (nI (sg c)))) w) : wpD (d + 2) 146 [.int (nI c)] w Q := by
  refine ⟨Nat.le_of_ble_eq_true rfl, ?_⟩
  show wp (d + 1) 146 Q 0 [some (.int (nI c))] [] w 0 0
  simp only [↓s_146_0, ↓s_146_1, kd_uF, ln_uF, ai_uF, al_uF, ar_uF, zs_uF, fd_uF, kd_uA, ln_uA, fd_uA, al_uA, ar_uA, zs_uA, ai_uA, kd_uL, ln_uL, fd_uL, ai_uL, ar_uL, zs_uL, al_uL, kd_uR, ln_uR, fd_uR, ai_uR, al_uR, zs_uR, ar_uR, true_and, and_true, Option.toList_some, Option.toList_none, List.cons_append, List.nil_append, catS_nil, catS_int, catS_ref, catS_null, catS_long, cat_int, cat_ref, cat_null, Nat.reduceEqDiff, Nat.reduceLeDiff, Nat.reduceAdd, false_and, and_false, if_false, if_true, ite_true, ite_false, true_or, or_true, false_or, or_false, and_self, forall_const, true_implies, reduceCtorEq, clr_int, clr_ref, clr_null, clr_none, clr_long, va_rf_some, va_rf_none]
  refine sp_R_isL hc (fun q => ?_) (fun q => ?_)
  · have q' := isL_iff.mp q
    simp only [↓s_146_4, ↓s_146_7, ↓s_146_8, ↓s_146_10, ↓s_146_11, ↓s_146_12, ↓s_146_13, ↓s_146_16, ↓s_146_17, ↓s_146_19, ↓s_146_20, ↓s_146_22, ↓s_146_23, kd_uF, ln_uF, ai_uF, al_uF, ar_uF, zs_uF, fd_uF, kd_uA, ln_uA, fd_uA, al_uA, ar_uA, zs_uA, ai_uA, kd_uL, ln_uL, fd_uL, ai_uL, ar_uL, zs_uL, al_uL, kd_uR, ln_uR, fd_uR, ai_uR, al_uR, zs_uR, ar_uR, true_and, and_true, Option.toList_some, Option.toList_none, List.cons_append, List.nil_append, catS_nil, catS_int, catS_ref, catS_null, catS_long, cat_int, cat_ref, cat_null, Nat.reduceEqDiff, Nat.reduceLeDiff, Nat.reduceAdd, false_and, and_false, if_false, if_true, ite_true, ite_false, true_or, or_true, false_or, or_false, and_self, forall_const, true_implies, reduceCtorEq, clr_int, clr_ref, clr_null, clr_none, clr_long, va_rf_some, va_rf_none]
    rw [show nI c - 65 = nI (c - 65) from pk_sub (b := 65) (by omega), nI_1]
    rw [show sg c = c - 65 + 1 from by unfold sg; rw [if_pos q']; omega] at h
    exact ⟨fun q => absurd q (by decide), fun _ => h⟩
  · have q' : ¬ (65 ≤ c ∧ c ≤ 90) := fun z => by rw [isL_iff.mpr z] at q; cases q
    rw [isW_iff] at hw
    simp only [↓s_146_4, ↓s_146_7, ↓s_146_8, ↓s_146_10, ↓s_146_11, ↓s_146_12, ↓s_146_13, ↓s_146_16, ↓s_146_17, ↓s_146_19, ↓s_146_20, ↓s_146_22, ↓s_146_23, kd_uF, ln_uF, ai_uF, al_uF, ar_uF, zs_uF, fd_uF, kd_uA, ln_uA, fd_uA, al_uA, ar_uA, zs_uA, ai_uA, kd_uL, ln_uL, fd_uL, ai_uL, ar_uL, zs_uL, al_uL, kd_uR, ln_uR, fd_uR, ai_uR, al_uR, zs_uR, ar_uR, true_and, and_true, Option.toList_some, Option.toList_none, List.cons_append, List.nil_append, catS_nil, catS_int, catS_ref, catS_null, catS_long, cat_int, cat_ref, cat_null, Nat.reduceEqDiff, Nat.reduceLeDiff, Nat.reduceAdd, false_and, and_false, if_false, if_true, ite_true, ite_false, true_or, or_true, false_or, or_false, and_self, forall_const, true_implies, reduceCtorEq, clr_int, clr_ref, clr_null, clr_none, clr_long, va_rf_some, va_rf_none]
    rw [show nI c - 48 = nI (c - 48) from pk_sub (b := 48) (by omega), show (27 : Int32) = nI 27 from rfl, nI_add]
    rw [show sg c = c - 48 + 27 from by unfold sg; rw [if_neg q']; omega] at h
    exact ⟨h, fun q => absurd trivial q⟩
theorem sp_R_look {d : Nat} {w : aw} {m e p k : Nat} {T : Nat → Nat} {Q : wQ} (hP : RP w m T e p) (hk : k < 9000) (h : Q (some (.int (nI (lk T e k)))) w) : wpD (d + 1) 147 [.ref m, .int (nI k)] w Q := by
  refine ⟨Nat.le_of_ble_eq_true rfl, ?_⟩
  show wp d 147 Q 0 [some (.ref m), some (.int (nI k))] [] w 0 0
  obtain ⟨sh, tp, st, at', he, hT, hpe⟩ := hP
  obtain ⟨rk, r1, r2, r3, r4, r5, r6, r7, r8, r9, r10, r11, r12, r13, r14, r15, r16, r17, r18, r19, r20, r21, r22, r23, r24, k1, k2, k3, k4, k5, k6, k7, k8, k9, k10, k11, k12, k13, k14, k15, k16, k17, k18, k19, k20, k21, k22, k23, k24, n1, n2, n3, n4, n5, n6, n7, n8, n9, n10, n11, n12, n13, n14, n15, n16, n17, n18, n19, n20, n21, n22, n23, n24⟩ := sh
  simp only [↓s_147_0, ↓s_147_1, ↓s_147_2, ↓s_147_5, ↓s_147_8, ↓s_147_9, ↓s_147_12, ↓s_147_13, ↓s_147_14, ↓s_147_17, ↓s_147_18, kd_uF, ln_uF, ai_uF, al_uF, ar_uF, zs_uF, fd_uF, kd_uA, ln_uA, fd_uA, al_uA, ar_uA, zs_uA, ai_uA, kd_uL, ln_uL, fd_uL, ai_uL, ar_uL, zs_uL, al_uL, kd_uR, ln_uR, fd_uR, ai_uR, al_uR, zs_uR, ar_uR, true_and, and_true, Option.toList_some, Option.toList_none, List.cons_append, List.nil_append, catS_nil, catS_int, catS_ref, catS_null, catS_long, cat_int, cat_ref, cat_null, Nat.reduceEqDiff, Nat.reduceLeDiff, Nat.reduceAdd, false_and, and_false, if_false, if_true, ite_true, ite_false, true_or, or_true, false_or, or_false, and_self, forall_const, true_implies, reduceCtorEq, clr_int, clr_ref, clr_null, clr_none, clr_long, va_rf_some, va_rf_none, rk, st, r19, k19, n19, clN (show k < 2147483648 by omega)]
  rw [nI_leI (by omega) (by omega)]
  refine ⟨fun q => ?_, fun q => ⟨inR_nI (by omega) (by decide), ?_⟩⟩
  · rw [lk_out q] at h; exact h
  · rw [tp k (by omega)]
    rw [lk_in (by omega)] at h; exact h
theorem sp_R_blanks {d : Nat} {w : aw} {m e p : Nat} {T : Nat → Nat} {Q : wQ} (hP : RP w m T e p) (h : ∀ w', RP w' m T e (bE T e p) → FrA w w' m → (∀ g, g ≠ 555 → fd w' g m = fd w g m) → Q none w') : wpD (d + 1) 148 [.ref m] w Q := by
  refine ⟨Nat.le_of_ble_eq_true rfl, ?_⟩
  show wp d 148 Q 0 [some (.ref m)] [] w 0 0
  have lp : ∀ (k p2 : Nat) (w1 : aw), p2 + k = e → bE T e p2 = bE T e p → RP w1 m T e p2 → FrA w w1 m → (∀ g, g ≠ 555 → fd w1 g m = fd w g m) → wp d 148 Q 0 [some (.ref m)] [] w1 0 0 := by
    intro k
    induction k with
    | zero =>
      intro p2 w1 hk hb hP1 f1 g1
      have hP0 := hP1
      obtain ⟨sh, tp, st, at', he, hT, hpe⟩ := hP1
      have rk := sh.1
      rw [s_148_0]
      simp only [↓s_148_1, ↓s_148_4, ↓s_148_5, ↓s_148_8, ↓s_148_52, kd_uF, ln_uF, ai_uF, al_uF, ar_uF, zs_uF, fd_uF, kd_uA, ln_uA, fd_uA, al_uA, ar_uA, zs_uA, ai_uA, kd_uL, ln_uL, fd_uL, ai_uL, ar_uL, zs_uL, al_uL, kd_uR, ln_uR, fd_uR, ai_uR, al_uR, zs_uR, ar_uR, true_and, and_true, Option.toList_some, Option.toList_none, List.cons_append, List.nil_append, catS_nil, catS_int, catS_ref, catS_null, catS_long, cat_int, cat_ref, cat_null, Nat.reduceEqDiff, Nat.reduceLeDiff, Nat.reduceAdd, false_and, and_false, if_false, if_true, ite_true, ite_false, true_or, or_true, false_or, or_false, and_self, forall_const, true_implies, reduceCtorEq, clr_int, clr_ref, clr_null, clr_none, clr_long, va_rf_some, va_rf_none, rk, st, at']
      have e0 : p2 = e := by omega
      subst e0
      refine ⟨fun _ => h w1 ?_ f1 g1, fun q => absurd (nI_le (Nat.le_refl _) (by omega)) q⟩
      rw [← hb, bE_no (fun q => absurd q (Nat.lt_irrefl _))]; exact hP0
    | succ k ih =>
      intro p2 w1 hk hb hP1 f1 g1
      have hP0 := hP1
      obtain ⟨sh, tp, st, at', he, hT, hpe⟩ := hP1
      obtain ⟨rk, r1, r2, r3, r4, r5, r6, r7, r8, r9, r10, r11, r12, r13, r14, r15, r16, r17, r18, r19, r20, r21, r22, r23, r24, k1, k2, k3, k4, k5, k6, k7, k8, k9, k10, k11, k12, k13, k14, k15, k16, k17, k18, k19, k20, k21, k22, k23, k24, n1, n2, n3, n4, n5, n6, n7, n8, n9, n10, n11, n12, n13, n14, n15, n16, n17, n18, n19, n20, n21, n22, n23, n24⟩ := sh
      have hc := hT p2
      rw [s_148_0]
      simp only [↓s_148_1, ↓s_148_4, ↓s_148_5, ↓s_148_8, ↓s_148_11, ↓s_148_12, ↓s_148_15, ↓s_148_16, ↓s_148_19, ↓s_148_20, ↓s_148_22, ↓s_148_25, ↓s_148_26, ↓s_148_29, ↓s_148_30, ↓s_148_33, ↓s_148_34, ↓s_148_36, ↓s_148_39, ↓s_148_40, ↓s_148_41, ↓s_148_44, ↓s_148_45, ↓s_148_46, ↓s_148_49, ↓s_148_52, kd_uF, ln_uF, ai_uF, al_uF, ar_uF, zs_uF, fd_uF, kd_uA, ln_uA, fd_uA, al_uA, ar_uA, zs_uA, ai_uA, kd_uL, ln_uL, fd_uL, ai_uL, ar_uL, zs_uL, al_uL, kd_uR, ln_uR, fd_uR, ai_uR, al_uR, zs_uR, ar_uR, true_and, and_true, Option.toList_some, Option.toList_none, List.cons_append, List.nil_append, catS_nil, catS_int, catS_ref, catS_null, catS_long, cat_int, cat_ref, cat_null, Nat.reduceEqDiff, Nat.reduceLeDiff, Nat.reduceAdd, false_and, and_false, if_false, if_true, ite_true, ite_false, true_or, or_true, false_or, or_false, and_self, forall_const, true_implies, reduceCtorEq, clr_int, clr_ref, clr_null, clr_none, clr_long, va_rf_some, va_rf_none, rk, st, at', r19, k19, n19, clN (show p2 < 2147483648 by omega), tp p2 (by omega)]
      rw [show (32 : Int32) = nI 32 from rfl, show (9 : Int32) = nI 9 from rfl, nI_eq (by omega) (by decide), nI_eq (by omega) (by decide), nI_1]
      have go : isB (T p2) = true → wp d 148 Q 0 [some (.ref m)] [] (uF w1 555 m (.int (nI (p2 + 1)))) 0 0 := fun q =>
        ih (p2 + 1) _ (by omega) (by rw [← hb, bE_go (by omega) q]) (hP0.at_ (by omega)) (f1.F (Or.inl rfl)) (fun g hg => by rw [fd_uF, if_neg (fun q => hg q.1)]; exact g1 g hg)
      have hin : inR (nI p2) 8000 := inR_nI (by omega) (by decide)
      refine ⟨fun q => absurd q (nI_ge (by omega) (by omega)), fun _ => ⟨hin, fun q => go (isB_iff.mpr (Or.inl q)), fun q => ⟨hin, fun q2 => ?_, fun q2 => go (isB_iff.mpr (Or.inr q2))⟩⟩⟩
      have hn : isB (T p2) = false := by
        cases c : isB (T p2) with
        | false => rfl
        | true => rcases isB_iff.mp c with z | z <;> omega
      refine h w1 ?_ f1 g1
      rw [← hb, bE_no (fun _ => hn)]; exact hP0
  exact lp (e - p) p w (by have := hP.2.2.2.2.2.2; omega) rfl hP FrA.rf (fun _ _ => rfl)
theorem sp_R_wordEnd {d : Nat} {w : aw} {m e p k : Nat} {T : Nat → Nat} {Q : wQ} (hP : RP w m T e p) (hk : k < 9000) (h : Q (some (.int (nI (wE T e k)))) w) : wpD (d + 2) 149 [.ref m, .int (nI k)] w Q := by
  refine ⟨Nat.le_of_ble_eq_true rfl, ?_⟩
  show wp (d + 1) 149 Q 0 [some (.ref m), some (.int (nI k)), none] [] w 0 0
  obtain ⟨sh, tp, st, at', he, hT, hpe⟩ := hP
  obtain ⟨rk, r1, r2, r3, r4, r5, r6, r7, r8, r9, r10, r11, r12, r13, r14, r15, r16, r17, r18, r19, r20, r21, r22, r23, r24, k1, k2, k3, k4, k5, k6, k7, k8, k9, k10, k11, k12, k13, k14, k15, k16, k17, k18, k19, k20, k21, k22, k23, k24, n1, n2, n3, n4, n5, n6, n7, n8, n9, n10, n11, n12, n13, n14, n15, n16, n17, n18, n19, n20, n21, n22, n23, n24⟩ := sh
  have j40 : ∀ p2, wE T e k = p2 → wp (d + 1) 149 Q 40 [some (.ref m), some (.int (nI k)), some (.int (nI p2))] [] w 0 0 := by
    intro p2 hp2
    simp only [↓s_149_40, ↓s_149_41, kd_uF, ln_uF, ai_uF, al_uF, ar_uF, zs_uF, fd_uF, kd_uA, ln_uA, fd_uA, al_uA, ar_uA, zs_uA, ai_uA, kd_uL, ln_uL, fd_uL, ai_uL, ar_uL, zs_uL, al_uL, kd_uR, ln_uR, fd_uR, ai_uR, al_uR, zs_uR, ar_uR, true_and, and_true, Option.toList_some, Option.toList_none, List.cons_append, List.nil_append, catS_nil, catS_int, catS_ref, catS_null, catS_long, cat_int, cat_ref, cat_null, Nat.reduceEqDiff, Nat.reduceLeDiff, Nat.reduceAdd, false_and, and_false, if_false, if_true, ite_true, ite_false, true_or, or_true, false_or, or_false, and_self, forall_const, true_implies, reduceCtorEq, clr_int, clr_ref, clr_null, clr_none, clr_long, va_rf_some, va_rf_none]
    rw [← hp2]; exact h
  have lp : ∀ (j p2 : Nat), e ≤ p2 + j → p2 < 9000 → wE T e p2 = wE T e k → wp (d + 1) 149 Q 2 [some (.ref m), some (.int (nI k)), some (.int (nI p2))] [] w 0 0 := by
    intro j
    induction j with
    | zero =>
      intro p2 hj hp2 hb
      rw [s_149_2]
      simp only [↓s_149_3, ↓s_149_4, ↓s_149_7, kd_uF, ln_uF, ai_uF, al_uF, ar_uF, zs_uF, fd_uF, kd_uA, ln_uA, fd_uA, al_uA, ar_uA, zs_uA, ai_uA, kd_uL, ln_uL, fd_uL, ai_uL, ar_uL, zs_uL, al_uL, kd_uR, ln_uR, fd_uR, ai_uR, al_uR, zs_uR, ar_uR, true_and, and_true, Option.toList_some, Option.toList_none, List.cons_append, List.nil_append, catS_nil, catS_int, catS_ref, catS_null, catS_long, cat_int, cat_ref, cat_null, Nat.reduceEqDiff, Nat.reduceLeDiff, Nat.reduceAdd, false_and, and_false, if_false, if_true, ite_true, ite_false, true_or, or_true, false_or, or_false, and_self, forall_const, true_implies, reduceCtorEq, clr_int, clr_ref, clr_null, clr_none, clr_long, va_rf_some, va_rf_none, rk, st]
      exact ⟨fun _ => j40 p2 (by rw [← hb, wE_no (fun q => by omega)]), fun q => absurd (nI_le (by omega) (by omega)) q⟩
    | succ j ih =>
      intro p2 hj hp2 hb
      by_cases c : p2 < e
      · have hc := hT p2
        have hin : inR (nI p2) 8000 := inR_nI (by omega) (by decide)
        have cl : (nI p2).toNatClampNeg = p2 := clN (by omega)
        rw [s_149_2]
        simp only [↓s_149_3, ↓s_149_4, ↓s_149_7, ↓s_149_10, ↓s_149_11, ↓s_149_14, ↓s_149_15, ↓s_149_16, kd_uF, ln_uF, ai_uF, al_uF, ar_uF, zs_uF, fd_uF, kd_uA, ln_uA, fd_uA, al_uA, ar_uA, zs_uA, ai_uA, kd_uL, ln_uL, fd_uL, ai_uL, ar_uL, zs_uL, al_uL, kd_uR, ln_uR, fd_uR, ai_uR, al_uR, zs_uR, ar_uR, true_and, and_true, Option.toList_some, Option.toList_none, List.cons_append, List.nil_append, catS_nil, catS_int, catS_ref, catS_null, catS_long, cat_int, cat_ref, cat_null, Nat.reduceEqDiff, Nat.reduceLeDiff, Nat.reduceAdd, false_and, and_false, if_false, if_true, ite_true, ite_false, true_or, or_true, false_or, or_false, and_self, forall_const, true_implies, reduceCtorEq, clr_int, clr_ref, clr_null, clr_none, clr_long, va_rf_some, va_rf_none, rk, st, r19, k19, n19, cl, tp p2 (by omega)]
        have go : isW (T p2) = true → wp (d + 1) 149 Q 34 [some (.ref m), some (.int (nI k)), some (.int (nI p2))] [] w 0 0 := by
          intro q
          simp only [↓s_149_34, ↓s_149_37, kd_uF, ln_uF, ai_uF, al_uF, ar_uF, zs_uF, fd_uF, kd_uA, ln_uA, fd_uA, al_uA, ar_uA, zs_uA, ai_uA, kd_uL, ln_uL, fd_uL, ai_uL, ar_uL, zs_uL, al_uL, kd_uR, ln_uR, fd_uR, ai_uR, al_uR, zs_uR, ar_uR, true_and, and_true, Option.toList_some, Option.toList_none, List.cons_append, List.nil_append, catS_nil, catS_int, catS_ref, catS_null, catS_long, cat_int, cat_ref, cat_null, Nat.reduceEqDiff, Nat.reduceLeDiff, Nat.reduceAdd, false_and, and_false, if_false, if_true, ite_true, ite_false, true_or, or_true, false_or, or_false, and_self, forall_const, true_implies, reduceCtorEq, clr_int, clr_ref, clr_null, clr_none, clr_long, va_rf_some, va_rf_none]
          rw [nI_1]
          exact ih (p2 + 1) (by omega) (by omega) (by rw [← hb, wE_go c q])
        refine ⟨fun q => absurd q (nI_ge (by omega) (by omega)), fun _ => ⟨hin, sp_R_isL hc (fun q => ?_) (fun q => ?_)⟩⟩
        · simp only [↓s_149_19, ↓s_149_22, ↓s_149_23, ↓s_149_26, ↓s_149_27, ↓s_149_28, kd_uF, ln_uF, ai_uF, al_uF, ar_uF, zs_uF, fd_uF, kd_uA, ln_uA, fd_uA, al_uA, ar_uA, zs_uA, ai_uA, kd_uL, ln_uL, fd_uL, ai_uL, ar_uL, zs_uL, al_uL, kd_uR, ln_uR, fd_uR, ai_uR, al_uR, zs_uR, ar_uR, true_and, and_true, Option.toList_some, Option.toList_none, List.cons_append, List.nil_append, catS_nil, catS_int, catS_ref, catS_null, catS_long, cat_int, cat_ref, cat_null, Nat.reduceEqDiff, Nat.reduceLeDiff, Nat.reduceAdd, false_and, and_false, if_false, if_true, ite_true, ite_false, true_or, or_true, false_or, or_false, and_self, forall_const, true_implies, reduceCtorEq, clr_int, clr_ref, clr_null, clr_none, clr_long, va_rf_some, va_rf_none, rk, r19, k19, n19, cl, tp p2 (by omega)]
          exact ⟨fun _ => go (by unfold isW; rw [q]; rfl), fun q => absurd q (by decide)⟩
        · simp only [↓s_149_19, ↓s_149_22, ↓s_149_23, ↓s_149_26, ↓s_149_27, ↓s_149_28, kd_uF, ln_uF, ai_uF, al_uF, ar_uF, zs_uF, fd_uF, kd_uA, ln_uA, fd_uA, al_uA, ar_uA, zs_uA, ai_uA, kd_uL, ln_uL, fd_uL, ai_uL, ar_uL, zs_uL, al_uL, kd_uR, ln_uR, fd_uR, ai_uR, al_uR, zs_uR, ar_uR, true_and, and_true, Option.toList_some, Option.toList_none, List.cons_append, List.nil_append, catS_nil, catS_int, catS_ref, catS_null, catS_long, cat_int, cat_ref, cat_null, Nat.reduceEqDiff, Nat.reduceLeDiff, Nat.reduceAdd, false_and, and_false, if_false, if_true, ite_true, ite_false, true_or, or_true, false_or, or_false, and_self, forall_const, true_implies, reduceCtorEq, clr_int, clr_ref, clr_null, clr_none, clr_long, va_rf_some, va_rf_none, rk, r19, k19, n19, cl, tp p2 (by omega)]
          refine ⟨fun q => absurd trivial q, hin, sp_R_isD hc (fun q2 => ?_) (fun q2 => ?_)⟩
          · simp only [↓s_149_31, kd_uF, ln_uF, ai_uF, al_uF, ar_uF, zs_uF, fd_uF, kd_uA, ln_uA, fd_uA, al_uA, ar_uA, zs_uA, ai_uA, kd_uL, ln_uL, fd_uL, ai_uL, ar_uL, zs_uL, al_uL, kd_uR, ln_uR, fd_uR, ai_uR, al_uR, zs_uR, ar_uR, true_and, and_true, Option.toList_some, Option.toList_none, List.cons_append, List.nil_append, catS_nil, catS_int, catS_ref, catS_null, catS_long, cat_int, cat_ref, cat_null, Nat.reduceEqDiff, Nat.reduceLeDiff, Nat.reduceAdd, false_and, and_false, if_false, if_true, ite_true, ite_false, true_or, or_true, false_or, or_false, and_self, forall_const, true_implies, reduceCtorEq, clr_int, clr_ref, clr_null, clr_none, clr_long, va_rf_some, va_rf_none]
            exact ⟨fun q => absurd q (by decide), fun _ => go (by unfold isW; rw [q2, Bool.or_true])⟩
          · simp only [↓s_149_31, kd_uF, ln_uF, ai_uF, al_uF, ar_uF, zs_uF, fd_uF, kd_uA, ln_uA, fd_uA, al_uA, ar_uA, zs_uA, ai_uA, kd_uL, ln_uL, fd_uL, ai_uL, ar_uL, zs_uL, al_uL, kd_uR, ln_uR, fd_uR, ai_uR, al_uR, zs_uR, ar_uR, true_and, and_true, Option.toList_some, Option.toList_none, List.cons_append, List.nil_append, catS_nil, catS_int, catS_ref, catS_null, catS_long, cat_int, cat_ref, cat_null, Nat.reduceEqDiff, Nat.reduceLeDiff, Nat.reduceAdd, false_and, and_false, if_false, if_true, ite_true, ite_false, true_or, or_true, false_or, or_false, and_self, forall_const, true_implies, reduceCtorEq, clr_int, clr_ref, clr_null, clr_none, clr_long, va_rf_some, va_rf_none]
            exact ⟨j40 p2 (by rw [← hb, wE_no (fun _ => by unfold isW; rw [q, q2]; rfl)]), fun q => absurd trivial q⟩
      · rw [s_149_2]
        simp only [↓s_149_3, ↓s_149_4, ↓s_149_7, kd_uF, ln_uF, ai_uF, al_uF, ar_uF, zs_uF, fd_uF, kd_uA, ln_uA, fd_uA, al_uA, ar_uA, zs_uA, ai_uA, kd_uL, ln_uL, fd_uL, ai_uL, ar_uL, zs_uL, al_uL, kd_uR, ln_uR, fd_uR, ai_uR, al_uR, zs_uR, ar_uR, true_and, and_true, Option.toList_some, Option.toList_none, List.cons_append, List.nil_append, catS_nil, catS_int, catS_ref, catS_null, catS_long, cat_int, cat_ref, cat_null, Nat.reduceEqDiff, Nat.reduceLeDiff, Nat.reduceAdd, false_and, and_false, if_false, if_true, ite_true, ite_false, true_or, or_true, false_or, or_false, and_self, forall_const, true_implies, reduceCtorEq, clr_int, clr_ref, clr_null, clr_none, clr_long, va_rf_some, va_rf_none, rk, st]
        exact ⟨fun _ => j40 p2 (by rw [← hb, wE_no (fun q => absurd q c)]), fun q => absurd (nI_le (by omega) (by omega)) q⟩
  simp only [↓s_149_0, ↓s_149_1, kd_uF, ln_uF, ai_uF, al_uF, ar_uF, zs_uF, fd_uF, kd_uA, ln_uA, fd_uA, al_uA, ar_uA, zs_uA, ai_uA, kd_uL, ln_uL, fd_uL, ai_uL, ar_uL, zs_uL, al_uL, kd_uR, ln_uR, fd_uR, ai_uR, al_uR, zs_uR, ar_uR, true_and, and_true, Option.toList_some, Option.toList_none, List.cons_append, List.nil_append, catS_nil, catS_int, catS_ref, catS_null, catS_long, cat_int, cat_ref, cat_null, Nat.reduceEqDiff, Nat.reduceLeDiff, Nat.reduceAdd, false_and, and_false, if_false, if_true, ite_true, ite_false, true_or, or_true, false_or, or_false, and_self, forall_const, true_implies, reduceCtorEq, clr_int, clr_ref, clr_null, clr_none, clr_long, va_rf_some, va_rf_none]
  exact lp e k (by omega) hk rfl
theorem wE_lt {T : Nat → Nat} {e k : Nat} (he : e ≤ 8000) (hk : k < 9000) : wE T e k < 9000 := by
  by_cases c : k ≤ e
  · have := wE_le (T := T) c; omega
  · rw [wE_no (fun q => by omega)]; exact hk
theorem bE_lt {T : Nat → Nat} {e k : Nat} (he : e ≤ 8000) (hk : k < 9000) : bE T e k < 9000 := by
  by_cases c : k ≤ e
  · have := bE_le (T := T) c; omega
  · rw [bE_no (fun q => by omega)]; exact hk
theorem sp_R_isName {d : Nat} {w : aw} {m e p k : Nat} {T : Nat → Nat} {Q : wQ} (hP : RP w m T e p) (hk : k < 9000) (h1 : isN T e k = true → Q (some (.int 1)) w) (h2 : isN T e k = false → Q (some (.int 0)) w) : wpD (d + 3) 150 [.ref m, .int (nI k)] w Q := by
  refine ⟨Nat.le_of_ble_eq_true rfl, ?_⟩
  show wp (d + 2) 150 Q 0 [some (.ref m), some (.int (nI k))] [] w 0 0
  have rk := hP.1.1
  have he := hP.2.2.2.2.1
  have hT := hP.2.2.2.2.2.1
  have n : ¬ (isL (lk T e k) = true ∧ wE T e k ≤ k + 6) → isN T e k = false := fun q => by cases c : isN T e k with | false => rfl | true => exact absurd (isN_iff.mp c) q
  simp only [↓s_150_0, ↓s_150_1, ↓s_150_2, kd_uF, ln_uF, ai_uF, al_uF, ar_uF, zs_uF, fd_uF, kd_uA, ln_uA, fd_uA, al_uA, ar_uA, zs_uA, ai_uA, kd_uL, ln_uL, fd_uL, ai_uL, ar_uL, zs_uL, al_uL, kd_uR, ln_uR, fd_uR, ai_uR, al_uR, zs_uR, ar_uR, true_and, and_true, Option.toList_some, Option.toList_none, List.cons_append, List.nil_append, catS_nil, catS_int, catS_ref, catS_null, catS_long, cat_int, cat_ref, cat_null, Nat.reduceEqDiff, Nat.reduceLeDiff, Nat.reduceAdd, false_and, and_false, if_false, if_true, ite_true, ite_false, true_or, or_true, false_or, or_false, and_self, forall_const, true_implies, reduceCtorEq, clr_int, clr_ref, clr_null, clr_none, clr_long, va_rf_some, va_rf_none, rk]
  refine sp_R_look hP hk ?_
  simp only [↓s_150_5, kd_uF, ln_uF, ai_uF, al_uF, ar_uF, zs_uF, fd_uF, kd_uA, ln_uA, fd_uA, al_uA, ar_uA, zs_uA, ai_uA, kd_uL, ln_uL, fd_uL, ai_uL, ar_uL, zs_uL, al_uL, kd_uR, ln_uR, fd_uR, ai_uR, al_uR, zs_uR, ar_uR, true_and, and_true, Option.toList_some, Option.toList_none, List.cons_append, List.nil_append, catS_nil, catS_int, catS_ref, catS_null, catS_long, cat_int, cat_ref, cat_null, Nat.reduceEqDiff, Nat.reduceLeDiff, Nat.reduceAdd, false_and, and_false, if_false, if_true, ite_true, ite_false, true_or, or_true, false_or, or_false, and_self, forall_const, true_implies, reduceCtorEq, clr_int, clr_ref, clr_null, clr_none, clr_long, va_rf_some, va_rf_none]
  refine sp_R_isL (lk_lt hT) (fun q => ?_) (fun q => ?_)
  · simp only [↓s_150_8, ↓s_150_11, ↓s_150_12, ↓s_150_13, kd_uF, ln_uF, ai_uF, al_uF, ar_uF, zs_uF, fd_uF, kd_uA, ln_uA, fd_uA, al_uA, ar_uA, zs_uA, ai_uA, kd_uL, ln_uL, fd_uL, ai_uL, ar_uL, zs_uL, al_uL, kd_uR, ln_uR, fd_uR, ai_uR, al_uR, zs_uR, ar_uR, true_and, and_true, Option.toList_some, Option.toList_none, List.cons_append, List.nil_append, catS_nil, catS_int, catS_ref, catS_null, catS_long, cat_int, cat_ref, cat_null, Nat.reduceEqDiff, Nat.reduceLeDiff, Nat.reduceAdd, false_and, and_false, if_false, if_true, ite_true, ite_false, true_or, or_true, false_or, or_false, and_self, forall_const, true_implies, reduceCtorEq, clr_int, clr_ref, clr_null, clr_none, clr_long, va_rf_some, va_rf_none, rk]
    refine ⟨fun q => absurd q (by decide), fun _ => sp_R_wordEnd hP hk ?_⟩
    have hw := wE_ge (T := T) (e := e) (p := k)
    have hl := wE_lt (T := T) he hk
    simp only [↓s_150_16, ↓s_150_17, ↓s_150_18, ↓s_150_20, ↓s_150_23, ↓s_150_24, ↓s_150_27, ↓s_150_28, kd_uF, ln_uF, ai_uF, al_uF, ar_uF, zs_uF, fd_uF, kd_uA, ln_uA, fd_uA, al_uA, ar_uA, zs_uA, ai_uA, kd_uL, ln_uL, fd_uL, ai_uL, ar_uL, zs_uL, al_uL, kd_uR, ln_uR, fd_uR, ai_uR, al_uR, zs_uR, ar_uR, true_and, and_true, Option.toList_some, Option.toList_none, List.cons_append, List.nil_append, catS_nil, catS_int, catS_ref, catS_null, catS_long, cat_int, cat_ref, cat_null, Nat.reduceEqDiff, Nat.reduceLeDiff, Nat.reduceAdd, false_and, and_false, if_false, if_true, ite_true, ite_false, true_or, or_true, false_or, or_false, and_self, forall_const, true_implies, reduceCtorEq, clr_int, clr_ref, clr_null, clr_none, clr_long, va_rf_some, va_rf_none]
    rw [pk_sub hw, show (6 : Int32) = nI 6 from rfl, nI_ltI (by decide) (by omega)]
    exact ⟨fun q2 => ⟨rfl, h2 (n (by omega))⟩, fun q2 => ⟨rfl, h1 (isN_iff.mpr ⟨q, by omega⟩)⟩⟩
  · simp only [↓s_150_8, ↓s_150_11, ↓s_150_12, ↓s_150_13, ↓s_150_27, ↓s_150_28, kd_uF, ln_uF, ai_uF, al_uF, ar_uF, zs_uF, fd_uF, kd_uA, ln_uA, fd_uA, al_uA, ar_uA, zs_uA, ai_uA, kd_uL, ln_uL, fd_uL, ai_uL, ar_uL, zs_uL, al_uL, kd_uR, ln_uR, fd_uR, ai_uR, al_uR, zs_uR, ar_uR, true_and, and_true, Option.toList_some, Option.toList_none, List.cons_append, List.nil_append, catS_nil, catS_int, catS_ref, catS_null, catS_long, cat_int, cat_ref, cat_null, Nat.reduceEqDiff, Nat.reduceLeDiff, Nat.reduceAdd, false_and, and_false, if_false, if_true, ite_true, ite_false, true_or, or_true, false_or, or_false, and_self, forall_const, true_implies, reduceCtorEq, clr_int, clr_ref, clr_null, clr_none, clr_long, va_rf_some, va_rf_none, rk]
    exact ⟨⟨rfl, h2 (n (fun z => by rw [z.1] at q; cases q))⟩, fun q => absurd trivial q⟩
theorem lN_step {a c : Nat} (hc : c < 2147483648) : lN a * 37 + (nI c).toInt64 = lN (a * 37 + c) := by
  rw [nI_l hc, show (37 : Int64) = lN 37 from rfl, lN_mul, lN_add]
theorem sp_R_nameAt {d : Nat} {w : aw} {m e p k : Nat} {T : Nat → Nat} {Q : wQ} (hP : RP w m T e p) (hk : k ≤ e) (h : Q (some (.long (lN (b37 (nmE T e k))))) w) : wpD (d + 3) 151 [.ref m, .int (nI k)] w Q := by
  refine ⟨Nat.le_of_ble_eq_true rfl, ?_⟩
  show wp (d + 2) 151 Q 0 [some (.ref m), some (.int (nI k)), none, none, none, none] [] w 0 0
  have hP0 := hP
  obtain ⟨sh, tp, st, at', he, hT, hpe⟩ := hP
  obtain ⟨rk, r1, r2, r3, r4, r5, r6, r7, r8, r9, r10, r11, r12, r13, r14, r15, r16, r17, r18, r19, r20, r21, r22, r23, r24, k1, k2, k3, k4, k5, k6, k7, k8, k9, k10, k11, k12, k13, k14, k15, k16, k17, k18, k19, k20, k21, k22, k23, k24, n1, n2, n3, n4, n5, n6, n7, n8, n9, n10, n11, n12, n13, n14, n15, n16, n17, n18, n19, n20, n21, n22, n23, n24⟩ := sh
  have hw := wE_ge (T := T) (e := e) (p := k)
  have hl := wE_le (T := T) hk
  have lp : ∀ (j i : Nat), i + j = wE T e k - k → wp (d + 2) 151 Q 12 [some (.ref m), some (.int (nI k)), some (.long (lN (b37 (nm T k i)))), none, some (.int (nI (wE T e k))), some (.int (nI (k + i)))] [] w 0 0 := by
    intro j
    induction j with
    | zero =>
      intro i hi
      have e0 : k + i = wE T e k := by omega
      rw [s_151_12]
      simp only [↓s_151_14, ↓s_151_16, ↓s_151_43, ↓s_151_44, kd_uF, ln_uF, ai_uF, al_uF, ar_uF, zs_uF, fd_uF, kd_uA, ln_uA, fd_uA, al_uA, ar_uA, zs_uA, ai_uA, kd_uL, ln_uL, fd_uL, ai_uL, ar_uL, zs_uL, al_uL, kd_uR, ln_uR, fd_uR, ai_uR, al_uR, zs_uR, ar_uR, true_and, and_true, Option.toList_some, Option.toList_none, List.cons_append, List.nil_append, catS_nil, catS_int, catS_ref, catS_null, catS_long, cat_int, cat_ref, cat_null, Nat.reduceEqDiff, Nat.reduceLeDiff, Nat.reduceAdd, false_and, and_false, if_false, if_true, ite_true, ite_false, true_or, or_true, false_or, or_false, and_self, forall_const, true_implies, reduceCtorEq, clr_int, clr_ref, clr_null, clr_none, clr_long, va_rf_some, va_rf_none]
      rw [e0]
      refine ⟨fun _ => ?_, fun q => absurd (nI_le (Nat.le_refl _) (by omega)) q⟩
      unfold nmE at h
      rw [show wE T e k - k = i by omega] at h
      exact h
    | succ j ih =>
      intro i hi
      have hc := hT (k + i)
      have hwi := wE_in (T := T) (e := e) (p := k) (i := i) (by omega)
      rw [s_151_12]
      simp only [↓s_151_14, ↓s_151_16, ↓s_151_19, ↓s_151_20, ↓s_151_23, ↓s_151_24, ↓s_151_25, ↓s_151_28, ↓s_151_30, ↓s_151_31, kd_uF, ln_uF, ai_uF, al_uF, ar_uF, zs_uF, fd_uF, kd_uA, ln_uA, fd_uA, al_uA, ar_uA, zs_uA, ai_uA, kd_uL, ln_uL, fd_uL, ai_uL, ar_uL, zs_uL, al_uL, kd_uR, ln_uR, fd_uR, ai_uR, al_uR, zs_uR, ar_uR, true_and, and_true, Option.toList_some, Option.toList_none, List.cons_append, List.nil_append, catS_nil, catS_int, catS_ref, catS_null, catS_long, cat_int, cat_ref, cat_null, Nat.reduceEqDiff, Nat.reduceLeDiff, Nat.reduceAdd, false_and, and_false, if_false, if_true, ite_true, ite_false, true_or, or_true, false_or, or_false, and_self, forall_const, true_implies, reduceCtorEq, clr_int, clr_ref, clr_null, clr_none, clr_long, va_rf_some, va_rf_none, rk, r19, k19, n19, clN (show k + i < 2147483648 by omega), tp (k + i) (by omega)]
      refine ⟨fun q => absurd q (nI_ge (by omega) (by omega)), fun _ => ⟨inR_nI (by omega) (by decide), sp_R_sign hc hwi ?_⟩⟩
      simp only [↓s_151_34, ↓s_151_35, ↓s_151_36, ↓s_151_37, ↓s_151_40, kd_uF, ln_uF, ai_uF, al_uF, ar_uF, zs_uF, fd_uF, kd_uA, ln_uA, fd_uA, al_uA, ar_uA, zs_uA, ai_uA, kd_uL, ln_uL, fd_uL, ai_uL, ar_uL, zs_uL, al_uL, kd_uR, ln_uR, fd_uR, ai_uR, al_uR, zs_uR, ar_uR, true_and, and_true, Option.toList_some, Option.toList_none, List.cons_append, List.nil_append, catS_nil, catS_int, catS_ref, catS_null, catS_long, cat_int, cat_ref, cat_null, Nat.reduceEqDiff, Nat.reduceLeDiff, Nat.reduceAdd, false_and, and_false, if_false, if_true, ite_true, ite_false, true_or, or_true, false_or, or_false, and_self, forall_const, true_implies, reduceCtorEq, clr_int, clr_ref, clr_null, clr_none, clr_long, va_rf_some, va_rf_none]
      have hs := sg_lt hwi
      rw [lN_step (by omega), nI_1, ← b37_s, ← nm_s]
      exact ih (i + 1) (by omega)
  simp only [↓s_151_0, ↓s_151_1, ↓s_151_2, ↓s_151_3, ↓s_151_4, kd_uF, ln_uF, ai_uF, al_uF, ar_uF, zs_uF, fd_uF, kd_uA, ln_uA, fd_uA, al_uA, ar_uA, zs_uA, ai_uA, kd_uL, ln_uL, fd_uL, ai_uL, ar_uL, zs_uL, al_uL, kd_uR, ln_uR, fd_uR, ai_uR, al_uR, zs_uR, ar_uR, true_and, and_true, Option.toList_some, Option.toList_none, List.cons_append, List.nil_append, catS_nil, catS_int, catS_ref, catS_null, catS_long, cat_int, cat_ref, cat_null, Nat.reduceEqDiff, Nat.reduceLeDiff, Nat.reduceAdd, false_and, and_false, if_false, if_true, ite_true, ite_false, true_or, or_true, false_or, or_false, and_self, forall_const, true_implies, reduceCtorEq, clr_int, clr_ref, clr_null, clr_none, clr_long, va_rf_some, va_rf_none, rk]
  refine sp_R_wordEnd hP0 (by omega) ?_
  simp only [↓s_151_7, ↓s_151_9, ↓s_151_10, kd_uF, ln_uF, ai_uF, al_uF, ar_uF, zs_uF, fd_uF, kd_uA, ln_uA, fd_uA, al_uA, ar_uA, zs_uA, ai_uA, kd_uL, ln_uL, fd_uL, ai_uL, ar_uL, zs_uL, al_uL, kd_uR, ln_uR, fd_uR, ai_uR, al_uR, zs_uR, ar_uR, true_and, and_true, Option.toList_some, Option.toList_none, List.cons_append, List.nil_append, catS_nil, catS_int, catS_ref, catS_null, catS_long, cat_int, cat_ref, cat_null, Nat.reduceEqDiff, Nat.reduceLeDiff, Nat.reduceAdd, false_and, and_false, if_false, if_true, ite_true, ite_false, true_or, or_true, false_or, or_false, and_self, forall_const, true_implies, reduceCtorEq, clr_int, clr_ref, clr_null, clr_none, clr_long, va_rf_some, va_rf_none]
  exact lp (wE T e k - k) 0 (by omega)
