theorem sp_fill {d : Nat} {w : aw} {q n : Nat} {v : Int32} {Q : wQ} (k0 : kd w q = 20) (n0 : ln w q = n) (hn : n < 2147483648) (h : ∀ w', (∀ i, i < n → ai w' q i = v) → Fr w w' q (q + 1) → (∀ g a, fd w' g a = fd w g a) → Q none w') : wpD (d + 1) 184 [.ref q, .int v] w Q := by
  refine ⟨Nat.le_of_ble_eq_true rfl, ?_⟩
  show wp d 184 Q 0 [some (.ref q), some (.int v), none, none] [] w 0 0
  have lp : ∀ (j i : Nat) (w1 : aw), i + j = n → (∀ k, k < i → ai w1 q k = v) → Fr w w1 q (q + 1) → (∀ g a, fd w1 g a = fd w g a) → wp d 184 Q 5 [some (.ref q), some (.int v), some (.int (nI i)), some (.int (nI n))] [] w1 0 0 := by
    intro j
    induction j with
    | zero =>
      intro i w1 hi h1 f1 g1
      have e : i = n := by omega
      subst e
      rw [s_184_5]
      simp only [↓s_184_6, ↓s_184_7, ↓s_184_20, kd_uF, ln_uF, ai_uF, al_uF, ar_uF, zs_uF, fd_uF, kd_uA, ln_uA, fd_uA, al_uA, ar_uA, zs_uA, ai_uA, kd_uL, ln_uL, fd_uL, ai_uL, ar_uL, zs_uL, al_uL, kd_uR, ln_uR, fd_uR, ai_uR, al_uR, zs_uR, ar_uR, true_and, and_true, Option.toList_some, Option.toList_none, List.cons_append, List.nil_append, catS_nil, catS_int, catS_ref, catS_null, catS_long, cat_int, cat_ref, cat_null, Nat.reduceEqDiff, Nat.reduceLeDiff, Nat.reduceAdd, false_and, and_false, if_false, if_true, ite_true, ite_false, true_or, or_true, false_or, or_false, and_self, forall_const, true_implies, reduceCtorEq, clr_int, clr_ref, clr_null, clr_none, clr_long, va_rf_some, va_rf_none]
      exact ⟨fun _ => h w1 h1 f1 g1, fun z => absurd (nI_le (Nat.le_refl _) (by omega)) z⟩
    | succ j ih =>
      intro i w1 hi h1 f1 g1
      have k1 : kd w1 q = 20 := (f1.1 _).trans k0
      have n1 : ln w1 q = n := (f1.2.1 _).trans n0
      rw [s_184_5]
      simp only [↓s_184_6, ↓s_184_7, ↓s_184_10, ↓s_184_10n, ↓s_184_11, ↓s_184_12, ↓s_184_13, ↓s_184_14, ↓s_184_17, ↓s_184_20, kd_uF, ln_uF, ai_uF, al_uF, ar_uF, zs_uF, fd_uF, kd_uA, ln_uA, fd_uA, al_uA, ar_uA, zs_uA, ai_uA, kd_uL, ln_uL, fd_uL, ai_uL, ar_uL, zs_uL, al_uL, kd_uR, ln_uR, fd_uR, ai_uR, al_uR, zs_uR, ar_uR, true_and, and_true, Option.toList_some, Option.toList_none, List.cons_append, List.nil_append, catS_nil, catS_int, catS_ref, catS_null, catS_long, cat_int, cat_ref, cat_null, Nat.reduceEqDiff, Nat.reduceLeDiff, Nat.reduceAdd, false_and, and_false, if_false, if_true, ite_true, ite_false, true_or, or_true, false_or, or_false, and_self, forall_const, true_implies, reduceCtorEq, clr_int, clr_ref, clr_null, clr_none, clr_long, va_rf_some, va_rf_none, k1, n1, clN (show i < 2147483648 by omega)]
      rw [nI_1]
      refine ⟨fun z => absurd z (nI_ge (by omega) (by omega)), fun _ => ⟨inR_nI (by omega) (by omega), ih (i + 1) _ (by omega) (fun k hk => ?_) (f1.A (by omega) (by omega)) (fun g a => g1 g a)⟩⟩
      rw [ai_uA]
      by_cases c : k = i
      · rw [if_pos ⟨rfl, c⟩]
      · rw [if_neg (fun z => c z.2)]; exact h1 k (by omega)
  simp only [↓s_184_0, ↓s_184_1, ↓s_184_2, ↓s_184_2n, ↓s_184_3, ↓s_184_4, kd_uF, ln_uF, ai_uF, al_uF, ar_uF, zs_uF, fd_uF, kd_uA, ln_uA, fd_uA, al_uA, ar_uA, zs_uA, ai_uA, kd_uL, ln_uL, fd_uL, ai_uL, ar_uL, zs_uL, al_uL, kd_uR, ln_uR, fd_uR, ai_uR, al_uR, zs_uR, ar_uR, true_and, and_true, Option.toList_some, Option.toList_none, List.cons_append, List.nil_append, catS_nil, catS_int, catS_ref, catS_null, catS_long, cat_int, cat_ref, cat_null, Nat.reduceEqDiff, Nat.reduceLeDiff, Nat.reduceAdd, false_and, and_false, if_false, if_true, ite_true, ite_false, true_or, or_true, false_or, or_false, and_self, forall_const, true_implies, reduceCtorEq, clr_int, clr_ref, clr_null, clr_none, clr_long, va_rf_some, va_rf_none, k0, n0]
  exact ⟨rfl, lp n 0 w (by omega) (fun k hk => absurd hk (Nat.not_lt_zero _)) Fr.rf (fun _ _ => rfl)⟩
theorem PI.in {S : ps} (h : PI S) {i : Nat} (hi : i < S.2.2.1.length) : S.2.2.1.getD i 0 < 4096 ∧ (S.2.1 (S.2.2.1.getD i 0)).isSome = true := by
  have hm : S.2.2.1.getD i 0 ∈ S.2.2.1 := by
    rw [List.getD_eq_getElem?_getD, List.getElem?_eq_getElem hi]
    exact List.getElem_mem hi
  have hs := (h.2.2.1 _).mp hm
  obtain ⟨v, hv⟩ := Option.isSome_iff_exists.mp hs
  exact ⟨(h.2.2.2.1 _ v hv).1, hs⟩
theorem PI.ex {S : ps} (h : PI S) {a : Nat} (ha : (S.2.1 a).isSome = true) : ∃ i, i < S.2.2.1.length ∧ S.2.2.1.getD i 0 = a := by
  obtain ⟨i, hi⟩ := List.getElem?_of_mem ((h.2.2.1 a).mpr ha)
  exact ⟨i, (List.getElem?_eq_some_iff.mp hi).1, by rw [List.getD_eq_getElem?_getD, hi]; rfl⟩
theorem sp_c_forget {d : Nat} {w : aw} {x : Nat} {t : nt} {Q : wQ} (hC : CB w x t) (h : ∀ w', CB w' x [] → Fr w w' (x + 4) (x + 7) → Q none w') : wpD (d + 1) 35 [.ref (x + 4)] w Q := by
  refine ⟨Nat.le_of_ble_eq_true rfl, ?_⟩
  show wp d 35 Q 0 [some (.ref (x + 4))] [] w 0 0
  obtain ⟨a1, a2, a3, a4, a5, a6, a7, a8, a9⟩ := hC
  simp only [↓s_35_0, ↓s_35_1, ↓s_35_3, ↓s_35_6, kd_uF, ln_uF, ai_uF, al_uF, ar_uF, zs_uF, fd_uF, kd_uA, ln_uA, fd_uA, al_uA, ar_uA, zs_uA, ai_uA, kd_uL, ln_uL, fd_uL, ai_uL, ar_uL, zs_uL, al_uL, kd_uR, ln_uR, fd_uR, ai_uR, al_uR, zs_uR, ar_uR, true_and, and_true, Option.toList_some, Option.toList_none, List.cons_append, List.nil_append, catS_nil, catS_int, catS_ref, catS_null, catS_long, cat_int, cat_ref, cat_null, Nat.reduceEqDiff, Nat.reduceLeDiff, Nat.reduceAdd, false_and, and_false, if_false, if_true, ite_true, ite_false, true_or, or_true, false_or, or_false, and_self, forall_const, true_implies, reduceCtorEq, clr_int, clr_ref, clr_null, clr_none, clr_long, va_rf_some, va_rf_none, a1]
  refine h _ ⟨a1, ?_, ?_, a4, a5, a6, a7, ?_, fun k y hy => ?_⟩ (Fr.rf.F (by omega) (by omega))
  · simp only [fd_uF, eq_self, and_self, true_and, false_and, if_true, if_false, ite_true, ite_false, Nat.reduceEqDiff]; exact a2
  · simp only [fd_uF, eq_self, and_self, true_and, false_and, if_true, if_false, ite_true, ite_false, Nat.reduceEqDiff]; exact a3
  · simp only [fd_uF, eq_self, and_self, true_and, false_and, if_true, if_false, ite_true, ite_false, Nat.reduceEqDiff]; rfl
  · rw [List.append_nil] at hy
    have hk := (List.getElem?_eq_some_iff.mp hy).1
    exact a9 k y (by rw [List.getElem?_append_left hk]; exact hy)
theorem sp_c_start {d : Nat} {w : aw} {x n : Nat} {T : Nat → Nat} {Q : wQ} (hZ : ZA w x T n) (hG : GW w x) (h : ∀ w', ZA w' x T n → Fr w w' (x + 3) (x + 12) → CB w' x [] → CW w' x S0 → fd w' 9 (x + 3) = .int (nI 0) → fd w' 10 (x + 3) = .int (nI 0) → Q none w') : wpD (d + 2) 2 [.ref (x + 3)] w Q := by
  refine ⟨Nat.le_of_ble_eq_true rfl, ?_⟩
  show wp (d + 1) 2 Q 0 [some (.ref (x + 3)), none] [] w 0 0
  obtain ⟨⟨t, hC⟩, S, hW, hI⟩ := hG
  obtain ⟨c1, c2, c3, c4, c5⟩ := hW
  have hl := hI.len
  have j39 : ∀ (w1 : aw) (A : Option Value), FrY w w1 x → (∀ a, a < 4096 → ai w1 (x + 8) a = 0) → wp (d + 1) 2 Q 39 [some (.ref (x + 3)), A] [] w1 0 0 := by
    intro w1 A f1 z1
    have Z1 := f1.1.Z hZ
    obtain ⟨a0, a1, a2, a3, a4, a5, a6, a7, b1, b2, b3, b4, b5, b6, b7, b8⟩ := Z1.2
    have k10 : kd (uF w1 6 (x + 3) (.int 0)) (x + 10) = 20 := b4
    have n10 : ln (uF w1 6 (x + 3) (.int 0)) (x + 10) = 32 := b8
    simp only [↓s_2_39, ↓s_2_40, ↓s_2_41, ↓s_2_44, ↓s_2_45, ↓s_2_48, ↓s_2_49, kd_uF, ln_uF, ai_uF, al_uF, ar_uF, zs_uF, fd_uF, kd_uA, ln_uA, fd_uA, al_uA, ar_uA, zs_uA, ai_uA, kd_uL, ln_uL, fd_uL, ai_uL, ar_uL, zs_uL, al_uL, kd_uR, ln_uR, fd_uR, ai_uR, al_uR, zs_uR, ar_uR, true_and, and_true, Option.toList_some, Option.toList_none, List.cons_append, List.nil_append, catS_nil, catS_int, catS_ref, catS_null, catS_long, cat_int, cat_ref, cat_null, Nat.reduceEqDiff, Nat.reduceLeDiff, Nat.reduceAdd, false_and, and_false, if_false, if_true, ite_true, ite_false, true_or, or_true, false_or, or_false, and_self, forall_const, true_implies, reduceCtorEq, clr_int, clr_ref, clr_null, clr_none, clr_long, va_rf_some, va_rf_none, a0, a7]
    refine sp_fill k10 n10 (by decide) (fun w2 g1 g2 g3 => ?_)
    have Z2 : ZA w2 x T n := by
      have Z2' : ZA (uF w1 6 (x + 3) (.int 0)) x T n := Z1.F (Or.inr (Or.inl rfl))
      have X2 : FrX (uF w1 6 (x + 3) (.int 0)) w2 x := ⟨g2.wide (by omega) (by omega), fun g _ _ => g3 g _, g3 _ _, g3 _ _⟩
      exact X2.Z Z2'
    have F2 : Fr w w2 (x + 3) (x + 12) := (f1.1.1.F (by omega) (by omega)).tr (g2.wide (by omega) (by omega))
    have C1 : CB (uF w1 6 (x + 3) (.int 0)) x t := (hC.Y f1).A
    have C2 : CB w2 x t := C1.Fr g2 (Or.inl (by omega))
    simp only [↓s_2_52, ↓s_2_53, ↓s_2_56, kd_uF, ln_uF, ai_uF, al_uF, ar_uF, zs_uF, fd_uF, kd_uA, ln_uA, fd_uA, al_uA, ar_uA, zs_uA, ai_uA, kd_uL, ln_uL, fd_uL, ai_uL, ar_uL, zs_uL, al_uL, kd_uR, ln_uR, fd_uR, ai_uR, al_uR, zs_uR, ar_uR, true_and, and_true, Option.toList_some, Option.toList_none, List.cons_append, List.nil_append, catS_nil, catS_int, catS_ref, catS_null, catS_long, cat_int, cat_ref, cat_null, Nat.reduceEqDiff, Nat.reduceLeDiff, Nat.reduceAdd, false_and, and_false, if_false, if_true, ite_true, ite_false, true_or, or_true, false_or, or_false, and_self, forall_const, true_implies, reduceCtorEq, clr_int, clr_ref, clr_null, clr_none, clr_long, va_rf_some, va_rf_none, Z2.2.1, Z2.2.2.2.1, C2.1]
    refine sp_c_forget C2 (fun w3 C3 f3 => ?_)
    have Z3 := (FrX.ofN f3).Z Z2
    simp only [↓s_2_59, ↓s_2_60, ↓s_2_61, ↓s_2_64, ↓s_2_65, ↓s_2_66, ↓s_2_69, kd_uF, ln_uF, ai_uF, al_uF, ar_uF, zs_uF, fd_uF, kd_uA, ln_uA, fd_uA, al_uA, ar_uA, zs_uA, ai_uA, kd_uL, ln_uL, fd_uL, ai_uL, ar_uL, zs_uL, al_uL, kd_uR, ln_uR, fd_uR, ai_uR, al_uR, zs_uR, ar_uR, true_and, and_true, Option.toList_some, Option.toList_none, List.cons_append, List.nil_append, catS_nil, catS_int, catS_ref, catS_null, catS_long, cat_int, cat_ref, cat_null, Nat.reduceEqDiff, Nat.reduceLeDiff, Nat.reduceAdd, false_and, and_false, if_false, if_true, ite_true, ite_false, true_or, or_true, false_or, or_false, and_self, forall_const, true_implies, reduceCtorEq, clr_int, clr_ref, clr_null, clr_none, clr_long, va_rf_some, va_rf_none, Z3.2.1]
    refine h _ ((Z3.F (by omega)).F (by omega)) (((F2.tr (FrX.ofN f3).1).F (by omega) (by omega)).F (by omega) (by omega)) C3.A.A ⟨?_, fun i hi => absurd hi (Nat.not_lt_zero _), fun a ha => ?_, fun a v hv => (by cases hv), fun g hg => ?_⟩ (by simp only [fd_uF, eq_self, and_self, true_and, false_and, if_true, if_false, ite_true, ite_false, Nat.reduceEqDiff]; rfl) (by simp only [fd_uF, eq_self, and_self, true_and, false_and, if_true, if_false, ite_true, ite_false, Nat.reduceEqDiff]; rfl)
    · simp only [fd_uF, eq_self, and_self, true_and, false_and, if_true, if_false, ite_true, ite_false, Nat.reduceEqDiff]
      rw [(f3.2.2.2 (x + 3) (by omega)).1, g3]
      simp only [fd_uF, eq_self, and_self, true_and, false_and, if_true, if_false, ite_true, ite_false, Nat.reduceEqDiff]
      rfl
    · show ai w3 (x + 8) a = 0
      rw [(f3.2.2.2 (x + 8) (by omega)).2.1, (g2.2.2.2 (x + 8) (by omega)).2.1]
      exact z1 a ha
    · show ai w3 (x + 10) g = nI 0
      rw [(f3.2.2.2 (x + 10) (by omega)).2.1]
      exact g1 g hg
  have lp : ∀ (j i : Nat) (w1 : aw), i + j = S.2.2.1.length → FrY w w1 x → (∀ g, fd w1 g (x + 3) = fd w g (x + 3)) → (∀ k, ai w1 (x + 9) k = ai w (x + 9) k) → (∀ a, a < 4096 → (∀ k, i ≤ k → k < S.2.2.1.length → S.2.2.1.getD k 0 ≠ a) → ai w1 (x + 8) a = 0) → wp (d + 1) 2 Q 2 [some (.ref (x + 3)), some (.int (nI i))] [] w1 0 0 := by
    intro j
    induction j with
    | zero =>
      intro i w1 hi f1 g1 p1 z1
      have Z1 := f1.1.Z hZ
      have pl := (g1 _).trans c1
      have fin := j39 w1 (some (.int (nI i))) f1 (fun a ha => z1 a ha (fun k hk hk2 => by omega))
      rw [s_2_2]
      simp only [↓s_2_3, ↓s_2_4, ↓s_2_7, kd_uF, ln_uF, ai_uF, al_uF, ar_uF, zs_uF, fd_uF, kd_uA, ln_uA, fd_uA, al_uA, ar_uA, zs_uA, ai_uA, kd_uL, ln_uL, fd_uL, ai_uL, ar_uL, zs_uL, al_uL, kd_uR, ln_uR, fd_uR, ai_uR, al_uR, zs_uR, ar_uR, true_and, and_true, Option.toList_some, Option.toList_none, List.cons_append, List.nil_append, catS_nil, catS_int, catS_ref, catS_null, catS_long, cat_int, cat_ref, cat_null, Nat.reduceEqDiff, Nat.reduceLeDiff, Nat.reduceAdd, false_and, and_false, if_false, if_true, ite_true, ite_false, true_or, or_true, false_or, or_false, and_self, forall_const, true_implies, reduceCtorEq, clr_int, clr_ref, clr_null, clr_none, clr_long, va_rf_some, va_rf_none, Z1.2.1, pl]
      exact ⟨fun _ => fin, fun q => absurd (nI_le (by omega) (by omega)) q⟩
    | succ j ih =>
      intro i w1 hi f1 g1 p1 z1
      have hil : i < S.2.2.1.length := by omega
      have hP := (hI.in hil).1
      obtain ⟨a0, a1, a2, a3, a4, a5, a6, a7, b1, b2, b3, b4, b5, b6, b7, b8⟩ := (f1.1.Z hZ).2
      have pl := (g1 _).trans c1
      have ep : ai w1 (x + 9) i &&& 4095 = nI (S.2.2.1.getD i 0) := by rw [p1, c2 i hil, mask12, Nat.mod_eq_of_lt hP]
      have nb : vp_nar .boolean (0 : Int32) = 0 := by decide
      rw [s_2_2]
      simp only [↓s_2_3, ↓s_2_4, ↓s_2_7, ↓s_2_10, ↓s_2_11, ↓s_2_14, ↓s_2_17, ↓s_2_18, ↓s_2_21, ↓s_2_22, ↓s_2_25, ↓s_2_26, ↓s_2_27, ↓s_2_30, ↓s_2_31, ↓s_2_32, ↓s_2_33, ↓s_2_36, ↓s_2_39, ↓s_2_40, ↓s_2_41, ↓s_2_44, ↓s_2_45, ↓s_2_48, ↓s_2_49, kd_uF, ln_uF, ai_uF, al_uF, ar_uF, zs_uF, fd_uF, kd_uA, ln_uA, fd_uA, al_uA, ar_uA, zs_uA, ai_uA, kd_uL, ln_uL, fd_uL, ai_uL, ar_uL, zs_uL, al_uL, kd_uR, ln_uR, fd_uR, ai_uR, al_uR, zs_uR, ar_uR, true_and, and_true, Option.toList_some, Option.toList_none, List.cons_append, List.nil_append, catS_nil, catS_int, catS_ref, catS_null, catS_long, cat_int, cat_ref, cat_null, Nat.reduceEqDiff, Nat.reduceLeDiff, Nat.reduceAdd, false_and, and_false, if_false, if_true, ite_true, ite_false, true_or, or_true, false_or, or_false, and_self, forall_const, true_implies, reduceCtorEq, clr_int, clr_ref, clr_null, clr_none, clr_long, va_rf_some, va_rf_none, a0, a5, a6, b2, b3, b6, b7, pl, clN (show i < 2147483648 by omega), ep, nb, clN (show S.2.2.1.getD i 0 < 2147483648 by omega)]
      rw [nI_1]
      refine ⟨fun q => absurd q (nI_ge (by omega) (by omega)), fun _ => ⟨fun q => absurd q (nI_ge (b := 4096) (by omega) (by decide)), fun _ => ⟨inR_nI (by omega) (by decide), inR_nI hP (by decide), ih (i + 1) _ (by omega) (f1.A (by omega) (by omega)) (fun g => g1 g) (fun k => ?_) (fun a ha hk => ?_)⟩⟩⟩
      · rw [ai_uA, if_neg (by omega)]; exact p1 k
      · rw [ai_uA]
        by_cases c : a = S.2.2.1.getD i 0
        · rw [if_pos ⟨rfl, c⟩]
        · rw [if_neg (fun z => c z.2)]
          refine z1 a ha (fun k h1 h2 => ?_)
          by_cases c2 : k = i
          · subst c2; exact fun z => c z.symm
          · exact hk k (by omega) h2
  simp only [↓s_2_0, ↓s_2_1, kd_uF, ln_uF, ai_uF, al_uF, ar_uF, zs_uF, fd_uF, kd_uA, ln_uA, fd_uA, al_uA, ar_uA, zs_uA, ai_uA, kd_uL, ln_uL, fd_uL, ai_uL, ar_uL, zs_uL, al_uL, kd_uR, ln_uR, fd_uR, ai_uR, al_uR, zs_uR, ar_uR, true_and, and_true, Option.toList_some, Option.toList_none, List.cons_append, List.nil_append, catS_nil, catS_int, catS_ref, catS_null, catS_long, cat_int, cat_ref, cat_null, Nat.reduceEqDiff, Nat.reduceLeDiff, Nat.reduceAdd, false_and, and_false, if_false, if_true, ite_true, ite_false, true_or, or_true, false_or, or_false, and_self, forall_const, true_implies, reduceCtorEq, clr_int, clr_ref, clr_null, clr_none, clr_long, va_rf_some, va_rf_none]
  refine lp S.2.2.1.length 0 w (by omega) FrY.rf (fun _ => rfl) (fun _ => rfl) (fun a ha hk => ?_)
  rw [c3 a ha]
  cases e : (S.2.1 a).isSome with
  | false => rfl
  | true =>
    obtain ⟨i, h1, h2⟩ := hI.ex e
    exact absurd h2 (hk i (Nat.zero_le _) h1)
theorem UAt.wf {w : aw} {b n : Nat} {u : us} (h : UAt w b n u) : kd w (b + 1) = 20 ∧ ln w (b + 1) = 4096 := by
  obtain ⟨y0, y1, y2, y3, y4, y5, y6, z0, z1, z2, z3, z4, z5, z6, z7, z8, z9, mw1, mw2, mw3, fw1, fw2, fw3, pw1, pw2, pw3, lin, lou⟩ := h
  exact ⟨mw1, mw2⟩
theorem sp_c_deliver0 {d : Nat} {w : aw} {x g : Nat} {y : Value} {Q : wQ} (hA : ASh w x) (hg : g ≠ 0) (hg2 : g < 1000) (hF : fd w 9 (x + 3) = .int (nI g)) (h : Q (some (.int (-2))) w) {q : Nat} : wpD (d + 1) 12 [.ref (x + 3), .ref q] w Q := by
  refine ⟨Nat.le_of_ble_eq_true rfl, ?_⟩
  show wp d 12 Q 0 [some (.ref (x + 3)), some (.ref q), none, none] [] w 0 0
  simp only [↓s_12_0, ↓s_12_1, ↓s_12_4, ↓s_12_7, ↓s_12_9, ↓s_12_10, ↓s_12_11, kd_uF, ln_uF, ai_uF, al_uF, ar_uF, zs_uF, fd_uF, kd_uA, ln_uA, fd_uA, al_uA, ar_uA, zs_uA, ai_uA, kd_uL, ln_uL, fd_uL, ai_uL, ar_uL, zs_uL, al_uL, kd_uR, ln_uR, fd_uR, ai_uR, al_uR, zs_uR, ar_uR, true_and, and_true, Option.toList_some, Option.toList_none, List.cons_append, List.nil_append, catS_nil, catS_int, catS_ref, catS_null, catS_long, cat_int, cat_ref, cat_null, Nat.reduceEqDiff, Nat.reduceLeDiff, Nat.reduceAdd, false_and, and_false, if_false, if_true, ite_true, ite_false, true_or, or_true, false_or, or_false, and_self, forall_const, true_implies, reduceCtorEq, clr_int, clr_ref, clr_null, clr_none, clr_long, va_rf_some, va_rf_none, hA.1, hF]
  rw [show (0 : Int32) = nI 0 from rfl, nI_eq (by omega) (by decide)]
  exact ⟨fun q => absurd q hg, fun _ => h⟩
theorem sp_c_deliver {d : Nat} {w : aw} {x b k : Nat} {S : ps} {u : us} {Q : wQ} (hA : ASh w x) (hW : CW w x S) (hI : PI S) (hF : fd w 9 (x + 3) = .int (nI 0)) (hb : x + 12 ≤ b) (hu : UAt w b k u) (h : ∀ w', UAt w' b k (u.1, (fun a => (S.2.1 a).getD (uMm u a)), u.2.2) → FrU w w' b → Q (some (.int (nI S.2.2.1.length))) w') : wpD (d + 1) 12 [.ref (x + 3), .ref (b + 1)] w Q := by
  refine ⟨Nat.le_of_ble_eq_true rfl, ?_⟩
  show wp d 12 Q 0 [some (.ref (x + 3)), some (.ref (b + 1)), none, none] [] w 0 0
  obtain ⟨c1, c2, c3, c4, c5⟩ := hW
  have hl := hI.len
  have lp : ∀ (j i : Nat) (w1 : aw) (M : Nat → Nat) (A : Option Value), i + j = S.2.2.1.length → FrU w w1 b → UAt w1 b k (u.1, M, u.2.2) → (∀ a, (∃ m, m < i ∧ S.2.2.1.getD m 0 = a) → M a = (S.2.1 a).getD 0) → (∀ a, (∀ m, m < i → S.2.2.1.getD m 0 ≠ a) → M a = uMm u a) → wp d 12 Q 12 [some (.ref (x + 3)), some (.ref (b + 1)), some (.int (nI i)), A] [] w1 0 0 := by
    intro j
    induction j with
    | zero =>
      intro i w1 M A hi f1 u1 m1 m2
      have o3 := f1.1.2.2.2 (x + 3) (by omega)
      have a0 : kd w1 (x + 3) = 1 := (f1.1.1 _).trans hA.1
      have pl := (o3.1 _).trans c1
      have eM : M = fun a => (S.2.1 a).getD (uMm u a) := by
        funext a
        cases e : S.2.1 a with
        | none =>
          rw [m2 a (fun m hm z => ?_)]
          · rfl
          · have := (hI.in (show m < S.2.2.1.length by omega)).2
            rw [z, e] at this
            cases this
        | some v =>
          obtain ⟨m, h1, h2⟩ := hI.ex (a := a) (by rw [e]; rfl)
          rw [m1 a ⟨m, by omega, h2⟩, e]
          rfl
      rw [eM] at u1
      rw [s_12_12]
      simp only [↓s_12_13, ↓s_12_14, ↓s_12_17, ↓s_12_59, ↓s_12_60, ↓s_12_63, kd_uF, ln_uF, ai_uF, al_uF, ar_uF, zs_uF, fd_uF, kd_uA, ln_uA, fd_uA, al_uA, ar_uA, zs_uA, ai_uA, kd_uL, ln_uL, fd_uL, ai_uL, ar_uL, zs_uL, al_uL, kd_uR, ln_uR, fd_uR, ai_uR, al_uR, zs_uR, ar_uR, true_and, and_true, Option.toList_some, Option.toList_none, List.cons_append, List.nil_append, catS_nil, catS_int, catS_ref, catS_null, catS_long, cat_int, cat_ref, cat_null, Nat.reduceEqDiff, Nat.reduceLeDiff, Nat.reduceAdd, false_and, and_false, if_false, if_true, ite_true, ite_false, true_or, or_true, false_or, or_false, and_self, forall_const, true_implies, reduceCtorEq, clr_int, clr_ref, clr_null, clr_none, clr_long, va_rf_some, va_rf_none, a0, pl]
      exact ⟨fun _ => h w1 u1 f1, fun q => absurd (nI_le (by omega) (by omega)) q⟩
    | succ j ih =>
      intro i w1 M A hi f1 u1 m1 m2
      have hil : i < S.2.2.1.length := by omega
      obtain ⟨hP, hPs⟩ := hI.in hil
      obtain ⟨v, hv⟩ := Option.isSome_iff_exists.mp hPs
      obtain ⟨a0, a1, a2, a3, a4, a5, a6, a7, b1, b2, b3, b4, b5, b6, b7, b8⟩ := hA
      have o3 := f1.1.2.2.2 (x + 3) (by omega)
      have a0' := (f1.1.1 _).trans a0
      have a4' := (o3.1 _).trans a4
      have a6' := (o3.1 _).trans a6
      have b1' := (f1.1.1 _).trans b1
      have b3' := (f1.1.1 _).trans b3
      have b5' := (f1.1.2.1 _).trans b5
      have b7' := (f1.1.2.1 _).trans b7
      have pl := (o3.1 _).trans c1
      have ep : ai w1 (x + 9) i &&& 4095 = nI (S.2.2.1.getD i 0) := by rw [(f1.1.2.2.2 (x + 9) (by omega)).2.1, c2 i hil, mask12, Nat.mod_eq_of_lt hP]
      have ew : ai w1 (x + 7) (S.2.2.1.getD i 0) = nI v := by rw [(f1.1.2.2.2 (x + 7) (by omega)).2.1]; exact c4 _ v hv
      have uw := u1.wf
      rw [s_12_12]
      simp only [↓s_12_13, ↓s_12_14, ↓s_12_17, ↓s_12_20, ↓s_12_21, ↓s_12_24, ↓s_12_27, ↓s_12_28, ↓s_12_31, ↓s_12_32, ↓s_12_33, ↓s_12_36, ↓s_12_37, ↓s_12_38, ↓s_12_39, ↓s_12_39n, ↓s_12_40, ↓s_12_41, ↓s_12_44, ↓s_12_44n, ↓s_12_45, ↓s_12_46, ↓s_12_47, ↓s_12_50, ↓s_12_51, ↓s_12_52, ↓s_12_53, ↓s_12_56, ↓s_12_59, ↓s_12_60, ↓s_12_63, kd_uF, ln_uF, ai_uF, al_uF, ar_uF, zs_uF, fd_uF, kd_uA, ln_uA, fd_uA, al_uA, ar_uA, zs_uA, ai_uA, kd_uL, ln_uL, fd_uL, ai_uL, ar_uL, zs_uL, al_uL, kd_uR, ln_uR, fd_uR, ai_uR, al_uR, zs_uR, ar_uR, true_and, and_true, Option.toList_some, Option.toList_none, List.cons_append, List.nil_append, catS_nil, catS_int, catS_ref, catS_null, catS_long, cat_int, cat_ref, cat_null, Nat.reduceEqDiff, Nat.reduceLeDiff, Nat.reduceAdd, false_and, and_false, if_false, if_true, ite_true, ite_false, true_or, or_true, false_or, or_false, and_self, forall_const, true_implies, reduceCtorEq, clr_int, clr_ref, clr_null, clr_none, clr_long, va_rf_some, va_rf_none, a0', a4', a6', b1', b3', b5', b7', pl, clN (show i < 2147483648 by omega), ep, clN (show S.2.2.1.getD i 0 < 2147483648 by omega), ew, uw.1, uw.2]
      rw [nI_1]
      refine ⟨fun q => absurd q (nI_ge (by omega) (by omega)), fun _ => ⟨fun q => absurd q (nI_ge (b := 4096) (by omega) (by decide)), fun _ => ⟨inR_nI (by omega) (by decide), rfl, fun q => absurd q (nI_ge (b := 4096) hP (by decide)), fun _ => ⟨inR_nI hP (by decide), inR_nI hP (by decide), ?_⟩⟩⟩⟩
      refine ih (i + 1) _ (va_up M (S.2.2.1.getD i 0) v) _ (by omega) (f1.A (by decide)) u1.Mem (fun a ha => ?_) (fun a ha => ?_)
      · obtain ⟨m, hm1, hm2⟩ := ha
        unfold va_up
        by_cases c : a = S.2.2.1.getD i 0
        · rw [if_pos c, c, hv]; rfl
        · rw [if_neg c]
          refine m1 a ⟨m, ?_, hm2⟩
          by_cases c2 : m = i
          · subst c2; exact absurd hm2.symm c
          · omega
      · unfold va_up
        rw [if_neg (fun z => ha i (by omega) z.symm)]
        exact m2 a (fun m hm => ha m (by omega))
  simp only [↓s_12_0, ↓s_12_1, ↓s_12_4, ↓s_12_7, ↓s_12_9, ↓s_12_10, ↓s_12_11, kd_uF, ln_uF, ai_uF, al_uF, ar_uF, zs_uF, fd_uF, kd_uA, ln_uA, fd_uA, al_uA, ar_uA, zs_uA, ai_uA, kd_uL, ln_uL, fd_uL, ai_uL, ar_uL, zs_uL, al_uL, kd_uR, ln_uR, fd_uR, ai_uR, al_uR, zs_uR, ar_uR, true_and, and_true, Option.toList_some, Option.toList_none, List.cons_append, List.nil_append, catS_nil, catS_int, catS_ref, catS_null, catS_long, cat_int, cat_ref, cat_null, Nat.reduceEqDiff, Nat.reduceLeDiff, Nat.reduceAdd, false_and, and_false, if_false, if_true, ite_true, ite_false, true_or, or_true, false_or, or_false, and_self, forall_const, true_implies, reduceCtorEq, clr_int, clr_ref, clr_null, clr_none, clr_long, va_rf_some, va_rf_none, hA.1, hF]
  exact ⟨fun _ => lp S.2.2.1.length 0 w (uMm u) _ (by omega) FrU.rf hu (fun a ⟨m, hm, _⟩ => absurd hm (Nat.not_lt_zero _)) (fun a _ => rfl), fun q => absurd rfl q⟩
