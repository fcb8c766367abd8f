def C35 : nt := (R35.drop 28).take 6 ++ (R35.take 28 ++ R35.drop 34)
theorem C35_len : C35.length = 35 := rfl
theorem ctb_len {t : nt} : (C35 ++ t).length = 35 + t.length := by rw [List.length_append, C35_len]
theorem C35_in : ∀ y ∈ C35, y ∈ R35 := by decide
theorem R35_in : ∀ y ∈ R35, y ∈ C35 := by decide
theorem c_mem {t : nt} {y : List Nat × Nat} : y ∈ C35 ++ t ↔ y ∈ R35 ++ t := by
  rw [List.mem_append, List.mem_append]
  exact ⟨fun h => h.imp (C35_in y) id, fun h => h.imp (R35_in y) id⟩
def CB (w : aw) (x : Nat) (t : nt) : Prop := kd w (x + 4) = 4 ∧ fd w 192 (x + 4) = .ref (x + 5) ∧ fd w 193 (x + 4) = .ref (x + 6) ∧ kd w (x + 5) = 22 ∧ ln w (x + 5) = 235 ∧ kd w (x + 6) = 20 ∧ ln w (x + 6) = 235 ∧ fd w 194 (x + 4) = .int (nI (35 + t.length)) ∧ ∀ k y, (C35 ++ t)[k]? = some y → al w (x + 5) k = lN (b256 y.1) ∧ ai w (x + 6) k = rn y.2
theorem CB.Fr {w w' : aw} {x lo hi : Nat} {t : nt} (h : CB w x t) (hF : Fr w w' lo hi) (h1 : x + 7 ≤ lo ∨ hi ≤ x + 4) : CB w' x t := by
  obtain ⟨a1, a2, a3, a4, a5, a6, a7, a8, a9⟩ := h
  have o4 := hF.2.2.2 (x + 4) (by omega)
  have o5 := hF.2.2.2 (x + 5) (by omega)
  have o6 := hF.2.2.2 (x + 6) (by omega)
  exact ⟨(hF.1 _).trans a1, (o4.1 _).trans a2, (o4.1 _).trans a3, (hF.1 _).trans a4, (hF.2.1 _).trans a5, (hF.1 _).trans a6, (hF.2.1 _).trans a7, (o4.1 _).trans a8, fun k y hy => ⟨(o5.2.2.1 _).trans (a9 k y hy).1, (o6.2.1 _).trans (a9 k y hy).2⟩⟩
theorem sp_c_find {d : Nat} {w : aw} {x : Nat} {t : nt} {l : List Nat} {Q : wQ} (hB : CB w x t) (hN : TN t) (hl : okN l) (h6 : l.length ≤ 6) (h1 : ∀ k y, (C35 ++ t)[k]? = some y → y.1 = l → k < 35 + t.length → Q (some (.int (nI k))) w) (h2 : (∀ y ∈ R35 ++ t, y.1 ≠ l) → Q (some (.int (-1))) w) : wpD (d + 1) 36 [.ref (x + 4), .long (lN (b256 l))] w Q := by
  refine ⟨Nat.le_of_ble_eq_true rfl, ?_⟩
  show wp d 36 Q 0 [some (.ref (x + 4)), some (.long (lN (b256 l))), none, none] [] w 0 0
  obtain ⟨a1, a2, a3, a4, a5, a6, a7, a8, a9⟩ := hB
  have ht := hN.2.2
  have lp : ∀ (j k : Nat), k + j = 35 + t.length → (∀ i y, i < k → (C35 ++ t)[i]? = some y → y.1 ≠ l) → wp d 36 Q 2 [some (.ref (x + 4)), some (.long (lN (b256 l))), none, some (.int (nI k))] [] w 0 0 := by
    intro j
    induction j with
    | zero =>
      intro k hk hr
      have e : k = 35 + t.length := by omega
      subst e
      rw [s_36_2]
      simp only [↓s_36_3, ↓s_36_4, ↓s_36_7, ↓s_36_38, ↓s_36_39, kd_uF, ln_uF, ai_uF, al_uF, ar_uF, zs_uF, fd_uF, kd_uA, ln_uA, fd_uA, al_uA, ar_uA, zs_uA, ai_uA, kd_uL, ln_uL, fd_uL, ai_uL, ar_uL, zs_uL, al_uL, kd_uR, ln_uR, fd_uR, ai_uR, al_uR, zs_uR, ar_uR, true_and, and_true, Option.toList_some, Option.toList_none, List.cons_append, List.nil_append, catS_nil, catS_int, catS_ref, catS_null, catS_long, cat_int, cat_ref, cat_null, Nat.reduceEqDiff, Nat.reduceLeDiff, Nat.reduceAdd, false_and, and_false, if_false, if_true, ite_true, ite_false, true_or, or_true, false_or, or_false, and_self, forall_const, true_implies, reduceCtorEq, clr_int, clr_ref, clr_null, clr_none, clr_long, va_rf_some, va_rf_none, a1, a8]
      refine ⟨fun _ => h2 (fun y hy => ?_), fun q => absurd (nI_le (Nat.le_refl _) (by omega)) q⟩
      obtain ⟨i, hi⟩ := List.getElem?_of_mem (c_mem.mpr hy)
      have := (List.getElem?_eq_some_iff.mp hi).1
      rw [ctb_len] at this
      exact hr i y this hi
    | succ j ih =>
      intro k hk hr
      obtain ⟨y, hy⟩ : ∃ y, (C35 ++ t)[k]? = some y := ⟨_, List.getElem?_eq_getElem (by rw [ctb_len]; omega)⟩
      have hyo := hN.2.1 y (c_mem.mp (List.mem_of_getElem? hy))
      have hb := a9 k y hy
      rw [s_36_2]
      simp only [↓s_36_3, ↓s_36_4, ↓s_36_7, ↓s_36_10, ↓s_36_11, ↓s_36_12, ↓s_36_15, ↓s_36_16, ↓s_36_19, ↓s_36_20, ↓s_36_23, ↓s_36_24, ↓s_36_25, ↓s_36_26, ↓s_36_27, ↓s_36_30, ↓s_36_31, ↓s_36_32, ↓s_36_35, ↓s_36_38, ↓s_36_39, kd_uF, ln_uF, ai_uF, al_uF, ar_uF, zs_uF, fd_uF, kd_uA, ln_uA, fd_uA, al_uA, ar_uA, zs_uA, ai_uA, kd_uL, ln_uL, fd_uL, ai_uL, ar_uL, zs_uL, al_uL, kd_uR, ln_uR, fd_uR, ai_uR, al_uR, zs_uR, ar_uR, true_and, and_true, Option.toList_some, Option.toList_none, List.cons_append, List.nil_append, catS_nil, catS_int, catS_ref, catS_null, catS_long, cat_int, cat_ref, cat_null, Nat.reduceEqDiff, Nat.reduceLeDiff, Nat.reduceAdd, false_and, and_false, if_false, if_true, ite_true, ite_false, true_or, or_true, false_or, or_false, and_self, forall_const, true_implies, reduceCtorEq, clr_int, clr_ref, clr_null, clr_none, clr_long, va_rf_some, va_rf_none, a1, a2, a4, a5, a8, clN (show k < 2147483648 by omega), hb.1, lg_cmp_eq]
      rw [pk_lEQ (b256_63 hyo.1 hyo.2.1) (b256_63 hl h6), nI_1]
      have hi : b256 y.1 = b256 l → y.1 = l := b256_inj 6 _ _ hyo.2.1 hyo.1 hl
      refine ⟨fun q => absurd q (nI_ge (by omega) (by omega)), fun _ => ⟨rfl, fun q => absurd q (nI_ge (by omega) (by omega)), fun _ => ⟨inR_nI (by omega) (by decide), fun q => ?_, fun q => h1 k y hy (hi q) (by omega)⟩⟩⟩
      refine ih (k + 1) (by omega) (fun i z hi hz => ?_)
      by_cases c : i = k
      · subst c
        rw [hy] at hz
        cases hz
        exact fun z => q (by rw [z])
      · exact hr i z (by omega) hz
  simp only [↓s_36_0, ↓s_36_1, kd_uF, ln_uF, ai_uF, al_uF, ar_uF, zs_uF, fd_uF, kd_uA, ln_uA, fd_uA, al_uA, ar_uA, zs_uA, ai_uA, kd_uL, ln_uL, fd_uL, ai_uL, ar_uL, zs_uL, al_uL, kd_uR, ln_uR, fd_uR, ai_uR, al_uR, zs_uR, ar_uR, true_and, and_true, Option.toList_some, Option.toList_none, List.cons_append, List.nil_append, catS_nil, catS_int, catS_ref, catS_null, catS_long, cat_int, cat_ref, cat_null, Nat.reduceEqDiff, Nat.reduceLeDiff, Nat.reduceAdd, false_and, and_false, if_false, if_true, ite_true, ite_false, true_or, or_true, false_or, or_false, and_self, forall_const, true_implies, reduceCtorEq, clr_int, clr_ref, clr_null, clr_none, clr_long, va_rf_some, va_rf_none]
  exact lp (35 + t.length) 0 (by omega) (fun i x hi => by omega)
theorem vN_rn (n : Nat) : oI (vN (some n)) = rn n := by
  cases n with
  | zero => rfl
  | succ n => rfl
theorem sp_c_value {d : Nat} {w : aw} {x : Nat} {t : nt} {l : List Nat} {Q : wQ} (hB : CB w x t) (hN : TN t) (hl : okN l) (h6 : l.length ≤ 6) (h : Q (some (.int (oI (vN (lu t l))))) w) : wpD (d + 2) 37 [.ref (x + 4), .long (lN (b256 l))] w Q := by
  refine ⟨Nat.le_of_ble_eq_true rfl, ?_⟩
  show wp (d + 1) 37 Q 0 [some (.ref (x + 4)), some (.long (lN (b256 l))), none, none] [] w 0 0
  have hB0 := hB
  obtain ⟨a1, a2, a3, a4, a5, a6, a7, a8, a9⟩ := hB
  have ht := hN.2.2
  simp only [↓s_37_0, ↓s_37_1, ↓s_37_2, kd_uF, ln_uF, ai_uF, al_uF, ar_uF, zs_uF, fd_uF, kd_uA, ln_uA, fd_uA, al_uA, ar_uA, zs_uA, ai_uA, kd_uL, ln_uL, fd_uL, ai_uL, ar_uL, zs_uL, al_uL, kd_uR, ln_uR, fd_uR, ai_uR, al_uR, zs_uR, ar_uR, true_and, and_true, Option.toList_some, Option.toList_none, List.cons_append, List.nil_append, catS_nil, catS_int, catS_ref, catS_null, catS_long, cat_int, cat_ref, cat_null, Nat.reduceEqDiff, Nat.reduceLeDiff, Nat.reduceAdd, false_and, and_false, if_false, if_true, ite_true, ite_false, true_or, or_true, false_or, or_false, and_self, forall_const, true_implies, reduceCtorEq, clr_int, clr_ref, clr_null, clr_none, clr_long, va_rf_some, va_rf_none, a1]
  refine sp_c_find hB0 hN hl h6 (fun k y e1 e2 e3 => ?_) (fun e1 => ?_)
  · have hlu : lu t l = some y.2 := by rw [← e2]; exact lu_mem hN (c_mem.mp (List.mem_of_getElem? e1))
    rw [hlu, vN_rn] at h
    simp only [↓s_37_5, ↓s_37_6, ↓s_37_7, ↓s_37_10, ↓s_37_11, ↓s_37_12, ↓s_37_15, ↓s_37_16, ↓s_37_23, ↓s_37_24, ↓s_37_27, ↓s_37_28, ↓s_37_29, kd_uF, ln_uF, ai_uF, al_uF, ar_uF, zs_uF, fd_uF, kd_uA, ln_uA, fd_uA, al_uA, ar_uA, zs_uA, ai_uA, kd_uL, ln_uL, fd_uL, ai_uL, ar_uL, zs_uL, al_uL, kd_uR, ln_uR, fd_uR, ai_uR, al_uR, zs_uR, ar_uR, true_and, and_true, Option.toList_some, Option.toList_none, List.cons_append, List.nil_append, catS_nil, catS_int, catS_ref, catS_null, catS_long, cat_int, cat_ref, cat_null, Nat.reduceEqDiff, Nat.reduceLeDiff, Nat.reduceAdd, false_and, and_false, if_false, if_true, ite_true, ite_false, true_or, or_true, false_or, or_false, and_self, forall_const, true_implies, reduceCtorEq, clr_int, clr_ref, clr_null, clr_none, clr_long, va_rf_some, va_rf_none, a1, a3, a6, a7, clN (show k < 2147483648 by omega), (a9 k y e1).2]
    exact ⟨fun q => absurd q (nI_pos (by omega)), fun _ => ⟨rfl, fun q => ⟨inR_nI (by omega) (by decide), h⟩, fun q => absurd (nI_lt (a := k) (b := 235) (by omega) (by decide)) q⟩⟩
  · rw [lu_none e1] at h
    simp only [↓s_37_5, ↓s_37_6, ↓s_37_7, ↓s_37_10, ↓s_37_11, ↓s_37_12, ↓s_37_15, ↓s_37_16, ↓s_37_19, ↓s_37_20, ↓s_37_23, ↓s_37_24, ↓s_37_27, ↓s_37_28, ↓s_37_29, kd_uF, ln_uF, ai_uF, al_uF, ar_uF, zs_uF, fd_uF, kd_uA, ln_uA, fd_uA, al_uA, ar_uA, zs_uA, ai_uA, kd_uL, ln_uL, fd_uL, ai_uL, ar_uL, zs_uL, al_uL, kd_uR, ln_uR, fd_uR, ai_uR, al_uR, zs_uR, ar_uR, true_and, and_true, Option.toList_some, Option.toList_none, List.cons_append, List.nil_append, catS_nil, catS_int, catS_ref, catS_null, catS_long, cat_int, cat_ref, cat_null, Nat.reduceEqDiff, Nat.reduceLeDiff, Nat.reduceAdd, false_and, and_false, if_false, if_true, ite_true, ite_false, true_or, or_true, false_or, or_false, and_self, forall_const, true_implies, reduceCtorEq, clr_int, clr_ref, clr_null, clr_none, clr_long, va_rf_some, va_rf_none, a1, a3, a6, a7]
    exact ⟨fun _ => h, fun q => absurd (by decide) q⟩
theorem sp_c_add {d : Nat} {w : aw} {x v : Nat} {l : List Nat} {cnt0 : Nat} {Q : wQ} (k4 : kd w (x + 4) = 4) (f1 : fd w 192 (x + 4) = .ref (x + 5)) (f2 : fd w 193 (x + 4) = .ref (x + 6)) (k5 : kd w (x + 5) = 22) (n5 : ln w (x + 5) = 235) (k6 : kd w (x + 6) = 20) (n6 : ln w (x + 6) = 235) (hc : fd w 194 (x + 4) = .int (nI cnt0)) (hlt : cnt0 < 235) {b : Int32} (h : Q none (uF (uA (uL w (x + 5) cnt0 (lN (b256 l))) (x + 6) cnt0 b) 194 (x + 4) (.int (nI (cnt0 + 1))))) : wpD (d + 1) 34 [.ref (x + 4), .long (lN (b256 l)), .int b] w Q := by
  refine ⟨Nat.le_of_ble_eq_true rfl, ?_⟩
  show wp d 34 Q 0 [some (.ref (x + 4)), some (.long (lN (b256 l))), none, some (.int b)] [] w 0 0
  simp only [↓s_34_0, ↓s_34_1, ↓s_34_4, ↓s_34_5, ↓s_34_8, ↓s_34_9, ↓s_34_12, ↓s_34_13, ↓s_34_16, ↓s_34_17, ↓s_34_20, ↓s_34_21, ↓s_34_22, ↓s_34_23, ↓s_34_26, ↓s_34_27, ↓s_34_30, ↓s_34_31, ↓s_34_32, ↓s_34_33, ↓s_34_34, ↓s_34_37, ↓s_34_38, ↓s_34_39, ↓s_34_42, kd_uF, ln_uF, ai_uF, al_uF, ar_uF, zs_uF, fd_uF, kd_uA, ln_uA, fd_uA, al_uA, ar_uA, zs_uA, ai_uA, kd_uL, ln_uL, fd_uL, ai_uL, ar_uL, zs_uL, al_uL, kd_uR, ln_uR, fd_uR, ai_uR, al_uR, zs_uR, ar_uR, true_and, and_true, Option.toList_some, Option.toList_none, List.cons_append, List.nil_append, catS_nil, catS_int, catS_ref, catS_null, catS_long, cat_int, cat_ref, cat_null, Nat.reduceEqDiff, Nat.reduceLeDiff, Nat.reduceAdd, false_and, and_false, if_false, if_true, ite_true, ite_false, true_or, or_true, false_or, or_false, and_self, forall_const, true_implies, reduceCtorEq, clr_int, clr_ref, clr_null, clr_none, clr_long, va_rf_some, va_rf_none, k4, f1, f2, k5, n5, k6, n6, hc, clN (show cnt0 < 2147483648 by omega)]
  rw [nI_1]
  exact ⟨rfl, fun q => absurd q (nI_ge (b := 235) hlt (by decide)), fun _ => ⟨inR_nI hlt (by decide), inR_nI hlt (by decide), h⟩⟩
theorem CB.add {w : aw} {x v : Nat} {t : nt} {l : List Nat} (h : CB w x t) : CB (uF (uA (uL w (x + 5) (35 + t.length) (lN (b256 l))) (x + 6) (35 + t.length) (rn v)) 194 (x + 4) (.int (nI (35 + t.length + 1)))) x (t ++ [(l, v)]) := by
  obtain ⟨a1, a2, a3, a4, a5, a6, a7, a8, a9⟩ := h
  refine ⟨a1, ?_, ?_, a4, a5, a6, a7, ?_, fun k y hy => ?_⟩
  · rw [fd_uF, if_neg (fun q => absurd q.1 (by decide))]; exact a2
  · rw [fd_uF, if_neg (fun q => absurd q.1 (by decide))]; exact a3
  · rw [fd_uF, if_pos ⟨rfl, rfl⟩, List.length_append]; rfl
  · rw [← List.append_assoc] at hy
    rw [al_uF, al_uA, al_uL, ai_uF, ai_uA, ai_uL]
    by_cases c : k < 35 + t.length
    · rw [List.getElem?_append_left (by rw [ctb_len]; exact c)] at hy
      rw [if_neg (by omega), if_neg (by omega)]
      exact a9 k y hy
    · rw [List.getElem?_append_right (by rw [ctb_len]; omega), ctb_len] at hy
      have ck : k = 35 + t.length := by
        have := (List.getElem?_eq_some_iff.mp hy).1
        simp at this
        omega
      subst ck
      rw [Nat.sub_self] at hy
      cases hy
      rw [if_pos ⟨rfl, rfl⟩, if_pos ⟨rfl, rfl⟩]
      exact ⟨rfl, rfl⟩
theorem sp_c_tell {d : Nat} {w : aw} {x v : Nat} {t : nt} {l : List Nat} {Q : wQ} (hB : CB w x t) (hN : TN t) (hl : okN l) (h6 : l.length ≤ 6) (h : ∀ w', CB w' x (tl1 t l v).2 → Fr w w' (x + 4) (x + 7) → Q (some (.int (nI (tl1 t l v).1))) w') : wpD (d + 2) 38 [.ref (x + 4), .long (lN (b256 l)), .int (nI v)] w Q := by
  refine ⟨Nat.le_of_ble_eq_true rfl, ?_⟩
  show wp (d + 1) 38 Q 0 [some (.ref (x + 4)), some (.long (lN (b256 l))), none, some (.int (nI v))] [] w 0 0
  have hB0 := hB
  obtain ⟨a1, a2, a3, a4, a5, a6, a7, a8, a9⟩ := hB
  have ht := hN.2.2
  simp only [↓s_38_0, ↓s_38_1, ↓s_38_2, kd_uF, ln_uF, ai_uF, al_uF, ar_uF, zs_uF, fd_uF, kd_uA, ln_uA, fd_uA, al_uA, ar_uA, zs_uA, ai_uA, kd_uL, ln_uL, fd_uL, ai_uL, ar_uL, zs_uL, al_uL, kd_uR, ln_uR, fd_uR, ai_uR, al_uR, zs_uR, ar_uR, true_and, and_true, Option.toList_some, Option.toList_none, List.cons_append, List.nil_append, catS_nil, catS_int, catS_ref, catS_null, catS_long, cat_int, cat_ref, cat_null, Nat.reduceEqDiff, Nat.reduceLeDiff, Nat.reduceAdd, false_and, and_false, if_false, if_true, ite_true, ite_false, true_or, or_true, false_or, or_false, and_self, forall_const, true_implies, reduceCtorEq, clr_int, clr_ref, clr_null, clr_none, clr_long, va_rf_some, va_rf_none, a1]
  refine sp_c_find hB0 hN hl h6 (fun k y e1 e2 e3 => ?_) (fun e1 => ?_)
  · have hlu : lu t l = some y.2 := by rw [← e2]; exact lu_mem hN (c_mem.mp (List.mem_of_getElem? e1))
    have ht1 : tl1 t l v = (3, t) := by unfold tl1; rw [if_pos (by rw [hlu]; rfl)]
    rw [ht1] at h
    simp only [↓s_38_5, ↓s_38_6, ↓s_38_9, ↓s_38_10, ↓s_38_11, ↓s_38_12, ↓s_38_15, ↓s_38_18, ↓s_38_21, ↓s_38_23, ↓s_38_24, ↓s_38_25, ↓s_38_26, ↓s_38_27, kd_uF, ln_uF, ai_uF, al_uF, ar_uF, zs_uF, fd_uF, kd_uA, ln_uA, fd_uA, al_uA, ar_uA, zs_uA, ai_uA, kd_uL, ln_uL, fd_uL, ai_uL, ar_uL, zs_uL, al_uL, kd_uR, ln_uR, fd_uR, ai_uR, al_uR, zs_uR, ar_uR, true_and, and_true, Option.toList_some, Option.toList_none, List.cons_append, List.nil_append, catS_nil, catS_int, catS_ref, catS_null, catS_long, cat_int, cat_ref, cat_null, Nat.reduceEqDiff, Nat.reduceLeDiff, Nat.reduceAdd, false_and, and_false, if_false, if_true, ite_true, ite_false, true_or, or_true, false_or, or_false, and_self, forall_const, true_implies, reduceCtorEq, clr_int, clr_ref, clr_null, clr_none, clr_long, va_rf_some, va_rf_none, a1, a8]
    refine ⟨fun q => ?_, fun _ => h w hB0 Fr.rf⟩
    exact absurd q (by
      intro q
      have := neg1_lt (c := k) (by omega)
      rw [q] at this
      exact Int32.lt_irrefl this)
  · have hn : ¬ (lu t l).isSome = true := by rw [lu_none e1]; decide
    simp only [↓s_38_5, ↓s_38_6, ↓s_38_9, ↓s_38_10, ↓s_38_11, ↓s_38_12, ↓s_38_15, ↓s_38_18, ↓s_38_21, ↓s_38_23, ↓s_38_24, ↓s_38_25, ↓s_38_26, ↓s_38_27, kd_uF, ln_uF, ai_uF, al_uF, ar_uF, zs_uF, fd_uF, kd_uA, ln_uA, fd_uA, al_uA, ar_uA, zs_uA, ai_uA, kd_uL, ln_uL, fd_uL, ai_uL, ar_uL, zs_uL, al_uL, kd_uR, ln_uR, fd_uR, ai_uR, al_uR, zs_uR, ar_uR, true_and, and_true, Option.toList_some, Option.toList_none, List.cons_append, List.nil_append, catS_nil, catS_int, catS_ref, catS_null, catS_long, cat_int, cat_ref, cat_null, Nat.reduceEqDiff, Nat.reduceLeDiff, Nat.reduceAdd, false_and, and_false, if_false, if_true, ite_true, ite_false, true_or, or_true, false_or, or_false, and_self, forall_const, true_implies, reduceCtorEq, clr_int, clr_ref, clr_null, clr_none, clr_long, va_rf_some, va_rf_none, a1, a8]
    rw [show (235 : Int32) = nI 235 from rfl, nI_ltI (by omega) (by decide)]
    refine ⟨⟨fun q => ?_, fun q => ?_⟩, fun q => absurd trivial q⟩
    · have ht1 : tl1 t l v = (0, t ++ [(l, v + 1)]) := by unfold tl1; rw [if_neg hn, if_neg (by omega)]
      rw [ht1] at h
      refine sp_c_add (v := v) a1 a2 a3 a4 a5 a6 a7 a8 (by omega) ?_
      simp only [↓s_38_30, ↓s_38_31, kd_uF, ln_uF, ai_uF, al_uF, ar_uF, zs_uF, fd_uF, kd_uA, ln_uA, fd_uA, al_uA, ar_uA, zs_uA, ai_uA, kd_uL, ln_uL, fd_uL, ai_uL, ar_uL, zs_uL, al_uL, kd_uR, ln_uR, fd_uR, ai_uR, al_uR, zs_uR, ar_uR, true_and, and_true, Option.toList_some, Option.toList_none, List.cons_append, List.nil_append, catS_nil, catS_int, catS_ref, catS_null, catS_long, cat_int, cat_ref, cat_null, Nat.reduceEqDiff, Nat.reduceLeDiff, Nat.reduceAdd, false_and, and_false, if_false, if_true, ite_true, ite_false, true_or, or_true, false_or, or_false, and_self, forall_const, true_implies, reduceCtorEq, clr_int, clr_ref, clr_null, clr_none, clr_long, va_rf_some, va_rf_none]
      exact h _ (hB0.add (v := v + 1)) (((Fr.rf.L (by omega) (by omega)).A (by omega) (by omega)).F (by omega) (by omega))
    · have ht1 : tl1 t l v = (6, t) := by unfold tl1; rw [if_neg hn, if_pos (by omega)]
      rw [ht1] at h
      exact h w hB0 Fr.rf
theorem cmw_at {t : nt} {k : Nat} {y : List Nat × Nat} (h : TN t) (hy : (C35 ++ t)[k]? = some y) : (k < 6 → mw y.1 = some k) ∧ (6 ≤ k → mw y.1 = none) := by
  constructor
  · intro q
    rw [List.getElem?_append_left (by rw [C35_len]; omega)] at hy
    have : k = 0 ∨ k = 1 ∨ k = 2 ∨ k = 3 ∨ k = 4 ∨ k = 5 := by omega
    rcases this with c | c | c | c | c | c <;> subst c <;> cases hy <;> rfl
  · intro q
    by_cases c : k < 35
    · rw [List.getElem?_append_left (by rw [C35_len]; omega)] at hy
      have all : ∀ i, i < 35 → 6 ≤ i → (C35[i]?).all (fun y => mw y.1 == none) = true := by decide
      have := all k c q
      rw [hy] at this
      simpa using this
    · rw [List.getElem?_append_right (by rw [C35_len]; omega), C35_len] at hy
      have hy' : (R35 ++ t)[k]? = some y := by rw [List.getElem?_append_right (by rw [R35_len]; omega), R35_len]; exact hy
      exact (mw_at h hy').2 (by omega)
theorem sp_c_findM {d : Nat} {w : aw} {x : Nat} {t : nt} {l : List Nat} {Q : wQ} (hB : CB w x t) (hN : TN t) (hl : okN l) (h6 : l.length ≤ 6) (h1 : ∀ i, mw l = some i → i < 6 → Q (some (.int (nI i))) w) (h2 : mw l = none → ∀ v : Int32, (v < 0 ∨ nI 6 ≤ v) → Q (some (.int v)) w) : wpD (d + 1) 36 [.ref (x + 4), .long (lN (b256 l))] w Q := by
  have ht := hN.2.2
  refine sp_c_find hB hN hl h6 (fun k y e1 e2 e3 => ?_) (fun e1 => ?_)
  · have := cmw_at hN e1
    rw [e2] at this
    by_cases c : k < 6
    · exact h1 k (this.1 c) c
    · exact h2 (this.2 (by omega)) _ (Or.inr (nI_le (by omega) (by omega)))
  · exact h2 (mw_none e1) _ (Or.inl (by decide))
theorem sp_c_begin {d : Nat} {w : aw} {x n e a b : Nat} {T : Nat → Nat} {Q : wQ} (hS : SR w x T n e) (hab : a ≤ b) (hbn : b ≤ n) (h : ∀ w', SR w' x T n b → fd w' 258 (x + 11) = .int (nI (bE T b a)) → Fr w w' (x + 11) (x + 12) → Q none w') : wpD (d + 3) 46 [.ref (x + 11), .int (nI a), .int (nI b)] w Q := by
  refine ⟨Nat.le_of_ble_eq_true rfl, ?_⟩
  show wp (d + 2) 46 Q 0 [some (.ref (x + 11)), some (.int (nI a)), some (.int (nI b))] [] w 0 0
  obtain ⟨a1, a2, a3, a4, a5, a6, a7, a8, a9, a10, a11, a12, a13⟩ := hS
  have hS1 : SR (uF w 259 (x + 11) (.int (nI b))) x T n b := by
    refine ⟨a1, ?_, ?_, a4, ?_, a6, a7, ?_, a9, ?_, hbn, a12, a13⟩
    · rw [fd_uF, if_neg (fun q => absurd q.1 (by decide))]; exact a2
    · rw [fd_uF, if_neg (fun q => absurd q.1 (by decide))]; exact a3
    · rw [fd_uF, if_neg (fun q => by omega)]; exact a5
    · rw [fd_uF, if_neg (fun q => by omega)]; exact a8
    · rw [fd_uF, if_pos ⟨rfl, rfl⟩]
  simp only [↓s_46_0, ↓s_46_1, ↓s_46_2, ↓s_46_5, ↓s_46_6, ↓s_46_7, ↓s_46_8, kd_uF, ln_uF, ai_uF, al_uF, ar_uF, zs_uF, fd_uF, kd_uA, ln_uA, fd_uA, al_uA, ar_uA, zs_uA, ai_uA, kd_uL, ln_uL, fd_uL, ai_uL, ar_uL, zs_uL, al_uL, kd_uR, ln_uR, fd_uR, ai_uR, al_uR, zs_uR, ar_uR, true_and, and_true, Option.toList_some, Option.toList_none, List.cons_append, List.nil_append, catS_nil, catS_int, catS_ref, catS_null, catS_long, cat_int, cat_ref, cat_null, Nat.reduceEqDiff, Nat.reduceLeDiff, Nat.reduceAdd, false_and, and_false, if_false, if_true, ite_true, ite_false, true_or, or_true, false_or, or_false, and_self, forall_const, true_implies, reduceCtorEq, clr_int, clr_ref, clr_null, clr_none, clr_long, va_rf_some, va_rf_none, a1]
  refine sp_c_blanks hS1 (by omega) ?_
  simp only [↓s_46_11, ↓s_46_14, kd_uF, ln_uF, ai_uF, al_uF, ar_uF, zs_uF, fd_uF, kd_uA, ln_uA, fd_uA, al_uA, ar_uA, zs_uA, ai_uA, kd_uL, ln_uL, fd_uL, ai_uL, ar_uL, zs_uL, al_uL, kd_uR, ln_uR, fd_uR, ai_uR, al_uR, zs_uR, ar_uR, true_and, and_true, Option.toList_some, Option.toList_none, List.cons_append, List.nil_append, catS_nil, catS_int, catS_ref, catS_null, catS_long, cat_int, cat_ref, cat_null, Nat.reduceEqDiff, Nat.reduceLeDiff, Nat.reduceAdd, false_and, and_false, if_false, if_true, ite_true, ite_false, true_or, or_true, false_or, or_false, and_self, forall_const, true_implies, reduceCtorEq, clr_int, clr_ref, clr_null, clr_none, clr_long, va_rf_some, va_rf_none, a1]
  refine h _ ((FrB.rf.F (Or.inl rfl)).S hS1) (by rw [fd_uF, if_pos ⟨rfl, rfl⟩]) ((Fr.rf.F (by omega) (by omega)).F (by omega) (by omega))
theorem sp_c_label {d : Nat} {w : aw} {x n e p : Nat} {T : Nat → Nat} {Q : wQ} (hS : SR w x T n e) (hat : fd w 258 (x + 11) = .int (nI p)) (hp : p ≤ e) (h1 : isLb T e p = true → ∀ w', SR w' x T n e → fd w' 258 (x + 11) = .int (nI (bE T e (wE T e p + 1))) → fd w' 262 (x + 11) = .long (lN (b256 (nmE T e p))) → Fr w w' (x + 11) (x + 12) → Q (some (.int 1)) w') (h2 : isLb T e p = false → ∀ w', SR w' x T n e → fd w' 258 (x + 11) = .int (nI p) → Fr w w' (x + 11) (x + 12) → Q (some (.int 0)) w') : wpD (d + 3) 47 [.ref (x + 11)] w Q := by
  refine ⟨Nat.le_of_ble_eq_true rfl, ?_⟩
  show wp (d + 2) 47 Q 0 [some (.ref (x + 11)), none] [] w 0 0
  have hS0 := hS
  obtain ⟨a1, a2, a3, a4, a5, a6, a7, a8, a9, a10, a11, a12, a13⟩ := hS
  have hw := wE_ge (T := T) (e := e) (p := p)
  have hwl := wE_le (T := T) hp
  obtain ⟨w1, hw1⟩ : ∃ w1, w1 = uF w 262 (x + 11) (.long (lN (b256 (nmK T e p)))) := ⟨_, rfl⟩
  have F1 : Fr w w1 (x + 11) (x + 12) := by rw [hw1]; exact Fr.rf.F (by omega) (by omega)
  have hS1 : SR w1 x T n e := by rw [hw1]; exact hS0.kept (Fr.rf.F (by omega) (by omega)) (by rw [fd_uF, if_neg (fun q => absurd q.1 (by decide))]) (by rw [fd_uF, if_neg (fun q => absurd q.1 (by decide))]) (by rw [fd_uF, if_neg (fun q => absurd q.1 (by decide))])
  have at1 : fd w1 258 (x + 11) = .int (nI p) := by rw [hw1, fd_uF, if_neg (fun q => absurd q.1 (by decide))]; exact hat
  have ky1 : fd w1 262 (x + 11) = .long (lN (b256 (nmK T e p))) := by rw [hw1, fd_uF, if_pos ⟨rfl, rfl⟩]
  have no : isLb T e p = false → wp (d + 2) 47 Q 41 [some (.ref (x + 11)), some (.int (nI (wE T e p)))] [] w1 0 0 := by
    intro q
    simp only [↓s_47_41, ↓s_47_42, kd_uF, ln_uF, ai_uF, al_uF, ar_uF, zs_uF, fd_uF, kd_uA, ln_uA, fd_uA, al_uA, ar_uA, zs_uA, ai_uA, kd_uL, ln_uL, fd_uL, ai_uL, ar_uL, zs_uL, al_uL, kd_uR, ln_uR, fd_uR, ai_uR, al_uR, zs_uR, ar_uR, true_and, and_true, Option.toList_some, Option.toList_none, List.cons_append, List.nil_append, catS_nil, catS_int, catS_ref, catS_null, catS_long, cat_int, cat_ref, cat_null, Nat.reduceEqDiff, Nat.reduceLeDiff, Nat.reduceAdd, false_and, and_false, if_false, if_true, ite_true, ite_false, true_or, or_true, false_or, or_false, and_self, forall_const, true_implies, reduceCtorEq, clr_int, clr_ref, clr_null, clr_none, clr_long, va_rf_some, va_rf_none]
    exact ⟨rfl, h2 q w1 hS1 at1 F1⟩
  simp only [↓s_47_0, ↓s_47_1, ↓s_47_2, ↓s_47_5, kd_uF, ln_uF, ai_uF, al_uF, ar_uF, zs_uF, fd_uF, kd_uA, ln_uA, fd_uA, al_uA, ar_uA, zs_uA, ai_uA, kd_uL, ln_uL, fd_uL, ai_uL, ar_uL, zs_uL, al_uL, kd_uR, ln_uR, fd_uR, ai_uR, al_uR, zs_uR, ar_uR, true_and, and_true, Option.toList_some, Option.toList_none, List.cons_append, List.nil_append, catS_nil, catS_int, catS_ref, catS_null, catS_long, cat_int, cat_ref, cat_null, Nat.reduceEqDiff, Nat.reduceLeDiff, Nat.reduceAdd, false_and, and_false, if_false, if_true, ite_true, ite_false, true_or, or_true, false_or, or_false, and_self, forall_const, true_implies, reduceCtorEq, clr_int, clr_ref, clr_null, clr_none, clr_long, va_rf_some, va_rf_none, a1, hat]
  refine sp_c_word hS0 (by omega) ?_
  simp only [↓s_47_8, ↓s_47_9, ↓s_47_10, ↓s_47_11, ↓s_47_12, ↓s_47_15, ↓s_47_16, kd_uF, ln_uF, ai_uF, al_uF, ar_uF, zs_uF, fd_uF, kd_uA, ln_uA, fd_uA, al_uA, ar_uA, zs_uA, ai_uA, kd_uL, ln_uL, fd_uL, ai_uL, ar_uL, zs_uL, al_uL, kd_uR, ln_uR, fd_uR, ai_uR, al_uR, zs_uR, ar_uR, true_and, and_true, Option.toList_some, Option.toList_none, List.cons_append, List.nil_append, catS_nil, catS_int, catS_ref, catS_null, catS_long, cat_int, cat_ref, cat_null, Nat.reduceEqDiff, Nat.reduceLeDiff, Nat.reduceAdd, false_and, and_false, if_false, if_true, ite_true, ite_false, true_or, or_true, false_or, or_false, and_self, forall_const, true_implies, reduceCtorEq, clr_int, clr_ref, clr_null, clr_none, clr_long, va_rf_some, va_rf_none, a1, hat]
  refine sp_c_key hS0 (by omega) ?_
  simp only [↓s_47_19, ↓s_47_22, ↓s_47_23, ↓s_47_26, ↓s_47_27, ↓s_47_28, ↓s_47_31, ↓s_47_32, ↓s_47_33, kd_uF, ln_uF, ai_uF, al_uF, ar_uF, zs_uF, fd_uF, kd_uA, ln_uA, fd_uA, al_uA, ar_uA, zs_uA, ai_uA, kd_uL, ln_uL, fd_uL, ai_uL, ar_uL, zs_uL, al_uL, kd_uR, ln_uR, fd_uR, ai_uR, al_uR, zs_uR, ar_uR, true_and, and_true, Option.toList_some, Option.toList_none, List.cons_append, List.nil_append, catS_nil, catS_int, catS_ref, catS_null, catS_long, cat_int, cat_ref, cat_null, Nat.reduceEqDiff, Nat.reduceLeDiff, Nat.reduceAdd, false_and, and_false, if_false, if_true, ite_true, ite_false, true_or, or_true, false_or, or_false, and_self, forall_const, true_implies, reduceCtorEq, clr_int, clr_ref, clr_null, clr_none, clr_long, va_rf_some, va_rf_none, a1, lg_cmp_eq]
  rw [← hw1, key_0]
  refine ⟨fun q => no (by unfold isLb; rw [q]; rfl), fun q => sp_c_look hS1 (by omega) ?_⟩
  have q' : isN T e p = true := by simpa using q
  simp only [↓s_47_36, ↓s_47_38, ↓s_47_43, ↓s_47_44, ↓s_47_45, ↓s_47_46, ↓s_47_47, ↓s_47_48, kd_uF, ln_uF, ai_uF, al_uF, ar_uF, zs_uF, fd_uF, kd_uA, ln_uA, fd_uA, al_uA, ar_uA, zs_uA, ai_uA, kd_uL, ln_uL, fd_uL, ai_uL, ar_uL, zs_uL, al_uL, kd_uR, ln_uR, fd_uR, ai_uR, al_uR, zs_uR, ar_uR, true_and, and_true, Option.toList_some, Option.toList_none, List.cons_append, List.nil_append, catS_nil, catS_int, catS_ref, catS_null, catS_long, cat_int, cat_ref, cat_null, Nat.reduceEqDiff, Nat.reduceLeDiff, Nat.reduceAdd, false_and, and_false, if_false, if_true, ite_true, ite_false, true_or, or_true, false_or, or_false, and_self, forall_const, true_implies, reduceCtorEq, clr_int, clr_ref, clr_null, clr_none, clr_long, va_rf_some, va_rf_none, hS1.1]
  rw [show (44 : Int32) = nI 44 from rfl, lkI_eq a13 (by decide) (by decide), nI_1]
  refine ⟨fun q2 => ?_, fun q2 => no ?_⟩
  · have hLb : isLb T e p = true := isLb_iff.mpr ⟨q', q2⟩
    have hz := isLb_pos hLb
    refine sp_c_blanks hS1 (by omega) ?_
    simp only [↓s_47_51, ↓s_47_54, ↓s_47_55, kd_uF, ln_uF, ai_uF, al_uF, ar_uF, zs_uF, fd_uF, kd_uA, ln_uA, fd_uA, al_uA, ar_uA, zs_uA, ai_uA, kd_uL, ln_uL, fd_uL, ai_uL, ar_uL, zs_uL, al_uL, kd_uR, ln_uR, fd_uR, ai_uR, al_uR, zs_uR, ar_uR, true_and, and_true, Option.toList_some, Option.toList_none, List.cons_append, List.nil_append, catS_nil, catS_int, catS_ref, catS_null, catS_long, cat_int, cat_ref, cat_null, Nat.reduceEqDiff, Nat.reduceLeDiff, Nat.reduceAdd, false_and, and_false, if_false, if_true, ite_true, ite_false, true_or, or_true, false_or, or_false, and_self, forall_const, true_implies, reduceCtorEq, clr_int, clr_ref, clr_null, clr_none, clr_long, va_rf_some, va_rf_none, hS1.1]
    refine ⟨rfl, h1 hLb _ ((FrB.rf.F (Or.inl rfl)).S hS1) (by rw [fd_uF, if_pos ⟨rfl, rfl⟩]) ?_ (F1.F (by omega) (by omega))⟩
    rw [fd_uF, if_neg (fun q => absurd q.1 (by decide)), ky1]
    unfold nmK
    rw [if_pos q']
  · cases c : isLb T e p with
    | false => rfl
    | true => exact absurd (isLb_iff.mp c).2 q2
