/-! Letters: a row of at most sixteen letters -/
theorem rem16 {a : Nat} (h : a < 2147483648) : nI a &&& 15 = nI (a % 16) := pk_andN (m := 15) (show a < 4294967296 by omega) 4 (by decide)
theorem le0 : Nat.le 0 0 := Nat.le_refl 0
def LAt (w : aw) (b : Nat) (xs : List Nat) : Prop := kd w b = 3 ∧ fd w 128 b = .ref (b + 1) ∧ kd w (b + 1) = 20 ∧ ln w (b + 1) = 16 ∧ ∃ f, f < 16 ∧ fd w 129 b = .int (nI f) ∧ fd w 130 b = .int (nI xs.length) ∧ xs.length ≤ 16 ∧ ∀ i, i < xs.length → ai w (b + 1) ((f + i) % 16) = nI (xs.getD i 0)
theorem LAt.kept {w w' : aw} {b : Nat} {xs : List Nat} (h : LAt w b xs) (hk : ∀ q, kd w' q = kd w q) (hl : ∀ q, ln w' q = ln w q) (hf : ∀ g, fd w' g b = fd w g b) (ha : ∀ i, ai w' (b + 1) i = ai w (b + 1) i) : LAt w' b xs := by
  obtain ⟨h1, h2, h3, h4, f, h5, h6, h7, h8, h9⟩ := h
  exact ⟨by rw [hk]; exact h1, by rw [hf]; exact h2, by rw [hk]; exact h3, by rw [hl]; exact h4, f, h5, by rw [hf]; exact h6, by rw [hf]; exact h7, h8, fun i hi => by rw [ha]; exact h9 i hi⟩
theorem sp_L_at {d : Nat} {w : aw} {b : Nat} {i : Int32} {xs : List Nat} {Q : wQ} (hL : LAt w b xs) (h1 : ∀ j, j < xs.length → i = nI j → Q (some (.int (nI (xs.getD j 0)))) w) (h2 : (∀ j, j < xs.length → i ≠ nI j) → Q (some (.int (-1))) w) : wpD (d + 1) 30 [.ref b, .int i] w Q := by
  obtain ⟨hk, hr, hk2, hln, f, hf, hfi, hsz, hle, hx⟩ := hL
  refine ⟨Nat.le_of_ble_eq_true rfl, ?_⟩
  show wp d 30 Q 0 [some (.ref b), some (.int i)] [] w 0 0
  simp only [↓s_30_0, ↓s_30_1, ↓s_30_4, ↓s_30_5, ↓s_30_6, ↓s_30_9, ↓s_30_12, ↓s_30_13, ↓s_30_16, ↓s_30_17, ↓s_30_20, ↓s_30_21, ↓s_30_24, ↓s_30_25, ↓s_30_26, ↓s_30_28, ↓s_30_29, ↓s_30_30, kd_uF, ln_uF, ai_uF, al_uF, ar_uF, zs_uF, fd_uF, kd_uA, ln_uA, fd_uA, al_uA, ar_uA, zs_uA, ai_uA, kd_uL, ln_uL, fd_uL, ai_uL, ar_uL, zs_uL, al_uL, kd_uR, ln_uR, fd_uR, ai_uR, al_uR, zs_uR, ar_uR, true_and, and_true, Option.toList_some, Option.toList_none, List.cons_append, List.nil_append, catS_nil, catS_int, catS_ref, catS_null, catS_long, cat_int, cat_ref, cat_null, Nat.reduceEqDiff, Nat.reduceLeDiff, Nat.reduceAdd, false_and, and_false, if_false, if_true, ite_true, ite_false, true_or, or_true, false_or, or_false, and_self, forall_const, true_implies, reduceCtorEq, clr_int, clr_ref, clr_null, clr_none, clr_long, va_rf_some, va_rf_none, hk, hr, hsz, hfi, hk2, hln]
  rcases pk_ix i (n := xs.length) (by omega) with c | c | ⟨j, hj, rfl⟩
  · exact ⟨fun _ => h2 (fun j hj e => absurd c (by rw [e]; exact nI_pos (by omega))), fun q => absurd c q⟩
  · refine ⟨fun q => h2 (fun j hj e => absurd q (by rw [e]; exact nI_pos (by omega))), fun q => ⟨fun q2 => ?_, fun q2 => h2 (fun j hj e => ?_)⟩⟩
    · exact absurd q2 (Int32.not_lt.mpr c)
    · rw [e] at c
      exact absurd c (nI_ge hj (by omega))
  · refine ⟨fun q => absurd q (nI_pos (by omega)), fun _ => ⟨fun _ => ?_, fun q => absurd (nI_lt hj (by omega)) q⟩⟩
    have e : nI f + nI j &&& 15 = nI ((f + j) % 16) := by rw [nI_add]; exact rem16 (by omega)
    rw [e, clN (by omega), hx j hj]
    exact ⟨inR_nI (by omega) (by decide), h1 j hj rfl⟩
theorem sp_L_add {d : Nat} {w : aw} {b c : Nat} {xs : List Nat} {Q : wQ} (hL : LAt w b xs) (h1 : xs.length < 16 → ∀ w', LAt w' b (xs ++ [c]) → Fr w w' b (b + 2) → Q (some (.int 1)) w') (h2 : xs.length = 16 → Q (some (.int 0)) w) : wpD (d + 1) 28 [.ref b, .int (nI c)] w Q := by
  obtain ⟨hk, hr, hk2, hln, f, hf, hfi, hsz, hle, hx⟩ := hL
  refine ⟨Nat.le_of_ble_eq_true rfl, ?_⟩
  show wp d 28 Q 0 [some (.ref b), some (.int (nI c))] [] w 0 0
  simp only [↓s_28_0, ↓s_28_1, ↓s_28_4, ↓s_28_6, ↓s_28_9, ↓s_28_10, ↓s_28_11, ↓s_28_12, ↓s_28_15, ↓s_28_16, ↓s_28_19, ↓s_28_20, ↓s_28_23, ↓s_28_24, ↓s_28_26, ↓s_28_27, ↓s_28_28, ↓s_28_29, ↓s_28_30, ↓s_28_31, ↓s_28_34, ↓s_28_35, ↓s_28_36, ↓s_28_39, ↓s_28_40, kd_uF, ln_uF, ai_uF, al_uF, ar_uF, zs_uF, fd_uF, kd_uA, ln_uA, fd_uA, al_uA, ar_uA, zs_uA, ai_uA, kd_uL, ln_uL, fd_uL, ai_uL, ar_uL, zs_uL, al_uL, kd_uR, ln_uR, fd_uR, ai_uR, al_uR, zs_uR, ar_uR, true_and, and_true, Option.toList_some, Option.toList_none, List.cons_append, List.nil_append, catS_nil, catS_int, catS_ref, catS_null, catS_long, cat_int, cat_ref, cat_null, Nat.reduceEqDiff, Nat.reduceLeDiff, Nat.reduceAdd, false_and, and_false, if_false, if_true, ite_true, ite_false, true_or, or_true, false_or, or_false, and_self, forall_const, true_implies, reduceCtorEq, clr_int, clr_ref, clr_null, clr_none, clr_long, va_rf_some, va_rf_none, hk, hr, hsz, hfi, hk2, hln]
  have e16 : (16 : Int32) = nI 16 := rfl
  refine ⟨fun q => ?_, fun q => ?_⟩
  · rw [e16, nI_ltI (by omega) (by decide)] at q
    have e : nI f + nI xs.length &&& 15 = nI ((f + xs.length) % 16) := by rw [nI_add]; exact rem16 (by omega)
    rw [e, clN (by omega)]
    refine ⟨inR_nI (by omega) (by decide), rfl, h1 q _ ⟨?_, ?_, ?_, ?_, f, hf, ?_, ?_, ?_, ?_⟩ ?_⟩
    · exact hk
    · simp only [kd_uF, ln_uF, ai_uF, al_uF, ar_uF, zs_uF, fd_uF, kd_uA, ln_uA, fd_uA, al_uA, ar_uA, zs_uA, ai_uA, kd_uL, ln_uL, fd_uL, ai_uL, ar_uL, zs_uL, al_uL, kd_uR, ln_uR, fd_uR, ai_uR, al_uR, zs_uR, ar_uR, true_and, and_true, Option.toList_some, Option.toList_none, List.cons_append, List.nil_append, catS_nil, catS_int, catS_ref, catS_null, catS_long, cat_int, cat_ref, cat_null, Nat.reduceEqDiff, Nat.reduceLeDiff, Nat.reduceAdd, false_and, and_false, if_false, if_true, ite_true, ite_false, true_or, or_true, false_or, or_false, and_self, forall_const, true_implies, reduceCtorEq, clr_int, clr_ref, clr_null, clr_none, clr_long, va_rf_some, va_rf_none]; exact hr
    · exact hk2
    · exact hln
    · simp only [kd_uF, ln_uF, ai_uF, al_uF, ar_uF, zs_uF, fd_uF, kd_uA, ln_uA, fd_uA, al_uA, ar_uA, zs_uA, ai_uA, kd_uL, ln_uL, fd_uL, ai_uL, ar_uL, zs_uL, al_uL, kd_uR, ln_uR, fd_uR, ai_uR, al_uR, zs_uR, ar_uR, true_and, and_true, Option.toList_some, Option.toList_none, List.cons_append, List.nil_append, catS_nil, catS_int, catS_ref, catS_null, catS_long, cat_int, cat_ref, cat_null, Nat.reduceEqDiff, Nat.reduceLeDiff, Nat.reduceAdd, false_and, and_false, if_false, if_true, ite_true, ite_false, true_or, or_true, false_or, or_false, and_self, forall_const, true_implies, reduceCtorEq, clr_int, clr_ref, clr_null, clr_none, clr_long, va_rf_some, va_rf_none]; exact hfi
    · simp only [kd_uF, ln_uF, ai_uF, al_uF, ar_uF, zs_uF, fd_uF, kd_uA, ln_uA, fd_uA, al_uA, ar_uA, zs_uA, ai_uA, kd_uL, ln_uL, fd_uL, ai_uL, ar_uL, zs_uL, al_uL, kd_uR, ln_uR, fd_uR, ai_uR, al_uR, zs_uR, ar_uR, true_and, and_true, Option.toList_some, Option.toList_none, List.cons_append, List.nil_append, catS_nil, catS_int, catS_ref, catS_null, catS_long, cat_int, cat_ref, cat_null, Nat.reduceEqDiff, Nat.reduceLeDiff, Nat.reduceAdd, false_and, and_false, if_false, if_true, ite_true, ite_false, true_or, or_true, false_or, or_false, and_self, forall_const, true_implies, reduceCtorEq, clr_int, clr_ref, clr_null, clr_none, clr_long, va_rf_some, va_rf_none]
      rw [nI_1, List.length_append]; rfl
    · rw [List.length_append]; exact q
    · intro i hi
      rw [List.length_append] at hi
      simp only [kd_uF, ln_uF, ai_uF, al_uF, ar_uF, zs_uF, fd_uF, kd_uA, ln_uA, fd_uA, al_uA, ar_uA, zs_uA, ai_uA, kd_uL, ln_uL, fd_uL, ai_uL, ar_uL, zs_uL, al_uL, kd_uR, ln_uR, fd_uR, ai_uR, al_uR, zs_uR, ar_uR, true_and, and_true, Option.toList_some, Option.toList_none, List.cons_append, List.nil_append, catS_nil, catS_int, catS_ref, catS_null, catS_long, cat_int, cat_ref, cat_null, Nat.reduceEqDiff, Nat.reduceLeDiff, Nat.reduceAdd, false_and, and_false, if_false, if_true, ite_true, ite_false, true_or, or_true, false_or, or_false, and_self, forall_const, true_implies, reduceCtorEq, clr_int, clr_ref, clr_null, clr_none, clr_long, va_rf_some, va_rf_none]
      by_cases hi2 : i = xs.length
      · subst hi2
        rw [if_pos rfl]; simp
      · have hlt : i < xs.length := by simp at hi; omega
        rw [if_neg (by omega), hx i hlt]
        simp [List.getD_eq_getElem?_getD, List.getElem?_append_left hlt]
    · exact (Fr.rf.A (by omega) (by omega)).F (by omega) (by omega)
  · refine ⟨rfl, h2 ?_⟩
    rw [e16, nI_ltI (by omega) (by decide)] at q
    omega
theorem sp_L_take {d : Nat} {w : aw} {b : Nat} {xs : List Nat} {Q : wQ} (hL : LAt w b xs) (hb : ∀ x ∈ xs, x < 256) (h1 : xs = [] → Q (some (.int (-1))) w) (h2 : ∀ c r w', xs = c :: r → LAt w' b r → Fr w w' b (b + 2) → Q (some (.int (nI c))) w') : wpD (d + 2) 29 [.ref b] w Q := by
  obtain ⟨hk, hr, hk2, hln, f, hf, hfi, hsz, hle, hx⟩ := hL
  refine ⟨Nat.le_of_ble_eq_true rfl, ?_⟩
  show wp (d + 1) 29 Q 0 [some (.ref b), none] [] w 0 0
  cases xs with
  | nil =>
    simp only [↓s_29_0, ↓s_29_1, ↓s_29_4, ↓s_29_7, ↓s_29_8, ↓s_29_9, ↓s_29_10, ↓s_29_13, ↓s_29_14, ↓s_29_17, ↓s_29_19, ↓s_29_20, ↓s_29_21, ↓s_29_22, ↓s_29_23, ↓s_29_24, ↓s_29_27, ↓s_29_28, ↓s_29_29, ↓s_29_31, ↓s_29_32, ↓s_29_35, ↓s_29_36, ↓s_29_37, ↓s_29_40, ↓s_29_41, ↓s_29_42, ↓s_29_45, ↓s_29_46, kd_uF, ln_uF, ai_uF, al_uF, ar_uF, zs_uF, fd_uF, kd_uA, ln_uA, fd_uA, al_uA, ar_uA, zs_uA, ai_uA, kd_uL, ln_uL, fd_uL, ai_uL, ar_uL, zs_uL, al_uL, kd_uR, ln_uR, fd_uR, ai_uR, al_uR, zs_uR, ar_uR, true_and, and_true, Option.toList_some, Option.toList_none, List.cons_append, List.nil_append, catS_nil, catS_int, catS_ref, catS_null, catS_long, cat_int, cat_ref, cat_null, Nat.reduceEqDiff, Nat.reduceLeDiff, Nat.reduceAdd, false_and, and_false, if_false, if_true, ite_true, ite_false, true_or, or_true, false_or, or_false, and_self, forall_const, true_implies, reduceCtorEq, clr_int, clr_ref, clr_null, clr_none, clr_long, va_rf_some, va_rf_none, hk, hr, hsz, hfi, hk2, hln]
    exact ⟨fun q => absurd q (by decide), fun _ => h1 rfl⟩
  | cons c r =>
    have hc : c < 256 := hb c List.mem_cons_self
    have h0 : ai w (b + 1) (f % 16) = nI c := hx 0 (by simp)
    rw [List.length_cons] at hsz hle
    simp only [↓s_29_0, ↓s_29_1, ↓s_29_4, ↓s_29_7, ↓s_29_8, ↓s_29_9, ↓s_29_10, ↓s_29_13, ↓s_29_14, ↓s_29_17, ↓s_29_19, ↓s_29_20, ↓s_29_21, ↓s_29_22, ↓s_29_23, ↓s_29_24, ↓s_29_27, ↓s_29_28, ↓s_29_29, ↓s_29_31, ↓s_29_32, ↓s_29_35, ↓s_29_36, ↓s_29_37, ↓s_29_40, ↓s_29_41, ↓s_29_42, ↓s_29_45, ↓s_29_46, kd_uF, ln_uF, ai_uF, al_uF, ar_uF, zs_uF, fd_uF, kd_uA, ln_uA, fd_uA, al_uA, ar_uA, zs_uA, ai_uA, kd_uL, ln_uL, fd_uL, ai_uL, ar_uL, zs_uL, al_uL, kd_uR, ln_uR, fd_uR, ai_uR, al_uR, zs_uR, ar_uR, true_and, and_true, Option.toList_some, Option.toList_none, List.cons_append, List.nil_append, catS_nil, catS_int, catS_ref, catS_null, catS_long, cat_int, cat_ref, cat_null, Nat.reduceEqDiff, Nat.reduceLeDiff, Nat.reduceAdd, false_and, and_false, if_false, if_true, ite_true, ite_false, true_or, or_true, false_or, or_false, and_self, forall_const, true_implies, reduceCtorEq, clr_int, clr_ref, clr_null, clr_none, clr_long, va_rf_some, va_rf_none, hk, hr, hsz, hfi, hk2, hln, rem16 (show f < 2147483648 by omega), clN (show f % 16 < 2147483648 by omega)]
    rw [h0]
    refine ⟨fun _ => ⟨inR_nI (by omega) (by decide), h2 c r _ rfl ⟨hk, ?_, hk2, hln, (f + 1) % 16, by omega, ?_, ?_, ?_, ?_⟩ ?_⟩, fun q => absurd (nI_lt (a := 0) (b := r.length + 1) (by omega) (by omega)) q⟩
    · simp only [kd_uF, ln_uF, ai_uF, al_uF, ar_uF, zs_uF, fd_uF, kd_uA, ln_uA, fd_uA, al_uA, ar_uA, zs_uA, ai_uA, kd_uL, ln_uL, fd_uL, ai_uL, ar_uL, zs_uL, al_uL, kd_uR, ln_uR, fd_uR, ai_uR, al_uR, zs_uR, ar_uR, true_and, and_true, Option.toList_some, Option.toList_none, List.cons_append, List.nil_append, catS_nil, catS_int, catS_ref, catS_null, catS_long, cat_int, cat_ref, cat_null, Nat.reduceEqDiff, Nat.reduceLeDiff, Nat.reduceAdd, false_and, and_false, if_false, if_true, ite_true, ite_false, true_or, or_true, false_or, or_false, and_self, forall_const, true_implies, reduceCtorEq, clr_int, clr_ref, clr_null, clr_none, clr_long, va_rf_some, va_rf_none]; exact hr
    · simp only [kd_uF, ln_uF, ai_uF, al_uF, ar_uF, zs_uF, fd_uF, kd_uA, ln_uA, fd_uA, al_uA, ar_uA, zs_uA, ai_uA, kd_uL, ln_uL, fd_uL, ai_uL, ar_uL, zs_uL, al_uL, kd_uR, ln_uR, fd_uR, ai_uR, al_uR, zs_uR, ar_uR, true_and, and_true, Option.toList_some, Option.toList_none, List.cons_append, List.nil_append, catS_nil, catS_int, catS_ref, catS_null, catS_long, cat_int, cat_ref, cat_null, Nat.reduceEqDiff, Nat.reduceLeDiff, Nat.reduceAdd, false_and, and_false, if_false, if_true, ite_true, ite_false, true_or, or_true, false_or, or_false, and_self, forall_const, true_implies, reduceCtorEq, clr_int, clr_ref, clr_null, clr_none, clr_long, va_rf_some, va_rf_none]
      rw [nI_1, rem16 (by omega)]
    · simp only [kd_uF, ln_uF, ai_uF, al_uF, ar_uF, zs_uF, fd_uF, kd_uA, ln_uA, fd_uA, al_uA, ar_uA, zs_uA, ai_uA, kd_uL, ln_uL, fd_uL, ai_uL, ar_uL, zs_uL, al_uL, kd_uR, ln_uR, fd_uR, ai_uR, al_uR, zs_uR, ar_uR, true_and, and_true, Option.toList_some, Option.toList_none, List.cons_append, List.nil_append, catS_nil, catS_int, catS_ref, catS_null, catS_long, cat_int, cat_ref, cat_null, Nat.reduceEqDiff, Nat.reduceLeDiff, Nat.reduceAdd, false_and, and_false, if_false, if_true, ite_true, ite_false, true_or, or_true, false_or, or_false, and_self, forall_const, true_implies, reduceCtorEq, clr_int, clr_ref, clr_null, clr_none, clr_long, va_rf_some, va_rf_none]
      rw [nI_pred]
    · omega
    · intro i hi
      have := hx (i + 1) (by rw [List.length_cons]; omega)
      simp only [kd_uF, ln_uF, ai_uF, al_uF, ar_uF, zs_uF, fd_uF, kd_uA, ln_uA, fd_uA, al_uA, ar_uA, zs_uA, ai_uA, kd_uL, ln_uL, fd_uL, ai_uL, ar_uL, zs_uL, al_uL, kd_uR, ln_uR, fd_uR, ai_uR, al_uR, zs_uR, ar_uR, true_and, and_true, Option.toList_some, Option.toList_none, List.cons_append, List.nil_append, catS_nil, catS_int, catS_ref, catS_null, catS_long, cat_int, cat_ref, cat_null, Nat.reduceEqDiff, Nat.reduceLeDiff, Nat.reduceAdd, false_and, and_false, if_false, if_true, ite_true, ite_false, true_or, or_true, false_or, or_false, and_self, forall_const, true_implies, reduceCtorEq, clr_int, clr_ref, clr_null, clr_none, clr_long, va_rf_some, va_rf_none]
      rw [show ((f + 1) % 16 + i) % 16 = (f + (i + 1)) % 16 by omega, this]
      rfl
    · exact (Fr.rf.F (by omega) (by omega)).F (by omega) (by omega)
