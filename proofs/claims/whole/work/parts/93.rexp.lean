def RB (w : aw) (m : Nat) (t : nt) : Prop := fd w 548 m = .int (nI (35 + t.length)) ∧ fd w 549 m = .int (nI 35) ∧ ∀ k x, (R35 ++ t)[k]? = some x → al w (m + 20) k = lN (b37 x.1) ∧ ai w (m + 21) k = rn x.2
theorem RB.A {w w' : aw} {m : Nat} {t : nt} (h : RB w m t) (hF : FrA w w' m) : RB w' m t := by
  obtain ⟨a, b, c⟩ := h
  exact ⟨(hF.2.1 _ (by decide) (by decide) (by decide)).trans a, (hF.2.1 _ (by decide) (by decide) (by decide)).trans b, fun k x hx => ⟨(hF.2.2.2 _ _).trans (c k x hx).1, (hF.2.2.1 _ _).trans (c k x hx).2⟩⟩
theorem R35_len : R35.length = 35 := rfl
theorem tb_len {t : nt} : (R35 ++ t).length = 35 + t.length := by rw [List.length_append, R35_len]
theorem b37_63 {l : List Nat} (h : okN l) (h6 : l.length ≤ 6) : b37 l < 2 ^ 63 := Nat.lt_trans (b37_lt 6 l h6 h) (by decide)
theorem sp_R_find {d : Nat} {w : aw} {m : Nat} {t : nt} {l : List Nat} {Q : wQ} (hs : RSh w m) (hB : RB w m t) (hN : TN t) (hl : okN l) (h6 : l.length ≤ 6) (h1 : ∀ k x, (R35 ++ t)[k]? = some x → x.1 = l → k < 35 + t.length → Q (some (.int (nI k))) w) (h2 : (∀ x ∈ R35 ++ t, x.1 ≠ l) → Q (some (.int (-1))) w) : wpD (d + 1) 152 [.ref m, .long (lN (b37 l))] w Q := by
  refine ⟨Nat.le_of_ble_eq_true rfl, ?_⟩
  show wp d 152 Q 0 [some (.ref m), some (.long (lN (b37 l))), none, none, none] [] w 0 0
  obtain ⟨rk, r1, r2, r3, r4, r5, r6, r7, r8, r9, r10, r11, r12, r13, r14, r15, r16, r17, r18, r19, r20, r21, r22, r23, r24, k1, k2, k3, k4, k5, k6, k7, k8, k9, k10, k11, k12, k13, k14, k15, k16, k17, k18, k19, k20, k21, k22, k23, k24, n1, n2, n3, n4, n5, n6, n7, n8, n9, n10, n11, n12, n13, n14, n15, n16, n17, n18, n19, n20, n21, n22, n23, n24⟩ := hs
  obtain ⟨bm, bk, bt⟩ := hB
  have ht := hN.2.2
  have lp : ∀ (j k : Nat) (r : Int32), k + j = 35 + t.length → ((∃ i x, (R35 ++ t)[i]? = some x ∧ x.1 = l ∧ i < 35 + t.length ∧ r = nI i) ∨ ((∀ i x, i < k → (R35 ++ t)[i]? = some x → x.1 ≠ l) ∧ r = -1)) → wp d 152 Q 5 [some (.ref m), some (.long (lN (b37 l))), none, some (.int r), some (.int (nI k))] [] w 0 0 := by
    intro j
    induction j with
    | zero =>
      intro k r hk hr
      have e : k = 35 + t.length := by omega
      subst e
      rw [s_152_5]
      simp only [↓s_152_7, ↓s_152_8, ↓s_152_11, ↓s_152_39, ↓s_152_40, kd_uF, ln_uF, ai_uF, al_uF, ar_uF, zs_uF, fd_uF, kd_uA, ln_uA, fd_uA, al_uA, ar_uA, zs_uA, ai_uA, kd_uL, ln_uL, fd_uL, ai_uL, ar_uL, zs_uL, al_uL, kd_uR, ln_uR, fd_uR, ai_uR, al_uR, zs_uR, ar_uR, true_and, and_true, Option.toList_some, Option.toList_none, List.cons_append, List.nil_append, catS_nil, catS_int, catS_ref, catS_null, catS_long, cat_int, cat_ref, cat_null, Nat.reduceEqDiff, Nat.reduceLeDiff, Nat.reduceAdd, false_and, and_false, if_false, if_true, ite_true, ite_false, true_or, or_true, false_or, or_false, and_self, forall_const, true_implies, reduceCtorEq, clr_int, clr_ref, clr_null, clr_none, clr_long, va_rf_some, va_rf_none, rk, bm]
      refine ⟨fun _ => ?_, fun q => absurd (nI_le (Nat.le_refl _) (by omega)) q⟩
      rcases hr with ⟨i, x, a1, a2, a3, a4⟩ | ⟨a1, a2⟩
      · rw [a4]; exact h1 i x a1 a2 a3
      · rw [a2]
        refine h2 (fun x hx => ?_)
        obtain ⟨i, hi⟩ := List.getElem?_of_mem hx
        have := (List.getElem?_eq_some_iff.mp hi).1
        rw [tb_len] at this
        exact a1 i x this hi
    | succ j ih =>
      intro k r hk hr
      obtain ⟨x, hx⟩ : ∃ x, (R35 ++ t)[k]? = some x := ⟨_, List.getElem?_eq_getElem (by rw [tb_len]; omega)⟩
      have hxm := List.mem_of_getElem? hx
      have hxo := hN.2.1 x hxm
      have hb := bt k x hx
      rw [s_152_5]
      simp only [↓s_152_7, ↓s_152_8, ↓s_152_11, ↓s_152_14, ↓s_152_15, ↓s_152_18, ↓s_152_20, ↓s_152_21, ↓s_152_22, ↓s_152_23, ↓s_152_26, ↓s_152_28, ↓s_152_31, ↓s_152_32, ↓s_152_33, ↓s_152_36, ↓s_152_39, ↓s_152_40, kd_uF, ln_uF, ai_uF, al_uF, ar_uF, zs_uF, fd_uF, kd_uA, ln_uA, fd_uA, al_uA, ar_uA, zs_uA, ai_uA, kd_uL, ln_uL, fd_uL, ai_uL, ar_uL, zs_uL, al_uL, kd_uR, ln_uR, fd_uR, ai_uR, al_uR, zs_uR, ar_uR, true_and, and_true, Option.toList_some, Option.toList_none, List.cons_append, List.nil_append, catS_nil, catS_int, catS_ref, catS_null, catS_long, cat_int, cat_ref, cat_null, Nat.reduceEqDiff, Nat.reduceLeDiff, Nat.reduceAdd, false_and, and_false, if_false, if_true, ite_true, ite_false, true_or, or_true, false_or, or_false, and_self, forall_const, true_implies, reduceCtorEq, clr_int, clr_ref, clr_null, clr_none, clr_long, va_rf_some, va_rf_none, rk, bm, r20, k20, n20, clN (show k < 2147483648 by omega), hb.1, lg_cmp_eq]
      rw [pk_lEQ (b37_63 hxo.1 hxo.2.1) (b37_63 hl h6), nI_1]
      have hi : b37 x.1 = b37 l → x.1 = l := b37_inj 6 _ _ hxo.2.1 hxo.1 hl
      refine ⟨fun q => absurd q (nI_ge (by omega) (by omega)), fun _ => ⟨inR_nI (by omega) (by decide), fun q => ?_, fun q => ?_⟩⟩
      · refine ih (k + 1) r (by omega) ?_
        rcases hr with a | ⟨a1, a2⟩
        · exact Or.inl a
        · refine Or.inr ⟨fun i y hi hy => ?_, a2⟩
          by_cases c : i = k
          · subst c
            rw [hx] at hy
            cases hy
            exact fun z => q (by rw [z])
          · exact a1 i y (by omega) hy
      · exact ih (k + 1) _ (by omega) (Or.inl ⟨k, x, hx, hi q, by omega, rfl⟩)
  simp only [↓s_152_0, ↓s_152_1, ↓s_152_2, ↓s_152_3, kd_uF, ln_uF, ai_uF, al_uF, ar_uF, zs_uF, fd_uF, kd_uA, ln_uA, fd_uA, al_uA, ar_uA, zs_uA, ai_uA, kd_uL, ln_uL, fd_uL, ai_uL, ar_uL, zs_uL, al_uL, kd_uR, ln_uR, fd_uR, ai_uR, al_uR, zs_uR, ar_uR, true_and, and_true, Option.toList_some, Option.toList_none, List.cons_append, List.nil_append, catS_nil, catS_int, catS_ref, catS_null, catS_long, cat_int, cat_ref, cat_null, Nat.reduceEqDiff, Nat.reduceLeDiff, Nat.reduceAdd, false_and, and_false, if_false, if_true, ite_true, ite_false, true_or, or_true, false_or, or_false, and_self, forall_const, true_implies, reduceCtorEq, clr_int, clr_ref, clr_null, clr_none, clr_long, va_rf_some, va_rf_none]
  exact lp (35 + t.length) 0 _ (by omega) (Or.inr ⟨fun i x hi => by omega, rfl⟩)
theorem mw_in {l : List Nat} {i : Nat} (h : mw l = some i) : i < 6 ∧ ∃ v, R35[28 + i]? = some (l, v) := by
  unfold mw at h
  split at h
  · rename_i c; cases h; rw [c]; exact ⟨by decide, 0, rfl⟩
  split at h
  · rename_i c; cases h; rw [c]; exact ⟨by decide, 0, rfl⟩
  split at h
  · rename_i c; cases h; rw [c]; exact ⟨by decide, 0, rfl⟩
  split at h
  · rename_i c; cases h; rw [c]; exact ⟨by decide, 0, rfl⟩
  split at h
  · rename_i c; cases h; rw [c]; exact ⟨by decide, 0, rfl⟩
  split at h
  · rename_i c; cases h; rw [c]; exact ⟨by decide, 0, rfl⟩
  cases h
theorem tb_one {t : nt} {i j : Nat} {x y : List Nat × Nat} (h : TN t) (hx : (R35 ++ t)[i]? = some x) (hy : (R35 ++ t)[j]? = some y) (e : x.1 = y.1) : i = j := by
  have hi := (List.getElem?_eq_some_iff.mp hx).1
  have ei : ((R35 ++ t).map (fun x => x.1))[i]? = some x.1 := by rw [List.getElem?_map, hx]; rfl
  have ej : ((R35 ++ t).map (fun x => x.1))[j]? = some y.1 := by rw [List.getElem?_map, hy]; rfl
  exact (List.getElem?_inj (by rw [List.length_map]; exact hi) h.1).mp (by rw [ei, ej, e])
theorem mw_at {t : nt} {k : Nat} {x : List Nat × Nat} (h : TN t) (hx : (R35 ++ t)[k]? = some x) : (28 ≤ k ∧ k < 34 → mw x.1 = some (k - 28)) ∧ (¬ (28 ≤ k ∧ k < 34) → mw x.1 = none) := by
  constructor
  · intro q
    rw [List.getElem?_append_left (by rw [R35_len]; omega)] at hx
    have : k = 28 ∨ k = 29 ∨ k = 30 ∨ k = 31 ∨ k = 32 ∨ k = 33 := by omega
    rcases this with c | c | c | c | c | c <;> subst c <;> cases hx <;> rfl
  · intro q
    cases c : mw x.1 with
    | none => rfl
    | some i =>
      obtain ⟨hi, v, hv⟩ := mw_in c
      have hv' : (R35 ++ t)[28 + i]? = some (x.1, v) := by rw [List.getElem?_append_left (by rw [R35_len]; omega)]; exact hv
      have := tb_one h hx hv' rfl
      omega
theorem mw_none {t : nt} {l : List Nat} (h : ∀ x ∈ R35 ++ t, x.1 ≠ l) : mw l = none := by
  cases c : mw l with
  | none => rfl
  | some i =>
    obtain ⟨hi, v, hv⟩ := mw_in c
    have hv' : (R35 ++ t)[28 + i]? = some (l, v) := by rw [List.getElem?_append_left (by rw [R35_len]; omega)]; exact hv
    exact absurd rfl (h _ (List.mem_of_getElem? hv'))
def oI : Option Nat → Int32
  | some i => nI i
  | none => -1
theorem nmE_ok {T : Nat → Nat} {e k : Nat} : okN (nmE T e k) := okN_nm (e := e) (by have := wE_ge (T := T) (e := e) (p := k); omega)
theorem nmE_6 {T : Nat → Nat} {e k : Nat} (h : wE T e k ≤ k + 6) : (nmE T e k).length ≤ 6 := by unfold nmE; rw [nm_len]; omega
theorem sp_R_memoryAt {d : Nat} {w : aw} {m e p k : Nat} {T : Nat → Nat} {t : nt} {Q : wQ} (hP : RP w m T e p) (hB : RB w m t) (hN : TN t) (hk : k ≤ e) (h : Q (some (.int (oI (mwA T e k)))) w) : wpD (d + 4) 153 [.ref m, .int (nI k)] w Q := by
  refine ⟨Nat.le_of_ble_eq_true rfl, ?_⟩
  show wp (d + 3) 153 Q 0 [some (.ref m), some (.int (nI k)), none] [] w 0 0
  have rk := hP.1.1
  have he := hP.2.2.2.2.1
  have bk := hB.2.1
  have ht := hN.2.2
  have k7 : nI 35 - 7 = nI 28 := rfl
  have k1 : nI 35 - 1 = nI 34 := rfl
  have j21 : ∀ r, (r = -1 ∧ mwA T e k = none) ∨ (∃ j, j < 235 ∧ r = nI j ∧ (28 ≤ j ∧ j < 34 → mwA T e k = some (j - 28)) ∧ (¬ (28 ≤ j ∧ j < 34) → mwA T e k = none)) → wp (d + 3) 153 Q 21 [some (.ref m), some (.int (nI k)), none] [.int r] w 0 0 := by
    intro r hr
    simp only [↓s_153_21, ↓s_153_22, ↓s_153_23, ↓s_153_24, ↓s_153_27, ↓s_153_29, ↓s_153_30, ↓s_153_33, ↓s_153_34, ↓s_153_35, ↓s_153_38, ↓s_153_39, ↓s_153_40, ↓s_153_43, ↓s_153_44, ↓s_153_45, ↓s_153_48, ↓s_153_49, ↓s_153_51, ↓s_153_52, ↓s_153_55, ↓s_153_56, kd_uF, ln_uF, ai_uF, al_uF, ar_uF, zs_uF, fd_uF, kd_uA, ln_uA, fd_uA, al_uA, ar_uA, zs_uA, ai_uA, kd_uL, ln_uL, fd_uL, ai_uL, ar_uL, zs_uL, al_uL, kd_uR, ln_uR, fd_uR, ai_uR, al_uR, zs_uR, ar_uR, true_and, and_true, Option.toList_some, Option.toList_none, List.cons_append, List.nil_append, catS_nil, catS_int, catS_ref, catS_null, catS_long, cat_int, cat_ref, cat_null, Nat.reduceEqDiff, Nat.reduceLeDiff, Nat.reduceAdd, false_and, and_false, if_false, if_true, ite_true, ite_false, true_or, or_true, false_or, or_false, and_self, forall_const, true_implies, reduceCtorEq, clr_int, clr_ref, clr_null, clr_none, clr_long, va_rf_some, va_rf_none, rk, bk, k7, k1]
    rcases hr with ⟨a1, a2⟩ | ⟨j, a1, a2, a3, a4⟩
    · rw [a2] at h
      subst a1
      exact ⟨fun _ => h, fun q => absurd (by decide) q⟩
    · subst a2
      rw [nI_ltI (by omega) (by decide), nI_leI (by decide) (by omega)]
      refine ⟨fun q => ?_, fun q => ⟨fun q2 => ?_, fun q2 => ?_⟩⟩
      · rw [a4 (by omega)] at h; exact h
      · rw [a4 (by omega)] at h; exact h
      · rw [a3 (by omega)] at h
        have : j = 28 ∨ j = 29 ∨ j = 30 ∨ j = 31 ∨ j = 32 ∨ j = 33 := by omega
        rcases this with c | c | c | c | c | c <;> subst c <;> exact h
  simp only [↓s_153_0, ↓s_153_1, ↓s_153_2, kd_uF, ln_uF, ai_uF, al_uF, ar_uF, zs_uF, fd_uF, kd_uA, ln_uA, fd_uA, al_uA, ar_uA, zs_uA, ai_uA, kd_uL, ln_uL, fd_uL, ai_uL, ar_uL, zs_uL, al_uL, kd_uR, ln_uR, fd_uR, ai_uR, al_uR, zs_uR, ar_uR, true_and, and_true, Option.toList_some, Option.toList_none, List.cons_append, List.nil_append, catS_nil, catS_int, catS_ref, catS_null, catS_long, cat_int, cat_ref, cat_null, Nat.reduceEqDiff, Nat.reduceLeDiff, Nat.reduceAdd, false_and, and_false, if_false, if_true, ite_true, ite_false, true_or, or_true, false_or, or_false, and_self, forall_const, true_implies, reduceCtorEq, clr_int, clr_ref, clr_null, clr_none, clr_long, va_rf_some, va_rf_none, rk]
  refine sp_R_isName hP (by omega) (fun q => ?_) (fun q => ?_)
  · have hm : mwA T e k = mw (nmE T e k) := if_pos q
    have hw := (isN_iff.mp q).2
    simp only [↓s_153_5, ↓s_153_8, ↓s_153_9, ↓s_153_10, ↓s_153_11, ↓s_153_20, ↓s_153_21, ↓s_153_22, ↓s_153_23, ↓s_153_24, ↓s_153_27, ↓s_153_29, ↓s_153_30, ↓s_153_33, ↓s_153_34, ↓s_153_35, ↓s_153_38, ↓s_153_39, ↓s_153_40, ↓s_153_43, ↓s_153_44, ↓s_153_45, ↓s_153_48, ↓s_153_49, ↓s_153_51, ↓s_153_52, kd_uF, ln_uF, ai_uF, al_uF, ar_uF, zs_uF, fd_uF, kd_uA, ln_uA, fd_uA, al_uA, ar_uA, zs_uA, ai_uA, kd_uL, ln_uL, fd_uL, ai_uL, ar_uL, zs_uL, al_uL, kd_uR, ln_uR, fd_uR, ai_uR, al_uR, zs_uR, ar_uR, true_and, and_true, Option.toList_some, Option.toList_none, List.cons_append, List.nil_append, catS_nil, catS_int, catS_ref, catS_null, catS_long, cat_int, cat_ref, cat_null, Nat.reduceEqDiff, Nat.reduceLeDiff, Nat.reduceAdd, false_and, and_false, if_false, if_true, ite_true, ite_false, true_or, or_true, false_or, or_false, and_self, forall_const, true_implies, reduceCtorEq, clr_int, clr_ref, clr_null, clr_none, clr_long, va_rf_some, va_rf_none, rk]
    refine ⟨fun q => absurd q (by decide), fun _ => sp_R_nameAt hP hk ?_⟩
    simp only [↓s_153_14, kd_uF, ln_uF, ai_uF, al_uF, ar_uF, zs_uF, fd_uF, kd_uA, ln_uA, fd_uA, al_uA, ar_uA, zs_uA, ai_uA, kd_uL, ln_uL, fd_uL, ai_uL, ar_uL, zs_uL, al_uL, kd_uR, ln_uR, fd_uR, ai_uR, al_uR, zs_uR, ar_uR, true_and, and_true, Option.toList_some, Option.toList_none, List.cons_append, List.nil_append, catS_nil, catS_int, catS_ref, catS_null, catS_long, cat_int, cat_ref, cat_null, Nat.reduceEqDiff, Nat.reduceLeDiff, Nat.reduceAdd, false_and, and_false, if_false, if_true, ite_true, ite_false, true_or, or_true, false_or, or_false, and_self, forall_const, true_implies, reduceCtorEq, clr_int, clr_ref, clr_null, clr_none, clr_long, va_rf_some, va_rf_none, rk]
    refine sp_R_find hP.1 hB hN nmE_ok (nmE_6 hw) (fun j x a1 a2 a3 => ?_) (fun a1 => ?_)
    · simp only [↓s_153_17, kd_uF, ln_uF, ai_uF, al_uF, ar_uF, zs_uF, fd_uF, kd_uA, ln_uA, fd_uA, al_uA, ar_uA, zs_uA, ai_uA, kd_uL, ln_uL, fd_uL, ai_uL, ar_uL, zs_uL, al_uL, kd_uR, ln_uR, fd_uR, ai_uR, al_uR, zs_uR, ar_uR, true_and, and_true, Option.toList_some, Option.toList_none, List.cons_append, List.nil_append, catS_nil, catS_int, catS_ref, catS_null, catS_long, cat_int, cat_ref, cat_null, Nat.reduceEqDiff, Nat.reduceLeDiff, Nat.reduceAdd, false_and, and_false, if_false, if_true, ite_true, ite_false, true_or, or_true, false_or, or_false, and_self, forall_const, true_implies, reduceCtorEq, clr_int, clr_ref, clr_null, clr_none, clr_long, va_rf_some, va_rf_none]
      refine j21 _ (Or.inr ⟨j, by omega, rfl, fun z => ?_, fun z => ?_⟩)
      · rw [hm, ← a2]; exact (mw_at hN a1).1 z
      · rw [hm, ← a2]; exact (mw_at hN a1).2 z
    · simp only [↓s_153_17, kd_uF, ln_uF, ai_uF, al_uF, ar_uF, zs_uF, fd_uF, kd_uA, ln_uA, fd_uA, al_uA, ar_uA, zs_uA, ai_uA, kd_uL, ln_uL, fd_uL, ai_uL, ar_uL, zs_uL, al_uL, kd_uR, ln_uR, fd_uR, ai_uR, al_uR, zs_uR, ar_uR, true_and, and_true, Option.toList_some, Option.toList_none, List.cons_append, List.nil_append, catS_nil, catS_int, catS_ref, catS_null, catS_long, cat_int, cat_ref, cat_null, Nat.reduceEqDiff, Nat.reduceLeDiff, Nat.reduceAdd, false_and, and_false, if_false, if_true, ite_true, ite_false, true_or, or_true, false_or, or_false, and_self, forall_const, true_implies, reduceCtorEq, clr_int, clr_ref, clr_null, clr_none, clr_long, va_rf_some, va_rf_none]
      exact j21 _ (Or.inl ⟨rfl, by rw [hm]; exact mw_none a1⟩)
  · have hm : mwA T e k = none := if_neg (by rw [q]; decide)
    simp only [↓s_153_5, ↓s_153_8, ↓s_153_9, ↓s_153_10, ↓s_153_11, ↓s_153_20, kd_uF, ln_uF, ai_uF, al_uF, ar_uF, zs_uF, fd_uF, kd_uA, ln_uA, fd_uA, al_uA, ar_uA, zs_uA, ai_uA, kd_uL, ln_uL, fd_uL, ai_uL, ar_uL, zs_uL, al_uL, kd_uR, ln_uR, fd_uR, ai_uR, al_uR, zs_uR, ar_uR, true_and, and_true, Option.toList_some, Option.toList_none, List.cons_append, List.nil_append, catS_nil, catS_int, catS_ref, catS_null, catS_long, cat_int, cat_ref, cat_null, Nat.reduceEqDiff, Nat.reduceLeDiff, Nat.reduceAdd, false_and, and_false, if_false, if_true, ite_true, ite_false, true_or, or_true, false_or, or_false, and_self, forall_const, true_implies, reduceCtorEq, clr_int, clr_ref, clr_null, clr_none, clr_long, va_rf_some, va_rf_none, rk]
    exact ⟨j21 _ (Or.inl ⟨rfl, hm⟩), fun q => absurd trivial q⟩
theorem sp_R_isLabel {d : Nat} {w : aw} {m e p : Nat} {T : Nat → Nat} {Q : wQ} (hP : RP w m T e p) (h1 : isLb T e p = true → Q (some (.int 1)) w) (h2 : isLb T e p = false → Q (some (.int 0)) w) : wpD (d + 4) 154 [.ref m] w Q := by
  refine ⟨Nat.le_of_ble_eq_true rfl, ?_⟩
  show wp (d + 3) 154 Q 0 [some (.ref m)] [] w 0 0
  have rk := hP.1.1
  have at' := hP.2.2.2.1
  have he := hP.2.2.2.2.1
  have hT := hP.2.2.2.2.2.1
  have hpe := hP.2.2.2.2.2.2
  have n : ¬ (isN T e p = true ∧ lk T e (wE T e p) = 44) → isLb T e p = false := fun q => by cases c : isLb T e p with | false => rfl | true => exact absurd (isLb_iff.mp c) q
  simp only [↓s_154_0, ↓s_154_1, ↓s_154_2, ↓s_154_5, kd_uF, ln_uF, ai_uF, al_uF, ar_uF, zs_uF, fd_uF, kd_uA, ln_uA, fd_uA, al_uA, ar_uA, zs_uA, ai_uA, kd_uL, ln_uL, fd_uL, ai_uL, ar_uL, zs_uL, al_uL, kd_uR, ln_uR, fd_uR, ai_uR, al_uR, zs_uR, ar_uR, true_and, and_true, Option.toList_some, Option.toList_none, List.cons_append, List.nil_append, catS_nil, catS_int, catS_ref, catS_null, catS_long, cat_int, cat_ref, cat_null, Nat.reduceEqDiff, Nat.reduceLeDiff, Nat.reduceAdd, false_and, and_false, if_false, if_true, ite_true, ite_false, true_or, or_true, false_or, or_false, and_self, forall_const, true_implies, reduceCtorEq, clr_int, clr_ref, clr_null, clr_none, clr_long, va_rf_some, va_rf_none, rk, at']
  refine sp_R_isName hP (by omega) (fun q => ?_) (fun q => ?_)
  · simp only [↓s_154_8, ↓s_154_11, ↓s_154_12, ↓s_154_13, ↓s_154_14, ↓s_154_17, kd_uF, ln_uF, ai_uF, al_uF, ar_uF, zs_uF, fd_uF, kd_uA, ln_uA, fd_uA, al_uA, ar_uA, zs_uA, ai_uA, kd_uL, ln_uL, fd_uL, ai_uL, ar_uL, zs_uL, al_uL, kd_uR, ln_uR, fd_uR, ai_uR, al_uR, zs_uR, ar_uR, true_and, and_true, Option.toList_some, Option.toList_none, List.cons_append, List.nil_append, catS_nil, catS_int, catS_ref, catS_null, catS_long, cat_int, cat_ref, cat_null, Nat.reduceEqDiff, Nat.reduceLeDiff, Nat.reduceAdd, false_and, and_false, if_false, if_true, ite_true, ite_false, true_or, or_true, false_or, or_false, and_self, forall_const, true_implies, reduceCtorEq, clr_int, clr_ref, clr_null, clr_none, clr_long, va_rf_some, va_rf_none, rk, at']
    refine ⟨fun q => absurd q (by decide), fun _ => sp_R_wordEnd hP (by omega) ?_⟩
    simp only [↓s_154_20, kd_uF, ln_uF, ai_uF, al_uF, ar_uF, zs_uF, fd_uF, kd_uA, ln_uA, fd_uA, al_uA, ar_uA, zs_uA, ai_uA, kd_uL, ln_uL, fd_uL, ai_uL, ar_uL, zs_uL, al_uL, kd_uR, ln_uR, fd_uR, ai_uR, al_uR, zs_uR, ar_uR, true_and, and_true, Option.toList_some, Option.toList_none, List.cons_append, List.nil_append, catS_nil, catS_int, catS_ref, catS_null, catS_long, cat_int, cat_ref, cat_null, Nat.reduceEqDiff, Nat.reduceLeDiff, Nat.reduceAdd, false_and, and_false, if_false, if_true, ite_true, ite_false, true_or, or_true, false_or, or_false, and_self, forall_const, true_implies, reduceCtorEq, clr_int, clr_ref, clr_null, clr_none, clr_long, va_rf_some, va_rf_none, rk]
    refine sp_R_look hP (wE_lt he (by omega)) ?_
    have hc := lk_lt (T := T) (e := e) (p := wE T e p) hT
    simp only [↓s_154_23, ↓s_154_25, ↓s_154_28, ↓s_154_29, ↓s_154_32, ↓s_154_33, kd_uF, ln_uF, ai_uF, al_uF, ar_uF, zs_uF, fd_uF, kd_uA, ln_uA, fd_uA, al_uA, ar_uA, zs_uA, ai_uA, kd_uL, ln_uL, fd_uL, ai_uL, ar_uL, zs_uL, al_uL, kd_uR, ln_uR, fd_uR, ai_uR, al_uR, zs_uR, ar_uR, true_and, and_true, Option.toList_some, Option.toList_none, List.cons_append, List.nil_append, catS_nil, catS_int, catS_ref, catS_null, catS_long, cat_int, cat_ref, cat_null, Nat.reduceEqDiff, Nat.reduceLeDiff, Nat.reduceAdd, false_and, and_false, if_false, if_true, ite_true, ite_false, true_or, or_true, false_or, or_false, and_self, forall_const, true_implies, reduceCtorEq, clr_int, clr_ref, clr_null, clr_none, clr_long, va_rf_some, va_rf_none]
    rw [show (44 : Int32) = nI 44 from rfl, nI_eq (by omega) (by decide)]
    exact ⟨fun q2 => ⟨rfl, h2 (n (fun z => q2 z.2))⟩, fun q2 => ⟨rfl, h1 (isLb_iff.mpr ⟨q, q2⟩)⟩⟩
  · simp only [↓s_154_8, ↓s_154_11, ↓s_154_12, ↓s_154_13, ↓s_154_14, ↓s_154_17, ↓s_154_32, ↓s_154_33, kd_uF, ln_uF, ai_uF, al_uF, ar_uF, zs_uF, fd_uF, kd_uA, ln_uA, fd_uA, al_uA, ar_uA, zs_uA, ai_uA, kd_uL, ln_uL, fd_uL, ai_uL, ar_uL, zs_uL, al_uL, kd_uR, ln_uR, fd_uR, ai_uR, al_uR, zs_uR, ar_uR, true_and, and_true, Option.toList_some, Option.toList_none, List.cons_append, List.nil_append, catS_nil, catS_int, catS_ref, catS_null, catS_long, cat_int, cat_ref, cat_null, Nat.reduceEqDiff, Nat.reduceLeDiff, Nat.reduceAdd, false_and, and_false, if_false, if_true, ite_true, ite_false, true_or, or_true, false_or, or_false, and_self, forall_const, true_implies, reduceCtorEq, clr_int, clr_ref, clr_null, clr_none, clr_long, va_rf_some, va_rf_none]
    exact ⟨⟨rfl, h2 (n (fun z => by rw [z.1] at q; cases q))⟩, fun q => absurd trivial q⟩
theorem sp_R_isTelling {d : Nat} {w : aw} {m e p : Nat} {T : Nat → Nat} {Q : wQ} (hP : RP w m T e p) (h1 : isTe T e p = true → Q (some (.int 1)) w) (h2 : isTe T e p = false → Q (some (.int 0)) w) : wpD (d + 4) 155 [.ref m] w Q := by
  refine ⟨Nat.le_of_ble_eq_true rfl, ?_⟩
  show wp (d + 3) 155 Q 0 [some (.ref m)] [] w 0 0
  have rk := hP.1.1
  have at' := hP.2.2.2.1
  have he := hP.2.2.2.2.1
  have hT := hP.2.2.2.2.2.1
  have hpe := hP.2.2.2.2.2.2
  have n : ¬ (isN T e p = true ∧ lk T e (wE T e p) = 61) → isTe T e p = false := fun q => by cases c : isTe T e p with | false => rfl | true => exact absurd (isTe_iff.mp c) q
  simp only [↓s_155_0, ↓s_155_1, ↓s_155_2, ↓s_155_5, kd_uF, ln_uF, ai_uF, al_uF, ar_uF, zs_uF, fd_uF, kd_uA, ln_uA, fd_uA, al_uA, ar_uA, zs_uA, ai_uA, kd_uL, ln_uL, fd_uL, ai_uL, ar_uL, zs_uL, al_uL, kd_uR, ln_uR, fd_uR, ai_uR, al_uR, zs_uR, ar_uR, true_and, and_true, Option.toList_some, Option.toList_none, List.cons_append, List.nil_append, catS_nil, catS_int, catS_ref, catS_null, catS_long, cat_int, cat_ref, cat_null, Nat.reduceEqDiff, Nat.reduceLeDiff, Nat.reduceAdd, false_and, and_false, if_false, if_true, ite_true, ite_false, true_or, or_true, false_or, or_false, and_self, forall_const, true_implies, reduceCtorEq, clr_int, clr_ref, clr_null, clr_none, clr_long, va_rf_some, va_rf_none, rk, at']
  refine sp_R_isName hP (by omega) (fun q => ?_) (fun q => ?_)
  · simp only [↓s_155_8, ↓s_155_11, ↓s_155_12, ↓s_155_13, ↓s_155_14, ↓s_155_17, kd_uF, ln_uF, ai_uF, al_uF, ar_uF, zs_uF, fd_uF, kd_uA, ln_uA, fd_uA, al_uA, ar_uA, zs_uA, ai_uA, kd_uL, ln_uL, fd_uL, ai_uL, ar_uL, zs_uL, al_uL, kd_uR, ln_uR, fd_uR, ai_uR, al_uR, zs_uR, ar_uR, true_and, and_true, Option.toList_some, Option.toList_none, List.cons_append, List.nil_append, catS_nil, catS_int, catS_ref, catS_null, catS_long, cat_int, cat_ref, cat_null, Nat.reduceEqDiff, Nat.reduceLeDiff, Nat.reduceAdd, false_and, and_false, if_false, if_true, ite_true, ite_false, true_or, or_true, false_or, or_false, and_self, forall_const, true_implies, reduceCtorEq, clr_int, clr_ref, clr_null, clr_none, clr_long, va_rf_some, va_rf_none, rk, at']
    refine ⟨fun q => absurd q (by decide), fun _ => sp_R_wordEnd hP (by omega) ?_⟩
    simp only [↓s_155_20, kd_uF, ln_uF, ai_uF, al_uF, ar_uF, zs_uF, fd_uF, kd_uA, ln_uA, fd_uA, al_uA, ar_uA, zs_uA, ai_uA, kd_uL, ln_uL, fd_uL, ai_uL, ar_uL, zs_uL, al_uL, kd_uR, ln_uR, fd_uR, ai_uR, al_uR, zs_uR, ar_uR, true_and, and_true, Option.toList_some, Option.toList_none, List.cons_append, List.nil_append, catS_nil, catS_int, catS_ref, catS_null, catS_long, cat_int, cat_ref, cat_null, Nat.reduceEqDiff, Nat.reduceLeDiff, Nat.reduceAdd, false_and, and_false, if_false, if_true, ite_true, ite_false, true_or, or_true, false_or, or_false, and_self, forall_const, true_implies, reduceCtorEq, clr_int, clr_ref, clr_null, clr_none, clr_long, va_rf_some, va_rf_none, rk]
    refine sp_R_look hP (wE_lt he (by omega)) ?_
    have hc := lk_lt (T := T) (e := e) (p := wE T e p) hT
    simp only [↓s_155_23, ↓s_155_25, ↓s_155_28, ↓s_155_29, ↓s_155_32, ↓s_155_33, kd_uF, ln_uF, ai_uF, al_uF, ar_uF, zs_uF, fd_uF, kd_uA, ln_uA, fd_uA, al_uA, ar_uA, zs_uA, ai_uA, kd_uL, ln_uL, fd_uL, ai_uL, ar_uL, zs_uL, al_uL, kd_uR, ln_uR, fd_uR, ai_uR, al_uR, zs_uR, ar_uR, true_and, and_true, Option.toList_some, Option.toList_none, List.cons_append, List.nil_append, catS_nil, catS_int, catS_ref, catS_null, catS_long, cat_int, cat_ref, cat_null, Nat.reduceEqDiff, Nat.reduceLeDiff, Nat.reduceAdd, false_and, and_false, if_false, if_true, ite_true, ite_false, true_or, or_true, false_or, or_false, and_self, forall_const, true_implies, reduceCtorEq, clr_int, clr_ref, clr_null, clr_none, clr_long, va_rf_some, va_rf_none]
    rw [show (61 : Int32) = nI 61 from rfl, nI_eq (by omega) (by decide)]
    exact ⟨fun q2 => ⟨rfl, h2 (n (fun z => q2 z.2))⟩, fun q2 => ⟨rfl, h1 (isTe_iff.mpr ⟨q, q2⟩)⟩⟩
  · simp only [↓s_155_8, ↓s_155_11, ↓s_155_12, ↓s_155_13, ↓s_155_14, ↓s_155_17, ↓s_155_32, ↓s_155_33, kd_uF, ln_uF, ai_uF, al_uF, ar_uF, zs_uF, fd_uF, kd_uA, ln_uA, fd_uA, al_uA, ar_uA, zs_uA, ai_uA, kd_uL, ln_uL, fd_uL, ai_uL, ar_uL, zs_uL, al_uL, kd_uR, ln_uR, fd_uR, ai_uR, al_uR, zs_uR, ar_uR, true_and, and_true, Option.toList_some, Option.toList_none, List.cons_append, List.nil_append, catS_nil, catS_int, catS_ref, catS_null, catS_long, cat_int, cat_ref, cat_null, Nat.reduceEqDiff, Nat.reduceLeDiff, Nat.reduceAdd, false_and, and_false, if_false, if_true, ite_true, ite_false, true_or, or_true, false_or, or_false, and_self, forall_const, true_implies, reduceCtorEq, clr_int, clr_ref, clr_null, clr_none, clr_long, va_rf_some, va_rf_none]
    exact ⟨⟨rfl, h2 (n (fun z => by rw [z.1] at q; cases q))⟩, fun q => absurd trivial q⟩
theorem sp_R_isBy {d : Nat} {w : aw} {m e p : Nat} {T : Nat → Nat} {Q : wQ} (hP : RP w m T e p) (h1 : isBy T e p = true → Q (some (.int 1)) w) (h2 : isBy T e p = false → Q (some (.int 0)) w) : wpD (d + 3) 156 [.ref m] w Q := by
  refine ⟨Nat.le_of_ble_eq_true rfl, ?_⟩
  show wp (d + 2) 156 Q 0 [some (.ref m), none, none] [] w 0 0
  have hP0 := hP
  have he := hP.2.2.2.2.1
  have hT := hP.2.2.2.2.2.1
  have hpe := hP.2.2.2.2.2.2
  obtain ⟨sh, tp, st, at', -, -, -⟩ := hP
  obtain ⟨rk, r1, r2, r3, r4, r5, r6, r7, r8, r9, r10, r11, r12, r13, r14, r15, r16, r17, r18, r19, r20, r21, r22, r23, r24, k1, k2, k3, k4, k5, k6, k7, k8, k9, k10, k11, k12, k13, k14, k15, k16, k17, k18, k19, k20, k21, k22, k23, k24, n1, n2, n3, n4, n5, n6, n7, n8, n9, n10, n11, n12, n13, n14, n15, n16, n17, n18, n19, n20, n21, n22, n23, n24⟩ := sh
  have n : ¬ (lk T e p = 73 ∧ wE T e p = p + 1 ∧ opn (lk T e (bE T e (p + 1))) = true) → isBy T e p = false := fun q => by cases c : isBy T e p with | false => rfl | true => exact absurd (isBy_iff.mp c) q
  have hc := lk_lt (T := T) (e := e) (p := p) hT
  have j30 : isBy T e p = false → wp (d + 2) 156 Q 30 [some (.ref m), none, none] [] w 0 0 := by
    intro q
    simp only [↓s_156_30, ↓s_156_31, kd_uF, ln_uF, ai_uF, al_uF, ar_uF, zs_uF, fd_uF, kd_uA, ln_uA, fd_uA, al_uA, ar_uA, zs_uA, ai_uA, kd_uL, ln_uL, fd_uL, ai_uL, ar_uL, zs_uL, al_uL, kd_uR, ln_uR, fd_uR, ai_uR, al_uR, zs_uR, ar_uR, true_and, and_true, Option.toList_some, Option.toList_none, List.cons_append, List.nil_append, catS_nil, catS_int, catS_ref, catS_null, catS_long, cat_int, cat_ref, cat_null, Nat.reduceEqDiff, Nat.reduceLeDiff, Nat.reduceAdd, false_and, and_false, if_false, if_true, ite_true, ite_false, true_or, or_true, false_or, or_false, and_self, forall_const, true_implies, reduceCtorEq, clr_int, clr_ref, clr_null, clr_none, clr_long, va_rf_some, va_rf_none]
    exact ⟨rfl, h2 q⟩
  simp only [↓s_156_0, ↓s_156_1, ↓s_156_2, ↓s_156_5, kd_uF, ln_uF, ai_uF, al_uF, ar_uF, zs_uF, fd_uF, kd_uA, ln_uA, fd_uA, al_uA, ar_uA, zs_uA, ai_uA, kd_uL, ln_uL, fd_uL, ai_uL, ar_uL, zs_uL, al_uL, kd_uR, ln_uR, fd_uR, ai_uR, al_uR, zs_uR, ar_uR, true_and, and_true, Option.toList_some, Option.toList_none, List.cons_append, List.nil_append, catS_nil, catS_int, catS_ref, catS_null, catS_long, cat_int, cat_ref, cat_null, Nat.reduceEqDiff, Nat.reduceLeDiff, Nat.reduceAdd, false_and, and_false, if_false, if_true, ite_true, ite_false, true_or, or_true, false_or, or_false, and_self, forall_const, true_implies, reduceCtorEq, clr_int, clr_ref, clr_null, clr_none, clr_long, va_rf_some, va_rf_none, rk, at']
  refine sp_R_look hP0 (by omega) ?_
  simp only [↓s_156_8, ↓s_156_10, ↓s_156_13, ↓s_156_14, ↓s_156_15, ↓s_156_18, kd_uF, ln_uF, ai_uF, al_uF, ar_uF, zs_uF, fd_uF, kd_uA, ln_uA, fd_uA, al_uA, ar_uA, zs_uA, ai_uA, kd_uL, ln_uL, fd_uL, ai_uL, ar_uL, zs_uL, al_uL, kd_uR, ln_uR, fd_uR, ai_uR, al_uR, zs_uR, ar_uR, true_and, and_true, Option.toList_some, Option.toList_none, List.cons_append, List.nil_append, catS_nil, catS_int, catS_ref, catS_null, catS_long, cat_int, cat_ref, cat_null, Nat.reduceEqDiff, Nat.reduceLeDiff, Nat.reduceAdd, false_and, and_false, if_false, if_true, ite_true, ite_false, true_or, or_true, false_or, or_false, and_self, forall_const, true_implies, reduceCtorEq, clr_int, clr_ref, clr_null, clr_none, clr_long, va_rf_some, va_rf_none, rk, at']
  rw [show (73 : Int32) = nI 73 from rfl, nI_eq (by omega) (by decide)]
  refine ⟨fun q => j30 (n (fun z => q z.1)), fun q => sp_R_wordEnd hP0 (by omega) ?_⟩
  have hwl := wE_lt (T := T) he (show p < 9000 by omega)
  simp only [↓s_156_21, ↓s_156_22, ↓s_156_25, ↓s_156_26, ↓s_156_27, ↓s_156_32, ↓s_156_33, ↓s_156_36, ↓s_156_37, ↓s_156_38, kd_uF, ln_uF, ai_uF, al_uF, ar_uF, zs_uF, fd_uF, kd_uA, ln_uA, fd_uA, al_uA, ar_uA, zs_uA, ai_uA, kd_uL, ln_uL, fd_uL, ai_uL, ar_uL, zs_uL, al_uL, kd_uR, ln_uR, fd_uR, ai_uR, al_uR, zs_uR, ar_uR, true_and, and_true, Option.toList_some, Option.toList_none, List.cons_append, List.nil_append, catS_nil, catS_int, catS_ref, catS_null, catS_long, cat_int, cat_ref, cat_null, Nat.reduceEqDiff, Nat.reduceLeDiff, Nat.reduceAdd, false_and, and_false, if_false, if_true, ite_true, ite_false, true_or, or_true, false_or, or_false, and_self, forall_const, true_implies, reduceCtorEq, clr_int, clr_ref, clr_null, clr_none, clr_long, va_rf_some, va_rf_none, rk, at']
  rw [nI_1, nI_eq (by omega) (by omega)]
  refine ⟨fun q2 => ?_, fun q2 => j30 (n (fun z => q2 z.2.1))⟩
  have hpe' : p < e := lk_pos (T := T) (by rw [q]; decide)
  have j75 : wp (d + 2) 156 Q 75 [some (.ref m), some (.int (nI (bE T e (p + 1)))), none] [] w 0 0 := by
    have hc2 := lk_lt (T := T) (e := e) (p := bE T e (p + 1)) hT
    have yes : opn (lk T e (bE T e (p + 1))) = true → ∀ L, wp (d + 2) 156 Q 113 [some (.ref m), some (.int (nI (bE T e (p + 1)))), L] [] w 0 0 := by
      intro z L
      simp only [↓s_156_113, ↓s_156_114, ↓s_156_118, kd_uF, ln_uF, ai_uF, al_uF, ar_uF, zs_uF, fd_uF, kd_uA, ln_uA, fd_uA, al_uA, ar_uA, zs_uA, ai_uA, kd_uL, ln_uL, fd_uL, ai_uL, ar_uL, zs_uL, al_uL, kd_uR, ln_uR, fd_uR, ai_uR, al_uR, zs_uR, ar_uR, true_and, and_true, Option.toList_some, Option.toList_none, List.cons_append, List.nil_append, catS_nil, catS_int, catS_ref, catS_null, catS_long, cat_int, cat_ref, cat_null, Nat.reduceEqDiff, Nat.reduceLeDiff, Nat.reduceAdd, false_and, and_false, if_false, if_true, ite_true, ite_false, true_or, or_true, false_or, or_false, and_self, forall_const, true_implies, reduceCtorEq, clr_int, clr_ref, clr_null, clr_none, clr_long, va_rf_some, va_rf_none]
      exact ⟨rfl, h1 (isBy_iff.mpr ⟨q, q2, z⟩)⟩
    simp only [↓s_156_75, ↓s_156_76, ↓s_156_77, kd_uF, ln_uF, ai_uF, al_uF, ar_uF, zs_uF, fd_uF, kd_uA, ln_uA, fd_uA, al_uA, ar_uA, zs_uA, ai_uA, kd_uL, ln_uL, fd_uL, ai_uL, ar_uL, zs_uL, al_uL, kd_uR, ln_uR, fd_uR, ai_uR, al_uR, zs_uR, ar_uR, true_and, and_true, Option.toList_some, Option.toList_none, List.cons_append, List.nil_append, catS_nil, catS_int, catS_ref, catS_null, catS_long, cat_int, cat_ref, cat_null, Nat.reduceEqDiff, Nat.reduceLeDiff, Nat.reduceAdd, false_and, and_false, if_false, if_true, ite_true, ite_false, true_or, or_true, false_or, or_false, and_self, forall_const, true_implies, reduceCtorEq, clr_int, clr_ref, clr_null, clr_none, clr_long, va_rf_some, va_rf_none, rk]
    refine sp_R_look hP0 (bE_lt he (by omega)) ?_
    generalize lk T e (bE T e (p + 1)) = c at *
    simp only [↓s_156_80, ↓s_156_81, ↓s_156_82, kd_uF, ln_uF, ai_uF, al_uF, ar_uF, zs_uF, fd_uF, kd_uA, ln_uA, fd_uA, al_uA, ar_uA, zs_uA, ai_uA, kd_uL, ln_uL, fd_uL, ai_uL, ar_uL, zs_uL, al_uL, kd_uR, ln_uR, fd_uR, ai_uR, al_uR, zs_uR, ar_uR, true_and, and_true, Option.toList_some, Option.toList_none, List.cons_append, List.nil_append, catS_nil, catS_int, catS_ref, catS_null, catS_long, cat_int, cat_ref, cat_null, Nat.reduceEqDiff, Nat.reduceLeDiff, Nat.reduceAdd, false_and, and_false, if_false, if_true, ite_true, ite_false, true_or, or_true, false_or, or_false, and_self, forall_const, true_implies, reduceCtorEq, clr_int, clr_ref, clr_null, clr_none, clr_long, va_rf_some, va_rf_none]
    refine sp_R_isL hc2 (fun z1 => ?_) (fun z1 => ?_)
    · simp only [↓s_156_85, ↓s_156_88, ↓s_156_89, kd_uF, ln_uF, ai_uF, al_uF, ar_uF, zs_uF, fd_uF, kd_uA, ln_uA, fd_uA, al_uA, ar_uA, zs_uA, ai_uA, kd_uL, ln_uL, fd_uL, ai_uL, ar_uL, zs_uL, al_uL, kd_uR, ln_uR, fd_uR, ai_uR, al_uR, zs_uR, ar_uR, true_and, and_true, Option.toList_some, Option.toList_none, List.cons_append, List.nil_append, catS_nil, catS_int, catS_ref, catS_null, catS_long, cat_int, cat_ref, cat_null, Nat.reduceEqDiff, Nat.reduceLeDiff, Nat.reduceAdd, false_and, and_false, if_false, if_true, ite_true, ite_false, true_or, or_true, false_or, or_false, and_self, forall_const, true_implies, reduceCtorEq, clr_int, clr_ref, clr_null, clr_none, clr_long, va_rf_some, va_rf_none]
      exact ⟨fun _ => yes (by unfold opn; rw [z1]; rfl) _, fun q => absurd q (by decide)⟩
    · simp only [↓s_156_85, ↓s_156_88, ↓s_156_89, kd_uF, ln_uF, ai_uF, al_uF, ar_uF, zs_uF, fd_uF, kd_uA, ln_uA, fd_uA, al_uA, ar_uA, zs_uA, ai_uA, kd_uL, ln_uL, fd_uL, ai_uL, ar_uL, zs_uL, al_uL, kd_uR, ln_uR, fd_uR, ai_uR, al_uR, zs_uR, ar_uR, true_and, and_true, Option.toList_some, Option.toList_none, List.cons_append, List.nil_append, catS_nil, catS_int, catS_ref, catS_null, catS_long, cat_int, cat_ref, cat_null, Nat.reduceEqDiff, Nat.reduceLeDiff, Nat.reduceAdd, false_and, and_false, if_false, if_true, ite_true, ite_false, true_or, or_true, false_or, or_false, and_self, forall_const, true_implies, reduceCtorEq, clr_int, clr_ref, clr_null, clr_none, clr_long, va_rf_some, va_rf_none]
      refine ⟨fun q => absurd trivial q, sp_R_isD hc2 (fun z2 => ?_) (fun z2 => ?_)⟩
      · simp only [↓s_156_92, ↓s_156_95, ↓s_156_96, ↓s_156_98, ↓s_156_101, ↓s_156_102, ↓s_156_104, ↓s_156_107, ↓s_156_108, ↓s_156_110, ↓s_156_117, kd_uF, ln_uF, ai_uF, al_uF, ar_uF, zs_uF, fd_uF, kd_uA, ln_uA, fd_uA, al_uA, ar_uA, zs_uA, ai_uA, kd_uL, ln_uL, fd_uL, ai_uL, ar_uL, zs_uL, al_uL, kd_uR, ln_uR, fd_uR, ai_uR, al_uR, zs_uR, ar_uR, true_and, and_true, Option.toList_some, Option.toList_none, List.cons_append, List.nil_append, catS_nil, catS_int, catS_ref, catS_null, catS_long, cat_int, cat_ref, cat_null, Nat.reduceEqDiff, Nat.reduceLeDiff, Nat.reduceAdd, false_and, and_false, if_false, if_true, ite_true, ite_false, true_or, or_true, false_or, or_false, and_self, forall_const, true_implies, reduceCtorEq, clr_int, clr_ref, clr_null, clr_none, clr_long, va_rf_some, va_rf_none]
        exact ⟨fun _ => yes (by unfold opn; rw [z1, z2]; rfl) _, fun q => absurd q (by decide)⟩
      · simp only [↓s_156_92, ↓s_156_95, ↓s_156_96, ↓s_156_98, ↓s_156_101, ↓s_156_102, ↓s_156_104, ↓s_156_107, ↓s_156_108, ↓s_156_110, ↓s_156_117, ↓s_156_118, kd_uF, ln_uF, ai_uF, al_uF, ar_uF, zs_uF, fd_uF, kd_uA, ln_uA, fd_uA, al_uA, ar_uA, zs_uA, ai_uA, kd_uL, ln_uL, fd_uL, ai_uL, ar_uL, zs_uL, al_uL, kd_uR, ln_uR, fd_uR, ai_uR, al_uR, zs_uR, ar_uR, true_and, and_true, Option.toList_some, Option.toList_none, List.cons_append, List.nil_append, catS_nil, catS_int, catS_ref, catS_null, catS_long, cat_int, cat_ref, cat_null, Nat.reduceEqDiff, Nat.reduceLeDiff, Nat.reduceAdd, false_and, and_false, if_false, if_true, ite_true, ite_false, true_or, or_true, false_or, or_false, and_self, forall_const, true_implies, reduceCtorEq, clr_int, clr_ref, clr_null, clr_none, clr_long, va_rf_some, va_rf_none]
        rw [show (46 : Int32) = nI 46 from rfl, show (45 : Int32) = nI 45 from rfl, show (40 : Int32) = nI 40 from rfl, nI_eq (by omega) (by decide), nI_eq (by omega) (by decide), nI_eq (by omega) (by decide)]
        refine ⟨fun q => absurd trivial q, fun z3 => yes (by unfold opn; rw [z3]; decide) _, fun z3 => ⟨fun z4 => yes (by unfold opn; rw [z4]; decide) _, fun z4 => ⟨fun z5 => ⟨rfl, h2 (n (fun z => ?_))⟩, fun z5 => yes (by unfold opn; rw [z5]; decide) _⟩⟩⟩
        have z6 := z.2.2
        unfold opn at z6
        rw [z1, z2] at z6
        simp at z6
        omega
  have lp : ∀ (j p2 : Nat), p2 + j = e → bE T e p2 = bE T e (p + 1) → wp (d + 2) 156 Q 39 [some (.ref m), some (.int (nI p2)), none] [] w 0 0 := by
    intro j
    induction j with
    | zero =>
      intro p2 hj hb
      rw [s_156_39]
      simp only [↓s_156_40, ↓s_156_41, ↓s_156_44, kd_uF, ln_uF, ai_uF, al_uF, ar_uF, zs_uF, fd_uF, kd_uA, ln_uA, fd_uA, al_uA, ar_uA, zs_uA, ai_uA, kd_uL, ln_uL, fd_uL, ai_uL, ar_uL, zs_uL, al_uL, kd_uR, ln_uR, fd_uR, ai_uR, al_uR, zs_uR, ar_uR, true_and, and_true, Option.toList_some, Option.toList_none, List.cons_append, List.nil_append, catS_nil, catS_int, catS_ref, catS_null, catS_long, cat_int, cat_ref, cat_null, Nat.reduceEqDiff, Nat.reduceLeDiff, Nat.reduceAdd, false_and, and_false, if_false, if_true, ite_true, ite_false, true_or, or_true, false_or, or_false, and_self, forall_const, true_implies, reduceCtorEq, clr_int, clr_ref, clr_null, clr_none, clr_long, va_rf_some, va_rf_none, rk, st]
      refine ⟨fun _ => ?_, fun q => absurd (nI_le (by omega) (by omega)) q⟩
      rw [show p2 = bE T e (p + 1) from by rw [← hb, bE_no (fun q => by omega)]]
      exact j75
    | succ j ih =>
      intro p2 hj hb
      have hcp := hT p2
      have hin : inR (nI p2) 8000 := inR_nI (by omega) (by decide)
      rw [s_156_39]
      simp only [↓s_156_40, ↓s_156_41, ↓s_156_44, ↓s_156_47, ↓s_156_48, ↓s_156_51, ↓s_156_52, ↓s_156_53, ↓s_156_55, ↓s_156_58, ↓s_156_59, ↓s_156_62, ↓s_156_63, ↓s_156_64, ↓s_156_66, ↓s_156_69, ↓s_156_72, kd_uF, ln_uF, ai_uF, al_uF, ar_uF, zs_uF, fd_uF, kd_uA, ln_uA, fd_uA, al_uA, ar_uA, zs_uA, ai_uA, kd_uL, ln_uL, fd_uL, ai_uL, ar_uL, zs_uL, al_uL, kd_uR, ln_uR, fd_uR, ai_uR, al_uR, zs_uR, ar_uR, true_and, and_true, Option.toList_some, Option.toList_none, List.cons_append, List.nil_append, catS_nil, catS_int, catS_ref, catS_null, catS_long, cat_int, cat_ref, cat_null, Nat.reduceEqDiff, Nat.reduceLeDiff, Nat.reduceAdd, false_and, and_false, if_false, if_true, ite_true, ite_false, true_or, or_true, false_or, or_false, and_self, forall_const, true_implies, reduceCtorEq, clr_int, clr_ref, clr_null, clr_none, clr_long, va_rf_some, va_rf_none, rk, st, r19, k19, n19, clN (show p2 < 2147483648 by omega), tp p2 (by omega)]
      rw [show (32 : Int32) = nI 32 from rfl, show (9 : Int32) = nI 9 from rfl, nI_eq (by omega) (by decide), nI_eq (by omega) (by decide), nI_1]
      have go : isB (T p2) = true → wp (d + 2) 156 Q 39 [some (.ref m), some (.int (nI (p2 + 1))), none] [] w 0 0 := fun q => ih (p2 + 1) (by omega) (by rw [← hb, bE_go (by omega) q])
      refine ⟨fun q => absurd q (nI_ge (by omega) (by omega)), fun _ => ⟨hin, fun q => go (isB_iff.mpr (Or.inl q)), fun q => ⟨hin, fun q2 => ?_, fun q2 => go (isB_iff.mpr (Or.inr q2))⟩⟩⟩
      have hn : isB (T p2) = false := by
        cases c : isB (T p2) with
        | false => rfl
        | true => rcases isB_iff.mp c with z | z <;> omega
      rw [show p2 = bE T e (p + 1) from by rw [← hb, bE_no (fun _ => hn)]]
      exact j75
  exact lp (e - (p + 1)) (p + 1) (by omega) rfl
