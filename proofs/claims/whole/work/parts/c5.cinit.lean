def CE (w : aw) (x : Nat) (E : nt) : Prop := kd w (x + 4) = 4 ∧ fd w 192 (x + 4) = .ref (x + 5) ∧ fd w 193 (x + 4) = .ref (x + 6) ∧ kd w (x + 5) = 22 ∧ ln w (x + 5) = 235 ∧ kd w (x + 6) = 20 ∧ ln w (x + 6) = 235 ∧ fd w 194 (x + 4) = .int (nI E.length) ∧ ∀ k y, E[k]? = some y → al w (x + 5) k = lN (b256 y.1) ∧ ai w (x + 6) k = rn y.2
theorem CE.add {w : aw} {x v : Nat} {E : nt} {l : List Nat} (h : CE w x E) : CE (uF (uA (uL w (x + 5) E.length (lN (b256 l))) (x + 6) E.length (rn v)) 194 (x + 4) (.int (nI (E.length + 1)))) x (E ++ [(l, v)]) := by
  obtain ⟨a1, a2, a3, a4, a5, a6, a7, a8, a9⟩ := h
  refine ⟨a1, ?_, ?_, a4, a5, a6, a7, ?_, fun k y hy => ?_⟩
  · simp only [fd_uF, eq_self, and_self, true_and, false_and, if_true, if_false, ite_true, ite_false, Nat.reduceEqDiff]; exact a2
  · simp only [fd_uF, eq_self, and_self, true_and, false_and, if_true, if_false, ite_true, ite_false, Nat.reduceEqDiff]; exact a3
  · simp only [fd_uF, eq_self, and_self, true_and, false_and, if_true, if_false, ite_true, ite_false, Nat.reduceEqDiff]; rw [List.length_append]; rfl
  · rw [al_uF, al_uA, al_uL, ai_uF, ai_uA, ai_uL]
    by_cases c : k < E.length
    · rw [List.getElem?_append_left c] at hy
      rw [if_neg (by omega), if_neg (by omega)]
      exact a9 k y hy
    · rw [List.getElem?_append_right (by omega)] at hy
      have ck : k = E.length := by
        have := (List.getElem?_eq_some_iff.mp hy).1
        simp at this
        omega
      subst ck
      rw [Nat.sub_self] at hy
      cases hy
      rw [if_pos ⟨rfl, rfl⟩, if_pos ⟨rfl, rfl⟩]
      exact ⟨rfl, rfl⟩
theorem CE.B {w : aw} {x : Nat} (h : CE w x C35) : CB w x [] := by
  obtain ⟨a1, a2, a3, a4, a5, a6, a7, a8, a9⟩ := h
  exact ⟨a1, a2, a3, a4, a5, a6, a7, a8, fun k y hy => a9 k y (by rw [List.append_nil] at hy; exact hy)⟩
theorem FrOd {w w' : aw} {lo hi h : Nat} (hF : Fr w w' lo hi) (h1 : h ≤ lo) : Od w w' h := fun q hq => by
  have o := hF.2.2.2 q (by omega)
  exact ⟨hF.1 q, hF.2.1 q, o.1, o.2.1, o.2.2.1, o.2.2.2⟩
def okL (l : List Nat) : Prop := ∀ c ∈ l, isL c = true
theorem okL_N {l : List Nat} (h : okL l) : okN l := fun c hc => by unfold isW; rw [h c hc]; rfl
theorem flat_cons {y : List Nat × Nat} {W : nt} : flat (y :: W) = y.1 ++ 32 :: flat W := by unfold flat; rw [List.flatMap_cons]; simp
theorem drop_get {l r : List Nat} {p c : Nat} (h : l.drop p = c :: r) : p < l.length ∧ l.getD p 0 = c ∧ l.drop (p + 1) = r := by
  have hp : p < l.length := by
    rcases Nat.lt_or_ge p l.length with q | q
    · exact q
    · rw [List.drop_eq_nil_of_le q] at h; cases h
  rw [List.drop_eq_getElem_cons hp] at h
  obtain ⟨h1, h2⟩ := List.cons.inj h
  exact ⟨hp, by rw [List.getD_eq_getElem?_getD, List.getElem?_eq_getElem hp]; exact h1, h2⟩
theorem sp_N_addAll {d : Nat} {w : aw} {x z a b : Nat} {E W : nt} {Q : wQ} (hE : SEc w) (hT : TxA w z a (flat W)) (hV : VlA w z b W) (h0 : 0 < z) (hz : z ≤ x + 4) (hC : CE w x E) (hl : E.length + W.length ≤ 35) (hf : (flat W).length < 1000) (hW : ∀ y ∈ W, okL y.1 ∧ y.1.length ≤ 3) (h : ∀ w', CE w' x (E ++ W) → Fr w w' (x + 4) (x + 7) → Q none w') : wpD (d + 5) 32 [.ref (x + 4), .ref a, .ref b] w Q := by
  refine ⟨Nat.le_of_ble_eq_true rfl, ?_⟩
  show wp (d + 4) 32 Q 0 [some (.ref (x + 4)), some (.ref a), some (.ref b), none, none, none, none, none] [] w 0 0
  have se : ∀ w1, Fr w w1 (x + 4) (x + 7) → SEc w1 ∧ TxA w1 z a (flat W) ∧ VlA w1 z b W := by
    intro w1 f1
    have o := FrOd (h := z) f1 hz
    obtain ⟨e1, y, e2⟩ := hE
    have o0 := (o 0 h0).2.2.1
    exact ⟨⟨(o0 _).trans e1, y, (o0 _).trans e2⟩, hT.od o, hV.od o⟩
  -- the end
  have fin : ∀ (w1 : aw) (p j : Nat) (l : List Nat) (A7 : Option Value), p = (flat W).length → CE w1 x (E ++ W) → Fr w w1 (x + 4) (x + 7) → wp (d + 4) 32 Q 8 [some (.ref (x + 4)), some (.ref a), some (.ref b), some (.long (lN (b256 l))), none, some (.int (nI j)), some (.int (nI p)), A7] [] w1 0 0 := by
    intro w1 p j l A7 hp hC1 f1
    obtain ⟨s1, s2, s3⟩ := se w1 f1
    rw [s_32_8]
    simp only [↓s_32_10, ↓s_32_11, kd_uF, ln_uF, ai_uF, al_uF, ar_uF, zs_uF, fd_uF, kd_uA, ln_uA, fd_uA, al_uA, ar_uA, zs_uA, ai_uA, kd_uL, ln_uL, fd_uL, ai_uL, ar_uL, zs_uL, al_uL, kd_uR, ln_uR, fd_uR, ai_uR, al_uR, zs_uR, ar_uR, true_and, and_true, Option.toList_some, Option.toList_none, List.cons_append, List.nil_append, catS_nil, catS_int, catS_ref, catS_null, catS_long, cat_int, cat_ref, cat_null, Nat.reduceEqDiff, Nat.reduceLeDiff, Nat.reduceAdd, false_and, and_false, if_false, if_true, ite_true, ite_false, true_or, or_true, false_or, or_false, and_self, forall_const, true_implies, reduceCtorEq, clr_int, clr_ref, clr_null, clr_none, clr_long, va_rf_some, va_rf_none, s2.2.1]
    refine sp_S_len s1 s2 (by omega) ?_
    simp only [↓s_32_14, ↓s_32_69, kd_uF, ln_uF, ai_uF, al_uF, ar_uF, zs_uF, fd_uF, kd_uA, ln_uA, fd_uA, al_uA, ar_uA, zs_uA, ai_uA, kd_uL, ln_uL, fd_uL, ai_uL, ar_uL, zs_uL, al_uL, kd_uR, ln_uR, fd_uR, ai_uR, al_uR, zs_uR, ar_uR, true_and, and_true, Option.toList_some, Option.toList_none, List.cons_append, List.nil_append, catS_nil, catS_int, catS_ref, catS_null, catS_long, cat_int, cat_ref, cat_null, Nat.reduceEqDiff, Nat.reduceLeDiff, Nat.reduceAdd, false_and, and_false, if_false, if_true, ite_true, ite_false, true_or, or_true, false_or, or_false, and_self, forall_const, true_implies, reduceCtorEq, clr_int, clr_ref, clr_null, clr_none, clr_long, va_rf_some, va_rf_none]
    exact ⟨fun _ => h w1 hC1 f1, fun q => absurd (nI_le (by omega) (by omega)) q⟩
  have lp : ∀ (k p j : Nat) (l r : List Nat) (v : Nat) (D Wr : nt) (w1 : aw) (A7 : Option Value), (flat W).length - p = k → (flat W).drop p = r ++ 32 :: flat Wr → W = D ++ (l ++ r, v) :: Wr → D.length = j → CE w1 x (E ++ D) → Fr w w1 (x + 4) (x + 7) → wp (d + 4) 32 Q 8 [some (.ref (x + 4)), some (.ref a), some (.ref b), some (.long (lN (b256 l))), none, some (.int (nI j)), some (.int (nI p)), A7] [] w1 0 0 := by
    intro k
    induction k with
    | zero =>
      intro p j l r v D Wr w1 A7 hk hd hw hj hC1 f1
      exfalso
      rw [List.drop_eq_nil_of_le (by omega)] at hd
      have := congrArg List.length hd
      simp at this
    | succ k ih =>
      intro p j l r v D Wr w1 A7 hk hd hw hj hC1 f1
      obtain ⟨s1, s2, s3⟩ := se w1 f1
      have hmem : (l ++ r, v) ∈ W := by rw [hw]; simp
      obtain ⟨ok, l3⟩ := hW _ hmem
      have ok' : okL (l ++ r) := ok
      have l3' : (l ++ r).length ≤ 3 := l3
      rw [List.length_append] at l3'
      have hwl : W.length = D.length + (Wr.length + 1) := by rw [hw, List.length_append]; rfl
      have hjW : j < W.length := by omega
      obtain ⟨k7, n7, b1, b2, b3⟩ : kd w1 b = 30 ∧ ln w1 b = W.length ∧ True ∧ True ∧ True := ⟨s3.2.1, s3.2.2.1, trivial, trivial, trivial⟩
      have hvl : ai w1 b j = rn v := s3.2.2.2 j (l ++ r, v) (by rw [hw, List.getElem?_append_right (by omega), hj, Nat.sub_self]; rfl)
      obtain ⟨e1, e2, e3, e4, e5, e6, e7, e8, e9⟩ := hC1
      have hC1' : CE w1 x (E ++ D) := ⟨e1, e2, e3, e4, e5, e6, e7, e8, e9⟩
      have hED : (E ++ D).length = E.length + j := by rw [List.length_append, hj]
      rw [s_32_8]
      simp only [↓s_32_10, ↓s_32_11, kd_uF, ln_uF, ai_uF, al_uF, ar_uF, zs_uF, fd_uF, kd_uA, ln_uA, fd_uA, al_uA, ar_uA, zs_uA, ai_uA, kd_uL, ln_uL, fd_uL, ai_uL, ar_uL, zs_uL, al_uL, kd_uR, ln_uR, fd_uR, ai_uR, al_uR, zs_uR, ar_uR, true_and, and_true, Option.toList_some, Option.toList_none, List.cons_append, List.nil_append, catS_nil, catS_int, catS_ref, catS_null, catS_long, cat_int, cat_ref, cat_null, Nat.reduceEqDiff, Nat.reduceLeDiff, Nat.reduceAdd, false_and, and_false, if_false, if_true, ite_true, ite_false, true_or, or_true, false_or, or_false, and_self, forall_const, true_implies, reduceCtorEq, clr_int, clr_ref, clr_null, clr_none, clr_long, va_rf_some, va_rf_none, s2.2.1]
      refine sp_S_len s1 s2 (by omega) ?_
      cases r with
      | nil =>
        obtain ⟨hp, hc, hd2⟩ := drop_get (c := 32) (r := flat Wr) hd
        simp only [↓s_32_14, ↓s_32_17, ↓s_32_19, ↓s_32_20, ↓s_32_21, ↓s_32_24, ↓s_32_25, ↓s_32_27, kd_uF, ln_uF, ai_uF, al_uF, ar_uF, zs_uF, fd_uF, kd_uA, ln_uA, fd_uA, al_uA, ar_uA, zs_uA, ai_uA, kd_uL, ln_uL, fd_uL, ai_uL, ar_uL, zs_uL, al_uL, kd_uR, ln_uR, fd_uR, ai_uR, al_uR, zs_uR, ar_uR, true_and, and_true, Option.toList_some, Option.toList_none, List.cons_append, List.nil_append, catS_nil, catS_int, catS_ref, catS_null, catS_long, cat_int, cat_ref, cat_null, Nat.reduceEqDiff, Nat.reduceLeDiff, Nat.reduceAdd, false_and, and_false, if_false, if_true, ite_true, ite_false, true_or, or_true, false_or, or_false, and_self, forall_const, true_implies, reduceCtorEq, clr_int, clr_ref, clr_null, clr_none, clr_long, va_rf_some, va_rf_none, s2.2.1, k7, n7]
        refine ⟨fun q => absurd q (nI_ge (by omega) (by omega)), fun _ => ⟨rfl, fun q => absurd q (nI_ge (by omega) (by omega)), fun _ => sp_S_at s1 s2 (by omega) hp (by rw [hc]; decide) ?_⟩⟩
        rw [hc]
        simp only [↓s_32_30, ↓s_32_32, ↓s_32_34, ↓s_32_36, ↓s_32_39, ↓s_32_40, ↓s_32_41, ↓s_32_42, ↓s_32_44, ↓s_32_45, kd_uF, ln_uF, ai_uF, al_uF, ar_uF, zs_uF, fd_uF, kd_uA, ln_uA, fd_uA, al_uA, ar_uA, zs_uA, ai_uA, kd_uL, ln_uL, fd_uL, ai_uL, ar_uL, zs_uL, al_uL, kd_uR, ln_uR, fd_uR, ai_uR, al_uR, zs_uR, ar_uR, true_and, and_true, Option.toList_some, Option.toList_none, List.cons_append, List.nil_append, catS_nil, catS_int, catS_ref, catS_null, catS_long, cat_int, cat_ref, cat_null, Nat.reduceEqDiff, Nat.reduceLeDiff, Nat.reduceAdd, false_and, and_false, if_false, if_true, ite_true, ite_false, true_or, or_true, false_or, or_false, and_self, forall_const, true_implies, reduceCtorEq, clr_int, clr_ref, clr_null, clr_none, clr_long, va_rf_some, va_rf_none, e1, k7, n7, clN (show j < 2147483648 by omega), hvl]
        refine ⟨fun q => absurd rfl q, fun _ => ⟨inR_nI hjW (by omega), ?_⟩⟩
        refine sp_c_add (v := v) (cnt0 := (E ++ D).length) e1 e2 e3 e4 e5 e6 e7 e8 (by omega) ?_
        have C2 := hC1'.add (v := v) (l := l)
        have F2 : Fr w (uF (uA (uL w1 (x + 5) (E ++ D).length (lN (b256 l))) (x + 6) (E ++ D).length (rn v)) 194 (x + 4) (.int (nI ((E ++ D).length + 1)))) (x + 4) (x + 7) := ((f1.L (by omega) (by omega)).A (by omega) (by omega)).F (by omega) (by omega)
        simp only [↓s_32_48, ↓s_32_49, ↓s_32_50, ↓s_32_53, ↓s_32_63, ↓s_32_66, kd_uF, ln_uF, ai_uF, al_uF, ar_uF, zs_uF, fd_uF, kd_uA, ln_uA, fd_uA, al_uA, ar_uA, zs_uA, ai_uA, kd_uL, ln_uL, fd_uL, ai_uL, ar_uL, zs_uL, al_uL, kd_uR, ln_uR, fd_uR, ai_uR, al_uR, zs_uR, ar_uR, true_and, and_true, Option.toList_some, Option.toList_none, List.cons_append, List.nil_append, catS_nil, catS_int, catS_ref, catS_null, catS_long, cat_int, cat_ref, cat_null, Nat.reduceEqDiff, Nat.reduceLeDiff, Nat.reduceAdd, false_and, and_false, if_false, if_true, ite_true, ite_false, true_or, or_true, false_or, or_false, and_self, forall_const, true_implies, reduceCtorEq, clr_int, clr_ref, clr_null, clr_none, clr_long, va_rf_some, va_rf_none]
        rw [nI_1, nI_1]
        rw [List.append_assoc] at C2
        rw [List.append_nil] at hw
        cases Wr with
        | nil =>
          rw [← hw] at C2
          refine fin _ (p + 1) (j + 1) [] _ ?_ C2 F2
          have : (flat W).drop (p + 1) = [] := hd2
          have := congrArg List.length this
          rw [List.length_drop] at this
          simp at this
          omega
        | cons y Wr =>
          rw [flat_cons] at hd2
          exact ih (p + 1) (j + 1) [] y.1 y.2 (D ++ [(l, v)]) Wr _ _ (by omega) hd2 (by rw [hw]; simp) (by rw [List.length_append, hj]; rfl) C2 F2
      | cons c r =>
        obtain ⟨hp, hc, hd2⟩ := drop_get (c := c) (r := r ++ 32 :: flat Wr) hd
        have hcL := ok' c (by simp)
        have hcb := isL_iff.mp hcL
        have hll : l.length ≤ 2 := by simp at l3'; omega
        have hbl := b256_lt 2 l hll (fun y hy => okL_N ok' y (by simp [hy]))
        simp only [↓s_32_14, ↓s_32_17, ↓s_32_19, ↓s_32_20, ↓s_32_21, ↓s_32_24, ↓s_32_25, ↓s_32_27, kd_uF, ln_uF, ai_uF, al_uF, ar_uF, zs_uF, fd_uF, kd_uA, ln_uA, fd_uA, al_uA, ar_uA, zs_uA, ai_uA, kd_uL, ln_uL, fd_uL, ai_uL, ar_uL, zs_uL, al_uL, kd_uR, ln_uR, fd_uR, ai_uR, al_uR, zs_uR, ar_uR, true_and, and_true, Option.toList_some, Option.toList_none, List.cons_append, List.nil_append, catS_nil, catS_int, catS_ref, catS_null, catS_long, cat_int, cat_ref, cat_null, Nat.reduceEqDiff, Nat.reduceLeDiff, Nat.reduceAdd, false_and, and_false, if_false, if_true, ite_true, ite_false, true_or, or_true, false_or, or_false, and_self, forall_const, true_implies, reduceCtorEq, clr_int, clr_ref, clr_null, clr_none, clr_long, va_rf_some, va_rf_none, s2.2.1, k7, n7]
        refine ⟨fun q => absurd q (nI_ge (by omega) (by omega)), fun _ => ⟨rfl, fun q => absurd q (nI_ge (by omega) (by omega)), fun _ => sp_S_at s1 s2 (by omega) hp (by rw [hc]; omega) ?_⟩⟩
        rw [hc]
        simp only [↓s_32_30, ↓s_32_32, ↓s_32_34, ↓s_32_36, ↓s_32_56, ↓s_32_57, ↓s_32_59, kd_uF, ln_uF, ai_uF, al_uF, ar_uF, zs_uF, fd_uF, kd_uA, ln_uA, fd_uA, al_uA, ar_uA, zs_uA, ai_uA, kd_uL, ln_uL, fd_uL, ai_uL, ar_uL, zs_uL, al_uL, kd_uR, ln_uR, fd_uR, ai_uR, al_uR, zs_uR, ar_uR, true_and, and_true, Option.toList_some, Option.toList_none, List.cons_append, List.nil_append, catS_nil, catS_int, catS_ref, catS_null, catS_long, cat_int, cat_ref, cat_null, Nat.reduceEqDiff, Nat.reduceLeDiff, Nat.reduceAdd, false_and, and_false, if_false, if_true, ite_true, ite_false, true_or, or_true, false_or, or_false, and_self, forall_const, true_implies, reduceCtorEq, clr_int, clr_ref, clr_null, clr_none, clr_long, va_rf_some, va_rf_none]
        rw [show (32 : Int32) = nI 32 from rfl, nI_eq (by omega) (by decide)]
        refine ⟨fun _ => sp_N_longer (Nat.lt_of_lt_of_le hbl (by decide)) (by omega) ?_, fun q => by omega⟩
        simp only [↓s_32_62, ↓s_32_63, ↓s_32_66, kd_uF, ln_uF, ai_uF, al_uF, ar_uF, zs_uF, fd_uF, kd_uA, ln_uA, fd_uA, al_uA, ar_uA, zs_uA, ai_uA, kd_uL, ln_uL, fd_uL, ai_uL, ar_uL, zs_uL, al_uL, kd_uR, ln_uR, fd_uR, ai_uR, al_uR, zs_uR, ar_uR, true_and, and_true, Option.toList_some, Option.toList_none, List.cons_append, List.nil_append, catS_nil, catS_int, catS_ref, catS_null, catS_long, cat_int, cat_ref, cat_null, Nat.reduceEqDiff, Nat.reduceLeDiff, Nat.reduceAdd, false_and, and_false, if_false, if_true, ite_true, ite_false, true_or, or_true, false_or, or_false, and_self, forall_const, true_implies, reduceCtorEq, clr_int, clr_ref, clr_null, clr_none, clr_long, va_rf_some, va_rf_none]
        rw [nI_1, ← b256_s]
        exact ih (p + 1) j (l ++ [c]) r v D Wr _ _ (by omega) hd2 (by rw [hw]; simp) hj hC1' f1
  simp only [↓s_32_0, ↓s_32_1, ↓s_32_2, ↓s_32_3, ↓s_32_5, ↓s_32_6, kd_uF, ln_uF, ai_uF, al_uF, ar_uF, zs_uF, fd_uF, kd_uA, ln_uA, fd_uA, al_uA, ar_uA, zs_uA, ai_uA, kd_uL, ln_uL, fd_uL, ai_uL, ar_uL, zs_uL, al_uL, kd_uR, ln_uR, fd_uR, ai_uR, al_uR, zs_uR, ar_uR, true_and, and_true, Option.toList_some, Option.toList_none, List.cons_append, List.nil_append, catS_nil, catS_int, catS_ref, catS_null, catS_long, cat_int, cat_ref, cat_null, Nat.reduceEqDiff, Nat.reduceLeDiff, Nat.reduceAdd, false_and, and_false, if_false, if_true, ite_true, ite_false, true_or, or_true, false_or, or_false, and_self, forall_const, true_implies, reduceCtorEq, clr_int, clr_ref, clr_null, clr_none, clr_long, va_rf_some, va_rf_none]
  cases W with
  | nil => exact fin w 0 0 [] _ rfl (by rw [List.append_nil]; exact hC) Fr.rf
  | cons y W =>
    exact lp _ 0 0 [] y.1 y.2 [] W w _ rfl (by rw [List.drop_zero, flat_cons]) (by simp) rfl (by rw [List.append_nil]; exact hC) Fr.rf
theorem gW_ok : ∀ i, i < 4 → (flat (gWd i)).length < 1000 ∧ ∀ y ∈ gWd i, (∀ c ∈ y.1, isL c = true) ∧ y.1.length ≤ 3 := by decide
theorem sp_N_init {d : Nat} {w : aw} {x z : Nat} {Q : wQ} (hE : SE w z) (hzx : z ≤ x + 4) (kb : kd w (x + 4) = 4) (hz : zs w = x + 5) (hf : ∀ g, g < 10000 → fd w g (x + 4) = dfV g) (h : ∀ w', CB w' x [] → zs w' = x + 7 → Od w w' (x + 4) → Q none w') : wpD (d + 6) 31 [.ref (x + 4)] w Q := by
  refine ⟨Nat.le_of_ble_eq_true rfl, ?_⟩
  show wp (d + 5) 31 Q 0 [some (.ref (x + 4))] [] w 0 0
  obtain ⟨w1, hw1⟩ : ∃ w1, w1 = uF (nw w 22 235) 192 (x + 4) (.ref (zs w)) := ⟨_, rfl⟩
  obtain ⟨w2, hw2⟩ : ∃ w2, w2 = uF (nw w1 20 235) 193 (x + 4) (.ref (zs w1)) := ⟨_, rfl⟩
  have A1 : Ars w1 (x + 4) (x + 5) [(22, 235, 192)] := by rw [hw1]; exact (Ars.nil hz (by omega)).step (fun x hx => by cases hx)
  have A2 : Ars w2 (x + 4) (x + 5) [(22, 235, 192), (20, 235, 193)] := by rw [hw2]; exact A1.step (by decide)
  have B2 : Bs w w2 (x + 4) [192, 193] := by rw [hw2, hw1]; exact Bs.rf.N.F.N.F
  have k0 : kd (nw w 22 235) (x + 4) = 4 := by rw [kd_nw, if_neg (by omega)]; exact kb
  have k1 : kd (nw w1 20 235) (x + 4) = 4 := by rw [kd_nw, if_neg (by have := A1.1; simp at this; omega), hw1]; exact k0
  have k2 : kd w2 (x + 4) = 4 := (B2.2.1 _ (by omega)).1.trans kb
  have O2 : Od w w2 (x + 4) := B2.Od (by omega) (Nat.le_refl _)
  have E2 := hE.od (O2.narrow hzx)
  have z2 : zs w2 = x + 7 := A2.1
  obtain ⟨p1, p2, p3, _, _, _⟩ := A2.2.2 0 _ rfl
  obtain ⟨q1, q2, q3, _, _, _⟩ := A2.2.2 1 _ rfl
  have C2 : CE w2 x [] := ⟨k2, p3, q3, p1, p2, q1, q2, (B2.2.2 (x + 4) _ (by omega) (Or.inr (by decide))).trans (hf _ (by decide)), fun k y hy => by cases hy⟩
  obtain ⟨h0, E2c, E2s⟩ := E2
  obtain ⟨⟨s0, t0, T0⟩, v0, u0, V0⟩ := E2s 0 (by decide)
  obtain ⟨⟨s1, t1, T1⟩, v1, u1, V1⟩ := E2s 1 (by decide)
  obtain ⟨⟨s2, t2, T2⟩, v2, u2, V2⟩ := E2s 2 (by decide)
  obtain ⟨⟨s3, t3, T3⟩, v3, u3, V3⟩ := E2s 3 (by decide)
  have t0' : fd w2 20000 0 = .ref s0 := t0
  have t1' : fd w2 20001 0 = .ref s1 := t1
  have t2' : fd w2 20002 0 = .ref s2 := t2
  have t3' : fd w2 20003 0 = .ref s3 := t3
  have u0' : fd w2 10000 0 = .ref v0 := u0
  have u1' : fd w2 10006 0 = .ref v1 := u1
  have u2' : fd w2 10007 0 = .ref v2 := u2
  have u3' : fd w2 10008 0 = .ref v3 := u3
  have gk := gW_ok
  simp only [↓s_31_0, ↓s_31_1, ↓s_31_4, ↓s_31_5, ↓s_31_8, ↓s_31_10, ↓s_31_13, ↓s_31_14, ↓s_31_17, ↓s_31_19, ↓s_31_22, ↓s_31_23, ↓s_31_25, ↓s_31_28, kd_uF, ln_uF, ai_uF, al_uF, ar_uF, zs_uF, fd_uF, kd_uA, ln_uA, fd_uA, al_uA, ar_uA, zs_uA, ai_uA, kd_uL, ln_uL, fd_uL, ai_uL, ar_uL, zs_uL, al_uL, kd_uR, ln_uR, fd_uR, ai_uR, al_uR, zs_uR, ar_uR, true_and, and_true, Option.toList_some, Option.toList_none, List.cons_append, List.nil_append, catS_nil, catS_int, catS_ref, catS_null, catS_long, cat_int, cat_ref, cat_null, Nat.reduceEqDiff, Nat.reduceLeDiff, Nat.reduceAdd, false_and, and_false, if_false, if_true, ite_true, ite_false, true_or, or_true, false_or, or_false, and_self, forall_const, true_implies, reduceCtorEq, clr_int, clr_ref, clr_null, clr_none, clr_long, va_rf_some, va_rf_none, cl_235, k0, ← hw1, k1, ← hw2, k2, t0', u0']
  refine ⟨by decide, by decide, by decide, by decide, ?_⟩
  clear hw1 hw2
  -- how the start's things are kept
  have kp : ∀ w9, Fr w2 w9 (x + 4) (x + 7) → Od w2 w9 z ∧ (∀ g, fd w9 g 0 = fd w2 g 0) ∧ kd w9 (x + 4) = 4 := by
    intro w9 f9
    have o := FrOd (h := z) f9 hzx
    exact ⟨o, (o 0 h0).2.2.1, (f9.1 _).trans k2⟩
  have sc : ∀ w9, Fr w2 w9 (x + 4) (x + 7) → SEc w9 := by
    intro w9 f9
    obtain ⟨e1, y, e2⟩ := E2c
    exact ⟨((kp w9 f9).2.1 _).trans e1, y, ((kp w9 f9).2.1 _).trans e2⟩
  refine sp_N_addAll (W := gWd 0) E2c T0 V0 h0 hzx C2 (by decide) (gk 0 (by decide)).1 (gk 0 (by decide)).2 (fun w3 C3 f3 => ?_)
  have K3 := kp w3 f3
  simp only [↓s_31_31, ↓s_31_32, ↓s_31_34, ↓s_31_37, kd_uF, ln_uF, ai_uF, al_uF, ar_uF, zs_uF, fd_uF, kd_uA, ln_uA, fd_uA, al_uA, ar_uA, zs_uA, ai_uA, kd_uL, ln_uL, fd_uL, ai_uL, ar_uL, zs_uL, al_uL, kd_uR, ln_uR, fd_uR, ai_uR, al_uR, zs_uR, ar_uR, true_and, and_true, Option.toList_some, Option.toList_none, List.cons_append, List.nil_append, catS_nil, catS_int, catS_ref, catS_null, catS_long, cat_int, cat_ref, cat_null, Nat.reduceEqDiff, Nat.reduceLeDiff, Nat.reduceAdd, false_and, and_false, if_false, if_true, ite_true, ite_false, true_or, or_true, false_or, or_false, and_self, forall_const, true_implies, reduceCtorEq, clr_int, clr_ref, clr_null, clr_none, clr_long, va_rf_some, va_rf_none, K3.2.2, (K3.2.1 _).trans t1', (K3.2.1 _).trans u1']
  refine sp_N_addAll (W := gWd 1) (sc w3 f3) (T1.od K3.1) (V1.od K3.1) h0 hzx C3 (by decide) (gk 1 (by decide)).1 (gk 1 (by decide)).2 (fun w4 C4 f4 => ?_)
  have F4 := f3.tr f4
  have K4 := kp w4 F4
  simp only [↓s_31_40, ↓s_31_41, ↓s_31_43, ↓s_31_46, kd_uF, ln_uF, ai_uF, al_uF, ar_uF, zs_uF, fd_uF, kd_uA, ln_uA, fd_uA, al_uA, ar_uA, zs_uA, ai_uA, kd_uL, ln_uL, fd_uL, ai_uL, ar_uL, zs_uL, al_uL, kd_uR, ln_uR, fd_uR, ai_uR, al_uR, zs_uR, ar_uR, true_and, and_true, Option.toList_some, Option.toList_none, List.cons_append, List.nil_append, catS_nil, catS_int, catS_ref, catS_null, catS_long, cat_int, cat_ref, cat_null, Nat.reduceEqDiff, Nat.reduceLeDiff, Nat.reduceAdd, false_and, and_false, if_false, if_true, ite_true, ite_false, true_or, or_true, false_or, or_false, and_self, forall_const, true_implies, reduceCtorEq, clr_int, clr_ref, clr_null, clr_none, clr_long, va_rf_some, va_rf_none, K4.2.2, (K4.2.1 _).trans t2', (K4.2.1 _).trans u2']
  refine sp_N_addAll (W := gWd 2) (sc w4 F4) (T2.od K4.1) (V2.od K4.1) h0 hzx C4 (by decide) (gk 2 (by decide)).1 (gk 2 (by decide)).2 (fun w5 C5 f5 => ?_)
  have F5 := F4.tr f5
  have K5 := kp w5 F5
  simp only [↓s_31_49, ↓s_31_50, ↓s_31_52, ↓s_31_55, kd_uF, ln_uF, ai_uF, al_uF, ar_uF, zs_uF, fd_uF, kd_uA, ln_uA, fd_uA, al_uA, ar_uA, zs_uA, ai_uA, kd_uL, ln_uL, fd_uL, ai_uL, ar_uL, zs_uL, al_uL, kd_uR, ln_uR, fd_uR, ai_uR, al_uR, zs_uR, ar_uR, true_and, and_true, Option.toList_some, Option.toList_none, List.cons_append, List.nil_append, catS_nil, catS_int, catS_ref, catS_null, catS_long, cat_int, cat_ref, cat_null, Nat.reduceEqDiff, Nat.reduceLeDiff, Nat.reduceAdd, false_and, and_false, if_false, if_true, ite_true, ite_false, true_or, or_true, false_or, or_false, and_self, forall_const, true_implies, reduceCtorEq, clr_int, clr_ref, clr_null, clr_none, clr_long, va_rf_some, va_rf_none, K5.2.2, (K5.2.1 _).trans t3', (K5.2.1 _).trans u3']
  refine sp_N_addAll (W := gWd 3) (sc w5 F5) (T3.od K5.1) (V3.od K5.1) h0 hzx C5 (by decide) (gk 3 (by decide)).1 (gk 3 (by decide)).2 (fun w6 C6 f6 => ?_)
  have F6 := F5.tr f6
  have K6 := kp w6 F6
  simp only [↓s_31_58, ↓s_31_59, ↓s_31_60, ↓s_31_62, kd_uF, ln_uF, ai_uF, al_uF, ar_uF, zs_uF, fd_uF, kd_uA, ln_uA, fd_uA, al_uA, ar_uA, zs_uA, ai_uA, kd_uL, ln_uL, fd_uL, ai_uL, ar_uL, zs_uL, al_uL, kd_uR, ln_uR, fd_uR, ai_uR, al_uR, zs_uR, ar_uR, true_and, and_true, Option.toList_some, Option.toList_none, List.cons_append, List.nil_append, catS_nil, catS_int, catS_ref, catS_null, catS_long, cat_int, cat_ref, cat_null, Nat.reduceEqDiff, Nat.reduceLeDiff, Nat.reduceAdd, false_and, and_false, if_false, if_true, ite_true, ite_false, true_or, or_true, false_or, or_false, and_self, forall_const, true_implies, reduceCtorEq, clr_int, clr_ref, clr_null, clr_none, clr_long, va_rf_some, va_rf_none]
  refine sp_N_longer (a := 0) (c := 73) (by decide) (by decide) ?_
  simp only [↓s_31_65, ↓s_31_66, kd_uF, ln_uF, ai_uF, al_uF, ar_uF, zs_uF, fd_uF, kd_uA, ln_uA, fd_uA, al_uA, ar_uA, zs_uA, ai_uA, kd_uL, ln_uL, fd_uL, ai_uL, ar_uL, zs_uL, al_uL, kd_uR, ln_uR, fd_uR, ai_uR, al_uR, zs_uR, ar_uR, true_and, and_true, Option.toList_some, Option.toList_none, List.cons_append, List.nil_append, catS_nil, catS_int, catS_ref, catS_null, catS_long, cat_int, cat_ref, cat_null, Nat.reduceEqDiff, Nat.reduceLeDiff, Nat.reduceAdd, false_and, and_false, if_false, if_true, ite_true, ite_false, true_or, or_true, false_or, or_false, and_self, forall_const, true_implies, reduceCtorEq, clr_int, clr_ref, clr_null, clr_none, clr_long, va_rf_some, va_rf_none, K6.2.2]
  obtain ⟨e1, e2, e3, e4, e5, e6, e7, e8, e9⟩ := C6
  have C6' : CE w6 x ([] ++ gWd 0 ++ gWd 1 ++ gWd 2 ++ gWd 3) := ⟨e1, e2, e3, e4, e5, e6, e7, e8, e9⟩
  refine sp_c_add (l := [73]) (b := -1) (v := 0) (cnt0 := 34) e1 e2 e3 e4 e5 e6 e7 e8 (by decide) ?_
  simp only [↓s_31_69, kd_uF, ln_uF, ai_uF, al_uF, ar_uF, zs_uF, fd_uF, kd_uA, ln_uA, fd_uA, al_uA, ar_uA, zs_uA, ai_uA, kd_uL, ln_uL, fd_uL, ai_uL, ar_uL, zs_uL, al_uL, kd_uR, ln_uR, fd_uR, ai_uR, al_uR, zs_uR, ar_uR, true_and, and_true, Option.toList_some, Option.toList_none, List.cons_append, List.nil_append, catS_nil, catS_int, catS_ref, catS_null, catS_long, cat_int, cat_ref, cat_null, Nat.reduceEqDiff, Nat.reduceLeDiff, Nat.reduceAdd, false_and, and_false, if_false, if_true, ite_true, ite_false, true_or, or_true, false_or, or_false, and_self, forall_const, true_implies, reduceCtorEq, clr_int, clr_ref, clr_null, clr_none, clr_long, va_rf_some, va_rf_none]
  have C7 := C6'.add (v := 0) (l := [73])
  have F7 : Fr w2 (uF (uA (uL w6 (x + 5) 34 (lN (b256 [73]))) (x + 6) 34 (-1)) 194 (x + 4) (.int (nI 35))) (x + 4) (x + 7) := ((F6.L (by omega) (by omega)).A (by omega) (by omega)).F (by omega) (by omega)
  exact h _ (CE.B C7) (by rw [F7.2.2.1]; exact z2) (O2.tr (FrOd F7 (Nat.le_refl _)))
