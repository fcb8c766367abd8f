def FrY (w w' : aw) (x : Nat) : Prop := FrX w w' x ∧ ∀ q, (x + 4 ≤ q ∧ q < x + 7) ∨ q = x + 11 → (∀ g, fd w' g q = fd w g q) ∧ (∀ i, ai w' q i = ai w q i) ∧ (∀ i, al w' q i = al w q i)
theorem FrY.rf {w : aw} {x : Nat} : FrY w w x := ⟨FrX.rf, fun _ _ => ⟨fun _ => rfl, fun _ => rfl, fun _ => rfl⟩⟩
theorem FrY.tr {w w1 w2 : aw} {x : Nat} (h : FrY w w1 x) (g : FrY w1 w2 x) : FrY w w2 x := ⟨h.1.tr g.1, fun q hq => ⟨fun k => ((g.2 q hq).1 k).trans ((h.2 q hq).1 k), fun i => ((g.2 q hq).2.1 i).trans ((h.2 q hq).2.1 i), fun i => ((g.2 q hq).2.2 i).trans ((h.2 q hq).2.2 i)⟩⟩
theorem FrY.D {w w' : aw} {x g : Nat} {v : Value} (h : FrY w w' x) (hg : g = 8 ∨ g = 6) : FrY w (uF w' g (x + 3) v) x :=
  ⟨h.1.D hg, fun q hq => ⟨fun k => by rw [fd_uF, if_neg (fun z => by omega)]; exact (h.2 q hq).1 k, (h.2 q hq).2.1, (h.2 q hq).2.2⟩⟩
theorem FrY.A {w w' : aw} {x k i : Nat} {v : Int32} (h : FrY w w' x) (h1 : 7 ≤ k) (h2 : k ≤ 10) : FrY w (uA w' (x + k) i v) x :=
  ⟨h.1.A h1 h2, fun q hq => ⟨(h.2 q hq).1, fun j => by rw [ai_uA, if_neg (fun z => by omega)]; exact (h.2 q hq).2.1 j, (h.2 q hq).2.2⟩⟩
theorem CB.Y {w w' : aw} {x : Nat} {t : nt} (h : CB w x t) (hF : FrY w w' x) : CB w' x t := by
  obtain ⟨a1, a2, a3, a4, a5, a6, a7, a8, a9⟩ := h
  have o4 := hF.2 (x + 4) (by omega)
  have o5 := hF.2 (x + 5) (by omega)
  have o6 := hF.2 (x + 6) (by omega)
  have f := hF.1.1
  exact ⟨(f.1 _).trans a1, (o4.1 _).trans a2, (o4.1 _).trans a3, (f.1 _).trans a4, (f.2.1 _).trans a5, (f.1 _).trans a6, (f.2.1 _).trans a7, (o4.1 _).trans a8, fun k y hy => ⟨(o5.2.2 _).trans (a9 k y hy).1, (o6.2.1 _).trans (a9 k y hy).2⟩⟩
theorem ASh.X {w w' : aw} {x : Nat} (h : ASh w x) (hF : FrX w w' x) : ASh w' x := by
  obtain ⟨a0, a1, a2, a3, a4, a5, a6, a7, b1, b2, b3, b4, b5, b6, b7, b8⟩ := h
  obtain ⟨f1, f2, f3, f4⟩ := hF
  exact ⟨(f1.1 _).trans a0, (f2 _ (by decide) (by decide)).trans a1, (f2 _ (by decide) (by decide)).trans a2, (f2 _ (by decide) (by decide)).trans a3, (f2 _ (by decide) (by decide)).trans a4, (f2 _ (by decide) (by decide)).trans a5, (f2 _ (by decide) (by decide)).trans a6, (f2 _ (by decide) (by decide)).trans a7, (f1.1 _).trans b1, (f1.1 _).trans b2, (f1.1 _).trans b3, (f1.1 _).trans b4, (f1.2.1 _).trans b5, (f1.2.1 _).trans b6, (f1.2.1 _).trans b7, (f1.2.1 _).trans b8⟩
theorem sp_c_put {d : Nat} {w : aw} {x a v : Nat} {S : ps} {Q : wQ} (hA : ASh w x) (hW : CW w x S) (hI : PI S) (ha : a < 4096) (h1 : S.2.1 a = none → ∀ w', (∀ dd, CW w' x (dd, va_up S.2.1 a (some v), S.2.2.1 ++ [a], S.2.2.2)) → FrY w w' x → (∀ g, g ≠ 6 → fd w' g (x + 3) = fd w g (x + 3)) → Q (some (.int 1)) w') (h2 : ∀ y, S.2.1 a = some y → Q (some (.int 0)) w) : wpD (d + 1) 11 [.ref (x + 3), .int (nI a), .int (nI v)] w Q := by
  refine ⟨Nat.le_of_ble_eq_true rfl, ?_⟩
  show wp d 11 Q 0 [some (.ref (x + 3)), some (.int (nI a)), some (.int (nI v)), none] [] w 0 0
  have hm : nI a &&& 4095 = nI a := by rw [mask12, Nat.mod_eq_of_lt ha]
  have ca : (nI a).toNatClampNeg = a := clN (by omega)
  have nb : vp_nar .boolean (1 : Int32) = 1 := by decide
  have hin : inR (nI a) 4096 := inR_nI ha (by decide)
  obtain ⟨a0, a1, a2, a3, a4, a5, a6, a7, b1, b2, b3, b4, b5, b6, b7, b8⟩ := hA
  obtain ⟨c1, c2, c3, c4, c5⟩ := hW
  have hl := hI.len
  simp only [↓s_11_0, ↓s_11_1, ↓s_11_4, ↓s_11_5, ↓s_11_6, ↓s_11_7, ↓s_11_10, ↓s_11_11, ↓s_11_12, ↓s_11_15, ↓s_11_16, ↓s_11_19, ↓s_11_22, ↓s_11_25, ↓s_11_26, ↓s_11_27, ↓s_11_28, ↓s_11_31, ↓s_11_32, ↓s_11_33, ↓s_11_34, ↓s_11_35, ↓s_11_38, ↓s_11_39, ↓s_11_40, ↓s_11_41, ↓s_11_42, ↓s_11_45, ↓s_11_46, ↓s_11_49, ↓s_11_50, ↓s_11_51, ↓s_11_52, ↓s_11_53, ↓s_11_56, ↓s_11_57, ↓s_11_58, ↓s_11_61, ↓s_11_62, kd_uF, ln_uF, ai_uF, al_uF, ar_uF, zs_uF, fd_uF, kd_uA, ln_uA, fd_uA, al_uA, ar_uA, zs_uA, ai_uA, kd_uL, ln_uL, fd_uL, ai_uL, ar_uL, zs_uL, al_uL, kd_uR, ln_uR, fd_uR, ai_uR, al_uR, zs_uR, ar_uR, true_and, and_true, Option.toList_some, Option.toList_none, List.cons_append, List.nil_append, catS_nil, catS_int, catS_ref, catS_null, catS_long, cat_int, cat_ref, cat_null, Nat.reduceEqDiff, Nat.reduceLeDiff, Nat.reduceAdd, false_and, and_false, if_false, if_true, ite_true, ite_false, true_or, or_true, false_or, or_false, and_self, forall_const, true_implies, reduceCtorEq, clr_int, clr_ref, clr_null, clr_none, clr_long, va_rf_some, va_rf_none, a0, a4, a5, a6, b1, b2, b3, b5, b6, b7, hm, ca, nb, c1, c3 a ha, clN (show S.2.2.1.length < 2147483648 by omega)]
  cases e : S.2.1 a with
  | some y =>
    exact ⟨hin, fun _ => ⟨rfl, h2 y e⟩, fun q => absurd q (show ¬ (1 : Int32) = 0 by decide)⟩
  | none =>
    have hr := hI.room ha e
    refine ⟨hin, fun q => absurd rfl q, fun _ => ⟨fun _ => ⟨hin, hin, inR_nI hr (by decide), ?_⟩, fun q => absurd (nI_lt (b := 4096) hr (by decide)) q⟩⟩
    rw [nI_1]
    refine ⟨rfl, h1 e _ (fun dd => ⟨?_, fun i hi => ?_, fun b hb => ?_, fun b y hb => ?_, fun g hg => ?_⟩) ((((FrY.rf.A (by omega) (by omega)).A (by omega) (by omega)).A (by omega) (by omega)).D (Or.inr rfl)) (fun g hg => by rw [fd_uF, if_neg (fun z => hg z.1)]; rfl)⟩
    · rw [fd_uF, if_pos ⟨rfl, rfl⟩, List.length_append]; rfl
    · have hi' : i < (S.2.2.1 ++ [a]).length := hi
      rw [List.length_append] at hi'
      show _ = nI ((S.2.2.1 ++ [a]).getD i 0)
      rw [ai_uF, ai_uA]
      by_cases c : i = S.2.2.1.length
      · rw [if_pos ⟨rfl, c⟩, c]; simp
      · have hlt : i < S.2.2.1.length := by simp at hi'; omega
        rw [if_neg (fun z => c z.2), ai_uA, if_neg (by omega), ai_uA, if_neg (by omega), c2 i hlt]
        simp [List.getD_eq_getElem?_getD, List.getElem?_append_left hlt]
    · show _ = if (va_up S.2.1 a (some v) b).isSome = true then 1 else 0
      rw [ai_uF, ai_uA, if_neg (by omega), ai_uA, if_neg (by omega), ai_uA]
      unfold va_up
      by_cases c : b = a
      · rw [if_pos ⟨rfl, c⟩, if_pos c]; rfl
      · rw [if_neg (fun z => c z.2), if_neg c]; exact c3 b hb
    · have hb' : va_up S.2.1 a (some v) b = some y := hb
      unfold va_up at hb'
      rw [ai_uF, ai_uA, if_neg (by omega), ai_uA]
      by_cases c : b = a
      · rw [if_pos c] at hb'
        cases hb'
        rw [if_pos ⟨rfl, c⟩]
      · rw [if_neg c] at hb'
        rw [if_neg (fun z => c z.2), ai_uA, if_neg (by omega)]
        exact c4 b y hb'
    · rw [ai_uF, ai_uA, if_neg (by omega), ai_uA, if_neg (by omega), ai_uA, if_neg (by omega)]
      exact c5 g hg
def CO (w w' : aw) (x : Nat) (r : Nat × ps) : Prop := FrY w w' x ∧ (∃ S, CW w' x S ∧ PI S) ∧ (r.1 = 0 → CW w' x r.2 ∧ PI r.2 ∧ fd w' 8 (x + 3) = .int (nI r.2.1))
theorem sp_c_putN {d : Nat} {w : aw} {x v : Nat} {S : ps} {Q : wQ} (hA : ASh w x) (hW : CW w x S) (hI : PI S) (hD : fd w 8 (x + 3) = .int (nI S.1)) (hv : v < 4096) (h : ∀ w', CO w w' x (putN S v) → Q (some (.int (nI (putN S v).1))) w') : wpD (d + 2) 10 [.ref (x + 3), .int (nI v)] w Q := by
  refine ⟨Nat.le_of_ble_eq_true rfl, ?_⟩
  show wp (d + 1) 10 Q 0 [some (.ref (x + 3)), some (.int (nI v)), none] [] w 0 0
  have hd := hI.1
  simp only [↓s_10_0, ↓s_10_1, ↓s_10_2, ↓s_10_5, ↓s_10_6, kd_uF, ln_uF, ai_uF, al_uF, ar_uF, zs_uF, fd_uF, kd_uA, ln_uA, fd_uA, al_uA, ar_uA, zs_uA, ai_uA, kd_uL, ln_uL, fd_uL, ai_uL, ar_uL, zs_uL, al_uL, kd_uR, ln_uR, fd_uR, ai_uR, al_uR, zs_uR, ar_uR, true_and, and_true, Option.toList_some, Option.toList_none, List.cons_append, List.nil_append, catS_nil, catS_int, catS_ref, catS_null, catS_long, cat_int, cat_ref, cat_null, Nat.reduceEqDiff, Nat.reduceLeDiff, Nat.reduceAdd, false_and, and_false, if_false, if_true, ite_true, ite_false, true_or, or_true, false_or, or_false, and_self, forall_const, true_implies, reduceCtorEq, clr_int, clr_ref, clr_null, clr_none, clr_long, va_rf_some, va_rf_none, hA.1, hD]
  refine sp_c_put hA hW hI hd (fun e w1 g1 g2 g3 => ?_) (fun y e => ?_)
  · have a0 := (hA.X g2.1).1
    have D1 := (g3 _ (by decide)).trans hD
    rw [putN_some e] at h
    simp only [↓s_10_9, ↓s_10_10, ↓s_10_11, ↓s_10_12, ↓s_10_15, ↓s_10_16, ↓s_10_17, ↓s_10_20, ↓s_10_21, ↓s_10_24, ↓s_10_25, ↓s_10_28, ↓s_10_29, ↓s_10_32, ↓s_10_33, kd_uF, ln_uF, ai_uF, al_uF, ar_uF, zs_uF, fd_uF, kd_uA, ln_uA, fd_uA, al_uA, ar_uA, zs_uA, ai_uA, kd_uL, ln_uL, fd_uL, ai_uL, ar_uL, zs_uL, al_uL, kd_uR, ln_uR, fd_uR, ai_uR, al_uR, zs_uR, ar_uR, true_and, and_true, Option.toList_some, Option.toList_none, List.cons_append, List.nil_append, catS_nil, catS_int, catS_ref, catS_null, catS_long, cat_int, cat_ref, cat_null, Nat.reduceEqDiff, Nat.reduceLeDiff, Nat.reduceAdd, false_and, and_false, if_false, if_true, ite_true, ite_false, true_or, or_true, false_or, or_false, and_self, forall_const, true_implies, reduceCtorEq, clr_int, clr_ref, clr_null, clr_none, clr_long, va_rf_some, va_rf_none, a0, D1]
    rw [nI_1, m12 (by omega)]
    refine ⟨fun q => absurd q (by decide), fun _ => h _ ⟨g2.D (Or.inl rfl), ?_, fun _ => ?_⟩⟩
    · exact ⟨((S.1 + 1) % 4096, va_up S.2.1 S.1 (some v), S.2.2.1 ++ [S.1], S.2.2.2), (g1 _).kept (by rw [fd_uF, if_neg (fun z => absurd z.1 (by decide))]) (fun _ _ _ _ => rfl), hI.put hd hv (Nat.mod_lt _ (by decide)) e⟩
    · exact ⟨(g1 _).kept (by rw [fd_uF, if_neg (fun z => absurd z.1 (by decide))]) (fun _ _ _ _ => rfl), hI.put hd hv (Nat.mod_lt _ (by decide)) e, by rw [fd_uF, if_pos ⟨rfl, rfl⟩]⟩
  · rw [putN_none e] at h
    simp only [↓s_10_9, ↓s_10_10, ↓s_10_11, ↓s_10_12, ↓s_10_15, ↓s_10_16, ↓s_10_17, ↓s_10_20, ↓s_10_21, ↓s_10_24, ↓s_10_25, ↓s_10_28, ↓s_10_29, ↓s_10_32, ↓s_10_33, kd_uF, ln_uF, ai_uF, al_uF, ar_uF, zs_uF, fd_uF, kd_uA, ln_uA, fd_uA, al_uA, ar_uA, zs_uA, ai_uA, kd_uL, ln_uL, fd_uL, ai_uL, ar_uL, zs_uL, al_uL, kd_uR, ln_uR, fd_uR, ai_uR, al_uR, zs_uR, ar_uR, true_and, and_true, Option.toList_some, Option.toList_none, List.cons_append, List.nil_append, catS_nil, catS_int, catS_ref, catS_null, catS_long, cat_int, cat_ref, cat_null, Nat.reduceEqDiff, Nat.reduceLeDiff, Nat.reduceAdd, false_and, and_false, if_false, if_true, ite_true, ite_false, true_or, or_true, false_or, or_false, and_self, forall_const, true_implies, reduceCtorEq, clr_int, clr_ref, clr_null, clr_none, clr_long, va_rf_some, va_rf_none, hA.1, hD]
    refine ⟨h _ ⟨FrY.rf.D (Or.inl rfl), ⟨S, hW.kept (by rw [fd_uF, if_neg (fun z => absurd z.1 (by decide))]) (fun _ _ _ _ => rfl), hI⟩, fun q => absurd (show (5 : Nat) = 0 from q) (by decide)⟩, fun q => absurd trivial q⟩
theorem sp_c_lit {d : Nat} {w : aw} {x v : Nat} {S : ps} {Q : wQ} (hA : ASh w x) (hW : CW w x S) (hI : PI S) (hD : fd w 8 (x + 3) = .int (nI S.1)) (hv : v < 4096) (h1 : ∀ a S' w', litP S v = some (a, S') → a < 4096 → PI S' → CW w' x S' → FrY w w' x → (∀ g, g ≠ 6 → fd w' g (x + 3) = fd w g (x + 3)) → Q (some (.int (nI a))) w') (h2 : litP S v = none → Q (some (.int (-1))) w) : wpD (d + 2) 9 [.ref (x + 3), .int (nI v)] w Q := by
  refine ⟨Nat.le_of_ble_eq_true rfl, ?_⟩
  show wp (d + 1) 9 Q 0 [some (.ref (x + 3)), some (.int (nI v)), none, none, none, none] [] w 0 0
  have hA0 := hA
  have hW0 := hW
  have hd := hI.1
  obtain ⟨a0, a1, a2, a3, a4, a5, a6, a7, b1, b2, b3, b4, b5, b6, b7, b8⟩ := hA
  obtain ⟨c1, c2, c3, c4, c5⟩ := hW
  have hLn := (hI.2.2.2.2.1 (S.1 / 128)).1
  have hLl := (hI.2.2.2.2.1 (S.1 / 128)).2
  have hLw := hI.2.2.2.2.2 (S.1 / 128)
  have hg : S.1 / 128 < 32 := by omega
  have e1 : nI S.1 >>> ((7 : Int32) &&& 31) &&& 31 = nI (S.1 / 128) := by
    rw [pk_shrN (by omega) _ 7 (by decide), pk_andN (m := 31) (by omega) 5 (by decide), Nat.mod_eq_of_lt (by omega)]
  have e2 : nI S.1 &&& 3968 ||| 127 = nI (S.1 / 128 * 128 + 127) := by
    rw [page hd, show S.1 / 128 * 128 = 2 ^ 7 * (S.1 / 128) by omega, show (127 : Int32) = nI 127 from rfl, or_add (k := 7) (by decide)]
  have cg : (nI (S.1 / 128)).toNatClampNeg = S.1 / 128 := clN (by omega)
  have j88 : ∀ (A : Option Value), litP S v = none → wp (d + 1) 9 Q 88 [some (.ref (x + 3)), some (.int (nI v)), some (.int (nI (S.1 / 128))), some (.int (nI (S.1 / 128 * 128 + 127))), some (.int (nI (S.2.2.2 (S.1 / 128)).length)), A] [] w 0 0 := by
    intro A e
    simp only [↓s_9_88, ↓s_9_89, kd_uF, ln_uF, ai_uF, al_uF, ar_uF, zs_uF, fd_uF, kd_uA, ln_uA, fd_uA, al_uA, ar_uA, zs_uA, ai_uA, kd_uL, ln_uL, fd_uL, ai_uL, ar_uL, zs_uL, al_uL, kd_uR, ln_uR, fd_uR, ai_uR, al_uR, zs_uR, ar_uR, true_and, and_true, Option.toList_some, Option.toList_none, List.cons_append, List.nil_append, catS_nil, catS_int, catS_ref, catS_null, catS_long, cat_int, cat_ref, cat_null, Nat.reduceEqDiff, Nat.reduceLeDiff, Nat.reduceAdd, false_and, and_false, if_false, if_true, ite_true, ite_false, true_or, or_true, false_or, or_false, and_self, forall_const, true_implies, reduceCtorEq, clr_int, clr_ref, clr_null, clr_none, clr_long, va_rf_some, va_rf_none]
    exact h2 e
  have j69 : ∀ (A : Option Value), (∀ i (hi : i < (S.2.2.2 (S.1 / 128)).length), (S.2.2.2 (S.1 / 128))[i] ≠ v) → wp (d + 1) 9 Q 69 [some (.ref (x + 3)), some (.int (nI v)), some (.int (nI (S.1 / 128))), some (.int (nI (S.1 / 128 * 128 + 127))), some (.int (nI (S.2.2.2 (S.1 / 128)).length)), A] [] w 0 0 := by
    intro A hn
    have hf := fidx_none hn
    simp only [↓s_9_69, ↓s_9_71, ↓s_9_73, ↓s_9_76, ↓s_9_77, ↓s_9_78, ↓s_9_80, ↓s_9_81, ↓s_9_82, kd_uF, ln_uF, ai_uF, al_uF, ar_uF, zs_uF, fd_uF, kd_uA, ln_uA, fd_uA, al_uA, ar_uA, zs_uA, ai_uA, kd_uL, ln_uL, fd_uL, ai_uL, ar_uL, zs_uL, al_uL, kd_uR, ln_uR, fd_uR, ai_uR, al_uR, zs_uR, ar_uR, true_and, and_true, Option.toList_some, Option.toList_none, List.cons_append, List.nil_append, catS_nil, catS_int, catS_ref, catS_null, catS_long, cat_int, cat_ref, cat_null, Nat.reduceEqDiff, Nat.reduceLeDiff, Nat.reduceAdd, false_and, and_false, if_false, if_true, ite_true, ite_false, true_or, or_true, false_or, or_false, and_self, forall_const, true_implies, reduceCtorEq, clr_int, clr_ref, clr_null, clr_none, clr_long, va_rf_some, va_rf_none, a0]
    rw [show (127 : Int32) = nI 127 from rfl, nI_ltI (by decide) (by omega)]
    refine ⟨fun q => j88 _ ?_, fun q => ?_⟩
    · unfold litP; rw [hf]; dsimp only; rw [if_pos (by omega)]
    · rw [pk_sub (by omega)]
      refine sp_c_put hA0 hW0 hI (by omega) (fun e w1 g1 g2 g3 => ?_) (fun y e => ?_)
      · have el : litP S v = some (S.1 / 128 * 128 + 127 - (S.2.2.2 (S.1 / 128)).length, (S.1, va_up S.2.1 (S.1 / 128 * 128 + 127 - (S.2.2.2 (S.1 / 128)).length) (some v), S.2.2.1 ++ [S.1 / 128 * 128 + 127 - (S.2.2.2 (S.1 / 128)).length], va_up S.2.2.2 (S.1 / 128) (S.2.2.2 (S.1 / 128) ++ [v]))) := by
          unfold litP put1; rw [hf]; dsimp only; rw [if_neg (by omega), e]
        have hP := hI.lit hv hf (by omega) e
        obtain ⟨d0, d1, d2, d3, d4, d5, d6, d7, f1, f2, f3, f4, f5, f6, f7, f8⟩ := hA0.X g2.1
        have W1 := g1 S.1
        simp only [↓s_9_85, ↓s_9_88, ↓s_9_89, ↓s_9_90, ↓s_9_91, ↓s_9_94, ↓s_9_95, ↓s_9_97, ↓s_9_98, ↓s_9_99, ↓s_9_100, ↓s_9_101, ↓s_9_103, ↓s_9_104, kd_uF, ln_uF, ai_uF, al_uF, ar_uF, zs_uF, fd_uF, kd_uA, ln_uA, fd_uA, al_uA, ar_uA, zs_uA, ai_uA, kd_uL, ln_uL, fd_uL, ai_uL, ar_uL, zs_uL, al_uL, kd_uR, ln_uR, fd_uR, ai_uR, al_uR, zs_uR, ar_uR, true_and, and_true, Option.toList_some, Option.toList_none, List.cons_append, List.nil_append, catS_nil, catS_int, catS_ref, catS_null, catS_long, cat_int, cat_ref, cat_null, Nat.reduceEqDiff, Nat.reduceLeDiff, Nat.reduceAdd, false_and, and_false, if_false, if_true, ite_true, ite_false, true_or, or_true, false_or, or_false, and_self, forall_const, true_implies, reduceCtorEq, clr_int, clr_ref, clr_null, clr_none, clr_long, va_rf_some, va_rf_none, d0, d7, f4, f8, cg]
        rw [nI_1]
        refine ⟨fun _ => ⟨inR_nI hg (by decide), ?_⟩, fun q => absurd q (by decide)⟩
        rw [pk_sub (by omega)]
        obtain ⟨k1, k2, k3, k4, k5⟩ := W1
        refine h1 _ _ _ el (by omega) hP ⟨k1, fun i hi => ?_, fun b hb => ?_, fun b y hb => ?_, fun g hg' => ?_⟩ (g2.A (by omega) (by omega)) (fun g hg' => g3 g hg')
        · rw [ai_uA, if_neg (by omega)]; exact k2 i hi
        · rw [ai_uA, if_neg (by omega)]; exact k3 b hb
        · rw [ai_uA, if_neg (by omega)]; exact k4 b y hb
        · show _ = nI (va_up S.2.2.2 (S.1 / 128) (S.2.2.2 (S.1 / 128) ++ [v]) g).length
          rw [ai_uA]
          unfold va_up
          by_cases c : g = S.1 / 128
          · rw [if_pos ⟨rfl, c⟩, if_pos c, List.length_append]; rfl
          · rw [if_neg (fun z => c z.2), if_neg c]; exact k5 g hg'
      · simp only [↓s_9_85, ↓s_9_88, ↓s_9_89, ↓s_9_90, ↓s_9_91, ↓s_9_94, ↓s_9_95, ↓s_9_97, ↓s_9_98, ↓s_9_99, ↓s_9_100, ↓s_9_101, ↓s_9_103, ↓s_9_104, kd_uF, ln_uF, ai_uF, al_uF, ar_uF, zs_uF, fd_uF, kd_uA, ln_uA, fd_uA, al_uA, ar_uA, zs_uA, ai_uA, kd_uL, ln_uL, fd_uL, ai_uL, ar_uL, zs_uL, al_uL, kd_uR, ln_uR, fd_uR, ai_uR, al_uR, zs_uR, ar_uR, true_and, and_true, Option.toList_some, Option.toList_none, List.cons_append, List.nil_append, catS_nil, catS_int, catS_ref, catS_null, catS_long, cat_int, cat_ref, cat_null, Nat.reduceEqDiff, Nat.reduceLeDiff, Nat.reduceAdd, false_and, and_false, if_false, if_true, ite_true, ite_false, true_or, or_true, false_or, or_false, and_self, forall_const, true_implies, reduceCtorEq, clr_int, clr_ref, clr_null, clr_none, clr_long, va_rf_some, va_rf_none]
        refine ⟨fun q => absurd trivial q, h2 ?_⟩
        unfold litP put1; rw [hf]; dsimp only; rw [if_neg (by omega), e]
  have lp : ∀ (j i : Nat), i + j = (S.2.2.2 (S.1 / 128)).length → (∀ k (hk : k < (S.2.2.2 (S.1 / 128)).length), k < i → (S.2.2.2 (S.1 / 128))[k] ≠ v) → wp (d + 1) 9 Q 34 [some (.ref (x + 3)), some (.int (nI v)), some (.int (nI (S.1 / 128))), some (.int (nI (S.1 / 128 * 128 + 127))), some (.int (nI (S.2.2.2 (S.1 / 128)).length)), some (.int (nI i))] [] w 0 0 := by
    intro j
    induction j with
    | zero =>
      intro i hi hn
      have := j69 (some (.int (nI i))) (fun k hk => hn k hk (by omega))
      rw [s_9_34]
      simp only [↓s_9_36, ↓s_9_38, kd_uF, ln_uF, ai_uF, al_uF, ar_uF, zs_uF, fd_uF, kd_uA, ln_uA, fd_uA, al_uA, ar_uA, zs_uA, ai_uA, kd_uL, ln_uL, fd_uL, ai_uL, ar_uL, zs_uL, al_uL, kd_uR, ln_uR, fd_uR, ai_uR, al_uR, zs_uR, ar_uR, true_and, and_true, Option.toList_some, Option.toList_none, List.cons_append, List.nil_append, catS_nil, catS_int, catS_ref, catS_null, catS_long, cat_int, cat_ref, cat_null, Nat.reduceEqDiff, Nat.reduceLeDiff, Nat.reduceAdd, false_and, and_false, if_false, if_true, ite_true, ite_false, true_or, or_true, false_or, or_false, and_self, forall_const, true_implies, reduceCtorEq, clr_int, clr_ref, clr_null, clr_none, clr_long, va_rf_some, va_rf_none]
      exact ⟨fun _ => this, fun q => absurd (nI_le (by omega) (by omega)) q⟩
    | succ j ih =>
      intro i hi hn
      have hil : i < (S.2.2.2 (S.1 / 128)).length := by omega
      have hx := hLw i hg hil
      have hxb := hI.2.2.2.1 _ _ hx
      have em : nI (S.1 / 128 * 128 + 127) - nI i &&& 4095 = nI (S.1 / 128 * 128 + 127 - i) := by
        rw [pk_sub (by omega), mask12, Nat.mod_eq_of_lt (by omega)]
      rw [s_9_34]
      simp only [↓s_9_36, ↓s_9_38, ↓s_9_41, ↓s_9_42, ↓s_9_45, ↓s_9_46, ↓s_9_48, ↓s_9_49, ↓s_9_52, ↓s_9_53, ↓s_9_54, ↓s_9_55, ↓s_9_58, ↓s_9_59, ↓s_9_61, ↓s_9_62, ↓s_9_63, ↓s_9_66, kd_uF, ln_uF, ai_uF, al_uF, ar_uF, zs_uF, fd_uF, kd_uA, ln_uA, fd_uA, al_uA, ar_uA, zs_uA, ai_uA, kd_uL, ln_uL, fd_uL, ai_uL, ar_uL, zs_uL, al_uL, kd_uR, ln_uR, fd_uR, ai_uR, al_uR, zs_uR, ar_uR, true_and, and_true, Option.toList_some, Option.toList_none, List.cons_append, List.nil_append, catS_nil, catS_int, catS_ref, catS_null, catS_long, cat_int, cat_ref, cat_null, Nat.reduceEqDiff, Nat.reduceLeDiff, Nat.reduceAdd, false_and, and_false, if_false, if_true, ite_true, ite_false, true_or, or_true, false_or, or_false, and_self, forall_const, true_implies, reduceCtorEq, clr_int, clr_ref, clr_null, clr_none, clr_long, va_rf_some, va_rf_none, a0, a4, b1, b5, em, clN (show S.1 / 128 * 128 + 127 - i < 2147483648 by omega), c4 _ _ hx]
      rw [nI_eq (by omega) (by omega), nI_1]
      refine ⟨fun q => absurd q (nI_ge (by omega) (by omega)), fun _ => ⟨inR_nI (by omega) (by decide), fun q => ih (i + 1) (by omega) (fun k hk hki => ?_), fun q => ?_⟩⟩
      · by_cases c : k = i
        · subst c; exact q
        · exact hn k hk (by omega)
      · rw [pk_sub (by omega)]
        refine h1 _ S w ?_ (by omega) hI hW0 FrY.rf (fun _ _ => rfl)
        unfold litP
        rw [fidx_some hLn hil q]
  simp only [↓s_9_0, ↓s_9_1, ↓s_9_4, ↓s_9_6, ↓s_9_7, ↓s_9_9, ↓s_9_10, ↓s_9_11, ↓s_9_12, ↓s_9_15, ↓s_9_18, ↓s_9_19, ↓s_9_21, ↓s_9_22, ↓s_9_23, ↓s_9_24, ↓s_9_27, ↓s_9_28, ↓s_9_29, ↓s_9_31, ↓s_9_32, kd_uF, ln_uF, ai_uF, al_uF, ar_uF, zs_uF, fd_uF, kd_uA, ln_uA, fd_uA, al_uA, ar_uA, zs_uA, ai_uA, kd_uL, ln_uL, fd_uL, ai_uL, ar_uL, zs_uL, al_uL, kd_uR, ln_uR, fd_uR, ai_uR, al_uR, zs_uR, ar_uR, true_and, and_true, Option.toList_some, Option.toList_none, List.cons_append, List.nil_append, catS_nil, catS_int, catS_ref, catS_null, catS_long, cat_int, cat_ref, cat_null, Nat.reduceEqDiff, Nat.reduceLeDiff, Nat.reduceAdd, false_and, and_false, if_false, if_true, ite_true, ite_false, true_or, or_true, false_or, or_false, and_self, forall_const, true_implies, reduceCtorEq, clr_int, clr_ref, clr_null, clr_none, clr_long, va_rf_some, va_rf_none, a0, a7, b4, b8, hD, e1, e2, cg, c5 _ hg]
  exact ⟨inR_nI hg (by decide), lp (S.2.2.2 (S.1 / 128)).length 0 (by omega) (fun k hk hki => absurd hki (Nat.not_lt_zero _))⟩
theorem op_w {mi : Nat} {by_ : Bool} (h : mi < 6) : nI mi <<< ((9 : Int32) &&& 31) ||| (if by_ = true then 256 else 0) = nI (512 * mi + (if by_ = true then 256 else 0)) := by
  rw [pk_shlN _ 9 (by decide) (by omega), show mi * 2 ^ 9 = 2 ^ 9 * mi by omega]
  cases by_ with
  | true => exact or_add (k := 9) (a := mi) (b := 256) (by decide)
  | false => exact or_add (k := 9) (a := mi) (b := 0) (by decide)
theorem sp_c_putM {d : Nat} {w : aw} {x v mi : Nat} {li by_ : Bool} {S : ps} {r : Nat × ps} {Q : wQ} (hA : ASh w x) (kr : kd w (x + 11) = 5) (hW : CW w x S) (hI : PI S) (hD : fd w 8 (x + 3) = .int (nI S.1)) (hv : v < 4096) (hm : mi < 6) (fl : fd w 265 (x + 11) = .int (bI li)) (fv : fd w 266 (x + 11) = .int (nI v)) (fo : fd w 263 (x + 11) = .int (nI mi)) (fi : fd w 264 (x + 11) = .int (bI by_)) (hr : r = match (if li = true then litP S v else some (v, S)) with | none => (5, S) | some (a, S') => if 128 ≤ a ∧ a / 128 ≠ S.1 / 128 then (4, S') else putN S' (wd mi by_ a)) (h : ∀ w', CO w w' x r → Q (some (.int (nI r.1))) w') : wpD (d + 3) 8 [.ref (x + 3)] w Q := by
  refine ⟨Nat.le_of_ble_eq_true rfl, ?_⟩
  show wp (d + 2) 8 Q 0 [some (.ref (x + 3)), none, none, none] [] w 0 0
  have hd := hI.1
  have a0 := hA.1
  have a3 := hA.2.2.2.1
  have j31 : ∀ (w1 : aw) (a : Nat) (S' : ps), a < 4096 → S'.1 = S.1 → CW w1 x S' → PI S' → FrY w w1 x → fd w1 8 (x + 3) = .int (nI S.1) → r = (if 128 ≤ a ∧ a / 128 ≠ S.1 / 128 then (4, S') else putN S' (wd mi by_ a)) → wp (d + 2) 8 Q 31 [some (.ref (x + 3)), none, none, none] [.int (nI a)] w1 0 0 := by
    intro w1 a S' ha eS hW1 hI1 f1 D1 er
    have hA1 := hA.X f1.1
    have b0 := hA1.1
    have b3 := hA1.2.2.2.1
    have kr1 : kd w1 (x + 11) = 5 := (f1.1.1.1 _).trans kr
    have o11 := f1.2 (x + 11) (Or.inr rfl)
    have fo1 : fd w1 263 (x + 11) = .int (nI mi) := (o11.1 _).trans fo
    have fi1 : fd w1 264 (x + 11) = .int (bI by_) := (o11.1 _).trans fi
    -- the word
    have j72 : ∀ b : Bool, b = decide (a < 128) → ¬ (128 ≤ a ∧ a / 128 ≠ S.1 / 128) → wp (d + 2) 8 Q 72 [some (.ref (x + 3)), some (.int (nI a)), some (.int (bI b)), none] [] w1 0 0 := by
      intro b hb hno
      rw [if_neg hno] at er
      have j119 : ∀ y, y = (if a < 128 then nI a else 128 ||| nI a &&& 127) → wp (d + 2) 8 Q 119 [some (.ref (x + 3)), some (.int (nI a)), some (.int (bI b)), some (.int (nI (512 * mi + (if by_ = true then 256 else 0))))] [.int y, .int (nI (512 * mi + (if by_ = true then 256 else 0))), .ref (x + 3)] w1 0 0 := by
        intro y hy
        subst hy
        simp only [↓s_8_119, ↓s_8_120, kd_uF, ln_uF, ai_uF, al_uF, ar_uF, zs_uF, fd_uF, kd_uA, ln_uA, fd_uA, al_uA, ar_uA, zs_uA, ai_uA, kd_uL, ln_uL, fd_uL, ai_uL, ar_uL, zs_uL, al_uL, kd_uR, ln_uR, fd_uR, ai_uR, al_uR, zs_uR, ar_uR, true_and, and_true, Option.toList_some, Option.toList_none, List.cons_append, List.nil_append, catS_nil, catS_int, catS_ref, catS_null, catS_long, cat_int, cat_ref, cat_null, Nat.reduceEqDiff, Nat.reduceLeDiff, Nat.reduceAdd, false_and, and_false, if_false, if_true, ite_true, ite_false, true_or, or_true, false_or, or_false, and_self, forall_const, true_implies, reduceCtorEq, clr_int, clr_ref, clr_null, clr_none, clr_long, va_rf_some, va_rf_none, b0]
        rw [wd_or ha]
        refine sp_c_putN hA1 hW1 hI1 (by rw [eS]; exact D1) (wd_lt hm) (fun w2 hO => ?_)
        simp only [↓s_8_123, kd_uF, ln_uF, ai_uF, al_uF, ar_uF, zs_uF, fd_uF, kd_uA, ln_uA, fd_uA, al_uA, ar_uA, zs_uA, ai_uA, kd_uL, ln_uL, fd_uL, ai_uL, ar_uL, zs_uL, al_uL, kd_uR, ln_uR, fd_uR, ai_uR, al_uR, zs_uR, ar_uR, true_and, and_true, Option.toList_some, Option.toList_none, List.cons_append, List.nil_append, catS_nil, catS_int, catS_ref, catS_null, catS_long, cat_int, cat_ref, cat_null, Nat.reduceEqDiff, Nat.reduceLeDiff, Nat.reduceAdd, false_and, and_false, if_false, if_true, ite_true, ite_false, true_or, or_true, false_or, or_false, and_self, forall_const, true_implies, reduceCtorEq, clr_int, clr_ref, clr_null, clr_none, clr_long, va_rf_some, va_rf_none]
        rw [← er] at hO ⊢
        exact h w2 ⟨f1.tr hO.1, hO.2⟩
      have j99 : ∀ z, z = (if by_ = true then (256 : Int32) else 0) → wp (d + 2) 8 Q 99 [some (.ref (x + 3)), some (.int (nI a)), some (.int (bI b)), none] [.int z, .int (nI mi <<< ((9 : Int32) &&& 31))] w1 0 0 := by
        intro z hz
        subst hz
        simp only [↓s_8_99, ↓s_8_100, ↓s_8_101, ↓s_8_102, ↓s_8_103, ↓s_8_104, ↓s_8_107, ↓s_8_108, ↓s_8_111, ↓s_8_114, ↓s_8_115, ↓s_8_117, ↓s_8_118, kd_uF, ln_uF, ai_uF, al_uF, ar_uF, zs_uF, fd_uF, kd_uA, ln_uA, fd_uA, al_uA, ar_uA, zs_uA, ai_uA, kd_uL, ln_uL, fd_uL, ai_uL, ar_uL, zs_uL, al_uL, kd_uR, ln_uR, fd_uR, ai_uR, al_uR, zs_uR, ar_uR, true_and, and_true, Option.toList_some, Option.toList_none, List.cons_append, List.nil_append, catS_nil, catS_int, catS_ref, catS_null, catS_long, cat_int, cat_ref, cat_null, Nat.reduceEqDiff, Nat.reduceLeDiff, Nat.reduceAdd, false_and, and_false, if_false, if_true, ite_true, ite_false, true_or, or_true, false_or, or_false, and_self, forall_const, true_implies, reduceCtorEq, clr_int, clr_ref, clr_null, clr_none, clr_long, va_rf_some, va_rf_none]
        rw [op_w hm]
        cases b with
        | true =>
          have hlt : a < 128 := of_decide_eq_true hb.symm
          exact ⟨fun q => absurd q (by decide), fun _ => j119 _ (by rw [if_pos hlt])⟩
        | false =>
          have hlt : ¬ a < 128 := of_decide_eq_false hb.symm
          exact ⟨fun _ => j119 _ (by rw [if_neg hlt]), fun q => absurd rfl q⟩
      simp only [↓s_8_72, ↓s_8_73, ↓s_8_76, ↓s_8_79, ↓s_8_81, ↓s_8_82, ↓s_8_83, ↓s_8_86, ↓s_8_89, ↓s_8_92, ↓s_8_95, ↓s_8_98, kd_uF, ln_uF, ai_uF, al_uF, ar_uF, zs_uF, fd_uF, kd_uA, ln_uA, fd_uA, al_uA, ar_uA, zs_uA, ai_uA, kd_uL, ln_uL, fd_uL, ai_uL, ar_uL, zs_uL, al_uL, kd_uR, ln_uR, fd_uR, ai_uR, al_uR, zs_uR, ar_uR, true_and, and_true, Option.toList_some, Option.toList_none, List.cons_append, List.nil_append, catS_nil, catS_int, catS_ref, catS_null, catS_long, cat_int, cat_ref, cat_null, Nat.reduceEqDiff, Nat.reduceLeDiff, Nat.reduceAdd, false_and, and_false, if_false, if_true, ite_true, ite_false, true_or, or_true, false_or, or_false, and_self, forall_const, true_implies, reduceCtorEq, clr_int, clr_ref, clr_null, clr_none, clr_long, va_rf_some, va_rf_none, b0, b3, kr1, fo1, fi1]
      cases by_ with
      | true => exact ⟨fun q => absurd q (by decide), fun _ => j99 _ rfl⟩
      | false => exact ⟨fun _ => j99 _ rfl, fun q => absurd rfl q⟩
    simp only [↓s_8_31, ↓s_8_32, ↓s_8_33, ↓s_8_36, ↓s_8_37, ↓s_8_38, ↓s_8_39, ↓s_8_41, ↓s_8_44, ↓s_8_45, ↓s_8_48, ↓s_8_49, ↓s_8_50, ↓s_8_51, ↓s_8_54, ↓s_8_55, ↓s_8_58, ↓s_8_59, ↓s_8_60, ↓s_8_63, ↓s_8_66, ↓s_8_67, ↓s_8_70, ↓s_8_71, kd_uF, ln_uF, ai_uF, al_uF, ar_uF, zs_uF, fd_uF, kd_uA, ln_uA, fd_uA, al_uA, ar_uA, zs_uA, ai_uA, kd_uL, ln_uL, fd_uL, ai_uL, ar_uL, zs_uL, al_uL, kd_uR, ln_uR, fd_uR, ai_uR, al_uR, zs_uR, ar_uR, true_and, and_true, Option.toList_some, Option.toList_none, List.cons_append, List.nil_append, catS_nil, catS_int, catS_ref, catS_null, catS_long, cat_int, cat_ref, cat_null, Nat.reduceEqDiff, Nat.reduceLeDiff, Nat.reduceAdd, false_and, and_false, if_false, if_true, ite_true, ite_false, true_or, or_true, false_or, or_false, and_self, forall_const, true_implies, reduceCtorEq, clr_int, clr_ref, clr_null, clr_none, clr_long, va_rf_some, va_rf_none, b0, D1]
    rw [show (127 : Int32) = nI 127 from rfl, nI_ltI (by decide) (by omega), page ha, page hd, nI_eq (by omega) (by omega)]
    refine ⟨fun _ => ⟨fun q => ⟨fun z => absurd trivial z, fun q2 => j72 false (by rw [decide_eq_false (by omega)]) (by omega), fun q2 => ?_⟩, fun q => ⟨fun _ => j72 true (by rw [decide_eq_true (by omega)]) (by omega), fun z => absurd z (by decide)⟩⟩, fun q => absurd (nI_pos' (by omega)) q⟩
    rw [if_pos (by omega)] at er
    have := h w1 ⟨f1, ⟨S', hW1, hI1⟩, fun z => by rw [er] at z; cases z⟩
    rw [er] at this
    exact this
  simp only [↓s_8_0, ↓s_8_1, ↓s_8_4, ↓s_8_7, ↓s_8_10, ↓s_8_11, ↓s_8_12, ↓s_8_15, ↓s_8_18, ↓s_8_24, ↓s_8_25, ↓s_8_28, kd_uF, ln_uF, ai_uF, al_uF, ar_uF, zs_uF, fd_uF, kd_uA, ln_uA, fd_uA, al_uA, ar_uA, zs_uA, ai_uA, kd_uL, ln_uL, fd_uL, ai_uL, ar_uL, zs_uL, al_uL, kd_uR, ln_uR, fd_uR, ai_uR, al_uR, zs_uR, ar_uR, true_and, and_true, Option.toList_some, Option.toList_none, List.cons_append, List.nil_append, catS_nil, catS_int, catS_ref, catS_null, catS_long, cat_int, cat_ref, cat_null, Nat.reduceEqDiff, Nat.reduceLeDiff, Nat.reduceAdd, false_and, and_false, if_false, if_true, ite_true, ite_false, true_or, or_true, false_or, or_false, and_self, forall_const, true_implies, reduceCtorEq, clr_int, clr_ref, clr_null, clr_none, clr_long, va_rf_some, va_rf_none, a0, a3, kr, fl, fv]
  cases li with
  | true =>
    rw [if_pos rfl] at hr
    refine ⟨fun q => absurd q (by decide), fun _ => sp_c_lit hA hW hI hD hv (fun a S' w1 c1 c2 c3 c4 c5 c6 => ?_) (fun c1 => ?_)⟩
    · rw [c1] at hr
      simp only [↓s_8_21, kd_uF, ln_uF, ai_uF, al_uF, ar_uF, zs_uF, fd_uF, kd_uA, ln_uA, fd_uA, al_uA, ar_uA, zs_uA, ai_uA, kd_uL, ln_uL, fd_uL, ai_uL, ar_uL, zs_uL, al_uL, kd_uR, ln_uR, fd_uR, ai_uR, al_uR, zs_uR, ar_uR, true_and, and_true, Option.toList_some, Option.toList_none, List.cons_append, List.nil_append, catS_nil, catS_int, catS_ref, catS_null, catS_long, cat_int, cat_ref, cat_null, Nat.reduceEqDiff, Nat.reduceLeDiff, Nat.reduceAdd, false_and, and_false, if_false, if_true, ite_true, ite_false, true_or, or_true, false_or, or_false, and_self, forall_const, true_implies, reduceCtorEq, clr_int, clr_ref, clr_null, clr_none, clr_long, va_rf_some, va_rf_none]
      exact j31 w1 a S' c2 (lit_dot c1) c4 c3 c5 ((c6 _ (by decide)).trans hD) hr
    · rw [c1] at hr
      simp only [↓s_8_21, ↓s_8_31, ↓s_8_32, ↓s_8_33, ↓s_8_36, ↓s_8_37, ↓s_8_38, ↓s_8_39, ↓s_8_41, ↓s_8_44, ↓s_8_45, ↓s_8_48, kd_uF, ln_uF, ai_uF, al_uF, ar_uF, zs_uF, fd_uF, kd_uA, ln_uA, fd_uA, al_uA, ar_uA, zs_uA, ai_uA, kd_uL, ln_uL, fd_uL, ai_uL, ar_uL, zs_uL, al_uL, kd_uR, ln_uR, fd_uR, ai_uR, al_uR, zs_uR, ar_uR, true_and, and_true, Option.toList_some, Option.toList_none, List.cons_append, List.nil_append, catS_nil, catS_int, catS_ref, catS_null, catS_long, cat_int, cat_ref, cat_null, Nat.reduceEqDiff, Nat.reduceLeDiff, Nat.reduceAdd, false_and, and_false, if_false, if_true, ite_true, ite_false, true_or, or_true, false_or, or_false, and_self, forall_const, true_implies, reduceCtorEq, clr_int, clr_ref, clr_null, clr_none, clr_long, va_rf_some, va_rf_none]
      have e5 : r = (5, S) := hr
      have := h w ⟨FrY.rf, ⟨S, hW, hI⟩, fun z => by rw [e5] at z; cases z⟩
      rw [e5] at this
      exact ⟨fun q => absurd q (by decide), fun _ => this⟩
  | false =>
    rw [if_neg (by decide)] at hr
    exact ⟨fun _ => j31 w v S hv rfl hW hI FrY.rf hD hr, fun q => absurd rfl q⟩
