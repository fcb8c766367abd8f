theorem UAt.Bs {w w' : aw} {b n c : Nat} {u : us} {F : List Nat} (h : UAt w b n u) (hB : Bs w w' c F) (hz : b + 8 ≤ zs w) (hc : c < b ∨ b + 8 ≤ c) : UAt w' b n u := by
  obtain ⟨h0, h1, h2, h3, h4, h5, h6, s0, s1, s2, s3, s4, s5, s6, s7, s8, s9, m1, m2, m3, f1, f2, f3, p1, p2, p3, li, lo⟩ := h
  have o0 := hB.2.1 b (by omega)
  have o1 := hB.2.1 (b + 1) (by omega)
  have o2 := hB.2.1 (b + 2) (by omega)
  have o3 := hB.2.1 (b + 3) (by omega)
  have eb : ∀ g, fd w' g b = fd w g b := fun g => hB.2.2 b g (by omega) (Or.inl (by omega))
  exact ⟨o0.1.trans h0, (eb _).trans h1, (eb _).trans h2, (eb _).trans h3, (eb _).trans h4, (eb _).trans h5, (eb _).trans h6, (eb _).trans s0, (eb _).trans s1, (eb _).trans s2, (eb _).trans s3, (eb _).trans s4, (eb _).trans s5, (eb _).trans s6, (eb _).trans s7, (eb _).trans s8, (eb _).trans s9, o1.1.trans m1, o1.2.1.trans m2, fun i => (o1.2.2.1 i).trans (m3 i), o2.1.trans f1, o2.2.1.trans f2, fun i => (o2.2.2.1 i).trans (f3 i), o3.1.trans p1, o3.2.1.trans p2, fun i => (o3.2.2.1 i).trans (p3 i), li.Bs hB (by omega) (by omega), lo.Bs hB (by omega) (by omega)⟩
def h00 : hs := ((fun k => if k = 9 then 1 else 0), [], fun _ => u00)
def Od (w w' : aw) (h : Nat) : Prop := ∀ q, q < h → kd w' q = kd w q ∧ ln w' q = ln w q ∧ (∀ g, fd w' g q = fd w g q) ∧ (∀ i, ai w' q i = ai w q i) ∧ (∀ i, al w' q i = al w q i) ∧ (∀ i, ar w' q i = ar w q i)
theorem Od.rf {w : aw} {h : Nat} : Od w w h := fun _ _ => ⟨rfl, rfl, fun _ => rfl, fun _ => rfl, fun _ => rfl, fun _ => rfl⟩
theorem Od.tr {w w1 w2 : aw} {h : Nat} (a : Od w w1 h) (c : Od w1 w2 h) : Od w w2 h := fun q hq => by
  obtain ⟨a1, a2, a3, a4, a5, a6⟩ := a q hq
  obtain ⟨c1, c2, c3, c4, c5, c6⟩ := c q hq
  exact ⟨c1.trans a1, c2.trans a2, fun g => (c3 g).trans (a3 g), fun g => (c4 g).trans (a4 g), fun g => (c5 g).trans (a5 g), fun g => (c6 g).trans (a6 g)⟩
theorem Bs.Od {w w' : aw} {b h : Nat} {F : List Nat} (hB : Bs w w' b F) (h1 : h ≤ zs w) (h2 : h ≤ b) : Od w w' h := fun q hq => by
  have o := hB.2.1 q (by omega)
  exact ⟨o.1, o.2.1, fun g => hB.2.2 q g (by omega) (Or.inl (by omega)), o.2.2.1, o.2.2.2.1, o.2.2.2.2⟩
theorem Od.narrow {w w' : aw} {h k : Nat} (a : Od w w' h) (hk : k ≤ h) : Od w w' k := fun q hq => a q (by omega)
theorem sp_H_init {d : Nat} {w : aw} {h : Nat} {Q : wQ} (kh : kd w h = 2) (hz : zs w = h + 1) (hf : ∀ g, g < 10000 → fd w g h = dfV g) (hQ : ∀ w', CAt w' h h00 0 → zs w' = h + 68 → Od w w' h → (∀ v, ar w' (h + 2) v = none) → Q none w') : wpD (d + 3) 13 [.ref h] w Q := by
  refine ⟨Nat.le_of_ble_eq_true rfl, ?_⟩
  show wp (d + 2) 13 Q 0 [some (.ref h), none] [] w 0 0
  have eC : mC 13 = 67 := by decide +kernel
  have eS : mS 13 = 70096 := by decide +kernel
  have uC : mC 61 = 7 := by decide +kernel
  have uS : mS 61 = 8742 := by decide +kernel
  let Iv : Nat → aw → Prop := fun i w1 => zs w1 = h + 4 + 8 * i ∧ kd w1 h = 2 ∧ (fd w1 64 h = .ref (h + 1) ∧ fd w1 69 h = .ref (h + 2) ∧ fd w1 71 h = .ref (h + 3) ∧ fd w1 72 h = .int 1 ∧ (∀ g, g < 10000 → g ∉ [64, 69, 71, 72] → fd w1 g h = dfV g)) ∧ (kd w1 (h + 1) = 24 ∧ kd w1 (h + 2) = 24 ∧ kd w1 (h + 3) = 24 ∧ ln w1 (h + 1) = 8 ∧ ln w1 (h + 2) = 8 ∧ ln w1 (h + 3) = 8) ∧ ((∀ v, v < i → ar w1 (h + 1) v = some (ub h v)) ∧ (∀ v, ar w1 (h + 2) v = none) ∧ (∀ v, ar w1 (h + 3) v = none)) ∧ (∀ v, v < i → UAt w1 (ub h v) v u00 ∧ fd w1 396 (ub h v) = .int 0) ∧ Od w w1 h
  have lp : ∀ (j i : Nat) (w1 : aw), i + j = 8 → Iv i w1 → wp (d + 2) 13 Q 38 [some (.ref h), some (.int (nI i))] [] w1 (3 + 8 * i) (24 + 8759 * i) := by
    intro j
    induction j with
    | zero =>
      intro i w1 hi hv
      have e8 : i = 8 := by omega
      subst e8
      obtain ⟨z1, k1, ⟨f1, f2, f3, f4, f5⟩, ⟨a1, a2, a3, b1, b2, b3⟩, ⟨r1, r2, r3⟩, us, od⟩ := hv
      rw [s_13_38]
      simp only [↓s_13_39, ↓s_13_40, ↓s_13_43, ↓s_13_44, ↓s_13_67, kd_uF, ln_uF, ai_uF, al_uF, ar_uF, zs_uF, fd_uF, kd_uA, ln_uA, fd_uA, al_uA, ar_uA, zs_uA, ai_uA, kd_uL, ln_uL, fd_uL, ai_uL, ar_uL, zs_uL, al_uL, kd_uR, ln_uR, fd_uR, ai_uR, al_uR, zs_uR, ar_uR, true_and, and_true, Option.toList_some, Option.toList_none, List.cons_append, List.nil_append, catS_nil, catS_int, catS_ref, catS_null, catS_long, cat_int, cat_ref, cat_null, Nat.reduceEqDiff, Nat.reduceLeDiff, Nat.reduceAdd, false_and, and_false, if_false, if_true, ite_true, ite_false, true_or, or_true, false_or, or_false, and_self, forall_const, true_implies, reduceCtorEq, clr_int, clr_ref, clr_null, clr_none, clr_long, va_rf_some, va_rf_none, k1, f1, a1, b1]
      refine ⟨rfl, fun _ => ?_, fun q => absurd (by decide) q⟩
      have dd := fun g h1 h2 => f5 g h1 h2
      refine hQ w1 ⟨⟨k1, f1, f2, f3, a1, a2, a3, b1, b2, b3, r1⟩, ⟨dd _ (by decide) (by decide), dd _ (by decide) (by decide), dd _ (by decide) (by decide), dd _ (by decide) (by decide), dd _ (by decide) (by decide), dd _ (by decide) (by decide), dd _ (by decide) (by decide), dd _ (by decide) (by decide), f4, dd _ (by decide) (by decide)⟩, dd _ (by decide) (by decide), ⟨dd _ (by decide) (by decide), fun i hi => absurd hi (Nat.not_lt_zero _), fun i q hq => by rw [r2] at hq; cases hq⟩, fun t t1 t2 => Or.inr ⟨r3 t, fun v' => by show (0 : Nat) ≠ t; omega⟩, fun v hv => ⟨(us v hv).1, (us v hv).2⟩⟩ (by omega) od r2
    | succ j ih =>
      intro i w1 hi hv
      obtain ⟨z1, k1, ⟨f1, f2, f3, f4, f5⟩, ⟨a1, a2, a3, b1, b2, b3⟩, ⟨r1, r2, r3⟩, us, od⟩ := hv
      have eu : zs w1 = ub h i := by rw [z1]; rfl
      rw [s_13_38]
      simp only [↓s_13_39, ↓s_13_40, ↓s_13_43, ↓s_13_44, ↓s_13_47, ↓s_13_48, ↓s_13_51, ↓s_13_52, ↓s_13_55, ↓s_13_56, ↓s_13_57, kd_uF, ln_uF, ai_uF, al_uF, ar_uF, zs_uF, fd_uF, kd_uA, ln_uA, fd_uA, al_uA, ar_uA, zs_uA, ai_uA, kd_uL, ln_uL, fd_uL, ai_uL, ar_uL, zs_uL, al_uL, kd_uR, ln_uR, fd_uR, ai_uR, al_uR, zs_uR, ar_uR, true_and, and_true, Option.toList_some, Option.toList_none, List.cons_append, List.nil_append, catS_nil, catS_int, catS_ref, catS_null, catS_long, cat_int, cat_ref, cat_null, Nat.reduceEqDiff, Nat.reduceLeDiff, Nat.reduceAdd, false_and, and_false, if_false, if_true, ite_true, ite_false, true_or, or_true, false_or, or_false, and_self, forall_const, true_implies, reduceCtorEq, clr_int, clr_ref, clr_null, clr_none, clr_long, va_rf_some, va_rf_none, k1, f1, a1, b1]
      refine ⟨rfl, fun q => absurd q (nI_ge (b := 8) (by omega) (by decide)), fun _ => ⟨by omega, by omega, ?_⟩⟩
      refine alc_go (c := 7) (s := 8742) (by rw [uC]; omega) uC uS (by rw [eC]; omega) (by rw [eS]; omega) ?_
      obtain ⟨w2, hw2⟩ : ∃ w2, w2 = nw w1 7 0 := ⟨_, rfl⟩
      rw [← hw2, eu]
      have z2 : zs w2 = ub h i + 1 := by rw [hw2, zs_nw, eu]
      have k2 : kd w2 (ub h i) = 7 := by rw [hw2, kd_nw, if_pos eu.symm]
      have d2 : ∀ g, g < 10000 → fd w2 g (ub h i) = dfV g := fun g hg => by rw [hw2, ← eu]; exact nw_new hg
      have B2 : Bs w1 w2 0 [] := by rw [hw2]; exact Bs.rf.N
      refine sp_U_init k2 z2 d2 (fun w3 u3 t3 z3 B3 => ?_)
      have K := B2.other B3 (by omega)
      have hub : ub h i = h + 4 + 8 * i := rfl
      have o0 := K.2.1 h (by omega)
      have o1 := K.2.1 (h + 1) (by omega)
      have o2 := K.2.1 (h + 2) (by omega)
      have o3 := K.2.1 (h + 3) (by omega)
      have ef : ∀ q g, q < zs w1 → fd w3 g q = fd w1 g q := fun q g hq => K.2.2 q g hq (Or.inr (by simp))
      have k3 : kd w3 (ub h i) = 7 := u3.1
      simp only [↓s_13_60, ↓s_13_60n, ↓s_13_61, ↓s_13_64, kd_uF, ln_uF, ai_uF, al_uF, ar_uF, zs_uF, fd_uF, kd_uA, ln_uA, fd_uA, al_uA, ar_uA, zs_uA, ai_uA, kd_uL, ln_uL, fd_uL, ai_uL, ar_uL, zs_uL, al_uL, kd_uR, ln_uR, fd_uR, ai_uR, al_uR, zs_uR, ar_uR, true_and, and_true, Option.toList_some, Option.toList_none, List.cons_append, List.nil_append, catS_nil, catS_int, catS_ref, catS_null, catS_long, cat_int, cat_ref, cat_null, Nat.reduceEqDiff, Nat.reduceLeDiff, Nat.reduceAdd, false_and, and_false, if_false, if_true, ite_true, ite_false, true_or, or_true, false_or, or_false, and_self, forall_const, true_implies, reduceCtorEq, clr_int, clr_ref, clr_null, clr_none, clr_long, va_rf_some, va_rf_none, o1.1.trans a1, o1.2.1.trans b1, clN (show i < 2147483648 by omega)]
      rw [nI_1]
      refine ⟨inR_nI (by omega) (by decide), fun q hq => by cases hq; exact k3, ?_⟩
      have := ih (i + 1) (uR w3 (h + 1) i (some (ub h i))) (by omega) ⟨by rw [zs_uR, z3, hub]; omega, o0.1.trans k1, ⟨(ef h _ (by omega)).trans f1, (ef h _ (by omega)).trans f2, (ef h _ (by omega)).trans f3, (ef h _ (by omega)).trans f4, fun g h1 h2 => (ef h g (by omega)).trans (f5 g h1 h2)⟩, ⟨o1.1.trans a1, o2.1.trans a2, o3.1.trans a3, o1.2.1.trans b1, o2.2.1.trans b2, o3.2.1.trans b3⟩, ⟨fun v hv => ?_, fun v => ?_, fun v => ?_⟩, fun v hv => ?_, ?_⟩
      · rw [show 3 + 8 * (i + 1) = 3 + 8 * i + 1 + 7 by omega, show 24 + 8759 * (i + 1) = 24 + 8759 * i + 17 + 8742 by omega] at this
        exact this
      · rw [ar_uR]
        by_cases c : v = i
        · rw [if_pos ⟨rfl, c⟩, c]
        · rw [if_neg (fun z => c z.2), o1.2.2.2.2]; exact r1 v (by omega)
      · rw [ar_uR, if_neg (by omega), o2.2.2.2.2]; exact r2 v
      · rw [ar_uR, if_neg (by omega), o3.2.2.2.2]; exact r3 v
      · by_cases c : v = i
        · subst c; exact ⟨u3, t3⟩
        · have hv' : v < i := by omega
          have hub' : ub h v = h + 4 + 8 * v := rfl
          have U3 : UAt w3 (ub h v) v u00 := (us v hv').1.Bs K (by omega) (by omega)
          exact ⟨U3, (ef (ub h v) _ (by omega)).trans (us v hv').2⟩
      · have O : Od w w3 h := od.tr (fun q hq => by
          have o := K.2.1 q (by omega)
          exact ⟨o.1, o.2.1, fun g => ef q g (by omega), o.2.2.1, o.2.2.2.1, o.2.2.2.2⟩)
        intro q hq
        obtain ⟨c1, c2, c3, c4, c5, c6⟩ := O q hq
        exact ⟨c1, c2, c3, c4, c5, fun j => by rw [ar_uR, if_neg (by omega)]; exact c6 j⟩
  obtain ⟨w1, hw1⟩ : ∃ w1, w1 = uF (nw w 24 8) 64 h (.ref (zs w)) := ⟨_, rfl⟩
  obtain ⟨w2, hw2⟩ : ∃ w2, w2 = uF (nw w1 24 8) 69 h (.ref (zs w1)) := ⟨_, rfl⟩
  obtain ⟨w3, hw3⟩ : ∃ w3, w3 = uF (nw w2 24 8) 71 h (.ref (zs w2)) := ⟨_, rfl⟩
  have A1 : Ars w1 h (h + 1) [(24, 8, 64)] := by rw [hw1]; exact (Ars.nil hz (by omega)).step (fun x hx => by cases hx)
  have A2 : Ars w2 h (h + 1) [(24, 8, 64), (24, 8, 69)] := by rw [hw2]; exact A1.step (by decide)
  have A3 : Ars w3 h (h + 1) [(24, 8, 64), (24, 8, 69), (24, 8, 71)] := by rw [hw3]; exact A2.step (by decide)
  have B3 : Bs w w3 h [64, 69, 71] := by rw [hw3, hw2, hw1]; exact Bs.rf.N.F.N.F.N.F
  have k0 : kd (nw w 24 8) h = 2 := by rw [kd_nw, if_neg (by omega)]; exact kh
  have k1 : kd (nw w1 24 8) h = 2 := by rw [kd_nw, if_neg (by have := A1.1; simp at this; omega), hw1]; exact k0
  have k2 : kd (nw w2 24 8) h = 2 := by rw [kd_nw, if_neg (by have := A2.1; simp at this; omega), hw2]; exact k1
  have k3 : kd w3 h = 2 := (B3.2.1 h (by omega)).1.trans kh
  simp only [↓s_13_0, ↓s_13_1, ↓s_13_4, ↓s_13_5, ↓s_13_7, ↓s_13_10, ↓s_13_13, ↓s_13_14, ↓s_13_16, ↓s_13_19, ↓s_13_22, ↓s_13_23, ↓s_13_25, ↓s_13_28, ↓s_13_31, ↓s_13_32, ↓s_13_33, ↓s_13_36, ↓s_13_37, kd_uF, ln_uF, ai_uF, al_uF, ar_uF, zs_uF, fd_uF, kd_uA, ln_uA, fd_uA, al_uA, ar_uA, zs_uA, ai_uA, kd_uL, ln_uL, fd_uL, ai_uL, ar_uL, zs_uL, al_uL, kd_uR, ln_uR, fd_uR, ai_uR, al_uR, zs_uR, ar_uR, true_and, and_true, Option.toList_some, Option.toList_none, List.cons_append, List.nil_append, catS_nil, catS_int, catS_ref, catS_null, catS_long, cat_int, cat_ref, cat_null, Nat.reduceEqDiff, Nat.reduceLeDiff, Nat.reduceAdd, false_and, and_false, if_false, if_true, ite_true, ite_false, true_or, or_true, false_or, or_false, and_self, forall_const, true_implies, reduceCtorEq, clr_int, clr_ref, clr_null, clr_none, clr_long, va_rf_some, va_rf_none, cl_8, k0, ← hw1, k1, ← hw2, k2, ← hw3, k3]
  have z3 : zs w3 = h + 4 := A3.1
  have B4 : Bs w (uF w3 72 h (.int 1)) h [64, 69, 71, 72] := B3.F
  obtain ⟨p1, p2, p3, _, _, p6⟩ := A3.2.2 0 _ rfl
  obtain ⟨q1, q2, q3, _, _, q6⟩ := A3.2.2 1 _ rfl
  obtain ⟨r1, r2, r3, _, _, r6⟩ := A3.2.2 2 _ rfl
  refine ⟨by decide, by decide, by decide, by decide, by decide, by decide, lp 8 0 _ (by omega) ⟨z3, k3, ⟨?_, ?_, ?_, by rw [fd_uF, if_pos ⟨rfl, rfl⟩], fun g h1 h2 => (B4.2.2 h g (by omega) (Or.inr h2)).trans (hf g h1)⟩, ⟨p1, q1, r1, p2, q2, r2⟩, ⟨fun v hv => absurd hv (Nat.not_lt_zero _), q6, r6⟩, fun v hv => absurd hv (Nat.not_lt_zero _), B4.Od (by omega) (Nat.le_refl _)⟩⟩
  · rw [fd_uF, if_neg (fun z => absurd z.1 (by decide))]; exact p3
  · rw [fd_uF, if_neg (fun z => absurd z.1 (by decide))]; exact q3
  · rw [fd_uF, if_neg (fun z => absurd z.1 (by decide))]; exact r3
theorem sp_T_init {d : Nat} {w : aw} {b : Nat} {Q : wQ} (kb : kd w b = 6) (hz : zs w = b + 1) (hf : ∀ g, g < 10000 → fd w g b = dfV g) (h : ∀ w', kd w' b = 6 → fd w' 320 b = .ref (b + 1) → fd w' 321 b = .int 0 → kd w' (b + 1) = 21 → ln w' (b + 1) = 8000 → (∀ i, ai w' (b + 1) i = 0) → zs w' = b + 2 → Od w w' b → Q none w') : wpD (d + 1) 56 [.ref b] w Q := by
  refine ⟨Nat.le_of_ble_eq_true rfl, ?_⟩
  show wp d 56 Q 0 [some (.ref b)] [] w 0 0
  have kn : kd (nw w 21 8000) b = 6 := by rw [kd_nw, if_neg (by omega)]; exact kb
  simp only [↓s_56_0, ↓s_56_1, ↓s_56_4, ↓s_56_5, ↓s_56_8, ↓s_56_10, ↓s_56_13, kd_uF, ln_uF, ai_uF, al_uF, ar_uF, zs_uF, fd_uF, kd_uA, ln_uA, fd_uA, al_uA, ar_uA, zs_uA, ai_uA, kd_uL, ln_uL, fd_uL, ai_uL, ar_uL, zs_uL, al_uL, kd_uR, ln_uR, fd_uR, ai_uR, al_uR, zs_uR, ar_uR, true_and, and_true, Option.toList_some, Option.toList_none, List.cons_append, List.nil_append, catS_nil, catS_int, catS_ref, catS_null, catS_long, cat_int, cat_ref, cat_null, Nat.reduceEqDiff, Nat.reduceLeDiff, Nat.reduceAdd, false_and, and_false, if_false, if_true, ite_true, ite_false, true_or, or_true, false_or, or_false, and_self, forall_const, true_implies, reduceCtorEq, clr_int, clr_ref, clr_null, clr_none, clr_long, va_rf_some, va_rf_none, cl_8000, kn]
  refine ⟨by decide, by decide, ?_⟩
  have A := (Ars.nil (b := b) hz (by omega)).step (k := 21) (n := 8000) (f := 320) (fun x hx => by cases hx)
  have B : Bs w (uF (nw w 21 8000) 320 b (.ref (zs w))) b ([] ++ [320]) := Bs.rf.N.F
  obtain ⟨a1, a2, a3, a4, _, _⟩ := A.2.2 0 _ rfl
  exact h _ ((B.2.1 b (by omega)).1.trans kb) a3 ((B.2.2 b _ (by omega) (Or.inr (by decide))).trans (hf _ (by decide))) a1 a2 a4 A.1 (B.Od (by omega) (Nat.le_refl _))
