theorem alc_z {y z cn sn : Nat} {K : Nat → Nat → Prop} (h0 : mC z = 0 ∧ mS z = 0) (k : K cn sn) : alc y z cn sn K := by
  unfold alc
  rw [if_pos h0]; exact k
theorem sp_Rd_init {d : Nat} {w : aw} {b p q : Nat} {Q : wQ} (kb : kd w b = 5) (h : Q none (uF (uF w 256 b (.ref p)) 257 b (.ref q))) : wpD (d + 1) 39 [.ref b, .ref p, .ref q] w Q := by
  refine ⟨Nat.le_of_ble_eq_true rfl, ?_⟩
  show wp d 39 Q 0 [some (.ref b), some (.ref p), some (.ref q)] [] w 0 0
  simp only [↓s_39_0, ↓s_39_1, ↓s_39_4, ↓s_39_5, ↓s_39_5n, ↓s_39_6, ↓s_39_6n, ↓s_39_9, ↓s_39_10, ↓s_39_10n, ↓s_39_11, ↓s_39_11n, ↓s_39_14, kd_uF, ln_uF, ai_uF, al_uF, ar_uF, zs_uF, fd_uF, kd_uA, ln_uA, fd_uA, al_uA, ar_uA, zs_uA, ai_uA, kd_uL, ln_uL, fd_uL, ai_uL, ar_uL, zs_uL, al_uL, kd_uR, ln_uR, fd_uR, ai_uR, al_uR, zs_uR, ar_uR, true_and, and_true, Option.toList_some, Option.toList_none, List.cons_append, List.nil_append, catS_nil, catS_int, catS_ref, catS_null, catS_long, cat_int, cat_ref, cat_null, Nat.reduceEqDiff, Nat.reduceLeDiff, Nat.reduceAdd, false_and, and_false, if_false, if_true, ite_true, ite_false, true_or, or_true, false_or, or_false, and_self, forall_const, true_implies, reduceCtorEq, clr_int, clr_ref, clr_null, clr_none, clr_long, va_rf_some, va_rf_none, kb]
  exact h
theorem CB.od {w w' : aw} {x z : Nat} {t : nt} (h : CB w x t) (o : Od w w' z) (hz : x + 7 ≤ z) : CB w' x t := by
  obtain ⟨a1, a2, a3, a4, a5, a6, a7, a8, a9⟩ := h
  have o4 := o (x + 4) (by omega)
  have o5 := o (x + 5) (by omega)
  have o6 := o (x + 6) (by omega)
  exact ⟨o4.1.trans a1, (o4.2.2.1 _).trans a2, (o4.2.2.1 _).trans a3, o5.1.trans a4, o5.2.1.trans a5, o6.1.trans a6, o6.2.1.trans a7, (o4.2.2.1 _).trans a8, fun k y hy => ⟨(o5.2.2.2.2.1 _).trans (a9 k y hy).1, (o6.2.2.2.1 _).trans (a9 k y hy).2⟩⟩
theorem CB.bs {w w' : aw} {x : Nat} {t : nt} {F : List Nat} (h : CB w x t) (hB : Bs w w' (x + 3) F) (hz : x + 7 ≤ zs w) : CB w' x t := by
  obtain ⟨a1, a2, a3, a4, a5, a6, a7, a8, a9⟩ := h
  have o4 := hB.2.1 (x + 4) (by omega)
  have o5 := hB.2.1 (x + 5) (by omega)
  have o6 := hB.2.1 (x + 6) (by omega)
  have e4 : ∀ g, fd w' g (x + 4) = fd w g (x + 4) := fun g => hB.2.2 _ g (by omega) (Or.inl (by omega))
  exact ⟨o4.1.trans a1, (e4 _).trans a2, (e4 _).trans a3, o5.1.trans a4, o5.2.1.trans a5, o6.1.trans a6, o6.2.1.trans a7, (e4 _).trans a8, fun k y hy => ⟨(o5.2.2.2.1 _).trans (a9 k y hy).1, (o6.2.2.1 _).trans (a9 k y hy).2⟩⟩
theorem ASh.od {w w' : aw} {x z : Nat} (h : ASh w x) (o : Od w w' z) (hz : x + 11 ≤ z) : ASh w' x := by
  obtain ⟨a0, a1, a2, a3, a4, a5, a6, a7, b1, b2, b3, b4, b5, b6, b7, b8⟩ := h
  have o3 := o (x + 3) (by omega)
  have o7 := o (x + 7) (by omega)
  have o8 := o (x + 8) (by omega)
  have o9 := o (x + 9) (by omega)
  have o10 := o (x + 10) (by omega)
  exact ⟨o3.1.trans a0, (o3.2.2.1 _).trans a1, (o3.2.2.1 _).trans a2, (o3.2.2.1 _).trans a3, (o3.2.2.1 _).trans a4, (o3.2.2.1 _).trans a5, (o3.2.2.1 _).trans a6, (o3.2.2.1 _).trans a7, o7.1.trans b1, o8.1.trans b2, o9.1.trans b3, o10.1.trans b4, o7.2.1.trans b5, o8.2.1.trans b6, o9.2.1.trans b7, o10.2.1.trans b8⟩
theorem CW.od {w w' : aw} {x z : Nat} {S : ps} (h : CW w x S) (o : Od w w' z) (hz : x + 11 ≤ z) : CW w' x S :=
  h.kept ((o (x + 3) (by omega)).2.2.1 _) (fun k i a b => (o (x + k) (by omega)).2.2.2.1 i)
theorem sp_A_init {d : Nat} {w : aw} {x z : Nat} {Q : wQ} (hE : SE w z) (hzx : z ≤ x + 3) (kb : kd w (x + 3) = 1) (hz : zs w = x + 4) (hf : ∀ g, g < 10000 → fd w g (x + 3) = dfV g) (h : ∀ w', ASh w' x → RdS w' x → GW w' x → fd w' 9 (x + 3) = .int 0 → fd w' 10 (x + 3) = .int 0 → zs w' = x + 12 → Od w w' (x + 3) → Q none w') : wpD (d + 7) 1 [.ref (x + 3), .ref (x + 1)] w Q := by
  refine ⟨Nat.le_of_ble_eq_true rfl, ?_⟩
  show wp (d + 6) 1 Q 0 [some (.ref (x + 3)), some (.ref (x + 1))] [] w 0 0
  have eC : mC 1 = 8 := by decide +kernel
  have eS : mS 1 = 12806 := by decide +kernel
  have nC : mC 31 = 2 := by decide +kernel
  have nS : mS 31 = 470 := by decide +kernel
  simp only [↓s_1_0, ↓s_1_1, ↓s_1_4, ↓s_1_5, ↓s_1_8, ↓s_1_9, kd_uF, ln_uF, ai_uF, al_uF, ar_uF, zs_uF, fd_uF, kd_uA, ln_uA, fd_uA, al_uA, ar_uA, zs_uA, ai_uA, kd_uL, ln_uL, fd_uL, ai_uL, ar_uL, zs_uL, al_uL, kd_uR, ln_uR, fd_uR, ai_uR, al_uR, zs_uR, ar_uR, true_and, and_true, Option.toList_some, Option.toList_none, List.cons_append, List.nil_append, catS_nil, catS_int, catS_ref, catS_null, catS_long, cat_int, cat_ref, cat_null, Nat.reduceEqDiff, Nat.reduceLeDiff, Nat.reduceAdd, false_and, and_false, if_false, if_true, ite_true, ite_false, true_or, or_true, false_or, or_false, and_self, forall_const, true_implies, reduceCtorEq, clr_int, clr_ref, clr_null, clr_none, clr_long, va_rf_some, va_rf_none]
  refine ?_
  refine alc_go (c := 2) (s := 470) (by rw [nC]; omega) nC nS (by rw [eC]; decide) (by rw [eS]; decide) ?_
  obtain ⟨w1, hw1⟩ : ∃ w1, w1 = nw w 4 0 := ⟨_, rfl⟩
  rw [← hw1, hz]
  have z1 : zs w1 = x + 5 := by rw [hw1, zs_nw, hz]
  have k1 : kd w1 (x + 4) = 4 := by rw [hw1, kd_nw, if_pos hz.symm]
  have d1 : ∀ g, g < 10000 → fd w1 g (x + 4) = dfV g := fun g hg => by rw [hw1, ← hz]; exact nw_new hg
  have B1 : Bs w w1 (x + 4) [] := by rw [hw1]; exact Bs.rf.N
  have O1 : Od w w1 (x + 4) := B1.Od (by omega) (Nat.le_refl _)
  clear hw1
  refine sp_N_init (hE.od (O1.narrow (by omega))) (by omega) k1 z1 d1 (fun w2 C2 z2 O2 => ?_)
  have O12 := O1.tr O2
  have k2 : kd w2 (x + 3) = 1 := (O12 _ (by omega)).1.trans kb
  have d2 : ∀ g, g < 10000 → fd w2 g (x + 3) = dfV g := fun g hg => ((O12 (x + 3) (by omega)).2.2.1 g).trans (hf g hg)
  obtain ⟨w3, hw3⟩ : ∃ w3, w3 = uF w2 1 (x + 3) (.ref (x + 4)) := ⟨_, rfl⟩
  have B3 : Bs w2 w3 (x + 3) [1] := by rw [hw3]; exact Bs.rf.F
  have z3 : zs w3 = x + 7 := by rw [hw3, zs_uF, z2]
  have n3 : fd w3 1 (x + 3) = .ref (x + 4) := by rw [hw3, fd_uF, if_pos ⟨rfl, rfl⟩]
  have k3 : kd w3 (x + 3) = 1 := by rw [hw3]; exact k2
  obtain ⟨w4, hw4⟩ : ∃ w4, w4 = uF (nw w3 20 4096) 3 (x + 3) (.ref (zs w3)) := ⟨_, rfl⟩
  obtain ⟨w5, hw5⟩ : ∃ w5, w5 = uF (nw w4 23 4096) 4 (x + 3) (.ref (zs w4)) := ⟨_, rfl⟩
  obtain ⟨w6, hw6⟩ : ∃ w6, w6 = uF (nw w5 20 4096) 5 (x + 3) (.ref (zs w5)) := ⟨_, rfl⟩
  obtain ⟨w7, hw7⟩ : ∃ w7, w7 = uF (nw w6 20 32) 7 (x + 3) (.ref (zs w6)) := ⟨_, rfl⟩
  obtain ⟨w8, hw8⟩ : ∃ w8, w8 = uF w7 0 (x + 3) (.ref (x + 1)) := ⟨_, rfl⟩
  have A4 : Ars w4 (x + 3) (x + 7) [(20, 4096, 3)] := by rw [hw4]; exact (Ars.nil z3 (by omega)).step (fun x hx => by cases hx)
  have A5 : Ars w5 (x + 3) (x + 7) [(20, 4096, 3), (23, 4096, 4)] := by rw [hw5]; exact A4.step (by decide)
  have A6 : Ars w6 (x + 3) (x + 7) [(20, 4096, 3), (23, 4096, 4), (20, 4096, 5)] := by rw [hw6]; exact A5.step (by decide)
  have A7 : Ars w7 (x + 3) (x + 7) [(20, 4096, 3), (23, 4096, 4), (20, 4096, 5), (20, 32, 7)] := by rw [hw7]; exact A6.step (by decide)
  have kA : ∀ (v : aw) (k n : Nat), kd v (x + 3) = 1 → x + 3 < zs v → kd (nw v k n) (x + 3) = 1 := fun v k n hv hlt => by rw [kd_nw, if_neg (by omega)]; exact hv
  have k3' := kA w3 20 4096 k3 (by omega)
  have k4 : kd w4 (x + 3) = 1 := by rw [hw4]; exact k3'
  have k4' := kA w4 23 4096 k4 (by have := A4.1; simp at this; omega)
  have k5 : kd w5 (x + 3) = 1 := by rw [hw5]; exact k4'
  have k5' := kA w5 20 4096 k5 (by have := A5.1; simp at this; omega)
  have k6 : kd w6 (x + 3) = 1 := by rw [hw6]; exact k5'
  have k6' := kA w6 20 32 k6 (by have := A6.1; simp at this; omega)
  have k7 : kd w7 (x + 3) = 1 := by rw [hw7]; exact k6'
  have z7 : zs w7 = x + 11 := A7.1
  have z8 : zs w8 = x + 11 := by rw [hw8, zs_uF, z7]
  have k8 : kd w8 (x + 3) = 1 := by rw [hw8]; exact k7
  have B37 : Bs w3 w7 (x + 3) [3, 4, 5, 7] := by rw [hw7, hw6, hw5, hw4]; exact Bs.rf.N.F.N.F.N.F.N.F
  have B78 : Bs w7 w8 (x + 3) [0] := by rw [hw8]; exact Bs.rf.F
  have n8 : fd w8 1 (x + 3) = .ref (x + 4) := by rw [(B37.tr B78).2.2 _ _ (by omega) (Or.inr (by decide))]; exact n3
  obtain ⟨w9, hw9⟩ : ∃ w9, w9 = nw w8 5 0 := ⟨_, rfl⟩
  have k9' : kd w9 (x + 3) = 1 := by rw [hw9]; exact kA w8 _ _ k8 (by omega)
  have n9 : fd w9 1 (x + 3) = .ref (x + 4) := by rw [hw9, fd_nw, if_neg (fun z => by omega)]; exact n8
  have B89 : Bs w8 w9 (x + 3) [] := by rw [hw9]; exact Bs.rf.N
  simp only [↓s_1_12, ↓s_1_12n, ↓s_1_15, ↓s_1_16, ↓s_1_19, ↓s_1_21, ↓s_1_24, ↓s_1_25, ↓s_1_28, ↓s_1_30, ↓s_1_33, ↓s_1_34, ↓s_1_37, ↓s_1_39, ↓s_1_42, ↓s_1_43, ↓s_1_45, ↓s_1_47, ↓s_1_50, ↓s_1_51, ↓s_1_51n, ↓s_1_52, ↓s_1_52n, ↓s_1_55, ↓s_1_56, ↓s_1_59, ↓s_1_60, ↓s_1_60n, ↓s_1_61, ↓s_1_62, ↓s_1_65, kd_uF, ln_uF, ai_uF, al_uF, ar_uF, zs_uF, fd_uF, kd_uA, ln_uA, fd_uA, al_uA, ar_uA, zs_uA, ai_uA, kd_uL, ln_uL, fd_uL, ai_uL, ar_uL, zs_uL, al_uL, kd_uR, ln_uR, fd_uR, ai_uR, al_uR, zs_uR, ar_uR, true_and, and_true, Option.toList_some, Option.toList_none, List.cons_append, List.nil_append, catS_nil, catS_int, catS_ref, catS_null, catS_long, cat_int, cat_ref, cat_null, Nat.reduceEqDiff, Nat.reduceLeDiff, Nat.reduceAdd, false_and, and_false, if_false, if_true, ite_true, ite_false, true_or, or_true, false_or, or_false, and_self, forall_const, true_implies, reduceCtorEq, clr_int, clr_ref, clr_null, clr_none, clr_long, va_rf_some, va_rf_none, cl_4096, cl_32, k2, ← hw3, k3', ← hw4, k4', ← hw5, k5', ← hw6, k6', ← hw7, k7, ← hw8, ← hw9, k9', n9]
  refine ⟨by decide, by decide, by decide, by decide, by decide, by decide, by decide, by decide, ?_⟩
  refine alc_z (by decide +kernel) ?_
  rw [z8]
  have kr9 : kd w9 (x + 11) = 5 := by rw [hw9, kd_nw, if_pos z8.symm]
  have z9 : zs w9 = x + 12 := by rw [hw9, zs_nw, z8]
  have t8 : fd w8 0 (x + 3) = .ref (x + 1) := by rw [hw8, fd_uF, if_pos ⟨rfl, rfl⟩]
  clear hw3 hw4 hw5 hw6 hw7 hw8 hw9
  refine sp_Rd_init kr9 ?_
  obtain ⟨wa, hwa⟩ : ∃ wa, wa = uF (uF w9 256 (x + 11) (.ref (x + 1))) 257 (x + 11) (.ref (x + 4)) := ⟨_, rfl⟩
  rw [← hwa]
  have ka : kd wa (x + 3) = 1 := by rw [hwa]; exact k9'
  obtain ⟨wb, hwb⟩ : ∃ wb, wb = uF wa 2 (x + 3) (.ref (x + 11)) := ⟨_, rfl⟩
  simp only [↓s_1_68, ↓s_1_68n, ↓s_1_71, kd_uF, ln_uF, ai_uF, al_uF, ar_uF, zs_uF, fd_uF, kd_uA, ln_uA, fd_uA, al_uA, ar_uA, zs_uA, ai_uA, kd_uL, ln_uL, fd_uL, ai_uL, ar_uL, zs_uL, al_uL, kd_uR, ln_uR, fd_uR, ai_uR, al_uR, zs_uR, ar_uR, true_and, and_true, Option.toList_some, Option.toList_none, List.cons_append, List.nil_append, catS_nil, catS_int, catS_ref, catS_null, catS_long, cat_int, cat_ref, cat_null, Nat.reduceEqDiff, Nat.reduceLeDiff, Nat.reduceAdd, false_and, and_false, if_false, if_true, ite_true, ite_false, true_or, or_true, false_or, or_false, and_self, forall_const, true_implies, reduceCtorEq, clr_int, clr_ref, clr_null, clr_none, clr_long, va_rf_some, va_rf_none, ka, ← hwb]
  have B9a : Bs w9 wa (x + 11) [256, 257] := by rw [hwa]; exact Bs.rf.F.F
  have Bab : Bs wa wb (x + 3) [2] := by rw [hwb]; exact Bs.rf.F
  have za : zs wa = x + 12 := by rw [hwa, zs_uF, zs_uF, z9]
  -- from the rows to the end
  have R8 : Bs w8 wb (x + 3) [2] := (B89.other B9a (by omega)).tr Bab
  have R7 : Bs w7 wb (x + 3) [0, 2] := B78.tr R8
  have R3 : Bs w3 wb (x + 3) [3, 4, 5, 7, 0, 2] := B37.tr R7
  have R2 : Bs w2 wb (x + 3) [1, 3, 4, 5, 7, 0, 2] := B3.tr R3
  have ar := A7.keep R7 (Or.inr (by decide))
  obtain ⟨p1, p2, p3, p4, _, _⟩ := ar 0 _ rfl
  obtain ⟨q1, q2, q3, q4, _, _⟩ := ar 1 _ rfl
  obtain ⟨r1, r2, r3, r4, _, _⟩ := ar 2 _ rfl
  obtain ⟨s1, s2, s3, s4, _, _⟩ := ar 3 _ rfl
  have dd : ∀ g, g < 10000 → g ∉ [1, 3, 4, 5, 7, 0, 2] → fd wb g (x + 3) = dfV g := fun g h1 h2 => (R2.2.2 (x + 3) g (by omega) (Or.inr h2)).trans (d2 g h1)
  have tb : fd wb 0 (x + 3) = .ref (x + 1) := (R8.2.2 (x + 3) _ (by omega) (Or.inr (by decide))).trans t8
  have nb : fd wb 1 (x + 3) = .ref (x + 4) := (R3.2.2 (x + 3) _ (by omega) (Or.inr (by decide))).trans n3
  have rb : fd wb 2 (x + 3) = .ref (x + 11) := by rw [hwb, fd_uF, if_pos ⟨rfl, rfl⟩]
  have kb' : kd wb (x + 3) = 1 := by rw [hwb]; exact ka
  have Cb : CB wb x [] := C2.bs R2 (by omega)
  have Wb : CW wb x S0 := ⟨dd _ (by decide) (by decide), fun i hi => absurd hi (Nat.not_lt_zero _), fun a _ => q4 a, fun a v hv => (by cases hv), fun g _ => s4 g⟩
  refine h wb ⟨kb', tb, nb, rb, p3, q3, r3, s3, p1, q1, r1, s1, p2, q2, r2, s2⟩ ⟨?_, ?_, ?_⟩ ⟨⟨_, Cb⟩, S0, Wb, PI_S0⟩ (dd _ (by decide) (by decide)) (dd _ (by decide) (by decide)) (by rw [hwb, zs_uF, za]) ((O12.narrow (by omega)).tr (R2.Od (by omega) (Nat.le_refl _)))
  · rw [hwb, hwa]; exact kr9
  · rw [hwb, fd_uF, if_neg (fun z => by omega), hwa]; simp only [fd_uF, eq_self, and_self, true_and, false_and, if_true, if_false, ite_true, ite_false, Nat.reduceEqDiff]
  · rw [hwb, fd_uF, if_neg (fun z => by omega), hwa]; simp only [fd_uF, eq_self, and_self, true_and, false_and, if_true, if_false, ite_true, ite_false, Nat.reduceEqDiff]
def t00 : tp := ((fun _ => 0), 0, 0, 0)
theorem sp_M_init {d : Nat} {w : aw} {x : Nat} {Q : wQ} (hE : SE w x) (kb : kd w x = 8) (hz : zs w = x + 1) (h : ∀ w', CL w' x h00 t00 → zs w' = x + 80 → Od w w' x → (∀ v, ar w' (x + 14) v = none) → Q none w') : wpD (d + 8) 78 [.ref x] w Q := by
  refine ⟨Nat.le_of_ble_eq_true rfl, ?_⟩
  show wp (d + 7) 78 Q 0 [some (.ref x)] [] w 0 0
  have eC : mC 78 = 79 := by decide +kernel
  have eS : mS 78 = 90930 := by decide +kernel
  have tC : mC 56 = 1 := by decide +kernel
  have tS' : mS 56 = 8000 := by decide +kernel
  have aC : mC 1 = 8 := by decide +kernel
  have aS : mS 1 = 12806 := by decide +kernel
  have hC : mC 13 = 67 := by decide +kernel
  have hS : mS 13 = 70096 := by decide +kernel
  simp only [↓s_78_0, ↓s_78_1, ↓s_78_4, ↓s_78_5, ↓s_78_8, ↓s_78_9, kd_uF, ln_uF, ai_uF, al_uF, ar_uF, zs_uF, fd_uF, kd_uA, ln_uA, fd_uA, al_uA, ar_uA, zs_uA, ai_uA, kd_uL, ln_uL, fd_uL, ai_uL, ar_uL, zs_uL, al_uL, kd_uR, ln_uR, fd_uR, ai_uR, al_uR, zs_uR, ar_uR, true_and, and_true, Option.toList_some, Option.toList_none, List.cons_append, List.nil_append, catS_nil, catS_int, catS_ref, catS_null, catS_long, cat_int, cat_ref, cat_null, Nat.reduceEqDiff, Nat.reduceLeDiff, Nat.reduceAdd, false_and, and_false, if_false, if_true, ite_true, ite_false, true_or, or_true, false_or, or_false, and_self, forall_const, true_implies, reduceCtorEq, clr_int, clr_ref, clr_null, clr_none, clr_long, va_rf_some, va_rf_none]
  refine alc_go (c := 1) (s := 8000) (by rw [tC]; omega) tC tS' (by rw [eC]; decide) (by rw [eS]; decide) ?_
  obtain ⟨w1, hw1⟩ : ∃ w1, w1 = nw w 6 0 := ⟨_, rfl⟩
  rw [← hw1, hz]
  have z1 : zs w1 = x + 1 + 1 := by rw [hw1, zs_nw, hz]
  have k1 : kd w1 (x + 1) = 6 := by rw [hw1, kd_nw, if_pos hz.symm]
  have d1 : ∀ g, g < 10000 → fd w1 g (x + 1) = dfV g := fun g hg => by rw [hw1, ← hz]; exact nw_new hg
  have O1 : Od w w1 (x + 1) := by rw [hw1]; exact (Bs.rf.N (b := x + 1)).Od (by omega) (Nat.le_refl _)
  clear hw1
  refine sp_T_init k1 z1 d1 (fun w2 t1 t2 t3 t4 t5 t6 z2 O2 => ?_)
  have O12 := O1.tr O2
  have k2 : kd w2 x = 8 := (O12 x (by omega)).1.trans kb
  obtain ⟨w3, hw3⟩ : ∃ w3, w3 = uF w2 448 x (.ref (x + 1)) := ⟨_, rfl⟩
  have f3 : fd w3 448 x = .ref (x + 1) := by rw [hw3, fd_uF, if_pos ⟨rfl, rfl⟩]
  have k3 : kd w3 x = 8 := by rw [hw3]; exact k2
  have z3 : zs w3 = x + 3 := by rw [hw3, zs_uF, z2]
  have B3 : Bs w2 w3 x [448] := by rw [hw3]; exact Bs.rf.F
  obtain ⟨w4, hw4⟩ : ∃ w4, w4 = nw w3 1 0 := ⟨_, rfl⟩
  have z4 : zs w4 = x + 4 := by rw [hw4, zs_nw, z3]
  have k4 : kd w4 (x + 3) = 1 := by rw [hw4, kd_nw, if_pos z3.symm]
  have d4 : ∀ g, g < 10000 → fd w4 g (x + 3) = dfV g := fun g hg => by rw [hw4, ← z3]; exact nw_new hg
  have O4 : Od w3 w4 (x + 3) := by rw [hw4]; exact (Bs.rf.N (b := x + 3)).Od (by omega) (Nat.le_refl _)
  have kx4 : kd w4 x = 8 := (O4 x (by omega)).1.trans k3
  have f4 : fd w4 448 x = .ref (x + 1) := ((O4 x (by omega)).2.2.1 _).trans f3
  simp only [↓s_78_12, ↓s_78_12n, ↓s_78_15, ↓s_78_16, ↓s_78_19, ↓s_78_20, ↓s_78_21, ↓s_78_24, kd_uF, ln_uF, ai_uF, al_uF, ar_uF, zs_uF, fd_uF, kd_uA, ln_uA, fd_uA, al_uA, ar_uA, zs_uA, ai_uA, kd_uL, ln_uL, fd_uL, ai_uL, ar_uL, zs_uL, al_uL, kd_uR, ln_uR, fd_uR, ai_uR, al_uR, zs_uR, ar_uR, true_and, and_true, Option.toList_some, Option.toList_none, List.cons_append, List.nil_append, catS_nil, catS_int, catS_ref, catS_null, catS_long, cat_int, cat_ref, cat_null, Nat.reduceEqDiff, Nat.reduceLeDiff, Nat.reduceAdd, false_and, and_false, if_false, if_true, ite_true, ite_false, true_or, or_true, false_or, or_false, and_self, forall_const, true_implies, reduceCtorEq, clr_int, clr_ref, clr_null, clr_none, clr_long, va_rf_some, va_rf_none, k2, ← hw3, ← hw4, kx4, f4]
  refine alc_go (c := 8) (s := 12806) (by rw [aC]; omega) aC aS (by rw [eC]; decide) (by rw [eS]; decide) ?_
  rw [z3]
  have E4 : SE w4 x := (((hE.od (O12.narrow (by omega))).od (B3.Od (by omega) (Nat.le_refl _)))).od (O4.narrow (by omega))
  clear hw4
  refine sp_A_init E4 (by omega) k4 z4 d4 (fun w5 A5 R5 G5 g1 g2 z5 O5 => ?_)
  have kx5 : kd w5 x = 8 := (O5 x (by omega)).1.trans kx4
  obtain ⟨w6, hw6⟩ : ∃ w6, w6 = uF w5 449 x (.ref (x + 3)) := ⟨_, rfl⟩
  have z6 : zs w6 = x + 12 := by rw [hw6, zs_uF, z5]
  have F6 : Fr w5 w6 x (x + 1) := by rw [hw6]; exact Fr.rf.F (by omega) (by omega)
  have a6 : fd w6 449 x = .ref (x + 3) := by rw [hw6, fd_uF, if_pos ⟨rfl, rfl⟩]
  obtain ⟨w7, hw7⟩ : ∃ w7, w7 = nw w6 2 0 := ⟨_, rfl⟩
  have z7 : zs w7 = x + 12 + 1 := by rw [hw7, zs_nw, z6]
  have k7 : kd w7 (x + 12) = 2 := by rw [hw7, kd_nw, if_pos z6.symm]
  have d7 : ∀ g, g < 10000 → fd w7 g (x + 12) = dfV g := fun g hg => by rw [hw7, ← z6]; exact nw_new hg
  have O7 : Od w6 w7 (x + 12) := by rw [hw7]; exact (Bs.rf.N (b := x + 12)).Od (by omega) (Nat.le_refl _)
  simp only [↓s_78_27, ↓s_78_27n, ↓s_78_30, ↓s_78_31, ↓s_78_34, ↓s_78_35, kd_uF, ln_uF, ai_uF, al_uF, ar_uF, zs_uF, fd_uF, kd_uA, ln_uA, fd_uA, al_uA, ar_uA, zs_uA, ai_uA, kd_uL, ln_uL, fd_uL, ai_uL, ar_uL, zs_uL, al_uL, kd_uR, ln_uR, fd_uR, ai_uR, al_uR, zs_uR, ar_uR, true_and, and_true, Option.toList_some, Option.toList_none, List.cons_append, List.nil_append, catS_nil, catS_int, catS_ref, catS_null, catS_long, cat_int, cat_ref, cat_null, Nat.reduceEqDiff, Nat.reduceLeDiff, Nat.reduceAdd, false_and, and_false, if_false, if_true, ite_true, ite_false, true_or, or_true, false_or, or_false, and_self, forall_const, true_implies, reduceCtorEq, clr_int, clr_ref, clr_null, clr_none, clr_long, va_rf_some, va_rf_none, kx5, ← hw6, ← hw7]
  refine alc_go (c := 67) (s := 70096) (by rw [hC]; omega) hC hS (by rw [eC]; decide) (by rw [eS]; decide) ?_
  rw [z6]
  clear hw7
  refine sp_H_init k7 z7 d7 (fun w8 C8 z8 O8 N8 => ?_)
  have O68 := O7.tr O8
  have kx8 : kd w8 x = 8 := by rw [(O68 x (by omega)).1, F6.1]; exact kx5
  obtain ⟨w9, hw9⟩ : ∃ w9, w9 = uF w8 450 x (.ref (x + 12)) := ⟨_, rfl⟩
  simp only [↓s_78_38, ↓s_78_38n, ↓s_78_41, kd_uF, ln_uF, ai_uF, al_uF, ar_uF, zs_uF, fd_uF, kd_uA, ln_uA, fd_uA, al_uA, ar_uA, zs_uA, ai_uA, kd_uL, ln_uL, fd_uL, ai_uL, ar_uL, zs_uL, al_uL, kd_uR, ln_uR, fd_uR, ai_uR, al_uR, zs_uR, ar_uR, true_and, and_true, Option.toList_some, Option.toList_none, List.cons_append, List.nil_append, catS_nil, catS_int, catS_ref, catS_null, catS_long, cat_int, cat_ref, cat_null, Nat.reduceEqDiff, Nat.reduceLeDiff, Nat.reduceAdd, false_and, and_false, if_false, if_true, ite_true, ite_false, true_or, or_true, false_or, or_false, and_self, forall_const, true_implies, reduceCtorEq, clr_int, clr_ref, clr_null, clr_none, clr_long, va_rf_some, va_rf_none, kx8, ← hw9]
  have F9 : Fr w8 w9 x (x + 1) := by rw [hw9]; exact Fr.rf.F (by omega) (by omega)
  -- all behind the object itself
  have kp : ∀ q, x < q → q < x + 12 → kd w9 q = kd w5 q ∧ ln w9 q = ln w5 q ∧ (∀ g, fd w9 g q = fd w5 g q) ∧ (∀ i, ai w9 q i = ai w5 q i) ∧ (∀ i, al w9 q i = al w5 q i) ∧ (∀ i, ar w9 q i = ar w5 q i) := by
    intro q h1 h2
    have o6 := F6.2.2.2 q (by omega)
    have o8 := O68 q h2
    have o9 := F9.2.2.2 q (by omega)
    exact ⟨(F9.1 q).trans (o8.1.trans (F6.1 q)), (F9.2.1 q).trans (o8.2.1.trans (F6.2.1 q)), fun g => (o9.1 g).trans ((o8.2.2.1 g).trans (o6.1 g)), fun i => (o9.2.1 i).trans ((o8.2.2.2.1 i).trans (o6.2.1 i)), fun i => (o9.2.2.1 i).trans ((o8.2.2.2.2.1 i).trans (o6.2.2.1 i)), fun i => (o9.2.2.2 i).trans ((o8.2.2.2.2.2 i).trans (o6.2.2.2 i))⟩
  have kt : ∀ q, x < q → q < x + 3 → kd w9 q = kd w2 q ∧ ln w9 q = ln w2 q ∧ (∀ g, fd w9 g q = fd w2 g q) ∧ (∀ i, ai w9 q i = ai w2 q i) := by
    intro q h1 h2
    obtain ⟨a1, a2, a3, a4, _, _⟩ := kp q h1 (by omega)
    have o5 := O5 q h2
    have o4 := O4 q h2
    have b := B3.2.1 q (by omega)
    exact ⟨a1.trans (o5.1.trans (o4.1.trans b.1)), a2.trans (o5.2.1.trans (o4.2.1.trans b.2.1)), fun g => (a3 g).trans ((o5.2.2.1 g).trans ((o4.2.2.1 g).trans (B3.2.2 q g (by omega) (Or.inl (by omega))))), fun i => (a4 i).trans ((o5.2.2.2.1 i).trans ((o4.2.2.2.1 i).trans (b.2.2.1 i)))⟩
  have fx9 : fd w9 450 x = .ref (x + 12) := by rw [hw9, fd_uF, if_pos ⟨rfl, rfl⟩]
  have fa9 : fd w9 449 x = .ref (x + 3) := by
    rw [hw9, fd_uF, if_neg (fun z => absurd z.1 (by decide)), (O68 x (by omega)).2.2.1]; exact a6
  have ft9 : fd w9 448 x = .ref (x + 1) := by
    rw [hw9, fd_uF, if_neg (fun z => absurd z.1 (by decide)), (O68 x (by omega)).2.2.1, hw6, fd_uF, if_neg (fun z => absurd z.1 (by decide)), (O5 x (by omega)).2.2.1]; exact f4
  have k1' := kt (x + 1) (by omega) (by omega)
  have k2' := kt (x + 2) (by omega) (by omega)
  have o3 := kp (x + 3) (by omega) (by omega)
  have o11 := kp (x + 11) (by omega) (by omega)
  obtain ⟨⟨t, hB⟩, S, hW, hP⟩ := G5
  refine h w9 ⟨⟨by rw [F9.1]; exact kx8, fx9, C8.out F9 (Or.inl (by omega))⟩, ⟨ft9, k1'.1.trans t1, (k1'.2.2.1 _).trans t2, k2'.1.trans t4, k2'.2.1.trans t5, (k1'.2.2.1 _).trans t3, fun k hk => ?_⟩, ⟨fa9, o3.1.trans A5.1, (o3.2.2.1 _).trans g1, (o3.2.2.1 _).trans g2⟩, ?_, ⟨o11.1.trans R5.1, (o11.2.2.1 _).trans R5.2.1, (o11.2.2.1 _).trans R5.2.2⟩, ⟨⟨t, ?_⟩, S, hW.kept (o3.2.2.1 _) (fun k i a b => (kp (x + k) (by omega) (by omega)).2.2.2.1 i), hP⟩⟩ (by rw [hw9, zs_uF, z8]) ?_ (fun v => ((F9.2.2.2 (x + 14) (by omega)).2.2.2 v).trans (N8 v))
  · rw [k2'.2.2.2, t6]; exact (by decide : (0 : Int32) &&& 255 = nI 0)
  · obtain ⟨a0, a1, a2, a3, a4, a5, a6, a7, b1, b2, b3, b4, b5, b6, b7, b8⟩ := A5
    have o7 := kp (x + 7) (by omega) (by omega)
    have o8 := kp (x + 8) (by omega) (by omega)
    have o9 := kp (x + 9) (by omega) (by omega)
    have o10 := kp (x + 10) (by omega) (by omega)
    exact ⟨o3.1.trans a0, (o3.2.2.1 _).trans a1, (o3.2.2.1 _).trans a2, (o3.2.2.1 _).trans a3, (o3.2.2.1 _).trans a4, (o3.2.2.1 _).trans a5, (o3.2.2.1 _).trans a6, (o3.2.2.1 _).trans a7, o7.1.trans b1, o8.1.trans b2, o9.1.trans b3, o10.1.trans b4, o7.2.1.trans b5, o8.2.1.trans b6, o9.2.1.trans b7, o10.2.1.trans b8⟩
  · obtain ⟨a1, a2, a3, a4, a5, a6, a7, a8, a9⟩ := hB
    have o4 := kp (x + 4) (by omega) (by omega)
    have o5 := kp (x + 5) (by omega) (by omega)
    have o6 := kp (x + 6) (by omega) (by omega)
    exact ⟨o4.1.trans a1, (o4.2.2.1 _).trans a2, (o4.2.2.1 _).trans a3, o5.1.trans a4, o5.2.1.trans a5, o6.1.trans a6, o6.2.1.trans a7, (o4.2.2.1 _).trans a8, fun k y hy => ⟨(o5.2.2.2.2.1 _).trans (a9 k y hy).1, (o6.2.2.2.1 _).trans (a9 k y hy).2⟩⟩
  · exact (((((O12.narrow (by omega)).tr (B3.Od (by omega) (Nat.le_refl _))).tr (O4.narrow (by omega))).tr (O5.narrow (by omega))).tr ((FrOd F6 (Nat.le_refl _)))).tr ((O68.narrow (by omega)).tr (FrOd F9 (Nat.le_refl _)))
