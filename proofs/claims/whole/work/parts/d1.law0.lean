theorem sp_law0 {w : aw} {b L : Nat} {xs : Nat → Int32} (hL : L ≤ 3072) (hE : SE w (zs w)) (hb : b < zs w) (hS : SC w b L xs) : wp 12 0 LQ 0 [some (.ref b), none, none, none] [] w 0 0 := by
  have eC : mC 0 = 600000 := by decide +kernel
  have eS : mS 0 = 7302250 := by decide +kernel
  have aC : mC 78 = 79 := by decide +kernel
  have aS : mS 78 = 90930 := by decide +kernel
  have rC : mC 103 = 24 := by decide +kernel
  have rS : mS 103 = 86736 := by decide +kernel
  obtain ⟨x, hx⟩ : ∃ x, x = zs w := ⟨_, rfl⟩
  rw [← hx] at hE hb
  simp only [↓s_0_0, ↓s_0_3, ↓s_0_4, kd_uF, ln_uF, ai_uF, al_uF, ar_uF, zs_uF, fd_uF, kd_uA, ln_uA, fd_uA, al_uA, ar_uA, zs_uA, ai_uA, kd_uL, ln_uL, fd_uL, ai_uL, ar_uL, zs_uL, al_uL, kd_uR, ln_uR, fd_uR, ai_uR, al_uR, zs_uR, ar_uR, true_and, and_true, Option.toList_some, Option.toList_none, List.cons_append, List.nil_append, catS_nil, catS_int, catS_ref, catS_null, catS_long, cat_int, cat_ref, cat_null, Nat.reduceEqDiff, Nat.reduceLeDiff, Nat.reduceAdd, false_and, and_false, if_false, if_true, ite_true, ite_false, true_or, or_true, false_or, or_false, and_self, forall_const, true_implies, reduceCtorEq, clr_int, clr_ref, clr_null, clr_none, clr_long, va_rf_some, va_rf_none, ← hx]
  refine alc_go (c := 79) (s := 90930) (by rw [aC]; omega) aC aS (by rw [eC]; decide) (by rw [eS]; decide) ?_
  obtain ⟨w1, hw1⟩ : ∃ w1, w1 = nw w 8 0 := ⟨_, rfl⟩
  rw [← hw1]
  have z1 : zs w1 = x + 1 := by rw [hw1, zs_nw, ← hx]
  have k1 : kd w1 x = 8 := by rw [hw1, kd_nw, if_pos hx]
  have O1 : Od w w1 x := by rw [hw1]; exact (Bs.rf.N (b := x)).Od (by omega) (Nat.le_refl _)
  clear hw1
  refine sp_M_init (hE.od O1) k1 z1 (fun w2 C2 z2 O2 N2 => ?_)
  have S2 := (hS.od O1 hb).od O2 hb
  simp only [↓s_0_7, ↓s_0_7n, ↓s_0_8, ↓s_0_11, ↓s_0_12, kd_uF, ln_uF, ai_uF, al_uF, ar_uF, zs_uF, fd_uF, kd_uA, ln_uA, fd_uA, al_uA, ar_uA, zs_uA, ai_uA, kd_uL, ln_uL, fd_uL, ai_uL, ar_uL, zs_uL, al_uL, kd_uR, ln_uR, fd_uR, ai_uR, al_uR, zs_uR, ar_uR, true_and, and_true, Option.toList_some, Option.toList_none, List.cons_append, List.nil_append, catS_nil, catS_int, catS_ref, catS_null, catS_long, cat_int, cat_ref, cat_null, Nat.reduceEqDiff, Nat.reduceLeDiff, Nat.reduceAdd, false_and, and_false, if_false, if_true, ite_true, ite_false, true_or, or_true, false_or, or_false, and_self, forall_const, true_implies, reduceCtorEq, clr_int, clr_ref, clr_null, clr_none, clr_long, va_rf_some, va_rf_none, z2]
  refine alc_go (c := 24) (s := 86736) (by rw [rC]; omega) rC rS (by rw [eC]; decide) (by rw [eS]; decide) ?_
  obtain ⟨w3, hw3⟩ : ∃ w3, w3 = nw w2 9 0 := ⟨_, rfl⟩
  rw [← hw3]
  have z3 : zs w3 = x + 80 + 1 := by rw [hw3, zs_nw, z2]
  have k3 : kd w3 (x + 80) = 9 := by rw [hw3, kd_nw, if_pos z2.symm]
  have d3 : ∀ g, g < 10000 → fd w3 g (x + 80) = dfV g := fun g hg => by rw [hw3, ← z2]; exact nw_new hg
  have O3 : Od w2 w3 (x + 80) := by rw [hw3]; exact (Bs.rf.N (b := x + 80)).Od (by omega) (Nat.le_refl _)
  clear hw3
  refine sp_R_init k3 z3 d3 (fun w4 A4 R4 z4 O4 => ?_)
  have O34 := O3.tr O4
  simp only [↓s_0_15, ↓s_0_15n, ↓s_0_16, ↓s_0_17, kd_uF, ln_uF, ai_uF, al_uF, ar_uF, zs_uF, fd_uF, kd_uA, ln_uA, fd_uA, al_uA, ar_uA, zs_uA, ai_uA, kd_uL, ln_uL, fd_uL, ai_uL, ar_uL, zs_uL, al_uL, kd_uR, ln_uR, fd_uR, ai_uR, al_uR, zs_uR, ar_uR, true_and, and_true, Option.toList_some, Option.toList_none, List.cons_append, List.nil_append, catS_nil, catS_int, catS_ref, catS_null, catS_long, cat_int, cat_ref, cat_null, Nat.reduceEqDiff, Nat.reduceLeDiff, Nat.reduceAdd, false_and, and_false, if_false, if_true, ite_true, ite_false, true_or, or_true, false_or, or_false, and_self, forall_const, true_implies, reduceCtorEq, clr_int, clr_ref, clr_null, clr_none, clr_long, va_rf_some, va_rf_none]
  exact sp_law hL 512 0 w4 h00 t00 (by omega) (by omega) ⟨C2.od N2 O34 z2 (by omega), A4, R4, hb, S2.od O34 (by omega)⟩ LI_00 TI_00
