theorem law_end {n L : Nat} (hL : L ≤ 3072) (hn : 6 * n ≤ 3072) : (nI L - 6 < nI (6 * n)) ↔ L < 6 * n + 6 := by
  have e : (nI L).toInt = L := nI_toInt (by omega)
  have f : (nI (6 * n)).toInt = (6 * n : Nat) := nI_toInt (by omega)
  rw [Int32.lt_iff_toInt_lt, Int32.toInt_sub, e, f]
  show ((L : Int) - 6).bmod (2 ^ 32) < _ ↔ _
  rw [Int.bmod_eq_of_le (by omega) (by omega)]
  omega
def SC (w : aw) (b L : Nat) (xs : Nat → Int32) : Prop := kd w b = 30 ∧ ln w b = L ∧ ∀ i, i < L → ai w b i = xs i
theorem SC.out {w w' : aw} {b L lo hi : Nat} {xs : Nat → Int32} (h : SC w b L xs) (hF : FrI w w' lo hi) (h1 : b < lo) : SC w' b L xs :=
  ⟨(hF.1 b).trans h.1, (hF.2.1 b).trans h.2.1, fun i hi => ((hF.2.2.2 b (by omega)).2.1 i).trans (h.2.2 i hi)⟩
theorem SC.od {w w' : aw} {b L z : Nat} {xs : Nat → Int32} (h : SC w b L xs) (hF : Od w w' z) (h1 : b < z) : SC w' b L xs :=
  ⟨(hF b h1).1.trans h.1, (hF b h1).2.1.trans h.2.1, fun i hi => ((hF b h1).2.2.2.1 i).trans (h.2.2 i hi)⟩
theorem SC.at {w : aw} {b L n k : Nat} {xs : Nat → Int32} (h : SC w b L xs) (hL : L ≤ 3072) (hk : n + k < L) : inR (nI n + nI k) (ln w b) = True ∧ ai w b (nI n + nI k).toNatClampNeg = xs (n + k) := by
  rw [nI_add, clN (by omega), h.2.1]
  exact ⟨eq_true (inR_nI hk (by omega)), h.2.2 _ hk⟩
abbrev LQ : wQ := fun v _ => v = some (.int 1)
def LWs (w : aw) (x b L : Nat) (xs : Nat → Int32) (H : hs) (t : tp) : Prop := CL w x H t ∧ RAt w (x + 80) H ∧ RT w (x + 80) t ∧ b < x ∧ SC w b L xs
def LNx (x b L : Nat) (xs : Nat → Int32) (n : Nat) : Prop := ∀ w H t, LWs w x b L xs H t → LI H (n + 1) → TI t → wp 12 0 LQ 799 [some (.ref b), some (.ref x), some (.ref (x + 80)), some (.int (nI (6 * n)))] [] w 105 177716
theorem law_open_ {w : aw} {x b L n : Nat} {xs : Nat → Int32} {H : hs} {t : tp} (hL : L ≤ 3072) (hn : 6 * n + 6 ≤ L) (nx : LNx x b L xs n) (hW : LWs w x b L xs H t) (hI : LI H n) (hT : TI t) : wp 12 0 LQ 128 [some (.ref b), some (.ref x), some (.ref (x + 80)), some (.int (nI (6 * n)))] [] w 105 177716 := by
  obtain ⟨hC, hA, hR, hb, hS⟩ := hW
  have kx := hC.1.1
  have kb := hS.1
  have h4 : H.1 4 < 2147482000 := by have := hI.2.2.2.2; omega
  have hP : ∀ v, (H.2.2 v).1 8 < 2147483648 := fun v => by have := hI.1.2.1 v; have := hI.1.2.2; omega
  have s1 := hS.at (n := 6 * n) (k := 1) hL (by omega)
  have s2 := hS.at (n := 6 * n) (k := 2) hL (by omega)
  have s3 := hS.at (n := 6 * n) (k := 3) hL (by omega)
  have s4 := hS.at (n := 6 * n) (k := 4) hL (by omega)
  have s5 := hS.at (n := 6 * n) (k := 5) hL (by omega)
  simp only [↓s_0_128, ↓s_0_128n, ↓s_0_129, ↓s_0_129n, ↓s_0_130, ↓s_0_131, ↓s_0_132, ↓s_0_133, ↓s_0_134, ↓s_0_134n, ↓s_0_135, ↓s_0_136, ↓s_0_137, ↓s_0_138, ↓s_0_139, ↓s_0_139n, ↓s_0_140, ↓s_0_141, ↓s_0_142, ↓s_0_143, ↓s_0_144, ↓s_0_144n, ↓s_0_145, ↓s_0_146, ↓s_0_147, ↓s_0_148, ↓s_0_149, kd_uF, ln_uF, ai_uF, al_uF, ar_uF, zs_uF, fd_uF, kd_uA, ln_uA, fd_uA, al_uA, ar_uA, zs_uA, ai_uA, kd_uL, ln_uL, fd_uL, ai_uL, ar_uL, zs_uL, al_uL, kd_uR, ln_uR, fd_uR, ai_uR, al_uR, zs_uR, ar_uR, true_and, and_true, Option.toList_some, Option.toList_none, List.cons_append, List.nil_append, catS_nil, catS_int, catS_ref, catS_null, catS_long, cat_int, cat_ref, cat_null, Nat.reduceEqDiff, Nat.reduceLeDiff, Nat.reduceAdd, false_and, and_false, if_false, if_true, ite_true, ite_false, true_or, or_true, false_or, or_false, and_self, forall_const, true_implies, reduceCtorEq, clr_int, clr_ref, clr_null, clr_none, clr_long, va_rf_some, va_rf_none, kb, kx, show (1 : Int32) = nI 1 from rfl, show (2 : Int32) = nI 2 from rfl, show (3 : Int32) = nI 3 from rfl, show (4 : Int32) = nI 4 from rfl, show (5 : Int32) = nI 5 from rfl, s1, s2, s3, s4, s5]
  refine sp_C_open hC.1 hI.1.1 (fun z => by rw [hI.2.2.2.1 z]; rfl) (fun w1 M1 F1 => ?_)
  have C1 := hC.H M1 F1
  have A1 := hA.out F1 (by omega)
  have R1 := hR.out F1 (by omega)
  have S1 := hS.out F1 (by omega)
  have km := A1.1.1
  have kb1 := S1.1
  have u1 := S1.at (n := 6 * n) (k := 1) hL (by omega)
  have u2 := S1.at (n := 6 * n) (k := 2) hL (by omega)
  have u3 := S1.at (n := 6 * n) (k := 3) hL (by omega)
  have u4 := S1.at (n := 6 * n) (k := 4) hL (by omega)
  have u5 := S1.at (n := 6 * n) (k := 5) hL (by omega)
  simp only [↓s_0_152, ↓s_0_152n, ↓s_0_153, ↓s_0_153n, ↓s_0_154, ↓s_0_155, ↓s_0_156, ↓s_0_157, ↓s_0_158, ↓s_0_158n, ↓s_0_159, ↓s_0_160, ↓s_0_161, ↓s_0_162, ↓s_0_163, ↓s_0_163n, ↓s_0_164, ↓s_0_165, ↓s_0_166, ↓s_0_167, ↓s_0_168, ↓s_0_168n, ↓s_0_169, ↓s_0_170, ↓s_0_171, ↓s_0_172, ↓s_0_173, kd_uF, ln_uF, ai_uF, al_uF, ar_uF, zs_uF, fd_uF, kd_uA, ln_uA, fd_uA, al_uA, ar_uA, zs_uA, ai_uA, kd_uL, ln_uL, fd_uL, ai_uL, ar_uL, zs_uL, al_uL, kd_uR, ln_uR, fd_uR, ai_uR, al_uR, zs_uR, ar_uR, true_and, and_true, Option.toList_some, Option.toList_none, List.cons_append, List.nil_append, catS_nil, catS_int, catS_ref, catS_null, catS_long, cat_int, cat_ref, cat_null, Nat.reduceEqDiff, Nat.reduceLeDiff, Nat.reduceAdd, false_and, and_false, if_false, if_true, ite_true, ite_false, true_or, or_true, false_or, or_false, and_self, forall_const, true_implies, reduceCtorEq, clr_int, clr_ref, clr_null, clr_none, clr_long, va_rf_some, va_rf_none, kb1, km, show (1 : Int32) = nI 1 from rfl, show (2 : Int32) = nI 2 from rfl, show (3 : Int32) = nI 3 from rfl, show (4 : Int32) = nI 4 from rfl, show (5 : Int32) = nI 5 from rfl, u1, u2, u3, u4, u5]
  refine sp_R_open A1 hI.1.1 (fun w2 A2 F2 => ?_)
  have fin := nx w2 _ _ ⟨C1.out F2.1 (Nat.le_refl _), A2, R1.M F2, hb, S1.out F2.1 (by omega)⟩ hI.opened hT
  simp only [↓s_0_176, ↓s_0_179, ↓s_0_180, kd_uF, ln_uF, ai_uF, al_uF, ar_uF, zs_uF, fd_uF, kd_uA, ln_uA, fd_uA, al_uA, ar_uA, zs_uA, ai_uA, kd_uL, ln_uL, fd_uL, ai_uL, ar_uL, zs_uL, al_uL, kd_uR, ln_uR, fd_uR, ai_uR, al_uR, zs_uR, ar_uR, true_and, and_true, Option.toList_some, Option.toList_none, List.cons_append, List.nil_append, catS_nil, catS_int, catS_ref, catS_null, catS_long, cat_int, cat_ref, cat_null, Nat.reduceEqDiff, Nat.reduceLeDiff, Nat.reduceAdd, false_and, and_false, if_false, if_true, ite_true, ite_false, true_or, or_true, false_or, or_false, and_self, forall_const, true_implies, reduceCtorEq, clr_int, clr_ref, clr_null, clr_none, clr_long, va_rf_some, va_rf_none]
  exact ⟨fin, fun q => absurd trivial q⟩
theorem law_feed {w : aw} {x b L n : Nat} {xs : Nat → Int32} {H : hs} {t : tp} (hL : L ≤ 3072) (hn : 6 * n + 6 ≤ L) (nx : LNx x b L xs n) (hW : LWs w x b L xs H t) (hI : LI H n) (hT : TI t) : wp 12 0 LQ 181 [some (.ref b), some (.ref x), some (.ref (x + 80)), some (.int (nI (6 * n)))] [] w 105 177716 := by
  obtain ⟨hC, hA, hR, hb, hS⟩ := hW
  have kx := hC.1.1
  have kb := hS.1
  have h4 : H.1 4 < 2147482000 := by have := hI.2.2.2.2; omega
  have hP : ∀ v, (H.2.2 v).1 8 < 2147483648 := fun v => by have := hI.1.2.1 v; have := hI.1.2.2; omega
  have s1 := hS.at (n := 6 * n) (k := 1) hL (by omega)
  have s2 := hS.at (n := 6 * n) (k := 2) hL (by omega)
  have s3 := hS.at (n := 6 * n) (k := 3) hL (by omega)
  have s4 := hS.at (n := 6 * n) (k := 4) hL (by omega)
  have s5 := hS.at (n := 6 * n) (k := 5) hL (by omega)
  simp only [↓s_0_181, ↓s_0_181n, ↓s_0_182, ↓s_0_182n, ↓s_0_183, ↓s_0_184, ↓s_0_185, ↓s_0_186, ↓s_0_187, ↓s_0_187n, ↓s_0_188, ↓s_0_189, ↓s_0_190, ↓s_0_191, ↓s_0_192, ↓s_0_192n, ↓s_0_193, ↓s_0_194, ↓s_0_195, ↓s_0_196, ↓s_0_197, ↓s_0_197n, ↓s_0_198, ↓s_0_199, ↓s_0_200, ↓s_0_201, ↓s_0_202, ↓s_0_202n, ↓s_0_203, ↓s_0_204, ↓s_0_205, ↓s_0_206, ↓s_0_207, kd_uF, ln_uF, ai_uF, al_uF, ar_uF, zs_uF, fd_uF, kd_uA, ln_uA, fd_uA, al_uA, ar_uA, zs_uA, ai_uA, kd_uL, ln_uL, fd_uL, ai_uL, ar_uL, zs_uL, al_uL, kd_uR, ln_uR, fd_uR, ai_uR, al_uR, zs_uR, ar_uR, true_and, and_true, Option.toList_some, Option.toList_none, List.cons_append, List.nil_append, catS_nil, catS_int, catS_ref, catS_null, catS_long, cat_int, cat_ref, cat_null, Nat.reduceEqDiff, Nat.reduceLeDiff, Nat.reduceAdd, false_and, and_false, if_false, if_true, ite_true, ite_false, true_or, or_true, false_or, or_false, and_self, forall_const, true_implies, reduceCtorEq, clr_int, clr_ref, clr_null, clr_none, clr_long, va_rf_some, va_rf_none, kb, kx, show (1 : Int32) = nI 1 from rfl, show (2 : Int32) = nI 2 from rfl, show (3 : Int32) = nI 3 from rfl, show (4 : Int32) = nI 4 from rfl, show (5 : Int32) = nI 5 from rfl, s1, s2, s3, s4, s5]
  refine sp_C_feed kx hC.2.1 hT (fun w1 T1 F1 => ?_)
  have C1 := hC.T T1 c_feed_2 F1
  have A1 := hA.out F1 (by omega)
  have R1 := hR.out F1 (by omega)
  have S1 := hS.out F1 (by omega)
  have km := A1.1.1
  have kb1 := S1.1
  have u1 := S1.at (n := 6 * n) (k := 1) hL (by omega)
  have u2 := S1.at (n := 6 * n) (k := 2) hL (by omega)
  have u3 := S1.at (n := 6 * n) (k := 3) hL (by omega)
  have u4 := S1.at (n := 6 * n) (k := 4) hL (by omega)
  have u5 := S1.at (n := 6 * n) (k := 5) hL (by omega)
  simp only [↓s_0_210, ↓s_0_210n, ↓s_0_211, ↓s_0_211n, ↓s_0_212, ↓s_0_213, ↓s_0_214, ↓s_0_215, ↓s_0_216, ↓s_0_216n, ↓s_0_217, ↓s_0_218, ↓s_0_219, ↓s_0_220, ↓s_0_221, ↓s_0_221n, ↓s_0_222, ↓s_0_223, ↓s_0_224, ↓s_0_225, ↓s_0_226, ↓s_0_226n, ↓s_0_227, ↓s_0_228, ↓s_0_229, ↓s_0_230, ↓s_0_231, ↓s_0_231n, ↓s_0_232, ↓s_0_233, ↓s_0_234, ↓s_0_235, ↓s_0_236, kd_uF, ln_uF, ai_uF, al_uF, ar_uF, zs_uF, fd_uF, kd_uA, ln_uA, fd_uA, al_uA, ar_uA, zs_uA, ai_uA, kd_uL, ln_uL, fd_uL, ai_uL, ar_uL, zs_uL, al_uL, kd_uR, ln_uR, fd_uR, ai_uR, al_uR, zs_uR, ar_uR, true_and, and_true, Option.toList_some, Option.toList_none, List.cons_append, List.nil_append, catS_nil, catS_int, catS_ref, catS_null, catS_long, cat_int, cat_ref, cat_null, Nat.reduceEqDiff, Nat.reduceLeDiff, Nat.reduceAdd, false_and, and_false, if_false, if_true, ite_true, ite_false, true_or, or_true, false_or, or_false, and_self, forall_const, true_implies, reduceCtorEq, clr_int, clr_ref, clr_null, clr_none, clr_long, va_rf_some, va_rf_none, kb1, km, show (1 : Int32) = nI 1 from rfl, show (2 : Int32) = nI 2 from rfl, show (3 : Int32) = nI 3 from rfl, show (4 : Int32) = nI 4 from rfl, show (5 : Int32) = nI 5 from rfl, u1, u2, u3, u4, u5]
  refine sp_R_feed A1.1 R1 hT (fun w2 R2 F2 => ?_)
  have fin := nx w2 _ _ ⟨C1.out F2.1 (Nat.le_refl _), A1.T (hi_ub hI.1.1) F2.T, R2, hb, S1.out F2.1 (by omega)⟩ hI.keep hT.feed
  simp only [↓s_0_239, ↓s_0_242, ↓s_0_243, kd_uF, ln_uF, ai_uF, al_uF, ar_uF, zs_uF, fd_uF, kd_uA, ln_uA, fd_uA, al_uA, ar_uA, zs_uA, ai_uA, kd_uL, ln_uL, fd_uL, ai_uL, ar_uL, zs_uL, al_uL, kd_uR, ln_uR, fd_uR, ai_uR, al_uR, zs_uR, ar_uR, true_and, and_true, Option.toList_some, Option.toList_none, List.cons_append, List.nil_append, catS_nil, catS_int, catS_ref, catS_null, catS_long, cat_int, cat_ref, cat_null, Nat.reduceEqDiff, Nat.reduceLeDiff, Nat.reduceAdd, false_and, and_false, if_false, if_true, ite_true, ite_false, true_or, or_true, false_or, or_false, and_self, forall_const, true_implies, reduceCtorEq, clr_int, clr_ref, clr_null, clr_none, clr_long, va_rf_some, va_rf_none]
  exact ⟨fin, fun q => absurd trivial q⟩
theorem law_end_ {w : aw} {x b L n : Nat} {xs : Nat → Int32} {H : hs} {t : tp} (hL : L ≤ 3072) (hn : 6 * n + 6 ≤ L) (nx : LNx x b L xs n) (hW : LWs w x b L xs H t) (hI : LI H n) (hT : TI t) : wp 12 0 LQ 244 [some (.ref b), some (.ref x), some (.ref (x + 80)), some (.int (nI (6 * n)))] [] w 105 177716 := by
  obtain ⟨hC, hA, hR, hb, hS⟩ := hW
  have kx := hC.1.1
  have kb := hS.1
  have h4 : H.1 4 < 2147482000 := by have := hI.2.2.2.2; omega
  have hP : ∀ v, (H.2.2 v).1 8 < 2147483648 := fun v => by have := hI.1.2.1 v; have := hI.1.2.2; omega
  have s1 := hS.at (n := 6 * n) (k := 1) hL (by omega)
  have s2 := hS.at (n := 6 * n) (k := 2) hL (by omega)
  have s3 := hS.at (n := 6 * n) (k := 3) hL (by omega)
  have s4 := hS.at (n := 6 * n) (k := 4) hL (by omega)
  have s5 := hS.at (n := 6 * n) (k := 5) hL (by omega)
  simp only [↓s_0_244, ↓s_0_244n, ↓s_0_245, ↓s_0_245n, ↓s_0_246, ↓s_0_247, ↓s_0_248, ↓s_0_249, ↓s_0_250, kd_uF, ln_uF, ai_uF, al_uF, ar_uF, zs_uF, fd_uF, kd_uA, ln_uA, fd_uA, al_uA, ar_uA, zs_uA, ai_uA, kd_uL, ln_uL, fd_uL, ai_uL, ar_uL, zs_uL, al_uL, kd_uR, ln_uR, fd_uR, ai_uR, al_uR, zs_uR, ar_uR, true_and, and_true, Option.toList_some, Option.toList_none, List.cons_append, List.nil_append, catS_nil, catS_int, catS_ref, catS_null, catS_long, cat_int, cat_ref, cat_null, Nat.reduceEqDiff, Nat.reduceLeDiff, Nat.reduceAdd, false_and, and_false, if_false, if_true, ite_true, ite_false, true_or, or_true, false_or, or_false, and_self, forall_const, true_implies, reduceCtorEq, clr_int, clr_ref, clr_null, clr_none, clr_long, va_rf_some, va_rf_none, kb, kx, show (1 : Int32) = nI 1 from rfl, show (2 : Int32) = nI 2 from rfl, show (3 : Int32) = nI 3 from rfl, show (4 : Int32) = nI 4 from rfl, show (5 : Int32) = nI 5 from rfl, s1, s2, s3, s4, s5]
  refine sp_C_end kx hC.2.1 hT (fun w1 T1 F1 => ?_)
  have C1 := hC.T T1 c_end_2 F1
  have A1 := hA.out F1 (by omega)
  have R1 := hR.out F1 (by omega)
  have S1 := hS.out F1 (by omega)
  have km := A1.1.1
  have kb1 := S1.1
  have u1 := S1.at (n := 6 * n) (k := 1) hL (by omega)
  have u2 := S1.at (n := 6 * n) (k := 2) hL (by omega)
  have u3 := S1.at (n := 6 * n) (k := 3) hL (by omega)
  have u4 := S1.at (n := 6 * n) (k := 4) hL (by omega)
  have u5 := S1.at (n := 6 * n) (k := 5) hL (by omega)
  simp only [↓s_0_253, ↓s_0_253n, ↓s_0_254, ↓s_0_254n, ↓s_0_255, ↓s_0_256, ↓s_0_257, ↓s_0_258, ↓s_0_259, kd_uF, ln_uF, ai_uF, al_uF, ar_uF, zs_uF, fd_uF, kd_uA, ln_uA, fd_uA, al_uA, ar_uA, zs_uA, ai_uA, kd_uL, ln_uL, fd_uL, ai_uL, ar_uL, zs_uL, al_uL, kd_uR, ln_uR, fd_uR, ai_uR, al_uR, zs_uR, ar_uR, true_and, and_true, Option.toList_some, Option.toList_none, List.cons_append, List.nil_append, catS_nil, catS_int, catS_ref, catS_null, catS_long, cat_int, cat_ref, cat_null, Nat.reduceEqDiff, Nat.reduceLeDiff, Nat.reduceAdd, false_and, and_false, if_false, if_true, ite_true, ite_false, true_or, or_true, false_or, or_false, and_self, forall_const, true_implies, reduceCtorEq, clr_int, clr_ref, clr_null, clr_none, clr_long, va_rf_some, va_rf_none, kb1, km, show (1 : Int32) = nI 1 from rfl, show (2 : Int32) = nI 2 from rfl, show (3 : Int32) = nI 3 from rfl, show (4 : Int32) = nI 4 from rfl, show (5 : Int32) = nI 5 from rfl, u1, u2, u3, u4, u5]
  refine sp_R_end A1.1 R1 hT (fun w2 R2 F2 => ?_)
  have fin := nx w2 _ _ ⟨C1.out F2.1 (Nat.le_refl _), A1.T (hi_ub hI.1.1) F2.T, R2, hb, S1.out F2.1 (by omega)⟩ hI.keep hT.cut
  simp only [↓s_0_262, ↓s_0_265, ↓s_0_266, kd_uF, ln_uF, ai_uF, al_uF, ar_uF, zs_uF, fd_uF, kd_uA, ln_uA, fd_uA, al_uA, ar_uA, zs_uA, ai_uA, kd_uL, ln_uL, fd_uL, ai_uL, ar_uL, zs_uL, al_uL, kd_uR, ln_uR, fd_uR, ai_uR, al_uR, zs_uR, ar_uR, true_and, and_true, Option.toList_some, Option.toList_none, List.cons_append, List.nil_append, catS_nil, catS_int, catS_ref, catS_null, catS_long, cat_int, cat_ref, cat_null, Nat.reduceEqDiff, Nat.reduceLeDiff, Nat.reduceAdd, false_and, and_false, if_false, if_true, ite_true, ite_false, true_or, or_true, false_or, or_false, and_self, forall_const, true_implies, reduceCtorEq, clr_int, clr_ref, clr_null, clr_none, clr_long, va_rf_some, va_rf_none]
  exact ⟨fin, fun q => absurd trivial q⟩
theorem law_assemble {w : aw} {x b L n : Nat} {xs : Nat → Int32} {H : hs} {t : tp} (hL : L ≤ 3072) (hn : 6 * n + 6 ≤ L) (nx : LNx x b L xs n) (hW : LWs w x b L xs H t) (hI : LI H n) (hT : TI t) : wp 12 0 LQ 267 [some (.ref b), some (.ref x), some (.ref (x + 80)), some (.int (nI (6 * n)))] [] w 105 177716 := by
  obtain ⟨hC, hA, hR, hb, hS⟩ := hW
  have kx := hC.1.1
  have kb := hS.1
  have h4 : H.1 4 < 2147482000 := by have := hI.2.2.2.2; omega
  have hP : ∀ v, (H.2.2 v).1 8 < 2147483648 := fun v => by have := hI.1.2.1 v; have := hI.1.2.2; omega
  have s1 := hS.at (n := 6 * n) (k := 1) hL (by omega)
  have s2 := hS.at (n := 6 * n) (k := 2) hL (by omega)
  have s3 := hS.at (n := 6 * n) (k := 3) hL (by omega)
  have s4 := hS.at (n := 6 * n) (k := 4) hL (by omega)
  have s5 := hS.at (n := 6 * n) (k := 5) hL (by omega)
  simp only [↓s_0_267, ↓s_0_267n, ↓s_0_268, ↓s_0_268n, ↓s_0_269, ↓s_0_270, ↓s_0_271, ↓s_0_272, ↓s_0_273, kd_uF, ln_uF, ai_uF, al_uF, ar_uF, zs_uF, fd_uF, kd_uA, ln_uA, fd_uA, al_uA, ar_uA, zs_uA, ai_uA, kd_uL, ln_uL, fd_uL, ai_uL, ar_uL, zs_uL, al_uL, kd_uR, ln_uR, fd_uR, ai_uR, al_uR, zs_uR, ar_uR, true_and, and_true, Option.toList_some, Option.toList_none, List.cons_append, List.nil_append, catS_nil, catS_int, catS_ref, catS_null, catS_long, cat_int, cat_ref, cat_null, Nat.reduceEqDiff, Nat.reduceLeDiff, Nat.reduceAdd, false_and, and_false, if_false, if_true, ite_true, ite_false, true_or, or_true, false_or, or_false, and_self, forall_const, true_implies, reduceCtorEq, clr_int, clr_ref, clr_null, clr_none, clr_long, va_rf_some, va_rf_none, kb, kx, show (1 : Int32) = nI 1 from rfl, show (2 : Int32) = nI 2 from rfl, show (3 : Int32) = nI 3 from rfl, show (4 : Int32) = nI 4 from rfl, show (5 : Int32) = nI 5 from rfl, s1, s2, s3, s4, s5]
  refine sp_C_asm hC hI.1.1 hT (fun w1 C1 F1 B1 => ?_)
  have A1 := hA.out F1 (by omega)
  have R1 := hR.out F1 (by omega)
  have S1 := hS.out F1 (by omega)
  have km := A1.1.1
  have kb1 := S1.1
  have u1 := S1.at (n := 6 * n) (k := 1) hL (by omega)
  have u2 := S1.at (n := 6 * n) (k := 2) hL (by omega)
  have u3 := S1.at (n := 6 * n) (k := 3) hL (by omega)
  have u4 := S1.at (n := 6 * n) (k := 4) hL (by omega)
  have u5 := S1.at (n := 6 * n) (k := 5) hL (by omega)
  simp only [↓s_0_276, ↓s_0_276n, ↓s_0_277, ↓s_0_277n, ↓s_0_278, ↓s_0_279, ↓s_0_280, ↓s_0_281, ↓s_0_282, kd_uF, ln_uF, ai_uF, al_uF, ar_uF, zs_uF, fd_uF, kd_uA, ln_uA, fd_uA, al_uA, ar_uA, zs_uA, ai_uA, kd_uL, ln_uL, fd_uL, ai_uL, ar_uL, zs_uL, al_uL, kd_uR, ln_uR, fd_uR, ai_uR, al_uR, zs_uR, ar_uR, true_and, and_true, Option.toList_some, Option.toList_none, List.cons_append, List.nil_append, catS_nil, catS_int, catS_ref, catS_null, catS_long, cat_int, cat_ref, cat_null, Nat.reduceEqDiff, Nat.reduceLeDiff, Nat.reduceAdd, false_and, and_false, if_false, if_true, ite_true, ite_false, true_or, or_true, false_or, or_false, and_self, forall_const, true_implies, reduceCtorEq, clr_int, clr_ref, clr_null, clr_none, clr_long, va_rf_some, va_rf_none, kb1, km, show (1 : Int32) = nI 1 from rfl, show (2 : Int32) = nI 2 from rfl, show (3 : Int32) = nI 3 from rfl, show (4 : Int32) = nI 4 from rfl, show (5 : Int32) = nI 5 from rfl, u1, u2, u3, u4, u5]
  refine sp_R_asm A1 hI.1.1 R1 hT (fun w2 A2 R2 F2 => ?_)
  have fin := nx w2 _ _ ⟨C1.out F2 (Nat.le_refl _), A2, R2, hb, S1.out F2 (by omega)⟩ (hI.asm B1) hT.asm
  simp only [↓s_0_285, ↓s_0_288, ↓s_0_289, kd_uF, ln_uF, ai_uF, al_uF, ar_uF, zs_uF, fd_uF, kd_uA, ln_uA, fd_uA, al_uA, ar_uA, zs_uA, ai_uA, kd_uL, ln_uL, fd_uL, ai_uL, ar_uL, zs_uL, al_uL, kd_uR, ln_uR, fd_uR, ai_uR, al_uR, zs_uR, ar_uR, true_and, and_true, Option.toList_some, Option.toList_none, List.cons_append, List.nil_append, catS_nil, catS_int, catS_ref, catS_null, catS_long, cat_int, cat_ref, cat_null, Nat.reduceEqDiff, Nat.reduceLeDiff, Nat.reduceAdd, false_and, and_false, if_false, if_true, ite_true, ite_false, true_or, or_true, false_or, or_false, and_self, forall_const, true_implies, reduceCtorEq, clr_int, clr_ref, clr_null, clr_none, clr_long, va_rf_some, va_rf_none]
  exact ⟨fin, fun q => absurd trivial q⟩
theorem law_fault {w : aw} {x b L n : Nat} {xs : Nat → Int32} {H : hs} {t : tp} (hL : L ≤ 3072) (hn : 6 * n + 6 ≤ L) (nx : LNx x b L xs n) (hW : LWs w x b L xs H t) (hI : LI H n) (hT : TI t) : wp 12 0 LQ 290 [some (.ref b), some (.ref x), some (.ref (x + 80)), some (.int (nI (6 * n)))] [] w 105 177716 := by
  obtain ⟨hC, hA, hR, hb, hS⟩ := hW
  have kx := hC.1.1
  have kb := hS.1
  have h4 : H.1 4 < 2147482000 := by have := hI.2.2.2.2; omega
  have hP : ∀ v, (H.2.2 v).1 8 < 2147483648 := fun v => by have := hI.1.2.1 v; have := hI.1.2.2; omega
  have s1 := hS.at (n := 6 * n) (k := 1) hL (by omega)
  have s2 := hS.at (n := 6 * n) (k := 2) hL (by omega)
  have s3 := hS.at (n := 6 * n) (k := 3) hL (by omega)
  have s4 := hS.at (n := 6 * n) (k := 4) hL (by omega)
  have s5 := hS.at (n := 6 * n) (k := 5) hL (by omega)
  simp only [↓s_0_290, ↓s_0_290n, ↓s_0_291, ↓s_0_291n, ↓s_0_292, ↓s_0_293, ↓s_0_294, ↓s_0_295, ↓s_0_296, kd_uF, ln_uF, ai_uF, al_uF, ar_uF, zs_uF, fd_uF, kd_uA, ln_uA, fd_uA, al_uA, ar_uA, zs_uA, ai_uA, kd_uL, ln_uL, fd_uL, ai_uL, ar_uL, zs_uL, al_uL, kd_uR, ln_uR, fd_uR, ai_uR, al_uR, zs_uR, ar_uR, true_and, and_true, Option.toList_some, Option.toList_none, List.cons_append, List.nil_append, catS_nil, catS_int, catS_ref, catS_null, catS_long, cat_int, cat_ref, cat_null, Nat.reduceEqDiff, Nat.reduceLeDiff, Nat.reduceAdd, false_and, and_false, if_false, if_true, ite_true, ite_false, true_or, or_true, false_or, or_false, and_self, forall_const, true_implies, reduceCtorEq, clr_int, clr_ref, clr_null, clr_none, clr_long, va_rf_some, va_rf_none, kb, kx, show (1 : Int32) = nI 1 from rfl, show (2 : Int32) = nI 2 from rfl, show (3 : Int32) = nI 3 from rfl, show (4 : Int32) = nI 4 from rfl, show (5 : Int32) = nI 5 from rfl, s1, s2, s3, s4, s5]
  refine sp_C_fault kx hC.2.2.1 ?_
  have C1 := hC
  have A1 := hA
  have R1 := hR
  have S1 := hS
  have km := A1.1.1
  have kb1 := S1.1
  have u1 := S1.at (n := 6 * n) (k := 1) hL (by omega)
  have u2 := S1.at (n := 6 * n) (k := 2) hL (by omega)
  have u3 := S1.at (n := 6 * n) (k := 3) hL (by omega)
  have u4 := S1.at (n := 6 * n) (k := 4) hL (by omega)
  have u5 := S1.at (n := 6 * n) (k := 5) hL (by omega)
  simp only [↓s_0_299, ↓s_0_299n, ↓s_0_300, ↓s_0_300n, ↓s_0_301, ↓s_0_302, ↓s_0_303, ↓s_0_304, ↓s_0_305, kd_uF, ln_uF, ai_uF, al_uF, ar_uF, zs_uF, fd_uF, kd_uA, ln_uA, fd_uA, al_uA, ar_uA, zs_uA, ai_uA, kd_uL, ln_uL, fd_uL, ai_uL, ar_uL, zs_uL, al_uL, kd_uR, ln_uR, fd_uR, ai_uR, al_uR, zs_uR, ar_uR, true_and, and_true, Option.toList_some, Option.toList_none, List.cons_append, List.nil_append, catS_nil, catS_int, catS_ref, catS_null, catS_long, cat_int, cat_ref, cat_null, Nat.reduceEqDiff, Nat.reduceLeDiff, Nat.reduceAdd, false_and, and_false, if_false, if_true, ite_true, ite_false, true_or, or_true, false_or, or_false, and_self, forall_const, true_implies, reduceCtorEq, clr_int, clr_ref, clr_null, clr_none, clr_long, va_rf_some, va_rf_none, kb1, km, show (1 : Int32) = nI 1 from rfl, show (2 : Int32) = nI 2 from rfl, show (3 : Int32) = nI 3 from rfl, show (4 : Int32) = nI 4 from rfl, show (5 : Int32) = nI 5 from rfl, u1, u2, u3, u4, u5]
  refine sp_R_fault A1.1 R1 ?_
  have fin := nx w _ _ ⟨hC, hA, hR, hb, hS⟩ hI.keep hT
  simp only [↓s_0_308, ↓s_0_311, ↓s_0_312, kd_uF, ln_uF, ai_uF, al_uF, ar_uF, zs_uF, fd_uF, kd_uA, ln_uA, fd_uA, al_uA, ar_uA, zs_uA, ai_uA, kd_uL, ln_uL, fd_uL, ai_uL, ar_uL, zs_uL, al_uL, kd_uR, ln_uR, fd_uR, ai_uR, al_uR, zs_uR, ar_uR, true_and, and_true, Option.toList_some, Option.toList_none, List.cons_append, List.nil_append, catS_nil, catS_int, catS_ref, catS_null, catS_long, cat_int, cat_ref, cat_null, Nat.reduceEqDiff, Nat.reduceLeDiff, Nat.reduceAdd, false_and, and_false, if_false, if_true, ite_true, ite_false, true_or, or_true, false_or, or_false, and_self, forall_const, true_implies, reduceCtorEq, clr_int, clr_ref, clr_null, clr_none, clr_long, va_rf_some, va_rf_none]
  exact ⟨fin, fun q => absurd trivial q⟩
theorem law_poke {w : aw} {x b L n : Nat} {xs : Nat → Int32} {H : hs} {t : tp} (hL : L ≤ 3072) (hn : 6 * n + 6 ≤ L) (nx : LNx x b L xs n) (hW : LWs w x b L xs H t) (hI : LI H n) (hT : TI t) : wp 12 0 LQ 313 [some (.ref b), some (.ref x), some (.ref (x + 80)), some (.int (nI (6 * n)))] [] w 105 177716 := by
  obtain ⟨hC, hA, hR, hb, hS⟩ := hW
  have kx := hC.1.1
  have kb := hS.1
  have h4 : H.1 4 < 2147482000 := by have := hI.2.2.2.2; omega
  have hP : ∀ v, (H.2.2 v).1 8 < 2147483648 := fun v => by have := hI.1.2.1 v; have := hI.1.2.2; omega
  have s1 := hS.at (n := 6 * n) (k := 1) hL (by omega)
  have s2 := hS.at (n := 6 * n) (k := 2) hL (by omega)
  have s3 := hS.at (n := 6 * n) (k := 3) hL (by omega)
  have s4 := hS.at (n := 6 * n) (k := 4) hL (by omega)
  have s5 := hS.at (n := 6 * n) (k := 5) hL (by omega)
  simp only [↓s_0_313, ↓s_0_313n, ↓s_0_314, ↓s_0_314n, ↓s_0_315, ↓s_0_316, ↓s_0_317, ↓s_0_318, ↓s_0_319, ↓s_0_319n, ↓s_0_320, ↓s_0_321, ↓s_0_322, ↓s_0_323, ↓s_0_324, ↓s_0_324n, ↓s_0_325, ↓s_0_326, ↓s_0_327, ↓s_0_328, ↓s_0_329, kd_uF, ln_uF, ai_uF, al_uF, ar_uF, zs_uF, fd_uF, kd_uA, ln_uA, fd_uA, al_uA, ar_uA, zs_uA, ai_uA, kd_uL, ln_uL, fd_uL, ai_uL, ar_uL, zs_uL, al_uL, kd_uR, ln_uR, fd_uR, ai_uR, al_uR, zs_uR, ar_uR, true_and, and_true, Option.toList_some, Option.toList_none, List.cons_append, List.nil_append, catS_nil, catS_int, catS_ref, catS_null, catS_long, cat_int, cat_ref, cat_null, Nat.reduceEqDiff, Nat.reduceLeDiff, Nat.reduceAdd, false_and, and_false, if_false, if_true, ite_true, ite_false, true_or, or_true, false_or, or_false, and_self, forall_const, true_implies, reduceCtorEq, clr_int, clr_ref, clr_null, clr_none, clr_long, va_rf_some, va_rf_none, kb, kx, show (1 : Int32) = nI 1 from rfl, show (2 : Int32) = nI 2 from rfl, show (3 : Int32) = nI 3 from rfl, show (4 : Int32) = nI 4 from rfl, show (5 : Int32) = nI 5 from rfl, s1, s2, s3, s4, s5]
  refine sp_C_poke hC.1 hI.1.1 (fun w1 M1 F1 => ?_)
  have C1 := hC.H M1 F1
  have A1 := hA.out F1 (by omega)
  have R1 := hR.out F1 (by omega)
  have S1 := hS.out F1 (by omega)
  have km := A1.1.1
  have kb1 := S1.1
  have u1 := S1.at (n := 6 * n) (k := 1) hL (by omega)
  have u2 := S1.at (n := 6 * n) (k := 2) hL (by omega)
  have u3 := S1.at (n := 6 * n) (k := 3) hL (by omega)
  have u4 := S1.at (n := 6 * n) (k := 4) hL (by omega)
  have u5 := S1.at (n := 6 * n) (k := 5) hL (by omega)
  simp only [↓s_0_332, ↓s_0_332n, ↓s_0_333, ↓s_0_333n, ↓s_0_334, ↓s_0_335, ↓s_0_336, ↓s_0_337, ↓s_0_338, ↓s_0_338n, ↓s_0_339, ↓s_0_340, ↓s_0_341, ↓s_0_342, ↓s_0_343, ↓s_0_343n, ↓s_0_344, ↓s_0_345, ↓s_0_346, ↓s_0_347, ↓s_0_348, kd_uF, ln_uF, ai_uF, al_uF, ar_uF, zs_uF, fd_uF, kd_uA, ln_uA, fd_uA, al_uA, ar_uA, zs_uA, ai_uA, kd_uL, ln_uL, fd_uL, ai_uL, ar_uL, zs_uL, al_uL, kd_uR, ln_uR, fd_uR, ai_uR, al_uR, zs_uR, ar_uR, true_and, and_true, Option.toList_some, Option.toList_none, List.cons_append, List.nil_append, catS_nil, catS_int, catS_ref, catS_null, catS_long, cat_int, cat_ref, cat_null, Nat.reduceEqDiff, Nat.reduceLeDiff, Nat.reduceAdd, false_and, and_false, if_false, if_true, ite_true, ite_false, true_or, or_true, false_or, or_false, and_self, forall_const, true_implies, reduceCtorEq, clr_int, clr_ref, clr_null, clr_none, clr_long, va_rf_some, va_rf_none, kb1, km, show (1 : Int32) = nI 1 from rfl, show (2 : Int32) = nI 2 from rfl, show (3 : Int32) = nI 3 from rfl, show (4 : Int32) = nI 4 from rfl, show (5 : Int32) = nI 5 from rfl, u1, u2, u3, u4, u5]
  refine sp_R_poke A1 hI.1.1 (fun w2 A2 F2 => ?_)
  have fin := nx w2 _ _ ⟨C1.out F2.1 (Nat.le_refl _), A2, R1.M F2, hb, S1.out F2.1 (by omega)⟩ hI.poke hT
  simp only [↓s_0_351, ↓s_0_354, ↓s_0_355, kd_uF, ln_uF, ai_uF, al_uF, ar_uF, zs_uF, fd_uF, kd_uA, ln_uA, fd_uA, al_uA, ar_uA, zs_uA, ai_uA, kd_uL, ln_uL, fd_uL, ai_uL, ar_uL, zs_uL, al_uL, kd_uR, ln_uR, fd_uR, ai_uR, al_uR, zs_uR, ar_uR, true_and, and_true, Option.toList_some, Option.toList_none, List.cons_append, List.nil_append, catS_nil, catS_int, catS_ref, catS_null, catS_long, cat_int, cat_ref, cat_null, Nat.reduceEqDiff, Nat.reduceLeDiff, Nat.reduceAdd, false_and, and_false, if_false, if_true, ite_true, ite_false, true_or, or_true, false_or, or_false, and_self, forall_const, true_implies, reduceCtorEq, clr_int, clr_ref, clr_null, clr_none, clr_long, va_rf_some, va_rf_none]
  exact ⟨fin, fun q => absurd trivial q⟩
theorem law_peek {w : aw} {x b L n : Nat} {xs : Nat → Int32} {H : hs} {t : tp} (hL : L ≤ 3072) (hn : 6 * n + 6 ≤ L) (nx : LNx x b L xs n) (hW : LWs w x b L xs H t) (hI : LI H n) (hT : TI t) : wp 12 0 LQ 356 [some (.ref b), some (.ref x), some (.ref (x + 80)), some (.int (nI (6 * n)))] [] w 105 177716 := by
  obtain ⟨hC, hA, hR, hb, hS⟩ := hW
  have kx := hC.1.1
  have kb := hS.1
  have h4 : H.1 4 < 2147482000 := by have := hI.2.2.2.2; omega
  have hP : ∀ v, (H.2.2 v).1 8 < 2147483648 := fun v => by have := hI.1.2.1 v; have := hI.1.2.2; omega
  have s1 := hS.at (n := 6 * n) (k := 1) hL (by omega)
  have s2 := hS.at (n := 6 * n) (k := 2) hL (by omega)
  have s3 := hS.at (n := 6 * n) (k := 3) hL (by omega)
  have s4 := hS.at (n := 6 * n) (k := 4) hL (by omega)
  have s5 := hS.at (n := 6 * n) (k := 5) hL (by omega)
  simp only [↓s_0_356, ↓s_0_356n, ↓s_0_357, ↓s_0_357n, ↓s_0_358, ↓s_0_359, ↓s_0_360, ↓s_0_361, ↓s_0_362, ↓s_0_362n, ↓s_0_363, ↓s_0_364, ↓s_0_365, ↓s_0_366, ↓s_0_367, kd_uF, ln_uF, ai_uF, al_uF, ar_uF, zs_uF, fd_uF, kd_uA, ln_uA, fd_uA, al_uA, ar_uA, zs_uA, ai_uA, kd_uL, ln_uL, fd_uL, ai_uL, ar_uL, zs_uL, al_uL, kd_uR, ln_uR, fd_uR, ai_uR, al_uR, zs_uR, ar_uR, true_and, and_true, Option.toList_some, Option.toList_none, List.cons_append, List.nil_append, catS_nil, catS_int, catS_ref, catS_null, catS_long, cat_int, cat_ref, cat_null, Nat.reduceEqDiff, Nat.reduceLeDiff, Nat.reduceAdd, false_and, and_false, if_false, if_true, ite_true, ite_false, true_or, or_true, false_or, or_false, and_self, forall_const, true_implies, reduceCtorEq, clr_int, clr_ref, clr_null, clr_none, clr_long, va_rf_some, va_rf_none, kb, kx, show (1 : Int32) = nI 1 from rfl, show (2 : Int32) = nI 2 from rfl, show (3 : Int32) = nI 3 from rfl, show (4 : Int32) = nI 4 from rfl, show (5 : Int32) = nI 5 from rfl, s1, s2, s3, s4, s5]
  refine sp_C_peek hC.1 hI.1.1 ?_
  have C1 := hC
  have A1 := hA
  have R1 := hR
  have S1 := hS
  have km := A1.1.1
  have kb1 := S1.1
  have u1 := S1.at (n := 6 * n) (k := 1) hL (by omega)
  have u2 := S1.at (n := 6 * n) (k := 2) hL (by omega)
  have u3 := S1.at (n := 6 * n) (k := 3) hL (by omega)
  have u4 := S1.at (n := 6 * n) (k := 4) hL (by omega)
  have u5 := S1.at (n := 6 * n) (k := 5) hL (by omega)
  simp only [↓s_0_370, ↓s_0_370n, ↓s_0_371, ↓s_0_371n, ↓s_0_372, ↓s_0_373, ↓s_0_374, ↓s_0_375, ↓s_0_376, ↓s_0_376n, ↓s_0_377, ↓s_0_378, ↓s_0_379, ↓s_0_380, ↓s_0_381, kd_uF, ln_uF, ai_uF, al_uF, ar_uF, zs_uF, fd_uF, kd_uA, ln_uA, fd_uA, al_uA, ar_uA, zs_uA, ai_uA, kd_uL, ln_uL, fd_uL, ai_uL, ar_uL, zs_uL, al_uL, kd_uR, ln_uR, fd_uR, ai_uR, al_uR, zs_uR, ar_uR, true_and, and_true, Option.toList_some, Option.toList_none, List.cons_append, List.nil_append, catS_nil, catS_int, catS_ref, catS_null, catS_long, cat_int, cat_ref, cat_null, Nat.reduceEqDiff, Nat.reduceLeDiff, Nat.reduceAdd, false_and, and_false, if_false, if_true, ite_true, ite_false, true_or, or_true, false_or, or_false, and_self, forall_const, true_implies, reduceCtorEq, clr_int, clr_ref, clr_null, clr_none, clr_long, va_rf_some, va_rf_none, kb1, km, show (1 : Int32) = nI 1 from rfl, show (2 : Int32) = nI 2 from rfl, show (3 : Int32) = nI 3 from rfl, show (4 : Int32) = nI 4 from rfl, show (5 : Int32) = nI 5 from rfl, u1, u2, u3, u4, u5]
  refine sp_R_peek A1 hI.1.1 ?_
  have fin := nx w _ _ ⟨hC, hA, hR, hb, hS⟩ hI.keep hT
  simp only [↓s_0_384, ↓s_0_387, ↓s_0_388, kd_uF, ln_uF, ai_uF, al_uF, ar_uF, zs_uF, fd_uF, kd_uA, ln_uA, fd_uA, al_uA, ar_uA, zs_uA, ai_uA, kd_uL, ln_uL, fd_uL, ai_uL, ar_uL, zs_uL, al_uL, kd_uR, ln_uR, fd_uR, ai_uR, al_uR, zs_uR, ar_uR, true_and, and_true, Option.toList_some, Option.toList_none, List.cons_append, List.nil_append, catS_nil, catS_int, catS_ref, catS_null, catS_long, cat_int, cat_ref, cat_null, Nat.reduceEqDiff, Nat.reduceLeDiff, Nat.reduceAdd, false_and, and_false, if_false, if_true, ite_true, ite_false, true_or, or_true, false_or, or_false, and_self, forall_const, true_implies, reduceCtorEq, clr_int, clr_ref, clr_null, clr_none, clr_long, va_rf_some, va_rf_none]
  exact ⟨fin, fun q => absurd trivial q⟩
theorem law_store {w : aw} {x b L n : Nat} {xs : Nat → Int32} {H : hs} {t : tp} (hL : L ≤ 3072) (hn : 6 * n + 6 ≤ L) (nx : LNx x b L xs n) (hW : LWs w x b L xs H t) (hI : LI H n) (hT : TI t) : wp 12 0 LQ 389 [some (.ref b), some (.ref x), some (.ref (x + 80)), some (.int (nI (6 * n)))] [] w 105 177716 := by
  obtain ⟨hC, hA, hR, hb, hS⟩ := hW
  have kx := hC.1.1
  have kb := hS.1
  have h4 : H.1 4 < 2147482000 := by have := hI.2.2.2.2; omega
  have hP : ∀ v, (H.2.2 v).1 8 < 2147483648 := fun v => by have := hI.1.2.1 v; have := hI.1.2.2; omega
  have s1 := hS.at (n := 6 * n) (k := 1) hL (by omega)
  have s2 := hS.at (n := 6 * n) (k := 2) hL (by omega)
  have s3 := hS.at (n := 6 * n) (k := 3) hL (by omega)
  have s4 := hS.at (n := 6 * n) (k := 4) hL (by omega)
  have s5 := hS.at (n := 6 * n) (k := 5) hL (by omega)
  simp only [↓s_0_389, ↓s_0_389n, ↓s_0_390, ↓s_0_390n, ↓s_0_391, ↓s_0_392, ↓s_0_393, ↓s_0_394, ↓s_0_395, ↓s_0_395n, ↓s_0_396, ↓s_0_397, ↓s_0_398, ↓s_0_399, ↓s_0_400, ↓s_0_400n, ↓s_0_401, ↓s_0_402, ↓s_0_403, ↓s_0_404, ↓s_0_405, ↓s_0_405n, ↓s_0_406, ↓s_0_407, ↓s_0_408, ↓s_0_409, ↓s_0_410, kd_uF, ln_uF, ai_uF, al_uF, ar_uF, zs_uF, fd_uF, kd_uA, ln_uA, fd_uA, al_uA, ar_uA, zs_uA, ai_uA, kd_uL, ln_uL, fd_uL, ai_uL, ar_uL, zs_uL, al_uL, kd_uR, ln_uR, fd_uR, ai_uR, al_uR, zs_uR, ar_uR, true_and, and_true, Option.toList_some, Option.toList_none, List.cons_append, List.nil_append, catS_nil, catS_int, catS_ref, catS_null, catS_long, cat_int, cat_ref, cat_null, Nat.reduceEqDiff, Nat.reduceLeDiff, Nat.reduceAdd, false_and, and_false, if_false, if_true, ite_true, ite_false, true_or, or_true, false_or, or_false, and_self, forall_const, true_implies, reduceCtorEq, clr_int, clr_ref, clr_null, clr_none, clr_long, va_rf_some, va_rf_none, kb, kx, show (1 : Int32) = nI 1 from rfl, show (2 : Int32) = nI 2 from rfl, show (3 : Int32) = nI 3 from rfl, show (4 : Int32) = nI 4 from rfl, show (5 : Int32) = nI 5 from rfl, s1, s2, s3, s4, s5]
  refine sp_C_store hC.1 hI.1.1 (fun w1 M1 F1 => ?_)
  have C1 := hC.H M1 F1
  have A1 := hA.out F1 (by omega)
  have R1 := hR.out F1 (by omega)
  have S1 := hS.out F1 (by omega)
  have km := A1.1.1
  have kb1 := S1.1
  have u1 := S1.at (n := 6 * n) (k := 1) hL (by omega)
  have u2 := S1.at (n := 6 * n) (k := 2) hL (by omega)
  have u3 := S1.at (n := 6 * n) (k := 3) hL (by omega)
  have u4 := S1.at (n := 6 * n) (k := 4) hL (by omega)
  have u5 := S1.at (n := 6 * n) (k := 5) hL (by omega)
  simp only [↓s_0_413, ↓s_0_413n, ↓s_0_414, ↓s_0_414n, ↓s_0_415, ↓s_0_416, ↓s_0_417, ↓s_0_418, ↓s_0_419, ↓s_0_419n, ↓s_0_420, ↓s_0_421, ↓s_0_422, ↓s_0_423, ↓s_0_424, ↓s_0_424n, ↓s_0_425, ↓s_0_426, ↓s_0_427, ↓s_0_428, ↓s_0_429, ↓s_0_429n, ↓s_0_430, ↓s_0_431, ↓s_0_432, ↓s_0_433, ↓s_0_434, kd_uF, ln_uF, ai_uF, al_uF, ar_uF, zs_uF, fd_uF, kd_uA, ln_uA, fd_uA, al_uA, ar_uA, zs_uA, ai_uA, kd_uL, ln_uL, fd_uL, ai_uL, ar_uL, zs_uL, al_uL, kd_uR, ln_uR, fd_uR, ai_uR, al_uR, zs_uR, ar_uR, true_and, and_true, Option.toList_some, Option.toList_none, List.cons_append, List.nil_append, catS_nil, catS_int, catS_ref, catS_null, catS_long, cat_int, cat_ref, cat_null, Nat.reduceEqDiff, Nat.reduceLeDiff, Nat.reduceAdd, false_and, and_false, if_false, if_true, ite_true, ite_false, true_or, or_true, false_or, or_false, and_self, forall_const, true_implies, reduceCtorEq, clr_int, clr_ref, clr_null, clr_none, clr_long, va_rf_some, va_rf_none, kb1, km, show (1 : Int32) = nI 1 from rfl, show (2 : Int32) = nI 2 from rfl, show (3 : Int32) = nI 3 from rfl, show (4 : Int32) = nI 4 from rfl, show (5 : Int32) = nI 5 from rfl, u1, u2, u3, u4, u5]
  refine sp_R_store A1 hI.1.1 (fun w2 A2 F2 => ?_)
  have fin := nx w2 _ _ ⟨C1.out F2.1 (Nat.le_refl _), A2, R1.M F2, hb, S1.out F2.1 (by omega)⟩ hI.store hT
  simp only [↓s_0_437, ↓s_0_440, ↓s_0_441, kd_uF, ln_uF, ai_uF, al_uF, ar_uF, zs_uF, fd_uF, kd_uA, ln_uA, fd_uA, al_uA, ar_uA, zs_uA, ai_uA, kd_uL, ln_uL, fd_uL, ai_uL, ar_uL, zs_uL, al_uL, kd_uR, ln_uR, fd_uR, ai_uR, al_uR, zs_uR, ar_uR, true_and, and_true, Option.toList_some, Option.toList_none, List.cons_append, List.nil_append, catS_nil, catS_int, catS_ref, catS_null, catS_long, cat_int, cat_ref, cat_null, Nat.reduceEqDiff, Nat.reduceLeDiff, Nat.reduceAdd, false_and, and_false, if_false, if_true, ite_true, ite_false, true_or, or_true, false_or, or_false, and_self, forall_const, true_implies, reduceCtorEq, clr_int, clr_ref, clr_null, clr_none, clr_long, va_rf_some, va_rf_none]
  exact ⟨fin, fun q => absurd trivial q⟩
theorem law_block {w : aw} {x b L n : Nat} {xs : Nat → Int32} {H : hs} {t : tp} (hL : L ≤ 3072) (hn : 6 * n + 6 ≤ L) (nx : LNx x b L xs n) (hW : LWs w x b L xs H t) (hI : LI H n) (hT : TI t) : wp 12 0 LQ 442 [some (.ref b), some (.ref x), some (.ref (x + 80)), some (.int (nI (6 * n)))] [] w 105 177716 := by
  obtain ⟨hC, hA, hR, hb, hS⟩ := hW
  have kx := hC.1.1
  have kb := hS.1
  have h4 : H.1 4 < 2147482000 := by have := hI.2.2.2.2; omega
  have hP : ∀ v, (H.2.2 v).1 8 < 2147483648 := fun v => by have := hI.1.2.1 v; have := hI.1.2.2; omega
  have s1 := hS.at (n := 6 * n) (k := 1) hL (by omega)
  have s2 := hS.at (n := 6 * n) (k := 2) hL (by omega)
  have s3 := hS.at (n := 6 * n) (k := 3) hL (by omega)
  have s4 := hS.at (n := 6 * n) (k := 4) hL (by omega)
  have s5 := hS.at (n := 6 * n) (k := 5) hL (by omega)
  simp only [↓s_0_442, ↓s_0_442n, ↓s_0_443, ↓s_0_443n, ↓s_0_444, ↓s_0_445, ↓s_0_446, ↓s_0_447, ↓s_0_448, ↓s_0_448n, ↓s_0_449, ↓s_0_450, ↓s_0_451, ↓s_0_452, ↓s_0_453, ↓s_0_453n, ↓s_0_454, ↓s_0_455, ↓s_0_456, ↓s_0_457, ↓s_0_458, kd_uF, ln_uF, ai_uF, al_uF, ar_uF, zs_uF, fd_uF, kd_uA, ln_uA, fd_uA, al_uA, ar_uA, zs_uA, ai_uA, kd_uL, ln_uL, fd_uL, ai_uL, ar_uL, zs_uL, al_uL, kd_uR, ln_uR, fd_uR, ai_uR, al_uR, zs_uR, ar_uR, true_and, and_true, Option.toList_some, Option.toList_none, List.cons_append, List.nil_append, catS_nil, catS_int, catS_ref, catS_null, catS_long, cat_int, cat_ref, cat_null, Nat.reduceEqDiff, Nat.reduceLeDiff, Nat.reduceAdd, false_and, and_false, if_false, if_true, ite_true, ite_false, true_or, or_true, false_or, or_false, and_self, forall_const, true_implies, reduceCtorEq, clr_int, clr_ref, clr_null, clr_none, clr_long, va_rf_some, va_rf_none, kb, kx, show (1 : Int32) = nI 1 from rfl, show (2 : Int32) = nI 2 from rfl, show (3 : Int32) = nI 3 from rfl, show (4 : Int32) = nI 4 from rfl, show (5 : Int32) = nI 5 from rfl, s1, s2, s3, s4, s5]
  refine sp_C_block hC.1 hI.1.1 ?_
  have C1 := hC
  have A1 := hA
  have R1 := hR
  have S1 := hS
  have km := A1.1.1
  have kb1 := S1.1
  have u1 := S1.at (n := 6 * n) (k := 1) hL (by omega)
  have u2 := S1.at (n := 6 * n) (k := 2) hL (by omega)
  have u3 := S1.at (n := 6 * n) (k := 3) hL (by omega)
  have u4 := S1.at (n := 6 * n) (k := 4) hL (by omega)
  have u5 := S1.at (n := 6 * n) (k := 5) hL (by omega)
  simp only [↓s_0_461, ↓s_0_461n, ↓s_0_462, ↓s_0_462n, ↓s_0_463, ↓s_0_464, ↓s_0_465, ↓s_0_466, ↓s_0_467, ↓s_0_467n, ↓s_0_468, ↓s_0_469, ↓s_0_470, ↓s_0_471, ↓s_0_472, ↓s_0_472n, ↓s_0_473, ↓s_0_474, ↓s_0_475, ↓s_0_476, ↓s_0_477, kd_uF, ln_uF, ai_uF, al_uF, ar_uF, zs_uF, fd_uF, kd_uA, ln_uA, fd_uA, al_uA, ar_uA, zs_uA, ai_uA, kd_uL, ln_uL, fd_uL, ai_uL, ar_uL, zs_uL, al_uL, kd_uR, ln_uR, fd_uR, ai_uR, al_uR, zs_uR, ar_uR, true_and, and_true, Option.toList_some, Option.toList_none, List.cons_append, List.nil_append, catS_nil, catS_int, catS_ref, catS_null, catS_long, cat_int, cat_ref, cat_null, Nat.reduceEqDiff, Nat.reduceLeDiff, Nat.reduceAdd, false_and, and_false, if_false, if_true, ite_true, ite_false, true_or, or_true, false_or, or_false, and_self, forall_const, true_implies, reduceCtorEq, clr_int, clr_ref, clr_null, clr_none, clr_long, va_rf_some, va_rf_none, kb1, km, show (1 : Int32) = nI 1 from rfl, show (2 : Int32) = nI 2 from rfl, show (3 : Int32) = nI 3 from rfl, show (4 : Int32) = nI 4 from rfl, show (5 : Int32) = nI 5 from rfl, u1, u2, u3, u4, u5]
  refine sp_R_block A1 hI.1.1 ?_
  have fin := nx w _ _ ⟨hC, hA, hR, hb, hS⟩ hI.keep hT
  simp only [↓s_0_480, ↓s_0_483, ↓s_0_484, kd_uF, ln_uF, ai_uF, al_uF, ar_uF, zs_uF, fd_uF, kd_uA, ln_uA, fd_uA, al_uA, ar_uA, zs_uA, ai_uA, kd_uL, ln_uL, fd_uL, ai_uL, ar_uL, zs_uL, al_uL, kd_uR, ln_uR, fd_uR, ai_uR, al_uR, zs_uR, ar_uR, true_and, and_true, Option.toList_some, Option.toList_none, List.cons_append, List.nil_append, catS_nil, catS_int, catS_ref, catS_null, catS_long, cat_int, cat_ref, cat_null, Nat.reduceEqDiff, Nat.reduceLeDiff, Nat.reduceAdd, false_and, and_false, if_false, if_true, ite_true, ite_false, true_or, or_true, false_or, or_false, and_self, forall_const, true_implies, reduceCtorEq, clr_int, clr_ref, clr_null, clr_none, clr_long, va_rf_some, va_rf_none]
  exact ⟨fin, fun q => absurd trivial q⟩
theorem law_switches {w : aw} {x b L n : Nat} {xs : Nat → Int32} {H : hs} {t : tp} (hL : L ≤ 3072) (hn : 6 * n + 6 ≤ L) (nx : LNx x b L xs n) (hW : LWs w x b L xs H t) (hI : LI H n) (hT : TI t) : wp 12 0 LQ 485 [some (.ref b), some (.ref x), some (.ref (x + 80)), some (.int (nI (6 * n)))] [] w 105 177716 := by
  obtain ⟨hC, hA, hR, hb, hS⟩ := hW
  have kx := hC.1.1
  have kb := hS.1
  have h4 : H.1 4 < 2147482000 := by have := hI.2.2.2.2; omega
  have hP : ∀ v, (H.2.2 v).1 8 < 2147483648 := fun v => by have := hI.1.2.1 v; have := hI.1.2.2; omega
  have s1 := hS.at (n := 6 * n) (k := 1) hL (by omega)
  have s2 := hS.at (n := 6 * n) (k := 2) hL (by omega)
  have s3 := hS.at (n := 6 * n) (k := 3) hL (by omega)
  have s4 := hS.at (n := 6 * n) (k := 4) hL (by omega)
  have s5 := hS.at (n := 6 * n) (k := 5) hL (by omega)
  simp only [↓s_0_485, ↓s_0_485n, ↓s_0_486, ↓s_0_486n, ↓s_0_487, ↓s_0_488, ↓s_0_489, ↓s_0_490, ↓s_0_491, ↓s_0_491n, ↓s_0_492, ↓s_0_493, ↓s_0_494, ↓s_0_495, ↓s_0_496, kd_uF, ln_uF, ai_uF, al_uF, ar_uF, zs_uF, fd_uF, kd_uA, ln_uA, fd_uA, al_uA, ar_uA, zs_uA, ai_uA, kd_uL, ln_uL, fd_uL, ai_uL, ar_uL, zs_uL, al_uL, kd_uR, ln_uR, fd_uR, ai_uR, al_uR, zs_uR, ar_uR, true_and, and_true, Option.toList_some, Option.toList_none, List.cons_append, List.nil_append, catS_nil, catS_int, catS_ref, catS_null, catS_long, cat_int, cat_ref, cat_null, Nat.reduceEqDiff, Nat.reduceLeDiff, Nat.reduceAdd, false_and, and_false, if_false, if_true, ite_true, ite_false, true_or, or_true, false_or, or_false, and_self, forall_const, true_implies, reduceCtorEq, clr_int, clr_ref, clr_null, clr_none, clr_long, va_rf_some, va_rf_none, kb, kx, show (1 : Int32) = nI 1 from rfl, show (2 : Int32) = nI 2 from rfl, show (3 : Int32) = nI 3 from rfl, show (4 : Int32) = nI 4 from rfl, show (5 : Int32) = nI 5 from rfl, s1, s2, s3, s4, s5]
  refine sp_C_switches hC.1 hI.1.1 (fun w1 M1 F1 => ?_)
  have C1 := hC.H M1 F1
  have A1 := hA.out F1 (by omega)
  have R1 := hR.out F1 (by omega)
  have S1 := hS.out F1 (by omega)
  have km := A1.1.1
  have kb1 := S1.1
  have u1 := S1.at (n := 6 * n) (k := 1) hL (by omega)
  have u2 := S1.at (n := 6 * n) (k := 2) hL (by omega)
  have u3 := S1.at (n := 6 * n) (k := 3) hL (by omega)
  have u4 := S1.at (n := 6 * n) (k := 4) hL (by omega)
  have u5 := S1.at (n := 6 * n) (k := 5) hL (by omega)
  simp only [↓s_0_499, ↓s_0_499n, ↓s_0_500, ↓s_0_500n, ↓s_0_501, ↓s_0_502, ↓s_0_503, ↓s_0_504, ↓s_0_505, ↓s_0_505n, ↓s_0_506, ↓s_0_507, ↓s_0_508, ↓s_0_509, ↓s_0_510, kd_uF, ln_uF, ai_uF, al_uF, ar_uF, zs_uF, fd_uF, kd_uA, ln_uA, fd_uA, al_uA, ar_uA, zs_uA, ai_uA, kd_uL, ln_uL, fd_uL, ai_uL, ar_uL, zs_uL, al_uL, kd_uR, ln_uR, fd_uR, ai_uR, al_uR, zs_uR, ar_uR, true_and, and_true, Option.toList_some, Option.toList_none, List.cons_append, List.nil_append, catS_nil, catS_int, catS_ref, catS_null, catS_long, cat_int, cat_ref, cat_null, Nat.reduceEqDiff, Nat.reduceLeDiff, Nat.reduceAdd, false_and, and_false, if_false, if_true, ite_true, ite_false, true_or, or_true, false_or, or_false, and_self, forall_const, true_implies, reduceCtorEq, clr_int, clr_ref, clr_null, clr_none, clr_long, va_rf_some, va_rf_none, kb1, km, show (1 : Int32) = nI 1 from rfl, show (2 : Int32) = nI 2 from rfl, show (3 : Int32) = nI 3 from rfl, show (4 : Int32) = nI 4 from rfl, show (5 : Int32) = nI 5 from rfl, u1, u2, u3, u4, u5]
  refine sp_R_switches A1 hI.1.1 (fun w2 A2 F2 => ?_)
  have fin := nx w2 _ _ ⟨C1.out F2.1 (Nat.le_refl _), A2, R1.M F2, hb, S1.out F2.1 (by omega)⟩ hI.switches hT
  simp only [↓s_0_513, ↓s_0_516, ↓s_0_517, kd_uF, ln_uF, ai_uF, al_uF, ar_uF, zs_uF, fd_uF, kd_uA, ln_uA, fd_uA, al_uA, ar_uA, zs_uA, ai_uA, kd_uL, ln_uL, fd_uL, ai_uL, ar_uL, zs_uL, al_uL, kd_uR, ln_uR, fd_uR, ai_uR, al_uR, zs_uR, ar_uR, true_and, and_true, Option.toList_some, Option.toList_none, List.cons_append, List.nil_append, catS_nil, catS_int, catS_ref, catS_null, catS_long, cat_int, cat_ref, cat_null, Nat.reduceEqDiff, Nat.reduceLeDiff, Nat.reduceAdd, false_and, and_false, if_false, if_true, ite_true, ite_false, true_or, or_true, false_or, or_false, and_self, forall_const, true_implies, reduceCtorEq, clr_int, clr_ref, clr_null, clr_none, clr_long, va_rf_some, va_rf_none]
  exact ⟨fin, fun q => absurd trivial q⟩
theorem law_start {w : aw} {x b L n : Nat} {xs : Nat → Int32} {H : hs} {t : tp} (hL : L ≤ 3072) (hn : 6 * n + 6 ≤ L) (nx : LNx x b L xs n) (hW : LWs w x b L xs H t) (hI : LI H n) (hT : TI t) : wp 12 0 LQ 518 [some (.ref b), some (.ref x), some (.ref (x + 80)), some (.int (nI (6 * n)))] [] w 105 177716 := by
  obtain ⟨hC, hA, hR, hb, hS⟩ := hW
  have kx := hC.1.1
  have kb := hS.1
  have h4 : H.1 4 < 2147482000 := by have := hI.2.2.2.2; omega
  have hP : ∀ v, (H.2.2 v).1 8 < 2147483648 := fun v => by have := hI.1.2.1 v; have := hI.1.2.2; omega
  have s1 := hS.at (n := 6 * n) (k := 1) hL (by omega)
  have s2 := hS.at (n := 6 * n) (k := 2) hL (by omega)
  have s3 := hS.at (n := 6 * n) (k := 3) hL (by omega)
  have s4 := hS.at (n := 6 * n) (k := 4) hL (by omega)
  have s5 := hS.at (n := 6 * n) (k := 5) hL (by omega)
  simp only [↓s_0_518, ↓s_0_518n, ↓s_0_519, ↓s_0_519n, ↓s_0_520, ↓s_0_521, ↓s_0_522, ↓s_0_523, ↓s_0_524, ↓s_0_524n, ↓s_0_525, ↓s_0_526, ↓s_0_527, ↓s_0_528, ↓s_0_529, kd_uF, ln_uF, ai_uF, al_uF, ar_uF, zs_uF, fd_uF, kd_uA, ln_uA, fd_uA, al_uA, ar_uA, zs_uA, ai_uA, kd_uL, ln_uL, fd_uL, ai_uL, ar_uL, zs_uL, al_uL, kd_uR, ln_uR, fd_uR, ai_uR, al_uR, zs_uR, ar_uR, true_and, and_true, Option.toList_some, Option.toList_none, List.cons_append, List.nil_append, catS_nil, catS_int, catS_ref, catS_null, catS_long, cat_int, cat_ref, cat_null, Nat.reduceEqDiff, Nat.reduceLeDiff, Nat.reduceAdd, false_and, and_false, if_false, if_true, ite_true, ite_false, true_or, or_true, false_or, or_false, and_self, forall_const, true_implies, reduceCtorEq, clr_int, clr_ref, clr_null, clr_none, clr_long, va_rf_some, va_rf_none, kb, kx, show (1 : Int32) = nI 1 from rfl, show (2 : Int32) = nI 2 from rfl, show (3 : Int32) = nI 3 from rfl, show (4 : Int32) = nI 4 from rfl, show (5 : Int32) = nI 5 from rfl, s1, s2, s3, s4, s5]
  refine sp_C_start hC.1 hI.1.1 (fun w1 M1 F1 => ?_)
  have C1 := hC.H M1 F1
  have A1 := hA.out F1 (by omega)
  have R1 := hR.out F1 (by omega)
  have S1 := hS.out F1 (by omega)
  have km := A1.1.1
  have kb1 := S1.1
  have u1 := S1.at (n := 6 * n) (k := 1) hL (by omega)
  have u2 := S1.at (n := 6 * n) (k := 2) hL (by omega)
  have u3 := S1.at (n := 6 * n) (k := 3) hL (by omega)
  have u4 := S1.at (n := 6 * n) (k := 4) hL (by omega)
  have u5 := S1.at (n := 6 * n) (k := 5) hL (by omega)
  simp only [↓s_0_532, ↓s_0_532n, ↓s_0_533, ↓s_0_533n, ↓s_0_534, ↓s_0_535, ↓s_0_536, ↓s_0_537, ↓s_0_538, ↓s_0_538n, ↓s_0_539, ↓s_0_540, ↓s_0_541, ↓s_0_542, ↓s_0_543, kd_uF, ln_uF, ai_uF, al_uF, ar_uF, zs_uF, fd_uF, kd_uA, ln_uA, fd_uA, al_uA, ar_uA, zs_uA, ai_uA, kd_uL, ln_uL, fd_uL, ai_uL, ar_uL, zs_uL, al_uL, kd_uR, ln_uR, fd_uR, ai_uR, al_uR, zs_uR, ar_uR, true_and, and_true, Option.toList_some, Option.toList_none, List.cons_append, List.nil_append, catS_nil, catS_int, catS_ref, catS_null, catS_long, cat_int, cat_ref, cat_null, Nat.reduceEqDiff, Nat.reduceLeDiff, Nat.reduceAdd, false_and, and_false, if_false, if_true, ite_true, ite_false, true_or, or_true, false_or, or_false, and_self, forall_const, true_implies, reduceCtorEq, clr_int, clr_ref, clr_null, clr_none, clr_long, va_rf_some, va_rf_none, kb1, km, show (1 : Int32) = nI 1 from rfl, show (2 : Int32) = nI 2 from rfl, show (3 : Int32) = nI 3 from rfl, show (4 : Int32) = nI 4 from rfl, show (5 : Int32) = nI 5 from rfl, u1, u2, u3, u4, u5]
  refine sp_R_start A1 hI.1.1 (fun w2 A2 F2 => ?_)
  have fin := nx w2 _ _ ⟨C1.out F2.1 (Nat.le_refl _), A2, R1.M F2, hb, S1.out F2.1 (by omega)⟩ hI.start hT
  simp only [↓s_0_546, ↓s_0_549, ↓s_0_550, kd_uF, ln_uF, ai_uF, al_uF, ar_uF, zs_uF, fd_uF, kd_uA, ln_uA, fd_uA, al_uA, ar_uA, zs_uA, ai_uA, kd_uL, ln_uL, fd_uL, ai_uL, ar_uL, zs_uL, al_uL, kd_uR, ln_uR, fd_uR, ai_uR, al_uR, zs_uR, ar_uR, true_and, and_true, Option.toList_some, Option.toList_none, List.cons_append, List.nil_append, catS_nil, catS_int, catS_ref, catS_null, catS_long, cat_int, cat_ref, cat_null, Nat.reduceEqDiff, Nat.reduceLeDiff, Nat.reduceAdd, false_and, and_false, if_false, if_true, ite_true, ite_false, true_or, or_true, false_or, or_false, and_self, forall_const, true_implies, reduceCtorEq, clr_int, clr_ref, clr_null, clr_none, clr_long, va_rf_some, va_rf_none]
  exact ⟨fin, fun q => absurd trivial q⟩
theorem law_key {w : aw} {x b L n : Nat} {xs : Nat → Int32} {H : hs} {t : tp} (hL : L ≤ 3072) (hn : 6 * n + 6 ≤ L) (nx : LNx x b L xs n) (hW : LWs w x b L xs H t) (hI : LI H n) (hT : TI t) : wp 12 0 LQ 551 [some (.ref b), some (.ref x), some (.ref (x + 80)), some (.int (nI (6 * n)))] [] w 105 177716 := by
  obtain ⟨hC, hA, hR, hb, hS⟩ := hW
  have kx := hC.1.1
  have kb := hS.1
  have h4 : H.1 4 < 2147482000 := by have := hI.2.2.2.2; omega
  have hP : ∀ v, (H.2.2 v).1 8 < 2147483648 := fun v => by have := hI.1.2.1 v; have := hI.1.2.2; omega
  have s1 := hS.at (n := 6 * n) (k := 1) hL (by omega)
  have s2 := hS.at (n := 6 * n) (k := 2) hL (by omega)
  have s3 := hS.at (n := 6 * n) (k := 3) hL (by omega)
  have s4 := hS.at (n := 6 * n) (k := 4) hL (by omega)
  have s5 := hS.at (n := 6 * n) (k := 5) hL (by omega)
  simp only [↓s_0_551, ↓s_0_551n, ↓s_0_552, ↓s_0_552n, ↓s_0_553, ↓s_0_554, ↓s_0_555, ↓s_0_556, ↓s_0_557, ↓s_0_557n, ↓s_0_558, ↓s_0_559, ↓s_0_560, ↓s_0_561, ↓s_0_562, kd_uF, ln_uF, ai_uF, al_uF, ar_uF, zs_uF, fd_uF, kd_uA, ln_uA, fd_uA, al_uA, ar_uA, zs_uA, ai_uA, kd_uL, ln_uL, fd_uL, ai_uL, ar_uL, zs_uL, al_uL, kd_uR, ln_uR, fd_uR, ai_uR, al_uR, zs_uR, ar_uR, true_and, and_true, Option.toList_some, Option.toList_none, List.cons_append, List.nil_append, catS_nil, catS_int, catS_ref, catS_null, catS_long, cat_int, cat_ref, cat_null, Nat.reduceEqDiff, Nat.reduceLeDiff, Nat.reduceAdd, false_and, and_false, if_false, if_true, ite_true, ite_false, true_or, or_true, false_or, or_false, and_self, forall_const, true_implies, reduceCtorEq, clr_int, clr_ref, clr_null, clr_none, clr_long, va_rf_some, va_rf_none, kb, kx, show (1 : Int32) = nI 1 from rfl, show (2 : Int32) = nI 2 from rfl, show (3 : Int32) = nI 3 from rfl, show (4 : Int32) = nI 4 from rfl, show (5 : Int32) = nI 5 from rfl, s1, s2, s3, s4, s5]
  refine sp_C_key hC.1 hI.1.1 hI.2.2.1 (fun w1 M1 F1 => ?_)
  have C1 := hC.H M1 F1
  have A1 := hA.out F1 (by omega)
  have R1 := hR.out F1 (by omega)
  have S1 := hS.out F1 (by omega)
  have km := A1.1.1
  have kb1 := S1.1
  have u1 := S1.at (n := 6 * n) (k := 1) hL (by omega)
  have u2 := S1.at (n := 6 * n) (k := 2) hL (by omega)
  have u3 := S1.at (n := 6 * n) (k := 3) hL (by omega)
  have u4 := S1.at (n := 6 * n) (k := 4) hL (by omega)
  have u5 := S1.at (n := 6 * n) (k := 5) hL (by omega)
  simp only [↓s_0_565, ↓s_0_565n, ↓s_0_566, ↓s_0_566n, ↓s_0_567, ↓s_0_568, ↓s_0_569, ↓s_0_570, ↓s_0_571, ↓s_0_571n, ↓s_0_572, ↓s_0_573, ↓s_0_574, ↓s_0_575, ↓s_0_576, kd_uF, ln_uF, ai_uF, al_uF, ar_uF, zs_uF, fd_uF, kd_uA, ln_uA, fd_uA, al_uA, ar_uA, zs_uA, ai_uA, kd_uL, ln_uL, fd_uL, ai_uL, ar_uL, zs_uL, al_uL, kd_uR, ln_uR, fd_uR, ai_uR, al_uR, zs_uR, ar_uR, true_and, and_true, Option.toList_some, Option.toList_none, List.cons_append, List.nil_append, catS_nil, catS_int, catS_ref, catS_null, catS_long, cat_int, cat_ref, cat_null, Nat.reduceEqDiff, Nat.reduceLeDiff, Nat.reduceAdd, false_and, and_false, if_false, if_true, ite_true, ite_false, true_or, or_true, false_or, or_false, and_self, forall_const, true_implies, reduceCtorEq, clr_int, clr_ref, clr_null, clr_none, clr_long, va_rf_some, va_rf_none, kb1, km, show (1 : Int32) = nI 1 from rfl, show (2 : Int32) = nI 2 from rfl, show (3 : Int32) = nI 3 from rfl, show (4 : Int32) = nI 4 from rfl, show (5 : Int32) = nI 5 from rfl, u1, u2, u3, u4, u5]
  refine sp_R_key A1 hI.1.1 (fun w2 A2 F2 => ?_)
  have fin := nx w2 _ _ ⟨C1.out F2.1 (Nat.le_refl _), A2, R1.M F2, hb, S1.out F2.1 (by omega)⟩ hI.key hT
  simp only [↓s_0_579, ↓s_0_582, ↓s_0_583, kd_uF, ln_uF, ai_uF, al_uF, ar_uF, zs_uF, fd_uF, kd_uA, ln_uA, fd_uA, al_uA, ar_uA, zs_uA, ai_uA, kd_uL, ln_uL, fd_uL, ai_uL, ar_uL, zs_uL, al_uL, kd_uR, ln_uR, fd_uR, ai_uR, al_uR, zs_uR, ar_uR, true_and, and_true, Option.toList_some, Option.toList_none, List.cons_append, List.nil_append, catS_nil, catS_int, catS_ref, catS_null, catS_long, cat_int, cat_ref, cat_null, Nat.reduceEqDiff, Nat.reduceLeDiff, Nat.reduceAdd, false_and, and_false, if_false, if_true, ite_true, ite_false, true_or, or_true, false_or, or_false, and_self, forall_const, true_implies, reduceCtorEq, clr_int, clr_ref, clr_null, clr_none, clr_long, va_rf_some, va_rf_none]
  exact ⟨fin, fun q => absurd trivial q⟩
theorem law_run {w : aw} {x b L n : Nat} {xs : Nat → Int32} {H : hs} {t : tp} (hL : L ≤ 3072) (hn : 6 * n + 6 ≤ L) (nx : LNx x b L xs n) (hW : LWs w x b L xs H t) (hI : LI H n) (hT : TI t) : wp 12 0 LQ 584 [some (.ref b), some (.ref x), some (.ref (x + 80)), some (.int (nI (6 * n)))] [] w 105 177716 := by
  obtain ⟨hC, hA, hR, hb, hS⟩ := hW
  have kx := hC.1.1
  have kb := hS.1
  have h4 : H.1 4 < 2147482000 := by have := hI.2.2.2.2; omega
  have hP : ∀ v, (H.2.2 v).1 8 < 2147483648 := fun v => by have := hI.1.2.1 v; have := hI.1.2.2; omega
  have s1 := hS.at (n := 6 * n) (k := 1) hL (by omega)
  have s2 := hS.at (n := 6 * n) (k := 2) hL (by omega)
  have s3 := hS.at (n := 6 * n) (k := 3) hL (by omega)
  have s4 := hS.at (n := 6 * n) (k := 4) hL (by omega)
  have s5 := hS.at (n := 6 * n) (k := 5) hL (by omega)
  simp only [↓s_0_584, ↓s_0_584n, ↓s_0_585, ↓s_0_585n, ↓s_0_586, ↓s_0_587, ↓s_0_588, ↓s_0_589, ↓s_0_590, kd_uF, ln_uF, ai_uF, al_uF, ar_uF, zs_uF, fd_uF, kd_uA, ln_uA, fd_uA, al_uA, ar_uA, zs_uA, ai_uA, kd_uL, ln_uL, fd_uL, ai_uL, ar_uL, zs_uL, al_uL, kd_uR, ln_uR, fd_uR, ai_uR, al_uR, zs_uR, ar_uR, true_and, and_true, Option.toList_some, Option.toList_none, List.cons_append, List.nil_append, catS_nil, catS_int, catS_ref, catS_null, catS_long, cat_int, cat_ref, cat_null, Nat.reduceEqDiff, Nat.reduceLeDiff, Nat.reduceAdd, false_and, and_false, if_false, if_true, ite_true, ite_false, true_or, or_true, false_or, or_false, and_self, forall_const, true_implies, reduceCtorEq, clr_int, clr_ref, clr_null, clr_none, clr_long, va_rf_some, va_rf_none, kb, kx, show (1 : Int32) = nI 1 from rfl, show (2 : Int32) = nI 2 from rfl, show (3 : Int32) = nI 3 from rfl, show (4 : Int32) = nI 4 from rfl, show (5 : Int32) = nI 5 from rfl, s1, s2, s3, s4, s5]
  refine sp_C_run hC.1 hI.1 hI.2.1 h4 (fun w1 M1 F1 => ?_)
  have C1 := hC.H M1 F1
  have A1 := hA.out F1 (by omega)
  have R1 := hR.out F1 (by omega)
  have S1 := hS.out F1 (by omega)
  have km := A1.1.1
  have kb1 := S1.1
  have u1 := S1.at (n := 6 * n) (k := 1) hL (by omega)
  have u2 := S1.at (n := 6 * n) (k := 2) hL (by omega)
  have u3 := S1.at (n := 6 * n) (k := 3) hL (by omega)
  have u4 := S1.at (n := 6 * n) (k := 4) hL (by omega)
  have u5 := S1.at (n := 6 * n) (k := 5) hL (by omega)
  simp only [↓s_0_593, ↓s_0_593n, ↓s_0_594, ↓s_0_594n, ↓s_0_595, ↓s_0_596, ↓s_0_597, ↓s_0_598, ↓s_0_599, kd_uF, ln_uF, ai_uF, al_uF, ar_uF, zs_uF, fd_uF, kd_uA, ln_uA, fd_uA, al_uA, ar_uA, zs_uA, ai_uA, kd_uL, ln_uL, fd_uL, ai_uL, ar_uL, zs_uL, al_uL, kd_uR, ln_uR, fd_uR, ai_uR, al_uR, zs_uR, ar_uR, true_and, and_true, Option.toList_some, Option.toList_none, List.cons_append, List.nil_append, catS_nil, catS_int, catS_ref, catS_null, catS_long, cat_int, cat_ref, cat_null, Nat.reduceEqDiff, Nat.reduceLeDiff, Nat.reduceAdd, false_and, and_false, if_false, if_true, ite_true, ite_false, true_or, or_true, false_or, or_false, and_self, forall_const, true_implies, reduceCtorEq, clr_int, clr_ref, clr_null, clr_none, clr_long, va_rf_some, va_rf_none, kb1, km, show (1 : Int32) = nI 1 from rfl, show (2 : Int32) = nI 2 from rfl, show (3 : Int32) = nI 3 from rfl, show (4 : Int32) = nI 4 from rfl, show (5 : Int32) = nI 5 from rfl, u1, u2, u3, u4, u5]
  refine sp_R_runs A1 hI.1 h4 (fun w2 A2 F2 => ?_)
  have fin := nx w2 _ _ ⟨C1.out F2.1 (Nat.le_refl _), A2, R1.M F2, hb, S1.out F2.1 (by omega)⟩ hI.run hT
  simp only [↓s_0_602, ↓s_0_605, ↓s_0_606, kd_uF, ln_uF, ai_uF, al_uF, ar_uF, zs_uF, fd_uF, kd_uA, ln_uA, fd_uA, al_uA, ar_uA, zs_uA, ai_uA, kd_uL, ln_uL, fd_uL, ai_uL, ar_uL, zs_uL, al_uL, kd_uR, ln_uR, fd_uR, ai_uR, al_uR, zs_uR, ar_uR, true_and, and_true, Option.toList_some, Option.toList_none, List.cons_append, List.nil_append, catS_nil, catS_int, catS_ref, catS_null, catS_long, cat_int, cat_ref, cat_null, Nat.reduceEqDiff, Nat.reduceLeDiff, Nat.reduceAdd, false_and, and_false, if_false, if_true, ite_true, ite_false, true_or, or_true, false_or, or_false, and_self, forall_const, true_implies, reduceCtorEq, clr_int, clr_ref, clr_null, clr_none, clr_long, va_rf_some, va_rf_none]
  exact ⟨fin, fun q => absurd trivial q⟩
theorem law_about {w : aw} {x b L n : Nat} {xs : Nat → Int32} {H : hs} {t : tp} (hL : L ≤ 3072) (hn : 6 * n + 6 ≤ L) (nx : LNx x b L xs n) (hW : LWs w x b L xs H t) (hI : LI H n) (hT : TI t) : wp 12 0 LQ 607 [some (.ref b), some (.ref x), some (.ref (x + 80)), some (.int (nI (6 * n)))] [] w 105 177716 := by
  obtain ⟨hC, hA, hR, hb, hS⟩ := hW
  have kx := hC.1.1
  have kb := hS.1
  have h4 : H.1 4 < 2147482000 := by have := hI.2.2.2.2; omega
  have hP : ∀ v, (H.2.2 v).1 8 < 2147483648 := fun v => by have := hI.1.2.1 v; have := hI.1.2.2; omega
  have s1 := hS.at (n := 6 * n) (k := 1) hL (by omega)
  have s2 := hS.at (n := 6 * n) (k := 2) hL (by omega)
  have s3 := hS.at (n := 6 * n) (k := 3) hL (by omega)
  have s4 := hS.at (n := 6 * n) (k := 4) hL (by omega)
  have s5 := hS.at (n := 6 * n) (k := 5) hL (by omega)
  simp only [↓s_0_607, ↓s_0_607n, ↓s_0_608, ↓s_0_608n, ↓s_0_609, ↓s_0_610, ↓s_0_611, ↓s_0_612, ↓s_0_613, ↓s_0_613n, ↓s_0_614, ↓s_0_615, ↓s_0_616, ↓s_0_617, ↓s_0_618, kd_uF, ln_uF, ai_uF, al_uF, ar_uF, zs_uF, fd_uF, kd_uA, ln_uA, fd_uA, al_uA, ar_uA, zs_uA, ai_uA, kd_uL, ln_uL, fd_uL, ai_uL, ar_uL, zs_uL, al_uL, kd_uR, ln_uR, fd_uR, ai_uR, al_uR, zs_uR, ar_uR, true_and, and_true, Option.toList_some, Option.toList_none, List.cons_append, List.nil_append, catS_nil, catS_int, catS_ref, catS_null, catS_long, cat_int, cat_ref, cat_null, Nat.reduceEqDiff, Nat.reduceLeDiff, Nat.reduceAdd, false_and, and_false, if_false, if_true, ite_true, ite_false, true_or, or_true, false_or, or_false, and_self, forall_const, true_implies, reduceCtorEq, clr_int, clr_ref, clr_null, clr_none, clr_long, va_rf_some, va_rf_none, kb, kx, show (1 : Int32) = nI 1 from rfl, show (2 : Int32) = nI 2 from rfl, show (3 : Int32) = nI 3 from rfl, show (4 : Int32) = nI 4 from rfl, show (5 : Int32) = nI 5 from rfl, s1, s2, s3, s4, s5]
  refine sp_C_about hC.1 hI.1.1 ?_
  have C1 := hC
  have A1 := hA
  have R1 := hR
  have S1 := hS
  have km := A1.1.1
  have kb1 := S1.1
  have u1 := S1.at (n := 6 * n) (k := 1) hL (by omega)
  have u2 := S1.at (n := 6 * n) (k := 2) hL (by omega)
  have u3 := S1.at (n := 6 * n) (k := 3) hL (by omega)
  have u4 := S1.at (n := 6 * n) (k := 4) hL (by omega)
  have u5 := S1.at (n := 6 * n) (k := 5) hL (by omega)
  simp only [↓s_0_621, ↓s_0_621n, ↓s_0_622, ↓s_0_622n, ↓s_0_623, ↓s_0_624, ↓s_0_625, ↓s_0_626, ↓s_0_627, ↓s_0_627n, ↓s_0_628, ↓s_0_629, ↓s_0_630, ↓s_0_631, ↓s_0_632, kd_uF, ln_uF, ai_uF, al_uF, ar_uF, zs_uF, fd_uF, kd_uA, ln_uA, fd_uA, al_uA, ar_uA, zs_uA, ai_uA, kd_uL, ln_uL, fd_uL, ai_uL, ar_uL, zs_uL, al_uL, kd_uR, ln_uR, fd_uR, ai_uR, al_uR, zs_uR, ar_uR, true_and, and_true, Option.toList_some, Option.toList_none, List.cons_append, List.nil_append, catS_nil, catS_int, catS_ref, catS_null, catS_long, cat_int, cat_ref, cat_null, Nat.reduceEqDiff, Nat.reduceLeDiff, Nat.reduceAdd, false_and, and_false, if_false, if_true, ite_true, ite_false, true_or, or_true, false_or, or_false, and_self, forall_const, true_implies, reduceCtorEq, clr_int, clr_ref, clr_null, clr_none, clr_long, va_rf_some, va_rf_none, kb1, km, show (1 : Int32) = nI 1 from rfl, show (2 : Int32) = nI 2 from rfl, show (3 : Int32) = nI 3 from rfl, show (4 : Int32) = nI 4 from rfl, show (5 : Int32) = nI 5 from rfl, u1, u2, u3, u4, u5]
  refine sp_R_about A1 hI.1.1 ?_
  have fin := nx w _ _ ⟨hC, hA, hR, hb, hS⟩ hI.keep hT
  simp only [↓s_0_635, ↓s_0_638, ↓s_0_639, kd_uF, ln_uF, ai_uF, al_uF, ar_uF, zs_uF, fd_uF, kd_uA, ln_uA, fd_uA, al_uA, ar_uA, zs_uA, ai_uA, kd_uL, ln_uL, fd_uL, ai_uL, ar_uL, zs_uL, al_uL, kd_uR, ln_uR, fd_uR, ai_uR, al_uR, zs_uR, ar_uR, true_and, and_true, Option.toList_some, Option.toList_none, List.cons_append, List.nil_append, catS_nil, catS_int, catS_ref, catS_null, catS_long, cat_int, cat_ref, cat_null, Nat.reduceEqDiff, Nat.reduceLeDiff, Nat.reduceAdd, false_and, and_false, if_false, if_true, ite_true, ite_false, true_or, or_true, false_or, or_false, and_self, forall_const, true_implies, reduceCtorEq, clr_int, clr_ref, clr_null, clr_none, clr_long, va_rf_some, va_rf_none]
  exact ⟨fin, fun q => absurd trivial q⟩
theorem law_letter {w : aw} {x b L n : Nat} {xs : Nat → Int32} {H : hs} {t : tp} (hL : L ≤ 3072) (hn : 6 * n + 6 ≤ L) (nx : LNx x b L xs n) (hW : LWs w x b L xs H t) (hI : LI H n) (hT : TI t) : wp 12 0 LQ 640 [some (.ref b), some (.ref x), some (.ref (x + 80)), some (.int (nI (6 * n)))] [] w 105 177716 := by
  obtain ⟨hC, hA, hR, hb, hS⟩ := hW
  have kx := hC.1.1
  have kb := hS.1
  have h4 : H.1 4 < 2147482000 := by have := hI.2.2.2.2; omega
  have hP : ∀ v, (H.2.2 v).1 8 < 2147483648 := fun v => by have := hI.1.2.1 v; have := hI.1.2.2; omega
  have s1 := hS.at (n := 6 * n) (k := 1) hL (by omega)
  have s2 := hS.at (n := 6 * n) (k := 2) hL (by omega)
  have s3 := hS.at (n := 6 * n) (k := 3) hL (by omega)
  have s4 := hS.at (n := 6 * n) (k := 4) hL (by omega)
  have s5 := hS.at (n := 6 * n) (k := 5) hL (by omega)
  simp only [↓s_0_640, ↓s_0_640n, ↓s_0_641, ↓s_0_641n, ↓s_0_642, ↓s_0_643, ↓s_0_644, ↓s_0_645, ↓s_0_646, ↓s_0_646n, ↓s_0_647, ↓s_0_648, ↓s_0_649, ↓s_0_650, ↓s_0_651, kd_uF, ln_uF, ai_uF, al_uF, ar_uF, zs_uF, fd_uF, kd_uA, ln_uA, fd_uA, al_uA, ar_uA, zs_uA, ai_uA, kd_uL, ln_uL, fd_uL, ai_uL, ar_uL, zs_uL, al_uL, kd_uR, ln_uR, fd_uR, ai_uR, al_uR, zs_uR, ar_uR, true_and, and_true, Option.toList_some, Option.toList_none, List.cons_append, List.nil_append, catS_nil, catS_int, catS_ref, catS_null, catS_long, cat_int, cat_ref, cat_null, Nat.reduceEqDiff, Nat.reduceLeDiff, Nat.reduceAdd, false_and, and_false, if_false, if_true, ite_true, ite_false, true_or, or_true, false_or, or_false, and_self, forall_const, true_implies, reduceCtorEq, clr_int, clr_ref, clr_null, clr_none, clr_long, va_rf_some, va_rf_none, kb, kx, show (1 : Int32) = nI 1 from rfl, show (2 : Int32) = nI 2 from rfl, show (3 : Int32) = nI 3 from rfl, show (4 : Int32) = nI 4 from rfl, show (5 : Int32) = nI 5 from rfl, s1, s2, s3, s4, s5]
  refine sp_C_letter hC.1 hI.1.1 hP ?_
  have C1 := hC
  have A1 := hA
  have R1 := hR
  have S1 := hS
  have km := A1.1.1
  have kb1 := S1.1
  have u1 := S1.at (n := 6 * n) (k := 1) hL (by omega)
  have u2 := S1.at (n := 6 * n) (k := 2) hL (by omega)
  have u3 := S1.at (n := 6 * n) (k := 3) hL (by omega)
  have u4 := S1.at (n := 6 * n) (k := 4) hL (by omega)
  have u5 := S1.at (n := 6 * n) (k := 5) hL (by omega)
  simp only [↓s_0_654, ↓s_0_654n, ↓s_0_655, ↓s_0_655n, ↓s_0_656, ↓s_0_657, ↓s_0_658, ↓s_0_659, ↓s_0_660, ↓s_0_660n, ↓s_0_661, ↓s_0_662, ↓s_0_663, ↓s_0_664, ↓s_0_665, kd_uF, ln_uF, ai_uF, al_uF, ar_uF, zs_uF, fd_uF, kd_uA, ln_uA, fd_uA, al_uA, ar_uA, zs_uA, ai_uA, kd_uL, ln_uL, fd_uL, ai_uL, ar_uL, zs_uL, al_uL, kd_uR, ln_uR, fd_uR, ai_uR, al_uR, zs_uR, ar_uR, true_and, and_true, Option.toList_some, Option.toList_none, List.cons_append, List.nil_append, catS_nil, catS_int, catS_ref, catS_null, catS_long, cat_int, cat_ref, cat_null, Nat.reduceEqDiff, Nat.reduceLeDiff, Nat.reduceAdd, false_and, and_false, if_false, if_true, ite_true, ite_false, true_or, or_true, false_or, or_false, and_self, forall_const, true_implies, reduceCtorEq, clr_int, clr_ref, clr_null, clr_none, clr_long, va_rf_some, va_rf_none, kb1, km, show (1 : Int32) = nI 1 from rfl, show (2 : Int32) = nI 2 from rfl, show (3 : Int32) = nI 3 from rfl, show (4 : Int32) = nI 4 from rfl, show (5 : Int32) = nI 5 from rfl, u1, u2, u3, u4, u5]
  refine sp_R_letter A1 hI.1.1 hP ?_
  have fin := nx w _ _ ⟨hC, hA, hR, hb, hS⟩ hI.keep hT
  simp only [↓s_0_668, ↓s_0_671, ↓s_0_672, kd_uF, ln_uF, ai_uF, al_uF, ar_uF, zs_uF, fd_uF, kd_uA, ln_uA, fd_uA, al_uA, ar_uA, zs_uA, ai_uA, kd_uL, ln_uL, fd_uL, ai_uL, ar_uL, zs_uL, al_uL, kd_uR, ln_uR, fd_uR, ai_uR, al_uR, zs_uR, ar_uR, true_and, and_true, Option.toList_some, Option.toList_none, List.cons_append, List.nil_append, catS_nil, catS_int, catS_ref, catS_null, catS_long, cat_int, cat_ref, cat_null, Nat.reduceEqDiff, Nat.reduceLeDiff, Nat.reduceAdd, false_and, and_false, if_false, if_true, ite_true, ite_false, true_or, or_true, false_or, or_false, and_self, forall_const, true_implies, reduceCtorEq, clr_int, clr_ref, clr_null, clr_none, clr_long, va_rf_some, va_rf_none]
  exact ⟨fin, fun q => absurd trivial q⟩
theorem law_waiting {w : aw} {x b L n : Nat} {xs : Nat → Int32} {H : hs} {t : tp} (hL : L ≤ 3072) (hn : 6 * n + 6 ≤ L) (nx : LNx x b L xs n) (hW : LWs w x b L xs H t) (hI : LI H n) (hT : TI t) : wp 12 0 LQ 673 [some (.ref b), some (.ref x), some (.ref (x + 80)), some (.int (nI (6 * n)))] [] w 105 177716 := by
  obtain ⟨hC, hA, hR, hb, hS⟩ := hW
  have kx := hC.1.1
  have kb := hS.1
  have h4 : H.1 4 < 2147482000 := by have := hI.2.2.2.2; omega
  have hP : ∀ v, (H.2.2 v).1 8 < 2147483648 := fun v => by have := hI.1.2.1 v; have := hI.1.2.2; omega
  have s1 := hS.at (n := 6 * n) (k := 1) hL (by omega)
  have s2 := hS.at (n := 6 * n) (k := 2) hL (by omega)
  have s3 := hS.at (n := 6 * n) (k := 3) hL (by omega)
  have s4 := hS.at (n := 6 * n) (k := 4) hL (by omega)
  have s5 := hS.at (n := 6 * n) (k := 5) hL (by omega)
  simp only [↓s_0_673, ↓s_0_673n, ↓s_0_674, ↓s_0_674n, ↓s_0_675, ↓s_0_676, ↓s_0_677, ↓s_0_678, ↓s_0_679, ↓s_0_679n, ↓s_0_680, ↓s_0_681, ↓s_0_682, ↓s_0_683, ↓s_0_684, kd_uF, ln_uF, ai_uF, al_uF, ar_uF, zs_uF, fd_uF, kd_uA, ln_uA, fd_uA, al_uA, ar_uA, zs_uA, ai_uA, kd_uL, ln_uL, fd_uL, ai_uL, ar_uL, zs_uL, al_uL, kd_uR, ln_uR, fd_uR, ai_uR, al_uR, zs_uR, ar_uR, true_and, and_true, Option.toList_some, Option.toList_none, List.cons_append, List.nil_append, catS_nil, catS_int, catS_ref, catS_null, catS_long, cat_int, cat_ref, cat_null, Nat.reduceEqDiff, Nat.reduceLeDiff, Nat.reduceAdd, false_and, and_false, if_false, if_true, ite_true, ite_false, true_or, or_true, false_or, or_false, and_self, forall_const, true_implies, reduceCtorEq, clr_int, clr_ref, clr_null, clr_none, clr_long, va_rf_some, va_rf_none, kb, kx, show (1 : Int32) = nI 1 from rfl, show (2 : Int32) = nI 2 from rfl, show (3 : Int32) = nI 3 from rfl, show (4 : Int32) = nI 4 from rfl, show (5 : Int32) = nI 5 from rfl, s1, s2, s3, s4, s5]
  refine sp_C_waiting hC.1 hI.1.1 ?_
  have C1 := hC
  have A1 := hA
  have R1 := hR
  have S1 := hS
  have km := A1.1.1
  have kb1 := S1.1
  have u1 := S1.at (n := 6 * n) (k := 1) hL (by omega)
  have u2 := S1.at (n := 6 * n) (k := 2) hL (by omega)
  have u3 := S1.at (n := 6 * n) (k := 3) hL (by omega)
  have u4 := S1.at (n := 6 * n) (k := 4) hL (by omega)
  have u5 := S1.at (n := 6 * n) (k := 5) hL (by omega)
  simp only [↓s_0_687, ↓s_0_687n, ↓s_0_688, ↓s_0_688n, ↓s_0_689, ↓s_0_690, ↓s_0_691, ↓s_0_692, ↓s_0_693, ↓s_0_693n, ↓s_0_694, ↓s_0_695, ↓s_0_696, ↓s_0_697, ↓s_0_698, kd_uF, ln_uF, ai_uF, al_uF, ar_uF, zs_uF, fd_uF, kd_uA, ln_uA, fd_uA, al_uA, ar_uA, zs_uA, ai_uA, kd_uL, ln_uL, fd_uL, ai_uL, ar_uL, zs_uL, al_uL, kd_uR, ln_uR, fd_uR, ai_uR, al_uR, zs_uR, ar_uR, true_and, and_true, Option.toList_some, Option.toList_none, List.cons_append, List.nil_append, catS_nil, catS_int, catS_ref, catS_null, catS_long, cat_int, cat_ref, cat_null, Nat.reduceEqDiff, Nat.reduceLeDiff, Nat.reduceAdd, false_and, and_false, if_false, if_true, ite_true, ite_false, true_or, or_true, false_or, or_false, and_self, forall_const, true_implies, reduceCtorEq, clr_int, clr_ref, clr_null, clr_none, clr_long, va_rf_some, va_rf_none, kb1, km, show (1 : Int32) = nI 1 from rfl, show (2 : Int32) = nI 2 from rfl, show (3 : Int32) = nI 3 from rfl, show (4 : Int32) = nI 4 from rfl, show (5 : Int32) = nI 5 from rfl, u1, u2, u3, u4, u5]
  refine sp_R_waiting A1 hI.1.1 ?_
  have fin := nx w _ _ ⟨hC, hA, hR, hb, hS⟩ hI.keep hT
  simp only [↓s_0_701, ↓s_0_704, ↓s_0_705, kd_uF, ln_uF, ai_uF, al_uF, ar_uF, zs_uF, fd_uF, kd_uA, ln_uA, fd_uA, al_uA, ar_uA, zs_uA, ai_uA, kd_uL, ln_uL, fd_uL, ai_uL, ar_uL, zs_uL, al_uL, kd_uR, ln_uR, fd_uR, ai_uR, al_uR, zs_uR, ar_uR, true_and, and_true, Option.toList_some, Option.toList_none, List.cons_append, List.nil_append, catS_nil, catS_int, catS_ref, catS_null, catS_long, cat_int, cat_ref, cat_null, Nat.reduceEqDiff, Nat.reduceLeDiff, Nat.reduceAdd, false_and, and_false, if_false, if_true, ite_true, ite_false, true_or, or_true, false_or, or_false, and_self, forall_const, true_implies, reduceCtorEq, clr_int, clr_ref, clr_null, clr_none, clr_long, va_rf_some, va_rf_none]
  exact ⟨fin, fun q => absurd trivial q⟩
theorem law_queued {w : aw} {x b L n : Nat} {xs : Nat → Int32} {H : hs} {t : tp} (hL : L ≤ 3072) (hn : 6 * n + 6 ≤ L) (nx : LNx x b L xs n) (hW : LWs w x b L xs H t) (hI : LI H n) (hT : TI t) : wp 12 0 LQ 706 [some (.ref b), some (.ref x), some (.ref (x + 80)), some (.int (nI (6 * n)))] [] w 105 177716 := by
  obtain ⟨hC, hA, hR, hb, hS⟩ := hW
  have kx := hC.1.1
  have kb := hS.1
  have h4 : H.1 4 < 2147482000 := by have := hI.2.2.2.2; omega
  have hP : ∀ v, (H.2.2 v).1 8 < 2147483648 := fun v => by have := hI.1.2.1 v; have := hI.1.2.2; omega
  have s1 := hS.at (n := 6 * n) (k := 1) hL (by omega)
  have s2 := hS.at (n := 6 * n) (k := 2) hL (by omega)
  have s3 := hS.at (n := 6 * n) (k := 3) hL (by omega)
  have s4 := hS.at (n := 6 * n) (k := 4) hL (by omega)
  have s5 := hS.at (n := 6 * n) (k := 5) hL (by omega)
  simp only [↓s_0_706, ↓s_0_706n, ↓s_0_707, ↓s_0_707n, ↓s_0_708, ↓s_0_709, ↓s_0_710, ↓s_0_711, ↓s_0_712, ↓s_0_712n, ↓s_0_713, ↓s_0_714, ↓s_0_715, ↓s_0_716, ↓s_0_717, kd_uF, ln_uF, ai_uF, al_uF, ar_uF, zs_uF, fd_uF, kd_uA, ln_uA, fd_uA, al_uA, ar_uA, zs_uA, ai_uA, kd_uL, ln_uL, fd_uL, ai_uL, ar_uL, zs_uL, al_uL, kd_uR, ln_uR, fd_uR, ai_uR, al_uR, zs_uR, ar_uR, true_and, and_true, Option.toList_some, Option.toList_none, List.cons_append, List.nil_append, catS_nil, catS_int, catS_ref, catS_null, catS_long, cat_int, cat_ref, cat_null, Nat.reduceEqDiff, Nat.reduceLeDiff, Nat.reduceAdd, false_and, and_false, if_false, if_true, ite_true, ite_false, true_or, or_true, false_or, or_false, and_self, forall_const, true_implies, reduceCtorEq, clr_int, clr_ref, clr_null, clr_none, clr_long, va_rf_some, va_rf_none, kb, kx, show (1 : Int32) = nI 1 from rfl, show (2 : Int32) = nI 2 from rfl, show (3 : Int32) = nI 3 from rfl, show (4 : Int32) = nI 4 from rfl, show (5 : Int32) = nI 5 from rfl, s1, s2, s3, s4, s5]
  refine sp_C_queued hC.1 hI.1.1 ?_
  have C1 := hC
  have A1 := hA
  have R1 := hR
  have S1 := hS
  have km := A1.1.1
  have kb1 := S1.1
  have u1 := S1.at (n := 6 * n) (k := 1) hL (by omega)
  have u2 := S1.at (n := 6 * n) (k := 2) hL (by omega)
  have u3 := S1.at (n := 6 * n) (k := 3) hL (by omega)
  have u4 := S1.at (n := 6 * n) (k := 4) hL (by omega)
  have u5 := S1.at (n := 6 * n) (k := 5) hL (by omega)
  simp only [↓s_0_720, ↓s_0_720n, ↓s_0_721, ↓s_0_721n, ↓s_0_722, ↓s_0_723, ↓s_0_724, ↓s_0_725, ↓s_0_726, ↓s_0_726n, ↓s_0_727, ↓s_0_728, ↓s_0_729, ↓s_0_730, ↓s_0_731, kd_uF, ln_uF, ai_uF, al_uF, ar_uF, zs_uF, fd_uF, kd_uA, ln_uA, fd_uA, al_uA, ar_uA, zs_uA, ai_uA, kd_uL, ln_uL, fd_uL, ai_uL, ar_uL, zs_uL, al_uL, kd_uR, ln_uR, fd_uR, ai_uR, al_uR, zs_uR, ar_uR, true_and, and_true, Option.toList_some, Option.toList_none, List.cons_append, List.nil_append, catS_nil, catS_int, catS_ref, catS_null, catS_long, cat_int, cat_ref, cat_null, Nat.reduceEqDiff, Nat.reduceLeDiff, Nat.reduceAdd, false_and, and_false, if_false, if_true, ite_true, ite_false, true_or, or_true, false_or, or_false, and_self, forall_const, true_implies, reduceCtorEq, clr_int, clr_ref, clr_null, clr_none, clr_long, va_rf_some, va_rf_none, kb1, km, show (1 : Int32) = nI 1 from rfl, show (2 : Int32) = nI 2 from rfl, show (3 : Int32) = nI 3 from rfl, show (4 : Int32) = nI 4 from rfl, show (5 : Int32) = nI 5 from rfl, u1, u2, u3, u4, u5]
  refine sp_R_queued A1 hI.1.1 ?_
  have fin := nx w _ _ ⟨hC, hA, hR, hb, hS⟩ hI.keep hT
  simp only [↓s_0_734, ↓s_0_737, ↓s_0_738, kd_uF, ln_uF, ai_uF, al_uF, ar_uF, zs_uF, fd_uF, kd_uA, ln_uA, fd_uA, al_uA, ar_uA, zs_uA, ai_uA, kd_uL, ln_uL, fd_uL, ai_uL, ar_uL, zs_uL, al_uL, kd_uR, ln_uR, fd_uR, ai_uR, al_uR, zs_uR, ar_uR, true_and, and_true, Option.toList_some, Option.toList_none, List.cons_append, List.nil_append, catS_nil, catS_int, catS_ref, catS_null, catS_long, cat_int, cat_ref, cat_null, Nat.reduceEqDiff, Nat.reduceLeDiff, Nat.reduceAdd, false_and, and_false, if_false, if_true, ite_true, ite_false, true_or, or_true, false_or, or_false, and_self, forall_const, true_implies, reduceCtorEq, clr_int, clr_ref, clr_null, clr_none, clr_long, va_rf_some, va_rf_none]
  exact ⟨fin, fun q => absurd trivial q⟩
theorem law_house {w : aw} {x b L n : Nat} {xs : Nat → Int32} {H : hs} {t : tp} (hL : L ≤ 3072) (hn : 6 * n + 6 ≤ L) (nx : LNx x b L xs n) (hW : LWs w x b L xs H t) (hI : LI H n) (hT : TI t) : wp 12 0 LQ 739 [some (.ref b), some (.ref x), some (.ref (x + 80)), some (.int (nI (6 * n)))] [] w 105 177716 := by
  obtain ⟨hC, hA, hR, hb, hS⟩ := hW
  have kx := hC.1.1
  have kb := hS.1
  have h4 : H.1 4 < 2147482000 := by have := hI.2.2.2.2; omega
  have hP : ∀ v, (H.2.2 v).1 8 < 2147483648 := fun v => by have := hI.1.2.1 v; have := hI.1.2.2; omega
  have s1 := hS.at (n := 6 * n) (k := 1) hL (by omega)
  have s2 := hS.at (n := 6 * n) (k := 2) hL (by omega)
  have s3 := hS.at (n := 6 * n) (k := 3) hL (by omega)
  have s4 := hS.at (n := 6 * n) (k := 4) hL (by omega)
  have s5 := hS.at (n := 6 * n) (k := 5) hL (by omega)
  simp only [↓s_0_739, ↓s_0_739n, ↓s_0_740, ↓s_0_740n, ↓s_0_741, ↓s_0_742, ↓s_0_743, ↓s_0_744, ↓s_0_745, kd_uF, ln_uF, ai_uF, al_uF, ar_uF, zs_uF, fd_uF, kd_uA, ln_uA, fd_uA, al_uA, ar_uA, zs_uA, ai_uA, kd_uL, ln_uL, fd_uL, ai_uL, ar_uL, zs_uL, al_uL, kd_uR, ln_uR, fd_uR, ai_uR, al_uR, zs_uR, ar_uR, true_and, and_true, Option.toList_some, Option.toList_none, List.cons_append, List.nil_append, catS_nil, catS_int, catS_ref, catS_null, catS_long, cat_int, cat_ref, cat_null, Nat.reduceEqDiff, Nat.reduceLeDiff, Nat.reduceAdd, false_and, and_false, if_false, if_true, ite_true, ite_false, true_or, or_true, false_or, or_false, and_self, forall_const, true_implies, reduceCtorEq, clr_int, clr_ref, clr_null, clr_none, clr_long, va_rf_some, va_rf_none, kb, kx, show (1 : Int32) = nI 1 from rfl, show (2 : Int32) = nI 2 from rfl, show (3 : Int32) = nI 3 from rfl, show (4 : Int32) = nI 4 from rfl, show (5 : Int32) = nI 5 from rfl, s1, s2, s3, s4, s5]
  refine sp_C_house hC.1 hI.1.1 ?_
  have C1 := hC
  have A1 := hA
  have R1 := hR
  have S1 := hS
  have km := A1.1.1
  have kb1 := S1.1
  have u1 := S1.at (n := 6 * n) (k := 1) hL (by omega)
  have u2 := S1.at (n := 6 * n) (k := 2) hL (by omega)
  have u3 := S1.at (n := 6 * n) (k := 3) hL (by omega)
  have u4 := S1.at (n := 6 * n) (k := 4) hL (by omega)
  have u5 := S1.at (n := 6 * n) (k := 5) hL (by omega)
  simp only [↓s_0_748, ↓s_0_748n, ↓s_0_749, ↓s_0_749n, ↓s_0_750, ↓s_0_751, ↓s_0_752, ↓s_0_753, ↓s_0_754, kd_uF, ln_uF, ai_uF, al_uF, ar_uF, zs_uF, fd_uF, kd_uA, ln_uA, fd_uA, al_uA, ar_uA, zs_uA, ai_uA, kd_uL, ln_uL, fd_uL, ai_uL, ar_uL, zs_uL, al_uL, kd_uR, ln_uR, fd_uR, ai_uR, al_uR, zs_uR, ar_uR, true_and, and_true, Option.toList_some, Option.toList_none, List.cons_append, List.nil_append, catS_nil, catS_int, catS_ref, catS_null, catS_long, cat_int, cat_ref, cat_null, Nat.reduceEqDiff, Nat.reduceLeDiff, Nat.reduceAdd, false_and, and_false, if_false, if_true, ite_true, ite_false, true_or, or_true, false_or, or_false, and_self, forall_const, true_implies, reduceCtorEq, clr_int, clr_ref, clr_null, clr_none, clr_long, va_rf_some, va_rf_none, kb1, km, show (1 : Int32) = nI 1 from rfl, show (2 : Int32) = nI 2 from rfl, show (3 : Int32) = nI 3 from rfl, show (4 : Int32) = nI 4 from rfl, show (5 : Int32) = nI 5 from rfl, u1, u2, u3, u4, u5]
  refine sp_R_house A1 hI.1.1 ?_
  have fin := nx w _ _ ⟨hC, hA, hR, hb, hS⟩ hI.keep hT
  simp only [↓s_0_757, ↓s_0_760, ↓s_0_761, kd_uF, ln_uF, ai_uF, al_uF, ar_uF, zs_uF, fd_uF, kd_uA, ln_uA, fd_uA, al_uA, ar_uA, zs_uA, ai_uA, kd_uL, ln_uL, fd_uL, ai_uL, ar_uL, zs_uL, al_uL, kd_uR, ln_uR, fd_uR, ai_uR, al_uR, zs_uR, ar_uR, true_and, and_true, Option.toList_some, Option.toList_none, List.cons_append, List.nil_append, catS_nil, catS_int, catS_ref, catS_null, catS_long, cat_int, cat_ref, cat_null, Nat.reduceEqDiff, Nat.reduceLeDiff, Nat.reduceAdd, false_and, and_false, if_false, if_true, ite_true, ite_false, true_or, or_true, false_or, or_false, and_self, forall_const, true_implies, reduceCtorEq, clr_int, clr_ref, clr_null, clr_none, clr_long, va_rf_some, va_rf_none]
  exact ⟨fin, fun q => absurd trivial q⟩
theorem law_row {w : aw} {x b L n : Nat} {xs : Nat → Int32} {H : hs} {t : tp} (hL : L ≤ 3072) (hn : 6 * n + 6 ≤ L) (nx : LNx x b L xs n) (hW : LWs w x b L xs H t) (hI : LI H n) (hT : TI t) : wp 12 0 LQ 762 [some (.ref b), some (.ref x), some (.ref (x + 80)), some (.int (nI (6 * n)))] [] w 105 177716 := by
  obtain ⟨hC, hA, hR, hb, hS⟩ := hW
  have kx := hC.1.1
  have kb := hS.1
  have h4 : H.1 4 < 2147482000 := by have := hI.2.2.2.2; omega
  have hP : ∀ v, (H.2.2 v).1 8 < 2147483648 := fun v => by have := hI.1.2.1 v; have := hI.1.2.2; omega
  have s1 := hS.at (n := 6 * n) (k := 1) hL (by omega)
  have s2 := hS.at (n := 6 * n) (k := 2) hL (by omega)
  have s3 := hS.at (n := 6 * n) (k := 3) hL (by omega)
  have s4 := hS.at (n := 6 * n) (k := 4) hL (by omega)
  have s5 := hS.at (n := 6 * n) (k := 5) hL (by omega)
  simp only [↓s_0_762, ↓s_0_762n, ↓s_0_763, ↓s_0_763n, ↓s_0_764, ↓s_0_765, ↓s_0_766, ↓s_0_767, ↓s_0_768, kd_uF, ln_uF, ai_uF, al_uF, ar_uF, zs_uF, fd_uF, kd_uA, ln_uA, fd_uA, al_uA, ar_uA, zs_uA, ai_uA, kd_uL, ln_uL, fd_uL, ai_uL, ar_uL, zs_uL, al_uL, kd_uR, ln_uR, fd_uR, ai_uR, al_uR, zs_uR, ar_uR, true_and, and_true, Option.toList_some, Option.toList_none, List.cons_append, List.nil_append, catS_nil, catS_int, catS_ref, catS_null, catS_long, cat_int, cat_ref, cat_null, Nat.reduceEqDiff, Nat.reduceLeDiff, Nat.reduceAdd, false_and, and_false, if_false, if_true, ite_true, ite_false, true_or, or_true, false_or, or_false, and_self, forall_const, true_implies, reduceCtorEq, clr_int, clr_ref, clr_null, clr_none, clr_long, va_rf_some, va_rf_none, kb, kx, show (1 : Int32) = nI 1 from rfl, show (2 : Int32) = nI 2 from rfl, show (3 : Int32) = nI 3 from rfl, show (4 : Int32) = nI 4 from rfl, show (5 : Int32) = nI 5 from rfl, s1, s2, s3, s4, s5]
  refine sp_C_row hC.1 hI.1.1 ?_
  have C1 := hC
  have A1 := hA
  have R1 := hR
  have S1 := hS
  have km := A1.1.1
  have kb1 := S1.1
  have u1 := S1.at (n := 6 * n) (k := 1) hL (by omega)
  have u2 := S1.at (n := 6 * n) (k := 2) hL (by omega)
  have u3 := S1.at (n := 6 * n) (k := 3) hL (by omega)
  have u4 := S1.at (n := 6 * n) (k := 4) hL (by omega)
  have u5 := S1.at (n := 6 * n) (k := 5) hL (by omega)
  simp only [↓s_0_771, ↓s_0_771n, ↓s_0_772, ↓s_0_772n, ↓s_0_773, ↓s_0_774, ↓s_0_775, ↓s_0_776, ↓s_0_777, kd_uF, ln_uF, ai_uF, al_uF, ar_uF, zs_uF, fd_uF, kd_uA, ln_uA, fd_uA, al_uA, ar_uA, zs_uA, ai_uA, kd_uL, ln_uL, fd_uL, ai_uL, ar_uL, zs_uL, al_uL, kd_uR, ln_uR, fd_uR, ai_uR, al_uR, zs_uR, ar_uR, true_and, and_true, Option.toList_some, Option.toList_none, List.cons_append, List.nil_append, catS_nil, catS_int, catS_ref, catS_null, catS_long, cat_int, cat_ref, cat_null, Nat.reduceEqDiff, Nat.reduceLeDiff, Nat.reduceAdd, false_and, and_false, if_false, if_true, ite_true, ite_false, true_or, or_true, false_or, or_false, and_self, forall_const, true_implies, reduceCtorEq, clr_int, clr_ref, clr_null, clr_none, clr_long, va_rf_some, va_rf_none, kb1, km, show (1 : Int32) = nI 1 from rfl, show (2 : Int32) = nI 2 from rfl, show (3 : Int32) = nI 3 from rfl, show (4 : Int32) = nI 4 from rfl, show (5 : Int32) = nI 5 from rfl, u1, u2, u3, u4, u5]
  refine sp_R_row A1 hI.1.1 ?_
  have fin := nx w _ _ ⟨hC, hA, hR, hb, hS⟩ hI.keep hT
  simp only [↓s_0_780, ↓s_0_783, ↓s_0_784, kd_uF, ln_uF, ai_uF, al_uF, ar_uF, zs_uF, fd_uF, kd_uA, ln_uA, fd_uA, al_uA, ar_uA, zs_uA, ai_uA, kd_uL, ln_uL, fd_uL, ai_uL, ar_uL, zs_uL, al_uL, kd_uR, ln_uR, fd_uR, ai_uR, al_uR, zs_uR, ar_uR, true_and, and_true, Option.toList_some, Option.toList_none, List.cons_append, List.nil_append, catS_nil, catS_int, catS_ref, catS_null, catS_long, cat_int, cat_ref, cat_null, Nat.reduceEqDiff, Nat.reduceLeDiff, Nat.reduceAdd, false_and, and_false, if_false, if_true, ite_true, ite_false, true_or, or_true, false_or, or_false, and_self, forall_const, true_implies, reduceCtorEq, clr_int, clr_ref, clr_null, clr_none, clr_long, va_rf_some, va_rf_none]
  exact ⟨fin, fun q => absurd trivial q⟩
theorem law_digest {w : aw} {x b L n : Nat} {xs : Nat → Int32} {H : hs} {t : tp} (hL : L ≤ 3072) (hn : 6 * n + 6 ≤ L) (nx : LNx x b L xs n) (hW : LWs w x b L xs H t) (hI : LI H n) (hT : TI t) : wp 12 0 LQ 785 [some (.ref b), some (.ref x), some (.ref (x + 80)), some (.int (nI (6 * n)))] [] w 105 177716 := by
  obtain ⟨hC, hA, hR, hb, hS⟩ := hW
  have kx := hC.1.1
  have kb := hS.1
  have h4 : H.1 4 < 2147482000 := by have := hI.2.2.2.2; omega
  have hP : ∀ v, (H.2.2 v).1 8 < 2147483648 := fun v => by have := hI.1.2.1 v; have := hI.1.2.2; omega
  have s1 := hS.at (n := 6 * n) (k := 1) hL (by omega)
  have s2 := hS.at (n := 6 * n) (k := 2) hL (by omega)
  have s3 := hS.at (n := 6 * n) (k := 3) hL (by omega)
  have s4 := hS.at (n := 6 * n) (k := 4) hL (by omega)
  have s5 := hS.at (n := 6 * n) (k := 5) hL (by omega)
  simp only [↓s_0_785, ↓s_0_785n, ↓s_0_786, kd_uF, ln_uF, ai_uF, al_uF, ar_uF, zs_uF, fd_uF, kd_uA, ln_uA, fd_uA, al_uA, ar_uA, zs_uA, ai_uA, kd_uL, ln_uL, fd_uL, ai_uL, ar_uL, zs_uL, al_uL, kd_uR, ln_uR, fd_uR, ai_uR, al_uR, zs_uR, ar_uR, true_and, and_true, Option.toList_some, Option.toList_none, List.cons_append, List.nil_append, catS_nil, catS_int, catS_ref, catS_null, catS_long, cat_int, cat_ref, cat_null, Nat.reduceEqDiff, Nat.reduceLeDiff, Nat.reduceAdd, false_and, and_false, if_false, if_true, ite_true, ite_false, true_or, or_true, false_or, or_false, and_self, forall_const, true_implies, reduceCtorEq, clr_int, clr_ref, clr_null, clr_none, clr_long, va_rf_some, va_rf_none, kb, kx, show (1 : Int32) = nI 1 from rfl, show (2 : Int32) = nI 2 from rfl, show (3 : Int32) = nI 3 from rfl, show (4 : Int32) = nI 4 from rfl, show (5 : Int32) = nI 5 from rfl, s1, s2, s3, s4, s5]
  refine sp_C_digest hC.1 hI.1.1 ?_
  have C1 := hC
  have A1 := hA
  have R1 := hR
  have S1 := hS
  have km := A1.1.1
  have kb1 := S1.1
  have u1 := S1.at (n := 6 * n) (k := 1) hL (by omega)
  have u2 := S1.at (n := 6 * n) (k := 2) hL (by omega)
  have u3 := S1.at (n := 6 * n) (k := 3) hL (by omega)
  have u4 := S1.at (n := 6 * n) (k := 4) hL (by omega)
  have u5 := S1.at (n := 6 * n) (k := 5) hL (by omega)
  simp only [↓s_0_789, ↓s_0_789n, ↓s_0_790, kd_uF, ln_uF, ai_uF, al_uF, ar_uF, zs_uF, fd_uF, kd_uA, ln_uA, fd_uA, al_uA, ar_uA, zs_uA, ai_uA, kd_uL, ln_uL, fd_uL, ai_uL, ar_uL, zs_uL, al_uL, kd_uR, ln_uR, fd_uR, ai_uR, al_uR, zs_uR, ar_uR, true_and, and_true, Option.toList_some, Option.toList_none, List.cons_append, List.nil_append, catS_nil, catS_int, catS_ref, catS_null, catS_long, cat_int, cat_ref, cat_null, Nat.reduceEqDiff, Nat.reduceLeDiff, Nat.reduceAdd, false_and, and_false, if_false, if_true, ite_true, ite_false, true_or, or_true, false_or, or_false, and_self, forall_const, true_implies, reduceCtorEq, clr_int, clr_ref, clr_null, clr_none, clr_long, va_rf_some, va_rf_none, kb1, km, show (1 : Int32) = nI 1 from rfl, show (2 : Int32) = nI 2 from rfl, show (3 : Int32) = nI 3 from rfl, show (4 : Int32) = nI 4 from rfl, show (5 : Int32) = nI 5 from rfl, u1, u2, u3, u4, u5]
  refine sp_R_digest A1 hI.1.1 ?_
  have fin := nx w _ _ ⟨hC, hA, hR, hb, hS⟩ hI.keep hT
  simp only [↓s_0_793, ↓s_0_794, ↓s_0_797, ↓s_0_798, kd_uF, ln_uF, ai_uF, al_uF, ar_uF, zs_uF, fd_uF, kd_uA, ln_uA, fd_uA, al_uA, ar_uA, zs_uA, ai_uA, kd_uL, ln_uL, fd_uL, ai_uL, ar_uL, zs_uL, al_uL, kd_uR, ln_uR, fd_uR, ai_uR, al_uR, zs_uR, ar_uR, true_and, and_true, Option.toList_some, Option.toList_none, List.cons_append, List.nil_append, catS_nil, catS_int, catS_ref, catS_null, catS_long, cat_int, cat_ref, cat_null, Nat.reduceEqDiff, Nat.reduceLeDiff, Nat.reduceAdd, false_and, and_false, if_false, if_true, ite_true, ite_false, true_or, or_true, false_or, or_false, and_self, forall_const, true_implies, reduceCtorEq, clr_int, clr_ref, clr_null, clr_none, clr_long, va_rf_some, va_rf_none]
  have z : lg_cmp (c_digest H) (c_digest H) = 0 := by unfold lg_cmp; rw [if_neg (fun q => Int64.lt_irrefl q)]; simp
  exact ⟨fun _ => fin, fun q => absurd z q⟩
theorem sp_law {x b L : Nat} {xs : Nat → Int32} (hL : L ≤ 3072) : ∀ (j n : Nat) (w : aw) (H : hs) (t : tp), L < 6 * n + 6 * j + 6 → 6 * n ≤ 3072 → LWs w x b L xs H t → LI H n → TI t → wp 12 0 LQ 18 [some (.ref b), some (.ref x), some (.ref (x + 80)), some (.int (nI (6 * n)))] [] w 105 177716 := by
  intro j
  induction j with
  | zero =>
    intro n w H t hj hn hW hI hT
    have kb := hW.2.2.2.2.1
    have lb := hW.2.2.2.2.2.1
    rw [s_0_18]
    simp only [↓s_0_19, ↓s_0_19n, ↓s_0_20, ↓s_0_21, ↓s_0_23, ↓s_0_24, ↓s_0_27, ↓s_0_27n, ↓s_0_28, ↓s_0_29, ↓s_0_30, ↓s_0_32, ↓s_0_33, ↓s_0_805, ↓s_0_806, kd_uF, ln_uF, ai_uF, al_uF, ar_uF, zs_uF, fd_uF, kd_uA, ln_uA, fd_uA, al_uA, ar_uA, zs_uA, ai_uA, kd_uL, ln_uL, fd_uL, ai_uL, ar_uL, zs_uL, al_uL, kd_uR, ln_uR, fd_uR, ai_uR, al_uR, zs_uR, ar_uR, true_and, and_true, Option.toList_some, Option.toList_none, List.cons_append, List.nil_append, catS_nil, catS_int, catS_ref, catS_null, catS_long, cat_int, cat_ref, cat_null, Nat.reduceEqDiff, Nat.reduceLeDiff, Nat.reduceAdd, false_and, and_false, if_false, if_true, ite_true, ite_false, true_or, or_true, false_or, or_false, and_self, forall_const, true_implies, reduceCtorEq, clr_int, clr_ref, clr_null, clr_none, clr_long, va_rf_some, va_rf_none, kb, lb]
    exact ⟨rfl, fun _ => rfl, fun q => absurd ((law_end hL hn).mpr (by omega)) q⟩
  | succ j ih =>
    intro n w H t hj hn hW hI hT
    have kb := hW.2.2.2.2.1
    have lb := hW.2.2.2.2.2.1
    rw [s_0_18]
    simp only [↓s_0_19, ↓s_0_19n, ↓s_0_20, ↓s_0_21, ↓s_0_23, ↓s_0_24, ↓s_0_27, ↓s_0_27n, ↓s_0_28, ↓s_0_29, ↓s_0_30, ↓s_0_32, ↓s_0_33, ↓s_0_805, ↓s_0_806, kd_uF, ln_uF, ai_uF, al_uF, ar_uF, zs_uF, fd_uF, kd_uA, ln_uA, fd_uA, al_uA, ar_uA, zs_uA, ai_uA, kd_uL, ln_uL, fd_uL, ai_uL, ar_uL, zs_uL, al_uL, kd_uR, ln_uR, fd_uR, ai_uR, al_uR, zs_uR, ar_uR, true_and, and_true, Option.toList_some, Option.toList_none, List.cons_append, List.nil_append, catS_nil, catS_int, catS_ref, catS_null, catS_long, cat_int, cat_ref, cat_null, Nat.reduceEqDiff, Nat.reduceLeDiff, Nat.reduceAdd, false_and, and_false, if_false, if_true, ite_true, ite_false, true_or, or_true, false_or, or_false, and_self, forall_const, true_implies, reduceCtorEq, clr_int, clr_ref, clr_null, clr_none, clr_long, va_rf_some, va_rf_none, kb, lb]
    refine ⟨rfl, fun _ => rfl, fun q => ?_⟩
    have hq : 6 * n + 6 ≤ L := by
      have : ¬ L < 6 * n + 6 := fun z => q ((law_end hL hn).mpr z)
      omega
    have nx : LNx x b L xs n := by
      intro w' H' t' W' I' T'
      have := ih (n + 1) w' H' t' (by omega) (by omega) W' I' T'
      simp only [↓s_0_799, ↓s_0_802, kd_uF, ln_uF, ai_uF, al_uF, ar_uF, zs_uF, fd_uF, kd_uA, ln_uA, fd_uA, al_uA, ar_uA, zs_uA, ai_uA, kd_uL, ln_uL, fd_uL, ai_uL, ar_uL, zs_uL, al_uL, kd_uR, ln_uR, fd_uR, ai_uR, al_uR, zs_uR, ar_uR, true_and, and_true, Option.toList_some, Option.toList_none, List.cons_append, List.nil_append, catS_nil, catS_int, catS_ref, catS_null, catS_long, cat_int, cat_ref, cat_null, Nat.reduceEqDiff, Nat.reduceLeDiff, Nat.reduceAdd, false_and, and_false, if_false, if_true, ite_true, ite_false, true_or, or_true, false_or, or_false, and_self, forall_const, true_implies, reduceCtorEq, clr_int, clr_ref, clr_null, clr_none, clr_long, va_rf_some, va_rf_none]
      rw [show (6 : Int32) = nI 6 from rfl, nI_add]
      exact this
    refine ⟨inR_nI (by omega) (by omega), tsr (by decide) rfl (fun i t0 hi e => ?_) (fun e => nx w H t hW hI.keep hT)⟩
    match i, hi with
    | 0, hi => cases hi; exact law_open_ hL hq nx hW hI hT
    | 1, hi => cases hi; exact law_feed hL hq nx hW hI hT
    | 2, hi => cases hi; exact law_end_ hL hq nx hW hI hT
    | 3, hi => cases hi; exact law_assemble hL hq nx hW hI hT
    | 4, hi => cases hi; exact law_fault hL hq nx hW hI hT
    | 5, hi => cases hi; exact law_poke hL hq nx hW hI hT
    | 6, hi => cases hi; exact law_peek hL hq nx hW hI hT
    | 7, hi => cases hi; exact law_store hL hq nx hW hI hT
    | 8, hi => cases hi; exact law_block hL hq nx hW hI hT
    | 9, hi => cases hi; exact law_switches hL hq nx hW hI hT
    | 10, hi => cases hi; exact law_start hL hq nx hW hI hT
    | 11, hi => cases hi; exact law_key hL hq nx hW hI hT
    | 12, hi => cases hi; exact law_run hL hq nx hW hI hT
    | 13, hi => cases hi; exact law_about hL hq nx hW hI hT
    | 14, hi => cases hi; exact law_letter hL hq nx hW hI hT
    | 15, hi => cases hi; exact law_waiting hL hq nx hW hI hT
    | 16, hi => cases hi; exact law_queued hL hq nx hW hI hT
    | 17, hi => cases hi; exact law_house hL hq nx hW hI hT
    | 18, hi => cases hi; exact law_row hL hq nx hW hI hT
    | 19, hi => cases hi; exact law_digest hL hq nx hW hI hT
    | i + 20, hi => cases hi
