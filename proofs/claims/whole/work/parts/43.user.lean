/-! a user of the class -/
def UAt (w : aw) (b n : Nat) (u : us) : Prop := kd w b = 7 ∧ fd w 384 b = .int (nI n) ∧ fd w 385 b = .ref (b + 1) ∧ fd w 386 b = .ref (b + 2) ∧ fd w 387 b = .ref (b + 3) ∧ fd w 388 b = .ref (b + 4) ∧ fd w 389 b = .ref (b + 6) ∧
  fd w 390 b = .int (nI (u.1 0)) ∧ fd w 391 b = .int (nI (u.1 1)) ∧ fd w 392 b = .int (nI (u.1 2)) ∧ fd w 394 b = .int (nI (u.1 3)) ∧ fd w 395 b = .int (nI (u.1 4)) ∧ fd w 393 b = .int (nI (u.1 5)) ∧ fd w 397 b = .int (nI (u.1 6)) ∧ fd w 398 b = .int (nI (u.1 7)) ∧ fd w 399 b = .int (nI (u.1 8)) ∧ fd w 400 b = .int (nI (u.1 9)) ∧
  kd w (b + 1) = 20 ∧ ln w (b + 1) = 4096 ∧ (∀ i, ai w (b + 1) i = nI (uMm u i)) ∧ kd w (b + 2) = 20 ∧ ln w (b + 2) = 4096 ∧ (∀ i, ai w (b + 2) i = nI (uFf u i)) ∧ kd w (b + 3) = 20 ∧ ln w (b + 3) = 512 ∧ (∀ i, ai w (b + 3) i = nI (uPp u i)) ∧ LAt w (b + 4) (uIn u) ∧ LAt w (b + 6) (uOt u)
/-- nothing of another's changes, nor what the house keeps in the user -/
def FrU (w w' : aw) (b : Nat) : Prop := Fr w w' b (b + 8) ∧ fd w' 396 b = fd w 396 b
theorem FrU.rf {w : aw} {b : Nat} : FrU w w b := ⟨Fr.rf, rfl⟩
theorem FrU.tr {w w1 w2 : aw} {b : Nat} (h1 : FrU w w1 b) (h2 : FrU w1 w2 b) : FrU w w2 b := ⟨h1.1.tr h2.1, h2.2.trans h1.2⟩
theorem FrU.A {w w' : aw} {b k i : Nat} {x : Int32} (h : FrU w w' b) (hk : k < 8) : FrU w (uA w' (b + k) i x) b := ⟨h.1.A (by omega) (by omega), h.2⟩
theorem LAt.F {w : aw} {b g a : Nat} {v : Value} {xs : List Nat} (h : LAt w b xs) (ha : a ≠ b) : LAt (uF w g a v) b xs := h.kept (fun _ => rfl) (fun _ => rfl) (fun g' => by rw [fd_uF, if_neg (by omega)]) (fun _ => rfl)
theorem LAt.A {w : aw} {b a i : Nat} {x : Int32} {xs : List Nat} (h : LAt w b xs) (ha : a ≠ b + 1) : LAt (uA w a i x) b xs := h.kept (fun _ => rfl) (fun _ => rfl) (fun _ => rfl) (fun i' => by rw [ai_uA, if_neg (by omega)])
theorem UAt.S0 {w : aw} {b n v : Nat} {u : us} (h : UAt w b n u) : UAt (uF w 390 b (.int (nI v))) b n (uS u 0 v) := by
  obtain ⟨h0, h1, h2, h3, h4, h5, h6, s0, s1, s2, s3, s4, s5, s6, s7, s8, s9, m1, m2, m3, f1, f2, f3, p1, p2, p3, li, lo⟩ := h
  exact ⟨h0, h1, h2, h3, h4, h5, h6, by simp [fd_uF, uS, va_up], s1, s2, s3, s4, s5, s6, s7, s8, s9, m1, m2, m3, f1, f2, f3, p1, p2, p3, li.F (by omega), lo.F (by omega)⟩
theorem FrU.S0 {w w' : aw} {b : Nat} {v : Value} (h : FrU w w' b) : FrU w (uF w' 390 b v) b := ⟨h.1.F (by omega) (by omega), h.2⟩
theorem UAt.S1 {w : aw} {b n v : Nat} {u : us} (h : UAt w b n u) : UAt (uF w 391 b (.int (nI v))) b n (uS u 1 v) := by
  obtain ⟨h0, h1, h2, h3, h4, h5, h6, s0, s1, s2, s3, s4, s5, s6, s7, s8, s9, m1, m2, m3, f1, f2, f3, p1, p2, p3, li, lo⟩ := h
  exact ⟨h0, h1, h2, h3, h4, h5, h6, s0, by simp [fd_uF, uS, va_up], s2, s3, s4, s5, s6, s7, s8, s9, m1, m2, m3, f1, f2, f3, p1, p2, p3, li.F (by omega), lo.F (by omega)⟩
theorem FrU.S1 {w w' : aw} {b : Nat} {v : Value} (h : FrU w w' b) : FrU w (uF w' 391 b v) b := ⟨h.1.F (by omega) (by omega), h.2⟩
theorem UAt.S2 {w : aw} {b n v : Nat} {u : us} (h : UAt w b n u) : UAt (uF w 392 b (.int (nI v))) b n (uS u 2 v) := by
  obtain ⟨h0, h1, h2, h3, h4, h5, h6, s0, s1, s2, s3, s4, s5, s6, s7, s8, s9, m1, m2, m3, f1, f2, f3, p1, p2, p3, li, lo⟩ := h
  exact ⟨h0, h1, h2, h3, h4, h5, h6, s0, s1, by simp [fd_uF, uS, va_up], s3, s4, s5, s6, s7, s8, s9, m1, m2, m3, f1, f2, f3, p1, p2, p3, li.F (by omega), lo.F (by omega)⟩
theorem FrU.S2 {w w' : aw} {b : Nat} {v : Value} (h : FrU w w' b) : FrU w (uF w' 392 b v) b := ⟨h.1.F (by omega) (by omega), h.2⟩
theorem UAt.S3 {w : aw} {b n v : Nat} {u : us} (h : UAt w b n u) : UAt (uF w 394 b (.int (nI v))) b n (uS u 3 v) := by
  obtain ⟨h0, h1, h2, h3, h4, h5, h6, s0, s1, s2, s3, s4, s5, s6, s7, s8, s9, m1, m2, m3, f1, f2, f3, p1, p2, p3, li, lo⟩ := h
  exact ⟨h0, h1, h2, h3, h4, h5, h6, s0, s1, s2, by simp [fd_uF, uS, va_up], s4, s5, s6, s7, s8, s9, m1, m2, m3, f1, f2, f3, p1, p2, p3, li.F (by omega), lo.F (by omega)⟩
theorem FrU.S3 {w w' : aw} {b : Nat} {v : Value} (h : FrU w w' b) : FrU w (uF w' 394 b v) b := ⟨h.1.F (by omega) (by omega), h.2⟩
theorem UAt.S4 {w : aw} {b n v : Nat} {u : us} (h : UAt w b n u) : UAt (uF w 395 b (.int (nI v))) b n (uS u 4 v) := by
  obtain ⟨h0, h1, h2, h3, h4, h5, h6, s0, s1, s2, s3, s4, s5, s6, s7, s8, s9, m1, m2, m3, f1, f2, f3, p1, p2, p3, li, lo⟩ := h
  exact ⟨h0, h1, h2, h3, h4, h5, h6, s0, s1, s2, s3, by simp [fd_uF, uS, va_up], s5, s6, s7, s8, s9, m1, m2, m3, f1, f2, f3, p1, p2, p3, li.F (by omega), lo.F (by omega)⟩
theorem FrU.S4 {w w' : aw} {b : Nat} {v : Value} (h : FrU w w' b) : FrU w (uF w' 395 b v) b := ⟨h.1.F (by omega) (by omega), h.2⟩
theorem UAt.S5 {w : aw} {b n v : Nat} {u : us} (h : UAt w b n u) : UAt (uF w 393 b (.int (nI v))) b n (uS u 5 v) := by
  obtain ⟨h0, h1, h2, h3, h4, h5, h6, s0, s1, s2, s3, s4, s5, s6, s7, s8, s9, m1, m2, m3, f1, f2, f3, p1, p2, p3, li, lo⟩ := h
  exact ⟨h0, h1, h2, h3, h4, h5, h6, s0, s1, s2, s3, s4, by simp [fd_uF, uS, va_up], s6, s7, s8, s9, m1, m2, m3, f1, f2, f3, p1, p2, p3, li.F (by omega), lo.F (by omega)⟩
theorem FrU.S5 {w w' : aw} {b : Nat} {v : Value} (h : FrU w w' b) : FrU w (uF w' 393 b v) b := ⟨h.1.F (by omega) (by omega), h.2⟩
theorem UAt.S6 {w : aw} {b n v : Nat} {u : us} (h : UAt w b n u) : UAt (uF w 397 b (.int (nI v))) b n (uS u 6 v) := by
  obtain ⟨h0, h1, h2, h3, h4, h5, h6, s0, s1, s2, s3, s4, s5, s6, s7, s8, s9, m1, m2, m3, f1, f2, f3, p1, p2, p3, li, lo⟩ := h
  exact ⟨h0, h1, h2, h3, h4, h5, h6, s0, s1, s2, s3, s4, s5, by simp [fd_uF, uS, va_up], s7, s8, s9, m1, m2, m3, f1, f2, f3, p1, p2, p3, li.F (by omega), lo.F (by omega)⟩
theorem FrU.S6 {w w' : aw} {b : Nat} {v : Value} (h : FrU w w' b) : FrU w (uF w' 397 b v) b := ⟨h.1.F (by omega) (by omega), h.2⟩
theorem UAt.S7 {w : aw} {b n v : Nat} {u : us} (h : UAt w b n u) : UAt (uF w 398 b (.int (nI v))) b n (uS u 7 v) := by
  obtain ⟨h0, h1, h2, h3, h4, h5, h6, s0, s1, s2, s3, s4, s5, s6, s7, s8, s9, m1, m2, m3, f1, f2, f3, p1, p2, p3, li, lo⟩ := h
  exact ⟨h0, h1, h2, h3, h4, h5, h6, s0, s1, s2, s3, s4, s5, s6, by simp [fd_uF, uS, va_up], s8, s9, m1, m2, m3, f1, f2, f3, p1, p2, p3, li.F (by omega), lo.F (by omega)⟩
theorem FrU.S7 {w w' : aw} {b : Nat} {v : Value} (h : FrU w w' b) : FrU w (uF w' 398 b v) b := ⟨h.1.F (by omega) (by omega), h.2⟩
theorem UAt.S8 {w : aw} {b n v : Nat} {u : us} (h : UAt w b n u) : UAt (uF w 399 b (.int (nI v))) b n (uS u 8 v) := by
  obtain ⟨h0, h1, h2, h3, h4, h5, h6, s0, s1, s2, s3, s4, s5, s6, s7, s8, s9, m1, m2, m3, f1, f2, f3, p1, p2, p3, li, lo⟩ := h
  exact ⟨h0, h1, h2, h3, h4, h5, h6, s0, s1, s2, s3, s4, s5, s6, s7, by simp [fd_uF, uS, va_up], s9, m1, m2, m3, f1, f2, f3, p1, p2, p3, li.F (by omega), lo.F (by omega)⟩
theorem FrU.S8 {w w' : aw} {b : Nat} {v : Value} (h : FrU w w' b) : FrU w (uF w' 399 b v) b := ⟨h.1.F (by omega) (by omega), h.2⟩
theorem UAt.S9 {w : aw} {b n v : Nat} {u : us} (h : UAt w b n u) : UAt (uF w 400 b (.int (nI v))) b n (uS u 9 v) := by
  obtain ⟨h0, h1, h2, h3, h4, h5, h6, s0, s1, s2, s3, s4, s5, s6, s7, s8, s9, m1, m2, m3, f1, f2, f3, p1, p2, p3, li, lo⟩ := h
  exact ⟨h0, h1, h2, h3, h4, h5, h6, s0, s1, s2, s3, s4, s5, s6, s7, s8, by simp [fd_uF, uS, va_up], m1, m2, m3, f1, f2, f3, p1, p2, p3, li.F (by omega), lo.F (by omega)⟩
theorem FrU.S9 {w w' : aw} {b : Nat} {v : Value} (h : FrU w w' b) : FrU w (uF w' 400 b v) b := ⟨h.1.F (by omega) (by omega), h.2⟩
theorem UAt.Mem {w : aw} {b n a v : Nat} {u : us} (h : UAt w b n u) : UAt (uA w (b + 1) a (nI v)) b n (uMem u a v) := by
  obtain ⟨h0, h1, h2, h3, h4, h5, h6, s0, s1, s2, s3, s4, s5, s6, s7, s8, s9, m1, m2, m3, f1, f2, f3, p1, p2, p3, li, lo⟩ := h
  exact ⟨h0, h1, h2, h3, h4, h5, h6, s0, s1, s2, s3, s4, s5, s6, s7, s8, s9, m1, m2, fun i => by rw [ai_uA, show uMm (uMem u a v) i = va_up (uMm u) a v i from rfl]; unfold va_up; by_cases hi : i = a <;> simp [hi, m3 i], f1, f2, fun i => by rw [ai_uA, if_neg (by omega)]; exact f3 i, p1, p2, fun i => by rw [ai_uA, if_neg (by omega)]; exact p3 i, li.A (by omega), lo.A (by omega)⟩
theorem UAt.Fil {w : aw} {b n a v : Nat} {u : us} (h : UAt w b n u) : UAt (uA w (b + 2) a (nI v)) b n (uFil u a v) := by
  obtain ⟨h0, h1, h2, h3, h4, h5, h6, s0, s1, s2, s3, s4, s5, s6, s7, s8, s9, m1, m2, m3, f1, f2, f3, p1, p2, p3, li, lo⟩ := h
  exact ⟨h0, h1, h2, h3, h4, h5, h6, s0, s1, s2, s3, s4, s5, s6, s7, s8, s9, m1, m2, fun i => by rw [ai_uA, if_neg (by omega)]; exact m3 i, f1, f2, fun i => by rw [ai_uA, show uFf (uFil u a v) i = va_up (uFf u) a v i from rfl]; unfold va_up; by_cases hi : i = a <;> simp [hi, f3 i], p1, p2, fun i => by rw [ai_uA, if_neg (by omega)]; exact p3 i, li.A (by omega), lo.A (by omega)⟩
theorem UAt.Pap {w : aw} {b n a v : Nat} {u : us} (h : UAt w b n u) : UAt (uA w (b + 3) a (nI v)) b n (uPap u a v) := by
  obtain ⟨h0, h1, h2, h3, h4, h5, h6, s0, s1, s2, s3, s4, s5, s6, s7, s8, s9, m1, m2, m3, f1, f2, f3, p1, p2, p3, li, lo⟩ := h
  exact ⟨h0, h1, h2, h3, h4, h5, h6, s0, s1, s2, s3, s4, s5, s6, s7, s8, s9, m1, m2, fun i => by rw [ai_uA, if_neg (by omega)]; exact m3 i, f1, f2, fun i => by rw [ai_uA, if_neg (by omega)]; exact f3 i, p1, p2, fun i => by rw [ai_uA, show uPp (uPap u a v) i = va_up (uPp u) a v i from rfl]; unfold va_up; by_cases hi : i = a <;> simp [hi, p3 i], li.A (by omega), lo.A (by omega)⟩
theorem sp_U_skip {d : Nat} {w : aw} {b n : Nat} {u : us} {Q : wQ} (hu : UAt w b n u) (hb : u.1 0 < 4096) (h : ∀ w', UAt w' b n (i_skip u) → FrU w w' b → Q none w') : wpD (d + 1) 63 [.ref b] w Q := by
  refine ⟨Nat.le_of_ble_eq_true rfl, ?_⟩
  show wp d 63 Q 0 [some (.ref b)] [] w 0 0
  simp only [↓s_63_0, ↓s_63_1, ↓s_63_2, ↓s_63_5, ↓s_63_6, ↓s_63_7, ↓s_63_10, ↓s_63_11, ↓s_63_14, kd_uF, ln_uF, ai_uF, al_uF, ar_uF, zs_uF, fd_uF, kd_uA, ln_uA, fd_uA, al_uA, ar_uA, zs_uA, ai_uA, kd_uL, ln_uL, fd_uL, ai_uL, ar_uL, zs_uL, al_uL, kd_uR, ln_uR, fd_uR, ai_uR, al_uR, zs_uR, ar_uR, true_and, and_true, Option.toList_some, Option.toList_none, List.cons_append, List.nil_append, catS_nil, catS_int, catS_ref, catS_null, catS_long, cat_int, cat_ref, cat_null, Nat.reduceEqDiff, Nat.reduceLeDiff, Nat.reduceAdd, false_and, and_false, if_false, if_true, ite_true, ite_false, true_or, or_true, false_or, or_false, and_self, forall_const, true_implies, reduceCtorEq, clr_int, clr_ref, clr_null, clr_none, clr_long, va_rf_some, va_rf_none, hu.1, hu.2.2.2.2.2.2.2.1]
  rw [nI_1, m12 (by omega)]
  exact h _ hu.S0 FrU.rf.S0
