theorem UAt.Inp {w w' : aw} {b n : Nat} {u : us} {xs : List Nat} (h : UAt w b n u) (hL : LAt w' (b + 4) xs) (hF : Fr w w' (b + 4) (b + 6)) : UAt w' b n (uInp u xs) := by
  obtain ⟨h0, h1, h2, h3, h4, h5, h6, s0, s1, s2, s3, s4, s5, s6, s7, s8, s9, m1, m2, m3, f1, f2, f3, p1, p2, p3, li, lo⟩ := h
  obtain ⟨hk, hl, hz, ho⟩ := hF
  have eb : ∀ g, fd w' g b = fd w g b := (ho b (by omega)).1
  have e1 : ∀ i, ai w' (b + 1) i = ai w (b + 1) i := (ho (b + 1) (by omega)).2.1
  have e2 : ∀ i, ai w' (b + 2) i = ai w (b + 2) i := (ho (b + 2) (by omega)).2.1
  have e3 : ∀ i, ai w' (b + 3) i = ai w (b + 3) i := (ho (b + 3) (by omega)).2.1
  refine ⟨by rw [hk]; exact h0, by rw [eb]; exact h1, by rw [eb]; exact h2, by rw [eb]; exact h3, by rw [eb]; exact h4, by rw [eb]; exact h5, by rw [eb]; exact h6, by rw [eb]; exact s0, by rw [eb]; exact s1, by rw [eb]; exact s2, by rw [eb]; exact s3, by rw [eb]; exact s4, by rw [eb]; exact s5, by rw [eb]; exact s6, by rw [eb]; exact s7, by rw [eb]; exact s8, by rw [eb]; exact s9,
    by rw [hk]; exact m1, by rw [hl]; exact m2, fun i => by rw [e1]; exact m3 i, by rw [hk]; exact f1, by rw [hl]; exact f2, fun i => by rw [e2]; exact f3 i, by rw [hk]; exact p1, by rw [hl]; exact p2, fun i => by rw [e3]; exact p3 i, hL, ?_⟩
  exact lo.kept hk hl (ho (b + 6) (by omega)).1 (ho (b + 6 + 1) (by omega)).2.1
theorem UAt.Out {w w' : aw} {b n : Nat} {u : us} {xs : List Nat} (h : UAt w b n u) (hL : LAt w' (b + 6) xs) (hF : Fr w w' (b + 6) (b + 8)) : UAt w' b n (uOut u xs) := by
  obtain ⟨h0, h1, h2, h3, h4, h5, h6, s0, s1, s2, s3, s4, s5, s6, s7, s8, s9, m1, m2, m3, f1, f2, f3, p1, p2, p3, li, lo⟩ := h
  obtain ⟨hk, hl, hz, ho⟩ := hF
  have eb : ∀ g, fd w' g b = fd w g b := (ho b (by omega)).1
  have e1 : ∀ i, ai w' (b + 1) i = ai w (b + 1) i := (ho (b + 1) (by omega)).2.1
  have e2 : ∀ i, ai w' (b + 2) i = ai w (b + 2) i := (ho (b + 2) (by omega)).2.1
  have e3 : ∀ i, ai w' (b + 3) i = ai w (b + 3) i := (ho (b + 3) (by omega)).2.1
  refine ⟨by rw [hk]; exact h0, by rw [eb]; exact h1, by rw [eb]; exact h2, by rw [eb]; exact h3, by rw [eb]; exact h4, by rw [eb]; exact h5, by rw [eb]; exact h6, by rw [eb]; exact s0, by rw [eb]; exact s1, by rw [eb]; exact s2, by rw [eb]; exact s3, by rw [eb]; exact s4, by rw [eb]; exact s5, by rw [eb]; exact s6, by rw [eb]; exact s7, by rw [eb]; exact s8, by rw [eb]; exact s9,
    by rw [hk]; exact m1, by rw [hl]; exact m2, fun i => by rw [e1]; exact m3 i, by rw [hk]; exact f1, by rw [hl]; exact f2, fun i => by rw [e2]; exact f3 i, by rw [hk]; exact p1, by rw [hl]; exact p2, fun i => by rw [e3]; exact p3 i, ?_, hL⟩
  exact li.kept hk hl (ho (b + 4) (by omega)).1 (ho (b + 4 + 1) (by omega)).2.1
theorem Fr.U {w w' : aw} {b lo hi : Nat} (h : Fr w w' lo hi) (h1 : b < lo) (h2 : hi ≤ b + 8) : FrU w w' b := ⟨h.wide (by omega) h2, (h.2.2.2 b (by omega)).1 _⟩
theorem sp_U_readKey {d : Nat} {w : aw} {b n own : Nat} {u : us} {Q : wQ} (hu : UAt w b n u) (hB : UB u) (h : ∀ w', UAt w' b n (match uIn u with | [] => i_wait u own 3 | c :: r => uS (uInp u r) 1 c) → FrU w w' b → Q none w') : wpD (d + 3) 71 [.ref b, .int (nI own)] w Q := by
  have hu0 := hu
  obtain ⟨h0, h1, h2, h3, h4, h5, h6, s0, s1, s2, s3, s4, s5, s6, s7, s8, s9, m1, m2, m3, f1, f2, f3, p1, p2, p3, li, lo⟩ := hu
  refine ⟨Nat.le_of_ble_eq_true rfl, ?_⟩
  show wp (d + 2) 71 Q 0 [some (.ref b), some (.int (nI own)), none] [] w 0 0
  have k26 : ∀ w2 l2, Q none w2 → wp (d + 2) 71 Q 26 [some (.ref b), some (.int (nI own)), l2] [] w2 0 0 := by
    intro w2 l2 hq
    simp only [↓s_71_26]
    exact hq
  simp only [↓s_71_0, ↓s_71_1, ↓s_71_4, kd_uF, ln_uF, ai_uF, al_uF, ar_uF, zs_uF, fd_uF, kd_uA, ln_uA, fd_uA, al_uA, ar_uA, zs_uA, ai_uA, kd_uL, ln_uL, fd_uL, ai_uL, ar_uL, zs_uL, al_uL, kd_uR, ln_uR, fd_uR, ai_uR, al_uR, zs_uR, ar_uR, true_and, and_true, Option.toList_some, Option.toList_none, List.cons_append, List.nil_append, catS_nil, catS_int, catS_ref, catS_null, catS_long, cat_int, cat_ref, cat_null, Nat.reduceEqDiff, Nat.reduceLeDiff, Nat.reduceAdd, false_and, and_false, if_false, if_true, ite_true, ite_false, true_or, or_true, false_or, or_false, and_self, forall_const, true_implies, reduceCtorEq, clr_int, clr_ref, clr_null, clr_none, clr_long, va_rf_some, va_rf_none, h0, h5, li.1]
  refine sp_L_take li hB.2.2.2.2.2.2.2.2.2.2.2.2.2.1 (fun he => ?_) (fun c r w1 he hL1 hF1 => ?_)
  · rw [he] at h
    simp only [↓s_71_7, ↓s_71_8, ↓s_71_9, ↓s_71_12, ↓s_71_13, ↓s_71_14, ↓s_71_15, ↓s_71_21, ↓s_71_22, ↓s_71_23, kd_uF, ln_uF, ai_uF, al_uF, ar_uF, zs_uF, fd_uF, kd_uA, ln_uA, fd_uA, al_uA, ar_uA, zs_uA, ai_uA, kd_uL, ln_uL, fd_uL, ai_uL, ar_uL, zs_uL, al_uL, kd_uR, ln_uR, fd_uR, ai_uR, al_uR, zs_uR, ar_uR, true_and, and_true, Option.toList_some, Option.toList_none, List.cons_append, List.nil_append, catS_nil, catS_int, catS_ref, catS_null, catS_long, cat_int, cat_ref, cat_null, Nat.reduceEqDiff, Nat.reduceLeDiff, Nat.reduceAdd, false_and, and_false, if_false, if_true, ite_true, ite_false, true_or, or_true, false_or, or_false, and_self, forall_const, true_implies, reduceCtorEq, clr_int, clr_ref, clr_null, clr_none, clr_long, va_rf_some, va_rf_none, h0]
    refine ⟨fun q => absurd q (by decide), fun _ => sp_U_wait (how := 3) hu0 (fun w2 hu2 hF2 => ?_)⟩
    simp only [↓s_71_18, kd_uF, ln_uF, ai_uF, al_uF, ar_uF, zs_uF, fd_uF, kd_uA, ln_uA, fd_uA, al_uA, ar_uA, zs_uA, ai_uA, kd_uL, ln_uL, fd_uL, ai_uL, ar_uL, zs_uL, al_uL, kd_uR, ln_uR, fd_uR, ai_uR, al_uR, zs_uR, ar_uR, true_and, and_true, Option.toList_some, Option.toList_none, List.cons_append, List.nil_append, catS_nil, catS_int, catS_ref, catS_null, catS_long, cat_int, cat_ref, cat_null, Nat.reduceEqDiff, Nat.reduceLeDiff, Nat.reduceAdd, false_and, and_false, if_false, if_true, ite_true, ite_false, true_or, or_true, false_or, or_false, and_self, forall_const, true_implies, reduceCtorEq, clr_int, clr_ref, clr_null, clr_none, clr_long, va_rf_some, va_rf_none]
    exact k26 _ _ (h _ hu2 hF2)
  · rw [he] at h
    have hc : c < 256 := hB.2.2.2.2.2.2.2.2.2.2.2.2.2.1 c (by rw [he]; exact List.mem_cons_self)
    have hu1 := hu0.Inp hL1 hF1
    simp only [↓s_71_7, ↓s_71_8, ↓s_71_9, ↓s_71_12, ↓s_71_13, ↓s_71_14, ↓s_71_15, ↓s_71_21, ↓s_71_22, ↓s_71_23, kd_uF, ln_uF, ai_uF, al_uF, ar_uF, zs_uF, fd_uF, kd_uA, ln_uA, fd_uA, al_uA, ar_uA, zs_uA, ai_uA, kd_uL, ln_uL, fd_uL, ai_uL, ar_uL, zs_uL, al_uL, kd_uR, ln_uR, fd_uR, ai_uR, al_uR, zs_uR, ar_uR, true_and, and_true, Option.toList_some, Option.toList_none, List.cons_append, List.nil_append, catS_nil, catS_int, catS_ref, catS_null, catS_long, cat_int, cat_ref, cat_null, Nat.reduceEqDiff, Nat.reduceLeDiff, Nat.reduceAdd, false_and, and_false, if_false, if_true, ite_true, ite_false, true_or, or_true, false_or, or_false, and_self, forall_const, true_implies, reduceCtorEq, clr_int, clr_ref, clr_null, clr_none, clr_long, va_rf_some, va_rf_none, hu1.1]
    refine ⟨fun _ => k26 _ _ (h _ hu1.S1 (hF1.U (by omega) (by omega)).S1), fun q => absurd (nI_pos' (by omega)) q⟩
theorem rem512 {a : Nat} (h : a < 2147483648) : nI a &&& 511 = nI (a % 512) := pk_andN (m := 511) (show a < 4294967296 by omega) 9 (by decide)
theorem sp_U_print {d : Nat} {w : aw} {b n : Nat} {u : us} {Q : wQ} (hu : UAt w b n u) (hB : UB u) (hp : u.1 8 < 2147483647) (g1 : uOt u = [] → Q (some (.int 0)) w) (g2 : ∀ c r w', uOt u = c :: r → UAt w' b n (uS (uPap (uOut u r) (u.1 8 % 512) c) 8 (u.1 8 + 1)) → FrU w w' b → Q (some (.int 1)) w') : wpD (d + 3) 75 [.ref b] w Q := by
  have hu0 := hu
  obtain ⟨h0, h1, h2, h3, h4, h5, h6, s0, s1, s2, s3, s4, s5, s6, s7, s8, s9, m1, m2, m3, f1, f2, f3, p1, p2, p3, li, lo⟩ := hu
  refine ⟨Nat.le_of_ble_eq_true rfl, ?_⟩
  show wp (d + 2) 75 Q 0 [some (.ref b), none] [] w 0 0
  simp only [↓s_75_0, ↓s_75_1, ↓s_75_4, kd_uF, ln_uF, ai_uF, al_uF, ar_uF, zs_uF, fd_uF, kd_uA, ln_uA, fd_uA, al_uA, ar_uA, zs_uA, ai_uA, kd_uL, ln_uL, fd_uL, ai_uL, ar_uL, zs_uL, al_uL, kd_uR, ln_uR, fd_uR, ai_uR, al_uR, zs_uR, ar_uR, true_and, and_true, Option.toList_some, Option.toList_none, List.cons_append, List.nil_append, catS_nil, catS_int, catS_ref, catS_null, catS_long, cat_int, cat_ref, cat_null, Nat.reduceEqDiff, Nat.reduceLeDiff, Nat.reduceAdd, false_and, and_false, if_false, if_true, ite_true, ite_false, true_or, or_true, false_or, or_false, and_self, forall_const, true_implies, reduceCtorEq, clr_int, clr_ref, clr_null, clr_none, clr_long, va_rf_some, va_rf_none, h0, h6, lo.1]
  refine sp_L_take lo hB.2.2.2.2.2.2.2.2.2.2.2.2.2.2 (fun he => ?_) (fun c r w1 he hL1 hF1 => ?_)
  · simp only [↓s_75_7, ↓s_75_8, ↓s_75_9, ↓s_75_12, ↓s_75_13, ↓s_75_14, ↓s_75_15, ↓s_75_18, ↓s_75_19, ↓s_75_22, ↓s_75_25, ↓s_75_26, ↓s_75_27, ↓s_75_28, ↓s_75_29, ↓s_75_30, ↓s_75_33, ↓s_75_34, ↓s_75_35, ↓s_75_38, ↓s_75_39, kd_uF, ln_uF, ai_uF, al_uF, ar_uF, zs_uF, fd_uF, kd_uA, ln_uA, fd_uA, al_uA, ar_uA, zs_uA, ai_uA, kd_uL, ln_uL, fd_uL, ai_uL, ar_uL, zs_uL, al_uL, kd_uR, ln_uR, fd_uR, ai_uR, al_uR, zs_uR, ar_uR, true_and, and_true, Option.toList_some, Option.toList_none, List.cons_append, List.nil_append, catS_nil, catS_int, catS_ref, catS_null, catS_long, cat_int, cat_ref, cat_null, Nat.reduceEqDiff, Nat.reduceLeDiff, Nat.reduceAdd, false_and, and_false, if_false, if_true, ite_true, ite_false, true_or, or_true, false_or, or_false, and_self, forall_const, true_implies, reduceCtorEq, clr_int, clr_ref, clr_null, clr_none, clr_long, va_rf_some, va_rf_none, h0]
    exact ⟨fun q => absurd q (by decide), fun _ => ⟨rfl, g1 he⟩⟩
  · have hc : c < 256 := hB.2.2.2.2.2.2.2.2.2.2.2.2.2.2 c (by rw [he]; exact List.mem_cons_self)
    have hu1 := hu0.Out hL1 hF1
    have hu10 := hu1
    clear h0 h1 h2 h3 h4 h5 h6 s0 s1 s2 s3 s4 s5 s6 s7 s8 s9 m1 m2 m3 f1 f2 f3 p1 p2 p3 li lo
    obtain ⟨h0, h1, h2, h3, h4, h5, h6, s0, s1, s2, s3, s4, s5, s6, s7, s8, s9, m1, m2, m3, f1, f2, f3, p1, p2, p3, li, lo⟩ := hu1
    have s8' : fd w1 399 b = .int (nI (u.1 8)) := s8
    simp only [↓s_75_7, ↓s_75_8, ↓s_75_9, ↓s_75_12, ↓s_75_13, ↓s_75_14, ↓s_75_15, ↓s_75_18, ↓s_75_19, ↓s_75_22, ↓s_75_25, ↓s_75_26, ↓s_75_27, ↓s_75_28, ↓s_75_29, ↓s_75_30, ↓s_75_33, ↓s_75_34, ↓s_75_35, ↓s_75_38, ↓s_75_39, kd_uF, ln_uF, ai_uF, al_uF, ar_uF, zs_uF, fd_uF, kd_uA, ln_uA, fd_uA, al_uA, ar_uA, zs_uA, ai_uA, kd_uL, ln_uL, fd_uL, ai_uL, ar_uL, zs_uL, al_uL, kd_uR, ln_uR, fd_uR, ai_uR, al_uR, zs_uR, ar_uR, true_and, and_true, Option.toList_some, Option.toList_none, List.cons_append, List.nil_append, catS_nil, catS_int, catS_ref, catS_null, catS_long, cat_int, cat_ref, cat_null, Nat.reduceEqDiff, Nat.reduceLeDiff, Nat.reduceAdd, false_and, and_false, if_false, if_true, ite_true, ite_false, true_or, or_true, false_or, or_false, and_self, forall_const, true_implies, reduceCtorEq, clr_int, clr_ref, clr_null, clr_none, clr_long, va_rf_some, va_rf_none, h0, h4, s8', p1, p2]
    rw [rem512 (by omega), clN (by omega), nI_1]
    refine ⟨fun _ => ⟨inR_nI (by omega) (by decide), rfl, g2 c r _ he hu10.Pap.S8 ?_⟩, fun q => absurd (nI_pos' (by omega)) q⟩
    exact ((hF1.U (by omega) (by omega)).A (k := 3) (by decide)).S8
def blkR (v : us) (a i : Nat) : us := (v.1, (fun j => if (j + 4096 - a) % 4096 < i ∧ j < 4096 then uFf v (v.1 1 * 128 + (j + 4096 - a) % 4096) else uMm v j), v.2.2)
def blkW (v : us) (a i : Nat) : us := (v.1, v.2.1, (fun j => if v.1 1 * 128 ≤ j ∧ j < v.1 1 * 128 + i then uMm v ((a + (j - v.1 1 * 128)) % 4096) else uFf v j), v.2.2.2)
theorem blkW_0 {v : us} {a : Nat} : blkW v a 0 = v := by
  have : (fun j => if v.1 1 * 128 ≤ j ∧ j < v.1 1 * 128 + 0 then uMm v ((a + (j - v.1 1 * 128)) % 4096) else uFf v j) = uFf v := by
    funext j; rw [if_neg (by omega)]
  unfold blkW; rw [this]
theorem blkR_0 {v : us} {a : Nat} : blkR v a 0 = v := by
  have : (fun j => if (j + 4096 - a) % 4096 < 0 ∧ j < 4096 then uFf v (v.1 1 * 128 + (j + 4096 - a) % 4096) else uMm v j) = uMm v := by
    funext j; rw [if_neg (by omega)]
  unfold blkR; rw [this]
theorem blkR_step {v : us} {a i : Nat} (ha : a < 4096) (hi : i < 128) : uMem (blkR v a i) ((a + i) % 4096) (uFf v (v.1 1 * 128 + i)) = blkR v a (i + 1) := by
  unfold uMem blkR
  dsimp only
  congr 2
  funext j
  unfold va_up
  by_cases hj : j = (a + i) % 4096
  · rw [if_pos hj, if_pos (by omega), show (j + 4096 - a) % 4096 = i by omega]
  · rw [if_neg hj]
    dsimp only
    by_cases hc : (j + 4096 - a) % 4096 < i ∧ j < 4096
    · rw [if_pos hc, if_pos (by omega)]
    · rw [if_neg hc, if_neg (by omega)]
theorem blkW_step {v : us} {a i : Nat} (hi : i < 128) : uFil (blkW v a i) (v.1 1 * 128 + i) (uMm v ((a + i) % 4096)) = blkW v a (i + 1) := by
  unfold uFil blkW
  dsimp only
  congr 3
  funext j
  unfold va_up
  by_cases hj : j = v.1 1 * 128 + i
  · rw [if_pos hj, if_pos (by omega), show j - v.1 1 * 128 = i by omega]
  · rw [if_neg hj]
    dsimp only
    by_cases hc : v.1 1 * 128 ≤ j ∧ j < v.1 1 * 128 + i
    · rw [if_pos hc, if_pos (by omega)]
    · rw [if_neg hc, if_neg (by omega)]
theorem sp_C_within {d : Nat} {w : aw} {v lo hi : Int32} {Q : wQ} (h1 : lo ≤ v → v ≤ hi → Q (some (.int 1)) w) (h2 : ¬ (lo ≤ v ∧ v ≤ hi) → Q (some (.int 0)) w) : wpD (d + 1) 100 [.int v, .int lo, .int hi] w Q := by
  refine ⟨Nat.le_of_ble_eq_true rfl, ?_⟩
  show wp d 100 Q 0 [some (.int v), some (.int lo), some (.int hi)] [] w 0 0
  simp only [↓s_100_0, ↓s_100_1, ↓s_100_2, ↓s_100_5, ↓s_100_6, ↓s_100_7, ↓s_100_10, ↓s_100_11, ↓s_100_14, ↓s_100_15, kd_uF, ln_uF, ai_uF, al_uF, ar_uF, zs_uF, fd_uF, kd_uA, ln_uA, fd_uA, al_uA, ar_uA, zs_uA, ai_uA, kd_uL, ln_uL, fd_uL, ai_uL, ar_uL, zs_uL, al_uL, kd_uR, ln_uR, fd_uR, ai_uR, al_uR, zs_uR, ar_uR, true_and, and_true, Option.toList_some, Option.toList_none, List.cons_append, List.nil_append, catS_nil, catS_int, catS_ref, catS_null, catS_long, cat_int, cat_ref, cat_null, Nat.reduceEqDiff, Nat.reduceLeDiff, Nat.reduceAdd, false_and, and_false, if_false, if_true, ite_true, ite_false, true_or, or_true, false_or, or_false, and_self, forall_const, true_implies, reduceCtorEq, clr_int, clr_ref, clr_null, clr_none, clr_long, va_rf_some, va_rf_none]
  refine ⟨fun q => ⟨rfl, h2 (fun e => absurd e.1 (Int32.not_le.mpr q))⟩, fun q => ⟨fun q2 => ⟨rfl, h2 (fun e => absurd e.2 (Int32.not_le.mpr q2))⟩, fun q2 => ⟨rfl, h1 (Int32.not_lt.mp q) (Int32.not_lt.mp q2)⟩⟩⟩
theorem sp_U_moveBlock {d : Nat} {w : aw} {b n : Nat} {u : us} {Q : wQ} {rd : Bool} (hu : UAt w b n u) (hB : UB u) (h : ∀ w', UAt w' b n (i_block u rd) → FrU w w' b → Q none w') : wpD (d + 2) 74 [.ref b, .int (nI rd.toNat)] w Q := by
  refine ⟨Nat.le_of_ble_eq_true rfl, ?_⟩
  show wp (d + 1) 74 Q 0 [some (.ref b), some (.int (nI rd.toNat)), none, none, none, none] [] w 0 0
  have hu0 := hu
  have hmm := hB.2.2.2.2.2.2.2.2.1
  have hff := hB.2.2.2.2.2.2.2.2.2.1
  obtain ⟨h0, h1, h2, h3, h4, h5, h6, s0, s1, s2, s3, s4, s5, s6, s7, s8, s9, m1, m2, m3, f1, f2, f3, p1, p2, p3, li, lo⟩ := hu
  simp only [↓s_74_0, ↓s_74_1, ↓s_74_4, ↓s_74_5, ↓s_74_8, ↓s_74_11, ↓s_74_12, ↓s_74_13, ↓s_74_14, ↓s_74_15, kd_uF, ln_uF, ai_uF, al_uF, ar_uF, zs_uF, fd_uF, kd_uA, ln_uA, fd_uA, al_uA, ar_uA, zs_uA, ai_uA, kd_uL, ln_uL, fd_uL, ai_uL, ar_uL, zs_uL, al_uL, kd_uR, ln_uR, fd_uR, ai_uR, al_uR, zs_uR, ar_uR, true_and, and_true, Option.toList_some, Option.toList_none, List.cons_append, List.nil_append, catS_nil, catS_int, catS_ref, catS_null, catS_long, cat_int, cat_ref, cat_null, Nat.reduceEqDiff, Nat.reduceLeDiff, Nat.reduceAdd, false_and, and_false, if_false, if_true, ite_true, ite_false, true_or, or_true, false_or, or_false, and_self, forall_const, true_implies, reduceCtorEq, clr_int, clr_ref, clr_null, clr_none, clr_long, va_rf_some, va_rf_none, h0, h2, s0, m1, m2, m3]
  rw [m12 (by have := hB.1; omega), Nat.mod_eq_of_lt hB.1, clN (by have := hB.1; omega)]
  refine ⟨inR_nI hB.1 (by decide), sp_U_skip hu0 hB.1 (fun w1 hu1 hF1 => ?_)⟩
  have hB1 := hB.skip
  unfold i_block at h
  dsimp only at h
  have ha : uMm u (u.1 0) < 4096 := hmm _
  revert ha h
  generalize uMm u (u.1 0) = a
  intro h ha
  generalize i_skip u = v at *
  clear h0 h1 h2 h3 h4 h5 h6 s0 s1 s2 s3 s4 s5 s6 s7 s8 s9 m1 m2 m3 f1 f2 f3 p1 p2 p3 li lo
  have hu10 := hu1
  obtain ⟨h0, h1, h2, h3, h4, h5, h6, s0, s1, s2, s3, s4, s5, s6, s7, s8, s9, m1, m2, m3, f1, f2, f3, p1, p2, p3, li, lo⟩ := hu1
  have hac := hB1.2.1
  simp only [↓s_74_18, ↓s_74_19, ↓s_74_22, ↓s_74_23, ↓s_74_25, kd_uF, ln_uF, ai_uF, al_uF, ar_uF, zs_uF, fd_uF, kd_uA, ln_uA, fd_uA, al_uA, ar_uA, zs_uA, ai_uA, kd_uL, ln_uL, fd_uL, ai_uL, ar_uL, zs_uL, al_uL, kd_uR, ln_uR, fd_uR, ai_uR, al_uR, zs_uR, ar_uR, true_and, and_true, Option.toList_some, Option.toList_none, List.cons_append, List.nil_append, catS_nil, catS_int, catS_ref, catS_null, catS_long, cat_int, cat_ref, cat_null, Nat.reduceEqDiff, Nat.reduceLeDiff, Nat.reduceAdd, false_and, and_false, if_false, if_true, ite_true, ite_false, true_or, or_true, false_or, or_false, and_self, forall_const, true_implies, reduceCtorEq, clr_int, clr_ref, clr_null, clr_none, clr_long, va_rf_some, va_rf_none, h0, s1]
  have e31 : (nI (v.1 1) ≤ (31 : Int32)) ↔ v.1 1 ≤ 31 := by rw [show (31 : Int32) = nI 31 from rfl, nI_leI (by omega) (by decide)]
  refine sp_C_within (fun _ q => ?_) (fun q => ?_)
  · rw [e31] at q
    rw [if_neg (by omega)] at h
    simp only [↓s_74_28, ↓s_74_31, ↓s_74_32, ↓s_74_35, ↓s_74_38, ↓s_74_39, ↓s_74_40, ↓s_74_43, ↓s_74_46, ↓s_74_47, ↓s_74_48, ↓s_74_49, kd_uF, ln_uF, ai_uF, al_uF, ar_uF, zs_uF, fd_uF, kd_uA, ln_uA, fd_uA, al_uA, ar_uA, zs_uA, ai_uA, kd_uL, ln_uL, fd_uL, ai_uL, ar_uL, zs_uL, al_uL, kd_uR, ln_uR, fd_uR, ai_uR, al_uR, zs_uR, ar_uR, true_and, and_true, Option.toList_some, Option.toList_none, List.cons_append, List.nil_append, catS_nil, catS_int, catS_ref, catS_null, catS_long, cat_int, cat_ref, cat_null, Nat.reduceEqDiff, Nat.reduceLeDiff, Nat.reduceAdd, false_and, and_false, if_false, if_true, ite_true, ite_false, true_or, or_true, false_or, or_false, and_self, forall_const, true_implies, reduceCtorEq, clr_int, clr_ref, clr_null, clr_none, clr_long, va_rf_some, va_rf_none, h0, s1]
    refine ⟨fun _ => ?_, fun q => absurd q (by decide)⟩
    rw [show nI (v.1 1) * 128 = nI (v.1 1 * 128) from pk_mul _ 128]
    have eP : ∀ i, i < 128 → nI a + nI i &&& 4095 = nI ((a + i) % 4096) := fun i hi => by rw [nI_add, m12 (by omega)]
    cases rd with
    | true =>
      rw [if_pos rfl] at h
      have lp : ∀ (k i : Nat), i + k = 128 → ∀ w' l5, UAt w' b n (blkR v a i) → FrU w w' b → wp (d + 1) 74 Q 51 [some (Value.ref b), some (Value.int (nI true.toNat)), some (Value.int (nI a)), some (Value.int (nI (v.1 1 * 128))), some (Value.int (nI i)), l5] [] w' 0 0 := by
        intro k
        induction k with
        | zero =>
          intro i hi w' l5 hw hF
          have hi : i = 128 := by omega
          subst hi
          rw [s_74_51]
          simp only [↓s_74_53, ↓s_74_56, ↓s_74_59, ↓s_74_60, ↓s_74_62, ↓s_74_63, ↓s_74_66, ↓s_74_67, ↓s_74_69, ↓s_74_70, ↓s_74_73, ↓s_74_74, ↓s_74_77, ↓s_74_79, ↓s_74_80, ↓s_74_83, ↓s_74_84, ↓s_74_86, ↓s_74_87, ↓s_74_88, ↓s_74_89, ↓s_74_92, ↓s_74_93, ↓s_74_96, ↓s_74_97, ↓s_74_99, ↓s_74_100, ↓s_74_101, ↓s_74_104, ↓s_74_106, ↓s_74_107, ↓s_74_114, ↓s_74_115, ↓s_74_116, ↓s_74_119, kd_uF, ln_uF, ai_uF, al_uF, ar_uF, zs_uF, fd_uF, kd_uA, ln_uA, fd_uA, al_uA, ar_uA, zs_uA, ai_uA, kd_uL, ln_uL, fd_uL, ai_uL, ar_uL, zs_uL, al_uL, kd_uR, ln_uR, fd_uR, ai_uR, al_uR, zs_uR, ar_uR, true_and, and_true, Option.toList_some, Option.toList_none, List.cons_append, List.nil_append, catS_nil, catS_int, catS_ref, catS_null, catS_long, cat_int, cat_ref, cat_null, Nat.reduceEqDiff, Nat.reduceLeDiff, Nat.reduceAdd, false_and, and_false, if_false, if_true, ite_true, ite_false, true_or, or_true, false_or, or_false, and_self, forall_const, true_implies, reduceCtorEq, clr_int, clr_ref, clr_null, clr_none, clr_long, va_rf_some, va_rf_none, hw.1]
          exact ⟨fun _ => h _ hw.S1 hF.S1, fun q => absurd (by decide) q⟩
        | succ k ih =>
          intro i hi w' l5 hw hF
          have hw0 := hw
          clear h0 h1 h2 h3 h4 h5 h6 s0 s1 s2 s3 s4 s5 s6 s7 s8 s9 m1 m2 m3 f1 f2 f3 p1 p2 p3 li lo
          obtain ⟨h0, h1, h2, h3, h4, h5, h6, s0, s1, s2, s3, s4, s5, s6, s7, s8, s9, m1, m2, m3, f1, f2, f3, p1, p2, p3, li, lo⟩ := hw
          have ef : ∀ j, uFf (blkR v a i) j = uFf v j := fun _ => rfl
          rw [s_74_51]
          simp only [↓s_74_53, ↓s_74_56, ↓s_74_59, ↓s_74_60, ↓s_74_62, ↓s_74_63, ↓s_74_66, ↓s_74_67, ↓s_74_69, ↓s_74_70, ↓s_74_73, ↓s_74_74, ↓s_74_77, ↓s_74_79, ↓s_74_80, ↓s_74_83, ↓s_74_84, ↓s_74_86, ↓s_74_87, ↓s_74_88, ↓s_74_89, ↓s_74_92, ↓s_74_93, ↓s_74_96, ↓s_74_97, ↓s_74_99, ↓s_74_100, ↓s_74_101, ↓s_74_104, ↓s_74_106, ↓s_74_107, ↓s_74_114, ↓s_74_115, ↓s_74_116, ↓s_74_119, kd_uF, ln_uF, ai_uF, al_uF, ar_uF, zs_uF, fd_uF, kd_uA, ln_uA, fd_uA, al_uA, ar_uA, zs_uA, ai_uA, kd_uL, ln_uL, fd_uL, ai_uL, ar_uL, zs_uL, al_uL, kd_uR, ln_uR, fd_uR, ai_uR, al_uR, zs_uR, ar_uR, true_and, and_true, Option.toList_some, Option.toList_none, List.cons_append, List.nil_append, catS_nil, catS_int, catS_ref, catS_null, catS_long, cat_int, cat_ref, cat_null, Nat.reduceEqDiff, Nat.reduceLeDiff, Nat.reduceAdd, false_and, and_false, if_false, if_true, ite_true, ite_false, true_or, or_true, false_or, or_false, and_self, forall_const, true_implies, reduceCtorEq, clr_int, clr_ref, clr_null, clr_none, clr_long, va_rf_some, va_rf_none, h0, h2, h3, m1, m2, f1, f2, f3, ef]
          rw [eP i (by omega), clN (by omega), nI_add, clN (by omega)]
          refine ⟨fun q => absurd q (nI_ge (b := 128) (by omega) (by decide)), fun _ => ⟨fun q => absurd q (by decide), fun _ => ⟨inR_nI (by omega) (by decide), inR_nI (by omega) (by decide), ?_⟩⟩⟩
          rw [s_74_108]
          simp only [↓s_74_111, kd_uF, ln_uF, ai_uF, al_uF, ar_uF, zs_uF, fd_uF, kd_uA, ln_uA, fd_uA, al_uA, ar_uA, zs_uA, ai_uA, kd_uL, ln_uL, fd_uL, ai_uL, ar_uL, zs_uL, al_uL, kd_uR, ln_uR, fd_uR, ai_uR, al_uR, zs_uR, ar_uR, true_and, and_true, Option.toList_some, Option.toList_none, List.cons_append, List.nil_append, catS_nil, catS_int, catS_ref, catS_null, catS_long, cat_int, cat_ref, cat_null, Nat.reduceEqDiff, Nat.reduceLeDiff, Nat.reduceAdd, false_and, and_false, if_false, if_true, ite_true, ite_false, true_or, or_true, false_or, or_false, and_self, forall_const, true_implies, reduceCtorEq, clr_int, clr_ref, clr_null, clr_none, clr_long, va_rf_some, va_rf_none]
          rw [nI_1]
          refine ih (i + 1) (by omega) _ _ ?_ (hF.A (k := 1) (by decide))
          rw [← blkR_step ha (by omega)]
          exact hw0.Mem
      exact lp 128 0 rfl w1 none (by rw [blkR_0]; exact hu10) hF1
    | false =>
      rw [if_neg (by decide)] at h
      have lp : ∀ (k i : Nat), i + k = 128 → ∀ w' l5, UAt w' b n (blkW v a i) → FrU w w' b → wp (d + 1) 74 Q 51 [some (Value.ref b), some (Value.int (nI false.toNat)), some (Value.int (nI a)), some (Value.int (nI (v.1 1 * 128))), some (Value.int (nI i)), l5] [] w' 0 0 := by
        intro k
        induction k with
        | zero =>
          intro i hi w' l5 hw hF
          have hi : i = 128 := by omega
          subst hi
          rw [s_74_51]
          simp only [↓s_74_53, ↓s_74_56, ↓s_74_59, ↓s_74_60, ↓s_74_62, ↓s_74_63, ↓s_74_66, ↓s_74_67, ↓s_74_69, ↓s_74_70, ↓s_74_73, ↓s_74_74, ↓s_74_77, ↓s_74_79, ↓s_74_80, ↓s_74_83, ↓s_74_84, ↓s_74_86, ↓s_74_87, ↓s_74_88, ↓s_74_89, ↓s_74_92, ↓s_74_93, ↓s_74_96, ↓s_74_97, ↓s_74_99, ↓s_74_100, ↓s_74_101, ↓s_74_104, ↓s_74_106, ↓s_74_107, ↓s_74_114, ↓s_74_115, ↓s_74_116, ↓s_74_119, kd_uF, ln_uF, ai_uF, al_uF, ar_uF, zs_uF, fd_uF, kd_uA, ln_uA, fd_uA, al_uA, ar_uA, zs_uA, ai_uA, kd_uL, ln_uL, fd_uL, ai_uL, ar_uL, zs_uL, al_uL, kd_uR, ln_uR, fd_uR, ai_uR, al_uR, zs_uR, ar_uR, true_and, and_true, Option.toList_some, Option.toList_none, List.cons_append, List.nil_append, catS_nil, catS_int, catS_ref, catS_null, catS_long, cat_int, cat_ref, cat_null, Nat.reduceEqDiff, Nat.reduceLeDiff, Nat.reduceAdd, false_and, and_false, if_false, if_true, ite_true, ite_false, true_or, or_true, false_or, or_false, and_self, forall_const, true_implies, reduceCtorEq, clr_int, clr_ref, clr_null, clr_none, clr_long, va_rf_some, va_rf_none, hw.1]
          exact ⟨fun _ => h _ hw.S1 hF.S1, fun q => absurd (by decide) q⟩
        | succ k ih =>
          intro i hi w' l5 hw hF
          have hw0 := hw
          clear h0 h1 h2 h3 h4 h5 h6 s0 s1 s2 s3 s4 s5 s6 s7 s8 s9 m1 m2 m3 f1 f2 f3 p1 p2 p3 li lo
          obtain ⟨h0, h1, h2, h3, h4, h5, h6, s0, s1, s2, s3, s4, s5, s6, s7, s8, s9, m1, m2, m3, f1, f2, f3, p1, p2, p3, li, lo⟩ := hw
          have ef : ∀ j, uMm (blkW v a i) j = uMm v j := fun _ => rfl
          rw [s_74_51]
          simp only [↓s_74_53, ↓s_74_56, ↓s_74_59, ↓s_74_60, ↓s_74_62, ↓s_74_63, ↓s_74_66, ↓s_74_67, ↓s_74_69, ↓s_74_70, ↓s_74_73, ↓s_74_74, ↓s_74_77, ↓s_74_79, ↓s_74_80, ↓s_74_83, ↓s_74_84, ↓s_74_86, ↓s_74_87, ↓s_74_88, ↓s_74_89, ↓s_74_92, ↓s_74_93, ↓s_74_96, ↓s_74_97, ↓s_74_99, ↓s_74_100, ↓s_74_101, ↓s_74_104, ↓s_74_106, ↓s_74_107, ↓s_74_114, ↓s_74_115, ↓s_74_116, ↓s_74_119, kd_uF, ln_uF, ai_uF, al_uF, ar_uF, zs_uF, fd_uF, kd_uA, ln_uA, fd_uA, al_uA, ar_uA, zs_uA, ai_uA, kd_uL, ln_uL, fd_uL, ai_uL, ar_uL, zs_uL, al_uL, kd_uR, ln_uR, fd_uR, ai_uR, al_uR, zs_uR, ar_uR, true_and, and_true, Option.toList_some, Option.toList_none, List.cons_append, List.nil_append, catS_nil, catS_int, catS_ref, catS_null, catS_long, cat_int, cat_ref, cat_null, Nat.reduceEqDiff, Nat.reduceLeDiff, Nat.reduceAdd, false_and, and_false, if_false, if_true, ite_true, ite_false, true_or, or_true, false_or, or_false, and_self, forall_const, true_implies, reduceCtorEq, clr_int, clr_ref, clr_null, clr_none, clr_long, va_rf_some, va_rf_none, h0, h2, h3, m1, m2, m3, f1, f2, ef]
          rw [eP i (by omega), clN (by omega), nI_add, clN (by omega)]
          refine ⟨fun q => absurd q (nI_ge (b := 128) (by omega) (by decide)), fun _ => ⟨fun _ => ⟨inR_nI (by omega) (by decide), inR_nI (by omega) (by decide), ?_⟩, fun q => absurd rfl q⟩⟩
          rw [s_74_108]
          simp only [↓s_74_111, kd_uF, ln_uF, ai_uF, al_uF, ar_uF, zs_uF, fd_uF, kd_uA, ln_uA, fd_uA, al_uA, ar_uA, zs_uA, ai_uA, kd_uL, ln_uL, fd_uL, ai_uL, ar_uL, zs_uL, al_uL, kd_uR, ln_uR, fd_uR, ai_uR, al_uR, zs_uR, ar_uR, true_and, and_true, Option.toList_some, Option.toList_none, List.cons_append, List.nil_append, catS_nil, catS_int, catS_ref, catS_null, catS_long, cat_int, cat_ref, cat_null, Nat.reduceEqDiff, Nat.reduceLeDiff, Nat.reduceAdd, false_and, and_false, if_false, if_true, ite_true, ite_false, true_or, or_true, false_or, or_false, and_self, forall_const, true_implies, reduceCtorEq, clr_int, clr_ref, clr_null, clr_none, clr_long, va_rf_some, va_rf_none]
          rw [nI_1]
          refine ih (i + 1) (by omega) _ _ ?_ (hF.A (k := 2) (by decide))
          rw [← blkW_step (by omega)]
          exact hw0.Fil
      exact lp 128 0 rfl w1 none (by rw [blkW_0]; exact hu10) hF1
  · rw [e31] at q
    have q2 : ¬ v.1 1 ≤ 31 := fun z => q ⟨Int32.not_lt.mp (nI_pos (by omega)), z⟩
    rw [if_pos (by omega)] at h
    simp only [↓s_74_28, ↓s_74_31, ↓s_74_32, ↓s_74_35, ↓s_74_38, ↓s_74_39, ↓s_74_40, ↓s_74_43, ↓s_74_46, ↓s_74_47, ↓s_74_48, ↓s_74_49, kd_uF, ln_uF, ai_uF, al_uF, ar_uF, zs_uF, fd_uF, kd_uA, ln_uA, fd_uA, al_uA, ar_uA, zs_uA, ai_uA, kd_uL, ln_uL, fd_uL, ai_uL, ar_uL, zs_uL, al_uL, kd_uR, ln_uR, fd_uR, ai_uR, al_uR, zs_uR, ar_uR, true_and, and_true, Option.toList_some, Option.toList_none, List.cons_append, List.nil_append, catS_nil, catS_int, catS_ref, catS_null, catS_long, cat_int, cat_ref, cat_null, Nat.reduceEqDiff, Nat.reduceLeDiff, Nat.reduceAdd, false_and, and_false, if_false, if_true, ite_true, ite_false, true_or, or_true, false_or, or_false, and_self, forall_const, true_implies, reduceCtorEq, clr_int, clr_ref, clr_null, clr_none, clr_long, va_rf_some, va_rf_none, h0, s1]
    refine ⟨fun q => absurd trivial q, ?_⟩
    exact h _ hu10.S1 (hF1.tr FrU.rf.S1)
