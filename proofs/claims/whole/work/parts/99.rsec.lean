def FrD (w w' : aw) (m : Nat) : Prop := Fr w w' m (m + 25) ∧ (∀ g, g ≠ 555 → g ≠ 557 → g ≠ 558 → g ≠ 553 → g ≠ 554 → fd w' g m = fd w g m) ∧ (∀ k i, k < 22 → ai w' (m + k) i = ai w (m + k) i) ∧ (∀ q i, al w' q i = al w q i)
theorem FrD.rf {w : aw} {m : Nat} : FrD w w m := ⟨Fr.rf, fun _ _ _ _ _ _ => rfl, fun _ _ _ => rfl, fun _ _ => rfl⟩
theorem FrD.tr {w w1 w2 : aw} {m : Nat} (h : FrD w w1 m) (g : FrD w1 w2 m) : FrD w w2 m := ⟨h.1.tr g.1, fun k a b c x y => (g.2.1 k a b c x y).trans (h.2.1 k a b c x y), fun k i e => (g.2.2.1 k i e).trans (h.2.2.1 k i e), fun q i => (g.2.2.2 q i).trans (h.2.2.2 q i)⟩
theorem FrA.D {w w' : aw} {m : Nat} (h : FrA w w' m) : FrD w w' m := ⟨h.1, fun g a b c _ _ => h.2.1 g a b c, fun k i _ => h.2.2.1 _ i, h.2.2.2⟩
theorem FrD.F {w w' : aw} {m g : Nat} {v : Value} (h : FrD w w' m) (hg : g = 555 ∨ g = 557 ∨ g = 558 ∨ g = 553 ∨ g = 554) : FrD w (uF w' g m v) m :=
  ⟨h.1.F (by omega) (by omega), fun k a b c x y => by rw [fd_uF, if_neg (fun q => by omega)]; exact h.2.1 k a b c x y, h.2.2⟩
theorem FrD.A {w w' : aw} {m k i : Nat} {x : Int32} (h : FrD w w' m) (h1 : 22 ≤ k) (h2 : k < 25) : FrD w (uA w' (m + k) i x) m :=
  ⟨h.1.A (by omega) (by omega), h.2.1, fun j i' p => by rw [ai_uA, if_neg (by omega)]; exact h.2.2.1 j i' p, h.2.2.2⟩
theorem FrD.T {w w' : aw} {m : Nat} (h : FrD w w' m) : FrT w w' m := by
  refine ⟨h.1, fun g hg => h.2.1 g ?_ ?_ ?_ ?_ ?_, fun k i hk => h.2.2.1 k i (by omega)⟩ <;> (intro q; rw [q] at hg; exact absurd hg (by decide))
theorem RB.D {w w' : aw} {m : Nat} {t : nt} (h : RB w m t) (hF : FrD w w' m) : RB w' m t := by
  obtain ⟨a, b, c⟩ := h
  exact ⟨(hF.2.1 _ (by decide) (by decide) (by decide) (by decide) (by decide)).trans a, (hF.2.1 _ (by decide) (by decide) (by decide) (by decide) (by decide)).trans b, fun k x hx => ⟨(hF.2.2.2 _ _).trans (c k x hx).1, (hF.2.2.1 21 _ (by decide)).trans (c k x hx).2⟩⟩
theorem RWd.A {w w' : aw} {m : Nat} {S : ps} (h : RWd w m S) (hF : FrA w w' m) : RWd w' m S := by
  obtain ⟨a, b, c, d⟩ := h
  exact ⟨(hF.2.1 _ (by decide) (by decide) (by decide)).trans a, fun k hk => (hF.2.2.1 _ _).trans (b k hk), fun k x hx => (hF.2.2.1 _ _).trans (c k x hx), fun g hg => (hF.2.2.1 _ _).trans (d g hg)⟩
theorem RWd.put {w : aw} {m a x dd : Nat} {S : ps} (h : RWd w m S) (hI : PI S) (ha : a < 4096) (hn : S.2.1 a = none) : RWd (uF (uA (uA w (m + 22) a (nI x)) (m + 23) a 0) 553 m (.int (nI (S.2.2.1.length + 1)))) m (dd, va_up S.2.1 a (some x), S.2.2.1 ++ [a], S.2.2.2) := by
  obtain ⟨b1, b2, b3, b4⟩ := h
  refine ⟨?_, fun b hb => ?_, fun b y hb => ?_, fun g hg => ?_⟩
  · rw [fd_uF, if_pos ⟨rfl, rfl⟩]
    show _ = Value.int (nI (S.2.2.1 ++ [a]).length)
    rw [List.length_append]; rfl
  · rw [ai_uF, ai_uA, if_neg (by omega), ai_uA]
    show _ = oW (va_up S.2.1 a (some x) b)
    unfold va_up
    by_cases c : b = a
    · rw [if_pos ⟨rfl, c⟩, if_pos c]; rfl
    · rw [if_neg (fun q => c q.2), if_neg c]; exact b2 b hb
  · have hb' : va_up S.2.1 a (some x) b = some y := hb
    rw [ai_uF, ai_uA]
    show _ = if isLA S b = true then 1 else 0
    by_cases c : b = a
    · rw [if_pos ⟨rfl, c⟩, c, hI.noLA ha hn]; rfl
    · rw [if_neg (fun q => c q.2), ai_uA, if_neg (by omega)]
      unfold va_up at hb'
      rw [if_neg c] at hb'
      exact b3 b y hb'
  · rw [ai_uF, ai_uA, if_neg (by omega), ai_uA, if_neg (by omega)]; exact b4 g hg
theorem sp_R_comes {d : Nat} {w : aw} {m a x : Nat} {l : Int32} {S : ps} {Q : wQ} (hs : RSh w m) (hW : RWd w m S) (hI : PI S) (ha : a < 4096) (hx : x < 4096) (h1 : ∀ y, S.2.1 a = some y → Q (some (.int 5)) w) (h2 : S.2.1 a = none → Q (some (.int 0)) (uF (uA (uA w (m + 22) a (nI x)) (m + 23) a (vp_nar .boolean l)) 553 m (.int (nI (S.2.2.1.length + 1))))) : wpD (d + 1) 165 [.ref m, .int (nI a), .int (nI x), .int l] w Q := by
  refine ⟨Nat.le_of_ble_eq_true rfl, ?_⟩
  show wp d 165 Q 0 [some (.ref m), some (.int (nI a)), some (.int (nI x)), some (.int l)] [] w 0 0
  obtain ⟨rk, r1, r2, r3, r4, r5, r6, r7, r8, r9, r10, r11, r12, r13, r14, r15, r16, r17, r18, r19, r20, r21, r22, r23, r24, k1, k2, k3, k4, k5, k6, k7, k8, k9, k10, k11, k12, k13, k14, k15, k16, k17, k18, k19, k20, k21, k22, k23, k24, n1, n2, n3, n4, n5, n6, n7, n8, n9, n10, n11, n12, n13, n14, n15, n16, n17, n18, n19, n20, n21, n22, n23, n24⟩ := hs
  obtain ⟨b1, b2, b3, b4⟩ := hW
  have hin : inR (nI a) 4096 := inR_nI ha (by decide)
  simp only [↓s_165_0, ↓s_165_1, ↓s_165_4, ↓s_165_5, ↓s_165_6, ↓s_165_9, ↓s_165_10, ↓s_165_11, ↓s_165_12, ↓s_165_15, ↓s_165_16, ↓s_165_17, ↓s_165_20, ↓s_165_21, ↓s_165_22, ↓s_165_23, ↓s_165_26, ↓s_165_27, ↓s_165_28, ↓s_165_29, ↓s_165_30, ↓s_165_31, ↓s_165_34, ↓s_165_35, ↓s_165_36, ↓s_165_39, ↓s_165_40, kd_uF, ln_uF, ai_uF, al_uF, ar_uF, zs_uF, fd_uF, kd_uA, ln_uA, fd_uA, al_uA, ar_uA, zs_uA, ai_uA, kd_uL, ln_uL, fd_uL, ai_uL, ar_uL, zs_uL, al_uL, kd_uR, ln_uR, fd_uR, ai_uR, al_uR, zs_uR, ar_uR, true_and, and_true, Option.toList_some, Option.toList_none, List.cons_append, List.nil_append, catS_nil, catS_int, catS_ref, catS_null, catS_long, cat_int, cat_ref, cat_null, Nat.reduceEqDiff, Nat.reduceLeDiff, Nat.reduceAdd, false_and, and_false, if_false, if_true, ite_true, ite_false, true_or, or_true, false_or, or_false, and_self, forall_const, true_implies, reduceCtorEq, clr_int, clr_ref, clr_null, clr_none, clr_long, va_rf_some, va_rf_none, rk, r22, k22, n22, r23, k23, n23, clN (show a < 2147483648 by omega), b1, b2 a ha]
  rw [nI_1, m12 (by omega), Nat.mod_eq_of_lt hx]
  cases c : S.2.1 a with
  | none => exact ⟨hin, fun _ => ⟨hin, hin, h2 c⟩, fun q => absurd (by decide) q⟩
  | some y =>
    have hy := (hI.2.2.2.1 a y c).2
    exact ⟨hin, fun q => absurd q (nI_pos (by omega)), fun _ => h1 y c⟩
theorem lit_dot {S S' : ps} {v a : Nat} (h : litP S v = some (a, S')) : S'.1 = S.1 := by
  unfold litP at h
  split at h
  · cases h; rfl
  · split at h
    · cases h
    · split at h
      · cases h
      · rename_i S2 hp
        cases h
        unfold put1 at hp
        split at hp
        · cases hp
        · cases hp; rfl
theorem sp_R_lit {d : Nat} {w : aw} {m v : Nat} {S : ps} {Q : wQ} (hs : RSh w m) (hW : RWd w m S) (hI : PI S) (hD : fd w 554 m = .int (nI S.1)) (hv : v < 4096) (h1 : ∀ a S' w', litP S v = some (a, S') → a < 4096 → PI S' → RWd w' m S' → FrD w w' m → (∀ g, g ≠ 553 → fd w' g m = fd w g m) → Q (some (.int (nI a))) w') (h2 : litP S v = none → ∀ w', FrD w w' m → Q (some (.int (-5))) w') : wpD (d + 2) 166 [.ref m, .int (nI v)] w Q := by
  refine ⟨Nat.le_of_ble_eq_true rfl, ?_⟩
  show wp (d + 1) 166 Q 0 [some (.ref m), some (.int (nI v)), none, none] [] w 0 0
  have hs0 := hs
  have hW0 := hW
  have hd := hI.1
  obtain ⟨rk, r1, r2, r3, r4, r5, r6, r7, r8, r9, r10, r11, r12, r13, r14, r15, r16, r17, r18, r19, r20, r21, r22, r23, r24, k1, k2, k3, k4, k5, k6, k7, k8, k9, k10, k11, k12, k13, k14, k15, k16, k17, k18, k19, k20, k21, k22, k23, k24, n1, n2, n3, n4, n5, n6, n7, n8, n9, n10, n11, n12, n13, n14, n15, n16, n17, n18, n19, n20, n21, n22, n23, n24⟩ := hs
  obtain ⟨b1, b2, b3, b4⟩ := hW
  have hLn := (hI.2.2.2.2.1 (S.1 / 128)).1
  have hLl := (hI.2.2.2.2.1 (S.1 / 128)).2
  have pd : nI (S.1 / 128 * 128) / 128 = nI (S.1 / 128) := by
    have := pk_div (a := S.1 / 128 * 128) (d := 128) (by omega) (by decide) (by decide)
    rw [Nat.mul_div_cancel _ (by decide)] at this
    exact this
  have hg : S.1 / 128 < 32 := by omega
  have j83 : ∀ w' A, litP S v = none → FrD w w' m → wp (d + 1) 166 Q 83 [some (.ref m), some (.int (nI v)), some (.int (nI (S.1 / 128 * 128))), A] [] w' 0 0 := by
    intro w' A e1 f1
    simp only [↓s_166_83, ↓s_166_85, kd_uF, ln_uF, ai_uF, al_uF, ar_uF, zs_uF, fd_uF, kd_uA, ln_uA, fd_uA, al_uA, ar_uA, zs_uA, ai_uA, kd_uL, ln_uL, fd_uL, ai_uL, ar_uL, zs_uL, al_uL, kd_uR, ln_uR, fd_uR, ai_uR, al_uR, zs_uR, ar_uR, true_and, and_true, Option.toList_some, Option.toList_none, List.cons_append, List.nil_append, catS_nil, catS_int, catS_ref, catS_null, catS_long, cat_int, cat_ref, cat_null, Nat.reduceEqDiff, Nat.reduceLeDiff, Nat.reduceAdd, false_and, and_false, if_false, if_true, ite_true, ite_false, true_or, or_true, false_or, or_false, and_self, forall_const, true_implies, reduceCtorEq, clr_int, clr_ref, clr_null, clr_none, clr_long, va_rf_some, va_rf_none]
    exact h2 e1 w' f1
  have j47 : ∀ A, (S.2.2.2 (S.1 / 128)).findIdx? (fun y => y == v) = none → wp (d + 1) 166 Q 47 [some (.ref m), some (.int (nI v)), some (.int (nI (S.1 / 128 * 128))), A] [] w 0 0 := by
    intro A hf
    have hin : inR (nI (S.1 / 128)) 32 := inR_nI hg (by decide)
    simp only [↓s_166_47, ↓s_166_48, ↓s_166_49, ↓s_166_52, ↓s_166_53, ↓s_166_56, ↓s_166_57, ↓s_166_58, ↓s_166_59, ↓s_166_60, ↓s_166_61, ↓s_166_64, ↓s_166_65, ↓s_166_68, ↓s_166_69, ↓s_166_70, ↓s_166_73, ↓s_166_74, ↓s_166_75, ↓s_166_76, ↓s_166_77, kd_uF, ln_uF, ai_uF, al_uF, ar_uF, zs_uF, fd_uF, kd_uA, ln_uA, fd_uA, al_uA, ar_uA, zs_uA, ai_uA, kd_uL, ln_uL, fd_uL, ai_uL, ar_uL, zs_uL, al_uL, kd_uR, ln_uR, fd_uR, ai_uR, al_uR, zs_uR, ar_uR, true_and, and_true, Option.toList_some, Option.toList_none, List.cons_append, List.nil_append, catS_nil, catS_int, catS_ref, catS_null, catS_long, cat_int, cat_ref, cat_null, Nat.reduceEqDiff, Nat.reduceLeDiff, Nat.reduceAdd, false_and, and_false, if_false, if_true, ite_true, ite_false, true_or, or_true, false_or, or_false, and_self, forall_const, true_implies, reduceCtorEq, clr_int, clr_ref, clr_null, clr_none, clr_long, va_rf_some, va_rf_none, rk, r24, k24, n24, pd, clN (show S.1 / 128 < 2147483648 by omega), b4 (S.1 / 128) hg]
    by_cases c : (S.2.2.2 (S.1 / 128)).length = 128
    · have e1 : litP S v = none := by unfold litP; rw [hf]; dsimp only; rw [if_pos c]
      rw [c]
      exact ⟨by decide, hin, by decide, hin, fun _ => j83 w _ e1 FrD.rf, fun q => absurd (by decide) q⟩
    · rw [pk_sub (by omega), nI_add]
      have ea : S.1 / 128 * 128 + (127 - (S.2.2.2 (S.1 / 128)).length) = S.1 / 128 * 128 + 127 - (S.2.2.2 (S.1 / 128)).length := by omega
      rw [ea]
      refine ⟨by decide, hin, by decide, hin, fun q => absurd q (nI_pos (by omega)), fun _ => sp_R_comes hs0 hW0 hI (by omega) hv (fun y e2 => ?_) (fun e2 => ?_)⟩
      · have e1 : litP S v = none := by unfold litP put1; rw [hf]; dsimp only; rw [if_neg c, e2]
        simp only [↓s_166_80, ↓s_166_86, ↓s_166_87, ↓s_166_90, ↓s_166_91, ↓s_166_94, ↓s_166_95, ↓s_166_96, ↓s_166_97, ↓s_166_98, ↓s_166_99, ↓s_166_100, ↓s_166_101, kd_uF, ln_uF, ai_uF, al_uF, ar_uF, zs_uF, fd_uF, kd_uA, ln_uA, fd_uA, al_uA, ar_uA, zs_uA, ai_uA, kd_uL, ln_uL, fd_uL, ai_uL, ar_uL, zs_uL, al_uL, kd_uR, ln_uR, fd_uR, ai_uR, al_uR, zs_uR, ar_uR, true_and, and_true, Option.toList_some, Option.toList_none, List.cons_append, List.nil_append, catS_nil, catS_int, catS_ref, catS_null, catS_long, cat_int, cat_ref, cat_null, Nat.reduceEqDiff, Nat.reduceLeDiff, Nat.reduceAdd, false_and, and_false, if_false, if_true, ite_true, ite_false, true_or, or_true, false_or, or_false, and_self, forall_const, true_implies, reduceCtorEq, clr_int, clr_ref, clr_null, clr_none, clr_long, va_rf_some, va_rf_none]
        exact ⟨fun q => absurd q (by decide), fun _ => j83 w _ e1 FrD.rf⟩
      · have e1 : litP S v = some (S.1 / 128 * 128 + 127 - (S.2.2.2 (S.1 / 128)).length, (S.1, va_up S.2.1 (S.1 / 128 * 128 + 127 - (S.2.2.2 (S.1 / 128)).length) (some v), S.2.2.1 ++ [S.1 / 128 * 128 + 127 - (S.2.2.2 (S.1 / 128)).length], va_up S.2.2.2 (S.1 / 128) (S.2.2.2 (S.1 / 128) ++ [v]))) := by
          unfold litP put1; rw [hf]; dsimp only; rw [if_neg c, e2]
        have nl : vp_nar .boolean 1 = 1 := by decide
        rw [nl]
        have hP := hI.lit hv hf (by omega) e2
        simp only [↓s_166_80, ↓s_166_86, ↓s_166_87, ↓s_166_90, ↓s_166_91, ↓s_166_94, ↓s_166_95, ↓s_166_96, ↓s_166_97, ↓s_166_98, ↓s_166_99, ↓s_166_100, ↓s_166_101, kd_uF, ln_uF, ai_uF, al_uF, ar_uF, zs_uF, fd_uF, kd_uA, ln_uA, fd_uA, al_uA, ar_uA, zs_uA, ai_uA, kd_uL, ln_uL, fd_uL, ai_uL, ar_uL, zs_uL, al_uL, kd_uR, ln_uR, fd_uR, ai_uR, al_uR, zs_uR, ar_uR, true_and, and_true, Option.toList_some, Option.toList_none, List.cons_append, List.nil_append, catS_nil, catS_int, catS_ref, catS_null, catS_long, cat_int, cat_ref, cat_null, Nat.reduceEqDiff, Nat.reduceLeDiff, Nat.reduceAdd, false_and, and_false, if_false, if_true, ite_true, ite_false, true_or, or_true, false_or, or_false, and_self, forall_const, true_implies, reduceCtorEq, clr_int, clr_ref, clr_null, clr_none, clr_long, va_rf_some, va_rf_none, rk, r24, k24, n24, pd, clN (show S.1 / 128 < 2147483648 by omega)]
        have eA : ∀ y z q i, ai (uF (uA (uA w (m + 22) y z) (m + 23) y 1) 553 m q) (m + 24) i = ai w (m + 24) i := fun y z q i => by rw [ai_uF, ai_uA, if_neg (by omega), ai_uA, if_neg (by omega)]
        refine ⟨fun _ => ⟨by decide, hin, hin, ?_⟩, fun q => absurd (by decide) q⟩
        simp only [eq_false (show ¬ m + 1 = m by omega), eq_false (show ¬ m + 2 = m by omega), false_and, if_false]
        refine h1 _ _ _ e1 (by omega) hP ⟨?_, fun b hb => ?_, fun b y hb => ?_, fun g hg' => ?_⟩ ((((FrD.rf.A (by omega) (by omega)).A (by omega) (by omega)).F (by omega)).A (by omega) (by omega)) (fun g hg' => by rw [fd_uA, fd_uF, if_neg (fun q => hg' q.1)]; rfl)
        · rw [fd_uA, fd_uF, if_pos ⟨rfl, rfl⟩, List.length_append]; rfl
        · rw [ai_uA, if_neg (by omega), ai_uF, ai_uA, if_neg (by omega), ai_uA]
          show _ = oW (va_up S.2.1 _ (some v) b)
          unfold va_up
          by_cases c2 : b = S.1 / 128 * 128 + 127 - (S.2.2.2 (S.1 / 128)).length
          · rw [if_pos ⟨rfl, c2⟩, if_pos c2]; rfl
          · rw [if_neg (fun q => c2 q.2), if_neg c2]; exact b2 b hb
        · have hb' : va_up S.2.1 (S.1 / 128 * 128 + 127 - (S.2.2.2 (S.1 / 128)).length) (some v) b = some y := hb
          rw [ai_uA, if_neg (by omega), ai_uF, ai_uA]
          unfold isLA
          show _ = if decide (127 - b % 128 < (va_up S.2.2.2 (S.1 / 128) (S.2.2.2 (S.1 / 128) ++ [v]) (b / 128)).length) = true then 1 else 0
          by_cases c2 : b = S.1 / 128 * 128 + 127 - (S.2.2.2 (S.1 / 128)).length
          · have e3 : b / 128 = S.1 / 128 := by omega
            rw [if_pos ⟨rfl, c2⟩, e3]
            unfold va_up
            rw [if_pos rfl, List.length_append, if_pos (by rw [decide_eq_true_iff]; simp; omega)]
          · rw [if_neg (fun q => c2 q.2), ai_uA, if_neg (by omega)]
            unfold va_up at hb'
            rw [if_neg c2] at hb'
            rw [b3 b y hb']
            unfold isLA va_up
            have hb4 := (hI.2.2.2.1 b y hb').1
            by_cases c3 : b / 128 = S.1 / 128
            · rw [if_pos c3, List.length_append, c3]
              have : (127 - b % 128 < (S.2.2.2 (S.1 / 128)).length) ↔ (127 - b % 128 < (S.2.2.2 (S.1 / 128)).length + [v].length) := by simp; omega
              simp only [this]
            · rw [if_neg c3]
        · rw [ai_uA]
          show _ = nI 127 - nI (va_up S.2.2.2 (S.1 / 128) (S.2.2.2 (S.1 / 128) ++ [v]) g).length
          unfold va_up
          by_cases c2 : g = S.1 / 128
          · rw [if_pos ⟨rfl, c2⟩, if_pos c2, List.length_append]
            rw [show (S.2.2.2 (S.1 / 128)).length + [v].length = (S.2.2.2 (S.1 / 128)).length + 1 from rfl, ← nI_1 (S.2.2.2 (S.1 / 128)).length]
            rw [b4 (S.1 / 128) hg]
            generalize nI (S.2.2.2 (S.1 / 128)).length = z
            rw [Int32.sub_eq_add_neg (nI 127 - z), Int32.sub_eq_add_neg (nI 127) z, Int32.sub_eq_add_neg (nI 127) (z + 1), Int32.neg_add, Int32.sub_eq_add_neg (-z), Int32.add_assoc]
          · rw [if_neg (fun q => c2 q.2), if_neg c2, eA]; exact b4 g hg'
  have lp : ∀ (j i : Nat), i + j = 128 → (∀ i', i' < i → ¬ (S.2.1 (S.1 / 128 * 128 + i') = some v ∧ isLA S (S.1 / 128 * 128 + i') = true)) → wp (d + 1) 166 Q 11 [some (.ref m), some (.int (nI v)), some (.int (nI (S.1 / 128 * 128))), some (.int (nI (S.1 / 128 * 128 + i)))] [] w 0 0 := by
    intro j
    induction j with
    | zero =>
      intro i hi hno
      have e0 : i = 128 := by omega
      subst e0
      rw [s_166_11]
      simp only [↓s_166_12, ↓s_166_13, ↓s_166_16, ↓s_166_17, kd_uF, ln_uF, ai_uF, al_uF, ar_uF, zs_uF, fd_uF, kd_uA, ln_uA, fd_uA, al_uA, ar_uA, zs_uA, ai_uA, kd_uL, ln_uL, fd_uL, ai_uL, ar_uL, zs_uL, al_uL, kd_uR, ln_uR, fd_uR, ai_uR, al_uR, zs_uR, ar_uR, true_and, and_true, Option.toList_some, Option.toList_none, List.cons_append, List.nil_append, catS_nil, catS_int, catS_ref, catS_null, catS_long, cat_int, cat_ref, cat_null, Nat.reduceEqDiff, Nat.reduceLeDiff, Nat.reduceAdd, false_and, and_false, if_false, if_true, ite_true, ite_false, true_or, or_true, false_or, or_false, and_self, forall_const, true_implies, reduceCtorEq, clr_int, clr_ref, clr_null, clr_none, clr_long, va_rf_some, va_rf_none]
      rw [show (128 : Int32) = nI 128 from rfl, nI_add]
      refine ⟨fun _ => j47 _ (fidx_none (fun i hi e => ?_)), fun q => absurd (nI_le (Nat.le_refl _) (by omega)) q⟩
      refine hno (127 - i) (by omega) ⟨?_, ?_⟩
      · have := hI.2.2.2.2.2 (S.1 / 128) i hg hi
        rw [e] at this
        rw [show S.1 / 128 * 128 + (127 - i) = S.1 / 128 * 128 + 127 - i by omega]; exact this
      · unfold isLA
        rw [decide_eq_true_iff, show (S.1 / 128 * 128 + (127 - i)) / 128 = S.1 / 128 by omega]; omega
    | succ j ih =>
      intro i hi hno
      have hin : inR (nI (S.1 / 128 * 128 + i)) 4096 := inR_nI (by omega) (by decide)
      have next : ¬ (S.2.1 (S.1 / 128 * 128 + i) = some v ∧ isLA S (S.1 / 128 * 128 + i) = true) → wp (d + 1) 166 Q 41 [some (.ref m), some (.int (nI v)), some (.int (nI (S.1 / 128 * 128))), some (.int (nI (S.1 / 128 * 128 + i)))] [] w 0 0 := by
        intro q
        simp only [↓s_166_41, ↓s_166_44, kd_uF, ln_uF, ai_uF, al_uF, ar_uF, zs_uF, fd_uF, kd_uA, ln_uA, fd_uA, al_uA, ar_uA, zs_uA, ai_uA, kd_uL, ln_uL, fd_uL, ai_uL, ar_uL, zs_uL, al_uL, kd_uR, ln_uR, fd_uR, ai_uR, al_uR, zs_uR, ar_uR, true_and, and_true, Option.toList_some, Option.toList_none, List.cons_append, List.nil_append, catS_nil, catS_int, catS_ref, catS_null, catS_long, cat_int, cat_ref, cat_null, Nat.reduceEqDiff, Nat.reduceLeDiff, Nat.reduceAdd, false_and, and_false, if_false, if_true, ite_true, ite_false, true_or, or_true, false_or, or_false, and_self, forall_const, true_implies, reduceCtorEq, clr_int, clr_ref, clr_null, clr_none, clr_long, va_rf_some, va_rf_none]
        rw [nI_1]
        exact ih (i + 1) (by omega) (fun i' hi' => by
          by_cases c : i' = i
          · rw [c]; exact q
          · exact hno i' (by omega))
      rw [s_166_11]
      simp only [↓s_166_12, ↓s_166_13, ↓s_166_16, ↓s_166_17, ↓s_166_20, ↓s_166_21, ↓s_166_24, ↓s_166_25, ↓s_166_26, ↓s_166_27, ↓s_166_30, ↓s_166_31, ↓s_166_34, ↓s_166_35, ↓s_166_36, ↓s_166_39, ↓s_166_40, ↓s_166_47, ↓s_166_48, ↓s_166_49, ↓s_166_52, ↓s_166_53, ↓s_166_56, ↓s_166_57, ↓s_166_58, ↓s_166_59, ↓s_166_60, ↓s_166_61, ↓s_166_64, ↓s_166_65, ↓s_166_68, ↓s_166_69, ↓s_166_70, ↓s_166_73, ↓s_166_74, ↓s_166_75, ↓s_166_76, ↓s_166_77, kd_uF, ln_uF, ai_uF, al_uF, ar_uF, zs_uF, fd_uF, kd_uA, ln_uA, fd_uA, al_uA, ar_uA, zs_uA, ai_uA, kd_uL, ln_uL, fd_uL, ai_uL, ar_uL, zs_uL, al_uL, kd_uR, ln_uR, fd_uR, ai_uR, al_uR, zs_uR, ar_uR, true_and, and_true, Option.toList_some, Option.toList_none, List.cons_append, List.nil_append, catS_nil, catS_int, catS_ref, catS_null, catS_long, cat_int, cat_ref, cat_null, Nat.reduceEqDiff, Nat.reduceLeDiff, Nat.reduceAdd, false_and, and_false, if_false, if_true, ite_true, ite_false, true_or, or_true, false_or, or_false, and_self, forall_const, true_implies, reduceCtorEq, clr_int, clr_ref, clr_null, clr_none, clr_long, va_rf_some, va_rf_none, rk, r22, k22, n22, r23, k23, n23, clN (show S.1 / 128 * 128 + i < 2147483648 by omega), b2 (S.1 / 128 * 128 + i) (by omega)]
      rw [show (128 : Int32) = nI 128 from rfl, nI_add]
      refine ⟨fun q => absurd q (nI_ge (by omega) (by omega)), fun _ => ⟨hin, ?_⟩⟩
      cases c : S.2.1 (S.1 / 128 * 128 + i) with
      | none =>
        refine ⟨fun _ => next (by rw [c]; exact fun z => by cases z.1), fun q => ?_⟩
        have q' : (-1 : Int32) = nI v := q
        exact absurd (show ¬ nI v < 0 from nI_pos (by omega)) (by rw [← q']; decide)
      | some y =>
        have hy := (hI.2.2.2.1 _ y c).2
        have hlb := b3 _ y c
        show (¬ nI y = nI v → _) ∧ (nI y = nI v → _)
        rw [nI_eq (by omega) (by omega), hlb]
        refine ⟨fun q => next (by rw [c]; exact fun z => q (by cases z.1; rfl)), fun q => ?_⟩
        cases cl : isLA S (S.1 / 128 * 128 + i) with
        | false =>
          simp only [Bool.false_eq_true, if_false]
          exact ⟨hin, fun _ => next (by rw [cl]; exact fun z => by cases z.2), fun q => absurd trivial q⟩
        | true =>
          simp only [if_true]
          refine ⟨hin, fun q => absurd q (by decide), fun _ => ?_⟩
          have cl' : 127 - (S.1 / 128 * 128 + i) % 128 < (S.2.2.2 ((S.1 / 128 * 128 + i) / 128)).length := of_decide_eq_true cl
          rw [show (S.1 / 128 * 128 + i) / 128 = S.1 / 128 by omega, show (S.1 / 128 * 128 + i) % 128 = i by omega] at cl'
          have h6 := hI.2.2.2.2.2 (S.1 / 128) (127 - i) hg cl'
          rw [show S.1 / 128 * 128 + 127 - (127 - i) = S.1 / 128 * 128 + i by omega, c] at h6
          have e1 : litP S v = some (S.1 / 128 * 128 + i, S) := by
            unfold litP
            rw [fidx_some hLn cl' (by rw [← q]; exact (Option.some.inj h6).symm)]
            show some (_, S) = _
            rw [show S.1 / 128 * 128 + 127 - (127 - i) = S.1 / 128 * 128 + i by omega]
          exact h1 _ _ w e1 (by omega) hI hW0 FrD.rf (fun _ _ => rfl)
  simp only [↓s_166_0, ↓s_166_1, ↓s_166_4, ↓s_166_7, ↓s_166_8, ↓s_166_9, ↓s_166_10, kd_uF, ln_uF, ai_uF, al_uF, ar_uF, zs_uF, fd_uF, kd_uA, ln_uA, fd_uA, al_uA, ar_uA, zs_uA, ai_uA, kd_uL, ln_uL, fd_uL, ai_uL, ar_uL, zs_uL, al_uL, kd_uR, ln_uR, fd_uR, ai_uR, al_uR, zs_uR, ar_uR, true_and, and_true, Option.toList_some, Option.toList_none, List.cons_append, List.nil_append, catS_nil, catS_int, catS_ref, catS_null, catS_long, cat_int, cat_ref, cat_null, Nat.reduceEqDiff, Nat.reduceLeDiff, Nat.reduceAdd, false_and, and_false, if_false, if_true, ite_true, ite_false, true_or, or_true, false_or, or_false, and_self, forall_const, true_implies, reduceCtorEq, clr_int, clr_ref, clr_null, clr_none, clr_long, va_rf_some, va_rf_none, rk, hD]
  rw [page hd]
  exact lp 128 0 (by omega) (fun i' h => by omega)
