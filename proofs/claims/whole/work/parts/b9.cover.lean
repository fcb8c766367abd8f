theorem sp_T_at {d : Nat} {w : aw} {x n k : Nat} {T : Nat → Nat} {Q : wQ} (hS : SR0 w x T n) (hk : k ≤ n) (h : Q (some (.int (lkI T n k))) w) : wpD (d + 1) 60 [.ref (x + 1), .int (nI k)] w Q := by
  refine ⟨Nat.le_of_ble_eq_true rfl, ?_⟩
  show wp d 60 Q 0 [some (.ref (x + 1)), some (.int (nI k))] [] w 0 0
  obtain ⟨a1, a2, a3, a4, a5, a6, a7, a8, a9, a12, a13⟩ := hS
  simp only [↓s_60_0, ↓s_60_1, ↓s_60_4, ↓s_60_5, ↓s_60_6, ↓s_60_9, ↓s_60_12, ↓s_60_13, ↓s_60_16, ↓s_60_17, ↓s_60_20, ↓s_60_21, ↓s_60_22, ↓s_60_25, ↓s_60_26, kd_uF, ln_uF, ai_uF, al_uF, ar_uF, zs_uF, fd_uF, kd_uA, ln_uA, fd_uA, al_uA, ar_uA, zs_uA, ai_uA, kd_uL, ln_uL, fd_uL, ai_uL, ar_uL, zs_uL, al_uL, kd_uR, ln_uR, fd_uR, ai_uR, al_uR, zs_uR, ar_uR, true_and, and_true, Option.toList_some, Option.toList_none, List.cons_append, List.nil_append, catS_nil, catS_int, catS_ref, catS_null, catS_long, cat_int, cat_ref, cat_null, Nat.reduceEqDiff, Nat.reduceLeDiff, Nat.reduceAdd, false_and, and_false, if_false, if_true, ite_true, ite_false, true_or, or_true, false_or, or_false, and_self, forall_const, true_implies, reduceCtorEq, clr_int, clr_ref, clr_null, clr_none, clr_long, va_rf_some, va_rf_none, a4, a5, a6, a7, a8, clN (show k < 2147483648 by omega)]
  rw [nI_ltI (by omega) (by omega)]
  unfold lkI at h
  refine ⟨fun q => absurd q (nI_pos (by omega)), fun _ => ⟨fun q => ⟨inR_nI (by omega) (by decide), ?_⟩, fun q => ?_⟩⟩
  · rw [a9 k (by omega)]
    rw [if_pos q] at h; exact h
  · rw [if_neg q] at h; exact h
def OvS {σ : Type} (d x n : Nat) (fi : Bool) (T : Nat → Nat) (f : Nat → Nat → σ → Nat × σ) (St : aw → σ → Prop) : Prop := ∀ (w : aw) (s : σ) (a b : Nat) (A2 A4 A6 A7 : Option Value) (Q : wQ), ASh w x → SR w x T n b → fd w 258 (x + 11) = .int (nI (bE T b a)) → St w s → a ≤ b → b ≤ n → (f a b s).1 ≠ 99 → (∀ w', FrX w w' x → GW w' x → ((f a b s).1 = 0 → St w' (f a b s).2) → wp (d + 7) 3 Q 119 [some (.ref (x + 3)), some (.int (bI fi)), A2, some (.int (nI a)), A4, some (.int (nI b)), A6, A7] [.int (nI (f a b s).1), .ref (x + 3)] w' 0 0) → wp (d + 7) 3 Q 100 [some (.ref (x + 3)), some (.int (bI fi)), A2, some (.int (nI a)), A4, some (.int (nI b)), A6, A7] [] w 0 0
def St1c (x : Nat) (w : aw) (s : nt × Nat) : Prop := CB w x s.1 ∧ TN s.1 ∧ fd w 8 (x + 3) = .int (nI s.2) ∧ s.2 < 4096 ∧ CW w x S0
def St2c (x : Nat) (t : nt) (w : aw) (S : ps) : Prop := CB w x t ∧ TN t ∧ CW w x S ∧ PI S ∧ fd w 8 (x + 3) = .int (nI S.1)
theorem ov_1 {d x n : Nat} {T : Nat → Nat} : OvS d x n true T (f1s T) (St1c x) := by
  intro w s a b A2 A4 A6 A7 Q hA hS hat hSt hab hbn h99 h
  obtain ⟨hC, hN, hD, hd, hW⟩ := hSt
  simp only [↓s_3_100, ↓s_3_101, ↓s_3_102, ↓s_3_105, ↓s_3_106, ↓s_3_107, ↓s_3_109, ↓s_3_115, ↓s_3_116, kd_uF, ln_uF, ai_uF, al_uF, ar_uF, zs_uF, fd_uF, kd_uA, ln_uA, fd_uA, al_uA, ar_uA, zs_uA, ai_uA, kd_uL, ln_uL, fd_uL, ai_uL, ar_uL, zs_uL, al_uL, kd_uR, ln_uR, fd_uR, ai_uR, al_uR, zs_uR, ar_uR, true_and, and_true, Option.toList_some, Option.toList_none, List.cons_append, List.nil_append, catS_nil, catS_int, catS_ref, catS_null, catS_long, cat_int, cat_ref, cat_null, Nat.reduceEqDiff, Nat.reduceLeDiff, Nat.reduceAdd, false_and, and_false, if_false, if_true, ite_true, ite_false, true_or, or_true, false_or, or_false, and_self, forall_const, true_implies, reduceCtorEq, clr_int, clr_ref, clr_null, clr_none, clr_long, va_rf_some, va_rf_none, hA.1]
  refine ⟨fun q => absurd q (by decide), fun _ => sp_c_first hA hS hat hab hC hN hD hd (fun w1 k1 g1 g2 => ?_)⟩
  simp only [↓s_3_112, kd_uF, ln_uF, ai_uF, al_uF, ar_uF, zs_uF, fd_uF, kd_uA, ln_uA, fd_uA, al_uA, ar_uA, zs_uA, ai_uA, kd_uL, ln_uL, fd_uL, ai_uL, ar_uL, zs_uL, al_uL, kd_uR, ln_uR, fd_uR, ai_uR, al_uR, zs_uR, ar_uR, true_and, and_true, Option.toList_some, Option.toList_none, List.cons_append, List.nil_append, catS_nil, catS_int, catS_ref, catS_null, catS_long, cat_int, cat_ref, cat_null, Nat.reduceEqDiff, Nat.reduceLeDiff, Nat.reduceAdd, false_and, and_false, if_false, if_true, ite_true, ite_false, true_or, or_true, false_or, or_false, and_self, forall_const, true_implies, reduceCtorEq, clr_int, clr_ref, clr_null, clr_none, clr_long, va_rf_some, va_rf_none]
  have W1 := hW.kept k1.2.1 k1.2.2
  have ok := s1_ok (T := T) (a := a) (b := b) hN hd
  exact h w1 k1.1 ⟨g1, ⟨S0, W1, PI_S0⟩⟩ (fun z => ⟨(g2 z).1, ok.1, (g2 z).2, ok.2, W1⟩)
theorem ov_2 {d x n : Nat} {T : Nat → Nat} {t : nt} : OvS d x n false T (fun a b s => s2 T a b t s) (St2c x t) := by
  intro w s a b A2 A4 A6 A7 Q hA hS hat hSt hab hbn h99 h
  obtain ⟨hC, hN, hW, hI, hD⟩ := hSt
  simp only [↓s_3_100, ↓s_3_101, ↓s_3_102, ↓s_3_105, ↓s_3_106, ↓s_3_107, ↓s_3_109, ↓s_3_115, ↓s_3_116, kd_uF, ln_uF, ai_uF, al_uF, ar_uF, zs_uF, fd_uF, kd_uA, ln_uA, fd_uA, al_uA, ar_uA, zs_uA, ai_uA, kd_uL, ln_uL, fd_uL, ai_uL, ar_uL, zs_uL, al_uL, kd_uR, ln_uR, fd_uR, ai_uR, al_uR, zs_uR, ar_uR, true_and, and_true, Option.toList_some, Option.toList_none, List.cons_append, List.nil_append, catS_nil, catS_int, catS_ref, catS_null, catS_long, cat_int, cat_ref, cat_null, Nat.reduceEqDiff, Nat.reduceLeDiff, Nat.reduceAdd, false_and, and_false, if_false, if_true, ite_true, ite_false, true_or, or_true, false_or, or_false, and_self, forall_const, true_implies, reduceCtorEq, clr_int, clr_ref, clr_null, clr_none, clr_long, va_rf_some, va_rf_none, hA.1]
  refine ⟨fun _ => sp_c_second hA hS hat hab hC hN hW hI hD h99 (fun w1 f1 g1 g2 g3 => ?_), fun q => absurd rfl q⟩
  exact h w1 f1 ⟨⟨t, g1⟩, g2⟩ (fun z => ⟨g1, hN, (g3 z).1, (g3 z).2.1, (g3 z).2.2⟩)
theorem ZA.F {w : aw} {x n g : Nat} {T : Nat → Nat} {v : Value} (h : ZA w x T n) (hg : g = 8 ∨ g = 6 ∨ g = 9 ∨ g = 10) : ZA (uF w g (x + 3) v) x T n := by
  obtain ⟨h1, a0, a1, a2, a3, a4, a5, a6, a7, a8⟩ := h
  refine ⟨h1.kept (Fr.rf.F (by omega) (by omega)) (by rw [fd_uF, if_neg (fun q => by omega)]) (by rw [fd_uF, if_neg (fun q => by omega)]), a0, ?_, ?_, ?_, ?_, ?_, ?_, ?_, a8⟩
  · rw [fd_uF, if_neg (fun q => by omega)]; exact a1
  · rw [fd_uF, if_neg (fun q => by omega)]; exact a2
  · rw [fd_uF, if_neg (fun q => by omega)]; exact a3
  · rw [fd_uF, if_neg (fun q => by omega)]; exact a4
  · rw [fd_uF, if_neg (fun q => by omega)]; exact a5
  · rw [fd_uF, if_neg (fun q => by omega)]; exact a6
  · rw [fd_uF, if_neg (fun q => by omega)]; exact a7
theorem CB.A {w : aw} {x g : Nat} {t : nt} {v : Value} (h : CB w x t) : CB (uF w g (x + 3) v) x t := h.Fr (w' := uF w g (x + 3) v) (Fr.rf.F (lo := x + 3) (hi := x + 4) (by omega) (by omega)) (Or.inr (by omega))
theorem GW.A {w : aw} {x g : Nat} {v : Value} (h : GW w x) (hg : g ≠ 6) : GW (uF w g (x + 3) v) x := by
  obtain ⟨⟨t, h1⟩, S, h2, h3⟩ := h
  exact ⟨⟨t, h1.A⟩, S, h2.kept (by rw [fd_uF, if_neg (fun z => hg z.1.symm)]) (fun _ _ _ _ => rfl), h3⟩
theorem sp_c_over {σ : Type} {d : Nat} {w : aw} {x n : Nat} {fi : Bool} {T : Nat → Nat} {f : Nat → Nat → σ → Nat × σ} {St : aw → σ → Prop} {s : σ} {R : Nat × Nat × σ} {Q : wQ} (hov : OvS d x n fi T f St) (hf : ∀ a b s, (f a b s).1 < 1000) (hStR : ∀ w w' s, Fr w w' (x + 11) (x + 12) → St w s → St w' s) (hStF : ∀ w s g v, g = 9 ∨ g = 10 → St w s → St (uF w g (x + 3) v) s) (hZ : ZA w x T n) (hG : GW w x) (hS : St (uF w 8 (x + 3) (.int (nI 128))) s) (hF0 : fd w 9 (x + 3) = .int (nI 0)) (hL0 : fd w 10 (x + 3) = .int (nI 0)) (hR : scan T n f (n + 1) 0 0 1 false s = R) (h99 : R.1 ≠ 99) (h1 : R.1 = 0 → ∀ w', Fr w w' (x + 3) (x + 12) → ZA w' x T n → GW w' x → St w' R.2.2 → fd w' 9 (x + 3) = .int (nI 0) → fd w' 10 (x + 3) = .int (nI 0) → Q none w') (h2 : R.1 ≠ 0 → R.1 < 1000 → ∀ w', Fr w w' (x + 3) (x + 12) → ZA w' x T n → GW w' x → fd w' 9 (x + 3) = .int (nI R.1) → fd w' 10 (x + 3) = .int (nI R.2.1) → Q none w') : wpD (d + 8) 3 [.ref (x + 3), .int (bI fi)] w Q := by
  refine ⟨Nat.le_of_ble_eq_true rfl, ?_⟩
  show wp (d + 7) 3 Q 0 [some (.ref (x + 3)), some (.int (bI fi)), none, none, none, none, none, none] [] w 0 0
  have hn8 := hZ.1.2.2.2.2.2.2.2.2.2.1
  have hT := hZ.1.2.2.2.2.2.2.2.2.2.2
  have brk : ∀ (w1 : aw) (p : Nat) (A2 A3 A4 A6 A7 : Option Value), R.1 ≠ 0 → R.1 < 1000 → Fr w w1 (x + 3) (x + 12) → ZA w1 x T n → GW w1 x → fd w1 9 (x + 3) = .int (nI R.1) → fd w1 10 (x + 3) = .int (nI R.2.1) → wp (d + 7) 3 Q 17 [some (.ref (x + 3)), some (.int (bI fi)), A2, A3, A4, some (.int (nI p)), A6, A7] [] w1 0 0 := by
    intro w1 p A2 A3 A4 A6 A7 r0 r1 f1 Z1 G1 e1 e2
    have fin := h2 r0 r1 w1 f1 Z1 G1 e1 e2
    rw [s_3_17]
    simp only [↓s_3_19, ↓s_3_20, ↓s_3_23, ↓s_3_26, ↓s_3_29, ↓s_3_30, ↓s_3_33, ↓s_3_179, kd_uF, ln_uF, ai_uF, al_uF, ar_uF, zs_uF, fd_uF, kd_uA, ln_uA, fd_uA, al_uA, ar_uA, zs_uA, ai_uA, kd_uL, ln_uL, fd_uL, ai_uL, ar_uL, zs_uL, al_uL, kd_uR, ln_uR, fd_uR, ai_uR, al_uR, zs_uR, ar_uR, true_and, and_true, Option.toList_some, Option.toList_none, List.cons_append, List.nil_append, catS_nil, catS_int, catS_ref, catS_null, catS_long, cat_int, cat_ref, cat_null, Nat.reduceEqDiff, Nat.reduceLeDiff, Nat.reduceAdd, false_and, and_false, if_false, if_true, ite_true, ite_false, true_or, or_true, false_or, or_false, and_self, forall_const, true_implies, reduceCtorEq, clr_int, clr_ref, clr_null, clr_none, clr_long, va_rf_some, va_rf_none, Z1.2.1, Z1.2.2.1, Z1.1.2.2.2.1, Z1.1.2.2.2.2.2.2.2.1, e1]
    refine ⟨fun _ => fin, fun _ => ⟨fun _ => fin, fun q => ?_⟩⟩
    rw [show (0 : Int32) = nI 0 from rfl, nI_eq (by omega) (by decide)] at q
    exact absurd q r0
  have lp : ∀ (k p from_ line : Nat) (rem : Bool) (w1 : aw) (s1 : σ) (A6 A7 : Option Value), p + k = n + 1 → from_ ≤ p → Fr w w1 (x + 3) (x + 12) → ZA w1 x T n → GW w1 x → St w1 s1 → fd w1 9 (x + 3) = .int (nI 0) → fd w1 10 (x + 3) = .int (nI 0) → scan T n f k p from_ line rem s1 = R → wp (d + 7) 3 Q 17 [some (.ref (x + 3)), some (.int (bI fi)), some (.int (nI line)), some (.int (nI from_)), some (.int (bI rem)), some (.int (nI p)), A6, A7] [] w1 0 0 := by
    intro k
    induction k with
    | zero =>
      intro p from_ line rem w1 s1 A6 A7 hk hfp f1 Z1 G1 S1 e1 e2 hR1
      have hR1' : (0, 0, s1) = R := hR1
      have fin := h1 (by rw [← hR1']) w1 f1 Z1 G1 (by rw [← hR1']; exact S1) e1 e2
      rw [s_3_17]
      simp only [↓s_3_19, ↓s_3_20, ↓s_3_23, ↓s_3_26, ↓s_3_179, kd_uF, ln_uF, ai_uF, al_uF, ar_uF, zs_uF, fd_uF, kd_uA, ln_uA, fd_uA, al_uA, ar_uA, zs_uA, ai_uA, kd_uL, ln_uL, fd_uL, ai_uL, ar_uL, zs_uL, al_uL, kd_uR, ln_uR, fd_uR, ai_uR, al_uR, zs_uR, ar_uR, true_and, and_true, Option.toList_some, Option.toList_none, List.cons_append, List.nil_append, catS_nil, catS_int, catS_ref, catS_null, catS_long, cat_int, cat_ref, cat_null, Nat.reduceEqDiff, Nat.reduceLeDiff, Nat.reduceAdd, false_and, and_false, if_false, if_true, ite_true, ite_false, true_or, or_true, false_or, or_false, and_self, forall_const, true_implies, reduceCtorEq, clr_int, clr_ref, clr_null, clr_none, clr_long, va_rf_some, va_rf_none, Z1.2.1, Z1.2.2.1, Z1.1.2.2.2.1, Z1.1.2.2.2.2.2.2.2.1]
      exact ⟨fun _ => fin, fun q => absurd (nI_lt (by omega) (by omega)) q⟩
    | succ k ih =>
      intro p from_ line rem w1 s1 A6 A7 hk hfp f1 Z1 G1 S1 e1 e2 hR1
      rw [scan_1] at hR1
      -- the end of a turn
      have j157 : ∀ (w2 : aw) (s2 : σ) (from2 : Nat) (rem2 le : Bool), le = decide (n ≤ p ∨ T p = 10) → from2 ≤ p + 1 → Fr w w2 (x + 3) (x + 12) → ZA w2 x T n → GW w2 x → St w2 s2 → fd w2 9 (x + 3) = .int (nI 0) → fd w2 10 (x + 3) = .int (nI 0) → (if n ≤ p ∨ T p = 10 then scan T n f k (p + 1) (p + 1) (line + 1) false s2 else scan T n f k (p + 1) from2 line rem2 s2) = R → wp (d + 7) 3 Q 157 [some (.ref (x + 3)), some (.int (bI fi)), some (.int (nI line)), some (.int (nI from2)), some (.int (bI rem2)), some (.int (nI p)), some (.int (lkI T n p)), some (.int (bI le))] [] w2 0 0 := by
        intro w2 s2 from2 rem2 le hle hfr f2 Z2 G2 S2 g1 g2 hR2
        simp only [↓s_3_157, ↓s_3_159, ↓s_3_162, ↓s_3_165, ↓s_3_167, ↓s_3_168, ↓s_3_169, ↓s_3_170, ↓s_3_171, ↓s_3_173, ↓s_3_176, kd_uF, ln_uF, ai_uF, al_uF, ar_uF, zs_uF, fd_uF, kd_uA, ln_uA, fd_uA, al_uA, ar_uA, zs_uA, ai_uA, kd_uL, ln_uL, fd_uL, ai_uL, ar_uL, zs_uL, al_uL, kd_uR, ln_uR, fd_uR, ai_uR, al_uR, zs_uR, ar_uR, true_and, and_true, Option.toList_some, Option.toList_none, List.cons_append, List.nil_append, catS_nil, catS_int, catS_ref, catS_null, catS_long, cat_int, cat_ref, cat_null, Nat.reduceEqDiff, Nat.reduceLeDiff, Nat.reduceAdd, false_and, and_false, if_false, if_true, ite_true, ite_false, true_or, or_true, false_or, or_false, and_self, forall_const, true_implies, reduceCtorEq, clr_int, clr_ref, clr_null, clr_none, clr_long, va_rf_some, va_rf_none]
        rw [nI_1, nI_1]
        by_cases c : n ≤ p ∨ T p = 10
        · rw [if_pos c] at hR2
          rw [hle, decide_eq_true c]
          exact ⟨fun q => absurd q (by decide), fun _ => ih (p + 1) (p + 1) (line + 1) false w2 s2 _ _ (by omega) (Nat.le_refl _) f2 Z2 G2 S2 g1 g2 hR2⟩
        · rw [if_neg c] at hR2
          rw [hle, decide_eq_false c]
          exact ⟨fun _ => ih (p + 1) from2 line rem2 w2 s2 _ _ (by omega) hfr f2 Z2 G2 S2 g1 g2 hR2, fun q => absurd rfl q⟩
      -- a statement
      have j90 : ∀ le : Bool, le = decide (n ≤ p ∨ T p = 10) → rem = false → (n ≤ p ∨ T p = 10 ∨ T p = 59 ∨ T p = 47) → wp (d + 7) 3 Q 90 [some (.ref (x + 3)), some (.int (bI fi)), some (.int (nI line)), some (.int (nI from_)), some (.int (bI rem)), some (.int (nI p)), some (.int (lkI T n p)), some (.int (bI le))] [] w1 0 0 := by
        intro le hle hrem hev
        rw [if_pos ⟨hrem, hev⟩] at hR1
        have h99' : (f from_ p s1).1 ≠ 99 := by
          intro z
          rw [if_pos (by rw [z]; decide)] at hR1
          rw [← hR1] at h99
          exact h99 z
        have hg := hf from_ p s1
        simp only [↓s_3_90, ↓s_3_91, ↓s_3_94, ↓s_3_95, ↓s_3_97, kd_uF, ln_uF, ai_uF, al_uF, ar_uF, zs_uF, fd_uF, kd_uA, ln_uA, fd_uA, al_uA, ar_uA, zs_uA, ai_uA, kd_uL, ln_uL, fd_uL, ai_uL, ar_uL, zs_uL, al_uL, kd_uR, ln_uR, fd_uR, ai_uR, al_uR, zs_uR, ar_uR, true_and, and_true, Option.toList_some, Option.toList_none, List.cons_append, List.nil_append, catS_nil, catS_int, catS_ref, catS_null, catS_long, cat_int, cat_ref, cat_null, Nat.reduceEqDiff, Nat.reduceLeDiff, Nat.reduceAdd, false_and, and_false, if_false, if_true, ite_true, ite_false, true_or, or_true, false_or, or_false, and_self, forall_const, true_implies, reduceCtorEq, clr_int, clr_ref, clr_null, clr_none, clr_long, va_rf_some, va_rf_none, Z1.2.1, Z1.2.2.2.2.1, Z1.1.1]
        refine sp_c_begin0 Z1.1 hfp (by omega) (fun w2 s2' at2 f2 => ?_)
        have X2 := FrX.ofR (e := p) f2 Z1.1 s2'
        have Z2 := X2.Z Z1
        refine hov w2 s1 from_ p _ _ _ _ _ Z2.2 s2' at2 (hStR _ _ _ f2 S1) hfp (by omega) h99' (fun w3 X3 G3 S3 => ?_)
        have Z3 := X3.Z Z2
        obtain ⟨w4, hw4⟩ : ∃ w4, w4 = uF (uF w3 9 (x + 3) (.int (nI (f from_ p s1).1))) 10 (x + 3) (.int (nI (if (f from_ p s1).1 = 0 then 0 else line))) := ⟨_, rfl⟩
        have f4 : Fr w w4 (x + 3) (x + 12) := by rw [hw4]; exact (((f1.tr X2.1).tr X3.1).F (by omega) (by omega)).F (by omega) (by omega)
        have Z4 : ZA w4 x T n := by rw [hw4]; exact (Z3.F (by omega)).F (by omega)
        have G4 : GW w4 x := by rw [hw4]; exact (G3.A (by decide)).A (by decide)
        have e4 : fd w4 9 (x + 3) = .int (nI (f from_ p s1).1) := by rw [hw4]; simp only [fd_uF, eq_self, and_self, true_and, false_and, if_true, if_false, ite_true, ite_false, Nat.reduceEqDiff]
        have e5 : fd w4 10 (x + 3) = .int (nI (if (f from_ p s1).1 = 0 then 0 else line)) := by rw [hw4]; simp only [fd_uF, eq_self, and_self, true_and, false_and, if_true, if_false, ite_true, ite_false, Nat.reduceEqDiff]
        have j155 : ∀ r2 : Bool, r2 = decide (lk T n p = 47) → wp (d + 7) 3 Q 155 [some (.ref (x + 3)), some (.int (bI fi)), some (.int (nI line)), some (.int (nI (p + 1))), some (.int (bI rem)), some (.int (nI p)), some (.int (lkI T n p)), some (.int (bI le))] [.int (bI r2)] w4 0 0 := by
          intro r2 hr2
          simp only [↓s_3_155, kd_uF, ln_uF, ai_uF, al_uF, ar_uF, zs_uF, fd_uF, kd_uA, ln_uA, fd_uA, al_uA, ar_uA, zs_uA, ai_uA, kd_uL, ln_uL, fd_uL, ai_uL, ar_uL, zs_uL, al_uL, kd_uR, ln_uR, fd_uR, ai_uR, al_uR, zs_uR, ar_uR, true_and, and_true, Option.toList_some, Option.toList_none, List.cons_append, List.nil_append, catS_nil, catS_int, catS_ref, catS_null, catS_long, cat_int, cat_ref, cat_null, Nat.reduceEqDiff, Nat.reduceLeDiff, Nat.reduceAdd, false_and, and_false, if_false, if_true, ite_true, ite_false, true_or, or_true, false_or, or_false, and_self, forall_const, true_implies, reduceCtorEq, clr_int, clr_ref, clr_null, clr_none, clr_long, va_rf_some, va_rf_none]
          by_cases c0 : (f from_ p s1).1 = 0
          · rw [if_neg (fun z => z c0)] at hR1
            rw [c0] at e4
            rw [if_pos c0] at e5
            refine j157 w4 (f from_ p s1).2 (p + 1) r2 le hle (Nat.le_refl _) f4 Z4 G4 ?_ e4 e5 ?_
            · rw [hw4]; exact hStF _ _ _ _ (Or.inr rfl) (hStF _ _ _ _ (Or.inl rfl) (S3 c0))
            · by_cases c : n ≤ p ∨ T p = 10
              · rw [if_pos c] at hR1 ⊢; exact hR1
              · rw [if_neg c] at hR1 ⊢
                have : r2 = decide (T p = 47) := by rw [hr2, lk_in (by omega)]
                rw [this]; exact hR1
          · rw [if_pos c0] at hR1
            rw [if_neg c0] at e5
            have r0 : R.1 = (f from_ p s1).1 := by rw [← hR1]
            have r1 : R.2.1 = line := by rw [← hR1]
            have B := fun q A2 A3 A4 A6 A7 => brk w4 q A2 A3 A4 A6 A7 (by rw [r0]; exact c0) (by rw [r0]; exact hg) f4 Z4 G4 (by rw [r0]; exact e4) (by rw [r1]; exact e5)
            simp only [↓s_3_157, ↓s_3_159, ↓s_3_162, ↓s_3_165, ↓s_3_167, ↓s_3_168, ↓s_3_169, ↓s_3_170, ↓s_3_171, ↓s_3_173, ↓s_3_176, kd_uF, ln_uF, ai_uF, al_uF, ar_uF, zs_uF, fd_uF, kd_uA, ln_uA, fd_uA, al_uA, ar_uA, zs_uA, ai_uA, kd_uL, ln_uL, fd_uL, ai_uL, ar_uL, zs_uL, al_uL, kd_uR, ln_uR, fd_uR, ai_uR, al_uR, zs_uR, ar_uR, true_and, and_true, Option.toList_some, Option.toList_none, List.cons_append, List.nil_append, catS_nil, catS_int, catS_ref, catS_null, catS_long, cat_int, cat_ref, cat_null, Nat.reduceEqDiff, Nat.reduceLeDiff, Nat.reduceAdd, false_and, and_false, if_false, if_true, ite_true, ite_false, true_or, or_true, false_or, or_false, and_self, forall_const, true_implies, reduceCtorEq, clr_int, clr_ref, clr_null, clr_none, clr_long, va_rf_some, va_rf_none]
            rw [nI_1, nI_1]
            exact ⟨fun _ => B _ _ _ _ _ _, fun _ => B _ _ _ _ _ _⟩
        have j135 : ∀ y, y = nI (if (f from_ p s1).1 = 0 then 0 else line) → wp (d + 7) 3 Q 135 [some (.ref (x + 3)), some (.int (bI fi)), some (.int (nI line)), some (.int (nI from_)), some (.int (bI rem)), some (.int (nI p)), some (.int (lkI T n p)), some (.int (bI le))] [.int y, .ref (x + 3)] (uF w3 9 (x + 3) (.int (nI (f from_ p s1).1))) 0 0 := by
          intro y hy
          subst hy
          simp only [↓s_3_135, ↓s_3_138, ↓s_3_140, ↓s_3_141, ↓s_3_142, ↓s_3_143, ↓s_3_145, ↓s_3_147, ↓s_3_150, ↓s_3_151, ↓s_3_154, kd_uF, ln_uF, ai_uF, al_uF, ar_uF, zs_uF, fd_uF, kd_uA, ln_uA, fd_uA, al_uA, ar_uA, zs_uA, ai_uA, kd_uL, ln_uL, fd_uL, ai_uL, ar_uL, zs_uL, al_uL, kd_uR, ln_uR, fd_uR, ai_uR, al_uR, zs_uR, ar_uR, true_and, and_true, Option.toList_some, Option.toList_none, List.cons_append, List.nil_append, catS_nil, catS_int, catS_ref, catS_null, catS_long, cat_int, cat_ref, cat_null, Nat.reduceEqDiff, Nat.reduceLeDiff, Nat.reduceAdd, false_and, and_false, if_false, if_true, ite_true, ite_false, true_or, or_true, false_or, or_false, and_self, forall_const, true_implies, reduceCtorEq, clr_int, clr_ref, clr_null, clr_none, clr_long, va_rf_some, va_rf_none, Z3.2.1]
          rw [← hw4, nI_1, show (47 : Int32) = nI 47 from rfl, lkI_eq hT (by decide) (by decide)]
          exact ⟨fun q => j155 false (by rw [decide_eq_false q]), fun q => j155 true (by rw [decide_eq_true q])⟩
        simp only [↓s_3_119, ↓s_3_122, ↓s_3_123, ↓s_3_124, ↓s_3_127, ↓s_3_130, ↓s_3_131, ↓s_3_134, kd_uF, ln_uF, ai_uF, al_uF, ar_uF, zs_uF, fd_uF, kd_uA, ln_uA, fd_uA, al_uA, ar_uA, zs_uA, ai_uA, kd_uL, ln_uL, fd_uL, ai_uL, ar_uL, zs_uL, al_uL, kd_uR, ln_uR, fd_uR, ai_uR, al_uR, zs_uR, ar_uR, true_and, and_true, Option.toList_some, Option.toList_none, List.cons_append, List.nil_append, catS_nil, catS_int, catS_ref, catS_null, catS_long, cat_int, cat_ref, cat_null, Nat.reduceEqDiff, Nat.reduceLeDiff, Nat.reduceAdd, false_and, and_false, if_false, if_true, ite_true, ite_false, true_or, or_true, false_or, or_false, and_self, forall_const, true_implies, reduceCtorEq, clr_int, clr_ref, clr_null, clr_none, clr_long, va_rf_some, va_rf_none, Z3.2.1]
        rw [show (0 : Int32) = nI 0 from rfl, nI_eq (by omega) (by decide)]
        exact ⟨fun q => j135 _ (by rw [if_neg q]), fun q => j135 _ (by rw [if_pos q])⟩
      have j64 : ∀ le : Bool, le = decide (n ≤ p ∨ T p = 10) → wp (d + 7) 3 Q 64 [some (.ref (x + 3)), some (.int (bI fi)), some (.int (nI line)), some (.int (nI from_)), some (.int (bI rem)), some (.int (nI p)), some (.int (lkI T n p)), A7] [.int (bI le)] w1 0 0 := by
        intro le hle
        have no : ¬ (rem = false ∧ (n ≤ p ∨ T p = 10 ∨ T p = 59 ∨ T p = 47)) → wp (d + 7) 3 Q 157 [some (.ref (x + 3)), some (.int (bI fi)), some (.int (nI line)), some (.int (nI from_)), some (.int (bI rem)), some (.int (nI p)), some (.int (lkI T n p)), some (.int (bI le))] [] w1 0 0 := by
          intro q
          rw [if_neg q] at hR1
          exact j157 w1 s1 from_ rem le hle (by omega) f1 Z1 G1 S1 e1 e2 hR1
        simp only [↓s_3_64, ↓s_3_66, ↓s_3_68, ↓s_3_71, ↓s_3_73, ↓s_3_76, ↓s_3_78, ↓s_3_80, ↓s_3_83, ↓s_3_85, ↓s_3_87, kd_uF, ln_uF, ai_uF, al_uF, ar_uF, zs_uF, fd_uF, kd_uA, ln_uA, fd_uA, al_uA, ar_uA, zs_uA, ai_uA, kd_uL, ln_uL, fd_uL, ai_uL, ar_uL, zs_uL, al_uL, kd_uR, ln_uR, fd_uR, ai_uR, al_uR, zs_uR, ar_uR, true_and, and_true, Option.toList_some, Option.toList_none, List.cons_append, List.nil_append, catS_nil, catS_int, catS_ref, catS_null, catS_long, cat_int, cat_ref, cat_null, Nat.reduceEqDiff, Nat.reduceLeDiff, Nat.reduceAdd, false_and, and_false, if_false, if_true, ite_true, ite_false, true_or, or_true, false_or, or_false, and_self, forall_const, true_implies, reduceCtorEq, clr_int, clr_ref, clr_null, clr_none, clr_long, va_rf_some, va_rf_none]
        rw [show (59 : Int32) = nI 59 from rfl, show (47 : Int32) = nI 47 from rfl, lkI_eq hT (by decide) (by decide), lkI_eq hT (by decide) (by decide)]
        cases rem with
        | true => exact ⟨fun _ => no (fun z => by cases z.1), fun q => absurd q (by decide)⟩
        | false =>
          refine ⟨fun q => absurd rfl q, fun _ => ?_⟩
          by_cases c : n ≤ p ∨ T p = 10
          · rw [hle, decide_eq_true c]
            refine ⟨fun _ => ?_, fun q => absurd q (by decide)⟩
            exact j90 true (by rw [decide_eq_true c]) rfl (c.elim Or.inl (fun z => Or.inr (Or.inl z)))
          · have hlk : lk T n p = T p := lk_in (by omega)
            rw [hle, decide_eq_false c, hlk]
            have nn := no
            rw [hle, decide_eq_false c] at nn
            refine ⟨fun q => absurd rfl q, fun _ => ⟨fun q5 => j90 false (by rw [decide_eq_false c]) rfl (Or.inr (Or.inr (Or.inl q5))), fun q5 => ⟨fun q4 => nn (fun z => ?_), fun q4 => j90 false (by rw [decide_eq_false c]) rfl (Or.inr (Or.inr (Or.inr q4)))⟩⟩⟩
            rcases z.2 with y | y | y | y
            · exact c (Or.inl y)
            · exact c (Or.inr y)
            · exact q5 y
            · exact q4 y
      rw [s_3_17]
      simp only [↓s_3_19, ↓s_3_20, ↓s_3_23, ↓s_3_26, ↓s_3_29, ↓s_3_30, ↓s_3_33, ↓s_3_36, ↓s_3_37, ↓s_3_40, ↓s_3_42, kd_uF, ln_uF, ai_uF, al_uF, ar_uF, zs_uF, fd_uF, kd_uA, ln_uA, fd_uA, al_uA, ar_uA, zs_uA, ai_uA, kd_uL, ln_uL, fd_uL, ai_uL, ar_uL, zs_uL, al_uL, kd_uR, ln_uR, fd_uR, ai_uR, al_uR, zs_uR, ar_uR, true_and, and_true, Option.toList_some, Option.toList_none, List.cons_append, List.nil_append, catS_nil, catS_int, catS_ref, catS_null, catS_long, cat_int, cat_ref, cat_null, Nat.reduceEqDiff, Nat.reduceLeDiff, Nat.reduceAdd, false_and, and_false, if_false, if_true, ite_true, ite_false, true_or, or_true, false_or, or_false, and_self, forall_const, true_implies, reduceCtorEq, clr_int, clr_ref, clr_null, clr_none, clr_long, va_rf_some, va_rf_none, Z1.2.1, Z1.2.2.1, Z1.1.2.2.2.1, Z1.1.2.2.2.2.2.2.2.1, e1]
      refine ⟨fun q => absurd q (nI_nlt (by omega) (by omega)), fun _ => ⟨fun q => absurd rfl q, fun _ => sp_T_at Z1.1 (by omega) ?_⟩⟩
      simp only [↓s_3_45, ↓s_3_47, ↓s_3_49, ↓s_3_51, ↓s_3_54, ↓s_3_56, ↓s_3_59, ↓s_3_60, ↓s_3_63, kd_uF, ln_uF, ai_uF, al_uF, ar_uF, zs_uF, fd_uF, kd_uA, ln_uA, fd_uA, al_uA, ar_uA, zs_uA, ai_uA, kd_uL, ln_uL, fd_uL, ai_uL, ar_uL, zs_uL, al_uL, kd_uR, ln_uR, fd_uR, ai_uR, al_uR, zs_uR, ar_uR, true_and, and_true, Option.toList_some, Option.toList_none, List.cons_append, List.nil_append, catS_nil, catS_int, catS_ref, catS_null, catS_long, cat_int, cat_ref, cat_null, Nat.reduceEqDiff, Nat.reduceLeDiff, Nat.reduceAdd, false_and, and_false, if_false, if_true, ite_true, ite_false, true_or, or_true, false_or, or_false, and_self, forall_const, true_implies, reduceCtorEq, clr_int, clr_ref, clr_null, clr_none, clr_long, va_rf_some, va_rf_none]
      rw [show (10 : Int32) = nI 10 from rfl, lkI_eq hT (by decide) (by decide)]
      have hneg : (0 ≤ lkI T n p) ↔ p < n := by
        rw [Int32.le_iff_toInt_le, lkI_toInt hT]
        show (0 : Int) ≤ _ ↔ _
        split <;> omega
      rw [hneg]
      refine ⟨fun q => j64 true ?_, fun q => ⟨fun q2 => j64 false ?_, fun q2 => j64 true ?_⟩⟩
      · have := lk_pos (T := T) (e := n) (p := p) (by omega)
        rw [lk_in this] at q
        rw [decide_eq_true (Or.inr q)]
      · rw [lk_in q2] at q
        rw [decide_eq_false (fun z => z.elim (by omega) q)]
      · rw [decide_eq_true (Or.inl (by omega))]
  simp only [↓s_3_0, ↓s_3_1, ↓s_3_4, ↓s_3_7, ↓s_3_8, ↓s_3_9, ↓s_3_10, ↓s_3_11, ↓s_3_12, ↓s_3_14, ↓s_3_15, kd_uF, ln_uF, ai_uF, al_uF, ar_uF, zs_uF, fd_uF, kd_uA, ln_uA, fd_uA, al_uA, ar_uA, zs_uA, ai_uA, kd_uL, ln_uL, fd_uL, ai_uL, ar_uL, zs_uL, al_uL, kd_uR, ln_uR, fd_uR, ai_uR, al_uR, zs_uR, ar_uR, true_and, and_true, Option.toList_some, Option.toList_none, List.cons_append, List.nil_append, catS_nil, catS_int, catS_ref, catS_null, catS_long, cat_int, cat_ref, cat_null, Nat.reduceEqDiff, Nat.reduceLeDiff, Nat.reduceAdd, false_and, and_false, if_false, if_true, ite_true, ite_false, true_or, or_true, false_or, or_false, and_self, forall_const, true_implies, reduceCtorEq, clr_int, clr_ref, clr_null, clr_none, clr_long, va_rf_some, va_rf_none, hZ.2.1]
  exact lp (n + 1) 0 0 1 false _ s _ _ (by omega) (Nat.le_refl _) (Fr.rf.F (by omega) (by omega)) (hZ.F (Or.inl rfl)) (hG.A (by decide)) hS (by simp only [fd_uF, eq_self, and_self, true_and, false_and, if_true, if_false, ite_true, ite_false, Nat.reduceEqDiff]; exact hF0) (by simp only [fd_uF, eq_self, and_self, true_and, false_and, if_true, if_false, ite_true, ite_false, Nat.reduceEqDiff]; exact hL0) hR
theorem sp_c_over0 {d : Nat} {w : aw} {x n g l : Nat} {b : Int32} {T : Nat → Nat} {Q : wQ} (hZ : ZA w x T n) (hG : GW w x) (hg : g ≠ 0) (hg2 : g < 1000) (hF : fd w 9 (x + 3) = .int (nI g)) (hL : fd w 10 (x + 3) = .int (nI l)) (h : ∀ w', Fr w w' (x + 3) (x + 12) → ZA w' x T n → GW w' x → fd w' 9 (x + 3) = .int (nI g) → fd w' 10 (x + 3) = .int (nI l) → Q none w') : wpD (d + 1) 3 [.ref (x + 3), .int b] w Q := by
  refine ⟨Nat.le_of_ble_eq_true rfl, ?_⟩
  show wp d 3 Q 0 [some (.ref (x + 3)), some (.int b), none, none, none, none, none, none] [] w 0 0
  simp only [↓s_3_0, ↓s_3_1, ↓s_3_4, ↓s_3_7, ↓s_3_8, ↓s_3_9, ↓s_3_10, ↓s_3_11, ↓s_3_12, ↓s_3_14, ↓s_3_15, kd_uF, ln_uF, ai_uF, al_uF, ar_uF, zs_uF, fd_uF, kd_uA, ln_uA, fd_uA, al_uA, ar_uA, zs_uA, ai_uA, kd_uL, ln_uL, fd_uL, ai_uL, ar_uL, zs_uL, al_uL, kd_uR, ln_uR, fd_uR, ai_uR, al_uR, zs_uR, ar_uR, true_and, and_true, Option.toList_some, Option.toList_none, List.cons_append, List.nil_append, catS_nil, catS_int, catS_ref, catS_null, catS_long, cat_int, cat_ref, cat_null, Nat.reduceEqDiff, Nat.reduceLeDiff, Nat.reduceAdd, false_and, and_false, if_false, if_true, ite_true, ite_false, true_or, or_true, false_or, or_false, and_self, forall_const, true_implies, reduceCtorEq, clr_int, clr_ref, clr_null, clr_none, clr_long, va_rf_some, va_rf_none, hZ.2.1]
  have Z1 : ZA (uF w 8 (x + 3) (.int 128)) x T n := hZ.F (Or.inl rfl)
  have fin := h (uF w 8 (x + 3) (.int 128)) (Fr.rf.F (by omega) (by omega)) Z1 (hG.A (by decide)) (by simp only [fd_uF, eq_self, and_self, true_and, false_and, if_true, if_false, ite_true, ite_false, Nat.reduceEqDiff]; exact hF) (by simp only [fd_uF, eq_self, and_self, true_and, false_and, if_true, if_false, ite_true, ite_false, Nat.reduceEqDiff]; exact hL)
  have f1 : fd (uF w 8 (x + 3) (.int 128)) 9 (x + 3) = .int (nI g) := by simp only [fd_uF, eq_self, and_self, true_and, false_and, if_true, if_false, ite_true, ite_false, Nat.reduceEqDiff]; exact hF
  rw [s_3_17]
  simp only [↓s_3_19, ↓s_3_20, ↓s_3_23, ↓s_3_26, ↓s_3_29, ↓s_3_30, ↓s_3_33, ↓s_3_179, hZ.2.1, Z1.2.1, Z1.2.2.1, Z1.1.2.2.2.1, Z1.1.2.2.2.2.2.2.2.1, f1, true_and]
  refine ⟨fun _ => fin, fun _ => ⟨fun _ => fin, fun q => ?_⟩⟩
  rw [show (0 : Int32) = nI 0 from rfl, nI_eq (by omega) (by decide)] at q
  exact absurd q hg
