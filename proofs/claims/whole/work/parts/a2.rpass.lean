theorem scan_skip {σ : Type} {T : Nat → Nat} {n : Nat} {f : Nat → Nat → σ → Nat × σ} {from_ line : Nat} {rem : Bool} {s : σ} : ∀ (j k p : Nat), (∀ i, i < j → p + i < n ∧ T (p + i) ≠ 10 ∧ (rem = true ∨ (T (p + i) ≠ 59 ∧ T (p + i) ≠ 47))) → scan T n f (k + j) p from_ line rem s = scan T n f k (p + j) from_ line rem s := by
  intro j
  induction j with
  | zero => intro k p _; rfl
  | succ j ih =>
    intro k p h
    have h0 := h 0 (by omega)
    rw [Nat.add_zero] at h0
    rw [show k + (j + 1) = (k + j) + 1 by omega]
    have e : scan T n f ((k + j) + 1) p from_ line rem s = scan T n f (k + j) (p + 1) from_ line rem s := by
      rw [scan, if_neg (fun q => ?_), if_neg (fun q => ?_)]
      · rcases q with q | q
        · omega
        · exact h0.2.1 q
      · rcases q with ⟨q1, q⟩
        rcases h0.2.2 with z | z
        · rw [z] at q1; cases q1
        · rcases q with q | q | q | q
          · omega
          · exact h0.2.1 q
          · exact z.1 q
          · exact z.2 q
    rw [e, ih k (p + 1) (fun i hi => by have := h (i + 1) (by omega); rw [show p + (i + 1) = p + 1 + i by omega] at this; exact this), show p + 1 + j = p + (j + 1) by omega]
theorem scan_ev {σ : Type} {T : Nat → Nat} {n : Nat} {f : Nat → Nat → σ → Nat × σ} {k p from_ line : Nat} {s : σ} (h : n ≤ p ∨ T p = 10 ∨ T p = 59 ∨ T p = 47) : scan T n f (k + 1) p from_ line false s = if (f from_ p s).1 ≠ 0 then ((f from_ p s).1, line, (f from_ p s).2) else if n ≤ p ∨ T p = 10 then scan T n f k (p + 1) (p + 1) (line + 1) false (f from_ p s).2 else scan T n f k (p + 1) (p + 1) line (decide (T p = 47)) (f from_ p s).2 := by
  rw [scan, if_pos ⟨rfl, h⟩]
theorem scan_le {σ : Type} {T : Nat → Nat} {n : Nat} {f : Nat → Nat → σ → Nat × σ} {k p from_ line : Nat} {s : σ} (h : n ≤ p ∨ T p = 10) : scan T n f (k + 1) p from_ line true s = scan T n f k (p + 1) (p + 1) (line + 1) false s := by
  rw [scan, if_neg (fun q => by cases q.1), if_pos h]
def RK (w : aw) (m : Nat) (T : Nat → Nat) (n : Nat) : Prop := RSh w m ∧ (∀ k, k < 8000 → ai w (m + 19) k = nI (T k)) ∧ fd w 543 m = .int (nI n) ∧ n ≤ 8000 ∧ (∀ k, T k < 256)
def FrK (w w' : aw) (m : Nat) : Prop := FrT w w' m ∧ ∀ k, k < 35 → al w' (m + 20) k = al w (m + 20) k ∧ ai w' (m + 21) k = ai w (m + 21) k
theorem FrK.rf {w : aw} {m : Nat} : FrK w w m := ⟨FrT.rf, fun _ _ => ⟨rfl, rfl⟩⟩
theorem FrK.tr {w w1 w2 : aw} {m : Nat} (h : FrK w w1 m) (g : FrK w1 w2 m) : FrK w w2 m := ⟨h.1.tr g.1, fun k e => ⟨((g.2 k e).1).trans ((h.2 k e).1), ((g.2 k e).2).trans ((h.2 k e).2)⟩⟩
theorem FrC.K {w w' : aw} {m : Nat} (h : FrC w w' m) : FrK w w' m := ⟨h.T, h.2.2.2⟩
theorem FrA.K {w w' : aw} {m : Nat} (h : FrA w w' m) : FrK w w' m := ⟨h.T, fun _ _ => ⟨h.2.2.2 _ _, h.2.2.1 _ _⟩⟩
theorem FrD.K {w w' : aw} {m : Nat} (h : FrD w w' m) : FrK w w' m := ⟨h.T, fun k _ => ⟨h.2.2.2 _ _, h.2.2.1 21 k (by decide)⟩⟩
theorem FrK.F {w w' : aw} {m g : Nat} {x : Value} (h : FrK w w' m) (hg : tF g = true) : FrK w (uF w' g m x) m := ⟨h.1.F hg, h.2⟩
def StSpec {σ : Type} (d m n pass : Nat) (T : Nat → Nat) (f : Nat → Nat → σ → Nat × σ) (St : aw → σ → Prop) : Prop := ∀ (w : aw) (s : σ) (a b : Nat) (Q : wQ), RK w m T n → St w s → a ≤ b → b ≤ n → (f a b s).1 ≠ 99 → (∀ w', FrK w w' m → RK w' m T n → ((f a b s).1 = 0 → St w' (f a b s).2) → Q (some (.int (nI (f a b s).1))) w') → wpD (d + 8) 170 [.ref m, .int (nI a), .int (nI b), .int (nI pass)] w Q
theorem cnt_end {f : Nat → Bool} {T : Nat → Nat} : ∀ {k p : Nat}, cnt f T p k < k → f (T (p + cnt f T p k)) = false := by
  intro k
  induction k with
  | zero => intro p h; omega
  | succ k ih =>
    intro p h
    have e : cnt f T p (k + 1) = if f (T p) = true then cnt f T (p + 1) k + 1 else 0 := rfl
    rw [e] at h ⊢
    by_cases c : f (T p) = true
    · rw [if_pos c] at h ⊢
      have := ih (p := p + 1) (by omega)
      rw [show p + (cnt f T (p + 1) k + 1) = p + 1 + cnt f T (p + 1) k by omega]; exact this
    · rw [if_neg c]; simpa using c
theorem sp_R_line {σ : Type} {d : Nat} {w : aw} {m n pass b e line : Nat} {T : Nat → Nat} {f : Nat → Nat → σ → Nat × σ} {St : aw → σ → Prop} {s : σ} {R : Nat × Nat × σ} {Q : wQ} (hst : StSpec d m n pass T f St) (hf : ∀ a b s, (f a b s).1 < 1000) (hK : RK w m T n) (hS : St w s) (hbe : b ≤ e) (hen : e ≤ n) (hno : ∀ i, b ≤ i → i < e → T i ≠ 10) (hee : e = n ∨ T e = 10) (hR : scan T n f (n + 1 - b) b b line false s = R) (h99 : R.1 ≠ 99) (h : ∀ w' g s', FrK w w' m → RK w' m T n → (g ≠ 0 → R.1 = g ∧ R.2.1 = line) → (g = 0 → St w' s' ∧ scan T n f (n - e) (e + 1) (e + 1) (line + 1) false s' = R) → g < 1000 → Q (some (.int (nI g))) w') : wpD (d + 9) 171 [.ref m, .int (nI b), .int (nI e), .int (nI pass)] w Q := by
  refine ⟨Nat.le_of_ble_eq_true rfl, ?_⟩
  show wp (d + 8) 171 Q 0 [some (.ref m), some (.int (nI b)), some (.int (nI e)), some (.int (nI pass)), none, none, none, none] [] w 0 0
  have hn := hK.2.2.2.1
  have hT := hK.2.2.2.2
  obtain ⟨to, hto⟩ : ∃ to, to = b + cnt (fun c => !(c == 47)) T b (e - b) := ⟨_, rfl⟩
  have hto1 : b ≤ to := by omega
  have hto2 : to ≤ e := by have := cnt_le (f := fun c => !(c == 47)) (T := T) (k := e - b) (p := b); omega
  have hto3 : ∀ i, b ≤ i → i < to → T i ≠ 47 := by
    intro i h1 h2
    have := cnt_in (f := fun c => !(c == 47)) (T := T) (k := e - b) (p := b) (i := i - b) (by omega)
    rw [show b + (i - b) = i by omega] at this
    simpa using this
  have hto4 : to < e → T to = 47 := by
    intro h1
    have := cnt_end (f := fun c => !(c == 47)) (T := T) (k := e - b) (p := b) (by omega)
    rw [← hto] at this
    simpa using this
  have j94 : ∀ w1 g s' (A B : Option Value), FrK w w1 m → RK w1 m T n → (g ≠ 0 → R.1 = g ∧ R.2.1 = line) → (g = 0 → St w1 s' ∧ scan T n f (n - e) (e + 1) (e + 1) (line + 1) false s' = R) → g < 1000 → wp (d + 8) 171 Q 94 [some (.ref m), some (.int (nI b)), some (.int (nI e)), some (.int (nI pass)), some (.int (nI to)), A, some (.int (nI g)), B] [] w1 0 0 := by
    intro w1 g s' A B a1 a2 a3 a4 a5
    simp only [↓s_171_94, ↓s_171_96, kd_uF, ln_uF, ai_uF, al_uF, ar_uF, zs_uF, fd_uF, kd_uA, ln_uA, fd_uA, al_uA, ar_uA, zs_uA, ai_uA, kd_uL, ln_uL, fd_uL, ai_uL, ar_uL, zs_uL, al_uL, kd_uR, ln_uR, fd_uR, ai_uR, al_uR, zs_uR, ar_uR, true_and, and_true, Option.toList_some, Option.toList_none, List.cons_append, List.nil_append, catS_nil, catS_int, catS_ref, catS_null, catS_long, cat_int, cat_ref, cat_null, Nat.reduceEqDiff, Nat.reduceLeDiff, Nat.reduceAdd, false_and, and_false, if_false, if_true, ite_true, ite_false, true_or, or_true, false_or, or_false, and_self, forall_const, true_implies, reduceCtorEq, clr_int, clr_ref, clr_null, clr_none, clr_long, va_rf_some, va_rf_none]
    exact h w1 g s' a1 a2 a3 a4 a5
  -- the statements of the line
  have lp : ∀ (k fr : Nat) (w1 : aw) (s1 : σ) (B : Option Value), to + 1 ≤ fr + k → b ≤ fr → fr ≤ to → FrK w w1 m → RK w1 m T n → St w1 s1 → scan T n f (n + 1 - fr) fr fr line false s1 = R → wp (d + 8) 171 Q 33 [some (.ref m), some (.int (nI b)), some (.int (nI e)), some (.int (nI pass)), some (.int (nI to)), some (.int (nI fr)), some (.int (nI 0)), B] [] w1 0 0 := by
    intro k
    induction k with
    | zero => intro fr w1 s1 B h1 h2 h3; omega
    | succ k ih =>
      intro fr w1 s1 B h1 h2 h3 f1 hK1 hS1 hR1
      obtain ⟨x, hx⟩ : ∃ x, x = fr + cnt (fun c => !(c == 59)) T fr (to - fr) := ⟨_, rfl⟩
      have hx1 : fr ≤ x := by omega
      have hx2 : x ≤ to := by have := cnt_le (f := fun c => !(c == 59)) (T := T) (k := to - fr) (p := fr); omega
      have hx3 : ∀ i, fr ≤ i → i < x → T i ≠ 59 := by
        intro i h1 h2
        have := cnt_in (f := fun c => !(c == 59)) (T := T) (k := to - fr) (p := fr) (i := i - fr) (by omega)
        rw [show fr + (i - fr) = i by omega] at this
        simpa using this
      have hx4 : x < to → T x = 59 := by
        intro h1
        have := cnt_end (f := fun c => !(c == 59)) (T := T) (k := to - fr) (p := fr) (by omega)
        rw [← hx] at this
        simpa using this
      have rk1 := hK1.1.1
      -- the statement's end in the scan
      have hsk : scan T n f (n + 1 - x) x fr line false s1 = R := by
        have := scan_skip (T := T) (n := n) (f := f) (from_ := fr) (line := line) (rem := false) (s := s1) (x - fr) (n + 1 - x) fr (fun i hi => ⟨by omega, hno _ (by omega) (by omega), Or.inr ⟨hx3 _ (by omega) (by omega), hto3 _ (by omega) (by omega)⟩⟩)
        rw [show n + 1 - x + (x - fr) = n + 1 - fr by omega, hR1, show fr + (x - fr) = x by omega] at this
        exact this.symm
      have hev : n ≤ x ∨ T x = 10 ∨ T x = 59 ∨ T x = 47 := by
        by_cases c1 : x < to
        · exact Or.inr (Or.inr (Or.inl (hx4 c1)))
        · by_cases c2 : to < e
          · rw [show x = to by omega]; exact Or.inr (Or.inr (Or.inr (hto4 c2)))
          · rw [show x = e by omega]
            rcases hee with z | z
            · exact Or.inl (by omega)
            · exact Or.inr (Or.inl z)
      rw [show n + 1 - x = (n - x) + 1 by omega, scan_ev hev] at hsk
      have h99' : (f fr x s1).1 ≠ 99 := by
        intro z
        rw [if_pos (by rw [z]; decide)] at hsk
        rw [← hsk] at h99
        exact h99 z
      have j74 : wp (d + 8) 171 Q 74 [some (.ref m), some (.int (nI b)), some (.int (nI e)), some (.int (nI pass)), some (.int (nI to)), some (.int (nI fr)), some (.int (nI 0)), some (.int (nI x))] [] w1 0 0 := by
        simp only [↓s_171_74, ↓s_171_75, ↓s_171_77, ↓s_171_79, ↓s_171_80, kd_uF, ln_uF, ai_uF, al_uF, ar_uF, zs_uF, fd_uF, kd_uA, ln_uA, fd_uA, al_uA, ar_uA, zs_uA, ai_uA, kd_uL, ln_uL, fd_uL, ai_uL, ar_uL, zs_uL, al_uL, kd_uR, ln_uR, fd_uR, ai_uR, al_uR, zs_uR, ar_uR, true_and, and_true, Option.toList_some, Option.toList_none, List.cons_append, List.nil_append, catS_nil, catS_int, catS_ref, catS_null, catS_long, cat_int, cat_ref, cat_null, Nat.reduceEqDiff, Nat.reduceLeDiff, Nat.reduceAdd, false_and, and_false, if_false, if_true, ite_true, ite_false, true_or, or_true, false_or, or_false, and_self, forall_const, true_implies, reduceCtorEq, clr_int, clr_ref, clr_null, clr_none, clr_long, va_rf_some, va_rf_none, rk1]
        refine hst w1 s1 fr x _ hK1 hS1 hx1 (by omega) h99' (fun w2 g1 g2 g3 => ?_)
        have hg := hf fr x s1
        have f2 := f1.tr g1
        simp only [↓s_171_83, ↓s_171_85, ↓s_171_87, ↓s_171_88, ↓s_171_89, ↓s_171_91, kd_uF, ln_uF, ai_uF, al_uF, ar_uF, zs_uF, fd_uF, kd_uA, ln_uA, fd_uA, al_uA, ar_uA, zs_uA, ai_uA, kd_uL, ln_uL, fd_uL, ai_uL, ar_uL, zs_uL, al_uL, kd_uR, ln_uR, fd_uR, ai_uR, al_uR, zs_uR, ar_uR, true_and, and_true, Option.toList_some, Option.toList_none, List.cons_append, List.nil_append, catS_nil, catS_int, catS_ref, catS_null, catS_long, cat_int, cat_ref, cat_null, Nat.reduceEqDiff, Nat.reduceLeDiff, Nat.reduceAdd, false_and, and_false, if_false, if_true, ite_true, ite_false, true_or, or_true, false_or, or_false, and_self, forall_const, true_implies, reduceCtorEq, clr_int, clr_ref, clr_null, clr_none, clr_long, va_rf_some, va_rf_none]
        rw [nI_1]
        by_cases c0 : (f fr x s1).1 = 0
        · rw [if_neg (fun z => z c0)] at hsk
          have hS2 := g3 c0
          rw [c0]
          by_cases c1 : x < to
          · have hxn : ¬ (n ≤ x ∨ T x = 10) := by rw [hx4 c1]; omega
            rw [if_neg hxn, hx4 c1] at hsk
            exact ih (x + 1) w2 _ _ (by omega) (by omega) (by omega) f2 g2 hS2 (by rw [show n + 1 - (x + 1) = n - x by omega]; exact hsk)
          · have ext : x = to := by omega
            subst ext
            rw [s_171_33]
            simp only [↓s_171_35, ↓s_171_38, ↓s_171_40, ↓s_171_42, kd_uF, ln_uF, ai_uF, al_uF, ar_uF, zs_uF, fd_uF, kd_uA, ln_uA, fd_uA, al_uA, ar_uA, zs_uA, ai_uA, kd_uL, ln_uL, fd_uL, ai_uL, ar_uL, zs_uL, al_uL, kd_uR, ln_uR, fd_uR, ai_uR, al_uR, zs_uR, ar_uR, true_and, and_true, Option.toList_some, Option.toList_none, List.cons_append, List.nil_append, catS_nil, catS_int, catS_ref, catS_null, catS_long, cat_int, cat_ref, cat_null, Nat.reduceEqDiff, Nat.reduceLeDiff, Nat.reduceAdd, false_and, and_false, if_false, if_true, ite_true, ite_false, true_or, or_true, false_or, or_false, and_self, forall_const, true_implies, reduceCtorEq, clr_int, clr_ref, clr_null, clr_none, clr_long, va_rf_some, va_rf_none]
            refine ⟨fun q => absurd rfl q, fun _ => ⟨fun _ => j94 w2 0 (f fr x s1).2 _ _ f2 g2 (fun q => absurd rfl q) (fun _ => ⟨hS2, ?_⟩) (by decide), fun q => absurd (nI_lt (by omega) (by omega)) q⟩⟩
            by_cases c2 : x < e
            · have hxn : ¬ (n ≤ x ∨ T x = 10) := by rw [hto4 c2]; omega
              rw [if_neg hxn, hto4 c2, show decide (47 = 47) = true from rfl] at hsk
              have := scan_skip (T := T) (n := n) (f := f) (from_ := x + 1) (line := line) (rem := true) (s := (f fr x s1).2) (e - (x + 1)) (n + 1 - e) (x + 1) (fun i hi => ⟨by omega, hno _ (by omega) (by omega), Or.inl rfl⟩)
              rw [show n + 1 - e + (e - (x + 1)) = n - x by omega, hsk, show x + 1 + (e - (x + 1)) = e by omega, show n + 1 - e = (n - e) + 1 by omega, scan_le (by rcases hee with z | z; exact Or.inl (by omega); exact Or.inr z)] at this
              exact this.symm
            · have exe : x = e := by omega
              rw [exe] at hsk ⊢
              rw [if_pos (by rcases hee with z | z; exact Or.inl (by omega); exact Or.inr z)] at hsk
              exact hsk
        · rw [if_pos c0] at hsk
          rw [s_171_33]
          simp only [↓s_171_35, kd_uF, ln_uF, ai_uF, al_uF, ar_uF, zs_uF, fd_uF, kd_uA, ln_uA, fd_uA, al_uA, ar_uA, zs_uA, ai_uA, kd_uL, ln_uL, fd_uL, ai_uL, ar_uL, zs_uL, al_uL, kd_uR, ln_uR, fd_uR, ai_uR, al_uR, zs_uR, ar_uR, true_and, and_true, Option.toList_some, Option.toList_none, List.cons_append, List.nil_append, catS_nil, catS_int, catS_ref, catS_null, catS_long, cat_int, cat_ref, cat_null, Nat.reduceEqDiff, Nat.reduceLeDiff, Nat.reduceAdd, false_and, and_false, if_false, if_true, ite_true, ite_false, true_or, or_true, false_or, or_false, and_self, forall_const, true_implies, reduceCtorEq, clr_int, clr_ref, clr_null, clr_none, clr_long, va_rf_some, va_rf_none]
          rw [show (0 : Int32) = nI 0 from rfl, nI_eq (by omega) (by decide)]
          refine ⟨fun _ => j94 w2 _ (f fr x s1).2 _ _ f2 g2 (fun _ => ?_) (fun q => absurd q c0) hg, fun q => absurd q c0⟩
          rw [← hsk]; exact ⟨rfl, rfl⟩
      have lq : ∀ (j y : Nat), y + j = x → fr ≤ y → wp (d + 8) 171 Q 49 [some (.ref m), some (.int (nI b)), some (.int (nI e)), some (.int (nI pass)), some (.int (nI to)), some (.int (nI fr)), some (.int (nI 0)), some (.int (nI y))] [] w1 0 0 := by
        have hs1 := hK1.1
        have tp := hK1.2.1
        obtain ⟨rk, r1, r2, r3, r4, r5, r6, r7, r8, r9, r10, r11, r12, r13, r14, r15, r16, r17, r18, r19, r20, r21, r22, r23, r24, k1, k2, k3, k4, k5, k6, k7, k8, k9, k10, k11, k12, k13, k14, k15, k16, k17, k18, k19, k20, k21, k22, k23, k24, n1, n2, n3, n4, n5, n6, n7, n8, n9, n10, n11, n12, n13, n14, n15, n16, n17, n18, n19, n20, n21, n22, n23, n24⟩ := hs1
        intro j
        induction j with
        | zero =>
          intro y hy hfy
          have ey : y = x := by omega
          subst ey
          rw [s_171_49]
          by_cases c1 : y < to
          · simp only [↓s_171_51, ↓s_171_53, ↓s_171_56, ↓s_171_57, ↓s_171_60, ↓s_171_62, ↓s_171_63, ↓s_171_65, ↓s_171_68, ↓s_171_71, kd_uF, ln_uF, ai_uF, al_uF, ar_uF, zs_uF, fd_uF, kd_uA, ln_uA, fd_uA, al_uA, ar_uA, zs_uA, ai_uA, kd_uL, ln_uL, fd_uL, ai_uL, ar_uL, zs_uL, al_uL, kd_uR, ln_uR, fd_uR, ai_uR, al_uR, zs_uR, ar_uR, true_and, and_true, Option.toList_some, Option.toList_none, List.cons_append, List.nil_append, catS_nil, catS_int, catS_ref, catS_null, catS_long, cat_int, cat_ref, cat_null, Nat.reduceEqDiff, Nat.reduceLeDiff, Nat.reduceAdd, false_and, and_false, if_false, if_true, ite_true, ite_false, true_or, or_true, false_or, or_false, and_self, forall_const, true_implies, reduceCtorEq, clr_int, clr_ref, clr_null, clr_none, clr_long, va_rf_some, va_rf_none, rk, r19, k19, n19, clN (show y < 2147483648 by omega), tp y (by omega), hx4 c1]
            exact ⟨fun q => absurd q (nI_ge c1 (by omega)), fun _ => ⟨inR_nI (by omega) (by decide), fun _ => j74, fun q => absurd rfl q⟩⟩
          · simp only [↓s_171_51, ↓s_171_53, kd_uF, ln_uF, ai_uF, al_uF, ar_uF, zs_uF, fd_uF, kd_uA, ln_uA, fd_uA, al_uA, ar_uA, zs_uA, ai_uA, kd_uL, ln_uL, fd_uL, ai_uL, ar_uL, zs_uL, al_uL, kd_uR, ln_uR, fd_uR, ai_uR, al_uR, zs_uR, ar_uR, true_and, and_true, Option.toList_some, Option.toList_none, List.cons_append, List.nil_append, catS_nil, catS_int, catS_ref, catS_null, catS_long, cat_int, cat_ref, cat_null, Nat.reduceEqDiff, Nat.reduceLeDiff, Nat.reduceAdd, false_and, and_false, if_false, if_true, ite_true, ite_false, true_or, or_true, false_or, or_false, and_self, forall_const, true_implies, reduceCtorEq, clr_int, clr_ref, clr_null, clr_none, clr_long, va_rf_some, va_rf_none]
            exact ⟨fun _ => j74, fun q => absurd (nI_le (by omega) (by omega)) q⟩
        | succ j ihj =>
          intro y hy hfy
          have hc := hT y
          have hne := hx3 y hfy (by omega)
          rw [s_171_49]
          simp only [↓s_171_51, ↓s_171_53, ↓s_171_56, ↓s_171_57, ↓s_171_60, ↓s_171_62, ↓s_171_63, ↓s_171_65, ↓s_171_68, ↓s_171_71, kd_uF, ln_uF, ai_uF, al_uF, ar_uF, zs_uF, fd_uF, kd_uA, ln_uA, fd_uA, al_uA, ar_uA, zs_uA, ai_uA, kd_uL, ln_uL, fd_uL, ai_uL, ar_uL, zs_uL, al_uL, kd_uR, ln_uR, fd_uR, ai_uR, al_uR, zs_uR, ar_uR, true_and, and_true, Option.toList_some, Option.toList_none, List.cons_append, List.nil_append, catS_nil, catS_int, catS_ref, catS_null, catS_long, cat_int, cat_ref, cat_null, Nat.reduceEqDiff, Nat.reduceLeDiff, Nat.reduceAdd, false_and, and_false, if_false, if_true, ite_true, ite_false, true_or, or_true, false_or, or_false, and_self, forall_const, true_implies, reduceCtorEq, clr_int, clr_ref, clr_null, clr_none, clr_long, va_rf_some, va_rf_none, rk, r19, k19, n19, clN (show y < 2147483648 by omega), tp y (by omega)]
          rw [show (59 : Int32) = nI 59 from rfl, nI_eq (by omega) (by decide), nI_1]
          exact ⟨fun q => absurd q (nI_ge (by omega) (by omega)), fun _ => ⟨inR_nI (by omega) (by decide), fun q => absurd q hne, fun _ => ihj (y + 1) (by omega) (by omega)⟩⟩
      rw [s_171_33]
      simp only [↓s_171_35, ↓s_171_38, ↓s_171_40, ↓s_171_42, ↓s_171_45, ↓s_171_47, kd_uF, ln_uF, ai_uF, al_uF, ar_uF, zs_uF, fd_uF, kd_uA, ln_uA, fd_uA, al_uA, ar_uA, zs_uA, ai_uA, kd_uL, ln_uL, fd_uL, ai_uL, ar_uL, zs_uL, al_uL, kd_uR, ln_uR, fd_uR, ai_uR, al_uR, zs_uR, ar_uR, true_and, and_true, Option.toList_some, Option.toList_none, List.cons_append, List.nil_append, catS_nil, catS_int, catS_ref, catS_null, catS_long, cat_int, cat_ref, cat_null, Nat.reduceEqDiff, Nat.reduceLeDiff, Nat.reduceAdd, false_and, and_false, if_false, if_true, ite_true, ite_false, true_or, or_true, false_or, or_false, and_self, forall_const, true_implies, reduceCtorEq, clr_int, clr_ref, clr_null, clr_none, clr_long, va_rf_some, va_rf_none]
      exact ⟨fun q => absurd rfl q, fun _ => ⟨fun q => absurd q (nI_nlt (by omega) (by omega)), fun _ => lq (x - fr) fr (by omega) (Nat.le_refl _)⟩⟩
  have l3 : ∀ (j y : Nat), y + j = to → b ≤ y → wp (d + 8) 171 Q 3 [some (.ref m), some (.int (nI b)), some (.int (nI e)), some (.int (nI pass)), some (.int (nI y)), none, none, none] [] w 0 0 := by
    have hs1 := hK.1
    have tp := hK.2.1
    obtain ⟨rk, r1, r2, r3, r4, r5, r6, r7, r8, r9, r10, r11, r12, r13, r14, r15, r16, r17, r18, r19, r20, r21, r22, r23, r24, k1, k2, k3, k4, k5, k6, k7, k8, k9, k10, k11, k12, k13, k14, k15, k16, k17, k18, k19, k20, k21, k22, k23, k24, n1, n2, n3, n4, n5, n6, n7, n8, n9, n10, n11, n12, n13, n14, n15, n16, n17, n18, n19, n20, n21, n22, n23, n24⟩ := hs1
    have fin : wp (d + 8) 171 Q 27 [some (.ref m), some (.int (nI b)), some (.int (nI e)), some (.int (nI pass)), some (.int (nI to)), none, none, none] [] w 0 0 := by
      simp only [↓s_171_27, ↓s_171_28, ↓s_171_30, ↓s_171_31, kd_uF, ln_uF, ai_uF, al_uF, ar_uF, zs_uF, fd_uF, kd_uA, ln_uA, fd_uA, al_uA, ar_uA, zs_uA, ai_uA, kd_uL, ln_uL, fd_uL, ai_uL, ar_uL, zs_uL, al_uL, kd_uR, ln_uR, fd_uR, ai_uR, al_uR, zs_uR, ar_uR, true_and, and_true, Option.toList_some, Option.toList_none, List.cons_append, List.nil_append, catS_nil, catS_int, catS_ref, catS_null, catS_long, cat_int, cat_ref, cat_null, Nat.reduceEqDiff, Nat.reduceLeDiff, Nat.reduceAdd, false_and, and_false, if_false, if_true, ite_true, ite_false, true_or, or_true, false_or, or_false, and_self, forall_const, true_implies, reduceCtorEq, clr_int, clr_ref, clr_null, clr_none, clr_long, va_rf_some, va_rf_none]
      exact lp (to + 1 - b) b w s none (by omega) (Nat.le_refl _) hto1 FrK.rf hK hS hR
    intro j
    induction j with
    | zero =>
      intro y hy hby
      have ey : y = to := by omega
      subst ey
      rw [s_171_3]
      by_cases c1 : y < e
      · simp only [↓s_171_5, ↓s_171_6, ↓s_171_9, ↓s_171_10, ↓s_171_13, ↓s_171_15, ↓s_171_16, ↓s_171_18, ↓s_171_21, ↓s_171_24, kd_uF, ln_uF, ai_uF, al_uF, ar_uF, zs_uF, fd_uF, kd_uA, ln_uA, fd_uA, al_uA, ar_uA, zs_uA, ai_uA, kd_uL, ln_uL, fd_uL, ai_uL, ar_uL, zs_uL, al_uL, kd_uR, ln_uR, fd_uR, ai_uR, al_uR, zs_uR, ar_uR, true_and, and_true, Option.toList_some, Option.toList_none, List.cons_append, List.nil_append, catS_nil, catS_int, catS_ref, catS_null, catS_long, cat_int, cat_ref, cat_null, Nat.reduceEqDiff, Nat.reduceLeDiff, Nat.reduceAdd, false_and, and_false, if_false, if_true, ite_true, ite_false, true_or, or_true, false_or, or_false, and_self, forall_const, true_implies, reduceCtorEq, clr_int, clr_ref, clr_null, clr_none, clr_long, va_rf_some, va_rf_none, rk, r19, k19, n19, clN (show y < 2147483648 by omega), tp y (by omega), hto4 c1]
        exact ⟨fun q => absurd q (nI_ge c1 (by omega)), fun _ => ⟨inR_nI (by omega) (by decide), fun _ => fin, fun q => absurd rfl q⟩⟩
      · simp only [↓s_171_5, ↓s_171_6, kd_uF, ln_uF, ai_uF, al_uF, ar_uF, zs_uF, fd_uF, kd_uA, ln_uA, fd_uA, al_uA, ar_uA, zs_uA, ai_uA, kd_uL, ln_uL, fd_uL, ai_uL, ar_uL, zs_uL, al_uL, kd_uR, ln_uR, fd_uR, ai_uR, al_uR, zs_uR, ar_uR, true_and, and_true, Option.toList_some, Option.toList_none, List.cons_append, List.nil_append, catS_nil, catS_int, catS_ref, catS_null, catS_long, cat_int, cat_ref, cat_null, Nat.reduceEqDiff, Nat.reduceLeDiff, Nat.reduceAdd, false_and, and_false, if_false, if_true, ite_true, ite_false, true_or, or_true, false_or, or_false, and_self, forall_const, true_implies, reduceCtorEq, clr_int, clr_ref, clr_null, clr_none, clr_long, va_rf_some, va_rf_none]
        exact ⟨fun _ => fin, fun q => absurd (nI_le (by omega) (by omega)) q⟩
    | succ j ihj =>
      intro y hy hby
      have hc := hT y
      have hne := hto3 y hby (by omega)
      rw [s_171_3]
      simp only [↓s_171_5, ↓s_171_6, ↓s_171_9, ↓s_171_10, ↓s_171_13, ↓s_171_15, ↓s_171_16, ↓s_171_18, ↓s_171_21, ↓s_171_24, kd_uF, ln_uF, ai_uF, al_uF, ar_uF, zs_uF, fd_uF, kd_uA, ln_uA, fd_uA, al_uA, ar_uA, zs_uA, ai_uA, kd_uL, ln_uL, fd_uL, ai_uL, ar_uL, zs_uL, al_uL, kd_uR, ln_uR, fd_uR, ai_uR, al_uR, zs_uR, ar_uR, true_and, and_true, Option.toList_some, Option.toList_none, List.cons_append, List.nil_append, catS_nil, catS_int, catS_ref, catS_null, catS_long, cat_int, cat_ref, cat_null, Nat.reduceEqDiff, Nat.reduceLeDiff, Nat.reduceAdd, false_and, and_false, if_false, if_true, ite_true, ite_false, true_or, or_true, false_or, or_false, and_self, forall_const, true_implies, reduceCtorEq, clr_int, clr_ref, clr_null, clr_none, clr_long, va_rf_some, va_rf_none, rk, r19, k19, n19, clN (show y < 2147483648 by omega), tp y (by omega)]
      rw [show (47 : Int32) = nI 47 from rfl, nI_eq (by omega) (by decide), nI_1]
      exact ⟨fun q => absurd q (nI_ge (by omega) (by omega)), fun _ => ⟨inR_nI (by omega) (by decide), fun q => absurd q hne, fun _ => ihj (y + 1) (by omega) (by omega)⟩⟩
  simp only [↓s_171_0, ↓s_171_1, kd_uF, ln_uF, ai_uF, al_uF, ar_uF, zs_uF, fd_uF, kd_uA, ln_uA, fd_uA, al_uA, ar_uA, zs_uA, ai_uA, kd_uL, ln_uL, fd_uL, ai_uL, ar_uL, zs_uL, al_uL, kd_uR, ln_uR, fd_uR, ai_uR, al_uR, zs_uR, ar_uR, true_and, and_true, Option.toList_some, Option.toList_none, List.cons_append, List.nil_append, catS_nil, catS_int, catS_ref, catS_null, catS_long, cat_int, cat_ref, cat_null, Nat.reduceEqDiff, Nat.reduceLeDiff, Nat.reduceAdd, false_and, and_false, if_false, if_true, ite_true, ite_false, true_or, or_true, false_or, or_false, and_self, forall_const, true_implies, reduceCtorEq, clr_int, clr_ref, clr_null, clr_none, clr_long, va_rf_some, va_rf_none]
  exact l3 (to - b) b (by omega) (Nat.le_refl _)
