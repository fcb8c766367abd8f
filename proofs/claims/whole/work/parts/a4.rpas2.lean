theorem lu_ext {t r : nt} {l : List Nat} {v : Nat} (h : lu t l = some v) : lu (t ++ r) l = some v := by
  unfold lu at h ⊢
  rw [← List.append_assoc, List.find?_append]
  cases c : (R35 ++ t).find? (fun x => x.1 == l) with
  | none => rw [c] at h; cases h
  | some x => rw [c] at h; exact h
theorem vN_some {o : Option Nat} (h : (vN o).isSome = true) : ∃ v, o = some (v + 1) := by
  unfold vN at h
  split at h
  · exact ⟨_, rfl⟩
  · cases h
theorem tV_ext {T : Nat → Nat} {e dot dot' p : Nat} {t r : nt} (h : (tV T e t dot p).isSome = true) : (tV T e (t ++ r) dot' p).isSome = true := by
  unfold tV at h ⊢
  split
  · rfl
  · rename_i c
    rw [if_neg c] at h
    split
    · rename_i c2
      rw [if_pos c2] at h
      obtain ⟨v, hv⟩ := vN_some h
      rw [lu_ext hv]; rfl
    · rfl
theorem xV_ext {T : Nat → Nat} {e dot dot' : Nat} {t r : nt} : ∀ (k p : Nat) (neg : Bool) (o o' : Option Nat), (o.isSome = true → o'.isSome = true) → (xV T e t dot k p neg o).isSome = true → (xV T e (t ++ r) dot' k p neg o').isSome = true := by
  intro k
  induction k with
  | zero => intro p neg o o' h1 h2; exact h1 h2
  | succ k ih =>
    intro p neg o o' h1 h2
    unfold xV at h2 ⊢
    have hc : (comb neg o (tV T e t dot p)).isSome = true → (comb neg o' (tV T e (t ++ r) dot' p)).isSome = true := fun q => comb_some.mpr ⟨h1 (comb_some.mp q).1, tV_ext (comb_some.mp q).2⟩
    cases c : tS T e p with
    | none => rw [c] at h2; cases h2
    | some q =>
      rw [c] at h2
      dsimp only at h2 ⊢
      split
      · rename_i c2
        rw [if_pos c2] at h2
        exact ih _ _ _ _ hc h2
      · rename_i c2
        rw [if_neg c2] at h2
        exact hc h2
theorem eV_ext {T : Nat → Nat} {e dot dot' p : Nat} {t r : nt} (h : (eV T e t dot p).isSome = true) : (eV T e (t ++ r) dot' p).isSome = true := xV_ext _ _ _ _ _ (fun q => q) h
theorem putN_le {S : ps} {x : Nat} : (putN S x).1 ≤ 5 := by
  unfold putN
  split
  · exact (by decide : 5 ≤ 5)
  · exact (by decide : 0 ≤ 5)
theorem putM_le {T : Nat → Nat} {e p v mi : Nat} {S : ps} : (putM T e p v mi S).1 ≤ 5 := by
  unfold putM
  split
  · exact (by decide : 5 ≤ 5)
  · split
    · exact (by decide : 4 ≤ 5)
    · exact putN_le
theorem s2_lt {T : Nat → Nat} {a b : Nat} {t : nt} {S : ps} : (s2 T a b t S).1 < 1000 := by
  unfold s2
  split
  · exact (by decide : 99 < 1000)
  · split
    · exact (by decide : 0 < 1000)
    · split
      · exact (by decide : 99 < 1000)
      · exact (by decide : 0 < 1000)
    · exact (by decide : 0 < 1000)
    · split
      · exact (by decide : 2 < 1000)
      · exact Nat.lt_of_le_of_lt putM_le (by decide)
    · split
      · exact (by decide : 2 < 1000)
      · exact Nat.lt_of_le_of_lt putN_le (by decide)
theorem s1_right {T : Nat → Nat} {a b dot : Nat} {t : nt} (h : (s1 T a b t dot).1 = 0) : right T b (p0 T a b) = true ∧ (tls dot t (ls0 T a b)).1 = 0 := by
  by_cases hr : right T b (p0 T a b) = true
  · refine ⟨hr, ?_⟩
    by_cases hx : (tls dot t (ls0 T a b)).1 = 0
    · exact hx
    · rw [s1_lab hr hx] at h; exact h
  · rw [s1_bad (by simpa using hr)] at h; cases h
theorem s2_no99 {T : Nat → Nat} {a b dot : Nat} {t t' : nt} {S : ps} (h : (s1 T a b t dot).1 = 0) (ht : ∃ r, t' = (s1 T a b t dot).2.1 ++ r) : (s2 T a b t' S).1 ≠ 99 := by
  obtain ⟨hr, hx⟩ := s1_right h
  have hk := knd_lt (T := T) (e := b) (p := p0 T a b)
  by_cases k02 : knd T b (p0 T a b) = 0 ∨ knd T b (p0 T a b) = 2
  · rw [s2_0 hr k02]; exact (by decide : (0 : Nat) ≠ 99)
  · by_cases k1 : knd T b (p0 T a b) = 1
    · cases hv : vAt T b (tls dot t (ls0 T a b)).2 dot (p0 T a b) with
      | none => rw [s1_1n hr hx k1 hv] at h; cases h
      | some v =>
        rw [s1_1s hr hx k1 hv] at ht
        obtain ⟨r, ht⟩ := ht
        have hv' : (vAt T b t' S.1 (p0 T a b)).isSome = true := by
          rw [ht]
          unfold vAt at hv ⊢
          rw [k1] at hv ⊢
          exact eV_ext (dot := dot) (Option.isSome_iff_exists.mpr ⟨v, hv⟩)
        obtain ⟨v', hv''⟩ := Option.isSome_iff_exists.mp hv'
        rw [s2_1s hr k1 hv'']; exact (by decide : (0 : Nat) ≠ 99)
    · by_cases k3 : knd T b (p0 T a b) = 3
      · rw [s2_3 hr k3]
        split
        · exact (by decide : (2 : Nat) ≠ 99)
        · have := putM_le (T := T) (e := b) (p := p0 T a b) (v := ‹Nat›) (mi := (mwA T b (p0 T a b)).getD 0) (S := S)
          omega
      · rw [s2_4 hr (by omega)]
        split
        · exact (by decide : (2 : Nat) ≠ 99)
        · rename_i v _
          have := putN_le (S := S) (x := v)
          omega
theorem scan_1 {σ : Type} {T : Nat → Nat} {n : Nat} {f : Nat → Nat → σ → Nat × σ} {k p from_ line : Nat} {rem : Bool} {s : σ} : scan T n f (k + 1) p from_ line rem s = if rem = false ∧ (n ≤ p ∨ T p = 10 ∨ T p = 59 ∨ T p = 47) then (if (f from_ p s).1 ≠ 0 then ((f from_ p s).1, line, (f from_ p s).2) else if n ≤ p ∨ T p = 10 then scan T n f k (p + 1) (p + 1) (line + 1) false (f from_ p s).2 else scan T n f k (p + 1) (p + 1) line (decide (T p = 47)) (f from_ p s).2) else if n ≤ p ∨ T p = 10 then scan T n f k (p + 1) (p + 1) (line + 1) false s else scan T n f k (p + 1) from_ line rem s := rfl
theorem scan_ext {T : Nat → Nat} {n : Nat} : ∀ (k p from_ line : Nat) (rem : Bool) (s : nt × Nat), (scan T n (f1s T) k p from_ line rem s).1 = 0 → ∃ r, (scan T n (f1s T) k p from_ line rem s).2.2.1 = s.1 ++ r := by
  intro k
  induction k with
  | zero => intro p from_ line rem s _; exact ⟨[], by simp [scan]⟩
  | succ k ih =>
    intro p from_ line rem s h
    rw [scan_1] at h ⊢
    have two : ∀ (p' f' l' : Nat) (r' : Bool), (scan T n (f1s T) k p' f' l' r' (f1s T from_ p s).2).1 = 0 → ∃ r, (scan T n (f1s T) k p' f' l' r' (f1s T from_ p s).2).2.2.1 = s.1 ++ r := by
      intro p' f' l' r' hh
      obtain ⟨x, hx⟩ := ih p' f' l' r' _ hh
      obtain ⟨y, hy⟩ := s1_ext (T := T) (a := from_) (b := p) (t := s.1) (dot := s.2)
      refine ⟨y ++ x, ?_⟩
      rw [hx, ← List.append_assoc, ← hy]
      rfl
    split
    · rename_i c
      rw [if_pos c] at h
      split
      · rename_i c2
        rw [if_pos c2] at h
        exact absurd h c2
      · rename_i c2
        rw [if_neg c2] at h
        split
        · rename_i c3; rw [if_pos c3] at h; exact two _ _ _ _ h
        · rename_i c3; rw [if_neg c3] at h; exact two _ _ _ _ h
    · rename_i c
      rw [if_neg c] at h
      split
      · rename_i c3; rw [if_pos c3] at h; exact ih _ _ _ _ _ h
      · rename_i c3; rw [if_neg c3] at h; exact ih _ _ _ _ _ h
theorem scan_no99 {T : Nat → Nat} {n : Nat} : ∀ (k p from_ line : Nat) (rem : Bool) (s : nt × Nat) (S : ps) (tf : nt), (scan T n (f1s T) k p from_ line rem s).1 = 0 → (scan T n (f1s T) k p from_ line rem s).2.2.1 = tf → (scan T n (fun a b s => s2 T a b tf s) k p from_ line rem S).1 ≠ 99 := by
  intro k
  induction k with
  | zero => intro p from_ line rem s S tf _ _; exact (by decide : (0 : Nat) ≠ 99)
  | succ k ih =>
    intro p from_ line rem s S tf h ht
    rw [scan_1] at h ht ⊢
    by_cases c : rem = false ∧ (n ≤ p ∨ T p = 10 ∨ T p = 59 ∨ T p = 47)
    · rw [if_pos c] at h ht ⊢
      by_cases c2 : (f1s T from_ p s).1 ≠ 0
      · rw [if_pos c2] at h; exact absurd h c2
      · rw [if_neg c2] at h ht
        have c2' : (s1 T from_ p s.1 s.2).1 = 0 := by
          have : (f1s T from_ p s).1 = 0 := by omega
          exact this
        have he : ∃ r, tf = (s1 T from_ p s.1 s.2).2.1 ++ r := by
          split at ht
          · rename_i c3
            rw [if_pos c3] at h
            obtain ⟨r, hr⟩ := scan_ext _ _ _ _ _ _ h
            exact ⟨r, by rw [← ht, hr]; rfl⟩
          · rename_i c3
            rw [if_neg c3] at h
            obtain ⟨r, hr⟩ := scan_ext _ _ _ _ _ _ h
            exact ⟨r, by rw [← ht, hr]; rfl⟩
        have n99 := s2_no99 (S := S) c2' he
        by_cases c4 : (s2 T from_ p tf S).1 ≠ 0
        · rw [if_pos c4]; exact n99
        · rw [if_neg c4]
          by_cases c3 : n ≤ p ∨ T p = 10
          · rw [if_pos c3] at h ht ⊢; exact ih _ _ _ _ _ _ _ h ht
          · rw [if_neg c3] at h ht ⊢; exact ih _ _ _ _ _ _ _ h ht
    · rw [if_neg c] at h ht ⊢
      by_cases c3 : n ≤ p ∨ T p = 10
      · rw [if_pos c3] at h ht ⊢; exact ih _ _ _ _ _ _ _ h ht
      · rw [if_neg c3] at h ht ⊢; exact ih _ _ _ _ _ _ _ h ht
theorem bE_self {T : Nat → Nat} {n : Nat} : bE T n n = n := bE_no (fun q => absurd q (Nat.lt_irrefl _))
theorem p0_self {T : Nat → Nat} {n : Nat} : p0 T n n = n := by unfold p0; rw [bE_self, Nat.sub_self]; rfl
theorem ls0_self {T : Nat → Nat} {n : Nat} : ls0 T n n = [] := by unfold ls0; rw [bE_self, Nat.sub_self]; rfl
theorem knd_self {T : Nat → Nat} {n : Nat} : knd T n n = 0 := by unfold knd; rw [if_pos (Nat.le_refl _)]
theorem right_self {T : Nat → Nat} {n : Nat} : right T n (p0 T n n) = true := by rw [p0_self]; unfold right; rw [knd_self]; rfl
theorem s1_self {T : Nat → Nat} {n : Nat} (s : nt × Nat) : f1s T n n s = (0, s) := by
  have := s1_0 (T := T) (p := n) (e := n) (dot := s.2) (t := s.1) right_self (by rw [ls0_self]; rfl) (by rw [p0_self]; exact knd_self)
  unfold f1s
  rw [this, ls0_self]; rfl
theorem s2_self {T : Nat → Nat} {n : Nat} {t : nt} (S : ps) : s2 T n n t S = (0, S) := s2_0 right_self (Or.inl (by rw [p0_self]; exact knd_self))
theorem sp_R_passes {σ : Type} {d : Nat} {w : aw} {m n pass : Nat} {T : Nat → Nat} {f : Nat → Nat → σ → Nat × σ} {St : aw → σ → Prop} {s : σ} {R : Nat × Nat × σ} {Q : wQ} (hst : StSpec d m n pass T f St) (hf : ∀ a b s, (f a b s).1 < 1000) (hemp : ∀ s, f n n s = (0, s)) (hSt : ∀ w s g v, g = 544 ∨ g = 545 → St w s → St (uF w g m v) s) (hK : RK w m T n) (hW : fd w 544 m = .int (nI 0)) (hS : St (uF w 554 m (.int (nI 128))) s) (hR : scan T n f (n + 1) 0 0 1 false s = R) (h99 : R.1 ≠ 99) (h1 : R.1 = 0 → ∀ w', FrK w w' m → RK w' m T n → St w' R.2.2 → fd w' 544 m = .int (nI 0) → fd w' 545 m = .int (nI 0) → Q (some (.int 1)) w') (h0 : R.1 ≠ 0 → ∀ w', FrK w w' m → RK w' m T n → fd w' 544 m = .int (nI R.1) → fd w' 545 m = .int (nI R.2.1) → Q (some (.int 0)) w') : wpD (d + 10) 172 [.ref m, .int (nI pass)] w Q := by
  refine ⟨Nat.le_of_ble_eq_true rfl, ?_⟩
  show wp (d + 9) 172 Q 0 [some (.ref m), some (.int (nI pass)), none, none, none] [] w 0 0
  have hn := hK.2.2.2.1
  have hT := hK.2.2.2.2
  have rk := hK.1.1
  have fin : ∀ (fr line : Nat) (w1 : aw) (s1 : σ), n ≤ fr → fr ≤ n + 1 → FrK w w1 m → RK w1 m T n → St w1 s1 → fd w1 544 m = .int (nI 0) → scan T n f (n + 1 - fr) fr fr line false s1 = R → Q (some (.int 1)) (uF w1 545 m (.int 0)) := by
    intro fr line w1 s1 a1 a2 f1 hK1 hS1 hW1 hR1
    have hr : R.1 = 0 ∧ R.2.2 = s1 := by
      by_cases c : fr = n
      · subst c
        rw [show fr + 1 - fr = 0 + 1 by omega, scan_ev (Or.inl (Nat.le_refl _)), hemp, if_neg (fun z => z rfl), if_pos (Or.inl (Nat.le_refl _))] at hR1
        rw [← hR1]; exact ⟨rfl, rfl⟩
      · rw [show n + 1 - fr = 0 by omega] at hR1
        rw [← hR1]; exact ⟨rfl, rfl⟩
    refine h1 hr.1 _ (f1.F (g := 545) rfl) (hK1.T (FrT.rf.F (g := 545) rfl) (by rw [fd_uF, if_neg (fun q => absurd q.1 (by decide))]) (fun _ => rfl)) ?_ ?_ ?_
    · rw [hr.2]; exact hSt _ _ _ _ (Or.inr rfl) hS1
    · rw [fd_uF, if_neg (fun q => absurd q.1 (by decide))]; exact hW1
    · rw [fd_uF, if_pos ⟨rfl, rfl⟩]; rfl
  have lp : ∀ (j fr line : Nat) (w1 : aw) (s1 : σ) (A : Option Value), n + 1 ≤ fr + j → fr ≤ n + 1 → FrK w w1 m → RK w1 m T n → St w1 s1 → fd w1 544 m = .int (nI 0) → scan T n f (n + 1 - fr) fr fr line false s1 = R → wp (d + 9) 172 Q 11 [some (.ref m), some (.int (nI pass)), some (.int (nI line)), some (.int (nI fr)), A] [] w1 0 0 := by
    intro j
    induction j with
    | zero =>
      intro fr line w1 s1 A a1 a2 f1 hK1 hS1 hW1 hR1
      have rk1 := hK1.1.1
      have tp1 := hK1.2.2.1
      have e0 := fin fr line w1 s1 (by omega) a2 f1 hK1 hS1 hW1 hR1
      rw [s_172_11]
      simp only [↓s_172_12, ↓s_172_13, ↓s_172_16, ↓s_172_86, ↓s_172_87, ↓s_172_88, ↓s_172_91, ↓s_172_92, kd_uF, ln_uF, ai_uF, al_uF, ar_uF, zs_uF, fd_uF, kd_uA, ln_uA, fd_uA, al_uA, ar_uA, zs_uA, ai_uA, kd_uL, ln_uL, fd_uL, ai_uL, ar_uL, zs_uL, al_uL, kd_uR, ln_uR, fd_uR, ai_uR, al_uR, zs_uR, ar_uR, true_and, and_true, Option.toList_some, Option.toList_none, List.cons_append, List.nil_append, catS_nil, catS_int, catS_ref, catS_null, catS_long, cat_int, cat_ref, cat_null, Nat.reduceEqDiff, Nat.reduceLeDiff, Nat.reduceAdd, false_and, and_false, if_false, if_true, ite_true, ite_false, true_or, or_true, false_or, or_false, and_self, forall_const, true_implies, reduceCtorEq, clr_int, clr_ref, clr_null, clr_none, clr_long, va_rf_some, va_rf_none, rk1, tp1]
      exact ⟨fun _ => ⟨rfl, e0⟩, fun q => absurd (nI_le (by omega) (by omega)) q⟩
    | succ j ih =>
      intro fr line w1 s1 A a1 a2 f1 hK1 hS1 hW1 hR1
      have rk1 := hK1.1.1
      have tp1 := hK1.2.2.1
      by_cases c : n ≤ fr
      · have e0 := fin fr line w1 s1 c a2 f1 hK1 hS1 hW1 hR1
        rw [s_172_11]
        simp only [↓s_172_12, ↓s_172_13, ↓s_172_16, ↓s_172_86, ↓s_172_87, ↓s_172_88, ↓s_172_91, ↓s_172_92, kd_uF, ln_uF, ai_uF, al_uF, ar_uF, zs_uF, fd_uF, kd_uA, ln_uA, fd_uA, al_uA, ar_uA, zs_uA, ai_uA, kd_uL, ln_uL, fd_uL, ai_uL, ar_uL, zs_uL, al_uL, kd_uR, ln_uR, fd_uR, ai_uR, al_uR, zs_uR, ar_uR, true_and, and_true, Option.toList_some, Option.toList_none, List.cons_append, List.nil_append, catS_nil, catS_int, catS_ref, catS_null, catS_long, cat_int, cat_ref, cat_null, Nat.reduceEqDiff, Nat.reduceLeDiff, Nat.reduceAdd, false_and, and_false, if_false, if_true, ite_true, ite_false, true_or, or_true, false_or, or_false, and_self, forall_const, true_implies, reduceCtorEq, clr_int, clr_ref, clr_null, clr_none, clr_long, va_rf_some, va_rf_none, rk1, tp1]
        exact ⟨fun _ => ⟨rfl, e0⟩, fun q => absurd (nI_le (by omega) (by omega)) q⟩
      · obtain ⟨x, hx⟩ : ∃ x, x = fr + cnt (fun c => !(c == 10)) T fr (n - fr) := ⟨_, rfl⟩
        have hx1 : fr ≤ x := by omega
        have hx2 : x ≤ n := by have := cnt_le (f := fun c => !(c == 10)) (T := T) (k := n - fr) (p := fr); omega
        have hx3 : ∀ i, fr ≤ i → i < x → T i ≠ 10 := by
          intro i h1 h2
          have := cnt_in (f := fun c => !(c == 10)) (T := T) (k := n - fr) (p := fr) (i := i - fr) (by omega)
          rw [show fr + (i - fr) = i by omega] at this
          simpa using this
        have hx4 : x < n → T x = 10 := by
          intro h1
          have := cnt_end (f := fun c => !(c == 10)) (T := T) (k := n - fr) (p := fr) (by omega)
          rw [← hx] at this
          simpa using this
        have j49 : wp (d + 9) 172 Q 49 [some (.ref m), some (.int (nI pass)), some (.int (nI line)), some (.int (nI fr)), some (.int (nI x))] [] w1 0 0 := by
          simp only [↓s_172_49, ↓s_172_50, ↓s_172_51, ↓s_172_52, ↓s_172_54, ↓s_172_55, kd_uF, ln_uF, ai_uF, al_uF, ar_uF, zs_uF, fd_uF, kd_uA, ln_uA, fd_uA, al_uA, ar_uA, zs_uA, ai_uA, kd_uL, ln_uL, fd_uL, ai_uL, ar_uL, zs_uL, al_uL, kd_uR, ln_uR, fd_uR, ai_uR, al_uR, zs_uR, ar_uR, true_and, and_true, Option.toList_some, Option.toList_none, List.cons_append, List.nil_append, catS_nil, catS_int, catS_ref, catS_null, catS_long, cat_int, cat_ref, cat_null, Nat.reduceEqDiff, Nat.reduceLeDiff, Nat.reduceAdd, false_and, and_false, if_false, if_true, ite_true, ite_false, true_or, or_true, false_or, or_false, and_self, forall_const, true_implies, reduceCtorEq, clr_int, clr_ref, clr_null, clr_none, clr_long, va_rf_some, va_rf_none, rk1]
          refine sp_R_line hst hf hK1 hS1 hx1 hx2 hx3 (by by_cases z : x < n; exact Or.inr (hx4 z); exact Or.inl (by omega)) hR1 h99 (fun w2 g s2 f2 hK2 b1 b2 b3 => ?_)
          have rk2 := hK2.1.1
          simp only [↓s_172_58, ↓s_172_61, ↓s_172_62, ↓s_172_63, ↓s_172_66, ↓s_172_67, ↓s_172_70, ↓s_172_73, ↓s_172_74, ↓s_172_75, ↓s_172_78, ↓s_172_80, ↓s_172_81, ↓s_172_82, ↓s_172_83, kd_uF, ln_uF, ai_uF, al_uF, ar_uF, zs_uF, fd_uF, kd_uA, ln_uA, fd_uA, al_uA, ar_uA, zs_uA, ai_uA, kd_uL, ln_uL, fd_uL, ai_uL, ar_uL, zs_uL, al_uL, kd_uR, ln_uR, fd_uR, ai_uR, al_uR, zs_uR, ar_uR, true_and, and_true, Option.toList_some, Option.toList_none, List.cons_append, List.nil_append, catS_nil, catS_int, catS_ref, catS_null, catS_long, cat_int, cat_ref, cat_null, Nat.reduceEqDiff, Nat.reduceLeDiff, Nat.reduceAdd, false_and, and_false, if_false, if_true, ite_true, ite_false, true_or, or_true, false_or, or_false, and_self, forall_const, true_implies, reduceCtorEq, clr_int, clr_ref, clr_null, clr_none, clr_long, va_rf_some, va_rf_none, rk2]
          rw [show (0 : Int32) = nI 0 from rfl, nI_leI (by omega) (by decide), nI_1, nI_1]
          have F2 : FrK w (uF (uF w2 544 m (.int (nI g))) 545 m (.int (nI line))) m := ((f1.tr f2).F (g := 544) rfl).F (g := 545) rfl
          have K2 : RK (uF (uF w2 544 m (.int (nI g))) 545 m (.int (nI line))) m T n := hK2.T ((FrT.rf.F (g := 544) rfl).F (g := 545) rfl) (by rw [fd_uF, if_neg (fun q => absurd q.1 (by decide)), fd_uF, if_neg (fun q => absurd q.1 (by decide))]) (fun _ => rfl)
          have W2 : fd (uF (uF w2 544 m (.int (nI g))) 545 m (.int (nI line))) 544 m = .int (nI g) := by rw [fd_uF, if_neg (fun q => absurd q.1 (by decide)), fd_uF, if_pos ⟨rfl, rfl⟩]
          refine ⟨fun q => ?_, fun q => ⟨rfl, ?_⟩⟩
          · have g0 : g = 0 := by omega
            subst g0
            obtain ⟨b4, b5⟩ := b2 rfl
            exact ih (x + 1) (line + 1) _ s2 _ (by omega) (by omega) F2 K2 (hSt _ _ _ _ (Or.inr rfl) (hSt _ _ _ _ (Or.inl rfl) b4)) W2 (by rw [show n + 1 - (x + 1) = n - x by omega]; exact b5)
          · obtain ⟨b4, b5⟩ := b1 (by omega)
            refine h0 (by omega) _ F2 K2 (by rw [b4]; exact W2) ?_
            rw [b5, fd_uF, if_pos ⟨rfl, rfl⟩]
        have lq : ∀ (i y : Nat), y + i = x → fr ≤ y → wp (d + 9) 172 Q 22 [some (.ref m), some (.int (nI pass)), some (.int (nI line)), some (.int (nI fr)), some (.int (nI y))] [] w1 0 0 := by
          have hs1 := hK1.1
          have tp := hK1.2.1
          obtain ⟨rk, r1, r2, r3, r4, r5, r6, r7, r8, r9, r10, r11, r12, r13, r14, r15, r16, r17, r18, r19, r20, r21, r22, r23, r24, k1, k2, k3, k4, k5, k6, k7, k8, k9, k10, k11, k12, k13, k14, k15, k16, k17, k18, k19, k20, k21, k22, k23, k24, n1, n2, n3, n4, n5, n6, n7, n8, n9, n10, n11, n12, n13, n14, n15, n16, n17, n18, n19, n20, n21, n22, n23, n24⟩ := hs1
          intro i
          induction i with
          | zero =>
            intro y hy hfy
            have ey : y = x := by omega
            subst ey
            rw [s_172_22]
            by_cases c1 : y < n
            · simp only [↓s_172_24, ↓s_172_25, ↓s_172_28, ↓s_172_31, ↓s_172_32, ↓s_172_35, ↓s_172_37, ↓s_172_38, ↓s_172_40, ↓s_172_43, ↓s_172_46, kd_uF, ln_uF, ai_uF, al_uF, ar_uF, zs_uF, fd_uF, kd_uA, ln_uA, fd_uA, al_uA, ar_uA, zs_uA, ai_uA, kd_uL, ln_uL, fd_uL, ai_uL, ar_uL, zs_uL, al_uL, kd_uR, ln_uR, fd_uR, ai_uR, al_uR, zs_uR, ar_uR, true_and, and_true, Option.toList_some, Option.toList_none, List.cons_append, List.nil_append, catS_nil, catS_int, catS_ref, catS_null, catS_long, cat_int, cat_ref, cat_null, Nat.reduceEqDiff, Nat.reduceLeDiff, Nat.reduceAdd, false_and, and_false, if_false, if_true, ite_true, ite_false, true_or, or_true, false_or, or_false, and_self, forall_const, true_implies, reduceCtorEq, clr_int, clr_ref, clr_null, clr_none, clr_long, va_rf_some, va_rf_none, rk, tp1, r19, k19, n19, clN (show y < 2147483648 by omega), tp y (by omega), hx4 c1]
              exact ⟨fun q => absurd q (nI_ge c1 (by omega)), fun _ => ⟨inR_nI (by omega) (by decide), fun _ => j49, fun q => absurd rfl q⟩⟩
            · simp only [↓s_172_24, ↓s_172_25, ↓s_172_28, kd_uF, ln_uF, ai_uF, al_uF, ar_uF, zs_uF, fd_uF, kd_uA, ln_uA, fd_uA, al_uA, ar_uA, zs_uA, ai_uA, kd_uL, ln_uL, fd_uL, ai_uL, ar_uL, zs_uL, al_uL, kd_uR, ln_uR, fd_uR, ai_uR, al_uR, zs_uR, ar_uR, true_and, and_true, Option.toList_some, Option.toList_none, List.cons_append, List.nil_append, catS_nil, catS_int, catS_ref, catS_null, catS_long, cat_int, cat_ref, cat_null, Nat.reduceEqDiff, Nat.reduceLeDiff, Nat.reduceAdd, false_and, and_false, if_false, if_true, ite_true, ite_false, true_or, or_true, false_or, or_false, and_self, forall_const, true_implies, reduceCtorEq, clr_int, clr_ref, clr_null, clr_none, clr_long, va_rf_some, va_rf_none, rk, tp1]
              exact ⟨fun _ => j49, fun q => absurd (nI_le (by omega) (by omega)) q⟩
          | succ i ihi =>
            intro y hy hfy
            have hc := hT y
            have hne := hx3 y hfy (by omega)
            rw [s_172_22]
            simp only [↓s_172_24, ↓s_172_25, ↓s_172_28, ↓s_172_31, ↓s_172_32, ↓s_172_35, ↓s_172_37, ↓s_172_38, ↓s_172_40, ↓s_172_43, ↓s_172_46, kd_uF, ln_uF, ai_uF, al_uF, ar_uF, zs_uF, fd_uF, kd_uA, ln_uA, fd_uA, al_uA, ar_uA, zs_uA, ai_uA, kd_uL, ln_uL, fd_uL, ai_uL, ar_uL, zs_uL, al_uL, kd_uR, ln_uR, fd_uR, ai_uR, al_uR, zs_uR, ar_uR, true_and, and_true, Option.toList_some, Option.toList_none, List.cons_append, List.nil_append, catS_nil, catS_int, catS_ref, catS_null, catS_long, cat_int, cat_ref, cat_null, Nat.reduceEqDiff, Nat.reduceLeDiff, Nat.reduceAdd, false_and, and_false, if_false, if_true, ite_true, ite_false, true_or, or_true, false_or, or_false, and_self, forall_const, true_implies, reduceCtorEq, clr_int, clr_ref, clr_null, clr_none, clr_long, va_rf_some, va_rf_none, rk, tp1, r19, k19, n19, clN (show y < 2147483648 by omega), tp y (by omega)]
            rw [show (10 : Int32) = nI 10 from rfl, nI_eq (by omega) (by decide), nI_1]
            exact ⟨fun q => absurd q (nI_ge (by omega) (by omega)), fun _ => ⟨inR_nI (by omega) (by decide), fun q => absurd q hne, fun _ => ihi (y + 1) (by omega) (by omega)⟩⟩
        rw [s_172_11]
        simp only [↓s_172_12, ↓s_172_13, ↓s_172_16, ↓s_172_19, ↓s_172_20, kd_uF, ln_uF, ai_uF, al_uF, ar_uF, zs_uF, fd_uF, kd_uA, ln_uA, fd_uA, al_uA, ar_uA, zs_uA, ai_uA, kd_uL, ln_uL, fd_uL, ai_uL, ar_uL, zs_uL, al_uL, kd_uR, ln_uR, fd_uR, ai_uR, al_uR, zs_uR, ar_uR, true_and, and_true, Option.toList_some, Option.toList_none, List.cons_append, List.nil_append, catS_nil, catS_int, catS_ref, catS_null, catS_long, cat_int, cat_ref, cat_null, Nat.reduceEqDiff, Nat.reduceLeDiff, Nat.reduceAdd, false_and, and_false, if_false, if_true, ite_true, ite_false, true_or, or_true, false_or, or_false, and_self, forall_const, true_implies, reduceCtorEq, clr_int, clr_ref, clr_null, clr_none, clr_long, va_rf_some, va_rf_none, rk1, tp1]
        exact ⟨fun q => absurd q (nI_ge (by omega) (by omega)), fun _ => lq (x - fr) fr (by omega) (Nat.le_refl _)⟩
  simp only [↓s_172_0, ↓s_172_1, ↓s_172_4, ↓s_172_7, ↓s_172_8, ↓s_172_9, ↓s_172_10, kd_uF, ln_uF, ai_uF, al_uF, ar_uF, zs_uF, fd_uF, kd_uA, ln_uA, fd_uA, al_uA, ar_uA, zs_uA, ai_uA, kd_uL, ln_uL, fd_uL, ai_uL, ar_uL, zs_uL, al_uL, kd_uR, ln_uR, fd_uR, ai_uR, al_uR, zs_uR, ar_uR, true_and, and_true, Option.toList_some, Option.toList_none, List.cons_append, List.nil_append, catS_nil, catS_int, catS_ref, catS_null, catS_long, cat_int, cat_ref, cat_null, Nat.reduceEqDiff, Nat.reduceLeDiff, Nat.reduceAdd, false_and, and_false, if_false, if_true, ite_true, ite_false, true_or, or_true, false_or, or_false, and_self, forall_const, true_implies, reduceCtorEq, clr_int, clr_ref, clr_null, clr_none, clr_long, va_rf_some, va_rf_none, rk]
  exact lp (n + 1) 0 1 _ s none (by omega) (by omega) (FrK.rf.F (g := 554) rfl) (hK.T (FrT.rf.F (g := 554) rfl) (by rw [fd_uF, if_neg (fun q => absurd q.1 (by decide))]) (fun _ => rfl)) hS (by rw [fd_uF, if_neg (fun q => absurd q.1 (by decide))]; exact hW) hR
