theorem tl1_ext {t : nt} {l : List Nat} {v : Nat} : ∃ r, (tl1 t l v).2 = t ++ r := by
  unfold tl1
  split
  · exact ⟨[], by simp⟩
  · split
    · exact ⟨[], by simp⟩
    · exact ⟨_, rfl⟩
theorem tls_ext {dot : Nat} : ∀ (ls : List (List Nat)) (t : nt), ∃ r, (tls dot t ls).2 = t ++ r := by
  intro ls
  induction ls with
  | nil => intro t; exact ⟨[], by simp [tls]⟩
  | cons l r ih =>
    intro t
    show ∃ x, (if (tl1 t l dot).1 = 0 then tls dot (tl1 t l dot).2 r else ((tl1 t l dot).1, t)).2 = t ++ x
    split
    · obtain ⟨x, hx⟩ := ih (tl1 t l dot).2
      obtain ⟨y, hy⟩ := tl1_ext (t := t) (l := l) (v := dot)
      exact ⟨y ++ x, by rw [hx, hy, List.append_assoc]⟩
    · exact ⟨[], by simp⟩
theorem tls_TN {dot : Nat} (hd : dot < 4096) : ∀ (ls : List (List Nat)) (t : nt), TN t → (∀ l ∈ ls, okN l ∧ l.length ≤ 6) → TN (tls dot t ls).2 := by
  intro ls
  induction ls with
  | nil => intro t h _; exact h
  | cons l r ih =>
    intro t h hl
    show TN (if (tl1 t l dot).1 = 0 then tls dot (tl1 t l dot).2 r else ((tl1 t l dot).1, t)).2
    split
    · exact ih _ (h.tell (hl l List.mem_cons_self).1 (hl l List.mem_cons_self).2 hd) (fun x hx => hl x (List.mem_cons_of_mem _ hx))
    · exact h
theorem lbs_ok {T : Nat → Nat} {e : Nat} : ∀ {k p : Nat} (l : List Nat), l ∈ lbs T e k p → okN l ∧ l.length ≤ 6 := by
  intro k
  induction k with
  | zero => intro p l h; cases h
  | succ k ih =>
    intro p l h
    have h' : l ∈ (if isLb T e p = true then nmE T e p :: lbs T e k (bE T e (wE T e p + 1)) else []) := h
    split at h'
    · rename_i c
      rcases List.mem_cons.mp h' with q | q
      · rw [q]; exact ⟨nmE_ok, nmE_6 (isN_iff.mp (isLb_iff.mp c).1).2⟩
      · exact ih l q
    · cases h'
theorem tls_le {dot : Nat} : ∀ (ls : List (List Nat)) (t : nt), (tls dot t ls).1 ≤ 6 := by
  intro ls
  induction ls with
  | nil => intro t; exact Nat.zero_le _
  | cons l r ih =>
    intro t
    show (if (tl1 t l dot).1 = 0 then tls dot (tl1 t l dot).2 r else ((tl1 t l dot).1, t)).1 ≤ 6
    split
    · exact ih _
    · exact tl1_le
theorem s1_le {T : Nat → Nat} {a b dot : Nat} {t : nt} : (s1 T a b t dot).1 < 1000 := by
  have h1 := tls_le (dot := dot) (ls0 T a b) t
  unfold s1
  split
  · exact (by decide : 1 < 1000)
  · split
    · show (tls dot t (ls0 T a b)).1 < 1000; omega
    · split
      · exact (by decide : 0 < 1000)
      · split
        · exact (by decide : 2 < 1000)
        · exact (by decide : 0 < 1000)
      · split
        · exact (by decide : 2 < 1000)
        · rename_i v _
          have := tl1_le (t := (tls dot t (ls0 T a b)).2) (l := nmE T b (p0 T a b)) (v := v)
          show (tl1 (tls dot t (ls0 T a b)).2 (nmE T b (p0 T a b)) v).1 < 1000
          omega
      · exact (by decide : 0 < 1000)
theorem s1_99 {T : Nat → Nat} {a b dot : Nat} {t : nt} : (s1 T a b t dot).1 ≤ 6 := by
  have h1 := tls_le (dot := dot) (ls0 T a b) t
  unfold s1
  split
  · exact (by decide : 1 ≤ 6)
  · split
    · exact h1
    · split
      · exact (by decide : 0 ≤ 6)
      · split
        · exact (by decide : 2 ≤ 6)
        · exact (by decide : 0 ≤ 6)
      · split
        · exact (by decide : 2 ≤ 6)
        · exact tl1_le
      · exact (by decide : 0 ≤ 6)
theorem s1_ext {T : Nat → Nat} {a b dot : Nat} {t : nt} : ∃ r, (s1 T a b t dot).2.1 = t ++ r := by
  obtain ⟨x, hx⟩ := tls_ext (dot := dot) (ls0 T a b) t
  have n : ∃ r, t = t ++ r := ⟨[], by simp⟩
  unfold s1
  split
  · exact n
  · split
    · exact n
    · split
      · exact ⟨x, hx⟩
      · split
        · exact n
        · exact ⟨x, hx⟩
      · split
        · exact n
        · rename_i v _
          obtain ⟨y, hy⟩ := tl1_ext (t := (tls dot t (ls0 T a b)).2) (l := nmE T b (p0 T a b)) (v := v)
          exact ⟨x ++ y, by show (tl1 (tls dot t (ls0 T a b)).2 (nmE T b (p0 T a b)) v).2 = _; rw [hy, hx, List.append_assoc]⟩
      · exact ⟨x, hx⟩
theorem knd_te {T : Nat → Nat} {e p : Nat} (h : knd T e p = 2) : isTe T e p = true := by
  unfold knd at h
  split at h
  · cases h
  · split at h
    · cases h
    · split at h
      · assumption
      · split at h <;> cases h
theorem s1_ok {T : Nat → Nat} {a b dot : Nat} {t : nt} (hN : TN t) (hd : dot < 4096) : TN (s1 T a b t dot).2.1 ∧ (s1 T a b t dot).2.2 < 4096 := by
  have hX := tls_TN hd (ls0 T a b) t hN (fun l hl => lbs_ok l hl)
  by_cases hr : right T b (p0 T a b) = true
  · by_cases hx : (tls dot t (ls0 T a b)).1 = 0
    · have hk := knd_lt (T := T) (e := b) (p := p0 T a b)
      by_cases k0 : knd T b (p0 T a b) = 0
      · rw [s1_0 hr hx k0]; exact ⟨hX, hd⟩
      · by_cases k1 : knd T b (p0 T a b) = 1
        · cases hv : vAt T b (tls dot t (ls0 T a b)).2 dot (p0 T a b) with
          | none => rw [s1_1n hr hx k1 hv]; exact ⟨hN, hd⟩
          | some v =>
            rw [s1_1s hr hx k1 hv]
            unfold right at hr
            rw [k1] at hr
            unfold vAt at hv
            rw [k1] at hv
            obtain ⟨q, hq, -⟩ := eOK_iff.mp hr
            exact ⟨hX, eV_lt hX hd hq hv⟩
        · by_cases k2 : knd T b (p0 T a b) = 2
          · cases hv : vAt T b (tls dot t (ls0 T a b)).2 dot (p0 T a b) with
            | none => rw [s1_2n hr hx k2 hv]; exact ⟨hN, hd⟩
            | some v =>
              rw [s1_2s hr hx k2 hv]
              unfold right at hr
              rw [k2] at hr
              unfold vAt at hv
              rw [k2] at hv
              obtain ⟨q, hq, -⟩ := eOK_iff.mp hr
              exact ⟨hX.tell nmE_ok (nmE_6 (isN_iff.mp (isTe_iff.mp (knd_te k2)).1).2) (eV_lt hX hd hq hv), hd⟩
          · rw [s1_34 hr hx (by omega)]; exact ⟨hX, Nat.mod_lt _ (by decide)⟩
    · rw [s1_lab hr hx]; exact ⟨hN, hd⟩
  · rw [s1_bad (by simpa using hr)]; exact ⟨hN, hd⟩
theorem RK.P {w : aw} {m n a b : Nat} {T : Nat → Nat} (h : RK w m T n) (hab : a ≤ b) (hbn : b ≤ n) : RP (uF (uF w 555 m (.int (nI a))) 556 m (.int (nI b))) m T b a := by
  obtain ⟨h1, h2, h3, h4, h5⟩ := h
  refine ⟨((FrT.rf.F (g := 555) rfl).F (g := 556) rfl).sh h1, h2, ?_, ?_, by omega, h5, hab⟩
  · rw [fd_uF, if_pos ⟨rfl, rfl⟩]
  · rw [fd_uF, if_neg (fun q => absurd q.1 (by decide)), fd_uF, if_pos ⟨rfl, rfl⟩]
theorem RK.T {w w' : aw} {m n : Nat} {T : Nat → Nat} (h : RK w m T n) (hF : FrT w w' m) (h1 : fd w' 543 m = fd w 543 m) (h2 : ∀ k, ai w' (m + 19) k = ai w (m + 19) k) : RK w' m T n :=
  ⟨hF.sh h.1, fun k hk => (h2 k).trans (h.2.1 k hk), h1.trans h.2.2.1, h.2.2.2⟩
def S0 : ps := (128, (fun _ => none), [], fun _ => [])
def St1 (m : Nat) (w : aw) (s : nt × Nat) : Prop := RB w m s.1 ∧ TN s.1 ∧ fd w 554 m = .int (nI s.2) ∧ s.2 < 4096 ∧ RWd w m S0
theorem RWd.C {w w' : aw} {m : Nat} {S : ps} (h : RWd w m S) (hF : FrC w w' m) : RWd w' m S := by
  obtain ⟨a, b, c, e⟩ := h
  exact ⟨(hF.2.1 _ (by decide) (by decide) (by decide) (by decide) (by decide)).trans a, fun x hx => (hF.2.2.1 22 x (by decide)).trans (b x hx), fun x y hx => (hF.2.2.1 23 x (by decide)).trans (c x y hx), fun g hg => (hF.2.2.1 24 g (by decide)).trans (e g hg)⟩
theorem RWd.F {w : aw} {m g : Nat} {S : ps} {v : Value} (h : RWd w m S) (h1 : g ≠ 553) : RWd (uF w g m v) m S := by
  obtain ⟨a, b, c, e⟩ := h
  exact ⟨by rw [fd_uF, if_neg (fun q => h1 q.1.symm)]; exact a, b, c, e⟩
def f1s (T : Nat → Nat) (a b : Nat) (s : nt × Nat) : Nat × (nt × Nat) := s1 T a b s.1 s.2
theorem RB.F {w : aw} {m g : Nat} {t : nt} {v : Value} (h : RB w m t) (h1 : g ≠ 548) (h2 : g ≠ 549) : RB (uF w g m v) m t := by
  obtain ⟨a, b, c⟩ := h
  exact ⟨by rw [fd_uF, if_neg (fun q => h1 q.1.symm)]; exact a, by rw [fd_uF, if_neg (fun q => h2 q.1.symm)]; exact b, c⟩
theorem sp_R_stat1 {d m n : Nat} {T : Nat → Nat} : StSpec d m n 1 T (f1s T) (St1 m) := by
  intro w s a b Q hK hS hab hbn h99 h
  refine ⟨Nat.le_of_ble_eq_true rfl, ?_⟩
  show wp (d + 7) 170 Q 0 [some (.ref m), some (.int (nI a)), some (.int (nI b)), some (.int (nI 1))] [] w 0 0
  have rk := hK.1.1
  obtain ⟨sB, sN, sD, sd, sW⟩ := hS
  simp only [↓s_170_0, ↓s_170_1, ↓s_170_2, ↓s_170_5, ↓s_170_6, ↓s_170_7, ↓s_170_10, ↓s_170_11, ↓s_170_12, ↓s_170_15, ↓s_170_16, ↓s_170_20, ↓s_170_21, kd_uF, ln_uF, ai_uF, al_uF, ar_uF, zs_uF, fd_uF, kd_uA, ln_uA, fd_uA, al_uA, ar_uA, zs_uA, ai_uA, kd_uL, ln_uL, fd_uL, ai_uL, ar_uL, zs_uL, al_uL, kd_uR, ln_uR, fd_uR, ai_uR, al_uR, zs_uR, ar_uR, true_and, and_true, Option.toList_some, Option.toList_none, List.cons_append, List.nil_append, catS_nil, catS_int, catS_ref, catS_null, catS_long, cat_int, cat_ref, cat_null, Nat.reduceEqDiff, Nat.reduceLeDiff, Nat.reduceAdd, false_and, and_false, if_false, if_true, ite_true, ite_false, true_or, or_true, false_or, or_false, and_self, forall_const, true_implies, reduceCtorEq, clr_int, clr_ref, clr_null, clr_none, clr_long, va_rf_some, va_rf_none, rk]
  refine ⟨fun _ => ?_, fun q => absurd q (by decide)⟩
  have hP := hK.P hab hbn
  have F1 : FrK w (uF (uF w 555 m (.int (nI a))) 556 m (.int (nI b))) m := (FrK.rf.F (g := 555) rfl).F (g := 556) rfl
  have hQ : RQ (uF (uF w 555 m (.int (nI a))) 556 m (.int (nI b))) m T b s.1 s.2 a := ⟨hP, (sB.F (by decide) (by decide)).F (by decide) (by decide), by rw [fd_uF, if_neg (fun q => absurd q.1 (by decide)), fd_uF, if_neg (fun q => absurd q.1 (by decide))]; exact sD⟩
  have K1 := hK.T F1.1 (by rw [fd_uF, if_neg (fun q => absurd q.1 (by decide)), fd_uF, if_neg (fun q => absurd q.1 (by decide))]) (fun _ => rfl)
  refine sp_R_isRight hQ sN sd (fun r w2 f2 => ?_) (fun r w2 f2 => ?_)
  · have K2 := K1.T f2.T (f2.2.1 _ (by decide) (by decide) (by decide)) (fun _ => f2.2.2.1 _ _)
    have rk2 := K2.1.1
    simp only [↓s_170_24, ↓s_170_27, ↓s_170_28, ↓s_170_29, ↓s_170_30, ↓s_170_31, ↓s_170_34, ↓s_170_35, kd_uF, ln_uF, ai_uF, al_uF, ar_uF, zs_uF, fd_uF, kd_uA, ln_uA, fd_uA, al_uA, ar_uA, zs_uA, ai_uA, kd_uL, ln_uL, fd_uL, ai_uL, ar_uL, zs_uL, al_uL, kd_uR, ln_uR, fd_uR, ai_uR, al_uR, zs_uR, ar_uR, true_and, and_true, Option.toList_some, Option.toList_none, List.cons_append, List.nil_append, catS_nil, catS_int, catS_ref, catS_null, catS_long, cat_int, cat_ref, cat_null, Nat.reduceEqDiff, Nat.reduceLeDiff, Nat.reduceAdd, false_and, and_false, if_false, if_true, ite_true, ite_false, true_or, or_true, false_or, or_false, and_self, forall_const, true_implies, reduceCtorEq, clr_int, clr_ref, clr_null, clr_none, clr_long, va_rf_some, va_rf_none, rk2]
    refine ⟨fun _ => ?_, fun q => absurd q (by decide)⟩
    have hPa : RP (uF w2 555 m (.int (nI a))) m T b a := FrA.P (f2.F (Or.inl rfl)) hP (by rw [fd_uF, if_pos ⟨rfl, rfl⟩]) hab
    have hQ2 := hQ.A (f2.F (g := 555) (v := .int (nI a)) (Or.inl rfl)) hPa
    refine sp_R_first hQ2 sN sd r (fun w3 f3 g3 => ?_)
    simp only [↓s_170_38, kd_uF, ln_uF, ai_uF, al_uF, ar_uF, zs_uF, fd_uF, kd_uA, ln_uA, fd_uA, al_uA, ar_uA, zs_uA, ai_uA, kd_uL, ln_uL, fd_uL, ai_uL, ar_uL, zs_uL, al_uL, kd_uR, ln_uR, fd_uR, ai_uR, al_uR, zs_uR, ar_uR, true_and, and_true, Option.toList_some, Option.toList_none, List.cons_append, List.nil_append, catS_nil, catS_int, catS_ref, catS_null, catS_long, cat_int, cat_ref, cat_null, Nat.reduceEqDiff, Nat.reduceLeDiff, Nat.reduceAdd, false_and, and_false, if_false, if_true, ite_true, ite_false, true_or, or_true, false_or, or_false, and_self, forall_const, true_implies, reduceCtorEq, clr_int, clr_ref, clr_null, clr_none, clr_long, va_rf_some, va_rf_none]
    have f23 : FrC (uF (uF w 555 m (.int (nI a))) 556 m (.int (nI b))) w3 m := (f2.F (g := 555) (v := .int (nI a)) (Or.inl rfl)).C.tr f3
    have K3 := K1.T f23.T (f23.2.1 _ (by decide) (by decide) (by decide) (by decide) (by decide)) (fun _ => f23.2.2.1 19 _ (by decide))
    refine h w3 (F1.tr f23.K) K3 (fun e0 => ?_)
    have g4 := g3 e0
    have ok := s1_ok (T := T) (a := a) (b := b) sN sd
    exact ⟨g4.1, ok.1, g4.2, ok.2, ((sW.F (by decide)).F (by decide)).C f23⟩
  · have K2 := K1.T f2.T (f2.2.1 _ (by decide) (by decide) (by decide)) (fun _ => f2.2.2.1 _ _)
    simp only [↓s_170_24, ↓s_170_27, ↓s_170_28, ↓s_170_29, ↓s_170_30, ↓s_170_31, ↓s_170_34, ↓s_170_35, kd_uF, ln_uF, ai_uF, al_uF, ar_uF, zs_uF, fd_uF, kd_uA, ln_uA, fd_uA, al_uA, ar_uA, zs_uA, ai_uA, kd_uL, ln_uL, fd_uL, ai_uL, ar_uL, zs_uL, al_uL, kd_uR, ln_uR, fd_uR, ai_uR, al_uR, zs_uR, ar_uR, true_and, and_true, Option.toList_some, Option.toList_none, List.cons_append, List.nil_append, catS_nil, catS_int, catS_ref, catS_null, catS_long, cat_int, cat_ref, cat_null, Nat.reduceEqDiff, Nat.reduceLeDiff, Nat.reduceAdd, false_and, and_false, if_false, if_true, ite_true, ite_false, true_or, or_true, false_or, or_false, and_self, forall_const, true_implies, reduceCtorEq, clr_int, clr_ref, clr_null, clr_none, clr_long, va_rf_some, va_rf_none]
    refine ⟨fun q => absurd trivial q, ?_⟩
    have e1 : f1s T a b s = (1, s.1, s.2) := s1_bad r
    have := h w2 (F1.tr f2.K) K2 (fun q => by rw [e1] at q; cases q)
    rw [e1] at this
    exact this
def St2 (m : Nat) (t : nt) (w : aw) (S : ps) : Prop := RB w m t ∧ TN t ∧ RWd w m S ∧ PI S ∧ fd w 554 m = .int (nI S.1)
theorem sp_R_stat2 {d m n : Nat} {T : Nat → Nat} {t : nt} : StSpec d m n 2 T (fun a b s => s2 T a b t s) (St2 m t) := by
  intro w s a b Q hK hS hab hbn h99 h
  refine ⟨Nat.le_of_ble_eq_true rfl, ?_⟩
  show wp (d + 7) 170 Q 0 [some (.ref m), some (.int (nI a)), some (.int (nI b)), some (.int (nI 2))] [] w 0 0
  have rk := hK.1.1
  obtain ⟨sB, sN, sW, sI, sD⟩ := hS
  simp only [↓s_170_0, ↓s_170_1, ↓s_170_2, ↓s_170_5, ↓s_170_6, ↓s_170_7, ↓s_170_10, ↓s_170_11, ↓s_170_12, ↓s_170_15, ↓s_170_16, ↓s_170_20, ↓s_170_21, kd_uF, ln_uF, ai_uF, al_uF, ar_uF, zs_uF, fd_uF, kd_uA, ln_uA, fd_uA, al_uA, ar_uA, zs_uA, ai_uA, kd_uL, ln_uL, fd_uL, ai_uL, ar_uL, zs_uL, al_uL, kd_uR, ln_uR, fd_uR, ai_uR, al_uR, zs_uR, ar_uR, true_and, and_true, Option.toList_some, Option.toList_none, List.cons_append, List.nil_append, catS_nil, catS_int, catS_ref, catS_null, catS_long, cat_int, cat_ref, cat_null, Nat.reduceEqDiff, Nat.reduceLeDiff, Nat.reduceAdd, false_and, and_false, if_false, if_true, ite_true, ite_false, true_or, or_true, false_or, or_false, and_self, forall_const, true_implies, reduceCtorEq, clr_int, clr_ref, clr_null, clr_none, clr_long, va_rf_some, va_rf_none, rk]
  refine ⟨fun q => absurd rfl q, fun _ => ?_⟩
  have hP := hK.P hab hbn
  have F1 : FrK w (uF (uF w 555 m (.int (nI a))) 556 m (.int (nI b))) m := (FrK.rf.F (g := 555) rfl).F (g := 556) rfl
  have hQ : RQ (uF (uF w 555 m (.int (nI a))) 556 m (.int (nI b))) m T b t s.1 a := ⟨hP, (sB.F (by decide) (by decide)).F (by decide) (by decide), by rw [fd_uF, if_neg (fun q => absurd q.1 (by decide)), fd_uF, if_neg (fun q => absurd q.1 (by decide))]; exact sD⟩
  have K1 := hK.T F1.1 (by rw [fd_uF, if_neg (fun q => absurd q.1 (by decide)), fd_uF, if_neg (fun q => absurd q.1 (by decide))]) (fun _ => rfl)
  refine sp_R_second hQ sN ((sW.F (by decide)).F (by decide)) sI h99 (fun w3 f3 g3 => ?_)
  simp only [↓s_170_19, kd_uF, ln_uF, ai_uF, al_uF, ar_uF, zs_uF, fd_uF, kd_uA, ln_uA, fd_uA, al_uA, ar_uA, zs_uA, ai_uA, kd_uL, ln_uL, fd_uL, ai_uL, ar_uL, zs_uL, al_uL, kd_uR, ln_uR, fd_uR, ai_uR, al_uR, zs_uR, ar_uR, true_and, and_true, Option.toList_some, Option.toList_none, List.cons_append, List.nil_append, catS_nil, catS_int, catS_ref, catS_null, catS_long, cat_int, cat_ref, cat_null, Nat.reduceEqDiff, Nat.reduceLeDiff, Nat.reduceAdd, false_and, and_false, if_false, if_true, ite_true, ite_false, true_or, or_true, false_or, or_false, and_self, forall_const, true_implies, reduceCtorEq, clr_int, clr_ref, clr_null, clr_none, clr_long, va_rf_some, va_rf_none]
  have K3 := K1.T f3.T (f3.2.1 _ (by decide) (by decide) (by decide) (by decide) (by decide)) (fun _ => f3.2.2.1 19 _ (by decide))
  refine h w3 (F1.tr f3.K) K3 (fun e0 => ?_)
  have g4 := g3 e0
  exact ⟨hQ.2.1.D f3, sN, g4.1, g4.2.1, g4.2.2⟩
