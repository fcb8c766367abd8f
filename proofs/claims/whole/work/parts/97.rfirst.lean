def FrC (w w' : aw) (m : Nat) : Prop := Fr w w' m (m + 25) ∧ (∀ g, g ≠ 555 → g ≠ 557 → g ≠ 558 → g ≠ 548 → g ≠ 554 → fd w' g m = fd w g m) ∧ (∀ k i, k ≠ 21 → ai w' (m + k) i = ai w (m + k) i) ∧ (∀ k, k < 35 → al w' (m + 20) k = al w (m + 20) k ∧ ai w' (m + 21) k = ai w (m + 21) k)
theorem FrC.rf {w : aw} {m : Nat} : FrC w w m := ⟨Fr.rf, fun _ _ _ _ _ _ => rfl, fun _ _ _ => rfl, fun _ _ => ⟨rfl, rfl⟩⟩
theorem FrC.tr {w w1 w2 : aw} {m : Nat} (h : FrC w w1 m) (g : FrC w1 w2 m) : FrC w w2 m := ⟨h.1.tr g.1, fun k a b c x y => (g.2.1 k a b c x y).trans (h.2.1 k a b c x y), fun k i e => (g.2.2.1 k i e).trans (h.2.2.1 k i e), fun k e => ⟨((g.2.2.2 k e).1).trans ((h.2.2.2 k e).1), ((g.2.2.2 k e).2).trans ((h.2.2.2 k e).2)⟩⟩
theorem FrA.C {w w' : aw} {m : Nat} (h : FrA w w' m) : FrC w w' m := ⟨h.1, fun g a b c _ _ => h.2.1 g a b c, fun k i _ => h.2.2.1 _ i, fun k _ => ⟨h.2.2.2 _ _, h.2.2.1 _ _⟩⟩
theorem FrC.F {w w' : aw} {m g : Nat} {v : Value} (h : FrC w w' m) (hg : g = 555 ∨ g = 557 ∨ g = 558 ∨ g = 548 ∨ g = 554) : FrC w (uF w' g m v) m :=
  ⟨h.1.F (by omega) (by omega), fun k a b c x y => by rw [fd_uF, if_neg (fun q => by omega)]; exact h.2.1 k a b c x y, h.2.2⟩
theorem FrC.T {w w' : aw} {m : Nat} (h : FrC w w' m) : FrT w w' m := by
  refine ⟨h.1, fun g hg => h.2.1 g ?_ ?_ ?_ ?_ ?_, fun k i hk => h.2.2.1 k i (by omega)⟩ <;> (intro q; rw [q] at hg; exact absurd hg (by decide))
theorem FrC.P {w w' : aw} {m e p q : Nat} {T : Nat → Nat} (h : FrC w w' m) (hP : RP w m T e p) (hq : fd w' 555 m = .int (nI q)) (hqe : q ≤ e) : RP w' m T e q := by
  obtain ⟨a, b, c, d, f, g, i⟩ := hP
  exact ⟨h.T.sh a, fun k hk => (h.2.2.1 19 k (by decide)).trans (b k hk), (h.2.1 _ (by decide) (by decide) (by decide) (by decide) (by decide)).trans c, hq, f, g, hqe⟩
theorem tl1_le {t : nt} {l : List Nat} {v : Nat} : (tl1 t l v).1 ≤ 6 := by
  unfold tl1
  split
  · show 3 ≤ 6; decide
  · split
    · show 6 ≤ 6; decide
    · show 0 ≤ 6; decide
theorem sp_R_tell {d : Nat} {w : aw} {m v : Nat} {t : nt} {l : List Nat} {Q : wQ} (hs : RSh w m) (hB : RB w m t) (hN : TN t) (hl : okN l) (h6 : l.length ≤ 6) (h : ∀ w', RB w' m (tl1 t l v).2 → FrC w w' m → (∀ g, g ≠ 548 → fd w' g m = fd w g m) → Q (some (.int (nI (tl1 t l v).1))) w') : wpD (d + 2) 163 [.ref m, .long (lN (b37 l)), .int (nI v)] w Q := by
  refine ⟨Nat.le_of_ble_eq_true rfl, ?_⟩
  show wp (d + 1) 163 Q 0 [some (.ref m), some (.long (lN (b37 l))), none, some (.int (nI v))] [] w 0 0
  have hs0 := hs
  have hB0 := hB
  have ht := hN.2.2
  obtain ⟨rk, r1, r2, r3, r4, r5, r6, r7, r8, r9, r10, r11, r12, r13, r14, r15, r16, r17, r18, r19, r20, r21, r22, r23, r24, k1, k2, k3, k4, k5, k6, k7, k8, k9, k10, k11, k12, k13, k14, k15, k16, k17, k18, k19, k20, k21, k22, k23, k24, n1, n2, n3, n4, n5, n6, n7, n8, n9, n10, n11, n12, n13, n14, n15, n16, n17, n18, n19, n20, n21, n22, n23, n24⟩ := hs
  obtain ⟨bm, bk, bt⟩ := hB
  simp only [↓s_163_0, ↓s_163_1, ↓s_163_2, kd_uF, ln_uF, ai_uF, al_uF, ar_uF, zs_uF, fd_uF, kd_uA, ln_uA, fd_uA, al_uA, ar_uA, zs_uA, ai_uA, kd_uL, ln_uL, fd_uL, ai_uL, ar_uL, zs_uL, al_uL, kd_uR, ln_uR, fd_uR, ai_uR, al_uR, zs_uR, ar_uR, true_and, and_true, Option.toList_some, Option.toList_none, List.cons_append, List.nil_append, catS_nil, catS_int, catS_ref, catS_null, catS_long, cat_int, cat_ref, cat_null, Nat.reduceEqDiff, Nat.reduceLeDiff, Nat.reduceAdd, false_and, and_false, if_false, if_true, ite_true, ite_false, true_or, or_true, false_or, or_false, and_self, forall_const, true_implies, reduceCtorEq, clr_int, clr_ref, clr_null, clr_none, clr_long, va_rf_some, va_rf_none, rk]
  refine sp_R_find hs0 hB0 hN hl h6 (fun k x a1 a2 a3 => ?_) (fun a1 => ?_)
  · have hlu : lu t l = some x.2 := by rw [← a2]; exact lu_mem hN (List.mem_of_getElem? a1)
    have ht1 : tl1 t l v = (3, t) := by unfold tl1; rw [if_pos (by rw [hlu]; rfl)]
    rw [ht1] at h
    simp only [↓s_163_5, ↓s_163_8, ↓s_163_9, ↓s_163_10, ↓s_163_11, ↓s_163_14, ↓s_163_15, ↓s_163_18, ↓s_163_19, ↓s_163_22, ↓s_163_25, ↓s_163_27, ↓s_163_28, ↓s_163_29, ↓s_163_32, ↓s_163_33, ↓s_163_36, ↓s_163_37, ↓s_163_38, ↓s_163_39, ↓s_163_42, ↓s_163_43, ↓s_163_46, ↓s_163_47, ↓s_163_48, ↓s_163_49, ↓s_163_50, ↓s_163_53, ↓s_163_54, ↓s_163_55, ↓s_163_58, ↓s_163_59, kd_uF, ln_uF, ai_uF, al_uF, ar_uF, zs_uF, fd_uF, kd_uA, ln_uA, fd_uA, al_uA, ar_uA, zs_uA, ai_uA, kd_uL, ln_uL, fd_uL, ai_uL, ar_uL, zs_uL, al_uL, kd_uR, ln_uR, fd_uR, ai_uR, al_uR, zs_uR, ar_uR, true_and, and_true, Option.toList_some, Option.toList_none, List.cons_append, List.nil_append, catS_nil, catS_int, catS_ref, catS_null, catS_long, cat_int, cat_ref, cat_null, Nat.reduceEqDiff, Nat.reduceLeDiff, Nat.reduceAdd, false_and, and_false, if_false, if_true, ite_true, ite_false, true_or, or_true, false_or, or_false, and_self, forall_const, true_implies, reduceCtorEq, clr_int, clr_ref, clr_null, clr_none, clr_long, va_rf_some, va_rf_none, rk, bm, bk]
    exact ⟨fun q => absurd q (nI_pos (by omega)), fun _ => h w hB0 FrC.rf (fun _ _ => rfl)⟩
  · have hlu : lu t l = none := lu_none a1
    have hn : ¬ (lu t l).isSome = true := by rw [hlu]; decide
    simp only [↓s_163_5, ↓s_163_8, ↓s_163_9, ↓s_163_10, ↓s_163_11, ↓s_163_14, ↓s_163_15, ↓s_163_18, ↓s_163_19, ↓s_163_22, ↓s_163_25, ↓s_163_27, ↓s_163_28, ↓s_163_29, ↓s_163_32, ↓s_163_33, ↓s_163_36, ↓s_163_37, ↓s_163_38, ↓s_163_39, ↓s_163_42, ↓s_163_43, ↓s_163_46, ↓s_163_47, ↓s_163_48, ↓s_163_49, ↓s_163_50, ↓s_163_53, ↓s_163_54, ↓s_163_55, ↓s_163_58, ↓s_163_59, kd_uF, ln_uF, ai_uF, al_uF, ar_uF, zs_uF, fd_uF, kd_uA, ln_uA, fd_uA, al_uA, ar_uA, zs_uA, ai_uA, kd_uL, ln_uL, fd_uL, ai_uL, ar_uL, zs_uL, al_uL, kd_uR, ln_uR, fd_uR, ai_uR, al_uR, zs_uR, ar_uR, true_and, and_true, Option.toList_some, Option.toList_none, List.cons_append, List.nil_append, catS_nil, catS_int, catS_ref, catS_null, catS_long, cat_int, cat_ref, cat_null, Nat.reduceEqDiff, Nat.reduceLeDiff, Nat.reduceAdd, false_and, and_false, if_false, if_true, ite_true, ite_false, true_or, or_true, false_or, or_false, and_self, forall_const, true_implies, reduceCtorEq, clr_int, clr_ref, clr_null, clr_none, clr_long, va_rf_some, va_rf_none, rk, bm, bk, r20, k20, n20, r21, k21, n21, clN (show 35 + t.length < 2147483648 by omega)]
    rw [pk_sub (by omega), show 35 + t.length - 35 = t.length by omega, show (200 : Int32) = nI 200 from rfl, nI_eq (by omega) (by decide), nI_1]
    refine ⟨fun _ => ⟨fun q => ?_, fun q => ?_⟩, fun q => absurd (by decide) q⟩
    · have ht1 : tl1 t l v = (0, t ++ [(l, v + 1)]) := by unfold tl1; rw [if_neg hn, if_neg q]
      rw [ht1] at h
      refine ⟨inR_nI (by omega) (by decide), inR_nI (by omega) (by decide), ?_⟩
      refine h _ ⟨?_, ?_, fun k x hx => ?_⟩ ?_ (fun g hg => by rw [fd_uF, if_neg (fun q => hg q.1)]; rfl)
      · rw [fd_uF, if_pos ⟨rfl, rfl⟩, List.length_append]; rfl
      · rw [fd_uF, if_neg (fun q => absurd q.1 (by decide))]; exact bk
      · rw [← List.append_assoc] at hx
        rw [al_uF, al_uA, al_uL, ai_uF, ai_uA, ai_uL]
        by_cases c : k < 35 + t.length
        · rw [List.getElem?_append_left (by rw [tb_len]; exact c)] at hx
          rw [if_neg (by omega), if_neg (by omega)]
          exact bt k x hx
        · rw [List.getElem?_append_right (by rw [tb_len]; omega), tb_len] at hx
          have ck : k = 35 + t.length := by
            have := (List.getElem?_eq_some_iff.mp hx).1
            simp at this
            omega
          subst ck
          rw [Nat.sub_self] at hx
          cases hx
          rw [if_pos ⟨rfl, rfl⟩, if_pos ⟨rfl, rfl⟩]
          exact ⟨rfl, rfl⟩
      · exact ⟨((Fr.rf.L (by omega) (by omega)).A (by omega) (by omega)).F (by omega) (by omega), fun g a b c x y => by rw [fd_uF, if_neg (fun q => x q.1)]; rfl, fun k i hk => by rw [ai_uF, ai_uA, if_neg (by omega)]; rfl, fun k hk => ⟨by rw [al_uF, al_uA, al_uL, if_neg (by omega)], by rw [ai_uF, ai_uA, if_neg (by omega)]; rfl⟩⟩
    · have ht1 : tl1 t l v = (6, t) := by unfold tl1; rw [if_neg hn, if_pos q]
      rw [ht1] at h
      exact h w hB0 FrC.rf (fun _ _ => rfl)
theorem eV_lt {T : Nat → Nat} {e p q dot v : Nat} {t : nt} (hN : TN t) (hd : dot < 4096) (hS : eS T e p = some q) (h : eV T e t dot p = some v) : v < 4096 := by
  have aux : ∀ (k p2 : Nat) (neg : Bool) (o : Option Nat) (q : Nat), (∀ v, o = some v → v < 4096) → xS T e k p2 = some q → ∀ v, xV T e t dot k p2 neg o = some v → v < 4096 := by
    intro k
    induction k with
    | zero => intro p2 neg o q _ h; cases h
    | succ k ih =>
      intro p2 neg o q ho h1 v h2
      unfold xS at h1
      unfold xV at h2
      cases c : tS T e p2 with
      | none => rw [c] at h1; cases h1
      | some r =>
        rw [c] at h1 h2
        dsimp only at h1 h2
        have hc : ∀ v, comb neg o (tV T e t dot p2) = some v → v < 4096 := by
          intro v hv
          unfold comb at hv
          split at hv
          · cases hv; split <;> exact Nat.mod_lt _ (by decide)
          · cases hv
        split at h1
        · rename_i c2
          rw [if_pos c2] at h2
          exact ih _ _ _ q hc h1 v h2
        · rename_i c2
          rw [if_neg c2] at h2
          exact hc v h2
  exact aux _ _ _ _ q (fun v h => by cases h; decide) hS v h
theorem s1_bad {T : Nat → Nat} {p e dot : Nat} {t : nt} (hr : right T e (p0 T p e) = false) : s1 T p e t dot = (1, t, dot) := by
  unfold s1; rw [if_pos hr]
theorem s1_lab {T : Nat → Nat} {p e dot : Nat} {t : nt} (hr : right T e (p0 T p e) = true) (hx : (tls dot t (ls0 T p e)).1 ≠ 0) : s1 T p e t dot = ((tls dot t (ls0 T p e)).1, t, dot) := by
  unfold s1; rw [if_neg (by rw [hr]; decide), if_pos hx]
theorem s1_0 {T : Nat → Nat} {p e dot : Nat} {t : nt} (hr : right T e (p0 T p e) = true) (hx : (tls dot t (ls0 T p e)).1 = 0) (hk : knd T e (p0 T p e) = 0) : s1 T p e t dot = (0, (tls dot t (ls0 T p e)).2, dot) := by
  unfold s1; rw [if_neg (by rw [hr]; decide), if_neg (fun z => z hx), hk]; rfl
theorem s1_1n {T : Nat → Nat} {p e dot : Nat} {t : nt} (hr : right T e (p0 T p e) = true) (hx : (tls dot t (ls0 T p e)).1 = 0) (hk : knd T e (p0 T p e) = 1) (hv : vAt T e (tls dot t (ls0 T p e)).2 dot (p0 T p e) = none) : s1 T p e t dot = (2, t, dot) := by
  unfold s1; rw [if_neg (by rw [hr]; decide), if_neg (fun z => z hx), hk, hv]; rfl
theorem s1_1s {T : Nat → Nat} {p e dot v : Nat} {t : nt} (hr : right T e (p0 T p e) = true) (hx : (tls dot t (ls0 T p e)).1 = 0) (hk : knd T e (p0 T p e) = 1) (hv : vAt T e (tls dot t (ls0 T p e)).2 dot (p0 T p e) = some v) : s1 T p e t dot = (0, (tls dot t (ls0 T p e)).2, v) := by
  unfold s1; rw [if_neg (by rw [hr]; decide), if_neg (fun z => z hx), hk, hv]; rfl
theorem s1_2n {T : Nat → Nat} {p e dot : Nat} {t : nt} (hr : right T e (p0 T p e) = true) (hx : (tls dot t (ls0 T p e)).1 = 0) (hk : knd T e (p0 T p e) = 2) (hv : vAt T e (tls dot t (ls0 T p e)).2 dot (p0 T p e) = none) : s1 T p e t dot = (2, t, dot) := by
  unfold s1; rw [if_neg (by rw [hr]; decide), if_neg (fun z => z hx), hk, hv]; rfl
theorem s1_2s {T : Nat → Nat} {p e dot v : Nat} {t : nt} (hr : right T e (p0 T p e) = true) (hx : (tls dot t (ls0 T p e)).1 = 0) (hk : knd T e (p0 T p e) = 2) (hv : vAt T e (tls dot t (ls0 T p e)).2 dot (p0 T p e) = some v) : s1 T p e t dot = ((tl1 (tls dot t (ls0 T p e)).2 (nmE T e (p0 T p e)) v).1, (tl1 (tls dot t (ls0 T p e)).2 (nmE T e (p0 T p e)) v).2, dot) := by
  unfold s1; rw [if_neg (by rw [hr]; decide), if_neg (fun z => z hx), hk, hv]; rfl
theorem s1_34 {T : Nat → Nat} {p e dot : Nat} {t : nt} (hr : right T e (p0 T p e) = true) (hx : (tls dot t (ls0 T p e)).1 = 0) (hk : knd T e (p0 T p e) = 3 ∨ knd T e (p0 T p e) = 4) : s1 T p e t dot = (0, (tls dot t (ls0 T p e)).2, (dot + 1) % 4096) := by
  unfold s1; rw [if_neg (by rw [hr]; decide), if_neg (fun z => z hx)]
  rcases hk with hk | hk <;> (rw [hk]; rfl)
theorem sp_R_first {d : Nat} {w : aw} {m e p dot : Nat} {T : Nat → Nat} {t : nt} {Q : wQ} (hQ : RQ w m T e t dot p) (hN : TN t) (hd : dot < 4096) (hr : right T e (p0 T p e) = true) (h : ∀ w', FrC w w' m → ((s1 T p e t dot).1 = 0 → RB w' m (s1 T p e t dot).2.1 ∧ fd w' 554 m = .int (nI (s1 T p e t dot).2.2)) → Q (some (.int (nI (s1 T p e t dot).1))) w') : wpD (d + 7) 164 [.ref m] w Q := by
  refine ⟨Nat.le_of_ble_eq_true rfl, ?_⟩
  show wp (d + 6) 164 Q 0 [some (.ref m), none, none, none, none] [] w 0 0
  have he := hQ.1.2.2.2.2.1
  have hT := hQ.1.2.2.2.2.2.1
  have hpe := hQ.1.2.2.2.2.2.2
  have rk := hQ.1.1.1
  obtain ⟨X, hX⟩ : ∃ X, X = tls dot t (ls0 T p e) := ⟨_, rfl⟩
  obtain ⟨b, hb⟩ : ∃ b, b = p0 T p e := ⟨_, rfl⟩
  have hr0 := hr
  rw [← hb] at hr
  -- with a fault of a label
  have bad : ∀ w1 (f : Nat) (A B C : Option Value), X.1 = f → f ≠ 0 → f ≤ 6 → FrC w w1 m → wp (d + 6) 164 Q 6 [some (.ref m), some (.int (nI f)), A, B, C] [] w1 0 0 := by
    intro w1 f A B C e1 e2 e3 f1
    rw [s1_lab hr0 (by rw [← hX, e1]; exact e2), ← hX] at h
    rw [s_164_6]
    simp only [↓s_164_7, kd_uF, ln_uF, ai_uF, al_uF, ar_uF, zs_uF, fd_uF, kd_uA, ln_uA, fd_uA, al_uA, ar_uA, zs_uA, ai_uA, kd_uL, ln_uL, fd_uL, ai_uL, ar_uL, zs_uL, al_uL, kd_uR, ln_uR, fd_uR, ai_uR, al_uR, zs_uR, ar_uR, true_and, and_true, Option.toList_some, Option.toList_none, List.cons_append, List.nil_append, catS_nil, catS_int, catS_ref, catS_null, catS_long, cat_int, cat_ref, cat_null, Nat.reduceEqDiff, Nat.reduceLeDiff, Nat.reduceAdd, false_and, and_false, if_false, if_true, ite_true, ite_false, true_or, or_true, false_or, or_false, and_self, forall_const, true_implies, reduceCtorEq, clr_int, clr_ref, clr_null, clr_none, clr_long, va_rf_some, va_rf_none]
    rw [show (0 : Int32) = nI 0 from rfl, nI_eq (by omega) (by decide)]
    refine ⟨fun _ => ?_, fun q => absurd q e2⟩
    simp only [↓s_164_55, ↓s_164_56, ↓s_164_59, ↓s_164_60, ↓s_164_63, ↓s_164_64, ↓s_164_67, ↓s_164_70, ↓s_164_71, ↓s_164_72, ↓s_164_73, ↓s_164_74, ↓s_164_77, kd_uF, ln_uF, ai_uF, al_uF, ar_uF, zs_uF, fd_uF, kd_uA, ln_uA, fd_uA, al_uA, ar_uA, zs_uA, ai_uA, kd_uL, ln_uL, fd_uL, ai_uL, ar_uL, zs_uL, al_uL, kd_uR, ln_uR, fd_uR, ai_uR, al_uR, zs_uR, ar_uR, true_and, and_true, Option.toList_some, Option.toList_none, List.cons_append, List.nil_append, catS_nil, catS_int, catS_ref, catS_null, catS_long, cat_int, cat_ref, cat_null, Nat.reduceEqDiff, Nat.reduceLeDiff, Nat.reduceAdd, false_and, and_false, if_false, if_true, ite_true, ite_false, true_or, or_true, false_or, or_false, and_self, forall_const, true_implies, reduceCtorEq, clr_int, clr_ref, clr_null, clr_none, clr_long, va_rf_some, va_rf_none]
    refine ⟨fun _ => ?_, fun q => absurd (by rw [show (0 : Int32) = nI 0 from rfl, nI_ltI (by decide) (by omega)]; omega) q⟩
    have := h w1 f1 (fun q => absurd (show X.1 = 0 from q) (by omega))
    rw [← e1]; exact this
  -- behind the labels
  have body : ∀ w1 (A B C : Option Value), X.1 = 0 → TN X.2 → RQ w1 m T e X.2 dot b → FrC w w1 m → wp (d + 6) 164 Q 55 [some (.ref m), some (.int (nI 0)), A, B, C] [] w1 0 0 := by
    intro w1 A B C e1 hN1 hq f1
    have hx0 : (tls dot t (ls0 T p e)).1 = 0 := by rw [← hX]; exact e1
    have rk1 := hq.1.1.1
    have at1 := hq.1.2.2.2.1
    have st1 := hq.1.2.2.1
    have hbe := hq.1.2.2.2.2.2.2
    have hc := lk_lt (T := T) (e := e) (p := b) hT
    have dt1 := hq.2.2
    simp only [↓s_164_55, ↓s_164_56, ↓s_164_59, ↓s_164_60, ↓s_164_63, ↓s_164_64, ↓s_164_67, ↓s_164_72, ↓s_164_73, ↓s_164_74, ↓s_164_77, kd_uF, ln_uF, ai_uF, al_uF, ar_uF, zs_uF, fd_uF, kd_uA, ln_uA, fd_uA, al_uA, ar_uA, zs_uA, ai_uA, kd_uL, ln_uL, fd_uL, ai_uL, ar_uL, zs_uL, al_uL, kd_uR, ln_uR, fd_uR, ai_uR, al_uR, zs_uR, ar_uR, true_and, and_true, Option.toList_some, Option.toList_none, List.cons_append, List.nil_append, catS_nil, catS_int, catS_ref, catS_null, catS_long, cat_int, cat_ref, cat_null, Nat.reduceEqDiff, Nat.reduceLeDiff, Nat.reduceAdd, false_and, and_false, if_false, if_true, ite_true, ite_false, true_or, or_true, false_or, or_false, and_self, forall_const, true_implies, reduceCtorEq, clr_int, clr_ref, clr_null, clr_none, clr_long, va_rf_some, va_rf_none, rk1, at1, st1]
    refine ⟨fun q => absurd q (by decide), fun _ => ?_⟩
    rw [nI_ltI (by omega) (by omega)]
    refine ⟨fun zb => sp_R_look hq.1 (by omega) ?_, fun zb => ?_⟩
    · simp only [↓s_164_80, ↓s_164_82, ↓s_164_85, ↓s_164_86, ↓s_164_87, ↓s_164_90, ↓s_164_91, ↓s_164_92, ↓s_164_95, ↓s_164_96, ↓s_164_123, ↓s_164_124, kd_uF, ln_uF, ai_uF, al_uF, ar_uF, zs_uF, fd_uF, kd_uA, ln_uA, fd_uA, al_uA, ar_uA, zs_uA, ai_uA, kd_uL, ln_uL, fd_uL, ai_uL, ar_uL, zs_uL, al_uL, kd_uR, ln_uR, fd_uR, ai_uR, al_uR, zs_uR, ar_uR, true_and, and_true, Option.toList_some, Option.toList_none, List.cons_append, List.nil_append, catS_nil, catS_int, catS_ref, catS_null, catS_long, cat_int, cat_ref, cat_null, Nat.reduceEqDiff, Nat.reduceLeDiff, Nat.reduceAdd, false_and, and_false, if_false, if_true, ite_true, ite_false, true_or, or_true, false_or, or_false, and_self, forall_const, true_implies, reduceCtorEq, clr_int, clr_ref, clr_null, clr_none, clr_long, va_rf_some, va_rf_none, rk1, at1]
      rw [show (42 : Int32) = nI 42 from rfl, nI_eq (by omega) (by decide), nI_1]
      refine ⟨fun z => sp_R_isTelling hq.1 (fun y => ?_) (fun y => ?_), fun z => ?_⟩
      · have hk : knd T e b = 2 := by unfold knd; rw [if_neg (by omega), if_neg z, if_pos y]
        have hr' : eOK T e (eS T e (bE T e (wE T e b + 1))) = true := by unfold right at hr; rw [hk] at hr; exact hr
        have hv : vAt T e X.2 dot b = eV T e X.2 dot (bE T e (wE T e b + 1)) := by unfold vAt; rw [hk]; rfl
        have hy := isTe_pos y
        have hn := isTe_iff.mp y
        simp only [↓s_164_127, ↓s_164_130, ↓s_164_131, ↓s_164_132, ↓s_164_135, ↓s_164_184, ↓s_164_185, ↓s_164_186, ↓s_164_189, ↓s_164_190, ↓s_164_191, ↓s_164_194, ↓s_164_195, ↓s_164_198, ↓s_164_199, kd_uF, ln_uF, ai_uF, al_uF, ar_uF, zs_uF, fd_uF, kd_uA, ln_uA, fd_uA, al_uA, ar_uA, zs_uA, ai_uA, kd_uL, ln_uL, fd_uL, ai_uL, ar_uL, zs_uL, al_uL, kd_uR, ln_uR, fd_uR, ai_uR, al_uR, zs_uR, ar_uR, true_and, and_true, Option.toList_some, Option.toList_none, List.cons_append, List.nil_append, catS_nil, catS_int, catS_ref, catS_null, catS_long, cat_int, cat_ref, cat_null, Nat.reduceEqDiff, Nat.reduceLeDiff, Nat.reduceAdd, false_and, and_false, if_false, if_true, ite_true, ite_false, true_or, or_true, false_or, or_false, and_self, forall_const, true_implies, reduceCtorEq, clr_int, clr_ref, clr_null, clr_none, clr_long, va_rf_some, va_rf_none, rk1, at1]
        refine ⟨fun q => absurd q (by decide), fun _ => sp_R_nameAt hq.1 hbe ?_⟩
        simp only [↓s_164_138, ↓s_164_139, ↓s_164_140, ↓s_164_141, ↓s_164_142, ↓s_164_145, kd_uF, ln_uF, ai_uF, al_uF, ar_uF, zs_uF, fd_uF, kd_uA, ln_uA, fd_uA, al_uA, ar_uA, zs_uA, ai_uA, kd_uL, ln_uL, fd_uL, ai_uL, ar_uL, zs_uL, al_uL, kd_uR, ln_uR, fd_uR, ai_uR, al_uR, zs_uR, ar_uR, true_and, and_true, Option.toList_some, Option.toList_none, List.cons_append, List.nil_append, catS_nil, catS_int, catS_ref, catS_null, catS_long, cat_int, cat_ref, cat_null, Nat.reduceEqDiff, Nat.reduceLeDiff, Nat.reduceAdd, false_and, and_false, if_false, if_true, ite_true, ite_false, true_or, or_true, false_or, or_false, and_self, forall_const, true_implies, reduceCtorEq, clr_int, clr_ref, clr_null, clr_none, clr_long, va_rf_some, va_rf_none, rk1, at1]
        refine sp_R_wordEnd hq.1 (by omega) ?_
        simp only [↓s_164_148, ↓s_164_149, ↓s_164_150, ↓s_164_153, ↓s_164_154, kd_uF, ln_uF, ai_uF, al_uF, ar_uF, zs_uF, fd_uF, kd_uA, ln_uA, fd_uA, al_uA, ar_uA, zs_uA, ai_uA, kd_uL, ln_uL, fd_uL, ai_uL, ar_uL, zs_uL, al_uL, kd_uR, ln_uR, fd_uR, ai_uR, al_uR, zs_uR, ar_uR, true_and, and_true, Option.toList_some, Option.toList_none, List.cons_append, List.nil_append, catS_nil, catS_int, catS_ref, catS_null, catS_long, cat_int, cat_ref, cat_null, Nat.reduceEqDiff, Nat.reduceLeDiff, Nat.reduceAdd, false_and, and_false, if_false, if_true, ite_true, ite_false, true_or, or_true, false_or, or_false, and_self, forall_const, true_implies, reduceCtorEq, clr_int, clr_ref, clr_null, clr_none, clr_long, va_rf_some, va_rf_none, rk1]
        rw [nI_1]
        have g2 := hq.1.at_ (q := wE T e b + 1) (by omega)
        have f2 : FrA w1 (uF w1 555 m (.int (nI (wE T e b + 1)))) m := FrA.rf.F (Or.inl rfl)
        refine sp_R_blanks g2 (fun w2 c1 c2 _ => ?_)
        have hq2 := hq.A (f2.tr c2) c1
        have rk2 := c1.1.1
        simp only [↓s_164_157, ↓s_164_158, kd_uF, ln_uF, ai_uF, al_uF, ar_uF, zs_uF, fd_uF, kd_uA, ln_uA, fd_uA, al_uA, ar_uA, zs_uA, ai_uA, kd_uL, ln_uL, fd_uL, ai_uL, ar_uL, zs_uL, al_uL, kd_uR, ln_uR, fd_uR, ai_uR, al_uR, zs_uR, ar_uR, true_and, and_true, Option.toList_some, Option.toList_none, List.cons_append, List.nil_append, catS_nil, catS_int, catS_ref, catS_null, catS_long, cat_int, cat_ref, cat_null, Nat.reduceEqDiff, Nat.reduceLeDiff, Nat.reduceAdd, false_and, and_false, if_false, if_true, ite_true, ite_false, true_or, or_true, false_or, or_false, and_self, forall_const, true_implies, reduceCtorEq, clr_int, clr_ref, clr_null, clr_none, clr_long, va_rf_some, va_rf_none, rk2]
        refine sp_R_expr hq2 hN1 hd (fun r w3 b1 b2 b3 b4 => ?_) (fun b1 => by rw [b1] at hr'; cases hr')
        obtain ⟨a, ha, va, hva, oa⟩ := b4
        have rk3 := b2.1.1.1
        have f3 := f1.tr (((f2.tr c2).tr b3).C)
        rw [← hv] at hva oa
        simp only [↓s_164_161, ↓s_164_163, ↓s_164_164, ↓s_164_167, ↓s_164_170, ↓s_164_171, ↓s_164_172, ↓s_164_173, ↓s_164_176, ↓s_164_182, ↓s_164_183, kd_uF, ln_uF, ai_uF, al_uF, ar_uF, zs_uF, fd_uF, kd_uA, ln_uA, fd_uA, al_uA, ar_uA, zs_uA, ai_uA, kd_uL, ln_uL, fd_uL, ai_uL, ar_uL, zs_uL, al_uL, kd_uR, ln_uR, fd_uR, ai_uR, al_uR, zs_uR, ar_uR, true_and, and_true, Option.toList_some, Option.toList_none, List.cons_append, List.nil_append, catS_nil, catS_int, catS_ref, catS_null, catS_long, cat_int, cat_ref, cat_null, Nat.reduceEqDiff, Nat.reduceLeDiff, Nat.reduceAdd, false_and, and_false, if_false, if_true, ite_true, ite_false, true_or, or_true, false_or, or_false, and_self, forall_const, true_implies, reduceCtorEq, clr_int, clr_ref, clr_null, clr_none, clr_long, va_rf_some, va_rf_none, rk3, va, hva]
        cases hvv : vAt T e X.2 dot b with
        | none =>
          rw [s1_2n hr0 hx0 (by rw [← hb]; exact hk) (by rw [← hb, ← hX]; exact hvv)] at h
          simp only [Option.isSome_none, Bool.false_eq_true, if_false]
          exact ⟨fun _ => h w3 f3 (fun q => absurd (show (2 : Nat) = 0 from q) (by decide)), fun q => absurd trivial q⟩
        | some v =>
          rw [s1_2s hr0 hx0 (by rw [← hb]; exact hk) (by rw [← hb, ← hX]; exact hvv), ← hb, ← hX] at h
          have ea := oa v hvv
          subst ea
          simp only [Option.isSome_some, if_true]
          refine ⟨fun q => absurd q (by decide), fun _ => sp_R_tell b2.1.1 b2.2.1 hN1 nmE_ok (nmE_6 (isN_iff.mp hn.1).2) (fun w4 d1 d2 d3 => ?_)⟩
          simp only [↓s_164_179, ↓s_164_183, kd_uF, ln_uF, ai_uF, al_uF, ar_uF, zs_uF, fd_uF, kd_uA, ln_uA, fd_uA, al_uA, ar_uA, zs_uA, ai_uA, kd_uL, ln_uL, fd_uL, ai_uL, ar_uL, zs_uL, al_uL, kd_uR, ln_uR, fd_uR, ai_uR, al_uR, zs_uR, ar_uR, true_and, and_true, Option.toList_some, Option.toList_none, List.cons_append, List.nil_append, catS_nil, catS_int, catS_ref, catS_null, catS_long, cat_int, cat_ref, cat_null, Nat.reduceEqDiff, Nat.reduceLeDiff, Nat.reduceAdd, false_and, and_false, if_false, if_true, ite_true, ite_false, true_or, or_true, false_or, or_false, and_self, forall_const, true_implies, reduceCtorEq, clr_int, clr_ref, clr_null, clr_none, clr_long, va_rf_some, va_rf_none]
          exact h w4 (f3.tr d2) (fun _ => ⟨d1, (d3 _ (by decide)).trans b2.2.2⟩)
      · have y' : ¬ isTe T e b = true := by rw [y]; decide
        have hk : knd T e b = 3 ∨ knd T e b = 4 := by unfold knd; rw [if_neg (by omega), if_neg z, if_neg y']; split <;> simp
        have h' : ∀ w', FrC w w' m → RB w' m X.2 → fd w' 554 m = .int (nI ((dot + 1) % 4096)) → Q (some (.int (nI 0))) w' := by
          intro w' a1 a2 a3
          rw [s1_34 hr0 hx0 (by rw [← hb]; exact hk), ← hX] at h
          exact h w' a1 (fun _ => ⟨a2, a3⟩)
        simp only [↓s_164_127, ↓s_164_130, ↓s_164_131, ↓s_164_132, ↓s_164_135, ↓s_164_184, ↓s_164_185, ↓s_164_186, ↓s_164_189, ↓s_164_190, ↓s_164_191, ↓s_164_194, ↓s_164_195, ↓s_164_198, ↓s_164_199, kd_uF, ln_uF, ai_uF, al_uF, ar_uF, zs_uF, fd_uF, kd_uA, ln_uA, fd_uA, al_uA, ar_uA, zs_uA, ai_uA, kd_uL, ln_uL, fd_uL, ai_uL, ar_uL, zs_uL, al_uL, kd_uR, ln_uR, fd_uR, ai_uR, al_uR, zs_uR, ar_uR, true_and, and_true, Option.toList_some, Option.toList_none, List.cons_append, List.nil_append, catS_nil, catS_int, catS_ref, catS_null, catS_long, cat_int, cat_ref, cat_null, Nat.reduceEqDiff, Nat.reduceLeDiff, Nat.reduceAdd, false_and, and_false, if_false, if_true, ite_true, ite_false, true_or, or_true, false_or, or_false, and_self, forall_const, true_implies, reduceCtorEq, clr_int, clr_ref, clr_null, clr_none, clr_long, va_rf_some, va_rf_none, rk1, dt1]
        rw [nI_1, m12 (by omega)]
        exact ⟨h' _ (f1.F (by omega)) hq.2.1 (by rw [fd_uF, if_pos ⟨rfl, rfl⟩]), fun q => absurd trivial q⟩
      · have hk : knd T e b = 1 := by unfold knd; rw [if_neg (by omega), if_pos z]
        have hr' : eOK T e (eS T e (bE T e (b + 1))) = true := by unfold right at hr; rw [hk] at hr; exact hr
        have hv : vAt T e X.2 dot b = eV T e X.2 dot (bE T e (b + 1)) := by unfold vAt; rw [hk]; rfl
        have g2 := hq.1.at_ (q := b + 1) (by omega)
        have f2 : FrA w1 (uF w1 555 m (.int (nI (b + 1)))) m := FrA.rf.F (Or.inl rfl)
        refine sp_R_blanks g2 (fun w2 c1 c2 _ => ?_)
        have hq2 := hq.A (f2.tr c2) c1
        have rk2 := c1.1.1
        simp only [↓s_164_99, ↓s_164_100, kd_uF, ln_uF, ai_uF, al_uF, ar_uF, zs_uF, fd_uF, kd_uA, ln_uA, fd_uA, al_uA, ar_uA, zs_uA, ai_uA, kd_uL, ln_uL, fd_uL, ai_uL, ar_uL, zs_uL, al_uL, kd_uR, ln_uR, fd_uR, ai_uR, al_uR, zs_uR, ar_uR, true_and, and_true, Option.toList_some, Option.toList_none, List.cons_append, List.nil_append, catS_nil, catS_int, catS_ref, catS_null, catS_long, cat_int, cat_ref, cat_null, Nat.reduceEqDiff, Nat.reduceLeDiff, Nat.reduceAdd, false_and, and_false, if_false, if_true, ite_true, ite_false, true_or, or_true, false_or, or_false, and_self, forall_const, true_implies, reduceCtorEq, clr_int, clr_ref, clr_null, clr_none, clr_long, va_rf_some, va_rf_none, rk2]
        refine sp_R_expr hq2 hN1 hd (fun r w3 b1 b2 b3 b4 => ?_) (fun b1 => by rw [b1] at hr'; cases hr')
        obtain ⟨a, ha, va, hva, oa⟩ := b4
        have rk3 := b2.1.1.1
        have f3 := f1.tr (((f2.tr c2).tr b3).C)
        rw [← hv] at hva oa
        simp only [↓s_164_103, ↓s_164_104, ↓s_164_105, ↓s_164_108, ↓s_164_111, ↓s_164_112, ↓s_164_113, ↓s_164_114, ↓s_164_115, ↓s_164_118, ↓s_164_121, ↓s_164_122, kd_uF, ln_uF, ai_uF, al_uF, ar_uF, zs_uF, fd_uF, kd_uA, ln_uA, fd_uA, al_uA, ar_uA, zs_uA, ai_uA, kd_uL, ln_uL, fd_uL, ai_uL, ar_uL, zs_uL, al_uL, kd_uR, ln_uR, fd_uR, ai_uR, al_uR, zs_uR, ar_uR, true_and, and_true, Option.toList_some, Option.toList_none, List.cons_append, List.nil_append, catS_nil, catS_int, catS_ref, catS_null, catS_long, cat_int, cat_ref, cat_null, Nat.reduceEqDiff, Nat.reduceLeDiff, Nat.reduceAdd, false_and, and_false, if_false, if_true, ite_true, ite_false, true_or, or_true, false_or, or_false, and_self, forall_const, true_implies, reduceCtorEq, clr_int, clr_ref, clr_null, clr_none, clr_long, va_rf_some, va_rf_none, rk3, va, hva]
        cases hvv : vAt T e X.2 dot b with
        | none =>
          rw [s1_1n hr0 hx0 (by rw [← hb]; exact hk) (by rw [← hb, ← hX]; exact hvv)] at h
          simp only [Option.isSome_none, Bool.false_eq_true, if_false]
          exact ⟨fun q => absurd trivial q, fun _ => h w3 f3 (fun q => absurd (show (2 : Nat) = 0 from q) (by decide))⟩
        | some v =>
          rw [s1_1s hr0 hx0 (by rw [← hb]; exact hk) (by rw [← hb, ← hX]; exact hvv), ← hX] at h
          have ea := oa v hvv
          subst ea
          simp only [Option.isSome_some, if_true]
          exact ⟨fun _ => h _ (f3.F (by omega)) (fun _ => ⟨b2.2.1, by rw [fd_uF, if_pos ⟨rfl, rfl⟩]⟩), fun q => absurd q (by decide)⟩
    · have hk : knd T e b = 0 := by unfold knd; rw [if_pos (by omega)]
      rw [s1_0 hr0 hx0 (by rw [← hb]; exact hk), ← hX] at h
      simp only [↓s_164_70, ↓s_164_71, kd_uF, ln_uF, ai_uF, al_uF, ar_uF, zs_uF, fd_uF, kd_uA, ln_uA, fd_uA, al_uA, ar_uA, zs_uA, ai_uA, kd_uL, ln_uL, fd_uL, ai_uL, ar_uL, zs_uL, al_uL, kd_uR, ln_uR, fd_uR, ai_uR, al_uR, zs_uR, ar_uR, true_and, and_true, Option.toList_some, Option.toList_none, List.cons_append, List.nil_append, catS_nil, catS_int, catS_ref, catS_null, catS_long, cat_int, cat_ref, cat_null, Nat.reduceEqDiff, Nat.reduceLeDiff, Nat.reduceAdd, false_and, and_false, if_false, if_true, ite_true, ite_false, true_or, or_true, false_or, or_false, and_self, forall_const, true_implies, reduceCtorEq, clr_int, clr_ref, clr_null, clr_none, clr_long, va_rf_some, va_rf_none]
      exact h w1 f1 (fun _ => ⟨hq.2.1, dt1⟩)
  have lp : ∀ (k q : Nat) (tt : nt) (w1 : aw) (A B C : Option Value), e ≤ q + k → TN tt → RQ w1 m T e tt dot q → FrC w w1 m → lbE T e k q = b → (tls dot tt (lbs T e k q)).1 = X.1 → (X.1 = 0 → (tls dot tt (lbs T e k q)).2 = X.2) → wp (d + 6) 164 Q 6 [some (.ref m), some (.int (nI 0)), A, B, C] [] w1 0 0 := by
    intro k
    induction k with
    | zero =>
      intro q tt w1 A B C hk hN1 hq f1 e1 e2 e3
      have rk1 := hq.1.1.1
      rw [s_164_6]
      simp only [↓s_164_7, ↓s_164_10, ↓s_164_11, kd_uF, ln_uF, ai_uF, al_uF, ar_uF, zs_uF, fd_uF, kd_uA, ln_uA, fd_uA, al_uA, ar_uA, zs_uA, ai_uA, kd_uL, ln_uL, fd_uL, ai_uL, ar_uL, zs_uL, al_uL, kd_uR, ln_uR, fd_uR, ai_uR, al_uR, zs_uR, ar_uR, true_and, and_true, Option.toList_some, Option.toList_none, List.cons_append, List.nil_append, catS_nil, catS_int, catS_ref, catS_null, catS_long, cat_int, cat_ref, cat_null, Nat.reduceEqDiff, Nat.reduceLeDiff, Nat.reduceAdd, false_and, and_false, if_false, if_true, ite_true, ite_false, true_or, or_true, false_or, or_false, and_self, forall_const, true_implies, reduceCtorEq, clr_int, clr_ref, clr_null, clr_none, clr_long, va_rf_some, va_rf_none, rk1]
      refine ⟨fun q => absurd rfl q, fun _ => sp_R_isLabel hq.1 (fun z => absurd (isLb_pos z) (by have := hq.1.2.2.2.2.2.2; omega)) (fun z => ?_)⟩
      simp only [↓s_164_14, kd_uF, ln_uF, ai_uF, al_uF, ar_uF, zs_uF, fd_uF, kd_uA, ln_uA, fd_uA, al_uA, ar_uA, zs_uA, ai_uA, kd_uL, ln_uL, fd_uL, ai_uL, ar_uL, zs_uL, al_uL, kd_uR, ln_uR, fd_uR, ai_uR, al_uR, zs_uR, ar_uR, true_and, and_true, Option.toList_some, Option.toList_none, List.cons_append, List.nil_append, catS_nil, catS_int, catS_ref, catS_null, catS_long, cat_int, cat_ref, cat_null, Nat.reduceEqDiff, Nat.reduceLeDiff, Nat.reduceAdd, false_and, and_false, if_false, if_true, ite_true, ite_false, true_or, or_true, false_or, or_false, and_self, forall_const, true_implies, reduceCtorEq, clr_int, clr_ref, clr_null, clr_none, clr_long, va_rf_some, va_rf_none]
      have e1' : q = b := e1
      have e2' : 0 = X.1 := e2
      have e3' : tt = X.2 := e3 e2'.symm
      exact ⟨body w1 A B C e2'.symm (by rw [← e3']; exact hN1) (by rw [← e1', ← e3']; exact hq) f1, fun q => absurd trivial q⟩
    | succ k ih =>
      intro q tt w1 A B C hk hN1 hq f1 e1 e2 e3
      have rk1 := hq.1.1.1
      have at1 := hq.1.2.2.2.1
      have hqe := hq.1.2.2.2.2.2.2
      have dt1 := hq.2.2
      have e1' : (if isLb T e q = true then lbE T e k (bE T e (wE T e q + 1)) else q) = b := e1
      have el : lbs T e (k + 1) q = if isLb T e q = true then nmE T e q :: lbs T e k (bE T e (wE T e q + 1)) else [] := rfl
      rw [el] at e2 e3
      rw [s_164_6]
      simp only [↓s_164_7, ↓s_164_10, ↓s_164_11, kd_uF, ln_uF, ai_uF, al_uF, ar_uF, zs_uF, fd_uF, kd_uA, ln_uA, fd_uA, al_uA, ar_uA, zs_uA, ai_uA, kd_uL, ln_uL, fd_uL, ai_uL, ar_uL, zs_uL, al_uL, kd_uR, ln_uR, fd_uR, ai_uR, al_uR, zs_uR, ar_uR, true_and, and_true, Option.toList_some, Option.toList_none, List.cons_append, List.nil_append, catS_nil, catS_int, catS_ref, catS_null, catS_long, cat_int, cat_ref, cat_null, Nat.reduceEqDiff, Nat.reduceLeDiff, Nat.reduceAdd, false_and, and_false, if_false, if_true, ite_true, ite_false, true_or, or_true, false_or, or_false, and_self, forall_const, true_implies, reduceCtorEq, clr_int, clr_ref, clr_null, clr_none, clr_long, va_rf_some, va_rf_none, rk1]
      refine ⟨fun q => absurd rfl q, fun _ => sp_R_isLabel hq.1 (fun z => ?_) (fun z => ?_)⟩
      · rw [if_pos z] at e1' e2 e3
        have et : tls dot tt (nmE T e q :: lbs T e k (bE T e (wE T e q + 1))) = if (tl1 tt (nmE T e q) dot).1 = 0 then tls dot (tl1 tt (nmE T e q) dot).2 (lbs T e k (bE T e (wE T e q + 1))) else ((tl1 tt (nmE T e q) dot).1, tt) := rfl
        rw [et] at e2 e3
        have hz := isLb_pos z
        have h6 := nmE_6 (isN_iff.mp (isLb_iff.mp z).1).2
        simp only [↓s_164_14, ↓s_164_17, ↓s_164_18, ↓s_164_19, ↓s_164_20, ↓s_164_23, ↓s_164_55, ↓s_164_56, ↓s_164_59, ↓s_164_60, ↓s_164_63, ↓s_164_64, ↓s_164_67, ↓s_164_72, ↓s_164_73, ↓s_164_74, ↓s_164_77, kd_uF, ln_uF, ai_uF, al_uF, ar_uF, zs_uF, fd_uF, kd_uA, ln_uA, fd_uA, al_uA, ar_uA, zs_uA, ai_uA, kd_uL, ln_uL, fd_uL, ai_uL, ar_uL, zs_uL, al_uL, kd_uR, ln_uR, fd_uR, ai_uR, al_uR, zs_uR, ar_uR, true_and, and_true, Option.toList_some, Option.toList_none, List.cons_append, List.nil_append, catS_nil, catS_int, catS_ref, catS_null, catS_long, cat_int, cat_ref, cat_null, Nat.reduceEqDiff, Nat.reduceLeDiff, Nat.reduceAdd, false_and, and_false, if_false, if_true, ite_true, ite_false, true_or, or_true, false_or, or_false, and_self, forall_const, true_implies, reduceCtorEq, clr_int, clr_ref, clr_null, clr_none, clr_long, va_rf_some, va_rf_none, rk1, at1]
        refine ⟨fun q => absurd q (by decide), fun _ => sp_R_nameAt hq.1 hqe ?_⟩
        simp only [↓s_164_26, ↓s_164_27, ↓s_164_30, kd_uF, ln_uF, ai_uF, al_uF, ar_uF, zs_uF, fd_uF, kd_uA, ln_uA, fd_uA, al_uA, ar_uA, zs_uA, ai_uA, kd_uL, ln_uL, fd_uL, ai_uL, ar_uL, zs_uL, al_uL, kd_uR, ln_uR, fd_uR, ai_uR, al_uR, zs_uR, ar_uR, true_and, and_true, Option.toList_some, Option.toList_none, List.cons_append, List.nil_append, catS_nil, catS_int, catS_ref, catS_null, catS_long, cat_int, cat_ref, cat_null, Nat.reduceEqDiff, Nat.reduceLeDiff, Nat.reduceAdd, false_and, and_false, if_false, if_true, ite_true, ite_false, true_or, or_true, false_or, or_false, and_self, forall_const, true_implies, reduceCtorEq, clr_int, clr_ref, clr_null, clr_none, clr_long, va_rf_some, va_rf_none, rk1, dt1]
        refine sp_R_tell hq.1.1 hq.2.1 hN1 nmE_ok h6 (fun w2 c1 c2 c3 => ?_)
        have hP2 := c2.P hq.1 (q := q) ((c3 _ (by decide)).trans at1) hqe
        have rk2 := hP2.1.1
        have at2 := hP2.2.2.2.1
        simp only [↓s_164_33, ↓s_164_34, ↓s_164_35, ↓s_164_36, ↓s_164_37, ↓s_164_40, kd_uF, ln_uF, ai_uF, al_uF, ar_uF, zs_uF, fd_uF, kd_uA, ln_uA, fd_uA, al_uA, ar_uA, zs_uA, ai_uA, kd_uL, ln_uL, fd_uL, ai_uL, ar_uL, zs_uL, al_uL, kd_uR, ln_uR, fd_uR, ai_uR, al_uR, zs_uR, ar_uR, true_and, and_true, Option.toList_some, Option.toList_none, List.cons_append, List.nil_append, catS_nil, catS_int, catS_ref, catS_null, catS_long, cat_int, cat_ref, cat_null, Nat.reduceEqDiff, Nat.reduceLeDiff, Nat.reduceAdd, false_and, and_false, if_false, if_true, ite_true, ite_false, true_or, or_true, false_or, or_false, and_self, forall_const, true_implies, reduceCtorEq, clr_int, clr_ref, clr_null, clr_none, clr_long, va_rf_some, va_rf_none, rk2, at2]
        refine sp_R_wordEnd hP2 (by omega) ?_
        simp only [↓s_164_43, ↓s_164_44, ↓s_164_45, ↓s_164_48, ↓s_164_49, kd_uF, ln_uF, ai_uF, al_uF, ar_uF, zs_uF, fd_uF, kd_uA, ln_uA, fd_uA, al_uA, ar_uA, zs_uA, ai_uA, kd_uL, ln_uL, fd_uL, ai_uL, ar_uL, zs_uL, al_uL, kd_uR, ln_uR, fd_uR, ai_uR, al_uR, zs_uR, ar_uR, true_and, and_true, Option.toList_some, Option.toList_none, List.cons_append, List.nil_append, catS_nil, catS_int, catS_ref, catS_null, catS_long, cat_int, cat_ref, cat_null, Nat.reduceEqDiff, Nat.reduceLeDiff, Nat.reduceAdd, false_and, and_false, if_false, if_true, ite_true, ite_false, true_or, or_true, false_or, or_false, and_self, forall_const, true_implies, reduceCtorEq, clr_int, clr_ref, clr_null, clr_none, clr_long, va_rf_some, va_rf_none, rk2]
        rw [nI_1]
        have g3 := hP2.at_ (q := wE T e q + 1) (by omega)
        have f3 : FrA w2 (uF w2 555 m (.int (nI (wE T e q + 1)))) m := FrA.rf.F (Or.inl rfl)
        refine sp_R_blanks g3 (fun w3 d1 d2 _ => ?_)
        simp only [↓s_164_52, kd_uF, ln_uF, ai_uF, al_uF, ar_uF, zs_uF, fd_uF, kd_uA, ln_uA, fd_uA, al_uA, ar_uA, zs_uA, ai_uA, kd_uL, ln_uL, fd_uL, ai_uL, ar_uL, zs_uL, al_uL, kd_uR, ln_uR, fd_uR, ai_uR, al_uR, zs_uR, ar_uR, true_and, and_true, Option.toList_some, Option.toList_none, List.cons_append, List.nil_append, catS_nil, catS_int, catS_ref, catS_null, catS_long, cat_int, cat_ref, cat_null, Nat.reduceEqDiff, Nat.reduceLeDiff, Nat.reduceAdd, false_and, and_false, if_false, if_true, ite_true, ite_false, true_or, or_true, false_or, or_false, and_self, forall_const, true_implies, reduceCtorEq, clr_int, clr_ref, clr_null, clr_none, clr_long, va_rf_some, va_rf_none]
        have f4 := (f1.tr c2).tr ((f3.tr d2).C)
        have hge := bE_ge (T := T) (e := e) (p := wE T e q + 1)
        by_cases c0 : (tl1 tt (nmE T e q) dot).1 = 0
        · rw [if_pos c0] at e2 e3
          rw [c0]
          have hq3 : RQ w3 m T e (tl1 tt (nmE T e q) dot).2 dot (bE T e (wE T e q + 1)) := ⟨d1, c1.A (f3.tr d2), ((f3.tr d2).2.1 _ (by decide) (by decide) (by decide)).trans ((c3 _ (by decide)).trans dt1)⟩
          exact ih _ _ w3 _ _ _ (by omega) (hN1.tell nmE_ok h6 hd) hq3 f4 e1' e2 e3
        · rw [if_neg c0] at e2
          exact bad w3 _ _ _ _ e2.symm c0 tl1_le f4
      · rw [if_neg (by rw [z]; decide)] at e1' e2 e3
        simp only [↓s_164_14, kd_uF, ln_uF, ai_uF, al_uF, ar_uF, zs_uF, fd_uF, kd_uA, ln_uA, fd_uA, al_uA, ar_uA, zs_uA, ai_uA, kd_uL, ln_uL, fd_uL, ai_uL, ar_uL, zs_uL, al_uL, kd_uR, ln_uR, fd_uR, ai_uR, al_uR, zs_uR, ar_uR, true_and, and_true, Option.toList_some, Option.toList_none, List.cons_append, List.nil_append, catS_nil, catS_int, catS_ref, catS_null, catS_long, cat_int, cat_ref, cat_null, Nat.reduceEqDiff, Nat.reduceLeDiff, Nat.reduceAdd, false_and, and_false, if_false, if_true, ite_true, ite_false, true_or, or_true, false_or, or_false, and_self, forall_const, true_implies, reduceCtorEq, clr_int, clr_ref, clr_null, clr_none, clr_long, va_rf_some, va_rf_none]
        have e2' : 0 = X.1 := e2
        have e3' : tt = X.2 := e3 e2'.symm
        exact ⟨body w1 A B C e2'.symm (by rw [← e3']; exact hN1) (by rw [← e1', ← e3']; exact hq) f1, fun q => absurd trivial q⟩
  simp only [↓s_164_0, ↓s_164_1, kd_uF, ln_uF, ai_uF, al_uF, ar_uF, zs_uF, fd_uF, kd_uA, ln_uA, fd_uA, al_uA, ar_uA, zs_uA, ai_uA, kd_uL, ln_uL, fd_uL, ai_uL, ar_uL, zs_uL, al_uL, kd_uR, ln_uR, fd_uR, ai_uR, al_uR, zs_uR, ar_uR, true_and, and_true, Option.toList_some, Option.toList_none, List.cons_append, List.nil_append, catS_nil, catS_int, catS_ref, catS_null, catS_long, cat_int, cat_ref, cat_null, Nat.reduceEqDiff, Nat.reduceLeDiff, Nat.reduceAdd, false_and, and_false, if_false, if_true, ite_true, ite_false, true_or, or_true, false_or, or_false, and_self, forall_const, true_implies, reduceCtorEq, clr_int, clr_ref, clr_null, clr_none, clr_long, va_rf_some, va_rf_none, rk]
  refine sp_R_blanks hQ.1 (fun w1 c1 c2 _ => ?_)
  simp only [↓s_164_4, ↓s_164_5, kd_uF, ln_uF, ai_uF, al_uF, ar_uF, zs_uF, fd_uF, kd_uA, ln_uA, fd_uA, al_uA, ar_uA, zs_uA, ai_uA, kd_uL, ln_uL, fd_uL, ai_uL, ar_uL, zs_uL, al_uL, kd_uR, ln_uR, fd_uR, ai_uR, al_uR, zs_uR, ar_uR, true_and, and_true, Option.toList_some, Option.toList_none, List.cons_append, List.nil_append, catS_nil, catS_int, catS_ref, catS_null, catS_long, cat_int, cat_ref, cat_null, Nat.reduceEqDiff, Nat.reduceLeDiff, Nat.reduceAdd, false_and, and_false, if_false, if_true, ite_true, ite_false, true_or, or_true, false_or, or_false, and_self, forall_const, true_implies, reduceCtorEq, clr_int, clr_ref, clr_null, clr_none, clr_long, va_rf_some, va_rf_none]
  exact lp (e - bE T e p) (bE T e p) t w1 _ _ _ (by omega) hN (hQ.A c2 c1) c2.C hb.symm (by rw [hX]; rfl) (fun _ => by rw [hX]; rfl)
