/-- only the row differs -/
def RW (w w' : aw) (m : Nat) : Prop := (∀ q, kd w' q = kd w q) ∧ (∀ q, ln w' q = ln w q) ∧ zs w' = zs w ∧ (∀ g q, fd w' g q = fd w g q) ∧ (∀ q i, al w' q i = al w q i) ∧ (∀ q i, ar w' q i = ar w q i) ∧ ∀ q i, q ≠ m + 1 → ai w' q i = ai w q i
theorem RW.rf {w : aw} {m : Nat} : RW w w m := ⟨fun _ => rfl, fun _ => rfl, rfl, fun _ _ => rfl, fun _ _ => rfl, fun _ _ => rfl, fun _ _ _ => rfl⟩
theorem RW.A {w w' : aw} {m i : Nat} {x : Int32} (h : RW w w' m) : RW w (uA w' (m + 1) i x) m :=
  ⟨h.1, h.2.1, h.2.2.1, h.2.2.2.1, h.2.2.2.2.1, h.2.2.2.2.2.1, fun q j a => by rw [ai_uA, if_neg (by omega)]; exact h.2.2.2.2.2.2 q j a⟩
theorem RW.U {w w' : aw} {m v : Nat} {x : us} (h : RW w w' m) (hB : UB x) (hx : RU w m v x) : RU w' m v x := by
  have e := h.2.2.2.2.2.2
  exact hx.kept (fun k p => e _ _ (by omega)) (fun k a p q => e _ _ (by omega)) (fun a q => e _ _ (by omega)) (fun k a p q => e _ _ (by omega)) hB.2.2.2.2.2.2.2.2.2.2.2.1 hB.2.2.2.2.2.2.2.2.2.2.2.2.1
theorem RW.M {w w' : aw} {m : Nat} (h : RW w w' m) : FrM w w' m := by
  obtain ⟨a1, a2, a3, a4, a5, a6, a7⟩ := h
  exact ⟨⟨a1, a2, a3, fun q hq => ⟨fun g => a4 g q, fun i => a7 q i (by omega), fun i => a5 q i, fun i => a6 q i⟩⟩, fun k i p => a7 _ _ (by omega), a5, a4 _ _, a4 _ _, a4 _ _, a4 _ _, a4 _ _, a4 _ _, a4 _ _, a4 _ _, a4 _ _, a4 _ _, a4 _ _⟩
theorem RW.sh {w w' : aw} {m : Nat} (h : RW w w' m) (hs : RSh w m) : RSh w' m :=
  hs.kept h.1 h.2.1 (h.2.2.2.1 _ _) (h.2.2.2.1 _ _) (h.2.2.2.1 _ _) (h.2.2.2.1 _ _) (h.2.2.2.1 _ _) (h.2.2.2.1 _ _) (h.2.2.2.1 _ _) (h.2.2.2.1 _ _) (h.2.2.2.1 _ _) (h.2.2.2.1 _ _) (h.2.2.2.1 _ _) (h.2.2.2.1 _ _) (h.2.2.2.1 _ _) (h.2.2.2.1 _ _) (h.2.2.2.1 _ _) (h.2.2.2.1 _ _) (h.2.2.2.1 _ _) (h.2.2.2.1 _ _) (h.2.2.2.1 _ _) (h.2.2.2.1 _ _) (h.2.2.2.1 _ _) (h.2.2.2.1 _ _) (h.2.2.2.1 _ _) (h.2.2.2.1 _ _)
theorem rn_ge (k : Nat) (hk : k < 2147483648) : (0 ≤ rn k) ↔ k ≠ 0 := by
  unfold rn
  split
  · rename_i e; subst e; decide
  · rename_i e
    exact ⟨fun _ => e, fun _ => nI_pos' (by omega)⟩
theorem rn_lt (k : Nat) (hk : k < 2147483648) : (rn k < 0) ↔ k = 0 := by
  rw [← Int32.not_le, rn_ge k hk]; simp
theorem h_out_step {U : Nat → us} {k t : Nat} : va_up (h_out U k t) k (uS (U k) 7 (if (U k).1 7 = t then 0 else (U k).1 7)) = h_out U (k + 1) t := by
  funext j
  unfold va_up h_out
  by_cases e : j = k
  · subst e
    rw [if_pos rfl]
    by_cases c : (U j).1 7 = t
    · rw [if_pos c, if_pos ⟨by omega, c⟩]
    · rw [if_neg c, if_neg (fun q => c q.2), uS_self]
  · rw [if_neg e]
    by_cases c : j < k ∧ (U j).1 7 = t
    · rw [if_pos c, if_pos ⟨by omega, c.2⟩]
    · rw [if_neg c, if_neg (fun q => c ⟨by omega, q.2⟩)]
theorem h_out_0 {U : Nat → us} {t : Nat} : h_out U 0 t = U := by
  funext j; unfold h_out; rw [if_neg (by omega)]
theorem UB_out {U : Nat → us} {k t : Nat} (h : ∀ v, UB (U v)) : ∀ v, UB (h_out U k t v) := by
  intro v; unfold h_out; split
  · exact (h v).S7 (by decide)
  · exact h v
/-- the dispatch behind the row's move -/
def h_go (K : hs) (u : Nat) : hs := if 0 < (K.2.2 u).1 7 then hU (hSet (hSet K 6 (u + 1)) 7 (K.1 2)) u (uS (K.2.2 u) 3 2) else h_swap (hU (hSet (hSet K 6 (u + 1)) 7 (K.1 2)) u (uS (K.2.2 u) 3 2)) u
theorem rn_succ (u : Nat) : rn (u + 1) = nI u := by unfold rn; rw [if_neg (by omega)]; rfl
theorem RAt.UU {w : aw} {m : Nat} {H : hs} (h : RAt w m H) {U : Nat → us} (e : U = H.2.2) : RAt w m (H.1, H.2.1, U) := by rw [e]; exact h
theorem sp_R_swap {d : Nat} {w : aw} {m u : Nat} {K : hs} {Q : wQ} (hA : RAt w m K) (hB : ∀ v, UB (K.2.2 v)) (hu : u < 8) (h0 : K.1 0 ≤ 8) (h1 : K.1 1 < 8) (h8 : K.1 8 < 4096) (h9 : K.1 9 < 8) (h : ∀ w', RAt w' m (h_swap K u) → FrM w w' m → Q none w') : wp d 121 Q 94 [some (.ref m), some (.int (nI u)), some (.int 0)] [] w 0 0 := by
  have cu : (nI u).toNatClampNeg = u := clN (by omega)
  have lp : ∀ (k i : Nat), i + k = K.1 0 → ∀ w', RAt w' m (K.1, K.2.1, h_out K.2.2 i (K.1 9)) → FrM w w' m → wp d 121 Q 94 [some (.ref m), some (.int (nI u)), some (.int (nI i))] [] w' 0 0 := by
    intro k
    induction k with
    | zero =>
      intro i hi w' hA' hF
      have hi : i = K.1 0 := by omega
      subst hi
      have hA1 := hA'
      have hB1 : ∀ v, UB (h_out K.2.2 (K.1 0) (K.1 9) v) := UB_out hB
      obtain ⟨sh, q0, q1, q2, q3, q4, q5, q6, q7, q8, q9, q10, qm, qr, qu⟩ := hA'
      obtain ⟨rk, r1, r2, r3, r4, r5, r6, r7, r8, r9, r10, r11, r12, r13, r14, r15, r16, r17, r18, r19, r20, r21, r22, r23, r24, k1, k2, k3, k4, k5, k6, k7, k8, k9, k10, k11, k12, k13, k14, k15, k16, k17, k18, k19, k20, k21, k22, k23, k24, n1, n2, n3, n4, n5, n6, n7, n8, n9, n10, n11, n12, n13, n14, n15, n16, n17, n18, n19, n20, n21, n22, n23, n24⟩ := sh
      have hin : inR (nI u) 8 := inR_nI hu (by decide)
      rw [s_121_94]
      simp only [↓s_121_95, ↓s_121_96, ↓s_121_99, ↓s_121_102, ↓s_121_103, ↓s_121_106, ↓s_121_107, ↓s_121_108, ↓s_121_111, ↓s_121_112, ↓s_121_113, ↓s_121_114, ↓s_121_117, ↓s_121_120, ↓s_121_121, ↓s_121_124, ↓s_121_125, ↓s_121_128, ↓s_121_129, ↓s_121_137, ↓s_121_138, ↓s_121_141, ↓s_121_142, ↓s_121_143, ↓s_121_146, ↓s_121_147, ↓s_121_148, ↓s_121_149, ↓s_121_152, ↓s_121_153, ↓s_121_154, ↓s_121_157, ↓s_121_158, ↓s_121_161, ↓s_121_162, ↓s_121_163, ↓s_121_166, ↓s_121_167, ↓s_121_170, ↓s_121_173, ↓s_121_174, ↓s_121_177, ↓s_121_178, ↓s_121_181, ↓s_121_182, kd_uF, ln_uF, ai_uF, al_uF, ar_uF, zs_uF, fd_uF, kd_uA, ln_uA, fd_uA, al_uA, ar_uA, zs_uA, ai_uA, kd_uL, ln_uL, fd_uL, ai_uL, ar_uL, zs_uL, al_uL, kd_uR, ln_uR, fd_uR, ai_uR, al_uR, zs_uR, ar_uR, true_and, and_true, Option.toList_some, Option.toList_none, List.cons_append, List.nil_append, catS_nil, catS_int, catS_ref, catS_null, catS_long, cat_int, cat_ref, cat_null, Nat.reduceEqDiff, Nat.reduceLeDiff, Nat.reduceAdd, false_and, and_false, if_false, if_true, ite_true, ite_false, true_or, or_true, false_or, or_false, and_self, forall_const, true_implies, reduceCtorEq, clr_int, clr_ref, clr_null, clr_none, clr_long, va_rf_some, va_rf_none, rk, r2, k2, n2, q0, q1, q8, q9, cu]
      refine ⟨fun _ => ?_, fun q => absurd (nI_le (Nat.le_refl _) (by omega)) q⟩
      have j183 : ∀ w1 K1 v, RAt w1 m K1 → FrM w w1 m → hSet K1 9 v = h_swap K u → wp d 121 Q 183 [some (.ref m), some (.int (nI u)), some (.int (nI (K.1 0)))] [.int (nI v), .ref m] w1 0 0 := by
        intro w1 K1 v g1 g2 g3
        have g4 := g1.S9 (v := v)
        rw [g3] at g4
        have rk := g1.1.1
        simp only [↓s_121_183, ↓s_121_186, kd_uF, ln_uF, ai_uF, al_uF, ar_uF, zs_uF, fd_uF, kd_uA, ln_uA, fd_uA, al_uA, ar_uA, zs_uA, ai_uA, kd_uL, ln_uL, fd_uL, ai_uL, ar_uL, zs_uL, al_uL, kd_uR, ln_uR, fd_uR, ai_uR, al_uR, zs_uR, ar_uR, true_and, and_true, Option.toList_some, Option.toList_none, List.cons_append, List.nil_append, catS_nil, catS_int, catS_ref, catS_null, catS_long, cat_int, cat_ref, cat_null, Nat.reduceEqDiff, Nat.reduceLeDiff, Nat.reduceAdd, false_and, and_false, if_false, if_true, ite_true, ite_false, true_or, or_true, false_or, or_false, and_self, forall_const, true_implies, reduceCtorEq, clr_int, clr_ref, clr_null, clr_none, clr_long, va_rf_some, va_rf_none, rk]
        exact h _ g4 g2.turn
      rw [nI_1, nI_1, m12 (by omega), nI_eq (by omega) (by omega)]
      have g1 := hA1.U hB1 (FrN.rf.one (by omega)) ((hA1.2.2.2.2.2.2.2.2.2.2.2.2.2.2 u hu).S7 (v := K.1 9))
      have g2 := g1.S8 (v := (K.1 8 + 1) % 4096)
      exact ⟨hin, fun q => j183 _ _ _ g2 ((hF.A (by decide)).swaps) (by unfold h_swap; rw [if_neg q]; rfl), fun q => j183 _ _ 1 g2 ((hF.A (by decide)).swaps) (by unfold h_swap; rw [if_pos q]; rfl)⟩
    | succ k ih =>
      intro i hi w' hA' hF
      have hA1 := hA'
      have hB1 : ∀ v, UB (h_out K.2.2 i (K.1 9) v) := UB_out hB
      have hi8 : i < 8 := by omega
      have hini : inR (nI i) 8 := inR_nI hi8 (by decide)
      have ci : (nI i).toNatClampNeg = i := clN (by omega)
      have hUi : RU w' m i (h_out K.2.2 i (K.1 9) i) := hA1.2.2.2.2.2.2.2.2.2.2.2.2.2.2 i hi8
      have eU : h_out K.2.2 i (K.1 9) i = K.2.2 i := by unfold h_out; rw [if_neg (by omega)]
      have h7 : (K.2.2 i).1 7 < 8 := (hB i).2.2.2.2.2.2.2.1
      have j130 : ∀ v, v = (if (K.2.2 i).1 7 = K.1 9 then 0 else (K.2.2 i).1 7) → wp d 121 Q 130 [some (.ref m), some (.int (nI u)), some (.int (nI i))] [.int (nI v), .int (nI i), .ref (m + 2)] w' 0 0 := by
        intro v hv
        obtain ⟨sh, q0, q1, q2, q3, q4, q5, q6, q7, q8, q9, q10, qm, qr, qu⟩ := hA'
        obtain ⟨rk, r1, r2, r3, r4, r5, r6, r7, r8, r9, r10, r11, r12, r13, r14, r15, r16, r17, r18, r19, r20, r21, r22, r23, r24, k1, k2, k3, k4, k5, k6, k7, k8, k9, k10, k11, k12, k13, k14, k15, k16, k17, k18, k19, k20, k21, k22, k23, k24, n1, n2, n3, n4, n5, n6, n7, n8, n9, n10, n11, n12, n13, n14, n15, n16, n17, n18, n19, n20, n21, n22, n23, n24⟩ := sh
        simp only [↓s_121_130, ↓s_121_131, ↓s_121_134, kd_uF, ln_uF, ai_uF, al_uF, ar_uF, zs_uF, fd_uF, kd_uA, ln_uA, fd_uA, al_uA, ar_uA, zs_uA, ai_uA, kd_uL, ln_uL, fd_uL, ai_uL, ar_uL, zs_uL, al_uL, kd_uR, ln_uR, fd_uR, ai_uR, al_uR, zs_uR, ar_uR, true_and, and_true, Option.toList_some, Option.toList_none, List.cons_append, List.nil_append, catS_nil, catS_int, catS_ref, catS_null, catS_long, cat_int, cat_ref, cat_null, Nat.reduceEqDiff, Nat.reduceLeDiff, Nat.reduceAdd, false_and, and_false, if_false, if_true, ite_true, ite_false, true_or, or_true, false_or, or_false, and_self, forall_const, true_implies, reduceCtorEq, clr_int, clr_ref, clr_null, clr_none, clr_long, va_rf_some, va_rf_none, rk, r2, k2, n2, ci, nI_1]
        have g1 := hA1.U hB1 (FrN.rf.one (by omega)) (hUi.S7 (v := v))
        refine ⟨hini, ih (i + 1) (by omega) _ ?_ (hF.A (by decide))⟩
        have e3 : (hU (K.1, K.2.1, h_out K.2.2 i (K.1 9)) i (uS (h_out K.2.2 i (K.1 9) i) 7 v)) = (K.1, K.2.1, h_out K.2.2 (i + 1) (K.1 9)) := by
          show (K.1, K.2.1, va_up (h_out K.2.2 i (K.1 9)) i (uS (h_out K.2.2 i (K.1 9) i) 7 v)) = _
          rw [eU, hv, h_out_step]
        rw [e3] at g1
        exact g1
      obtain ⟨sh, q0, q1, q2, q3, q4, q5, q6, q7, q8, q9, q10, qm, qr, qu⟩ := hA'
      obtain ⟨rk, r1, r2, r3, r4, r5, r6, r7, r8, r9, r10, r11, r12, r13, r14, r15, r16, r17, r18, r19, r20, r21, r22, r23, r24, k1, k2, k3, k4, k5, k6, k7, k8, k9, k10, k11, k12, k13, k14, k15, k16, k17, k18, k19, k20, k21, k22, k23, k24, n1, n2, n3, n4, n5, n6, n7, n8, n9, n10, n11, n12, n13, n14, n15, n16, n17, n18, n19, n20, n21, n22, n23, n24⟩ := sh
      have t7 : ai w' (m + 2) i = nI ((K.2.2 i).1 7) := by have := hUi.2.2.2.2.2.2.2.1; rw [eU] at this; exact this
      rw [s_121_94]
      simp only [↓s_121_95, ↓s_121_96, ↓s_121_99, ↓s_121_102, ↓s_121_103, ↓s_121_106, ↓s_121_107, ↓s_121_108, ↓s_121_111, ↓s_121_112, ↓s_121_113, ↓s_121_114, ↓s_121_117, ↓s_121_120, ↓s_121_121, ↓s_121_124, ↓s_121_125, ↓s_121_128, ↓s_121_129, ↓s_121_137, ↓s_121_138, ↓s_121_141, ↓s_121_142, ↓s_121_143, ↓s_121_146, ↓s_121_147, ↓s_121_148, ↓s_121_149, ↓s_121_152, ↓s_121_153, ↓s_121_154, ↓s_121_157, ↓s_121_158, ↓s_121_161, ↓s_121_162, ↓s_121_163, ↓s_121_166, ↓s_121_167, ↓s_121_170, ↓s_121_173, ↓s_121_174, ↓s_121_177, ↓s_121_178, ↓s_121_181, ↓s_121_182, kd_uF, ln_uF, ai_uF, al_uF, ar_uF, zs_uF, fd_uF, kd_uA, ln_uA, fd_uA, al_uA, ar_uA, zs_uA, ai_uA, kd_uL, ln_uL, fd_uL, ai_uL, ar_uL, zs_uL, al_uL, kd_uR, ln_uR, fd_uR, ai_uR, al_uR, zs_uR, ar_uR, true_and, and_true, Option.toList_some, Option.toList_none, List.cons_append, List.nil_append, catS_nil, catS_int, catS_ref, catS_null, catS_long, cat_int, cat_ref, cat_null, Nat.reduceEqDiff, Nat.reduceLeDiff, Nat.reduceAdd, false_and, and_false, if_false, if_true, ite_true, ite_false, true_or, or_true, false_or, or_false, and_self, forall_const, true_implies, reduceCtorEq, clr_int, clr_ref, clr_null, clr_none, clr_long, va_rf_some, va_rf_none, rk, r2, k2, n2, q0, q9, ci, t7]
      rw [nI_eq (by omega) (by omega)]
      exact ⟨fun q => absurd q (nI_ge (by omega) (by omega)), fun _ => ⟨hini, fun q => ⟨hini, j130 _ (by rw [if_neg q])⟩, fun q => j130 0 (by rw [if_pos q])⟩⟩
  exact lp (K.1 0) 0 (by omega) w (hA.UU h_out_0) FrM.rf
theorem sp_R_go {d : Nat} {w : aw} {m u : Nat} {K : hs} {x2 : Option Value} {Q : wQ} (hA : RAt w m K) (hB : ∀ v, UB (K.2.2 v)) (hu : u < 8) (h0 : K.1 0 ≤ 8) (h1 : K.1 1 < 8) (h8 : K.1 8 < 4096) (h9 : K.1 9 < 8) (h : ∀ w', RAt w' m (h_go K u) → FrM w w' m → Q none w') : wp d 121 Q 62 [some (.ref m), some (.int (nI u)), x2] [] w 0 0 := by
  have hin : inR (nI u) 8 := inR_nI hu (by decide)
  have cu : (nI u).toNatClampNeg = u := clN (by omega)
  have e0 : RAt (uF w 521 m (.int (nI u))) m (hSet K 6 (u + 1)) := by have := hA.S6 (v := u + 1); rw [rn_succ] at this; exact this
  have e1 : RAt (uA (uF w 521 m (.int (nI u))) (m + 8) u (nI 2)) m (hU (hSet K 6 (u + 1)) u (uS (K.2.2 u) 3 2)) := e0.U hB (FrN.rf.one (by omega)) (e0.2.2.2.2.2.2.2.2.2.2.2.2.2.2 u hu).S3
  have e2 : RAt (uF (uA (uF w 521 m (.int (nI u))) (m + 8) u (nI 2)) 522 m (.int (nI (K.1 2)))) m (hU (hSet (hSet K 6 (u + 1)) 7 (K.1 2)) u (uS (K.2.2 u) 3 2)) := e1.S7
  have hF2 : FrM w (uF (uA (uF w 521 m (.int (nI u))) (m + 8) u (nI 2)) 522 m (.int (nI (K.1 2)))) m := (FrM.rf.running.A (by decide)).left
  have hB2 : ∀ v, UB ((hU (hSet (hSet K 6 (u + 1)) 7 (K.1 2)) u (uS (K.2.2 u) 3 2)).2.2 v) := UB_hU hB ((hB u).S3 (by decide))
  have hb7 := hB u
  have h7 : (K.2.2 u).1 7 < 8 := hb7.2.2.2.2.2.2.2.1
  obtain ⟨sh, q0, q1, q2, q3, q4, q5, q6, q7, q8, q9, q10, qm, qr, qu⟩ := hA
  obtain ⟨rk, r1, r2, r3, r4, r5, r6, r7, r8, r9, r10, r11, r12, r13, r14, r15, r16, r17, r18, r19, r20, r21, r22, r23, r24, k1, k2, k3, k4, k5, k6, k7, k8, k9, k10, k11, k12, k13, k14, k15, k16, k17, k18, k19, k20, k21, k22, k23, k24, n1, n2, n3, n4, n5, n6, n7, n8, n9, n10, n11, n12, n13, n14, n15, n16, n17, n18, n19, n20, n21, n22, n23, n24⟩ := sh
  have t7 : ai w (m + 2) u = nI ((K.2.2 u).1 7) := (qu u hu).2.2.2.2.2.2.2.1
  simp only [↓s_121_62, ↓s_121_63, ↓s_121_64, ↓s_121_67, ↓s_121_68, ↓s_121_71, ↓s_121_72, ↓s_121_73, ↓s_121_74, ↓s_121_75, ↓s_121_76, ↓s_121_79, ↓s_121_82, ↓s_121_83, ↓s_121_86, ↓s_121_87, ↓s_121_88, ↓s_121_91, ↓s_121_92, ↓s_121_93, kd_uF, ln_uF, ai_uF, al_uF, ar_uF, zs_uF, fd_uF, kd_uA, ln_uA, fd_uA, al_uA, ar_uA, zs_uA, ai_uA, kd_uL, ln_uL, fd_uL, ai_uL, ar_uL, zs_uL, al_uL, kd_uR, ln_uR, fd_uR, ai_uR, al_uR, zs_uR, ar_uR, true_and, and_true, Option.toList_some, Option.toList_none, List.cons_append, List.nil_append, catS_nil, catS_int, catS_ref, catS_null, catS_long, cat_int, cat_ref, cat_null, Nat.reduceEqDiff, Nat.reduceLeDiff, Nat.reduceAdd, false_and, and_false, if_false, if_true, ite_true, ite_false, true_or, or_true, false_or, or_false, and_self, forall_const, true_implies, reduceCtorEq, clr_int, clr_ref, clr_null, clr_none, clr_long, va_rf_some, va_rf_none, rk, r8, k8, n8, r2, k2, n2, cu, q2, t7]
  rw [if_neg (show ¬ m = m + 6 by omega), show (0 : Int32) = nI 0 from rfl, nI_leI (by omega) (by decide)]
  refine ⟨hin, hin, fun q => ?_, fun q => h _ ?_ hF2⟩
  · refine sp_R_swap e2 hB2 hu h0 h1 h8 h9 (fun w' hA' hF' => h w' ?_ (hF2.tr hF'))
    unfold h_go
    rw [if_neg (by omega)]
    exact hA'
  · unfold h_go
    rw [if_pos (by omega)]
    exact e2
theorem sp_R_dispatch {d : Nat} {w : aw} {m : Nat} {H : hs} {Q : wQ} (hA : RAt w m H) (hB : ∀ v, UB (H.2.2 v)) (h0 : H.1 0 ≤ 8) (h1 : H.1 1 < 8) (h6 : H.1 6 ≤ 8) (h8 : H.1 8 < 4096) (h9 : H.1 9 < 8) (hr : ∀ v ∈ H.2.1, v < 8) (hl : H.2.1.length ≤ 8) (h : ∀ w', RAt w' m (h_disp H) → FrM w w' m → Q none w') : wpD (d + 1) 121 [.ref m] w Q := by
  refine ⟨Nat.le_of_ble_eq_true rfl, ?_⟩
  show wp d 121 Q 0 [some (.ref m), none, none] [] w 0 0
  have hA0 := hA
  obtain ⟨sh, q0, q1, q2', q3, q4, q5, q6, q7, q8, q9, q10, qm, qr, qu⟩ := hA
  have sh0 := sh
  obtain ⟨rk, r1, r2, r3, r4, r5, r6, r7, r8, r9, r10, r11, r12, r13, r14, r15, r16, r17, r18, r19, r20, r21, r22, r23, r24, k1, k2, k3, k4, k5, k6, k7, k8, k9, k10, k11, k12, k13, k14, k15, k16, k17, k18, k19, k20, k21, k22, k23, k24, n1, n2, n3, n4, n5, n6, n7, n8, n9, n10, n11, n12, n13, n14, n15, n16, n17, n18, n19, n20, n21, n22, n23, n24⟩ := sh
  have j14 : Q none w → wp d 121 Q 14 [some (.ref m), none, none] [] w 0 0 := by
    intro hq
    simp only [↓s_121_14]
    exact hq
  simp only [↓s_121_0, ↓s_121_1, ↓s_121_4, ↓s_121_7, ↓s_121_8, ↓s_121_11, ↓s_121_15, ↓s_121_16, ↓s_121_19, ↓s_121_20, ↓s_121_21, ↓s_121_22, ↓s_121_23, ↓s_121_24, ↓s_121_27, ↓s_121_28, ↓s_121_29, ↓s_121_32, ↓s_121_33, kd_uF, ln_uF, ai_uF, al_uF, ar_uF, zs_uF, fd_uF, kd_uA, ln_uA, fd_uA, al_uA, ar_uA, zs_uA, ai_uA, kd_uL, ln_uL, fd_uL, ai_uL, ar_uL, zs_uL, al_uL, kd_uR, ln_uR, fd_uR, ai_uR, al_uR, zs_uR, ar_uR, true_and, and_true, Option.toList_some, Option.toList_none, List.cons_append, List.nil_append, catS_nil, catS_int, catS_ref, catS_null, catS_long, cat_int, cat_ref, cat_null, Nat.reduceEqDiff, Nat.reduceLeDiff, Nat.reduceAdd, false_and, and_false, if_false, if_true, ite_true, ite_false, true_or, or_true, false_or, or_false, and_self, forall_const, true_implies, reduceCtorEq, clr_int, clr_ref, clr_null, clr_none, clr_long, va_rf_some, va_rf_none, rk, r1, k1, n1, q6, qm]
  rw [rn_ge _ (by omega), show (0 : Int32) = nI 0 from rfl, nI_eq (by omega) (by decide)]
  refine ⟨fun q => j14 (h _ (by unfold h_disp; rw [if_pos q]; exact hA0) FrM.rf), fun q => ⟨fun q2 => ?_, fun q2 => j14 (h _ (by unfold h_disp; rw [if_neg q, List.length_eq_zero_iff.mp q2]; exact hA0) FrM.rf)⟩⟩
  have q : H.1 6 = 0 := by simpa using q
  cases hrow : H.2.1 with
  | nil => rw [hrow] at q2; exact absurd rfl q2
  | cons u r =>
    have hu : u < 8 := hr u (by rw [hrow]; exact List.mem_cons_self)
    have hin : inR (nI u) 8 := inR_nI hu (by decide)
    have cu : (nI u).toNatClampNeg = u := clN (by omega)
    rw [hrow] at hl qr qm
    have hl' : r.length < 8 := by simp at hl; omega
    have e0 : ai w (m + 1) 0 = nI u := by have := qr 0 (by simp); simpa using this
    have c0 : (nI 0).toNatClampNeg = 0 := clN (by decide)
    rw [c0, e0, List.length_cons, show nI (r.length + 1) - 1 = nI r.length from nI_pred _]
    refine ⟨inR_nI (by decide) (by decide), ?_⟩
    generalize hw0 : uF w 524 m (.int (nI r.length)) = w0
    have f0 : ∀ g, g ≠ 524 → fd w0 g m = fd w g m := fun g hg => by rw [← hw0, fd_uF, if_neg (fun e => hg e.1)]
    have fm : fd w0 524 m = .int (nI r.length) := by rw [← hw0, fd_uF, if_pos ⟨rfl, rfl⟩]
    have hF0 : FrM w w0 m := by rw [← hw0]; exact FrM.rf.rowMany
    have sh1 : RSh w0 m := by rw [← hw0]; exact sh0
    have qu1 : ∀ v, v < 8 → RU w0 m v (H.2.2 v) := by rw [← hw0]; exact qu
    have qr1 : ∀ i, i < r.length + 1 → ai w0 (m + 1) i = nI ((u :: r).getD i 0) := by rw [← hw0]; intro i hi; exact qr i (by simp; omega)
    -- the row moves up
    have lp : ∀ (k i : Nat), i + k = r.length → ∀ w', RW w0 w' m → (∀ j, j < i → ai w' (m + 1) j = nI (r.getD j 0)) → (∀ j, i ≤ j → j < r.length + 1 → ai w' (m + 1) j = nI ((u :: r).getD j 0)) → (∀ w2, RW w0 w2 m → (∀ j, j < r.length → ai w2 (m + 1) j = nI (r.getD j 0)) → wp d 121 Q 62 [some (.ref m), some (.int (nI u)), some (.int (nI r.length))] [] w2 0 0) → wp d 121 Q 34 [some (.ref m), some (.int (nI u)), some (.int (nI i))] [] w' 0 0 := by
      intro k
      induction k with
      | zero =>
        intro i hi w' hW hd hr' hk
        have hi : i = r.length := by omega
        subst hi
        have sh2 := hW.sh sh1
        clear rk r1 k1 n1
        obtain ⟨rk, r1, r2, r3, r4, r5, r6, r7, r8, r9, r10, r11, r12, r13, r14, r15, r16, r17, r18, r19, r20, r21, r22, r23, r24, k1, k2, k3, k4, k5, k6, k7, k8, k9, k10, k11, k12, k13, k14, k15, k16, k17, k18, k19, k20, k21, k22, k23, k24, n1, n2, n3, n4, n5, n6, n7, n8, n9, n10, n11, n12, n13, n14, n15, n16, n17, n18, n19, n20, n21, n22, n23, n24⟩ := sh2
        have fm2 := (hW.2.2.2.1 524 m).trans fm
        rw [s_121_34]
        simp only [↓s_121_35, ↓s_121_36, ↓s_121_39, kd_uF, ln_uF, ai_uF, al_uF, ar_uF, zs_uF, fd_uF, kd_uA, ln_uA, fd_uA, al_uA, ar_uA, zs_uA, ai_uA, kd_uL, ln_uL, fd_uL, ai_uL, ar_uL, zs_uL, al_uL, kd_uR, ln_uR, fd_uR, ai_uR, al_uR, zs_uR, ar_uR, true_and, and_true, Option.toList_some, Option.toList_none, List.cons_append, List.nil_append, catS_nil, catS_int, catS_ref, catS_null, catS_long, cat_int, cat_ref, cat_null, Nat.reduceEqDiff, Nat.reduceLeDiff, Nat.reduceAdd, false_and, and_false, if_false, if_true, ite_true, ite_false, true_or, or_true, false_or, or_false, and_self, forall_const, true_implies, reduceCtorEq, clr_int, clr_ref, clr_null, clr_none, clr_long, va_rf_some, va_rf_none, rk, fm2]
        exact ⟨fun _ => hk w' hW hd, fun q => absurd (nI_le (Nat.le_refl _) (by omega)) q⟩
      | succ k ih =>
        intro i hi w' hW hd hr' hk
        have sh2 := hW.sh sh1
        clear rk r1 k1 n1
        obtain ⟨rk, r1, r2, r3, r4, r5, r6, r7, r8, r9, r10, r11, r12, r13, r14, r15, r16, r17, r18, r19, r20, r21, r22, r23, r24, k1, k2, k3, k4, k5, k6, k7, k8, k9, k10, k11, k12, k13, k14, k15, k16, k17, k18, k19, k20, k21, k22, k23, k24, n1, n2, n3, n4, n5, n6, n7, n8, n9, n10, n11, n12, n13, n14, n15, n16, n17, n18, n19, n20, n21, n22, n23, n24⟩ := sh2
        have fm2 := (hW.2.2.2.1 524 m).trans fm
        have e1 := hr' (i + 1) (by omega) (by omega)
        rw [s_121_34]
        simp only [↓s_121_35, ↓s_121_36, ↓s_121_39, ↓s_121_42, ↓s_121_43, ↓s_121_46, ↓s_121_47, ↓s_121_48, ↓s_121_51, ↓s_121_52, ↓s_121_53, ↓s_121_54, ↓s_121_55, ↓s_121_56, ↓s_121_59, ↓s_121_62, ↓s_121_63, ↓s_121_64, ↓s_121_67, ↓s_121_68, ↓s_121_71, ↓s_121_72, ↓s_121_73, ↓s_121_74, ↓s_121_75, ↓s_121_76, ↓s_121_79, ↓s_121_82, ↓s_121_83, ↓s_121_86, ↓s_121_87, ↓s_121_88, ↓s_121_91, ↓s_121_92, ↓s_121_93, kd_uF, ln_uF, ai_uF, al_uF, ar_uF, zs_uF, fd_uF, kd_uA, ln_uA, fd_uA, al_uA, ar_uA, zs_uA, ai_uA, kd_uL, ln_uL, fd_uL, ai_uL, ar_uL, zs_uL, al_uL, kd_uR, ln_uR, fd_uR, ai_uR, al_uR, zs_uR, ar_uR, true_and, and_true, Option.toList_some, Option.toList_none, List.cons_append, List.nil_append, catS_nil, catS_int, catS_ref, catS_null, catS_long, cat_int, cat_ref, cat_null, Nat.reduceEqDiff, Nat.reduceLeDiff, Nat.reduceAdd, false_and, and_false, if_false, if_true, ite_true, ite_false, true_or, or_true, false_or, or_false, and_self, forall_const, true_implies, reduceCtorEq, clr_int, clr_ref, clr_null, clr_none, clr_long, va_rf_some, va_rf_none, rk, r1, k1, n1, fm2, nI_1, clN (show i < 2147483648 by omega), clN (show i + 1 < 2147483648 by omega), e1]
        refine ⟨fun q => absurd q (nI_ge (by omega) (by omega)), fun _ => ⟨inR_nI (by omega) (by decide), inR_nI (by omega) (by decide), ih (i + 1) (by omega) _ hW.A ?_ ?_ hk⟩⟩
        · intro j hj
          rw [ai_uA]
          by_cases e : j = i
          · rw [if_pos ⟨rfl, e⟩, e]; rfl
          · rw [if_neg (by omega)]; exact hd j (by omega)
        · intro j h1 h2
          rw [ai_uA, if_neg (by omega)]; exact hr' j (by omega) h2
    refine lp r.length 0 (by omega) w0 RW.rf (fun j hj => absurd hj (Nat.not_lt_zero j)) (fun j _ hj => qr1 j hj) (fun w2 hW hd => ?_)
    have hA2 : RAt w2 m (hRow H r) := by
      have ff := fun g hg => (hW.2.2.2.1 g m).trans (f0 g hg)
      exact ⟨hW.sh sh1, (ff _ (by decide)).trans q0, (ff _ (by decide)).trans q1, (ff _ (by decide)).trans q2', (ff _ (by decide)).trans q3, (ff _ (by decide)).trans q4, (ff _ (by decide)).trans q5, (ff _ (by decide)).trans q6, (ff _ (by decide)).trans q7, (ff _ (by decide)).trans q8, (ff _ (by decide)).trans q9, (ff _ (by decide)).trans q10, (hW.2.2.2.1 _ _).trans fm, hd, fun v hv => hW.U (hB v) (qu1 v hv)⟩
    have hF2 : FrM w w2 m := hF0.tr hW.M
    exact sp_R_go hA2 hB hu h0 h1 h8 h9 (fun w' hA' hF' => h w' (by unfold h_disp; rw [if_neg (by omega), hrow]; exact hA') (hF2.tr hF'))
