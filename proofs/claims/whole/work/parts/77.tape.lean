def tF (g : Nat) : Bool := g == 543 || g == 544 || g == 545 || g == 548 || g == 553 || g == 554 || g == 555 || g == 556 || g == 557 || g == 558
def FrT (w w' : aw) (m : Nat) : Prop := Fr w w' m (m + 25) ∧ (∀ g, tF g = false → fd w' g m = fd w g m) ∧ (∀ k i, k < 19 → ai w' (m + k) i = ai w (m + k) i)
theorem FrT.rf {w : aw} {m : Nat} : FrT w w m := ⟨Fr.rf, fun _ _ => rfl, fun _ _ _ => rfl⟩
theorem FrT.tr {w w1 w2 : aw} {m : Nat} (h : FrT w w1 m) (g : FrT w1 w2 m) : FrT w w2 m := ⟨h.1.tr g.1, fun k e => (g.2.1 k e).trans (h.2.1 k e), fun k i e => (g.2.2 k i e).trans (h.2.2 k i e)⟩
theorem FrT.A {w w' : aw} {m k i : Nat} {x : Int32} (h : FrT w w' m) (h1 : 19 ≤ k) (h2 : k < 25) : FrT w (uA w' (m + k) i x) m :=
  ⟨h.1.A (by omega) (by omega), h.2.1, fun j i' p => by rw [ai_uA, if_neg (by omega)]; exact h.2.2 j i' p⟩
theorem FrT.L {w w' : aw} {m i : Nat} {x : Int64} (h : FrT w w' m) : FrT w (uL w' (m + 20) i x) m :=
  ⟨h.1.L (by omega) (by omega), h.2.1, h.2.2⟩
theorem FrT.F {w w' : aw} {m g : Nat} {x : Value} (h : FrT w w' m) (hg : tF g = true) : FrT w (uF w' g m x) m :=
  ⟨h.1.F (by omega) (by omega), fun k e => by rw [fd_uF, if_neg (fun q => by rw [q.1, hg] at e; cases e)]; exact h.2.1 k e, h.2.2⟩
theorem FrT.sh {w w' : aw} {m : Nat} (h : FrT w w' m) (hs : RSh w m) : RSh w' m :=
  hs.kept h.1.1 h.1.2.1 (h.2.1 _ rfl) (h.2.1 _ rfl) (h.2.1 _ rfl) (h.2.1 _ rfl) (h.2.1 _ rfl) (h.2.1 _ rfl) (h.2.1 _ rfl) (h.2.1 _ rfl) (h.2.1 _ rfl) (h.2.1 _ rfl) (h.2.1 _ rfl) (h.2.1 _ rfl) (h.2.1 _ rfl) (h.2.1 _ rfl) (h.2.1 _ rfl) (h.2.1 _ rfl) (h.2.1 _ rfl) (h.2.1 _ rfl) (h.2.1 _ rfl) (h.2.1 _ rfl) (h.2.1 _ rfl) (h.2.1 _ rfl) (h.2.1 _ rfl) (h.2.1 _ rfl)
theorem RAt.T {w w' : aw} {m : Nat} {H : hs} (h : RAt w m H) (hB : ∀ v, UB (H.2.2 v)) (hF : FrT w w' m) : RAt w' m H := by
  obtain ⟨sh, q0, q1, q2, q3, q4, q5, q6, q7, q8, q9, q10, qm, qr, qu⟩ := h
  have f := hF.2.1
  have g := hF.2.2
  exact ⟨hF.sh sh, (f _ rfl).trans q0, (f _ rfl).trans q1, (f _ rfl).trans q2, (f _ rfl).trans q3, (f _ rfl).trans q4, (f _ rfl).trans q5, (f _ rfl).trans q6, (f _ rfl).trans q7, (f _ rfl).trans q8, (f _ rfl).trans q9, (f _ rfl).trans q10, (f _ rfl).trans qm, fun i hi => (g 1 i (by decide)).trans (qr i hi), fun v hv => (qu v hv).kept (fun k p => g k v (by omega)) (fun k a p _ => g k _ (by omega)) (fun a _ => g 17 _ (by decide)) (fun k a p _ => g k _ (by omega)) (hB v).2.2.2.2.2.2.2.2.2.2.2.1 (hB v).2.2.2.2.2.2.2.2.2.2.2.2.1⟩
abbrev tp : Type := (Nat → Nat) × Nat × Nat × Nat
def sg (c : Nat) : Nat := if 65 ≤ c ∧ c ≤ 90 then c - 64 else c - 21
def b37 (l : List Nat) : Nat := l.foldl (fun n c => n * 37 + sg c) 0
def R35 : List (List Nat × Nat) := [([67, 76, 65], 3713), ([67, 76, 76], 3649), ([67, 77, 65], 3617), ([67, 77, 76], 3601), ([82, 65, 82], 3593), ([82, 65, 76], 3589), ([82, 84, 82], 3595), ([82, 84, 76], 3591), ([73, 65, 67], 3586), ([78, 79, 80], 3585), ([83, 77, 65], 3905), ([83, 90, 65], 3873), ([83, 80, 65], 3913), ([83, 78, 65], 3881), ([83, 78, 76], 3857), ([83, 90, 76], 3865), ([83, 75, 80], 3849), ([79, 83, 82], 3845), ([72, 76, 84], 3843), ([67, 73, 65], 3618), ([75, 83, 70], 3098), ([75, 82, 66], 3103), ([84, 83, 70], 3106), ([84, 76, 83], 3111), ([83, 76, 80], 3114), ([82, 68, 66], 3115), ([87, 82, 66], 3116), ([87, 72, 79], 3117), ([65, 78, 68], 0), ([84, 65, 68], 0), ([73, 83, 90], 0), ([68, 67, 65], 0), ([74, 77, 83], 0), ([74, 77, 80], 0), ([73], 0)]
def KN (w : aw) (m : Nat) : Prop := fd w 549 m = .int (nI 35) ∧ ∀ k, k < 35 → al w (m + 20) k = lN (b37 (R35.getD k ([], 0)).1) ∧ ai w (m + 21) k = rn (R35.getD k ([], 0)).2
def RT (w : aw) (m : Nat) (t : tp) : Prop := fd w 543 m = .int (nI t.2.1) ∧ fd w 544 m = .int (nI t.2.2.1) ∧ fd w 545 m = .int (nI t.2.2.2) ∧ (∀ k, k < 8000 → ai w (m + 19) k = nI (t.1 k)) ∧ KN w m
def TI (t : tp) : Prop := t.2.1 ≤ 8000 ∧ ∀ k, t.1 k < 256
theorem RT.M {w w' : aw} {m : Nat} {t : tp} (h : RT w m t) (hF : FrM w w' m) : RT w' m t := by
  obtain ⟨a1, a2, a3, e0, e1, e2, e3, e4, e5, e6, e7, e8, e9, e10⟩ := hF
  obtain ⟨b1, b2, b3, b4, b5, b6⟩ := h
  exact ⟨e0.trans b1, e1.trans b2, e2.trans b3, fun k hk => (a2 19 k (by decide)).trans (b4 k hk), e4.trans b5, fun k hk => ⟨(a3 _ _).trans (b6 k hk).1, (a2 21 k (by decide)).trans (b6 k hk).2⟩⟩
theorem and255 (x : Int32) : x &&& 255 = nI (x.toBitVec.toNat % 256) := by
  have e : x = nI x.toBitVec.toNat := by
    apply Int32.toBitVec_inj.mp
    show _ = BitVec.ofNat 32 _
    rw [BitVec.ofNat_toNat, BitVec.setWidth_eq]
  have h := pk_andN (m := 255) (show x.toBitVec.toNat < 4294967296 from x.toBitVec.isLt) 8 (by decide)
  rw [← e] at h
  exact h
def b8 (v s : Int32) : Nat := (v >>> (s &&& 31)).toBitVec.toNat % 256
def l_lay (T : Nat → Nat) (n : Nat) (v : Int32) : Nat → Nat := va_up (va_up (va_up (va_up T n (b8 v 24)) (n + 1) (b8 v 16)) (n + 2) (b8 v 8)) (n + 3) (b8 v 0)
def FrP (w w' : aw) (m : Nat) : Prop := Fr w w' m (m + 25) ∧ (∀ g, g ≠ 543 → fd w' g m = fd w g m) ∧ (∀ k i, k ≠ 19 → ai w' (m + k) i = ai w (m + k) i) ∧ (∀ q i, al w' q i = al w q i)
theorem FrP.rf {w : aw} {m : Nat} : FrP w w m := ⟨Fr.rf, fun _ _ => rfl, fun _ _ _ => rfl, fun _ _ => rfl⟩
theorem FrP.tr {w w1 w2 : aw} {m : Nat} (h : FrP w w1 m) (g : FrP w1 w2 m) : FrP w w2 m := ⟨h.1.tr g.1, fun k e => (g.2.1 k e).trans (h.2.1 k e), fun k i e => (g.2.2.1 k i e).trans (h.2.2.1 k i e), fun q i => (g.2.2.2 q i).trans (h.2.2.2 q i)⟩
theorem FrP.T {w w' : aw} {m : Nat} (h : FrP w w' m) : FrT w w' m := ⟨h.1, fun g hg => h.2.1 g (fun e => by rw [e] at hg; exact absurd hg (by decide)), fun k i hk => h.2.2.1 k i (by omega)⟩
theorem FrP.one {w w' : aw} {m i : Nat} {x : Int32} {y : Value} (h : FrP w w' m) : FrP w (uF (uA w' (m + 19) i x) 543 m y) m :=
  ⟨(h.1.A (by omega) (by omega)).F (by omega) (by omega), fun g hg => by rw [fd_uF, if_neg (fun q => hg q.1)]; exact h.2.1 g hg, fun k j hk => by rw [ai_uF, ai_uA, if_neg (by omega)]; exact h.2.2.1 k j hk, h.2.2.2⟩
theorem RT.P {w w' : aw} {m n : Nat} {t : tp} {T : Nat → Nat} (h : RT w m t) (hF : FrP w w' m) (h1 : fd w' 543 m = .int (nI n)) (h2 : ∀ k, k < 8000 → ai w' (m + 19) k = nI (T k)) : RT w' m (T, n, t.2.2) := by
  obtain ⟨a1, a2, a3, a4⟩ := hF
  obtain ⟨b1, b2, b3, b4, b5, b6⟩ := h
  exact ⟨h1, (a2 _ (by decide)).trans b2, (a2 _ (by decide)).trans b3, h2, (a2 _ (by decide)).trans b5, fun k hk => ⟨(a4 _ _).trans (b6 k hk).1, (a3 21 k (by decide)).trans (b6 k hk).2⟩⟩
theorem sp_R_lay {d : Nat} {w : aw} {m n : Nat} {v : Int32} {T : Nat → Nat} {Q : wQ} (hs : RSh w m) (ht : fd w 543 m = .int (nI n)) (hT : ∀ k, k < 8000 → ai w (m + 19) k = nI (T k)) (hn : n + 4 ≤ 8000) (h : ∀ w', fd w' 543 m = .int (nI (n + 4)) → (∀ k, k < 8000 → ai w' (m + 19) k = nI (l_lay T n v k)) → FrP w w' m → Q none w') : wpD (d + 1) 124 [.ref m, .int v] w Q := by
  refine ⟨Nat.le_of_ble_eq_true rfl, ?_⟩
  show wp d 124 Q 0 [some (.ref m), some (.int v), none] [] w 0 0
  have it : ∀ (s : Int32) (n : Nat) (T : Nat → Nat) (w1 : aw), ¬ s < 0 → n < 8000 → FrP w w1 m → fd w1 543 m = .int (nI n) → (∀ k, k < 8000 → ai w1 (m + 19) k = nI (T k)) → (∀ w2, FrP w w2 m → fd w2 543 m = .int (nI (n + 1)) → (∀ k, k < 8000 → ai w2 (m + 19) k = nI (va_up T n (b8 v s) k)) → wp d 124 Q 3 [some (.ref m), some (.int v), some (.int (s + (-8)))] [] w2 0 0) → wp d 124 Q 3 [some (.ref m), some (.int v), some (.int s)] [] w1 0 0 := by
    intro s n T w1 h0 h1 h2 h3 h4 h5
    have sh := h2.T.sh hs
    obtain ⟨rk, r1, r2, r3, r4, r5, r6, r7, r8, r9, r10, r11, r12, r13, r14, r15, r16, r17, r18, r19, r20, r21, r22, r23, r24, k1, k2, k3, k4, k5, k6, k7, k8, k9, k10, k11, k12, k13, k14, k15, k16, k17, k18, k19, k20, k21, k22, k23, k24, n1, n2, n3, n4, n5, n6, n7, n8, n9, n10, n11, n12, n13, n14, n15, n16, n17, n18, n19, n20, n21, n22, n23, n24⟩ := sh
    rw [s_124_3]
    simp only [↓s_124_4, ↓s_124_7, ↓s_124_8, ↓s_124_11, ↓s_124_12, ↓s_124_15, ↓s_124_16, ↓s_124_17, ↓s_124_18, ↓s_124_21, ↓s_124_22, ↓s_124_23, ↓s_124_24, ↓s_124_25, ↓s_124_28, ↓s_124_29, ↓s_124_30, ↓s_124_33, ↓s_124_36, ↓s_124_39, kd_uF, ln_uF, ai_uF, al_uF, ar_uF, zs_uF, fd_uF, kd_uA, ln_uA, fd_uA, al_uA, ar_uA, zs_uA, ai_uA, kd_uL, ln_uL, fd_uL, ai_uL, ar_uL, zs_uL, al_uL, kd_uR, ln_uR, fd_uR, ai_uR, al_uR, zs_uR, ar_uR, true_and, and_true, Option.toList_some, Option.toList_none, List.cons_append, List.nil_append, catS_nil, catS_int, catS_ref, catS_null, catS_long, cat_int, cat_ref, cat_null, Nat.reduceEqDiff, Nat.reduceLeDiff, Nat.reduceAdd, false_and, and_false, if_false, if_true, ite_true, ite_false, true_or, or_true, false_or, or_false, and_self, forall_const, true_implies, reduceCtorEq, clr_int, clr_ref, clr_null, clr_none, clr_long, va_rf_some, va_rf_none, rk, r19, k19, n19, h3, clN (show n < 2147483648 by omega), and255]
    refine ⟨fun q => absurd q h0, fun _ => ⟨inR_nI h1 (by decide), ?_⟩⟩
    rw [nI_1]
    refine h5 _ h2.one (by rw [fd_uF, if_pos ⟨rfl, rfl⟩]) (fun k hk => ?_)
    rw [ai_uF, ai_uA]
    unfold va_up
    by_cases c : k = n
    · rw [if_pos ⟨rfl, c⟩, if_pos c]; rfl
    · rw [if_neg (fun q => c q.2), if_neg c]; exact h4 k hk
  simp only [↓s_124_0, ↓s_124_2, kd_uF, ln_uF, ai_uF, al_uF, ar_uF, zs_uF, fd_uF, kd_uA, ln_uA, fd_uA, al_uA, ar_uA, zs_uA, ai_uA, kd_uL, ln_uL, fd_uL, ai_uL, ar_uL, zs_uL, al_uL, kd_uR, ln_uR, fd_uR, ai_uR, al_uR, zs_uR, ar_uR, true_and, and_true, Option.toList_some, Option.toList_none, List.cons_append, List.nil_append, catS_nil, catS_int, catS_ref, catS_null, catS_long, cat_int, cat_ref, cat_null, Nat.reduceEqDiff, Nat.reduceLeDiff, Nat.reduceAdd, false_and, and_false, if_false, if_true, ite_true, ite_false, true_or, or_true, false_or, or_false, and_self, forall_const, true_implies, reduceCtorEq, clr_int, clr_ref, clr_null, clr_none, clr_long, va_rf_some, va_rf_none]
  refine it 24 n T w (by decide) (by omega) FrP.rf ht hT (fun w1 a1 a2 a3 => ?_)
  rw [show (24 : Int32) + -8 = 16 from by decide]
  refine it 16 (n + 1) _ w1 (by decide) (by omega) a1 a2 a3 (fun w2 b1 b2 b3 => ?_)
  rw [show (16 : Int32) + -8 = 8 from by decide]
  refine it 8 (n + 2) _ w2 (by decide) (by omega) b1 b2 b3 (fun w3 c1 c2 c3 => ?_)
  rw [show (8 : Int32) + -8 = 0 from by decide]
  refine it 0 (n + 3) _ w3 (by decide) (by omega) c1 c2 c3 (fun w4 e1 e2 e3 => ?_)
  rw [show (0 : Int32) + -8 = -8 from by decide, s_124_3]
  simp only [s_124_4, s_124_39, kd_uF, ln_uF, ai_uF, al_uF, ar_uF, zs_uF, fd_uF, kd_uA, ln_uA, fd_uA, al_uA, ar_uA, zs_uA, ai_uA, kd_uL, ln_uL, fd_uL, ai_uL, ar_uL, zs_uL, al_uL, kd_uR, ln_uR, fd_uR, ai_uR, al_uR, zs_uR, ar_uR, true_and, and_true, Option.toList_some, Option.toList_none, List.cons_append, List.nil_append, catS_nil, catS_int, catS_ref, catS_null, catS_long, cat_int, cat_ref, cat_null, Nat.reduceEqDiff, Nat.reduceLeDiff, Nat.reduceAdd, false_and, and_false, if_false, if_true, ite_true, ite_false, true_or, or_true, false_or, or_false, and_self, forall_const, true_implies, reduceCtorEq, clr_int, clr_ref, clr_null, clr_none, clr_long, va_rf_some, va_rf_none]
  exact ⟨fun _ => h w4 e2 e3 e1, fun q => absurd (by decide) q⟩
def c_feed (t : tp) (a b c d e : Int32) : Int32 × tp := if t.2.1 + 20 ≤ 8000 then (nI (t.2.1 + 20), (l_lay (l_lay (l_lay (l_lay (l_lay t.1 t.2.1 a) (t.2.1 + 4) b) (t.2.1 + 8) c) (t.2.1 + 12) d) (t.2.1 + 16) e, t.2.1 + 20, t.2.2)) else (-1, t)
theorem sp_R_feed {dd : Nat} {w : aw} {m : Nat} {a b c d e : Int32} {t : tp} {Q : wQ} (hs : RSh w m) (hT : RT w m t) (hI : TI t) (h : ∀ w', RT w' m (c_feed t a b c d e).2 → FrP w w' m → Q (some (.int (c_feed t a b c d e).1)) w') : wpD (dd + 2) 125 [.ref m, .int a, .int b, .int c, .int d, .int e] w Q := by
  refine ⟨Nat.le_of_ble_eq_true rfl, ?_⟩
  show wp (dd + 1) 125 Q 0 [some (.ref m), some (.int a), some (.int b), some (.int c), some (.int d), some (.int e)] [] w 0 0
  have rk := hs.1
  have h1 := hI.1
  have t1 := hT.1
  have t4 := hT.2.2.2.1
  simp only [↓s_125_0, ↓s_125_1, ↓s_125_4, ↓s_125_6, ↓s_125_7, ↓s_125_10, ↓s_125_13, ↓s_125_14, ↓s_125_15, ↓s_125_16, ↓s_125_17, kd_uF, ln_uF, ai_uF, al_uF, ar_uF, zs_uF, fd_uF, kd_uA, ln_uA, fd_uA, al_uA, ar_uA, zs_uA, ai_uA, kd_uL, ln_uL, fd_uL, ai_uL, ar_uL, zs_uL, al_uL, kd_uR, ln_uR, fd_uR, ai_uR, al_uR, zs_uR, ar_uR, true_and, and_true, Option.toList_some, Option.toList_none, List.cons_append, List.nil_append, catS_nil, catS_int, catS_ref, catS_null, catS_long, cat_int, cat_ref, cat_null, Nat.reduceEqDiff, Nat.reduceLeDiff, Nat.reduceAdd, false_and, and_false, if_false, if_true, ite_true, ite_false, true_or, or_true, false_or, or_false, and_self, forall_const, true_implies, reduceCtorEq, clr_int, clr_ref, clr_null, clr_none, clr_long, va_rf_some, va_rf_none, rk, t1]
  rw [show (20 : Int32) = nI 20 from rfl, show (8000 : Int32) = nI 8000 from rfl, nI_add, nI_leI (by omega) (by decide)]
  refine ⟨fun q => ?_, fun q => ?_⟩
  · have hc : c_feed t a b c d e = (nI (t.2.1 + 20), (l_lay (l_lay (l_lay (l_lay (l_lay t.1 t.2.1 a) (t.2.1 + 4) b) (t.2.1 + 8) c) (t.2.1 + 12) d) (t.2.1 + 16) e, t.2.1 + 20, t.2.2)) := if_pos q
    rw [hc] at h
    refine sp_R_lay hs t1 t4 (by omega) (fun w1 a1 a2 a3 => ?_)
    have s1 := a3.T.sh hs
    simp only [↓s_125_20, ↓s_125_21, ↓s_125_22, kd_uF, ln_uF, ai_uF, al_uF, ar_uF, zs_uF, fd_uF, kd_uA, ln_uA, fd_uA, al_uA, ar_uA, zs_uA, ai_uA, kd_uL, ln_uL, fd_uL, ai_uL, ar_uL, zs_uL, al_uL, kd_uR, ln_uR, fd_uR, ai_uR, al_uR, zs_uR, ar_uR, true_and, and_true, Option.toList_some, Option.toList_none, List.cons_append, List.nil_append, catS_nil, catS_int, catS_ref, catS_null, catS_long, cat_int, cat_ref, cat_null, Nat.reduceEqDiff, Nat.reduceLeDiff, Nat.reduceAdd, false_and, and_false, if_false, if_true, ite_true, ite_false, true_or, or_true, false_or, or_false, and_self, forall_const, true_implies, reduceCtorEq, clr_int, clr_ref, clr_null, clr_none, clr_long, va_rf_some, va_rf_none, s1.1]
    refine sp_R_lay s1 a1 a2 (by omega) (fun w2 b1 b2 b3 => ?_)
    have s2 := b3.T.sh s1
    simp only [↓s_125_25, ↓s_125_26, ↓s_125_27, kd_uF, ln_uF, ai_uF, al_uF, ar_uF, zs_uF, fd_uF, kd_uA, ln_uA, fd_uA, al_uA, ar_uA, zs_uA, ai_uA, kd_uL, ln_uL, fd_uL, ai_uL, ar_uL, zs_uL, al_uL, kd_uR, ln_uR, fd_uR, ai_uR, al_uR, zs_uR, ar_uR, true_and, and_true, Option.toList_some, Option.toList_none, List.cons_append, List.nil_append, catS_nil, catS_int, catS_ref, catS_null, catS_long, cat_int, cat_ref, cat_null, Nat.reduceEqDiff, Nat.reduceLeDiff, Nat.reduceAdd, false_and, and_false, if_false, if_true, ite_true, ite_false, true_or, or_true, false_or, or_false, and_self, forall_const, true_implies, reduceCtorEq, clr_int, clr_ref, clr_null, clr_none, clr_long, va_rf_some, va_rf_none, s2.1]
    refine sp_R_lay s2 b1 b2 (by omega) (fun w3 c1 c2 c3 => ?_)
    have s3 := c3.T.sh s2
    simp only [↓s_125_30, ↓s_125_31, ↓s_125_33, kd_uF, ln_uF, ai_uF, al_uF, ar_uF, zs_uF, fd_uF, kd_uA, ln_uA, fd_uA, al_uA, ar_uA, zs_uA, ai_uA, kd_uL, ln_uL, fd_uL, ai_uL, ar_uL, zs_uL, al_uL, kd_uR, ln_uR, fd_uR, ai_uR, al_uR, zs_uR, ar_uR, true_and, and_true, Option.toList_some, Option.toList_none, List.cons_append, List.nil_append, catS_nil, catS_int, catS_ref, catS_null, catS_long, cat_int, cat_ref, cat_null, Nat.reduceEqDiff, Nat.reduceLeDiff, Nat.reduceAdd, false_and, and_false, if_false, if_true, ite_true, ite_false, true_or, or_true, false_or, or_false, and_self, forall_const, true_implies, reduceCtorEq, clr_int, clr_ref, clr_null, clr_none, clr_long, va_rf_some, va_rf_none, s3.1]
    refine sp_R_lay s3 c1 c2 (by omega) (fun w4 d1 d2 d3 => ?_)
    have s4 := d3.T.sh s3
    simp only [↓s_125_36, ↓s_125_37, ↓s_125_39, kd_uF, ln_uF, ai_uF, al_uF, ar_uF, zs_uF, fd_uF, kd_uA, ln_uA, fd_uA, al_uA, ar_uA, zs_uA, ai_uA, kd_uL, ln_uL, fd_uL, ai_uL, ar_uL, zs_uL, al_uL, kd_uR, ln_uR, fd_uR, ai_uR, al_uR, zs_uR, ar_uR, true_and, and_true, Option.toList_some, Option.toList_none, List.cons_append, List.nil_append, catS_nil, catS_int, catS_ref, catS_null, catS_long, cat_int, cat_ref, cat_null, Nat.reduceEqDiff, Nat.reduceLeDiff, Nat.reduceAdd, false_and, and_false, if_false, if_true, ite_true, ite_false, true_or, or_true, false_or, or_false, and_self, forall_const, true_implies, reduceCtorEq, clr_int, clr_ref, clr_null, clr_none, clr_long, va_rf_some, va_rf_none, s4.1]
    refine sp_R_lay s4 d1 d2 (by omega) (fun w5 e1 e2 e3 => ?_)
    have s5 := e3.T.sh s4
    simp only [↓s_125_42, ↓s_125_43, ↓s_125_46, kd_uF, ln_uF, ai_uF, al_uF, ar_uF, zs_uF, fd_uF, kd_uA, ln_uA, fd_uA, al_uA, ar_uA, zs_uA, ai_uA, kd_uL, ln_uL, fd_uL, ai_uL, ar_uL, zs_uL, al_uL, kd_uR, ln_uR, fd_uR, ai_uR, al_uR, zs_uR, ar_uR, true_and, and_true, Option.toList_some, Option.toList_none, List.cons_append, List.nil_append, catS_nil, catS_int, catS_ref, catS_null, catS_long, cat_int, cat_ref, cat_null, Nat.reduceEqDiff, Nat.reduceLeDiff, Nat.reduceAdd, false_and, and_false, if_false, if_true, ite_true, ite_false, true_or, or_true, false_or, or_false, and_self, forall_const, true_implies, reduceCtorEq, clr_int, clr_ref, clr_null, clr_none, clr_long, va_rf_some, va_rf_none, s5.1, e1]
    have F := (((a3.tr b3).tr c3).tr d3).tr e3
    exact h w5 (hT.P F e1 e2) F
  · have hc : c_feed t a b c d e = (-1, t) := if_neg q
    rw [hc] at h
    exact h w hT FrP.rf
def c_end (t : tp) (n : Int32) : Int32 × tp := match rg n (t.2.1 + 1) with
  | some k => (nI k, (t.1, k, t.2.2))
  | none => (-1, t)
theorem FrP.cut {w w' : aw} {m : Nat} {y : Value} (h : FrP w w' m) : FrP w (uF w' 543 m y) m :=
  ⟨h.1.F (by omega) (by omega), fun g hg => by rw [fd_uF, if_neg (fun q => hg q.1)]; exact h.2.1 g hg, h.2.2.1, h.2.2.2⟩
theorem sp_R_end {dd : Nat} {w : aw} {m : Nat} {n : Int32} {t : tp} {Q : wQ} (hs : RSh w m) (hT : RT w m t) (hI : TI t) (h : ∀ w', RT w' m (c_end t n).2 → FrP w w' m → Q (some (.int (c_end t n).1)) w') : wpD (dd + 2) 126 [.ref m, .int n] w Q := by
  refine ⟨Nat.le_of_ble_eq_true rfl, ?_⟩
  show wp (dd + 1) 126 Q 0 [some (.ref m), some (.int n)] [] w 0 0
  have rk := hs.1
  have h1 := hI.1
  have t1 := hT.1
  simp only [↓s_126_0, ↓s_126_1, ↓s_126_2, ↓s_126_3, ↓s_126_6, kd_uF, ln_uF, ai_uF, al_uF, ar_uF, zs_uF, fd_uF, kd_uA, ln_uA, fd_uA, al_uA, ar_uA, zs_uA, ai_uA, kd_uL, ln_uL, fd_uL, ai_uL, ar_uL, zs_uL, al_uL, kd_uR, ln_uR, fd_uR, ai_uR, al_uR, zs_uR, ar_uR, true_and, and_true, Option.toList_some, Option.toList_none, List.cons_append, List.nil_append, catS_nil, catS_int, catS_ref, catS_null, catS_long, cat_int, cat_ref, cat_null, Nat.reduceEqDiff, Nat.reduceLeDiff, Nat.reduceAdd, false_and, and_false, if_false, if_true, ite_true, ite_false, true_or, or_true, false_or, or_false, and_self, forall_const, true_implies, reduceCtorEq, clr_int, clr_ref, clr_null, clr_none, clr_long, va_rf_some, va_rf_none, rk, t1]
  refine sp_R_in (n := t.2.1 + 1) (nI_pred _).symm (by omega) (fun k a1 a2 a3 => ?_) (fun a1 => ?_)
  · have hc : c_end t n = (nI k, (t.1, k, t.2.2)) := by unfold c_end; rw [a1]
    rw [hc] at h
    simp only [↓s_126_9, ↓s_126_12, ↓s_126_13, ↓s_126_14, ↓s_126_15, ↓s_126_16, ↓s_126_19, ↓s_126_20, kd_uF, ln_uF, ai_uF, al_uF, ar_uF, zs_uF, fd_uF, kd_uA, ln_uA, fd_uA, al_uA, ar_uA, zs_uA, ai_uA, kd_uL, ln_uL, fd_uL, ai_uL, ar_uL, zs_uL, al_uL, kd_uR, ln_uR, fd_uR, ai_uR, al_uR, zs_uR, ar_uR, true_and, and_true, Option.toList_some, Option.toList_none, List.cons_append, List.nil_append, catS_nil, catS_int, catS_ref, catS_null, catS_long, cat_int, cat_ref, cat_null, Nat.reduceEqDiff, Nat.reduceLeDiff, Nat.reduceAdd, false_and, and_false, if_false, if_true, ite_true, ite_false, true_or, or_true, false_or, or_false, and_self, forall_const, true_implies, reduceCtorEq, clr_int, clr_ref, clr_null, clr_none, clr_long, va_rf_some, va_rf_none, rk]
    refine ⟨fun _ => ?_, fun q => absurd q (by decide)⟩
    rw [a3]
    exact h _ (hT.P FrP.rf.cut (by rw [fd_uF, if_pos ⟨rfl, rfl⟩]) hT.2.2.2.1) FrP.rf.cut
  · have hc : c_end t n = (-1, t) := by unfold c_end; rw [a1]
    rw [hc] at h
    simp only [↓s_126_9, ↓s_126_12, ↓s_126_13, ↓s_126_14, ↓s_126_15, ↓s_126_16, ↓s_126_19, ↓s_126_20, kd_uF, ln_uF, ai_uF, al_uF, ar_uF, zs_uF, fd_uF, kd_uA, ln_uA, fd_uA, al_uA, ar_uA, zs_uA, ai_uA, kd_uL, ln_uL, fd_uL, ai_uL, ar_uL, zs_uL, al_uL, kd_uR, ln_uR, fd_uR, ai_uR, al_uR, zs_uR, ar_uR, true_and, and_true, Option.toList_some, Option.toList_none, List.cons_append, List.nil_append, catS_nil, catS_int, catS_ref, catS_null, catS_long, cat_int, cat_ref, cat_null, Nat.reduceEqDiff, Nat.reduceLeDiff, Nat.reduceAdd, false_and, and_false, if_false, if_true, ite_true, ite_false, true_or, or_true, false_or, or_false, and_self, forall_const, true_implies, reduceCtorEq, clr_int, clr_ref, clr_null, clr_none, clr_long, va_rf_some, va_rf_none, rk]
    exact ⟨fun q => absurd trivial q, h w hT FrP.rf⟩
def c_fault (t : tp) (x : Int32) : Int32 := if x = 0 then nI t.2.2.1 else if x = 1 then nI t.2.2.2 else -1
theorem sp_R_fault {dd : Nat} {w : aw} {m : Nat} {x : Int32} {t : tp} {Q : wQ} (hs : RSh w m) (hT : RT w m t) (h : Q (some (.int (c_fault t x))) w) : wpD (dd + 1) 127 [.ref m, .int x] w Q := by
  refine ⟨Nat.le_of_ble_eq_true rfl, ?_⟩
  show wp dd 127 Q 0 [some (.ref m), some (.int x)] [] w 0 0
  have rk := hs.1
  have t2 := hT.2.1
  have t3 := hT.2.2.1
  unfold c_fault at h
  simp only [↓s_127_0, ↓s_127_1, ↓s_127_4, ↓s_127_5, ↓s_127_8, ↓s_127_11, ↓s_127_12, ↓s_127_13, ↓s_127_16, ↓s_127_17, ↓s_127_20, ↓s_127_23, ↓s_127_24, kd_uF, ln_uF, ai_uF, al_uF, ar_uF, zs_uF, fd_uF, kd_uA, ln_uA, fd_uA, al_uA, ar_uA, zs_uA, ai_uA, kd_uL, ln_uL, fd_uL, ai_uL, ar_uL, zs_uL, al_uL, kd_uR, ln_uR, fd_uR, ai_uR, al_uR, zs_uR, ar_uR, true_and, and_true, Option.toList_some, Option.toList_none, List.cons_append, List.nil_append, catS_nil, catS_int, catS_ref, catS_null, catS_long, cat_int, cat_ref, cat_null, Nat.reduceEqDiff, Nat.reduceLeDiff, Nat.reduceAdd, false_and, and_false, if_false, if_true, ite_true, ite_false, true_or, or_true, false_or, or_false, and_self, forall_const, true_implies, reduceCtorEq, clr_int, clr_ref, clr_null, clr_none, clr_long, va_rf_some, va_rf_none, rk, t2, t3]
  refine ⟨fun q => ⟨fun q2 => ?_, fun q2 => ?_⟩, fun q => ?_⟩
  · rw [if_neg q, if_neg q2] at h; exact h
  · rw [if_neg q, if_pos q2] at h; exact h
  · rw [if_pos q] at h; exact h
