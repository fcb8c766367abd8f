theorem nI_int (k : Nat) (h : k < 2147483648) : (nI k).toInt = (k : Int) := nI_toInt h
abbrev Fr11 (w w' : aw) (x : Nat) : Prop := Fr w w' (x + 11) (x + 12)
theorem CB.R {w w' : aw} {x : Nat} {t : nt} (h : CB w x t) (hF : Fr11 w w' x) : CB w' x t := h.Fr hF (Or.inl (by omega))
def FK (w w' : aw) (x : Nat) : Prop := FrX w w' x ∧ fd w' 6 (x + 3) = fd w 6 (x + 3) ∧ (∀ k i, 7 ≤ k → k ≤ 10 → ai w' (x + k) i = ai w (x + k) i)
theorem FK.rf {w : aw} {x : Nat} : FK w w x := ⟨FrX.rf, rfl, fun _ _ _ _ => rfl⟩
theorem FK.tr {w w1 w2 : aw} {x : Nat} (h : FK w w1 x) (g : FK w1 w2 x) : FK w w2 x := ⟨h.1.tr g.1, g.2.1.trans h.2.1, fun k i a b => (g.2.2 k i a b).trans (h.2.2 k i a b)⟩
theorem FK.ofR {w w' : aw} {x n e' : Nat} {T : Nat → Nat} (hF : Fr w w' (x + 11) (x + 12)) (h : SR0 w x T n) (h' : SR w' x T n e') : FK w w' x :=
  ⟨FrX.ofR (e := e') hF h h', (hF.2.2.2 (x + 3) (by omega)).1 _, fun k i a b => (hF.2.2.2 (x + k) (by omega)).2.1 i⟩
theorem FK.ofN {w w' : aw} {x : Nat} (hF : Fr w w' (x + 4) (x + 7)) : FK w w' x :=
  ⟨FrX.ofN hF, (hF.2.2.2 (x + 3) (by omega)).1 _, fun k i a b => (hF.2.2.2 (x + k) (by omega)).2.1 i⟩
theorem FK.dot {w w' : aw} {x : Nat} {v : Value} (h : FK w w' x) : FK w (uF w' 8 (x + 3) v) x :=
  ⟨h.1.D (Or.inl rfl), by rw [fd_uF, if_neg (fun z => absurd z.1 (by decide))]; exact h.2.1, h.2.2⟩
theorem sp_c_first {d : Nat} {w : aw} {x n a b dot : Nat} {T : Nat → Nat} {t : nt} {Q : wQ} (hA : ASh w x) (hS : SR w x T n b) (hat : fd w 258 (x + 11) = .int (nI (bE T b a))) (hab : a ≤ b) (hC : CB w x t) (hN : TN t) (hdt : fd w 8 (x + 3) = .int (nI dot)) (hd : dot < 4096) (h : ∀ w', FK w w' x → (∃ t', CB w' x t') → ((s1 T a b t dot).1 = 0 → CB w' x (s1 T a b t dot).2.1 ∧ fd w' 8 (x + 3) = .int (nI (s1 T a b t dot).2.2)) → Q (some (.int (nI (s1 T a b t dot).1))) w') : wpD (d + 6) 4 [.ref (x + 3), .int (nI a), .int (nI b)] w Q := by
  refine ⟨Nat.le_of_ble_eq_true rfl, ?_⟩
  show wp (d + 5) 4 Q 0 [some (.ref (x + 3)), some (.int (nI a)), some (.int (nI b)), none] [] w 0 0
  have hen := hS.2.2.2.2.2.2.2.2.2.2.1
  have hn8 := hS.2.2.2.2.2.2.2.2.2.2.2.1
  have hbl := bE_le (T := T) hab
  obtain ⟨p, hp⟩ : ∃ p, p = p0 T a b := ⟨_, rfl⟩
  have hp0 : lbE T b (b - bE T b a) (bE T b a) = p := by rw [hp]; rfl
  have hpb : p ≤ b := by rw [← hp0]; exact (lbE_b hbl).2
  simp only [↓s_4_0, ↓s_4_1, kd_uF, ln_uF, ai_uF, al_uF, ar_uF, zs_uF, fd_uF, kd_uA, ln_uA, fd_uA, al_uA, ar_uA, zs_uA, ai_uA, kd_uL, ln_uL, fd_uL, ai_uL, ar_uL, zs_uL, al_uL, kd_uR, ln_uR, fd_uR, ai_uR, al_uR, zs_uR, ar_uR, true_and, and_true, Option.toList_some, Option.toList_none, List.cons_append, List.nil_append, catS_nil, catS_int, catS_ref, catS_null, catS_long, cat_int, cat_ref, cat_null, Nat.reduceEqDiff, Nat.reduceLeDiff, Nat.reduceAdd, false_and, and_false, if_false, if_true, ite_true, ite_false, true_or, or_true, false_or, or_false, and_self, forall_const, true_implies, reduceCtorEq, clr_int, clr_ref, clr_null, clr_none, clr_long, va_rf_some, va_rf_none, hA.1]
  refine sp_c_skip hA hS hat hbl (fun w1 s1' at1 f1 => ?_)
  rw [hp0] at at1
  have k1 := FK.ofR f1 hS.S0 s1'
  have hA1 := hA.X k1.1
  have dt1 : fd w1 8 (x + 3) = .int (nI dot) := ((f1.2.2.2 (x + 3) (by omega)).1 _).trans hdt
  simp only [↓s_4_4, ↓s_4_5, ↓s_4_8, ↓s_4_9, ↓s_4_12, kd_uF, ln_uF, ai_uF, al_uF, ar_uF, zs_uF, fd_uF, kd_uA, ln_uA, fd_uA, al_uA, ar_uA, zs_uA, ai_uA, kd_uL, ln_uL, fd_uL, ai_uL, ar_uL, zs_uL, al_uL, kd_uR, ln_uR, fd_uR, ai_uR, al_uR, zs_uR, ar_uR, true_and, and_true, Option.toList_some, Option.toList_none, List.cons_append, List.nil_append, catS_nil, catS_int, catS_ref, catS_null, catS_long, cat_int, cat_ref, cat_null, Nat.reduceEqDiff, Nat.reduceLeDiff, Nat.reduceAdd, false_and, and_false, if_false, if_true, ite_true, ite_false, true_or, or_true, false_or, or_false, and_self, forall_const, true_implies, reduceCtorEq, clr_int, clr_ref, clr_null, clr_none, clr_long, va_rf_some, va_rf_none, hA1.1, hA1.2.2.2.1, dt1, s1'.1]
  refine sp_c_body s1' (hC.R f1) hN at1 hpb hd (fun w2 s2' f2 B2 => ?_)
  have k2 := k1.tr (FK.ofR f2 s1'.S0 s2')
  have hA2 := hA.X k2.1
  have C2 := (hC.R f1).R f2
  simp only [↓s_4_15, ↓s_4_16, ↓s_4_19, ↓s_4_22, ↓s_4_25, ↓s_4_26, ↓s_4_27, ↓s_4_28, ↓s_4_31, ↓s_4_32, ↓s_4_33, kd_uF, ln_uF, ai_uF, al_uF, ar_uF, zs_uF, fd_uF, kd_uA, ln_uA, fd_uA, al_uA, ar_uA, zs_uA, ai_uA, kd_uL, ln_uL, fd_uL, ai_uL, ar_uL, zs_uL, al_uL, kd_uR, ln_uR, fd_uR, ai_uR, al_uR, zs_uR, ar_uR, true_and, and_true, Option.toList_some, Option.toList_none, List.cons_append, List.nil_append, catS_nil, catS_int, catS_ref, catS_null, catS_long, cat_int, cat_ref, cat_null, Nat.reduceEqDiff, Nat.reduceLeDiff, Nat.reduceAdd, false_and, and_false, if_false, if_true, ite_true, ite_false, true_or, or_true, false_or, or_false, and_self, forall_const, true_implies, reduceCtorEq, clr_int, clr_ref, clr_null, clr_none, clr_long, va_rf_some, va_rf_none, hA2.1, hA2.2.2.2.1, s2'.1, B2.1]
  cases hr : right T b p with
  | false =>
    rw [hp] at hr
    rw [s1_bad hr] at h
    exact ⟨fun q => absurd q (by decide), fun _ => h w2 k2 ⟨t, C2⟩ (fun z => by cases z)⟩
  | true =>
  refine ⟨fun _ => ?_, fun q => absurd rfl q⟩
  refine sp_c_begin s2' hab hen (fun w3 s3' at3 f3 => ?_)
  have k3 := k2.tr (FK.ofR f3 s2'.S0 s3')
  have hA3 := hA.X k3.1
  have C3 := C2.R f3
  have dt3 : fd w3 8 (x + 3) = .int (nI dot) := ((f3.2.2.2 (x + 3) (by omega)).1 _).trans (((f2.2.2.2 (x + 3) (by omega)).1 _).trans dt1)
  simp only [↓s_4_36, ↓s_4_37, kd_uF, ln_uF, ai_uF, al_uF, ar_uF, zs_uF, fd_uF, kd_uA, ln_uA, fd_uA, al_uA, ar_uA, zs_uA, ai_uA, kd_uL, ln_uL, fd_uL, ai_uL, ar_uL, zs_uL, al_uL, kd_uR, ln_uR, fd_uR, ai_uR, al_uR, zs_uR, ar_uR, true_and, and_true, Option.toList_some, Option.toList_none, List.cons_append, List.nil_append, catS_nil, catS_int, catS_ref, catS_null, catS_long, cat_int, cat_ref, cat_null, Nat.reduceEqDiff, Nat.reduceLeDiff, Nat.reduceAdd, false_and, and_false, if_false, if_true, ite_true, ite_false, true_or, or_true, false_or, or_false, and_self, forall_const, true_implies, reduceCtorEq, clr_int, clr_ref, clr_null, clr_none, clr_long, va_rf_some, va_rf_none, hA3.1]
  refine sp_c_tellL hA3 s3' C3 hN dt3 hd at3 hbl (fun w4 t' s4' C4 f4 pl4 dt4 ar4 g4 => ?_)
  obtain ⟨X, hX⟩ : ∃ X, X = tls dot t (ls0 T a b) := ⟨_, rfl⟩
  have hX' : tls dot t (lbs T b (b - bE T b a) (bE T b a)) = X := by rw [hX]; rfl
  rw [hX'] at g4 ⊢
  have k4 : FK w w4 x := k3.tr ⟨f4, pl4, ar4⟩
  have hA4 := hA.X k4.1
  have dt4' : fd w4 8 (x + 3) = .int (nI dot) := dt4.trans dt3
  have hX6 : X.1 ≤ 6 := by rw [hX]; exact tls_le _ _
  rw [hp] at hr
  simp only [↓s_4_40, ↓s_4_41, ↓s_4_42, ↓s_4_45, ↓s_4_46, ↓s_4_47, ↓s_4_48, ↓s_4_51, ↓s_4_52, ↓s_4_55, kd_uF, ln_uF, ai_uF, al_uF, ar_uF, zs_uF, fd_uF, kd_uA, ln_uA, fd_uA, al_uA, ar_uA, zs_uA, ai_uA, kd_uL, ln_uL, fd_uL, ai_uL, ar_uL, zs_uL, al_uL, kd_uR, ln_uR, fd_uR, ai_uR, al_uR, zs_uR, ar_uR, true_and, and_true, Option.toList_some, Option.toList_none, List.cons_append, List.nil_append, catS_nil, catS_int, catS_ref, catS_null, catS_long, cat_int, cat_ref, cat_null, Nat.reduceEqDiff, Nat.reduceLeDiff, Nat.reduceAdd, false_and, and_false, if_false, if_true, ite_true, ite_false, true_or, or_true, false_or, or_false, and_self, forall_const, true_implies, reduceCtorEq, clr_int, clr_ref, clr_null, clr_none, clr_long, va_rf_some, va_rf_none, hA4.1, hA4.2.2.2.1, dt4', s4'.1]
  rw [show (0 : Int32) = nI 0 from rfl, nI_eq (by omega) (by decide)]
  refine ⟨fun x0 => ?_, fun x0 => ?_⟩
  case' refine_2 =>
    rw [s1_lab hr (by rw [← hX]; exact x0), ← hX] at h
    exact h w4 k4 ⟨t', C4⟩ (fun z => absurd z x0)
  obtain ⟨at4, et⟩ := g4 x0
  rw [hp0] at at4
  rw [et] at C4
  have hx0 : (tls dot t (ls0 T a b)).1 = 0 := by rw [← hX]; exact x0
  have hN4 : TN X.2 := by rw [hX]; exact tls_TN hd _ t hN (fun l hl => lbs_ok l hl)
  refine sp_c_body s4' C4 hN4 at4 hpb hd (fun w5 s5' f5 B5 => ?_)
  have k5 := k4.tr (FK.ofR f5 s4'.S0 s5')
  have hA5 := hA.X k5.1
  have C5 := C4.R f5
  have dt5 : fd w5 8 (x + 3) = .int (nI dot) := ((f5.2.2.2 (x + 3) (by omega)).1 _).trans dt4'
  obtain ⟨kd5, un5, ⟨v, hv4, va5, hvy⟩, op5, mk5, ky5⟩ := B5.2 (by rw [hp]; exact hr)
  have hk5 := knd_lt (T := T) (e := b) (p := p)
  simp only [↓s_4_58, ↓s_4_59, ↓s_4_62, ↓s_4_65, kd_uF, ln_uF, ai_uF, al_uF, ar_uF, zs_uF, fd_uF, kd_uA, ln_uA, fd_uA, al_uA, ar_uA, zs_uA, ai_uA, kd_uL, ln_uL, fd_uL, ai_uL, ar_uL, zs_uL, al_uL, kd_uR, ln_uR, fd_uR, ai_uR, al_uR, zs_uR, ar_uR, true_and, and_true, Option.toList_some, Option.toList_none, List.cons_append, List.nil_append, catS_nil, catS_int, catS_ref, catS_null, catS_long, cat_int, cat_ref, cat_null, Nat.reduceEqDiff, Nat.reduceLeDiff, Nat.reduceAdd, false_and, and_false, if_false, if_true, ite_true, ite_false, true_or, or_true, false_or, or_false, and_self, forall_const, true_implies, reduceCtorEq, clr_int, clr_ref, clr_null, clr_none, clr_long, va_rf_some, va_rf_none, hA5.1, hA5.2.2.2.1, s5'.1, kd5]
  have hc : knd T b p = 0 ∨ knd T b p = 1 ∨ knd T b p = 2 ∨ (knd T b p = 3 ∨ knd T b p = 4) := by omega
  rcases hc with hK | hK | hK | hK
  · rw [hK]
    have hs : s1 T a b t dot = (0, X.2, dot) := by rw [s1_0 hr hx0 (by rw [← hp]; exact hK), ← hX]
    rw [hs] at h
    refine ⟨fun q => absurd q (by decide), fun i t0 hi e => ?_⟩
    have ei : i = 0 := by have : (nI 0).toInt = 0 := rfl; omega
    subst ei
    cases hi
    simp only [↓s_4_92, ↓s_4_93, kd_uF, ln_uF, ai_uF, al_uF, ar_uF, zs_uF, fd_uF, kd_uA, ln_uA, fd_uA, al_uA, ar_uA, zs_uA, ai_uA, kd_uL, ln_uL, fd_uL, ai_uL, ar_uL, zs_uL, al_uL, kd_uR, ln_uR, fd_uR, ai_uR, al_uR, zs_uR, ar_uR, true_and, and_true, Option.toList_some, Option.toList_none, List.cons_append, List.nil_append, catS_nil, catS_int, catS_ref, catS_null, catS_long, cat_int, cat_ref, cat_null, Nat.reduceEqDiff, Nat.reduceLeDiff, Nat.reduceAdd, false_and, and_false, if_false, if_true, ite_true, ite_false, true_or, or_true, false_or, or_false, and_self, forall_const, true_implies, reduceCtorEq, clr_int, clr_ref, clr_null, clr_none, clr_long, va_rf_some, va_rf_none]
    exact h w5 k5 ⟨_, C5⟩ (fun _ => ⟨C5, dt5⟩)
  · rw [hK]
    refine ⟨fun q => absurd q (by decide), fun i t0 hi e => ?_⟩
    have ei : i = 1 := by have : (nI 1).toInt = 1 := rfl; omega
    subst ei
    cases hi
    simp only [↓s_4_94, ↓s_4_95, ↓s_4_96, ↓s_4_99, ↓s_4_102, ↓s_4_105, ↓s_4_106, ↓s_4_109, ↓s_4_112, ↓s_4_115, ↓s_4_116, ↓s_4_119, ↓s_4_120, kd_uF, ln_uF, ai_uF, al_uF, ar_uF, zs_uF, fd_uF, kd_uA, ln_uA, fd_uA, al_uA, ar_uA, zs_uA, ai_uA, kd_uL, ln_uL, fd_uL, ai_uL, ar_uL, zs_uL, al_uL, kd_uR, ln_uR, fd_uR, ai_uR, al_uR, zs_uR, ar_uR, true_and, and_true, Option.toList_some, Option.toList_none, List.cons_append, List.nil_append, catS_nil, catS_int, catS_ref, catS_null, catS_long, cat_int, cat_ref, cat_null, Nat.reduceEqDiff, Nat.reduceLeDiff, Nat.reduceAdd, false_and, and_false, if_false, if_true, ite_true, ite_false, true_or, or_true, false_or, or_false, and_self, forall_const, true_implies, reduceCtorEq, clr_int, clr_ref, clr_null, clr_none, clr_long, va_rf_some, va_rf_none, hA5.1, hA5.2.2.2.1, s5'.1, va5, un5]
    have k6 : FK w (uF w5 8 (x + 3) (.int (nI v))) x := k5.dot
    have C6 : CB (uF w5 8 (x + 3) (.int (nI v))) x X.2 := C5.Fr (w' := uF w5 8 (x + 3) (.int (nI v))) (Fr.rf.F (lo := x + 3) (hi := x + 4) (by omega) (by omega)) (Or.inr (by omega))
    cases hvv : vAt T b X.2 dot p with
    | none =>
      have hs : s1 T a b t dot = (2, t, dot) := s1_1n hr hx0 (by rw [← hp]; exact hK) (by rw [← hX, ← hp]; exact hvv)
      rw [hs] at h
      exact ⟨fun q => absurd q (by decide), fun _ => h _ k6 ⟨_, C6⟩ (fun z => by cases z)⟩
    | some y =>
      have hs : s1 T a b t dot = (0, X.2, y) := by rw [s1_1s hr hx0 (by rw [← hp]; exact hK) (by rw [← hX, ← hp]; exact hvv), ← hX]
      rw [hs] at h
      refine ⟨fun _ => h _ k6 ⟨_, C6⟩ (fun _ => ⟨C6, ?_⟩), fun q => absurd rfl q⟩
      rw [fd_uF, if_pos ⟨rfl, rfl⟩, hvy y hvv]
  · rw [hK]
    refine ⟨fun q => absurd q (by decide), fun i t0 hi e => ?_⟩
    have ei : i = 2 := by have : (nI 2).toInt = 2 := rfl; omega
    subst ei
    cases hi
    have hte := knd_te hK
    have hn := (isTe_iff.mp hte).1
    simp only [↓s_4_121, ↓s_4_122, ↓s_4_125, ↓s_4_128, ↓s_4_131, ↓s_4_132, ↓s_4_135, ↓s_4_136, ↓s_4_139, ↓s_4_140, ↓s_4_143, ↓s_4_146, ↓s_4_147, ↓s_4_150, ↓s_4_153, ↓s_4_156, kd_uF, ln_uF, ai_uF, al_uF, ar_uF, zs_uF, fd_uF, kd_uA, ln_uA, fd_uA, al_uA, ar_uA, zs_uA, ai_uA, kd_uL, ln_uL, fd_uL, ai_uL, ar_uL, zs_uL, al_uL, kd_uR, ln_uR, fd_uR, ai_uR, al_uR, zs_uR, ar_uR, true_and, and_true, Option.toList_some, Option.toList_none, List.cons_append, List.nil_append, catS_nil, catS_int, catS_ref, catS_null, catS_long, cat_int, cat_ref, cat_null, Nat.reduceEqDiff, Nat.reduceLeDiff, Nat.reduceAdd, false_and, and_false, if_false, if_true, ite_true, ite_false, true_or, or_true, false_or, or_false, and_self, forall_const, true_implies, reduceCtorEq, clr_int, clr_ref, clr_null, clr_none, clr_long, va_rf_some, va_rf_none, hA5.1, hA5.2.2.1, hA5.2.2.2.1, s5'.1, va5, un5, ky5 hn, C5.1]
    cases hvv : vAt T b X.2 dot p with
    | none =>
      have hs : s1 T a b t dot = (2, t, dot) := s1_2n hr hx0 (by rw [← hp]; exact hK) (by rw [← hX, ← hp]; exact hvv)
      rw [hs] at h
      exact ⟨fun q => absurd q (by decide), fun _ => h _ k5 ⟨_, C5⟩ (fun z => by cases z)⟩
    | some y =>
      have hs : s1 T a b t dot = ((tl1 X.2 (nmE T b p) v).1, (tl1 X.2 (nmE T b p) v).2, dot) := by rw [s1_2s hr hx0 (by rw [← hp]; exact hK) (by rw [← hX, ← hp]; exact hvv), ← hX, ← hp, hvy y hvv]
      rw [hs] at h
      refine ⟨fun _ => sp_c_tell C5 hN4 nmE_ok (nmE_6 (isN_iff.mp hn).2) (fun w6 C6 f6 => ?_), fun q => absurd rfl q⟩
      simp only [↓s_4_156, kd_uF, ln_uF, ai_uF, al_uF, ar_uF, zs_uF, fd_uF, kd_uA, ln_uA, fd_uA, al_uA, ar_uA, zs_uA, ai_uA, kd_uL, ln_uL, fd_uL, ai_uL, ar_uL, zs_uL, al_uL, kd_uR, ln_uR, fd_uR, ai_uR, al_uR, zs_uR, ar_uR, true_and, and_true, Option.toList_some, Option.toList_none, List.cons_append, List.nil_append, catS_nil, catS_int, catS_ref, catS_null, catS_long, cat_int, cat_ref, cat_null, Nat.reduceEqDiff, Nat.reduceLeDiff, Nat.reduceAdd, false_and, and_false, if_false, if_true, ite_true, ite_false, true_or, or_true, false_or, or_false, and_self, forall_const, true_implies, reduceCtorEq, clr_int, clr_ref, clr_null, clr_none, clr_long, va_rf_some, va_rf_none]
      exact h w6 (k5.tr (FK.ofN f6)) ⟨_, C6⟩ (fun _ => ⟨C6, ((f6.2.2.2 (x + 3) (by omega)).1 _).trans dt5⟩)
  · have hs : s1 T a b t dot = (0, X.2, (dot + 1) % 4096) := by rw [s1_34 hr hx0 (by rw [← hp]; exact hK), ← hX]
    rw [hs] at h
    have C6 : CB (uF w5 8 (x + 3) (.int (nI ((dot + 1) % 4096)))) x X.2 := C5.Fr (w' := uF w5 8 (x + 3) (.int (nI ((dot + 1) % 4096)))) (Fr.rf.F (lo := x + 3) (hi := x + 4) (by omega) (by omega)) (Or.inr (by omega))
    refine ⟨fun _ => ?_, fun i t0 hi e => ?_⟩
    · simp only [↓s_4_157, ↓s_4_158, ↓s_4_159, ↓s_4_162, ↓s_4_163, ↓s_4_164, ↓s_4_167, ↓s_4_168, ↓s_4_171, ↓s_4_172, kd_uF, ln_uF, ai_uF, al_uF, ar_uF, zs_uF, fd_uF, kd_uA, ln_uA, fd_uA, al_uA, ar_uA, zs_uA, ai_uA, kd_uL, ln_uL, fd_uL, ai_uL, ar_uL, zs_uL, al_uL, kd_uR, ln_uR, fd_uR, ai_uR, al_uR, zs_uR, ar_uR, true_and, and_true, Option.toList_some, Option.toList_none, List.cons_append, List.nil_append, catS_nil, catS_int, catS_ref, catS_null, catS_long, cat_int, cat_ref, cat_null, Nat.reduceEqDiff, Nat.reduceLeDiff, Nat.reduceAdd, false_and, and_false, if_false, if_true, ite_true, ite_false, true_or, or_true, false_or, or_false, and_self, forall_const, true_implies, reduceCtorEq, clr_int, clr_ref, clr_null, clr_none, clr_long, va_rf_some, va_rf_none, hA5.1, dt5]
      rw [nI_1, m12 (by omega)]
      exact h _ k5.dot ⟨_, C6⟩ (fun _ => ⟨C6, by rw [fd_uF, if_pos ⟨rfl, rfl⟩]⟩)
    · rw [nI_int _ (by omega)] at e
      rcases i with _ | _ | _ | i
      · omega
      · omega
      · omega
      · exact absurd hi (by simp)
theorem sp_c_second {d : Nat} {w : aw} {x n a b : Nat} {T : Nat → Nat} {t : nt} {S : ps} {Q : wQ} (hA : ASh w x) (hS : SR w x T n b) (hat : fd w 258 (x + 11) = .int (nI (bE T b a))) (hab : a ≤ b) (hC : CB w x t) (hN : TN t) (hW : CW w x S) (hI : PI S) (hD : fd w 8 (x + 3) = .int (nI S.1)) (h99 : (s2 T a b t S).1 ≠ 99) (h : ∀ w', FrX w w' x → CB w' x t → (∃ S', CW w' x S' ∧ PI S') → ((s2 T a b t S).1 = 0 → CW w' x (s2 T a b t S).2 ∧ PI (s2 T a b t S).2 ∧ fd w' 8 (x + 3) = .int (nI (s2 T a b t S).2.1)) → Q (some (.int (nI (s2 T a b t S).1))) w') : wpD (d + 6) 7 [.ref (x + 3)] w Q := by
  refine ⟨Nat.le_of_ble_eq_true rfl, ?_⟩
  show wp (d + 5) 7 Q 0 [some (.ref (x + 3))] [] w 0 0
  have hd := hI.1
  have hbl := bE_le (T := T) hab
  obtain ⟨p, hp⟩ : ∃ p, p = p0 T a b := ⟨_, rfl⟩
  have hp0 : lbE T b (b - bE T b a) (bE T b a) = p := by rw [hp]; rfl
  have hpb : p ≤ b := by rw [← hp0]; exact (lbE_b hbl).2
  have hr : right T b (p0 T a b) = true := by
    cases c : right T b (p0 T a b) with
    | true => rfl
    | false => exact absurd (by unfold s2; rw [if_pos c]) h99
  simp only [↓s_7_0, ↓s_7_1, kd_uF, ln_uF, ai_uF, al_uF, ar_uF, zs_uF, fd_uF, kd_uA, ln_uA, fd_uA, al_uA, ar_uA, zs_uA, ai_uA, kd_uL, ln_uL, fd_uL, ai_uL, ar_uL, zs_uL, al_uL, kd_uR, ln_uR, fd_uR, ai_uR, al_uR, zs_uR, ar_uR, true_and, and_true, Option.toList_some, Option.toList_none, List.cons_append, List.nil_append, catS_nil, catS_int, catS_ref, catS_null, catS_long, cat_int, cat_ref, cat_null, Nat.reduceEqDiff, Nat.reduceLeDiff, Nat.reduceAdd, false_and, and_false, if_false, if_true, ite_true, ite_false, true_or, or_true, false_or, or_false, and_self, forall_const, true_implies, reduceCtorEq, clr_int, clr_ref, clr_null, clr_none, clr_long, va_rf_some, va_rf_none, hA.1]
  refine sp_c_skip hA hS hat hbl (fun w1 s1' at1 f1 => ?_)
  rw [hp0] at at1
  have k1 := FK.ofR f1 hS.S0 s1'
  have hA1 := hA.X k1.1
  have dt1 : fd w1 8 (x + 3) = .int (nI S.1) := ((f1.2.2.2 (x + 3) (by omega)).1 _).trans hD
  simp only [↓s_7_4, ↓s_7_5, ↓s_7_8, ↓s_7_9, ↓s_7_12, kd_uF, ln_uF, ai_uF, al_uF, ar_uF, zs_uF, fd_uF, kd_uA, ln_uA, fd_uA, al_uA, ar_uA, zs_uA, ai_uA, kd_uL, ln_uL, fd_uL, ai_uL, ar_uL, zs_uL, al_uL, kd_uR, ln_uR, fd_uR, ai_uR, al_uR, zs_uR, ar_uR, true_and, and_true, Option.toList_some, Option.toList_none, List.cons_append, List.nil_append, catS_nil, catS_int, catS_ref, catS_null, catS_long, cat_int, cat_ref, cat_null, Nat.reduceEqDiff, Nat.reduceLeDiff, Nat.reduceAdd, false_and, and_false, if_false, if_true, ite_true, ite_false, true_or, or_true, false_or, or_false, and_self, forall_const, true_implies, reduceCtorEq, clr_int, clr_ref, clr_null, clr_none, clr_long, va_rf_some, va_rf_none, hA1.1, hA1.2.2.2.1, dt1, s1'.1]
  refine sp_c_body s1' (hC.R f1) hN at1 hpb hd (fun w2 s2' f2 B2 => ?_)
  have k2 := k1.tr (FK.ofR f2 s1'.S0 s2')
  have hA2 := hA.X k2.1
  have C2 := (hC.R f1).R f2
  have W2 := hW.kept k2.2.1 k2.2.2
  have dt2 : fd w2 8 (x + 3) = .int (nI S.1) := ((f2.2.2.2 (x + 3) (by omega)).1 _).trans dt1
  obtain ⟨kd5, un5, ⟨v, hv4, va5, hvy⟩, op5, mk5, ky5⟩ := B2.2 (by rw [hp]; exact hr)
  have hk5 := knd_lt (T := T) (e := b) (p := p)
  simp only [↓s_7_15, ↓s_7_16, ↓s_7_19, ↓s_7_22, kd_uF, ln_uF, ai_uF, al_uF, ar_uF, zs_uF, fd_uF, kd_uA, ln_uA, fd_uA, al_uA, ar_uA, zs_uA, ai_uA, kd_uL, ln_uL, fd_uL, ai_uL, ar_uL, zs_uL, al_uL, kd_uR, ln_uR, fd_uR, ai_uR, al_uR, zs_uR, ar_uR, true_and, and_true, Option.toList_some, Option.toList_none, List.cons_append, List.nil_append, catS_nil, catS_int, catS_ref, catS_null, catS_long, cat_int, cat_ref, cat_null, Nat.reduceEqDiff, Nat.reduceLeDiff, Nat.reduceAdd, false_and, and_false, if_false, if_true, ite_true, ite_false, true_or, or_true, false_or, or_false, and_self, forall_const, true_implies, reduceCtorEq, clr_int, clr_ref, clr_null, clr_none, clr_long, va_rf_some, va_rf_none, hA2.1, hA2.2.2.2.1, s2'.1, kd5]
  have hc : (knd T b p = 0 ∨ knd T b p = 2) ∨ knd T b p = 1 ∨ knd T b p = 3 ∨ knd T b p = 4 := by omega
  rcases hc with hK | hK | hK | hK
  · have hs : s2 T a b t S = (0, S) := s2_0 hr (by rw [← hp]; exact hK)
    rw [hs] at h
    have fin := h w2 k2.1 C2 ⟨S, W2, hI⟩ (fun _ => ⟨W2, hI, dt2⟩)
    rw [nI_int _ (by omega)]
    refine ⟨fun q => by omega, fun i t0 hi e => ?_⟩
    rcases i with _ | _ | _ | _ | i
    · cases hi
      simp only [↓s_7_52, ↓s_7_53, kd_uF, ln_uF, ai_uF, al_uF, ar_uF, zs_uF, fd_uF, kd_uA, ln_uA, fd_uA, al_uA, ar_uA, zs_uA, ai_uA, kd_uL, ln_uL, fd_uL, ai_uL, ar_uL, zs_uL, al_uL, kd_uR, ln_uR, fd_uR, ai_uR, al_uR, zs_uR, ar_uR, true_and, and_true, Option.toList_some, Option.toList_none, List.cons_append, List.nil_append, catS_nil, catS_int, catS_ref, catS_null, catS_long, cat_int, cat_ref, cat_null, Nat.reduceEqDiff, Nat.reduceLeDiff, Nat.reduceAdd, false_and, and_false, if_false, if_true, ite_true, ite_false, true_or, or_true, false_or, or_false, and_self, forall_const, true_implies, reduceCtorEq, clr_int, clr_ref, clr_null, clr_none, clr_long, va_rf_some, va_rf_none]
      exact fin
    · omega
    · cases hi
      simp only [↓s_7_52, ↓s_7_53, kd_uF, ln_uF, ai_uF, al_uF, ar_uF, zs_uF, fd_uF, kd_uA, ln_uA, fd_uA, al_uA, ar_uA, zs_uA, ai_uA, kd_uL, ln_uL, fd_uL, ai_uL, ar_uL, zs_uL, al_uL, kd_uR, ln_uR, fd_uR, ai_uR, al_uR, zs_uR, ar_uR, true_and, and_true, Option.toList_some, Option.toList_none, List.cons_append, List.nil_append, catS_nil, catS_int, catS_ref, catS_null, catS_long, cat_int, cat_ref, cat_null, Nat.reduceEqDiff, Nat.reduceLeDiff, Nat.reduceAdd, false_and, and_false, if_false, if_true, ite_true, ite_false, true_or, or_true, false_or, or_false, and_self, forall_const, true_implies, reduceCtorEq, clr_int, clr_ref, clr_null, clr_none, clr_long, va_rf_some, va_rf_none]
      exact fin
    · omega
    · exact absurd hi (by simp)
  · rw [hK]
    refine ⟨fun q => absurd q (by decide), fun i t0 hi e => ?_⟩
    have ei : i = 1 := by have : (nI 1).toInt = 1 := rfl; omega
    subst ei
    cases hi
    cases hvv : vAt T b t S.1 p with
    | none => exact absurd (by rw [s2_1n hr (by rw [← hp]; exact hK) (by rw [← hp]; exact hvv)]) h99
    | some y =>
      have hs : s2 T a b t S = (0, (v, S.2)) := by rw [s2_1s hr (by rw [← hp]; exact hK) (by rw [← hp]; exact hvv), hvy y hvv]
      rw [hs] at h
      simp only [↓s_7_54, ↓s_7_55, ↓s_7_56, ↓s_7_59, ↓s_7_62, ↓s_7_65, ↓s_7_66, kd_uF, ln_uF, ai_uF, al_uF, ar_uF, zs_uF, fd_uF, kd_uA, ln_uA, fd_uA, al_uA, ar_uA, zs_uA, ai_uA, kd_uL, ln_uL, fd_uL, ai_uL, ar_uL, zs_uL, al_uL, kd_uR, ln_uR, fd_uR, ai_uR, al_uR, zs_uR, ar_uR, true_and, and_true, Option.toList_some, Option.toList_none, List.cons_append, List.nil_append, catS_nil, catS_int, catS_ref, catS_null, catS_long, cat_int, cat_ref, cat_null, Nat.reduceEqDiff, Nat.reduceLeDiff, Nat.reduceAdd, false_and, and_false, if_false, if_true, ite_true, ite_false, true_or, or_true, false_or, or_false, and_self, forall_const, true_implies, reduceCtorEq, clr_int, clr_ref, clr_null, clr_none, clr_long, va_rf_some, va_rf_none, hA2.1, hA2.2.2.2.1, s2'.1, va5]
      have W3 : CW (uF w2 8 (x + 3) (.int (nI v))) x (v, S.2) := W2.kept (by rw [fd_uF, if_neg (fun z => absurd z.1 (by decide))]) (fun _ _ _ _ => rfl)
      have C3 : CB (uF w2 8 (x + 3) (.int (nI v))) x t := C2.Fr (w' := uF w2 8 (x + 3) (.int (nI v))) (Fr.rf.F (lo := x + 3) (hi := x + 4) (by omega) (by omega)) (Or.inr (by omega))
      exact h _ k2.dot.1 C3 ⟨_, W3, hI.dot hv4⟩ (fun _ => ⟨W3, hI.dot hv4, by rw [fd_uF, if_pos ⟨rfl, rfl⟩]⟩)
  · rw [hK]
    refine ⟨fun q => absurd q (by decide), fun i t0 hi e => ?_⟩
    have ei : i = 3 := by have : (nI 3).toInt = 3 := rfl; omega
    subst ei
    cases hi
    have hs := s2_3 (S := S) (t := t) hr (by rw [← hp]; exact hK)
    obtain ⟨mi, hmi⟩ : ∃ mi, mwA T b p = some mi := by
      cases c : mwA T b p with
      | some mi => exact ⟨mi, rfl⟩
      | none =>
        exfalso
        unfold knd at hK
        rw [c] at hK
        split at hK
        · cases hK
        · split at hK
          · cases hK
          · split at hK
            · cases hK
            · rw [if_neg (by decide)] at hK; cases hK
    have hm6 : mi < 6 := by
      rw [mwA_K] at hmi
      exact (mw_in hmi).1
    obtain ⟨in5, li5⟩ := mk5 hK
    simp only [↓s_7_67, ↓s_7_68, ↓s_7_71, ↓s_7_74, ↓s_7_77, ↓s_7_78, ↓s_7_81, ↓s_7_82, ↓s_7_85, kd_uF, ln_uF, ai_uF, al_uF, ar_uF, zs_uF, fd_uF, kd_uA, ln_uA, fd_uA, al_uA, ar_uA, zs_uA, ai_uA, kd_uL, ln_uL, fd_uL, ai_uL, ar_uL, zs_uL, al_uL, kd_uR, ln_uR, fd_uR, ai_uR, al_uR, zs_uR, ar_uR, true_and, and_true, Option.toList_some, Option.toList_none, List.cons_append, List.nil_append, catS_nil, catS_int, catS_ref, catS_null, catS_long, cat_int, cat_ref, cat_null, Nat.reduceEqDiff, Nat.reduceLeDiff, Nat.reduceAdd, false_and, and_false, if_false, if_true, ite_true, ite_false, true_or, or_true, false_or, or_false, and_self, forall_const, true_implies, reduceCtorEq, clr_int, clr_ref, clr_null, clr_none, clr_long, va_rf_some, va_rf_none, hA2.1, hA2.2.2.2.1, s2'.1, un5]
    cases hvv : vAt T b t S.1 p with
    | none =>
      rw [hp] at hvv
      rw [hvv] at hs
      have hs' : s2 T a b t S = (2, S) := hs
      rw [hs'] at h
      exact ⟨fun q => absurd q (by decide), fun _ => h w2 k2.1 C2 ⟨S, W2, hI⟩ (fun z => by cases z)⟩
    | some y =>
      have hyv := hvy y hvv
      rw [hp] at hvv
      rw [hvv] at hs
      have hs' : s2 T a b t S = putM T b p v mi S := by rw [hs, ← hp, hmi, hyv]; rfl
      rw [hs'] at h
      refine ⟨fun _ => sp_c_putM hA2 s2'.1 W2 hI dt2 hv4 hm6 li5 va5 (op5 mi hmi) in5 (r := putM T b p v mi S) rfl (fun w3 hO => ?_), fun q => absurd rfl q⟩
      simp only [↓s_7_85, kd_uF, ln_uF, ai_uF, al_uF, ar_uF, zs_uF, fd_uF, kd_uA, ln_uA, fd_uA, al_uA, ar_uA, zs_uA, ai_uA, kd_uL, ln_uL, fd_uL, ai_uL, ar_uL, zs_uL, al_uL, kd_uR, ln_uR, fd_uR, ai_uR, al_uR, zs_uR, ar_uR, true_and, and_true, Option.toList_some, Option.toList_none, List.cons_append, List.nil_append, catS_nil, catS_int, catS_ref, catS_null, catS_long, cat_int, cat_ref, cat_null, Nat.reduceEqDiff, Nat.reduceLeDiff, Nat.reduceAdd, false_and, and_false, if_false, if_true, ite_true, ite_false, true_or, or_true, false_or, or_false, and_self, forall_const, true_implies, reduceCtorEq, clr_int, clr_ref, clr_null, clr_none, clr_long, va_rf_some, va_rf_none]
      exact h w3 (k2.1.tr hO.1.1) (C2.Y hO.1) hO.2.1 hO.2.2
  · have hs := s2_4 (S := S) (t := t) hr (by rw [← hp]; exact hK)
    rw [hK]
    refine ⟨fun _ => ?_, fun i t0 hi e => ?_⟩
    · simp only [↓s_7_86, ↓s_7_87, ↓s_7_90, ↓s_7_93, ↓s_7_96, ↓s_7_97, ↓s_7_100, ↓s_7_101, ↓s_7_102, ↓s_7_105, ↓s_7_108, ↓s_7_111, kd_uF, ln_uF, ai_uF, al_uF, ar_uF, zs_uF, fd_uF, kd_uA, ln_uA, fd_uA, al_uA, ar_uA, zs_uA, ai_uA, kd_uL, ln_uL, fd_uL, ai_uL, ar_uL, zs_uL, al_uL, kd_uR, ln_uR, fd_uR, ai_uR, al_uR, zs_uR, ar_uR, true_and, and_true, Option.toList_some, Option.toList_none, List.cons_append, List.nil_append, catS_nil, catS_int, catS_ref, catS_null, catS_long, cat_int, cat_ref, cat_null, Nat.reduceEqDiff, Nat.reduceLeDiff, Nat.reduceAdd, false_and, and_false, if_false, if_true, ite_true, ite_false, true_or, or_true, false_or, or_false, and_self, forall_const, true_implies, reduceCtorEq, clr_int, clr_ref, clr_null, clr_none, clr_long, va_rf_some, va_rf_none, hA2.1, hA2.2.2.2.1, s2'.1, un5, va5]
      cases hvv : vAt T b t S.1 p with
      | none =>
        rw [hp] at hvv
        rw [hvv] at hs
        have hs' : s2 T a b t S = (2, S) := hs
        rw [hs'] at h
        exact ⟨fun q => absurd q (by decide), fun _ => h w2 k2.1 C2 ⟨S, W2, hI⟩ (fun z => by cases z)⟩
      | some y =>
        have hyv := hvy y hvv
        rw [hp] at hvv
        rw [hvv] at hs
        have hs' : s2 T a b t S = putN S v := by rw [hs, hyv]
        rw [hs'] at h
        refine ⟨fun _ => sp_c_putN hA2 W2 hI dt2 hv4 (fun w3 hO => ?_), fun q => absurd rfl q⟩
        simp only [↓s_7_111, kd_uF, ln_uF, ai_uF, al_uF, ar_uF, zs_uF, fd_uF, kd_uA, ln_uA, fd_uA, al_uA, ar_uA, zs_uA, ai_uA, kd_uL, ln_uL, fd_uL, ai_uL, ar_uL, zs_uL, al_uL, kd_uR, ln_uR, fd_uR, ai_uR, al_uR, zs_uR, ar_uR, true_and, and_true, Option.toList_some, Option.toList_none, List.cons_append, List.nil_append, catS_nil, catS_int, catS_ref, catS_null, catS_long, cat_int, cat_ref, cat_null, Nat.reduceEqDiff, Nat.reduceLeDiff, Nat.reduceAdd, false_and, and_false, if_false, if_true, ite_true, ite_false, true_or, or_true, false_or, or_false, and_self, forall_const, true_implies, reduceCtorEq, clr_int, clr_ref, clr_null, clr_none, clr_long, va_rf_some, va_rf_none]
        exact h w3 (k2.1.tr hO.1.1) (C2.Y hO.1) hO.2.1 hO.2.2
    · have : (nI 4).toInt = 4 := rfl
      rcases i with _ | _ | _ | _ | i
      · omega
      · omega
      · omega
      · omega
      · exact absurd hi (by simp)
