theorem b255 (x : Int32) : x.toInt8.toInt32 &&& 255 = x &&& 255 := by
  apply Int32.toBitVec_inj.mp
  rw [Int32.toBitVec_and, Int32.toBitVec_and, Int8.toBitVec_toInt32, Int32.toBitVec_toInt8, show (255 : Int32).toBitVec = 255#32 from rfl]
  apply BitVec.eq_of_getLsbD_eq
  intro i hi
  rw [BitVec.getLsbD_and, BitVec.getLsbD_and]
  have e : (255#32).getLsbD i = decide (i < 8) := by
    rw [BitVec.getLsbD_ofNat, show 255 = 2 ^ 8 - 1 from rfl, Nat.testBit_two_pow_sub_one]
    simp [hi]
  rw [e]
  by_cases c : i < 8
  · rw [BitVec.getLsbD_signExtend, if_pos c, BitVec.getLsbD_signExtend, if_pos hi]
    simp [c, hi]
  · simp [c]
def CT (w : aw) (x : Nat) (t : tp) : Prop := fd w 448 x = .ref (x + 1) ∧ kd w (x + 1) = 6 ∧ fd w 320 (x + 1) = .ref (x + 2) ∧ kd w (x + 2) = 21 ∧ ln w (x + 2) = 8000 ∧ fd w 321 (x + 1) = .int (nI t.2.1) ∧ (∀ k, k < 8000 → ai w (x + 2) k &&& 255 = nI (t.1 k))
theorem CT.Fr {w w' : aw} {x lo hi : Nat} {t : tp} (h : CT w x t) (hF : Fr w w' lo hi) (h1 : x + 3 ≤ lo) : CT w' x t := by
  obtain ⟨a1, a2, a3, a4, a5, a6, a7⟩ := h
  obtain ⟨hk, hl, hz, ho⟩ := hF
  have o0 := ho x (by omega)
  have o1 := ho (x + 1) (by omega)
  have o2 := ho (x + 2) (by omega)
  exact ⟨(o0.1 _).trans a1, (hk _).trans a2, (o1.1 _).trans a3, (hk _).trans a4, (hl _).trans a5, (o1.1 _).trans a6, fun k hk' => by rw [o2.2.1]; exact a7 k hk'⟩
theorem sp_T_room {d : Nat} {w : aw} {x n : Nat} {t : tp} {Q : wQ} (hT : CT w x t) (hI : TI t) (hn : n ≤ 20) (h1 : t.2.1 + n ≤ 8000 → Q (some (.int 1)) w) (h2 : ¬ t.2.1 + n ≤ 8000 → Q (some (.int 0)) w) : wpD (d + 1) 57 [.ref (x + 1), .int (nI n)] w Q := by
  refine ⟨Nat.le_of_ble_eq_true rfl, ?_⟩
  show wp d 57 Q 0 [some (.ref (x + 1)), some (.int (nI n))] [] w 0 0
  obtain ⟨a1, a2, a3, a4, a5, a6, a7⟩ := hT
  have hi := hI.1
  simp only [↓s_57_0, ↓s_57_1, ↓s_57_4, ↓s_57_5, ↓s_57_6, ↓s_57_9, ↓s_57_12, ↓s_57_13, ↓s_57_16, ↓s_57_17, kd_uF, ln_uF, ai_uF, al_uF, ar_uF, zs_uF, fd_uF, kd_uA, ln_uA, fd_uA, al_uA, ar_uA, zs_uA, ai_uA, kd_uL, ln_uL, fd_uL, ai_uL, ar_uL, zs_uL, al_uL, kd_uR, ln_uR, fd_uR, ai_uR, al_uR, zs_uR, ar_uR, true_and, and_true, Option.toList_some, Option.toList_none, List.cons_append, List.nil_append, catS_nil, catS_int, catS_ref, catS_null, catS_long, cat_int, cat_ref, cat_null, Nat.reduceEqDiff, Nat.reduceLeDiff, Nat.reduceAdd, false_and, and_false, if_false, if_true, ite_true, ite_false, true_or, or_true, false_or, or_false, and_self, forall_const, true_implies, reduceCtorEq, clr_int, clr_ref, clr_null, clr_none, clr_long, va_rf_some, va_rf_none, a2, a6]
  rw [nI_add, show (8000 : Int32) = nI 8000 from rfl, nI_ltI (by decide) (by omega)]
  exact ⟨fun q => ⟨rfl, h2 (by omega)⟩, fun q => ⟨rfl, h1 (by omega)⟩⟩
theorem TI.lay {t : tp} {v : Int32} (h : TI t) (hn : t.2.1 + 4 ≤ 8000) : TI (l_lay t.1 t.2.1 v, t.2.1 + 4, t.2.2) := by
  refine ⟨hn, fun k => ?_⟩
  have b : ∀ s, b8 v s < 256 := fun s => Nat.mod_lt _ (by decide)
  show l_lay t.1 t.2.1 v k < 256
  unfold l_lay va_up
  split
  · exact b _
  · split
    · exact b _
    · split
      · exact b _
      · split
        · exact b _
        · exact h.2 k
theorem sp_T_append {d : Nat} {w : aw} {x : Nat} {v : Int32} {t : tp} {Q : wQ} (hT : CT w x t) (hI : TI t) (hn : t.2.1 + 4 ≤ 8000) (h : ∀ w', CT w' x (l_lay t.1 t.2.1 v, t.2.1 + 4, t.2.2) → Fr w w' (x + 1) (x + 3) → Q none w') : wpD (d + 2) 58 [.ref (x + 1), .int v] w Q := by
  refine ⟨Nat.le_of_ble_eq_true rfl, ?_⟩
  show wp (d + 1) 58 Q 0 [some (.ref (x + 1)), some (.int v), none] [] w 0 0
  have it : ∀ (s : Int32) (n : Nat) (T : Nat → Nat) (w1 : aw), ¬ s < 0 → n < 8000 → Fr w w1 (x + 1) (x + 3) → CT w1 x (T, n, t.2.2) → (∀ w2, Fr w w2 (x + 1) (x + 3) → CT w2 x (va_up T n (b8 v s), n + 1, t.2.2) → wp (d + 1) 58 Q 12 [some (.ref (x + 1)), some (.int v), some (.int (s + (-8)))] [] w2 0 0) → wp (d + 1) 58 Q 12 [some (.ref (x + 1)), some (.int v), some (.int s)] [] w1 0 0 := by
    intro s n T w1 h0 h1 h2 h3 h5
    obtain ⟨a1, a2, a3, a4, a5, a6, a7⟩ := h3
    rw [s_58_12]
    simp only [↓s_58_13, ↓s_58_16, ↓s_58_17, ↓s_58_20, ↓s_58_21, ↓s_58_24, ↓s_58_25, ↓s_58_26, ↓s_58_27, ↓s_58_28, ↓s_58_29, ↓s_58_30, ↓s_58_31, ↓s_58_34, ↓s_58_35, ↓s_58_36, ↓s_58_39, ↓s_58_42, ↓s_58_45, kd_uF, ln_uF, ai_uF, al_uF, ar_uF, zs_uF, fd_uF, kd_uA, ln_uA, fd_uA, al_uA, ar_uA, zs_uA, ai_uA, kd_uL, ln_uL, fd_uL, ai_uL, ar_uL, zs_uL, al_uL, kd_uR, ln_uR, fd_uR, ai_uR, al_uR, zs_uR, ar_uR, true_and, and_true, Option.toList_some, Option.toList_none, List.cons_append, List.nil_append, catS_nil, catS_int, catS_ref, catS_null, catS_long, cat_int, cat_ref, cat_null, Nat.reduceEqDiff, Nat.reduceLeDiff, Nat.reduceAdd, false_and, and_false, if_false, if_true, ite_true, ite_false, true_or, or_true, false_or, or_false, and_self, forall_const, true_implies, reduceCtorEq, clr_int, clr_ref, clr_null, clr_none, clr_long, va_rf_some, va_rf_none, a2, a3, a4, a5, a6, clN (show n < 2147483648 by omega), vp_nar_byte]
    refine ⟨fun q => absurd q h0, fun _ => ⟨inR_nI h1 (by decide), ?_⟩⟩
    rw [nI_1]
    refine h5 _ ((h2.A (by omega) (by omega)).F (by omega) (by omega)) ⟨?_, a2, ?_, a4, a5, by rw [fd_uF, if_pos ⟨rfl, rfl⟩], fun k hk => ?_⟩
    · rw [fd_uF, if_neg (fun q => by omega)]; exact a1
    · rw [fd_uF, if_neg (fun q => absurd q.1 (by decide))]; exact a3
    · rw [ai_uF, ai_uA]
      show _ = nI (va_up T n (b8 v s) k)
      unfold va_up
      by_cases c : k = n
      · rw [if_pos ⟨rfl, c⟩, if_pos c, b255, b255, and255]; rfl
      · rw [if_neg (fun q => c q.2), if_neg c]; exact a7 k hk
  have hT0 := hT
  obtain ⟨a1, a2, a3, a4, a5, a6, a7⟩ := hT
  simp only [↓s_58_0, ↓s_58_1, ↓s_58_2, kd_uF, ln_uF, ai_uF, al_uF, ar_uF, zs_uF, fd_uF, kd_uA, ln_uA, fd_uA, al_uA, ar_uA, zs_uA, ai_uA, kd_uL, ln_uL, fd_uL, ai_uL, ar_uL, zs_uL, al_uL, kd_uR, ln_uR, fd_uR, ai_uR, al_uR, zs_uR, ar_uR, true_and, and_true, Option.toList_some, Option.toList_none, List.cons_append, List.nil_append, catS_nil, catS_int, catS_ref, catS_null, catS_long, cat_int, cat_ref, cat_null, Nat.reduceEqDiff, Nat.reduceLeDiff, Nat.reduceAdd, false_and, and_false, if_false, if_true, ite_true, ite_false, true_or, or_true, false_or, or_false, and_self, forall_const, true_implies, reduceCtorEq, clr_int, clr_ref, clr_null, clr_none, clr_long, va_rf_some, va_rf_none, a2]
  refine sp_T_room (n := 4) hT0 hI (by decide) (fun _ => ?_) (fun q => absurd hn q)
  simp only [↓s_58_5, ↓s_58_8, ↓s_58_9, ↓s_58_11, kd_uF, ln_uF, ai_uF, al_uF, ar_uF, zs_uF, fd_uF, kd_uA, ln_uA, fd_uA, al_uA, ar_uA, zs_uA, ai_uA, kd_uL, ln_uL, fd_uL, ai_uL, ar_uL, zs_uL, al_uL, kd_uR, ln_uR, fd_uR, ai_uR, al_uR, zs_uR, ar_uR, true_and, and_true, Option.toList_some, Option.toList_none, List.cons_append, List.nil_append, catS_nil, catS_int, catS_ref, catS_null, catS_long, cat_int, cat_ref, cat_null, Nat.reduceEqDiff, Nat.reduceLeDiff, Nat.reduceAdd, false_and, and_false, if_false, if_true, ite_true, ite_false, true_or, or_true, false_or, or_false, and_self, forall_const, true_implies, reduceCtorEq, clr_int, clr_ref, clr_null, clr_none, clr_long, va_rf_some, va_rf_none]
  refine ⟨fun _ => ?_, fun q => absurd q (by decide)⟩
  refine it 24 t.2.1 t.1 w (by decide) (by omega) Fr.rf hT0 (fun w1 a1 a2 => ?_)
  rw [show (24 : Int32) + -8 = 16 from by decide]
  refine it 16 (t.2.1 + 1) _ w1 (by decide) (by omega) a1 a2 (fun w2 b1 b2 => ?_)
  rw [show (16 : Int32) + -8 = 8 from by decide]
  refine it 8 (t.2.1 + 2) _ w2 (by decide) (by omega) b1 b2 (fun w3 c1 c2 => ?_)
  rw [show (8 : Int32) + -8 = 0 from by decide]
  refine it 0 (t.2.1 + 3) _ w3 (by decide) (by omega) c1 c2 (fun w4 e1 e2 => ?_)
  rw [show (0 : Int32) + -8 = -8 from by decide, s_58_12]
  simp only [↓s_58_13, ↓s_58_45, kd_uF, ln_uF, ai_uF, al_uF, ar_uF, zs_uF, fd_uF, kd_uA, ln_uA, fd_uA, al_uA, ar_uA, zs_uA, ai_uA, kd_uL, ln_uL, fd_uL, ai_uL, ar_uL, zs_uL, al_uL, kd_uR, ln_uR, fd_uR, ai_uR, al_uR, zs_uR, ar_uR, true_and, and_true, Option.toList_some, Option.toList_none, List.cons_append, List.nil_append, catS_nil, catS_int, catS_ref, catS_null, catS_long, cat_int, cat_ref, cat_null, Nat.reduceEqDiff, Nat.reduceLeDiff, Nat.reduceAdd, false_and, and_false, if_false, if_true, ite_true, ite_false, true_or, or_true, false_or, or_false, and_self, forall_const, true_implies, reduceCtorEq, clr_int, clr_ref, clr_null, clr_none, clr_long, va_rf_some, va_rf_none]
  exact ⟨fun _ => h w4 e2 e1, fun q => absurd (by decide) q⟩
theorem sp_C_feed {dd : Nat} {w : aw} {x : Nat} {a b c d e : Int32} {t : tp} {Q : wQ} (kx : kd w x = 8) (hT : CT w x t) (hI : TI t) (h : ∀ w', CT w' x (c_feed t a b c d e).2 → Fr w w' (x + 1) (x + 3) → Q (some (.int (c_feed t a b c d e).1)) w') : wpD (dd + 3) 80 [.ref x, .int a, .int b, .int c, .int d, .int e] w Q := by
  refine ⟨Nat.le_of_ble_eq_true rfl, ?_⟩
  show wp (dd + 2) 80 Q 0 [some (.ref x), some (.int a), some (.int b), some (.int c), some (.int d), some (.int e)] [] w 0 0
  have t1 := hT.1
  have t2 := hT.2.1
  have h1 := hI.1
  simp only [↓s_80_0, ↓s_80_1, ↓s_80_4, ↓s_80_6, kd_uF, ln_uF, ai_uF, al_uF, ar_uF, zs_uF, fd_uF, kd_uA, ln_uA, fd_uA, al_uA, ar_uA, zs_uA, ai_uA, kd_uL, ln_uL, fd_uL, ai_uL, ar_uL, zs_uL, al_uL, kd_uR, ln_uR, fd_uR, ai_uR, al_uR, zs_uR, ar_uR, true_and, and_true, Option.toList_some, Option.toList_none, List.cons_append, List.nil_append, catS_nil, catS_int, catS_ref, catS_null, catS_long, cat_int, cat_ref, cat_null, Nat.reduceEqDiff, Nat.reduceLeDiff, Nat.reduceAdd, false_and, and_false, if_false, if_true, ite_true, ite_false, true_or, or_true, false_or, or_false, and_self, forall_const, true_implies, reduceCtorEq, clr_int, clr_ref, clr_null, clr_none, clr_long, va_rf_some, va_rf_none, kx, t1, t2]
  refine sp_T_room (n := 20) hT hI (by decide) (fun q => ?_) (fun q => ?_)
  · have hc : c_feed t a b c d e = (nI (t.2.1 + 20), (l_lay (l_lay (l_lay (l_lay (l_lay t.1 t.2.1 a) (t.2.1 + 4) b) (t.2.1 + 8) c) (t.2.1 + 12) d) (t.2.1 + 16) e, t.2.1 + 20, t.2.2)) := if_pos q
    rw [hc] at h
    simp only [↓s_80_9, ↓s_80_12, ↓s_80_13, ↓s_80_14, ↓s_80_15, ↓s_80_18, ↓s_80_19, kd_uF, ln_uF, ai_uF, al_uF, ar_uF, zs_uF, fd_uF, kd_uA, ln_uA, fd_uA, al_uA, ar_uA, zs_uA, ai_uA, kd_uL, ln_uL, fd_uL, ai_uL, ar_uL, zs_uL, al_uL, kd_uR, ln_uR, fd_uR, ai_uR, al_uR, zs_uR, ar_uR, true_and, and_true, Option.toList_some, Option.toList_none, List.cons_append, List.nil_append, catS_nil, catS_int, catS_ref, catS_null, catS_long, cat_int, cat_ref, cat_null, Nat.reduceEqDiff, Nat.reduceLeDiff, Nat.reduceAdd, false_and, and_false, if_false, if_true, ite_true, ite_false, true_or, or_true, false_or, or_false, and_self, forall_const, true_implies, reduceCtorEq, clr_int, clr_ref, clr_null, clr_none, clr_long, va_rf_some, va_rf_none, kx, t1, t2]
    refine ⟨fun _ => sp_T_append hT hI (by omega) (fun w1 a1 a2 => ?_), fun q => absurd q (by decide)⟩
    have k1 := (a2.1 x).trans kx
    have u1 := a1.1
    have v1 := a1.2.1
    have I1 := hI.lay (v := a) (show t.2.1 + 4 ≤ 8000 by omega)
    simp only [↓s_80_22, ↓s_80_23, ↓s_80_26, ↓s_80_27, kd_uF, ln_uF, ai_uF, al_uF, ar_uF, zs_uF, fd_uF, kd_uA, ln_uA, fd_uA, al_uA, ar_uA, zs_uA, ai_uA, kd_uL, ln_uL, fd_uL, ai_uL, ar_uL, zs_uL, al_uL, kd_uR, ln_uR, fd_uR, ai_uR, al_uR, zs_uR, ar_uR, true_and, and_true, Option.toList_some, Option.toList_none, List.cons_append, List.nil_append, catS_nil, catS_int, catS_ref, catS_null, catS_long, cat_int, cat_ref, cat_null, Nat.reduceEqDiff, Nat.reduceLeDiff, Nat.reduceAdd, false_and, and_false, if_false, if_true, ite_true, ite_false, true_or, or_true, false_or, or_false, and_self, forall_const, true_implies, reduceCtorEq, clr_int, clr_ref, clr_null, clr_none, clr_long, va_rf_some, va_rf_none, k1, u1, v1]
    refine sp_T_append a1 I1 (by show t.2.1 + 4 + 4 ≤ 8000; omega) (fun w2 b1 b2 => ?_)
    have f2 := a2.tr b2
    have k2 := (f2.1 x).trans kx
    have u2 := b1.1
    have v2 := b1.2.1
    have I2 := I1.lay (v := b) (show t.2.1 + 4 + 4 ≤ 8000 by omega)
    simp only [↓s_80_30, ↓s_80_31, ↓s_80_34, ↓s_80_35, kd_uF, ln_uF, ai_uF, al_uF, ar_uF, zs_uF, fd_uF, kd_uA, ln_uA, fd_uA, al_uA, ar_uA, zs_uA, ai_uA, kd_uL, ln_uL, fd_uL, ai_uL, ar_uL, zs_uL, al_uL, kd_uR, ln_uR, fd_uR, ai_uR, al_uR, zs_uR, ar_uR, true_and, and_true, Option.toList_some, Option.toList_none, List.cons_append, List.nil_append, catS_nil, catS_int, catS_ref, catS_null, catS_long, cat_int, cat_ref, cat_null, Nat.reduceEqDiff, Nat.reduceLeDiff, Nat.reduceAdd, false_and, and_false, if_false, if_true, ite_true, ite_false, true_or, or_true, false_or, or_false, and_self, forall_const, true_implies, reduceCtorEq, clr_int, clr_ref, clr_null, clr_none, clr_long, va_rf_some, va_rf_none, k2, u2, v2]
    refine sp_T_append b1 I2 (by show t.2.1 + 4 + 4 + 4 ≤ 8000; omega) (fun w3 c1 c2 => ?_)
    have f3 := f2.tr c2
    have k3 := (f3.1 x).trans kx
    have u3 := c1.1
    have v3 := c1.2.1
    have I3 := I2.lay (v := c) (show t.2.1 + 4 + 4 + 4 ≤ 8000 by omega)
    simp only [↓s_80_38, ↓s_80_39, ↓s_80_42, ↓s_80_44, kd_uF, ln_uF, ai_uF, al_uF, ar_uF, zs_uF, fd_uF, kd_uA, ln_uA, fd_uA, al_uA, ar_uA, zs_uA, ai_uA, kd_uL, ln_uL, fd_uL, ai_uL, ar_uL, zs_uL, al_uL, kd_uR, ln_uR, fd_uR, ai_uR, al_uR, zs_uR, ar_uR, true_and, and_true, Option.toList_some, Option.toList_none, List.cons_append, List.nil_append, catS_nil, catS_int, catS_ref, catS_null, catS_long, cat_int, cat_ref, cat_null, Nat.reduceEqDiff, Nat.reduceLeDiff, Nat.reduceAdd, false_and, and_false, if_false, if_true, ite_true, ite_false, true_or, or_true, false_or, or_false, and_self, forall_const, true_implies, reduceCtorEq, clr_int, clr_ref, clr_null, clr_none, clr_long, va_rf_some, va_rf_none, k3, u3, v3]
    refine sp_T_append c1 I3 (by show t.2.1 + 4 + 4 + 4 + 4 ≤ 8000; omega) (fun w4 d1 d2 => ?_)
    have f4 := f3.tr d2
    have k4 := (f4.1 x).trans kx
    have u4 := d1.1
    have v4 := d1.2.1
    have I4 := I3.lay (v := d) (show t.2.1 + 4 + 4 + 4 + 4 ≤ 8000 by omega)
    simp only [↓s_80_47, ↓s_80_48, ↓s_80_51, ↓s_80_53, kd_uF, ln_uF, ai_uF, al_uF, ar_uF, zs_uF, fd_uF, kd_uA, ln_uA, fd_uA, al_uA, ar_uA, zs_uA, ai_uA, kd_uL, ln_uL, fd_uL, ai_uL, ar_uL, zs_uL, al_uL, kd_uR, ln_uR, fd_uR, ai_uR, al_uR, zs_uR, ar_uR, true_and, and_true, Option.toList_some, Option.toList_none, List.cons_append, List.nil_append, catS_nil, catS_int, catS_ref, catS_null, catS_long, cat_int, cat_ref, cat_null, Nat.reduceEqDiff, Nat.reduceLeDiff, Nat.reduceAdd, false_and, and_false, if_false, if_true, ite_true, ite_false, true_or, or_true, false_or, or_false, and_self, forall_const, true_implies, reduceCtorEq, clr_int, clr_ref, clr_null, clr_none, clr_long, va_rf_some, va_rf_none, k4, u4, v4]
    refine sp_T_append d1 I4 (by show t.2.1 + 4 + 4 + 4 + 4 + 4 ≤ 8000; omega) (fun w5 e1 e2 => ?_)
    have f5 := f4.tr e2
    have k5 := (f5.1 x).trans kx
    have u5 := e1.1
    have v5 := e1.2.1
    have n5 := e1.2.2.2.2.2.1
    simp only [↓s_80_56, ↓s_80_57, ↓s_80_60, ↓s_80_63, kd_uF, ln_uF, ai_uF, al_uF, ar_uF, zs_uF, fd_uF, kd_uA, ln_uA, fd_uA, al_uA, ar_uA, zs_uA, ai_uA, kd_uL, ln_uL, fd_uL, ai_uL, ar_uL, zs_uL, al_uL, kd_uR, ln_uR, fd_uR, ai_uR, al_uR, zs_uR, ar_uR, true_and, and_true, Option.toList_some, Option.toList_none, List.cons_append, List.nil_append, catS_nil, catS_int, catS_ref, catS_null, catS_long, cat_int, cat_ref, cat_null, Nat.reduceEqDiff, Nat.reduceLeDiff, Nat.reduceAdd, false_and, and_false, if_false, if_true, ite_true, ite_false, true_or, or_true, false_or, or_false, and_self, forall_const, true_implies, reduceCtorEq, clr_int, clr_ref, clr_null, clr_none, clr_long, va_rf_some, va_rf_none, k5, u5, v5, n5]
    exact h w5 e1 f5
  · have hc : c_feed t a b c d e = (-1, t) := if_neg q
    rw [hc] at h
    simp only [↓s_80_9, ↓s_80_12, ↓s_80_13, ↓s_80_14, ↓s_80_15, ↓s_80_18, ↓s_80_19, kd_uF, ln_uF, ai_uF, al_uF, ar_uF, zs_uF, fd_uF, kd_uA, ln_uA, fd_uA, al_uA, ar_uA, zs_uA, ai_uA, kd_uL, ln_uL, fd_uL, ai_uL, ar_uL, zs_uL, al_uL, kd_uR, ln_uR, fd_uR, ai_uR, al_uR, zs_uR, ar_uR, true_and, and_true, Option.toList_some, Option.toList_none, List.cons_append, List.nil_append, catS_nil, catS_int, catS_ref, catS_null, catS_long, cat_int, cat_ref, cat_null, Nat.reduceEqDiff, Nat.reduceLeDiff, Nat.reduceAdd, false_and, and_false, if_false, if_true, ite_true, ite_false, true_or, or_true, false_or, or_false, and_self, forall_const, true_implies, reduceCtorEq, clr_int, clr_ref, clr_null, clr_none, clr_long, va_rf_some, va_rf_none]
    exact ⟨fun q => absurd trivial q, h w hT Fr.rf⟩
theorem sp_T_cut {d : Nat} {w : aw} {x : Nat} {n : Int32} {t : tp} {Q : wQ} (hT : CT w x t) (hI : TI t) (h1 : ∀ k w', rg n (t.2.1 + 1) = some k → n = nI k → CT w' x (t.1, k, t.2.2) → Fr w w' (x + 1) (x + 3) → Q (some (.int 1)) w') (h2 : rg n (t.2.1 + 1) = none → Q (some (.int 0)) w) : wpD (d + 1) 59 [.ref (x + 1), .int n] w Q := by
  refine ⟨Nat.le_of_ble_eq_true rfl, ?_⟩
  show wp d 59 Q 0 [some (.ref (x + 1)), some (.int n)] [] w 0 0
  have hi := hI.1
  obtain ⟨a1, a2, a3, a4, a5, a6, a7⟩ := hT
  cases e : rg n (t.2.1 + 1) with
  | none =>
    have j12 : wp d 59 Q 12 [some (.ref (x + 1)), some (.int n)] [] w 0 0 := by
      simp only [↓s_59_12, ↓s_59_13, kd_uF, ln_uF, ai_uF, al_uF, ar_uF, zs_uF, fd_uF, kd_uA, ln_uA, fd_uA, al_uA, ar_uA, zs_uA, ai_uA, kd_uL, ln_uL, fd_uL, ai_uL, ar_uL, zs_uL, al_uL, kd_uR, ln_uR, fd_uR, ai_uR, al_uR, zs_uR, ar_uR, true_and, and_true, Option.toList_some, Option.toList_none, List.cons_append, List.nil_append, catS_nil, catS_int, catS_ref, catS_null, catS_long, cat_int, cat_ref, cat_null, Nat.reduceEqDiff, Nat.reduceLeDiff, Nat.reduceAdd, false_and, and_false, if_false, if_true, ite_true, ite_false, true_or, or_true, false_or, or_false, and_self, forall_const, true_implies, reduceCtorEq, clr_int, clr_ref, clr_null, clr_none, clr_long, va_rf_some, va_rf_none]
      exact ⟨rfl, h2 e⟩
    simp only [↓s_59_0, ↓s_59_1, ↓s_59_4, ↓s_59_5, ↓s_59_6, ↓s_59_9, ↓s_59_14, ↓s_59_15, ↓s_59_16, ↓s_59_19, ↓s_59_20, kd_uF, ln_uF, ai_uF, al_uF, ar_uF, zs_uF, fd_uF, kd_uA, ln_uA, fd_uA, al_uA, ar_uA, zs_uA, ai_uA, kd_uL, ln_uL, fd_uL, ai_uL, ar_uL, zs_uL, al_uL, kd_uR, ln_uR, fd_uR, ai_uR, al_uR, zs_uR, ar_uR, true_and, and_true, Option.toList_some, Option.toList_none, List.cons_append, List.nil_append, catS_nil, catS_int, catS_ref, catS_null, catS_long, cat_int, cat_ref, cat_null, Nat.reduceEqDiff, Nat.reduceLeDiff, Nat.reduceAdd, false_and, and_false, if_false, if_true, ite_true, ite_false, true_or, or_true, false_or, or_false, and_self, forall_const, true_implies, reduceCtorEq, clr_int, clr_ref, clr_null, clr_none, clr_long, va_rf_some, va_rf_none, a2, a6]
    refine ⟨fun _ => j12, fun q => ⟨fun q2 => ?_, fun _ => j12⟩⟩
    exfalso
    have h0 : 0 ≤ n := Int32.not_lt.mp q
    have hx := nI_back h0
    have hl := clamp_lt n
    rw [← hx, nI_leI (by omega) (by omega)] at q2
    unfold rg at e
    rw [if_pos ⟨h0, by omega⟩] at e
    cases e
  | some k =>
    have hk := rg_in e
    have hk2 := hk.2
    subst hk2
    simp only [↓s_59_0, ↓s_59_1, ↓s_59_4, ↓s_59_5, ↓s_59_6, ↓s_59_9, ↓s_59_14, ↓s_59_15, ↓s_59_16, ↓s_59_19, ↓s_59_20, kd_uF, ln_uF, ai_uF, al_uF, ar_uF, zs_uF, fd_uF, kd_uA, ln_uA, fd_uA, al_uA, ar_uA, zs_uA, ai_uA, kd_uL, ln_uL, fd_uL, ai_uL, ar_uL, zs_uL, al_uL, kd_uR, ln_uR, fd_uR, ai_uR, al_uR, zs_uR, ar_uR, true_and, and_true, Option.toList_some, Option.toList_none, List.cons_append, List.nil_append, catS_nil, catS_int, catS_ref, catS_null, catS_long, cat_int, cat_ref, cat_null, Nat.reduceEqDiff, Nat.reduceLeDiff, Nat.reduceAdd, false_and, and_false, if_false, if_true, ite_true, ite_false, true_or, or_true, false_or, or_false, and_self, forall_const, true_implies, reduceCtorEq, clr_int, clr_ref, clr_null, clr_none, clr_long, va_rf_some, va_rf_none, a2, a6]
    refine ⟨fun q => absurd q (nI_pos (by omega)), fun _ => ⟨fun _ => ⟨rfl, h1 k _ e rfl ⟨?_, a2, ?_, a4, a5, by rw [fd_uF, if_pos ⟨rfl, rfl⟩], a7⟩ (Fr.rf.F (by omega) (by omega))⟩, fun q => absurd (nI_le (by omega) (by omega)) q⟩⟩
    · rw [fd_uF, if_neg (fun q => by omega)]; exact a1
    · rw [fd_uF, if_neg (fun q => absurd q.1 (by decide))]; exact a3
theorem sp_C_end {d : Nat} {w : aw} {x : Nat} {n : Int32} {t : tp} {Q : wQ} (kx : kd w x = 8) (hT : CT w x t) (hI : TI t) (h : ∀ w', CT w' x (c_end t n).2 → Fr w w' (x + 1) (x + 3) → Q (some (.int (c_end t n).1)) w') : wpD (d + 2) 81 [.ref x, .int n] w Q := by
  refine ⟨Nat.le_of_ble_eq_true rfl, ?_⟩
  show wp (d + 1) 81 Q 0 [some (.ref x), some (.int n)] [] w 0 0
  have t1 := hT.1
  have t2 := hT.2.1
  simp only [↓s_81_0, ↓s_81_1, ↓s_81_4, ↓s_81_5, kd_uF, ln_uF, ai_uF, al_uF, ar_uF, zs_uF, fd_uF, kd_uA, ln_uA, fd_uA, al_uA, ar_uA, zs_uA, ai_uA, kd_uL, ln_uL, fd_uL, ai_uL, ar_uL, zs_uL, al_uL, kd_uR, ln_uR, fd_uR, ai_uR, al_uR, zs_uR, ar_uR, true_and, and_true, Option.toList_some, Option.toList_none, List.cons_append, List.nil_append, catS_nil, catS_int, catS_ref, catS_null, catS_long, cat_int, cat_ref, cat_null, Nat.reduceEqDiff, Nat.reduceLeDiff, Nat.reduceAdd, false_and, and_false, if_false, if_true, ite_true, ite_false, true_or, or_true, false_or, or_false, and_self, forall_const, true_implies, reduceCtorEq, clr_int, clr_ref, clr_null, clr_none, clr_long, va_rf_some, va_rf_none, kx, t1, t2]
  refine sp_T_cut hT hI (fun k w1 a1 a2 a3 a4 => ?_) (fun a1 => ?_)
  · have hc : c_end t n = (nI k, (t.1, k, t.2.2)) := by unfold c_end; rw [a1]
    rw [hc] at h
    simp only [↓s_81_8, ↓s_81_11, ↓s_81_12, ↓s_81_15, ↓s_81_16, kd_uF, ln_uF, ai_uF, al_uF, ar_uF, zs_uF, fd_uF, kd_uA, ln_uA, fd_uA, al_uA, ar_uA, zs_uA, ai_uA, kd_uL, ln_uL, fd_uL, ai_uL, ar_uL, zs_uL, al_uL, kd_uR, ln_uR, fd_uR, ai_uR, al_uR, zs_uR, ar_uR, true_and, and_true, Option.toList_some, Option.toList_none, List.cons_append, List.nil_append, catS_nil, catS_int, catS_ref, catS_null, catS_long, cat_int, cat_ref, cat_null, Nat.reduceEqDiff, Nat.reduceLeDiff, Nat.reduceAdd, false_and, and_false, if_false, if_true, ite_true, ite_false, true_or, or_true, false_or, or_false, and_self, forall_const, true_implies, reduceCtorEq, clr_int, clr_ref, clr_null, clr_none, clr_long, va_rf_some, va_rf_none]
    rw [a2]
    exact ⟨fun q => absurd q (by decide), fun _ => h w1 a3 a4⟩
  · have hc : c_end t n = (-1, t) := by unfold c_end; rw [a1]
    rw [hc] at h
    simp only [↓s_81_8, ↓s_81_11, ↓s_81_12, ↓s_81_15, ↓s_81_16, kd_uF, ln_uF, ai_uF, al_uF, ar_uF, zs_uF, fd_uF, kd_uA, ln_uA, fd_uA, al_uA, ar_uA, zs_uA, ai_uA, kd_uL, ln_uL, fd_uL, ai_uL, ar_uL, zs_uL, al_uL, kd_uR, ln_uR, fd_uR, ai_uR, al_uR, zs_uR, ar_uR, true_and, and_true, Option.toList_some, Option.toList_none, List.cons_append, List.nil_append, catS_nil, catS_int, catS_ref, catS_null, catS_long, cat_int, cat_ref, cat_null, Nat.reduceEqDiff, Nat.reduceLeDiff, Nat.reduceAdd, false_and, and_false, if_false, if_true, ite_true, ite_false, true_or, or_true, false_or, or_false, and_self, forall_const, true_implies, reduceCtorEq, clr_int, clr_ref, clr_null, clr_none, clr_long, va_rf_some, va_rf_none]
    exact ⟨h w hT Fr.rf, fun q => absurd trivial q⟩
def CF (w : aw) (x : Nat) (t : tp) : Prop := fd w 449 x = .ref (x + 3) ∧ kd w (x + 3) = 1 ∧ fd w 9 (x + 3) = .int (nI t.2.2.1) ∧ fd w 10 (x + 3) = .int (nI t.2.2.2)
theorem sp_C_fault {dd : Nat} {w : aw} {x : Nat} {y : Int32} {t : tp} {Q : wQ} (kx : kd w x = 8) (hT : CF w x t) (h : Q (some (.int (c_fault t y))) w) : wpD (dd + 1) 83 [.ref x, .int y] w Q := by
  refine ⟨Nat.le_of_ble_eq_true rfl, ?_⟩
  show wp dd 83 Q 0 [some (.ref x), some (.int y)] [] w 0 0
  obtain ⟨a1, a2, a3, a4⟩ := hT
  unfold c_fault at h
  simp only [↓s_83_0, ↓s_83_1, ↓s_83_4, ↓s_83_5, ↓s_83_8, ↓s_83_11, ↓s_83_12, ↓s_83_13, ↓s_83_14, ↓s_83_17, ↓s_83_18, ↓s_83_21, ↓s_83_24, ↓s_83_27, ↓s_83_28, kd_uF, ln_uF, ai_uF, al_uF, ar_uF, zs_uF, fd_uF, kd_uA, ln_uA, fd_uA, al_uA, ar_uA, zs_uA, ai_uA, kd_uL, ln_uL, fd_uL, ai_uL, ar_uL, zs_uL, al_uL, kd_uR, ln_uR, fd_uR, ai_uR, al_uR, zs_uR, ar_uR, true_and, and_true, Option.toList_some, Option.toList_none, List.cons_append, List.nil_append, catS_nil, catS_int, catS_ref, catS_null, catS_long, cat_int, cat_ref, cat_null, Nat.reduceEqDiff, Nat.reduceLeDiff, Nat.reduceAdd, false_and, and_false, if_false, if_true, ite_true, ite_false, true_or, or_true, false_or, or_false, and_self, forall_const, true_implies, reduceCtorEq, clr_int, clr_ref, clr_null, clr_none, clr_long, va_rf_some, va_rf_none, kx, a1, a2, a3, a4]
  refine ⟨fun q => ⟨fun q2 => ?_, fun q2 => ?_⟩, fun q => ?_⟩
  · rw [if_neg q, if_neg q2] at h; exact h
  · rw [if_neg q, if_pos q2] at h; exact h
  · rw [if_pos q] at h; exact h
