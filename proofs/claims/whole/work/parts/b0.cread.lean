theorem wb_tb (n : Nat) : (lN n).toBitVec = BitVec.ofNat 64 n := rfl
theorem wb_inj {a b : Int64} (h : a.toBitVec = b.toBitVec) : a = b := Int64.toBitVec_inj.mp h
theorem wb_c : ∀ k, k < 64 → ((nI k).toInt64 &&& 63) = lN k := by decide +kernel
theorem wb_sm : ∀ k, k < 64 → (BitVec.ofNat 64 k).smod 64 = BitVec.ofNat 64 k := by decide +kernel
theorem wb_shl (n : Nat) {k : Nat} (hk : k < 64) : lN n <<< ((nI k).toInt64 &&& 63) = lN (n * 2 ^ k) := by
  rw [wb_c k hk]
  apply wb_inj
  rw [Int64.toBitVec_shiftLeft, wb_tb, wb_tb, wb_tb, wb_sm k hk]
  apply BitVec.eq_of_toNat_eq
  rw [BitVec.shiftLeft_eq', BitVec.toNat_shiftLeft, BitVec.toNat_ofNat, BitVec.toNat_ofNat, BitVec.toNat_ofNat, Nat.mod_eq_of_lt (show k < 2 ^ 64 by omega), Nat.shiftLeft_eq, Nat.mul_mod, Nat.mod_mod, ← Nat.mul_mod]
theorem u_tn {n : Nat} (h : n < 2 ^ 64) : (UInt64.ofNat n).toNat = n := Nat.mod_eq_of_lt h
theorem g_or {k p a b : Nat} (hp : 2 ^ k = p) (ha : a < p) (h : b * p + a < 2 ^ 64) : lN (b * p) ||| lN a = lN (b * p + a) := by
  subst hp
  have h1 : b * 2 ^ k ||| a = b * 2 ^ k + a := by rw [← Nat.shiftLeft_eq, Nat.shiftLeft_add_eq_or_of_lt ha]
  have h3 : UInt64.ofNat (b * 2 ^ k) ||| UInt64.ofNat a = UInt64.ofNat (b * 2 ^ k + a) := UInt64.toNat_inj.mp (by rw [UInt64.toNat_or, u_tn (by omega), u_tn (by omega), u_tn h, h1])
  have h2 := congrArg UInt64.toInt64 h3
  exact h2
theorem sp_N_longer {d : Nat} {w : aw} {a c : Nat} {Q : wQ} (ha : a < 2 ^ 48) (hc : c < 256) (h : Q (some (.long (lN (a * 256 + c)))) w) : wpD (d + 1) 33 [.long (lN a), .int (nI c)] w Q := by
  refine ⟨Nat.le_of_ble_eq_true rfl, ?_⟩
  show wp d 33 Q 0 [some (.long (lN a)), none, some (.int (nI c))] [] w 0 0
  simp only [↓s_33_0, ↓s_33_1, ↓s_33_3, ↓s_33_4, ↓s_33_5, ↓s_33_6, ↓s_33_7, kd_uF, ln_uF, ai_uF, al_uF, ar_uF, zs_uF, fd_uF, kd_uA, ln_uA, fd_uA, al_uA, ar_uA, zs_uA, ai_uA, kd_uL, ln_uL, fd_uL, ai_uL, ar_uL, zs_uL, al_uL, kd_uR, ln_uR, fd_uR, ai_uR, al_uR, zs_uR, ar_uR, true_and, and_true, Option.toList_some, Option.toList_none, List.cons_append, List.nil_append, catS_nil, catS_int, catS_ref, catS_null, catS_long, cat_int, cat_ref, cat_null, Nat.reduceEqDiff, Nat.reduceLeDiff, Nat.reduceAdd, false_and, and_false, if_false, if_true, ite_true, ite_false, true_or, or_true, false_or, or_false, and_self, forall_const, true_implies, reduceCtorEq, clr_int, clr_ref, clr_null, clr_none, clr_long, va_rf_some, va_rf_none]
  rw [show (8 : Int32) = nI 8 from rfl, wb_shl a (by decide), nI_l (by omega), show a * 2 ^ 8 = a * 256 from rfl, g_or (k := 8) (p := 256) (by decide) hc (by omega)]
  exact h
def SR (w : aw) (x : Nat) (T : Nat → Nat) (n e : Nat) : Prop := kd w (x + 11) = 5 ∧ fd w 256 (x + 11) = .ref (x + 1) ∧ fd w 257 (x + 11) = .ref (x + 4) ∧ kd w (x + 1) = 6 ∧ fd w 320 (x + 1) = .ref (x + 2) ∧ kd w (x + 2) = 21 ∧ ln w (x + 2) = 8000 ∧ fd w 321 (x + 1) = .int (nI n) ∧ (∀ k, k < 8000 → ai w (x + 2) k &&& 255 = nI (T k)) ∧ fd w 259 (x + 11) = .int (nI e) ∧ e ≤ n ∧ n ≤ 8000 ∧ (∀ k, T k < 256)
theorem SR.kept {w w' : aw} {x n e : Nat} {T : Nat → Nat} (h : SR w x T n e) (hF : Fr w w' (x + 3) (x + 12)) (h1 : fd w' 256 (x + 11) = fd w 256 (x + 11)) (h2 : fd w' 257 (x + 11) = fd w 257 (x + 11)) (h3 : fd w' 259 (x + 11) = fd w 259 (x + 11)) : SR w' x T n e := by
  obtain ⟨a1, a2, a3, a4, a5, a6, a7, a8, a9, a10, a11⟩ := h
  have o1 := hF.2.2.2 (x + 1) (by omega)
  have o2 := hF.2.2.2 (x + 2) (by omega)
  exact ⟨(hF.1 _).trans a1, h1.trans a2, h2.trans a3, (hF.1 _).trans a4, (o1.1 _).trans a5, (hF.1 _).trans a6, (hF.2.1 _).trans a7, (o1.1 _).trans a8, fun k hk => by rw [o2.2.1]; exact a9 k hk, h3.trans a10, a11⟩
def FrB (w w' : aw) (x : Nat) : Prop := Fr w w' (x + 11) (x + 12) ∧ ∀ g, g ≠ 258 → g ≠ 267 → g ≠ 268 → fd w' g (x + 11) = fd w g (x + 11)
theorem FrB.rf {w : aw} {x : Nat} : FrB w w x := ⟨Fr.rf, fun _ _ _ _ => rfl⟩
theorem FrB.tr {w w1 w2 : aw} {x : Nat} (h : FrB w w1 x) (g : FrB w1 w2 x) : FrB w w2 x := ⟨h.1.tr g.1, fun k a b c => (g.2 k a b c).trans (h.2 k a b c)⟩
theorem FrB.F {w w' : aw} {x g : Nat} {v : Value} (h : FrB w w' x) (hg : g = 258 ∨ g = 267 ∨ g = 268) : FrB w (uF w' g (x + 11) v) x :=
  ⟨h.1.F (by omega) (by omega), fun k a b c => by rw [fd_uF, if_neg (fun q => by omega)]; exact h.2 k a b c⟩
theorem FrB.S {w w' : aw} {x n e : Nat} {T : Nat → Nat} (h : FrB w w' x) (hS : SR w x T n e) : SR w' x T n e := hS.kept (h.1.wide (by omega) (by omega)) (h.2 _ (by decide) (by decide) (by decide)) (h.2 _ (by decide) (by decide) (by decide)) (h.2 _ (by decide) (by decide) (by decide))
def lkI (T : Nat → Nat) (e p : Nat) : Int32 := if p < e then nI (T p) else -1
theorem lkI_eq {T : Nat → Nat} {e p c : Nat} (hT : ∀ k, T k < 256) (hc : 0 < c) (hc2 : c < 256) : (lkI T e p = nI c) ↔ lk T e p = c := by
  unfold lkI lk
  have := hT p
  by_cases q : p < e
  · rw [if_pos q, if_pos q, nI_eq (by omega) (by omega)]
  · rw [if_neg q, if_neg q]
    refine ⟨fun z => ?_, fun z => by omega⟩
    have h2 : (-1 : Int32).toInt = (nI c).toInt := by rw [z]
    rw [nI_toInt (by omega)] at h2
    exact absurd h2 (by show (-1 : Int) ≠ (c : Int); omega)
theorem neg1_lt {c : Nat} (hc : c < 2147483648) : (-1 : Int32) < nI c := by
  rw [Int32.lt_iff_toInt_lt, nI_toInt (by omega)]
  show (-1 : Int) < c
  omega
theorem sp_c_look {d : Nat} {w : aw} {x n e k : Nat} {T : Nat → Nat} {Q : wQ} (hS : SR w x T n e) (hk : k < 9000) (h : Q (some (.int (lkI T e k))) w) : wpD (d + 1) 40 [.ref (x + 11), .int (nI k)] w Q := by
  refine ⟨Nat.le_of_ble_eq_true rfl, ?_⟩
  show wp d 40 Q 0 [some (.ref (x + 11)), some (.int (nI k))] [] w 0 0
  obtain ⟨a1, a2, a3, a4, a5, a6, a7, a8, a9, a10, a11, a12, a13⟩ := hS
  have no : e ≤ k → wp d 40 Q 23 [some (.ref (x + 11)), some (.int (nI k))] [] w 0 0 := by
    intro q
    simp only [↓s_40_23, ↓s_40_24, ↓s_40_40, kd_uF, ln_uF, ai_uF, al_uF, ar_uF, zs_uF, fd_uF, kd_uA, ln_uA, fd_uA, al_uA, ar_uA, zs_uA, ai_uA, kd_uL, ln_uL, fd_uL, ai_uL, ar_uL, zs_uL, al_uL, kd_uR, ln_uR, fd_uR, ai_uR, al_uR, zs_uR, ar_uR, true_and, and_true, Option.toList_some, Option.toList_none, List.cons_append, List.nil_append, catS_nil, catS_int, catS_ref, catS_null, catS_long, cat_int, cat_ref, cat_null, Nat.reduceEqDiff, Nat.reduceLeDiff, Nat.reduceAdd, false_and, and_false, if_false, if_true, ite_true, ite_false, true_or, or_true, false_or, or_false, and_self, forall_const, true_implies, reduceCtorEq, clr_int, clr_ref, clr_null, clr_none, clr_long, va_rf_some, va_rf_none]
    unfold lkI at h
    rw [if_neg (by omega)] at h; exact h
  simp only [↓s_40_0, ↓s_40_1, ↓s_40_4, ↓s_40_5, ↓s_40_6, ↓s_40_9, ↓s_40_12, ↓s_40_13, ↓s_40_14, ↓s_40_17, ↓s_40_20, ↓s_40_27, ↓s_40_28, ↓s_40_31, ↓s_40_34, ↓s_40_35, ↓s_40_36, ↓s_40_39, ↓s_40_40, kd_uF, ln_uF, ai_uF, al_uF, ar_uF, zs_uF, fd_uF, kd_uA, ln_uA, fd_uA, al_uA, ar_uA, zs_uA, ai_uA, kd_uL, ln_uL, fd_uL, ai_uL, ar_uL, zs_uL, al_uL, kd_uR, ln_uR, fd_uR, ai_uR, al_uR, zs_uR, ar_uR, true_and, and_true, Option.toList_some, Option.toList_none, List.cons_append, List.nil_append, catS_nil, catS_int, catS_ref, catS_null, catS_long, cat_int, cat_ref, cat_null, Nat.reduceEqDiff, Nat.reduceLeDiff, Nat.reduceAdd, false_and, and_false, if_false, if_true, ite_true, ite_false, true_or, or_true, false_or, or_false, and_self, forall_const, true_implies, reduceCtorEq, clr_int, clr_ref, clr_null, clr_none, clr_long, va_rf_some, va_rf_none, a1, a2, a4, a5, a6, a7, a8, a10, clN (show k < 2147483648 by omega)]
  rw [nI_leI (by omega) (by omega), nI_ltI (by omega) (by omega)]
  refine ⟨fun q => absurd q (nI_pos (by omega)), fun _ => ⟨no, fun q => ⟨fun q2 => ⟨inR_nI (by omega) (by decide), ?_⟩, fun q2 => no (by omega)⟩⟩⟩
  rw [a9 k (by omega)]
  unfold lkI at h
  rw [if_pos (by omega)] at h; exact h
theorem lkI_toInt {T : Nat → Nat} {e p : Nat} (hT : ∀ k, T k < 256) : (lkI T e p).toInt = if p < e then (T p : Int) else -1 := by
  unfold lkI
  have := hT p
  split
  · exact nI_toInt (by omega)
  · rfl
theorem lkI_rg {T : Nat → Nat} {e p a b : Nat} (hT : ∀ k, T k < 256) (ha : 0 < a) (ha2 : a < 256) (hb : b < 256) : (nI a ≤ lkI T e p ∧ lkI T e p ≤ nI b) ↔ (a ≤ lk T e p ∧ lk T e p ≤ b) := by
  rw [Int32.le_iff_toInt_le, Int32.le_iff_toInt_le, lkI_toInt hT, nI_toInt (by omega), nI_toInt (by omega)]
  unfold lk
  split <;> omega
theorem sp_c_isL {d : Nat} {w : aw} {e k : Nat} {T : Nat → Nat} {Q : wQ} (hT : ∀ k, T k < 256) (h1 : isL (lk T e k) = true → Q (some (.int 1)) w) (h2 : isL (lk T e k) = false → Q (some (.int 0)) w) : wpD (d + 1) 41 [.int (lkI T e k)] w Q := by
  refine ⟨Nat.le_of_ble_eq_true rfl, ?_⟩
  show wp d 41 Q 0 [some (.int (lkI T e k))] [] w 0 0
  have r := lkI_rg (T := T) (e := e) (p := k) (a := 65) (b := 90) hT (by decide) (by decide) (by decide)
  have n : ¬ (65 ≤ lk T e k ∧ lk T e k ≤ 90) → isL (lk T e k) = false := fun q => by cases c : isL (lk T e k) with | false => rfl | true => exact absurd (isL_iff.mp c) q
  simp only [↓s_41_0, ↓s_41_1, ↓s_41_3, ↓s_41_6, ↓s_41_7, ↓s_41_9, ↓s_41_12, ↓s_41_13, ↓s_41_16, ↓s_41_17, kd_uF, ln_uF, ai_uF, al_uF, ar_uF, zs_uF, fd_uF, kd_uA, ln_uA, fd_uA, al_uA, ar_uA, zs_uA, ai_uA, kd_uL, ln_uL, fd_uL, ai_uL, ar_uL, zs_uL, al_uL, kd_uR, ln_uR, fd_uR, ai_uR, al_uR, zs_uR, ar_uR, true_and, and_true, Option.toList_some, Option.toList_none, List.cons_append, List.nil_append, catS_nil, catS_int, catS_ref, catS_null, catS_long, cat_int, cat_ref, cat_null, Nat.reduceEqDiff, Nat.reduceLeDiff, Nat.reduceAdd, false_and, and_false, if_false, if_true, ite_true, ite_false, true_or, or_true, false_or, or_false, and_self, forall_const, true_implies, reduceCtorEq, clr_int, clr_ref, clr_null, clr_none, clr_long, va_rf_some, va_rf_none]
  rw [show (65 : Int32) = nI 65 from rfl, show (90 : Int32) = nI 90 from rfl]
  exact ⟨fun q => ⟨rfl, h2 (n (fun z => Int32.not_le.mpr q (r.mpr z).1))⟩, fun q => ⟨fun q2 => ⟨rfl, h2 (n (fun z => Int32.not_le.mpr q2 (r.mpr z).2))⟩, fun q2 => ⟨rfl, h1 (isL_iff.mpr (r.mp ⟨Int32.not_lt.mp q, Int32.not_lt.mp q2⟩))⟩⟩⟩
theorem sp_c_isD {d : Nat} {w : aw} {e k : Nat} {T : Nat → Nat} {Q : wQ} (hT : ∀ k, T k < 256) (h1 : isD (lk T e k) = true → Q (some (.int 1)) w) (h2 : isD (lk T e k) = false → Q (some (.int 0)) w) : wpD (d + 1) 42 [.int (lkI T e k)] w Q := by
  refine ⟨Nat.le_of_ble_eq_true rfl, ?_⟩
  show wp d 42 Q 0 [some (.int (lkI T e k))] [] w 0 0
  have r := lkI_rg (T := T) (e := e) (p := k) (a := 48) (b := 57) hT (by decide) (by decide) (by decide)
  have n : ¬ (48 ≤ lk T e k ∧ lk T e k ≤ 57) → isD (lk T e k) = false := fun q => by cases c : isD (lk T e k) with | false => rfl | true => exact absurd (isD_iff.mp c) q
  simp only [↓s_42_0, ↓s_42_1, ↓s_42_3, ↓s_42_6, ↓s_42_7, ↓s_42_9, ↓s_42_12, ↓s_42_13, ↓s_42_16, ↓s_42_17, kd_uF, ln_uF, ai_uF, al_uF, ar_uF, zs_uF, fd_uF, kd_uA, ln_uA, fd_uA, al_uA, ar_uA, zs_uA, ai_uA, kd_uL, ln_uL, fd_uL, ai_uL, ar_uL, zs_uL, al_uL, kd_uR, ln_uR, fd_uR, ai_uR, al_uR, zs_uR, ar_uR, true_and, and_true, Option.toList_some, Option.toList_none, List.cons_append, List.nil_append, catS_nil, catS_int, catS_ref, catS_null, catS_long, cat_int, cat_ref, cat_null, Nat.reduceEqDiff, Nat.reduceLeDiff, Nat.reduceAdd, false_and, and_false, if_false, if_true, ite_true, ite_false, true_or, or_true, false_or, or_false, and_self, forall_const, true_implies, reduceCtorEq, clr_int, clr_ref, clr_null, clr_none, clr_long, va_rf_some, va_rf_none]
  rw [show (48 : Int32) = nI 48 from rfl, show (57 : Int32) = nI 57 from rfl]
  exact ⟨fun q => ⟨rfl, h2 (n (fun z => Int32.not_le.mpr q (r.mpr z).1))⟩, fun q => ⟨fun q2 => ⟨rfl, h2 (n (fun z => Int32.not_le.mpr q2 (r.mpr z).2))⟩, fun q2 => ⟨rfl, h1 (isD_iff.mpr (r.mp ⟨Int32.not_lt.mp q, Int32.not_lt.mp q2⟩))⟩⟩⟩
theorem isB_lk {T : Nat → Nat} {e p : Nat} (h : p < e) : isB (T p) = true ↔ lk T e p = 32 ∨ lk T e p = 9 := by rw [isB_iff, lk_in h]
theorem sp_c_blanks {d : Nat} {w : aw} {x n e k : Nat} {T : Nat → Nat} {Q : wQ} (hS : SR w x T n e) (hk : k < 9000) (h : Q (some (.int (nI (bE T e k)))) w) : wpD (d + 2) 43 [.ref (x + 11), .int (nI k)] w Q := by
  refine ⟨Nat.le_of_ble_eq_true rfl, ?_⟩
  show wp (d + 1) 43 Q 0 [some (.ref (x + 11)), some (.int (nI k)), none] [] w 0 0
  have hS0 := hS
  obtain ⟨a1, a2, a3, a4, a5, a6, a7, a8, a9, a10, a11, a12, a13⟩ := hS
  have j36 : ∀ p2, bE T e k = p2 → wp (d + 1) 43 Q 36 [some (.ref (x + 11)), some (.int (nI k)), some (.int (nI p2))] [] w 0 0 := by
    intro p2 hp2
    simp only [↓s_43_36, ↓s_43_37, kd_uF, ln_uF, ai_uF, al_uF, ar_uF, zs_uF, fd_uF, kd_uA, ln_uA, fd_uA, al_uA, ar_uA, zs_uA, ai_uA, kd_uL, ln_uL, fd_uL, ai_uL, ar_uL, zs_uL, al_uL, kd_uR, ln_uR, fd_uR, ai_uR, al_uR, zs_uR, ar_uR, true_and, and_true, Option.toList_some, Option.toList_none, List.cons_append, List.nil_append, catS_nil, catS_int, catS_ref, catS_null, catS_long, cat_int, cat_ref, cat_null, Nat.reduceEqDiff, Nat.reduceLeDiff, Nat.reduceAdd, false_and, and_false, if_false, if_true, ite_true, ite_false, true_or, or_true, false_or, or_false, and_self, forall_const, true_implies, reduceCtorEq, clr_int, clr_ref, clr_null, clr_none, clr_long, va_rf_some, va_rf_none]
    rw [← hp2]; exact h
  have lp : ∀ (j p2 : Nat), e ≤ p2 + j → p2 < 9000 → bE T e p2 = bE T e k → wp (d + 1) 43 Q 2 [some (.ref (x + 11)), some (.int (nI k)), some (.int (nI p2))] [] w 0 0 := by
    intro j
    induction j with
    | zero =>
      intro p2 hj hp2 hb
      rw [s_43_2]
      simp only [↓s_43_3, ↓s_43_4, ↓s_43_7, kd_uF, ln_uF, ai_uF, al_uF, ar_uF, zs_uF, fd_uF, kd_uA, ln_uA, fd_uA, al_uA, ar_uA, zs_uA, ai_uA, kd_uL, ln_uL, fd_uL, ai_uL, ar_uL, zs_uL, al_uL, kd_uR, ln_uR, fd_uR, ai_uR, al_uR, zs_uR, ar_uR, true_and, and_true, Option.toList_some, Option.toList_none, List.cons_append, List.nil_append, catS_nil, catS_int, catS_ref, catS_null, catS_long, cat_int, cat_ref, cat_null, Nat.reduceEqDiff, Nat.reduceLeDiff, Nat.reduceAdd, false_and, and_false, if_false, if_true, ite_true, ite_false, true_or, or_true, false_or, or_false, and_self, forall_const, true_implies, reduceCtorEq, clr_int, clr_ref, clr_null, clr_none, clr_long, va_rf_some, va_rf_none, a1, a10]
      exact ⟨fun _ => j36 p2 (by rw [← hb, bE_no (fun q => by omega)]), fun q => absurd (nI_le (by omega) (by omega)) q⟩
    | succ j ih =>
      intro p2 hj hp2 hb
      by_cases c : p2 < e
      · have go : isB (T p2) = true → wp (d + 1) 43 Q 30 [some (.ref (x + 11)), some (.int (nI k)), some (.int (nI p2))] [] w 0 0 := by
          intro q
          simp only [↓s_43_30, ↓s_43_33, kd_uF, ln_uF, ai_uF, al_uF, ar_uF, zs_uF, fd_uF, kd_uA, ln_uA, fd_uA, al_uA, ar_uA, zs_uA, ai_uA, kd_uL, ln_uL, fd_uL, ai_uL, ar_uL, zs_uL, al_uL, kd_uR, ln_uR, fd_uR, ai_uR, al_uR, zs_uR, ar_uR, true_and, and_true, Option.toList_some, Option.toList_none, List.cons_append, List.nil_append, catS_nil, catS_int, catS_ref, catS_null, catS_long, cat_int, cat_ref, cat_null, Nat.reduceEqDiff, Nat.reduceLeDiff, Nat.reduceAdd, false_and, and_false, if_false, if_true, ite_true, ite_false, true_or, or_true, false_or, or_false, and_self, forall_const, true_implies, reduceCtorEq, clr_int, clr_ref, clr_null, clr_none, clr_long, va_rf_some, va_rf_none]
          rw [nI_1]
          exact ih (p2 + 1) (by omega) (by omega) (by rw [← hb, bE_go c q])
        rw [s_43_2]
        simp only [↓s_43_3, ↓s_43_4, ↓s_43_7, ↓s_43_10, ↓s_43_11, ↓s_43_12, kd_uF, ln_uF, ai_uF, al_uF, ar_uF, zs_uF, fd_uF, kd_uA, ln_uA, fd_uA, al_uA, ar_uA, zs_uA, ai_uA, kd_uL, ln_uL, fd_uL, ai_uL, ar_uL, zs_uL, al_uL, kd_uR, ln_uR, fd_uR, ai_uR, al_uR, zs_uR, ar_uR, true_and, and_true, Option.toList_some, Option.toList_none, List.cons_append, List.nil_append, catS_nil, catS_int, catS_ref, catS_null, catS_long, cat_int, cat_ref, cat_null, Nat.reduceEqDiff, Nat.reduceLeDiff, Nat.reduceAdd, false_and, and_false, if_false, if_true, ite_true, ite_false, true_or, or_true, false_or, or_false, and_self, forall_const, true_implies, reduceCtorEq, clr_int, clr_ref, clr_null, clr_none, clr_long, va_rf_some, va_rf_none, a1, a10]
        refine ⟨fun q => absurd q (nI_ge (by omega) (by omega)), fun _ => sp_c_look hS0 hp2 ?_⟩
        simp only [↓s_43_15, ↓s_43_17, ↓s_43_20, ↓s_43_21, ↓s_43_22, kd_uF, ln_uF, ai_uF, al_uF, ar_uF, zs_uF, fd_uF, kd_uA, ln_uA, fd_uA, al_uA, ar_uA, zs_uA, ai_uA, kd_uL, ln_uL, fd_uL, ai_uL, ar_uL, zs_uL, al_uL, kd_uR, ln_uR, fd_uR, ai_uR, al_uR, zs_uR, ar_uR, true_and, and_true, Option.toList_some, Option.toList_none, List.cons_append, List.nil_append, catS_nil, catS_int, catS_ref, catS_null, catS_long, cat_int, cat_ref, cat_null, Nat.reduceEqDiff, Nat.reduceLeDiff, Nat.reduceAdd, false_and, and_false, if_false, if_true, ite_true, ite_false, true_or, or_true, false_or, or_false, and_self, forall_const, true_implies, reduceCtorEq, clr_int, clr_ref, clr_null, clr_none, clr_long, va_rf_some, va_rf_none, a1]
        rw [show (32 : Int32) = nI 32 from rfl, lkI_eq a13 (by decide) (by decide)]
        refine ⟨fun q => go ((isB_lk c).mpr (Or.inl q)), fun q => sp_c_look hS0 hp2 ?_⟩
        simp only [↓s_43_25, ↓s_43_27, kd_uF, ln_uF, ai_uF, al_uF, ar_uF, zs_uF, fd_uF, kd_uA, ln_uA, fd_uA, al_uA, ar_uA, zs_uA, ai_uA, kd_uL, ln_uL, fd_uL, ai_uL, ar_uL, zs_uL, al_uL, kd_uR, ln_uR, fd_uR, ai_uR, al_uR, zs_uR, ar_uR, true_and, and_true, Option.toList_some, Option.toList_none, List.cons_append, List.nil_append, catS_nil, catS_int, catS_ref, catS_null, catS_long, cat_int, cat_ref, cat_null, Nat.reduceEqDiff, Nat.reduceLeDiff, Nat.reduceAdd, false_and, and_false, if_false, if_true, ite_true, ite_false, true_or, or_true, false_or, or_false, and_self, forall_const, true_implies, reduceCtorEq, clr_int, clr_ref, clr_null, clr_none, clr_long, va_rf_some, va_rf_none]
        rw [show (9 : Int32) = nI 9 from rfl, lkI_eq a13 (by decide) (by decide)]
        refine ⟨fun q2 => ?_, fun q2 => go ((isB_lk c).mpr (Or.inr q2))⟩
        have nb : isB (T p2) = false := by
          cases c2 : isB (T p2) with
          | false => rfl
          | true =>
            rcases (isB_lk c).mp c2 with z | z
            · exact absurd z q
            · exact absurd z q2
        exact j36 p2 (by rw [← hb, bE_no (fun _ => nb)])
      · rw [s_43_2]
        simp only [↓s_43_3, ↓s_43_4, ↓s_43_7, kd_uF, ln_uF, ai_uF, al_uF, ar_uF, zs_uF, fd_uF, kd_uA, ln_uA, fd_uA, al_uA, ar_uA, zs_uA, ai_uA, kd_uL, ln_uL, fd_uL, ai_uL, ar_uL, zs_uL, al_uL, kd_uR, ln_uR, fd_uR, ai_uR, al_uR, zs_uR, ar_uR, true_and, and_true, Option.toList_some, Option.toList_none, List.cons_append, List.nil_append, catS_nil, catS_int, catS_ref, catS_null, catS_long, cat_int, cat_ref, cat_null, Nat.reduceEqDiff, Nat.reduceLeDiff, Nat.reduceAdd, false_and, and_false, if_false, if_true, ite_true, ite_false, true_or, or_true, false_or, or_false, and_self, forall_const, true_implies, reduceCtorEq, clr_int, clr_ref, clr_null, clr_none, clr_long, va_rf_some, va_rf_none, a1, a10]
        exact ⟨fun _ => j36 p2 (by rw [← hb, bE_no (fun q => absurd q c)]), fun q => absurd (nI_le (by omega) (by omega)) q⟩
  simp only [↓s_43_0, ↓s_43_1, kd_uF, ln_uF, ai_uF, al_uF, ar_uF, zs_uF, fd_uF, kd_uA, ln_uA, fd_uA, al_uA, ar_uA, zs_uA, ai_uA, kd_uL, ln_uL, fd_uL, ai_uL, ar_uL, zs_uL, al_uL, kd_uR, ln_uR, fd_uR, ai_uR, al_uR, zs_uR, ar_uR, true_and, and_true, Option.toList_some, Option.toList_none, List.cons_append, List.nil_append, catS_nil, catS_int, catS_ref, catS_null, catS_long, cat_int, cat_ref, cat_null, Nat.reduceEqDiff, Nat.reduceLeDiff, Nat.reduceAdd, false_and, and_false, if_false, if_true, ite_true, ite_false, true_or, or_true, false_or, or_false, and_self, forall_const, true_implies, reduceCtorEq, clr_int, clr_ref, clr_null, clr_none, clr_long, va_rf_some, va_rf_none]
  exact lp e k (by omega) hk rfl
theorem isW_lk {T : Nat → Nat} {e p : Nat} (h : p < e) : isW (T p) = (isL (lk T e p) || isD (lk T e p)) := by rw [lk_in h]; rfl
theorem sp_c_word {d : Nat} {w : aw} {x n e k : Nat} {T : Nat → Nat} {Q : wQ} (hS : SR w x T n e) (hk : k < 9000) (h : Q (some (.int (nI (wE T e k)))) w) : wpD (d + 2) 44 [.ref (x + 11), .int (nI k)] w Q := by
  refine ⟨Nat.le_of_ble_eq_true rfl, ?_⟩
  show wp (d + 1) 44 Q 0 [some (.ref (x + 11)), some (.int (nI k)), none] [] w 0 0
  have hS0 := hS
  obtain ⟨a1, a2, a3, a4, a5, a6, a7, a8, a9, a10, a11, a12, a13⟩ := hS
  have j38 : ∀ p2, wE T e k = p2 → wp (d + 1) 44 Q 38 [some (.ref (x + 11)), some (.int (nI k)), some (.int (nI p2))] [] w 0 0 := by
    intro p2 hp2
    simp only [↓s_44_38, ↓s_44_39, kd_uF, ln_uF, ai_uF, al_uF, ar_uF, zs_uF, fd_uF, kd_uA, ln_uA, fd_uA, al_uA, ar_uA, zs_uA, ai_uA, kd_uL, ln_uL, fd_uL, ai_uL, ar_uL, zs_uL, al_uL, kd_uR, ln_uR, fd_uR, ai_uR, al_uR, zs_uR, ar_uR, true_and, and_true, Option.toList_some, Option.toList_none, List.cons_append, List.nil_append, catS_nil, catS_int, catS_ref, catS_null, catS_long, cat_int, cat_ref, cat_null, Nat.reduceEqDiff, Nat.reduceLeDiff, Nat.reduceAdd, false_and, and_false, if_false, if_true, ite_true, ite_false, true_or, or_true, false_or, or_false, and_self, forall_const, true_implies, reduceCtorEq, clr_int, clr_ref, clr_null, clr_none, clr_long, va_rf_some, va_rf_none]
    rw [← hp2]; exact h
  have lp : ∀ (j p2 : Nat), e ≤ p2 + j → p2 < 9000 → wE T e p2 = wE T e k → wp (d + 1) 44 Q 2 [some (.ref (x + 11)), some (.int (nI k)), some (.int (nI p2))] [] w 0 0 := by
    intro j
    induction j with
    | zero =>
      intro p2 hj hp2 hb
      rw [s_44_2]
      simp only [↓s_44_3, ↓s_44_4, ↓s_44_7, kd_uF, ln_uF, ai_uF, al_uF, ar_uF, zs_uF, fd_uF, kd_uA, ln_uA, fd_uA, al_uA, ar_uA, zs_uA, ai_uA, kd_uL, ln_uL, fd_uL, ai_uL, ar_uL, zs_uL, al_uL, kd_uR, ln_uR, fd_uR, ai_uR, al_uR, zs_uR, ar_uR, true_and, and_true, Option.toList_some, Option.toList_none, List.cons_append, List.nil_append, catS_nil, catS_int, catS_ref, catS_null, catS_long, cat_int, cat_ref, cat_null, Nat.reduceEqDiff, Nat.reduceLeDiff, Nat.reduceAdd, false_and, and_false, if_false, if_true, ite_true, ite_false, true_or, or_true, false_or, or_false, and_self, forall_const, true_implies, reduceCtorEq, clr_int, clr_ref, clr_null, clr_none, clr_long, va_rf_some, va_rf_none, a1, a10]
      exact ⟨fun _ => j38 p2 (by rw [← hb, wE_no (fun q => by omega)]), fun q => absurd (nI_le (by omega) (by omega)) q⟩
    | succ j ih =>
      intro p2 hj hp2 hb
      by_cases c : p2 < e
      · have go : isW (T p2) = true → wp (d + 1) 44 Q 32 [some (.ref (x + 11)), some (.int (nI k)), some (.int (nI p2))] [] w 0 0 := by
          intro q
          simp only [↓s_44_32, ↓s_44_35, kd_uF, ln_uF, ai_uF, al_uF, ar_uF, zs_uF, fd_uF, kd_uA, ln_uA, fd_uA, al_uA, ar_uA, zs_uA, ai_uA, kd_uL, ln_uL, fd_uL, ai_uL, ar_uL, zs_uL, al_uL, kd_uR, ln_uR, fd_uR, ai_uR, al_uR, zs_uR, ar_uR, true_and, and_true, Option.toList_some, Option.toList_none, List.cons_append, List.nil_append, catS_nil, catS_int, catS_ref, catS_null, catS_long, cat_int, cat_ref, cat_null, Nat.reduceEqDiff, Nat.reduceLeDiff, Nat.reduceAdd, false_and, and_false, if_false, if_true, ite_true, ite_false, true_or, or_true, false_or, or_false, and_self, forall_const, true_implies, reduceCtorEq, clr_int, clr_ref, clr_null, clr_none, clr_long, va_rf_some, va_rf_none]
          rw [nI_1]
          exact ih (p2 + 1) (by omega) (by omega) (by rw [← hb, wE_go c q])
        rw [s_44_2]
        simp only [↓s_44_3, ↓s_44_4, ↓s_44_7, ↓s_44_10, ↓s_44_11, ↓s_44_12, kd_uF, ln_uF, ai_uF, al_uF, ar_uF, zs_uF, fd_uF, kd_uA, ln_uA, fd_uA, al_uA, ar_uA, zs_uA, ai_uA, kd_uL, ln_uL, fd_uL, ai_uL, ar_uL, zs_uL, al_uL, kd_uR, ln_uR, fd_uR, ai_uR, al_uR, zs_uR, ar_uR, true_and, and_true, Option.toList_some, Option.toList_none, List.cons_append, List.nil_append, catS_nil, catS_int, catS_ref, catS_null, catS_long, cat_int, cat_ref, cat_null, Nat.reduceEqDiff, Nat.reduceLeDiff, Nat.reduceAdd, false_and, and_false, if_false, if_true, ite_true, ite_false, true_or, or_true, false_or, or_false, and_self, forall_const, true_implies, reduceCtorEq, clr_int, clr_ref, clr_null, clr_none, clr_long, va_rf_some, va_rf_none, a1, a10]
        refine ⟨fun q => absurd q (nI_ge (by omega) (by omega)), fun _ => sp_c_look hS0 hp2 ?_⟩
        simp only [↓s_44_15, kd_uF, ln_uF, ai_uF, al_uF, ar_uF, zs_uF, fd_uF, kd_uA, ln_uA, fd_uA, al_uA, ar_uA, zs_uA, ai_uA, kd_uL, ln_uL, fd_uL, ai_uL, ar_uL, zs_uL, al_uL, kd_uR, ln_uR, fd_uR, ai_uR, al_uR, zs_uR, ar_uR, true_and, and_true, Option.toList_some, Option.toList_none, List.cons_append, List.nil_append, catS_nil, catS_int, catS_ref, catS_null, catS_long, cat_int, cat_ref, cat_null, Nat.reduceEqDiff, Nat.reduceLeDiff, Nat.reduceAdd, false_and, and_false, if_false, if_true, ite_true, ite_false, true_or, or_true, false_or, or_false, and_self, forall_const, true_implies, reduceCtorEq, clr_int, clr_ref, clr_null, clr_none, clr_long, va_rf_some, va_rf_none]
        refine sp_c_isL a13 (fun q => ?_) (fun q => ?_)
        · simp only [↓s_44_18, ↓s_44_21, ↓s_44_22, ↓s_44_23, kd_uF, ln_uF, ai_uF, al_uF, ar_uF, zs_uF, fd_uF, kd_uA, ln_uA, fd_uA, al_uA, ar_uA, zs_uA, ai_uA, kd_uL, ln_uL, fd_uL, ai_uL, ar_uL, zs_uL, al_uL, kd_uR, ln_uR, fd_uR, ai_uR, al_uR, zs_uR, ar_uR, true_and, and_true, Option.toList_some, Option.toList_none, List.cons_append, List.nil_append, catS_nil, catS_int, catS_ref, catS_null, catS_long, cat_int, cat_ref, cat_null, Nat.reduceEqDiff, Nat.reduceLeDiff, Nat.reduceAdd, false_and, and_false, if_false, if_true, ite_true, ite_false, true_or, or_true, false_or, or_false, and_self, forall_const, true_implies, reduceCtorEq, clr_int, clr_ref, clr_null, clr_none, clr_long, va_rf_some, va_rf_none, a1]
          exact ⟨fun _ => go (by rw [isW_lk c, q]; rfl), fun z => absurd z (by decide)⟩
        · simp only [↓s_44_18, ↓s_44_21, ↓s_44_22, ↓s_44_23, kd_uF, ln_uF, ai_uF, al_uF, ar_uF, zs_uF, fd_uF, kd_uA, ln_uA, fd_uA, al_uA, ar_uA, zs_uA, ai_uA, kd_uL, ln_uL, fd_uL, ai_uL, ar_uL, zs_uL, al_uL, kd_uR, ln_uR, fd_uR, ai_uR, al_uR, zs_uR, ar_uR, true_and, and_true, Option.toList_some, Option.toList_none, List.cons_append, List.nil_append, catS_nil, catS_int, catS_ref, catS_null, catS_long, cat_int, cat_ref, cat_null, Nat.reduceEqDiff, Nat.reduceLeDiff, Nat.reduceAdd, false_and, and_false, if_false, if_true, ite_true, ite_false, true_or, or_true, false_or, or_false, and_self, forall_const, true_implies, reduceCtorEq, clr_int, clr_ref, clr_null, clr_none, clr_long, va_rf_some, va_rf_none, a1]
          refine ⟨fun z => absurd trivial z, sp_c_look hS0 hp2 ?_⟩
          simp only [↓s_44_26, kd_uF, ln_uF, ai_uF, al_uF, ar_uF, zs_uF, fd_uF, kd_uA, ln_uA, fd_uA, al_uA, ar_uA, zs_uA, ai_uA, kd_uL, ln_uL, fd_uL, ai_uL, ar_uL, zs_uL, al_uL, kd_uR, ln_uR, fd_uR, ai_uR, al_uR, zs_uR, ar_uR, true_and, and_true, Option.toList_some, Option.toList_none, List.cons_append, List.nil_append, catS_nil, catS_int, catS_ref, catS_null, catS_long, cat_int, cat_ref, cat_null, Nat.reduceEqDiff, Nat.reduceLeDiff, Nat.reduceAdd, false_and, and_false, if_false, if_true, ite_true, ite_false, true_or, or_true, false_or, or_false, and_self, forall_const, true_implies, reduceCtorEq, clr_int, clr_ref, clr_null, clr_none, clr_long, va_rf_some, va_rf_none]
          refine sp_c_isD a13 (fun q2 => ?_) (fun q2 => ?_)
          · simp only [↓s_44_29, kd_uF, ln_uF, ai_uF, al_uF, ar_uF, zs_uF, fd_uF, kd_uA, ln_uA, fd_uA, al_uA, ar_uA, zs_uA, ai_uA, kd_uL, ln_uL, fd_uL, ai_uL, ar_uL, zs_uL, al_uL, kd_uR, ln_uR, fd_uR, ai_uR, al_uR, zs_uR, ar_uR, true_and, and_true, Option.toList_some, Option.toList_none, List.cons_append, List.nil_append, catS_nil, catS_int, catS_ref, catS_null, catS_long, cat_int, cat_ref, cat_null, Nat.reduceEqDiff, Nat.reduceLeDiff, Nat.reduceAdd, false_and, and_false, if_false, if_true, ite_true, ite_false, true_or, or_true, false_or, or_false, and_self, forall_const, true_implies, reduceCtorEq, clr_int, clr_ref, clr_null, clr_none, clr_long, va_rf_some, va_rf_none]
            exact ⟨fun z => absurd z (by decide), fun _ => go (by rw [isW_lk c, q2, Bool.or_true])⟩
          · simp only [↓s_44_29, kd_uF, ln_uF, ai_uF, al_uF, ar_uF, zs_uF, fd_uF, kd_uA, ln_uA, fd_uA, al_uA, ar_uA, zs_uA, ai_uA, kd_uL, ln_uL, fd_uL, ai_uL, ar_uL, zs_uL, al_uL, kd_uR, ln_uR, fd_uR, ai_uR, al_uR, zs_uR, ar_uR, true_and, and_true, Option.toList_some, Option.toList_none, List.cons_append, List.nil_append, catS_nil, catS_int, catS_ref, catS_null, catS_long, cat_int, cat_ref, cat_null, Nat.reduceEqDiff, Nat.reduceLeDiff, Nat.reduceAdd, false_and, and_false, if_false, if_true, ite_true, ite_false, true_or, or_true, false_or, or_false, and_self, forall_const, true_implies, reduceCtorEq, clr_int, clr_ref, clr_null, clr_none, clr_long, va_rf_some, va_rf_none]
            exact ⟨j38 p2 (by rw [← hb, wE_no (fun _ => by rw [isW_lk c, q, q2]; rfl)]), fun z => absurd trivial z⟩
      · rw [s_44_2]
        simp only [↓s_44_3, ↓s_44_4, ↓s_44_7, kd_uF, ln_uF, ai_uF, al_uF, ar_uF, zs_uF, fd_uF, kd_uA, ln_uA, fd_uA, al_uA, ar_uA, zs_uA, ai_uA, kd_uL, ln_uL, fd_uL, ai_uL, ar_uL, zs_uL, al_uL, kd_uR, ln_uR, fd_uR, ai_uR, al_uR, zs_uR, ar_uR, true_and, and_true, Option.toList_some, Option.toList_none, List.cons_append, List.nil_append, catS_nil, catS_int, catS_ref, catS_null, catS_long, cat_int, cat_ref, cat_null, Nat.reduceEqDiff, Nat.reduceLeDiff, Nat.reduceAdd, false_and, and_false, if_false, if_true, ite_true, ite_false, true_or, or_true, false_or, or_false, and_self, forall_const, true_implies, reduceCtorEq, clr_int, clr_ref, clr_null, clr_none, clr_long, va_rf_some, va_rf_none, a1, a10]
        exact ⟨fun _ => j38 p2 (by rw [← hb, wE_no (fun q => absurd q c)]), fun q => absurd (nI_le (by omega) (by omega)) q⟩
  simp only [↓s_44_0, ↓s_44_1, kd_uF, ln_uF, ai_uF, al_uF, ar_uF, zs_uF, fd_uF, kd_uA, ln_uA, fd_uA, al_uA, ar_uA, zs_uA, ai_uA, kd_uL, ln_uL, fd_uL, ai_uL, ar_uL, zs_uL, al_uL, kd_uR, ln_uR, fd_uR, ai_uR, al_uR, zs_uR, ar_uR, true_and, and_true, Option.toList_some, Option.toList_none, List.cons_append, List.nil_append, catS_nil, catS_int, catS_ref, catS_null, catS_long, cat_int, cat_ref, cat_null, Nat.reduceEqDiff, Nat.reduceLeDiff, Nat.reduceAdd, false_and, and_false, if_false, if_true, ite_true, ite_false, true_or, or_true, false_or, or_false, and_self, forall_const, true_implies, reduceCtorEq, clr_int, clr_ref, clr_null, clr_none, clr_long, va_rf_some, va_rf_none]
  exact lp e k (by omega) hk rfl
def nmK (T : Nat → Nat) (e p : Nat) : List Nat := if isN T e p = true then nmE T e p else []
theorem nmK_ok {T : Nat → Nat} {e p : Nat} : okN (nmK T e p) ∧ (nmK T e p).length ≤ 6 := by
  unfold nmK
  split
  · rename_i c; exact ⟨nmE_ok, nmE_6 (isN_iff.mp c).2⟩
  · exact ⟨fun c hc => (by cases hc), Nat.zero_le _⟩
theorem b256_63 {l : List Nat} (h : okN l) (h6 : l.length ≤ 6) : b256 l < 2 ^ 63 := Nat.lt_trans (b256_lt 6 l h6 h) (by decide)
theorem b256_0 {l : List Nat} (h : okN l) (h6 : l.length ≤ 6) : b256 l = 0 ↔ l = [] := by
  refine ⟨fun q => b256_inj 6 l [] h6 h (fun c hc => by cases hc) q, fun q => by rw [q]; rfl⟩
theorem nmK_nil {T : Nat → Nat} {e p : Nat} : nmK T e p = [] ↔ isN T e p = false := by
  unfold nmK
  split
  · rename_i c
    have := isN_pos c
    refine ⟨fun q => ?_, fun q => by rw [c] at q; cases q⟩
    have h2 : (nmE T e p).length = 0 := by rw [q]; rfl
    unfold nmE at h2
    rw [nm_len] at h2
    omega
  · rename_i c
    exact ⟨fun _ => by simpa using c, fun _ => rfl⟩
theorem key_0 {T : Nat → Nat} {e p : Nat} : (lN (b256 (nmK T e p)) = 0) ↔ isN T e p = false := by
  have h := nmK_ok (T := T) (e := e) (p := p)
  rw [show (0 : Int64) = lN 0 from rfl, pk_lEQ (b256_63 h.1 h.2) (by decide), b256_0 h.1 h.2, nmK_nil]
theorem sp_c_key {d : Nat} {w : aw} {x n e k : Nat} {T : Nat → Nat} {Q : wQ} (hS : SR w x T n e) (hk : k < 9000) (h : Q (some (.long (lN (b256 (nmK T e k))))) w) : wpD (d + 2) 45 [.ref (x + 11), .int (nI k), .int (nI (wE T e k))] w Q := by
  refine ⟨Nat.le_of_ble_eq_true rfl, ?_⟩
  show wp (d + 1) 45 Q 0 [some (.ref (x + 11)), some (.int (nI k)), some (.int (nI (wE T e k))), none, none, none] [] w 0 0
  have hS0 := hS
  obtain ⟨a1, a2, a3, a4, a5, a6, a7, a8, a9, a10, a11, a12, a13⟩ := hS
  have hw := wE_ge (T := T) (e := e) (p := k)
  have hl := wE_lt (T := T) (e := e) (by omega) hk
  have no : isN T e k = false → wp (d + 1) 45 Q 19 [some (.ref (x + 11)), some (.int (nI k)), some (.int (nI (wE T e k))), none, none, none] [] w 0 0 := by
    intro q
    simp only [↓s_45_19, ↓s_45_20, kd_uF, ln_uF, ai_uF, al_uF, ar_uF, zs_uF, fd_uF, kd_uA, ln_uA, fd_uA, al_uA, ar_uA, zs_uA, ai_uA, kd_uL, ln_uL, fd_uL, ai_uL, ar_uL, zs_uL, al_uL, kd_uR, ln_uR, fd_uR, ai_uR, al_uR, zs_uR, ar_uR, true_and, and_true, Option.toList_some, Option.toList_none, List.cons_append, List.nil_append, catS_nil, catS_int, catS_ref, catS_null, catS_long, cat_int, cat_ref, cat_null, Nat.reduceEqDiff, Nat.reduceLeDiff, Nat.reduceAdd, false_and, and_false, if_false, if_true, ite_true, ite_false, true_or, or_true, false_or, or_false, and_self, forall_const, true_implies, reduceCtorEq, clr_int, clr_ref, clr_null, clr_none, clr_long, va_rf_some, va_rf_none]
    rw [nmK_nil.mpr q] at h
    exact h
  simp only [↓s_45_0, ↓s_45_1, ↓s_45_2, kd_uF, ln_uF, ai_uF, al_uF, ar_uF, zs_uF, fd_uF, kd_uA, ln_uA, fd_uA, al_uA, ar_uA, zs_uA, ai_uA, kd_uL, ln_uL, fd_uL, ai_uL, ar_uL, zs_uL, al_uL, kd_uR, ln_uR, fd_uR, ai_uR, al_uR, zs_uR, ar_uR, true_and, and_true, Option.toList_some, Option.toList_none, List.cons_append, List.nil_append, catS_nil, catS_int, catS_ref, catS_null, catS_long, cat_int, cat_ref, cat_null, Nat.reduceEqDiff, Nat.reduceLeDiff, Nat.reduceAdd, false_and, and_false, if_false, if_true, ite_true, ite_false, true_or, or_true, false_or, or_false, and_self, forall_const, true_implies, reduceCtorEq, clr_int, clr_ref, clr_null, clr_none, clr_long, va_rf_some, va_rf_none, a1]
  refine sp_c_look hS0 hk ?_
  simp only [↓s_45_5, kd_uF, ln_uF, ai_uF, al_uF, ar_uF, zs_uF, fd_uF, kd_uA, ln_uA, fd_uA, al_uA, ar_uA, zs_uA, ai_uA, kd_uL, ln_uL, fd_uL, ai_uL, ar_uL, zs_uL, al_uL, kd_uR, ln_uR, fd_uR, ai_uR, al_uR, zs_uR, ar_uR, true_and, and_true, Option.toList_some, Option.toList_none, List.cons_append, List.nil_append, catS_nil, catS_int, catS_ref, catS_null, catS_long, cat_int, cat_ref, cat_null, Nat.reduceEqDiff, Nat.reduceLeDiff, Nat.reduceAdd, false_and, and_false, if_false, if_true, ite_true, ite_false, true_or, or_true, false_or, or_false, and_self, forall_const, true_implies, reduceCtorEq, clr_int, clr_ref, clr_null, clr_none, clr_long, va_rf_some, va_rf_none]
  refine sp_c_isL a13 (fun q => ?_) (fun q => ?_)
  case' refine_2 =>
    simp only [↓s_45_8, ↓s_45_11, ↓s_45_12, ↓s_45_13, ↓s_45_14, ↓s_45_16, ↓s_45_21, ↓s_45_22, ↓s_45_23, ↓s_45_24, kd_uF, ln_uF, ai_uF, al_uF, ar_uF, zs_uF, fd_uF, kd_uA, ln_uA, fd_uA, al_uA, ar_uA, zs_uA, ai_uA, kd_uL, ln_uL, fd_uL, ai_uL, ar_uL, zs_uL, al_uL, kd_uR, ln_uR, fd_uR, ai_uR, al_uR, zs_uR, ar_uR, true_and, and_true, Option.toList_some, Option.toList_none, List.cons_append, List.nil_append, catS_nil, catS_int, catS_ref, catS_null, catS_long, cat_int, cat_ref, cat_null, Nat.reduceEqDiff, Nat.reduceLeDiff, Nat.reduceAdd, false_and, and_false, if_false, if_true, ite_true, ite_false, true_or, or_true, false_or, or_false, and_self, forall_const, true_implies, reduceCtorEq, clr_int, clr_ref, clr_null, clr_none, clr_long, va_rf_some, va_rf_none]
    exact ⟨no (by unfold isN; rw [q]; rfl), fun z => absurd trivial z⟩
  simp only [↓s_45_8, ↓s_45_11, ↓s_45_12, ↓s_45_13, ↓s_45_14, ↓s_45_16, ↓s_45_21, ↓s_45_22, ↓s_45_23, ↓s_45_24, kd_uF, ln_uF, ai_uF, al_uF, ar_uF, zs_uF, fd_uF, kd_uA, ln_uA, fd_uA, al_uA, ar_uA, zs_uA, ai_uA, kd_uL, ln_uL, fd_uL, ai_uL, ar_uL, zs_uL, al_uL, kd_uR, ln_uR, fd_uR, ai_uR, al_uR, zs_uR, ar_uR, true_and, and_true, Option.toList_some, Option.toList_none, List.cons_append, List.nil_append, catS_nil, catS_int, catS_ref, catS_null, catS_long, cat_int, cat_ref, cat_null, Nat.reduceEqDiff, Nat.reduceLeDiff, Nat.reduceAdd, false_and, and_false, if_false, if_true, ite_true, ite_false, true_or, or_true, false_or, or_false, and_self, forall_const, true_implies, reduceCtorEq, clr_int, clr_ref, clr_null, clr_none, clr_long, va_rf_some, va_rf_none]
  rw [pk_sub hw, show (6 : Int32) = nI 6 from rfl, nI_leI (by omega) (by decide)]
  refine ⟨fun z => absurd z (by decide), fun _ => ⟨fun q2 => ?_, fun q2 => no ?_⟩⟩
  case' refine_2 =>
    cases c : isN T e k with
    | false => rfl
    | true => have := (isN_iff.mp c).2; omega
  have hN : isN T e k = true := isN_iff.mpr ⟨q, by omega⟩
  have hke := isN_pos hN
  have hle := wE_le (T := T) (e := e) (p := k) (by omega)
  have lp : ∀ (j i : Nat), i + j = wE T e k - k → wp (d + 1) 45 Q 26 [some (.ref (x + 11)), some (.int (nI k)), some (.int (nI (wE T e k))), some (.long (lN (b256 (nm T k i)))), none, some (.int (nI (k + i)))] [] w 0 0 := by
    intro j
    induction j with
    | zero =>
      intro i hi
      have e0 : k + i = wE T e k := by omega
      rw [s_45_26]
      simp only [↓s_45_28, ↓s_45_29, ↓s_45_49, ↓s_45_50, kd_uF, ln_uF, ai_uF, al_uF, ar_uF, zs_uF, fd_uF, kd_uA, ln_uA, fd_uA, al_uA, ar_uA, zs_uA, ai_uA, kd_uL, ln_uL, fd_uL, ai_uL, ar_uL, zs_uL, al_uL, kd_uR, ln_uR, fd_uR, ai_uR, al_uR, zs_uR, ar_uR, true_and, and_true, Option.toList_some, Option.toList_none, List.cons_append, List.nil_append, catS_nil, catS_int, catS_ref, catS_null, catS_long, cat_int, cat_ref, cat_null, Nat.reduceEqDiff, Nat.reduceLeDiff, Nat.reduceAdd, false_and, and_false, if_false, if_true, ite_true, ite_false, true_or, or_true, false_or, or_false, and_self, forall_const, true_implies, reduceCtorEq, clr_int, clr_ref, clr_null, clr_none, clr_long, va_rf_some, va_rf_none]
      rw [e0]
      refine ⟨fun _ => ?_, fun q => absurd (nI_le (Nat.le_refl _) (by omega)) q⟩
      unfold nmK nmE at h
      rw [if_pos hN, show wE T e k - k = i by omega] at h
      exact h
    | succ j ih =>
      intro i hi
      have hwi := wE_in (T := T) (e := e) (p := k) (i := i) (by omega)
      have hb := b256_lt 5 (nm T k i) (by rw [nm_len]; omega) (okN_nm (e := e) (by omega))
      rw [s_45_26]
      simp only [↓s_45_28, ↓s_45_29, ↓s_45_32, ↓s_45_33, ↓s_45_34, ↓s_45_36, kd_uF, ln_uF, ai_uF, al_uF, ar_uF, zs_uF, fd_uF, kd_uA, ln_uA, fd_uA, al_uA, ar_uA, zs_uA, ai_uA, kd_uL, ln_uL, fd_uL, ai_uL, ar_uL, zs_uL, al_uL, kd_uR, ln_uR, fd_uR, ai_uR, al_uR, zs_uR, ar_uR, true_and, and_true, Option.toList_some, Option.toList_none, List.cons_append, List.nil_append, catS_nil, catS_int, catS_ref, catS_null, catS_long, cat_int, cat_ref, cat_null, Nat.reduceEqDiff, Nat.reduceLeDiff, Nat.reduceAdd, false_and, and_false, if_false, if_true, ite_true, ite_false, true_or, or_true, false_or, or_false, and_self, forall_const, true_implies, reduceCtorEq, clr_int, clr_ref, clr_null, clr_none, clr_long, va_rf_some, va_rf_none, a1]
      refine ⟨fun q => absurd q (nI_ge (by omega) (by omega)), fun _ => sp_c_look hS0 (by omega) ?_⟩
      simp only [↓s_45_39, kd_uF, ln_uF, ai_uF, al_uF, ar_uF, zs_uF, fd_uF, kd_uA, ln_uA, fd_uA, al_uA, ar_uA, zs_uA, ai_uA, kd_uL, ln_uL, fd_uL, ai_uL, ar_uL, zs_uL, al_uL, kd_uR, ln_uR, fd_uR, ai_uR, al_uR, zs_uR, ar_uR, true_and, and_true, Option.toList_some, Option.toList_none, List.cons_append, List.nil_append, catS_nil, catS_int, catS_ref, catS_null, catS_long, cat_int, cat_ref, cat_null, Nat.reduceEqDiff, Nat.reduceLeDiff, Nat.reduceAdd, false_and, and_false, if_false, if_true, ite_true, ite_false, true_or, or_true, false_or, or_false, and_self, forall_const, true_implies, reduceCtorEq, clr_int, clr_ref, clr_null, clr_none, clr_long, va_rf_some, va_rf_none]
      rw [show lkI T e (k + i) = nI (T (k + i)) from if_pos (by omega)]
      refine sp_N_longer (Nat.lt_trans hb (by decide)) (a13 _) ?_
      simp only [↓s_45_42, ↓s_45_43, ↓s_45_46, kd_uF, ln_uF, ai_uF, al_uF, ar_uF, zs_uF, fd_uF, kd_uA, ln_uA, fd_uA, al_uA, ar_uA, zs_uA, ai_uA, kd_uL, ln_uL, fd_uL, ai_uL, ar_uL, zs_uL, al_uL, kd_uR, ln_uR, fd_uR, ai_uR, al_uR, zs_uR, ar_uR, true_and, and_true, Option.toList_some, Option.toList_none, List.cons_append, List.nil_append, catS_nil, catS_int, catS_ref, catS_null, catS_long, cat_int, cat_ref, cat_null, Nat.reduceEqDiff, Nat.reduceLeDiff, Nat.reduceAdd, false_and, and_false, if_false, if_true, ite_true, ite_false, true_or, or_true, false_or, or_false, and_self, forall_const, true_implies, reduceCtorEq, clr_int, clr_ref, clr_null, clr_none, clr_long, va_rf_some, va_rf_none]
      rw [nI_1, ← b256_s, ← nm_s]
      exact ih (i + 1) (by omega)
  exact lp (wE T e k - k) 0 (by omega)
