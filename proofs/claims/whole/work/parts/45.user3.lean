theorem sp_U_refer {d : Nat} {w : aw} {b n x own : Nat} {u : us} {Q : wQ} (hu : UAt w b n u) (hB : UB u) (hx : x < 3072) (ho : own < 4096) (h : ∀ w', UAt w' b n (i_ref u x own) → FrU w w' b → Q none w') : wpD (d + 2) 65 [.ref b, .int (nI x), .int (nI own)] w Q := by
  have hu0 := hu
  refine ⟨Nat.le_of_ble_eq_true rfl, ?_⟩
  show wp (d + 1) 65 Q 0 [some (.ref b), some (.int (nI x)), some (.int (nI own)), none] [] w 0 0
  simp only [↓s_65_0, ↓s_65_1, ↓s_65_2, ↓s_65_3, kd_uF, ln_uF, ai_uF, al_uF, ar_uF, zs_uF, fd_uF, kd_uA, ln_uA, fd_uA, al_uA, ar_uA, zs_uA, ai_uA, kd_uL, ln_uL, fd_uL, ai_uL, ar_uL, zs_uL, al_uL, kd_uR, ln_uR, fd_uR, ai_uR, al_uR, zs_uR, ar_uR, true_and, and_true, Option.toList_some, Option.toList_none, List.cons_append, List.nil_append, catS_nil, catS_int, catS_ref, catS_null, catS_long, cat_int, cat_ref, cat_null, Nat.reduceEqDiff, Nat.reduceLeDiff, Nat.reduceAdd, false_and, and_false, if_false, if_true, ite_true, ite_false, true_or, or_true, false_or, or_false, and_self, forall_const, true_implies, reduceCtorEq, clr_int, clr_ref, clr_null, clr_none, clr_long, va_rf_some, va_rf_none, hu.1]
  refine sp_U_addr hu0 hB (by omega) ho (fun w1 hu1 hF1 => ?_)
  have hB1 := hB.refA (x := x) (own := own)
  have ha := refA_lt (x := x) hB ho
  unfold i_ref at h
  dsimp only at h
  generalize (i_refA u x own).1 = v at *
  generalize (i_refA u x own).2 = a at *
  clear hu hu0 hB
  have hu := hu1
  obtain ⟨h0, h1, h2, h3, h4, h5, h6, s0, s1, s2, s3, s4, s5, s6, s7, s8, s9, m1, m2, m3, f1, f2, f3, p1, p2, p3, li, lo⟩ := hu1
  have e9 : nI x >>> ((9 : Int32) &&& 31) = nI (x / 512) := pk_shrN (by omega) _ 9 (by decide)
  have hin : inR (nI a) 4096 := inR_nI ha (by decide)
  have k156 : ∀ w', Q none w' → wp (d + 1) 65 Q 156 [some (.ref b), some (.int (nI x)), some (.int (nI own)), some (.int (nI a))] [] w' 0 0 := by
    intro w' hq
    simp only [↓s_65_156]
    exact hq
  simp only [↓s_65_6, ↓s_65_7, ↓s_65_8, ↓s_65_10, ↓s_65_11, kd_uF, ln_uF, ai_uF, al_uF, ar_uF, zs_uF, fd_uF, kd_uA, ln_uA, fd_uA, al_uA, ar_uA, zs_uA, ai_uA, kd_uL, ln_uL, fd_uL, ai_uL, ar_uL, zs_uL, al_uL, kd_uR, ln_uR, fd_uR, ai_uR, al_uR, zs_uR, ar_uR, true_and, and_true, Option.toList_some, Option.toList_none, List.cons_append, List.nil_append, catS_nil, catS_int, catS_ref, catS_null, catS_long, cat_int, cat_ref, cat_null, Nat.reduceEqDiff, Nat.reduceLeDiff, Nat.reduceAdd, false_and, and_false, if_false, if_true, ite_true, ite_false, true_or, or_true, false_or, or_false, and_self, forall_const, true_implies, reduceCtorEq, clr_int, clr_ref, clr_null, clr_none, clr_long, va_rf_some, va_rf_none, e9]
  refine tsw (l := 0) rfl (by omega) rfl rfl (fun i t hi e => ?_) (fun hq => ?_)
  · rcases i with _ | _ | _ | _ | _ | i
    · cases hi
      simp only [↓s_65_44, ↓s_65_45, ↓s_65_46, ↓s_65_49, ↓s_65_50, ↓s_65_53, ↓s_65_54, ↓s_65_55, ↓s_65_56, ↓s_65_59, kd_uF, ln_uF, ai_uF, al_uF, ar_uF, zs_uF, fd_uF, kd_uA, ln_uA, fd_uA, al_uA, ar_uA, zs_uA, ai_uA, kd_uL, ln_uL, fd_uL, ai_uL, ar_uL, zs_uL, al_uL, kd_uR, ln_uR, fd_uR, ai_uR, al_uR, zs_uR, ar_uR, true_and, and_true, Option.toList_some, Option.toList_none, List.cons_append, List.nil_append, catS_nil, catS_int, catS_ref, catS_null, catS_long, cat_int, cat_ref, cat_null, Nat.reduceEqDiff, Nat.reduceLeDiff, Nat.reduceAdd, false_and, and_false, if_false, if_true, ite_true, ite_false, true_or, or_true, false_or, or_false, and_self, forall_const, true_implies, reduceCtorEq, clr_int, clr_ref, clr_null, clr_none, clr_long, va_rf_some, va_rf_none, h0, s1, h2, m1, m2, m3, clN (show a < 2147483648 by omega)]
      rw [and2]
      refine ⟨hin, k156 _ (h _ ?_ (hF1.tr FrU.rf.S1))⟩
      rw [show x / 512 = 0 by omega]
      exact hu.S1
    · cases hi
      simp only [↓s_65_62, ↓s_65_63, ↓s_65_64, ↓s_65_67, ↓s_65_68, ↓s_65_69, kd_uF, ln_uF, ai_uF, al_uF, ar_uF, zs_uF, fd_uF, kd_uA, ln_uA, fd_uA, al_uA, ar_uA, zs_uA, ai_uA, kd_uL, ln_uL, fd_uL, ai_uL, ar_uL, zs_uL, al_uL, kd_uR, ln_uR, fd_uR, ai_uR, al_uR, zs_uR, ar_uR, true_and, and_true, Option.toList_some, Option.toList_none, List.cons_append, List.nil_append, catS_nil, catS_int, catS_ref, catS_null, catS_long, cat_int, cat_ref, cat_null, Nat.reduceEqDiff, Nat.reduceLeDiff, Nat.reduceAdd, false_and, and_false, if_false, if_true, ite_true, ite_false, true_or, or_true, false_or, or_false, and_self, forall_const, true_implies, reduceCtorEq, clr_int, clr_ref, clr_null, clr_none, clr_long, va_rf_some, va_rf_none, h0, s1, h2, m1, m2, m3, clN (show a < 2147483648 by omega)]
      refine ⟨hin, sp_U_add hu hB1.2.1 hB1.2.2.1 (Nat.le_of_lt (hB1.2.2.2.2.2.2.2.2.1 a)) (fun w2 hu2 hF2 => ?_)⟩
      simp only [↓s_65_72, kd_uF, ln_uF, ai_uF, al_uF, ar_uF, zs_uF, fd_uF, kd_uA, ln_uA, fd_uA, al_uA, ar_uA, zs_uA, ai_uA, kd_uL, ln_uL, fd_uL, ai_uL, ar_uL, zs_uL, al_uL, kd_uR, ln_uR, fd_uR, ai_uR, al_uR, zs_uR, ar_uR, true_and, and_true, Option.toList_some, Option.toList_none, List.cons_append, List.nil_append, catS_nil, catS_int, catS_ref, catS_null, catS_long, cat_int, cat_ref, cat_null, Nat.reduceEqDiff, Nat.reduceLeDiff, Nat.reduceAdd, false_and, and_false, if_false, if_true, ite_true, ite_false, true_or, or_true, false_or, or_false, and_self, forall_const, true_implies, reduceCtorEq, clr_int, clr_ref, clr_null, clr_none, clr_long, va_rf_some, va_rf_none]
      refine k156 _ (h _ ?_ (hF1.tr hF2))
      rw [show x / 512 = 1 by omega]
      exact hu2
    · cases hi
      simp only [↓s_65_75, ↓s_65_76, ↓s_65_79, ↓s_65_80, ↓s_65_81, ↓s_65_84, ↓s_65_85, ↓s_65_86, ↓s_65_87, ↓s_65_88, ↓s_65_91, ↓s_65_92, ↓s_65_93, ↓s_65_94, ↓s_65_97, ↓s_65_98, ↓s_65_99, ↓s_65_102, ↓s_65_103, kd_uF, ln_uF, ai_uF, al_uF, ar_uF, zs_uF, fd_uF, kd_uA, ln_uA, fd_uA, al_uA, ar_uA, zs_uA, ai_uA, kd_uL, ln_uL, fd_uL, ai_uL, ar_uL, zs_uL, al_uL, kd_uR, ln_uR, fd_uR, ai_uR, al_uR, zs_uR, ar_uR, true_and, and_true, Option.toList_some, Option.toList_none, List.cons_append, List.nil_append, catS_nil, catS_int, catS_ref, catS_null, catS_long, cat_int, cat_ref, cat_null, Nat.reduceEqDiff, Nat.reduceLeDiff, Nat.reduceAdd, false_and, and_false, if_false, if_true, ite_true, ite_false, true_or, or_true, false_or, or_false, and_self, forall_const, true_implies, reduceCtorEq, clr_int, clr_ref, clr_null, clr_none, clr_long, va_rf_some, va_rf_none, h0, s1, h2, m1, m2, m3, clN (show a < 2147483648 by omega)]
      have hma := hB1.2.2.2.2.2.2.2.2.1 a
      rw [nI_1, m12 (by omega), show (0 : Int32) = nI 0 from rfl, nI_eq (by omega) (by decide)]
      have e2 : x / 512 = 2 := by omega
      rw [e2] at h
      refine ⟨hin, hin, hin, fun q => k156 _ (h _ ?_ (hF1.tr (FrU.rf.A (k := 1) (by decide)))), fun q => sp_U_skip hu.Mem hB1.1 (fun w2 hu2 hF2 => ?_)⟩
      · unfold i_skipIf
        rw [if_neg (by simpa using q)]
        exact hu.Mem
      · simp only [↓s_65_106, kd_uF, ln_uF, ai_uF, al_uF, ar_uF, zs_uF, fd_uF, kd_uA, ln_uA, fd_uA, al_uA, ar_uA, zs_uA, ai_uA, kd_uL, ln_uL, fd_uL, ai_uL, ar_uL, zs_uL, al_uL, kd_uR, ln_uR, fd_uR, ai_uR, al_uR, zs_uR, ar_uR, true_and, and_true, Option.toList_some, Option.toList_none, List.cons_append, List.nil_append, catS_nil, catS_int, catS_ref, catS_null, catS_long, cat_int, cat_ref, cat_null, Nat.reduceEqDiff, Nat.reduceLeDiff, Nat.reduceAdd, false_and, and_false, if_false, if_true, ite_true, ite_false, true_or, or_true, false_or, or_false, and_self, forall_const, true_implies, reduceCtorEq, clr_int, clr_ref, clr_null, clr_none, clr_long, va_rf_some, va_rf_none]
        refine k156 _ (h _ ?_ (hF1.tr (FrU.tr (FrU.rf.A (k := 1) (by decide)) hF2)))
        unfold i_skipIf
        rw [if_pos (by simpa using q)]
        exact hu2
    · cases hi
      simp only [↓s_65_109, ↓s_65_110, ↓s_65_113, ↓s_65_114, ↓s_65_115, ↓s_65_118, ↓s_65_119, ↓s_65_120, ↓s_65_121, ↓s_65_124, kd_uF, ln_uF, ai_uF, al_uF, ar_uF, zs_uF, fd_uF, kd_uA, ln_uA, fd_uA, al_uA, ar_uA, zs_uA, ai_uA, kd_uL, ln_uL, fd_uL, ai_uL, ar_uL, zs_uL, al_uL, kd_uR, ln_uR, fd_uR, ai_uR, al_uR, zs_uR, ar_uR, true_and, and_true, Option.toList_some, Option.toList_none, List.cons_append, List.nil_append, catS_nil, catS_int, catS_ref, catS_null, catS_long, cat_int, cat_ref, cat_null, Nat.reduceEqDiff, Nat.reduceLeDiff, Nat.reduceAdd, false_and, and_false, if_false, if_true, ite_true, ite_false, true_or, or_true, false_or, or_false, and_self, forall_const, true_implies, reduceCtorEq, clr_int, clr_ref, clr_null, clr_none, clr_long, va_rf_some, va_rf_none, h0, s1, h2, m1, m2, m3, clN (show a < 2147483648 by omega)]
      refine ⟨hin, k156 _ (h _ ?_ (hF1.tr (FrU.rf.A (k := 1) (by decide)).S1))⟩
      rw [show x / 512 = 3 by omega]
      exact hu.Mem.S1
    · cases hi
      simp only [↓s_65_127, ↓s_65_128, ↓s_65_131, ↓s_65_132, ↓s_65_133, ↓s_65_136, ↓s_65_137, ↓s_65_138, ↓s_65_139, ↓s_65_140, ↓s_65_141, ↓s_65_144, ↓s_65_145, ↓s_65_148, kd_uF, ln_uF, ai_uF, al_uF, ar_uF, zs_uF, fd_uF, kd_uA, ln_uA, fd_uA, al_uA, ar_uA, zs_uA, ai_uA, kd_uL, ln_uL, fd_uL, ai_uL, ar_uL, zs_uL, al_uL, kd_uR, ln_uR, fd_uR, ai_uR, al_uR, zs_uR, ar_uR, true_and, and_true, Option.toList_some, Option.toList_none, List.cons_append, List.nil_append, catS_nil, catS_int, catS_ref, catS_null, catS_long, cat_int, cat_ref, cat_null, Nat.reduceEqDiff, Nat.reduceLeDiff, Nat.reduceAdd, false_and, and_false, if_false, if_true, ite_true, ite_false, true_or, or_true, false_or, or_false, and_self, forall_const, true_implies, reduceCtorEq, clr_int, clr_ref, clr_null, clr_none, clr_long, va_rf_some, va_rf_none, h0, s0, h2, m1, m2, m3, clN (show a < 2147483648 by omega)]
      rw [nI_1, m12 (by omega)]
      refine ⟨hin, k156 _ (h _ ?_ (hF1.tr (FrU.rf.A (k := 1) (by decide)).S0))⟩
      rw [show x / 512 = 4 by omega]
      exact hu.Mem.S0
    · simp at hi
  · simp only [↓s_65_151, ↓s_65_152, ↓s_65_153, kd_uF, ln_uF, ai_uF, al_uF, ar_uF, zs_uF, fd_uF, kd_uA, ln_uA, fd_uA, al_uA, ar_uA, zs_uA, ai_uA, kd_uL, ln_uL, fd_uL, ai_uL, ar_uL, zs_uL, al_uL, kd_uR, ln_uR, fd_uR, ai_uR, al_uR, zs_uR, ar_uR, true_and, and_true, Option.toList_some, Option.toList_none, List.cons_append, List.nil_append, catS_nil, catS_int, catS_ref, catS_null, catS_long, cat_int, cat_ref, cat_null, Nat.reduceEqDiff, Nat.reduceLeDiff, Nat.reduceAdd, false_and, and_false, if_false, if_true, ite_true, ite_false, true_or, or_true, false_or, or_false, and_self, forall_const, true_implies, reduceCtorEq, clr_int, clr_ref, clr_null, clr_none, clr_long, va_rf_some, va_rf_none, h0]
    refine k156 _ (h _ ?_ (hF1.tr FrU.rf.S0))
    have e5 : x / 512 = 5 := by simp at hq; omega
    rw [e5]
    exact hu.S0
theorem rotR {x : Nat} (h : x < 8192) : (nI x >>> (nI 1 &&& 31) ||| nI x <<< (13 - nI 1 &&& 31)) &&& 8191 = nI (x / 2 + x % 2 * 4096) := by
  rw [pk_shrN (by omega) _ 1 (by decide), pk_shlN _ 12 (by decide) (by omega), or2, Nat.or_comm, show x * 2 ^ 12 = 2 ^ 12 * x by omega, ← Nat.two_pow_add_eq_or_of_lt (by omega), pk_andN (m := 8191) (by omega) 13 (by decide)]
  congr 1
  omega
theorem rotL {x : Nat} (h : x < 8192) : (nI x >>> (nI 12 &&& 31) ||| nI x <<< (13 - nI 12 &&& 31)) &&& 8191 = nI (x * 2 % 8192 + x / 4096) := by
  rw [pk_shrN (by omega) _ 12 (by decide), pk_shlN _ 1 (by decide) (by omega), or2, Nat.or_comm, show x * 2 ^ 1 = 2 ^ 1 * x by omega, ← Nat.two_pow_add_eq_or_of_lt (by omega), pk_andN (m := 8191) (by omega) 13 (by decide)]
  congr 1
  omega
def rotN (right : Bool) (x : Nat) : Nat := if right then x / 2 + x % 2 * 4096 else x * 2 % 8192 + x / 4096
theorem rotN_lt {r : Bool} {x : Nat} (h : x < 8192) : rotN r x < 8192 := by unfold rotN; split <;> omega
theorem i_rot_eq {u : us} {r : Bool} : i_rot u r = uS (uS u 2 (rotN r (u.1 2 * 4096 + u.1 1) / 4096)) 1 (rotN r (u.1 2 * 4096 + u.1 1) % 4096) := by
  unfold i_rot rotN; rfl
theorem uS2 {u : us} {a c x y : Nat} : uS (uS (uS (uS u 2 a) 1 c) 2 x) 1 y = uS (uS u 2 x) 1 y := by
  unfold uS
  congr 1
  funext j
  unfold va_up
  dsimp only
  by_cases h1 : j = 1
  · simp [h1]
  · by_cases h2 : j = 2 <;> simp [h1, h2]
theorem i_rot_at {u : us} {r : Bool} {z : Nat} : i_rot (uS (uS u 2 (z / 4096)) 1 (z % 4096)) r = uS (uS u 2 (rotN r z / 4096)) 1 (rotN r z % 4096) := by
  rw [i_rot_eq]
  have e : (uS (uS u 2 (z / 4096)) 1 (z % 4096)).1 2 * 4096 + (uS (uS u 2 (z / 4096)) 1 (z % 4096)).1 1 = z := by
    show z / 4096 * 4096 + z % 4096 = z
    omega
  rw [e, uS2]
theorem i_rot2 {u : us} {r : Bool} : i_rot (i_rot u r) r = uS (uS u 2 (rotN r (rotN r (u.1 2 * 4096 + u.1 1)) / 4096)) 1 (rotN r (rotN r (u.1 2 * 4096 + u.1 1)) % 4096) := by
  rw [i_rot_eq (u := u), i_rot_at]
theorem sp_U_turn {d : Nat} {w : aw} {b n : Nat} {u : us} {Q : wQ} {pl ti : Nat} {r : Bool} (hu : UAt w b n u) (hb1 : u.1 1 < 4096) (hb2 : u.1 2 < 2) (hp : (r = true ∧ pl = 1) ∨ (r = false ∧ pl = 12)) (ht : ti = 1 ∨ ti = 2) (h : ∀ w', UAt w' b n (if ti = 2 then i_rot (i_rot u r) r else i_rot u r) → FrU w w' b → Q none w') : wpD (d + 1) 68 [.ref b, .int (nI pl), .int (nI ti)] w Q := by
  have hu0 := hu
  obtain ⟨h0, h1, h2, h3, h4, h5, h6, s0, s1, s2, s3, s4, s5, s6, s7, s8, s9, m1, m2, m3, f1, f2, f3, p1, p2, p3, li, lo⟩ := hu
  refine ⟨Nat.le_of_ble_eq_true rfl, ?_⟩
  show wp d 68 Q 0 [some (.ref b), some (.int (nI pl)), some (.int (nI ti)), none, none] [] w 0 0
  simp only [↓s_68_0, ↓s_68_1, ↓s_68_4, ↓s_68_6, ↓s_68_7, ↓s_68_8, ↓s_68_11, ↓s_68_12, ↓s_68_13, ↓s_68_14, kd_uF, ln_uF, ai_uF, al_uF, ar_uF, zs_uF, fd_uF, kd_uA, ln_uA, fd_uA, al_uA, ar_uA, zs_uA, ai_uA, kd_uL, ln_uL, fd_uL, ai_uL, ar_uL, zs_uL, al_uL, kd_uR, ln_uR, fd_uR, ai_uR, al_uR, zs_uR, ar_uR, true_and, and_true, Option.toList_some, Option.toList_none, List.cons_append, List.nil_append, catS_nil, catS_int, catS_ref, catS_null, catS_long, cat_int, cat_ref, cat_null, Nat.reduceEqDiff, Nat.reduceLeDiff, Nat.reduceAdd, false_and, and_false, if_false, if_true, ite_true, ite_false, true_or, or_true, false_or, or_false, and_self, forall_const, true_implies, reduceCtorEq, clr_int, clr_ref, clr_null, clr_none, clr_long, va_rf_some, va_rf_none, h0, s1, s2]
  have e0 : nI (u.1 2) <<< ((12 : Int32) &&& 31) ||| nI (u.1 1) = nI (u.1 2 * 4096 + u.1 1) := by
    rw [pk_shlN _ 12 (by decide) (by omega), or2, show u.1 2 * 2 ^ 12 = 2 ^ 12 * u.1 2 by omega, ← Nat.two_pow_add_eq_or_of_lt (by omega), show 2 ^ 12 * u.1 2 = u.1 2 * 4096 by omega]
  rw [e0]
  have lp : ∀ z i : Nat, z < 8192 → i < ti → wp d 68 Q 16 [some (.ref b), some (.int (nI pl)), some (.int (nI ti)), some (.int (nI (rotN r z))), some (.int (nI (i + 1)))] [] w 0 0 → wp d 68 Q 16 [some (.ref b), some (.int (nI pl)), some (.int (nI ti)), some (.int (nI z)), some (.int (nI i))] [] w 0 0 := by
    intro z i hz hi hk
    rw [s_68_16]
    simp only [↓s_68_18, ↓s_68_19, ↓s_68_22, ↓s_68_23, ↓s_68_24, ↓s_68_25, ↓s_68_26, ↓s_68_28, ↓s_68_29, ↓s_68_30, ↓s_68_31, ↓s_68_32, ↓s_68_35, ↓s_68_36, ↓s_68_37, ↓s_68_40, ↓s_68_43, ↓s_68_44, ↓s_68_45, ↓s_68_47, ↓s_68_48, ↓s_68_51, ↓s_68_52, ↓s_68_53, ↓s_68_56, ↓s_68_57, ↓s_68_60, kd_uF, ln_uF, ai_uF, al_uF, ar_uF, zs_uF, fd_uF, kd_uA, ln_uA, fd_uA, al_uA, ar_uA, zs_uA, ai_uA, kd_uL, ln_uL, fd_uL, ai_uL, ar_uL, zs_uL, al_uL, kd_uR, ln_uR, fd_uR, ai_uR, al_uR, zs_uR, ar_uR, true_and, and_true, Option.toList_some, Option.toList_none, List.cons_append, List.nil_append, catS_nil, catS_int, catS_ref, catS_null, catS_long, cat_int, cat_ref, cat_null, Nat.reduceEqDiff, Nat.reduceLeDiff, Nat.reduceAdd, false_and, and_false, if_false, if_true, ite_true, ite_false, true_or, or_true, false_or, or_false, and_self, forall_const, true_implies, reduceCtorEq, clr_int, clr_ref, clr_null, clr_none, clr_long, va_rf_some, va_rf_none]
    have er : (nI z >>> (nI pl &&& 31) ||| nI z <<< (13 - nI pl &&& 31)) &&& 8191 = nI (rotN r z) := by
      rcases hp with ⟨rfl, rfl⟩ | ⟨rfl, rfl⟩
      · rw [rotR hz]; rfl
      · rw [rotL hz]; rfl
    rw [er, nI_1]
    exact ⟨fun q => absurd q (nI_ge hi (by omega)), fun _ => hk⟩
  have ex : ∀ z : Nat, z < 8192 → UAt (uF (uF w 392 b (.int (nI (z / 4096)))) 391 b (.int (nI (z % 4096)))) b n (if ti = 2 then i_rot (i_rot u r) r else i_rot u r) → wp d 68 Q 16 [some (.ref b), some (.int (nI pl)), some (.int (nI ti)), some (.int (nI z)), some (.int (nI ti))] [] w 0 0 := by
    intro z hz hk
    rw [s_68_16]
    simp only [↓s_68_18, ↓s_68_19, ↓s_68_22, ↓s_68_23, ↓s_68_24, ↓s_68_25, ↓s_68_26, ↓s_68_28, ↓s_68_29, ↓s_68_30, ↓s_68_31, ↓s_68_32, ↓s_68_35, ↓s_68_36, ↓s_68_37, ↓s_68_40, ↓s_68_43, ↓s_68_44, ↓s_68_45, ↓s_68_47, ↓s_68_48, ↓s_68_51, ↓s_68_52, ↓s_68_53, ↓s_68_56, ↓s_68_57, ↓s_68_60, kd_uF, ln_uF, ai_uF, al_uF, ar_uF, zs_uF, fd_uF, kd_uA, ln_uA, fd_uA, al_uA, ar_uA, zs_uA, ai_uA, kd_uL, ln_uL, fd_uL, ai_uL, ar_uL, zs_uL, al_uL, kd_uR, ln_uR, fd_uR, ai_uR, al_uR, zs_uR, ar_uR, true_and, and_true, Option.toList_some, Option.toList_none, List.cons_append, List.nil_append, catS_nil, catS_int, catS_ref, catS_null, catS_long, cat_int, cat_ref, cat_null, Nat.reduceEqDiff, Nat.reduceLeDiff, Nat.reduceAdd, false_and, and_false, if_false, if_true, ite_true, ite_false, true_or, or_true, false_or, or_false, and_self, forall_const, true_implies, reduceCtorEq, clr_int, clr_ref, clr_null, clr_none, clr_long, va_rf_some, va_rf_none, h0]
    rw [m12 (by omega), pk_shrN (by omega) _ 12 (by decide)]
    exact ⟨fun _ => h _ hk FrU.rf.S2.S1, fun q => absurd (nI_le (Nat.le_refl _) (by omega)) q⟩
  have hz0 : u.1 2 * 4096 + u.1 1 < 8192 := by omega
  rcases ht with rfl | rfl
  · refine lp _ 0 hz0 (by decide) (ex _ (rotN_lt hz0) ?_)
    rw [if_neg (by decide), i_rot_eq]
    exact hu0.S2.S1
  · refine lp _ 0 hz0 (by decide) (lp _ 1 (rotN_lt hz0) (by decide) (ex _ (rotN_lt (rotN_lt hz0)) ?_))
    rw [if_pos rfl, i_rot2]
    exact hu0.S2.S1
