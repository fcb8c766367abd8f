/-! the user's small methods -/
theorem bz0 (n : Nat) : (nI n &&& 1 = 0) ↔ n.testBit 0 = false := bit_eq0 0 (by decide)
theorem bz1 (n : Nat) : (nI n &&& 2 = 0) ↔ n.testBit 1 = false := bit_eq0 1 (by decide)
theorem bz2 (n : Nat) : (nI n &&& 4 = 0) ↔ n.testBit 2 = false := bit_eq0 2 (by decide)
theorem bz3 (n : Nat) : (nI n &&& 8 = 0) ↔ n.testBit 3 = false := bit_eq0 3 (by decide)
theorem bz4 (n : Nat) : (nI n &&& 16 = 0) ↔ n.testBit 4 = false := bit_eq0 4 (by decide)
theorem bz5 (n : Nat) : (nI n &&& 32 = 0) ↔ n.testBit 5 = false := bit_eq0 5 (by decide)
theorem bz6 (n : Nat) : (nI n &&& 64 = 0) ↔ n.testBit 6 = false := bit_eq0 6 (by decide)
theorem bz7 (n : Nat) : (nI n &&& 128 = 0) ↔ n.testBit 7 = false := bit_eq0 7 (by decide)
theorem bz8 (n : Nat) : (nI n &&& 256 = 0) ↔ n.testBit 8 = false := bit_eq0 8 (by decide)
theorem bg0 (n : Nat) : (0 < nI n &&& 1) ↔ n.testBit 0 = true := bit_gt0 0 (by decide)
theorem bg1 (n : Nat) : (0 < nI n &&& 2) ↔ n.testBit 1 = true := bit_gt0 1 (by decide)
theorem bg2 (n : Nat) : (0 < nI n &&& 4) ↔ n.testBit 2 = true := bit_gt0 2 (by decide)
theorem bg3 (n : Nat) : (0 < nI n &&& 8) ↔ n.testBit 3 = true := bit_gt0 3 (by decide)
theorem bg4 (n : Nat) : (0 < nI n &&& 16) ↔ n.testBit 4 = true := bit_gt0 4 (by decide)
theorem bg5 (n : Nat) : (0 < nI n &&& 32) ↔ n.testBit 5 = true := bit_gt0 5 (by decide)
theorem bg6 (n : Nat) : (0 < nI n &&& 64) ↔ n.testBit 6 = true := bit_gt0 6 (by decide)
theorem bg7 (n : Nat) : (0 < nI n &&& 128) ↔ n.testBit 7 = true := bit_gt0 7 (by decide)
theorem bg8 (n : Nat) : (0 < nI n &&& 256) ↔ n.testBit 8 = true := bit_gt0 8 (by decide)
theorem xor1 {l : Nat} (h : l < 2) : nI l ^^^ 1 = nI (1 - l) := by
  rcases (show l = 0 ∨ l = 1 by omega) with rfl | rfl <;> decide
theorem m7 {n : Nat} (h : n < 4294967296) : nI n &&& 127 = nI (n % 128) := pk_andN (m := 127) h 7 (by decide)
theorem m8 {n : Nat} (h : n < 4294967296) : nI n &&& 255 = nI (n % 256) := pk_andN (m := 255) h 8 (by decide)
theorem page0 (n : Nat) (h : n < 4096) : n &&& 3968 = n / 128 * 128 := by
  have e : n &&& (31 <<< 7) = ((n >>> 7) &&& 31) <<< 7 := by
    apply Nat.eq_of_testBit_eq
    intro i
    rw [Nat.testBit_and, Nat.testBit_shiftLeft, Nat.testBit_shiftLeft, Nat.testBit_and, Nat.testBit_shiftRight]
    by_cases hi : 7 ≤ i
    · rw [show 7 + (i - 7) = i by omega]
      cases n.testBit i <;> simp
    · simp [hi]
  have e2 : (n >>> 7) &&& 31 = n / 128 := by
    rw [show (31 : Nat) = 2 ^ 5 - 1 from rfl, Nat.and_two_pow_sub_one_eq_mod, Nat.shiftRight_eq_div_pow]
    omega
  rw [show (3968 : Nat) = 31 <<< 7 from rfl, e, e2, Nat.shiftLeft_eq]
theorem page {n : Nat} (h : n < 4096) : nI n &&& 3968 = nI (n / 128 * 128) := by
  rw [show (3968 : Int32) = nI 3968 from rfl, and2, page0 n h]
theorem orp {a k : Nat} (h : a < 128) : nI a ||| nI (k * 128) = nI (a + k * 128) := by
  rw [or2, Nat.or_comm, Nat.add_comm, show k * 128 = 2 ^ 7 * k by omega, ← Nat.two_pow_add_eq_or_of_lt (by omega)]
/-- a switch -/
theorem tsw {x : Int32} {l j : Nat} {lo hi : Int} {ts : List Nat} {P : Nat → Prop} {E : Prop} (hx : x = nI j) (hj : j < 2147483648) (hl : lo = (l : Int)) (hh : hi = (l : Int) + ts.length - 1) (h1 : ∀ i t, ts[i]? = some t → j = l + i → P t) (h2 : j < l ∨ l + ts.length ≤ j → E) : (x.toInt < lo ∨ hi < x.toInt → E) ∧ ∀ (i t : Nat), ts[i]? = some t → x.toInt = lo + i → P t := by
  rw [hx, nI_toInt (by omega), hh, hl]
  exact ⟨fun q => h2 (by omega), fun i t hi e => h1 i t hi (by omega)⟩
theorem sp_U_add {d : Nat} {w : aw} {b n x : Nat} {u : us} {Q : wQ} (hu : UAt w b n u) (hb1 : u.1 1 < 4096) (hb2 : u.1 2 < 2) (hx : x ≤ 4096) (h : ∀ w', UAt w' b n (i_sum u (u.1 1 + x)) → FrU w w' b → Q none w') : wpD (d + 1) 64 [.ref b, .int (nI x)] w Q := by
  have hu0 := hu
  obtain ⟨h0, h1, h2, h3, h4, h5, h6, s0, s1, s2, s3, s4, s5, s6, s7, s8, s9, m1, m2, m3, f1, f2, f3, p1, p2, p3, li, lo⟩ := hu
  refine ⟨Nat.le_of_ble_eq_true rfl, ?_⟩
  show wp d 64 Q 0 [some (.ref b), some (.int (nI x)), none] [] w 0 0
  simp only [↓s_64_0, ↓s_64_1, ↓s_64_4, ↓s_64_5, ↓s_64_6, ↓s_64_7, ↓s_64_8, ↓s_64_11, ↓s_64_14, ↓s_64_15, ↓s_64_16, ↓s_64_19, ↓s_64_20, ↓s_64_21, ↓s_64_24, ↓s_64_25, ↓s_64_26, ↓s_64_29, ↓s_64_30, ↓s_64_33, kd_uF, ln_uF, ai_uF, al_uF, ar_uF, zs_uF, fd_uF, kd_uA, ln_uA, fd_uA, al_uA, ar_uA, zs_uA, ai_uA, kd_uL, ln_uL, fd_uL, ai_uL, ar_uL, zs_uL, al_uL, kd_uR, ln_uR, fd_uR, ai_uR, al_uR, zs_uR, ar_uR, true_and, and_true, Option.toList_some, Option.toList_none, List.cons_append, List.nil_append, catS_nil, catS_int, catS_ref, catS_null, catS_long, cat_int, cat_ref, cat_null, Nat.reduceEqDiff, Nat.reduceLeDiff, Nat.reduceAdd, false_and, and_false, if_false, if_true, ite_true, ite_false, true_or, or_true, false_or, or_false, and_self, forall_const, true_implies, reduceCtorEq, clr_int, clr_ref, clr_null, clr_none, clr_long, va_rf_some, va_rf_none, h0, s1, s2]
  rw [nI_add, m12 (by omega), xor1 hb2, show (4096 : Int32) = nI 4096 from rfl, nI_ltI (by omega) (by decide)]
  refine ⟨fun q => h _ ?_ FrU.rf.S1, fun q => h _ ?_ FrU.rf.S2.S1⟩
  · unfold i_sum; rw [if_neg (by omega)]; exact hu0.S1
  · unfold i_sum; rw [if_pos (by omega)]; exact hu0.S2.S1
theorem sp_U_wait {d : Nat} {w : aw} {b n own how : Nat} {u : us} {Q : wQ} (hu : UAt w b n u) (h : ∀ w', UAt w' b n (i_wait u own how) → FrU w w' b → Q none w') : wpD (d + 1) 72 [.ref b, .int (nI own), .int (nI how)] w Q := by
  have hu0 := hu
  obtain ⟨h0, h1, h2, h3, h4, h5, h6, s0, s1, s2, s3, s4, s5, s6, s7, s8, s9, m1, m2, m3, f1, f2, f3, p1, p2, p3, li, lo⟩ := hu
  refine ⟨Nat.le_of_ble_eq_true rfl, ?_⟩
  show wp d 72 Q 0 [some (.ref b), some (.int (nI own)), some (.int (nI how))] [] w 0 0
  simp only [↓s_72_0, ↓s_72_1, ↓s_72_2, ↓s_72_5, ↓s_72_6, ↓s_72_7, ↓s_72_10, kd_uF, ln_uF, ai_uF, al_uF, ar_uF, zs_uF, fd_uF, kd_uA, ln_uA, fd_uA, al_uA, ar_uA, zs_uA, ai_uA, kd_uL, ln_uL, fd_uL, ai_uL, ar_uL, zs_uL, al_uL, kd_uR, ln_uR, fd_uR, ai_uR, al_uR, zs_uR, ar_uR, true_and, and_true, Option.toList_some, Option.toList_none, List.cons_append, List.nil_append, catS_nil, catS_int, catS_ref, catS_null, catS_long, cat_int, cat_ref, cat_null, Nat.reduceEqDiff, Nat.reduceLeDiff, Nat.reduceAdd, false_and, and_false, if_false, if_true, ite_true, ite_false, true_or, or_true, false_or, or_false, and_self, forall_const, true_implies, reduceCtorEq, clr_int, clr_ref, clr_null, clr_none, clr_long, va_rf_some, va_rf_none, h0]
  exact h _ hu0.S0.S3 FrU.rf.S0.S3
theorem sp_U_sleep {d : Nat} {w : aw} {b n : Nat} {u : us} {Q : wQ} (hu : UAt w b n u) (hb1 : u.1 1 < 4096) (h : ∀ w', UAt w' b n (if u.1 1 = 0 then u else uS (uS (uS u 3 5) 4 (u.1 1)) 1 0) → FrU w w' b → Q none w') : wpD (d + 1) 73 [.ref b] w Q := by
  have hu0 := hu
  obtain ⟨h0, h1, h2, h3, h4, h5, h6, s0, s1, s2, s3, s4, s5, s6, s7, s8, s9, m1, m2, m3, f1, f2, f3, p1, p2, p3, li, lo⟩ := hu
  refine ⟨Nat.le_of_ble_eq_true rfl, ?_⟩
  show wp d 73 Q 0 [some (.ref b)] [] w 0 0
  simp only [↓s_73_0, ↓s_73_1, ↓s_73_4, ↓s_73_7, ↓s_73_8, ↓s_73_9, ↓s_73_12, ↓s_73_13, ↓s_73_14, ↓s_73_17, ↓s_73_20, ↓s_73_21, ↓s_73_22, ↓s_73_25, kd_uF, ln_uF, ai_uF, al_uF, ar_uF, zs_uF, fd_uF, kd_uA, ln_uA, fd_uA, al_uA, ar_uA, zs_uA, ai_uA, kd_uL, ln_uL, fd_uL, ai_uL, ar_uL, zs_uL, al_uL, kd_uR, ln_uR, fd_uR, ai_uR, al_uR, zs_uR, ar_uR, true_and, and_true, Option.toList_some, Option.toList_none, List.cons_append, List.nil_append, catS_nil, catS_int, catS_ref, catS_null, catS_long, cat_int, cat_ref, cat_null, Nat.reduceEqDiff, Nat.reduceLeDiff, Nat.reduceAdd, false_and, and_false, if_false, if_true, ite_true, ite_false, true_or, or_true, false_or, or_false, and_self, forall_const, true_implies, reduceCtorEq, clr_int, clr_ref, clr_null, clr_none, clr_long, va_rf_some, va_rf_none, h0, s1]
  rw [show (0 : Int32) = nI 0 from rfl, nI_eq (by omega) (by decide)]
  refine ⟨fun q => h _ ?_ FrU.rf, fun q => h _ ?_ FrU.rf.S3.S4.S1⟩
  · rw [if_pos q]; exact hu0
  · rw [if_neg q]; exact hu0.S3.S4.S1
theorem sp_U_addr {d : Nat} {w : aw} {b n x own : Nat} {u : us} {Q : wQ} (hu : UAt w b n u) (hB : UB u) (hx : x < 4096) (ho : own < 4096) (h : ∀ w', UAt w' b n (i_refA u x own).1 → FrU w w' b → Q (some (.int (nI (i_refA u x own).2))) w') : wpD (d + 1) 66 [.ref b, .int (nI x), .int (nI own)] w Q := by
  have hu0 := hu
  obtain ⟨h0, h1, h2, h3, h4, h5, h6, s0, s1, s2, s3, s4, s5, s6, s7, s8, s9, m1, m2, m3, f1, f2, f3, p1, p2, p3, li, lo⟩ := hu
  have hmm := hB.2.2.2.2.2.2.2.2.1
  refine ⟨Nat.le_of_ble_eq_true rfl, ?_⟩
  show wp d 66 Q 0 [some (.ref b), some (.int (nI x)), some (.int (nI own)), none] [] w 0 0
  simp only [↓s_66_0, ↓s_66_1, ↓s_66_3, ↓s_66_4, ↓s_66_5, ↓s_66_6, ↓s_66_9, ↓s_66_10, ↓s_66_13, ↓s_66_14, ↓s_66_15, ↓s_66_18, ↓s_66_19, ↓s_66_20, ↓s_66_21, ↓s_66_22, ↓s_66_25, ↓s_66_26, ↓s_66_29, ↓s_66_30, ↓s_66_31, ↓s_66_32, ↓s_66_34, ↓s_66_37, ↓s_66_38, ↓s_66_40, ↓s_66_43, ↓s_66_44, ↓s_66_47, ↓s_66_48, ↓s_66_49, ↓s_66_52, ↓s_66_53, ↓s_66_54, ↓s_66_55, ↓s_66_56, ↓s_66_59, ↓s_66_60, ↓s_66_61, ↓s_66_62, ↓s_66_65, ↓s_66_66, ↓s_66_67, ↓s_66_70, ↓s_66_71, kd_uF, ln_uF, ai_uF, al_uF, ar_uF, zs_uF, fd_uF, kd_uA, ln_uA, fd_uA, al_uA, ar_uA, zs_uA, ai_uA, kd_uL, ln_uL, fd_uL, ai_uL, ar_uL, zs_uL, al_uL, kd_uR, ln_uR, fd_uR, ai_uR, al_uR, zs_uR, ar_uR, true_and, and_true, Option.toList_some, Option.toList_none, List.cons_append, List.nil_append, catS_nil, catS_int, catS_ref, catS_null, catS_long, cat_int, cat_ref, cat_null, Nat.reduceEqDiff, Nat.reduceLeDiff, Nat.reduceAdd, false_and, and_false, if_false, if_true, ite_true, ite_false, true_or, or_true, false_or, or_false, and_self, forall_const, true_implies, reduceCtorEq, clr_int, clr_ref, clr_null, clr_none, clr_long, va_rf_some, va_rf_none, h0, h2, m1, m2, m3, bz7, bz8]
  rw [m7 (by omega), page ho, orp (Nat.mod_lt _ (by decide))]
  have key : ∀ a, a < 4096 → i_addr u x own = a → ((¬x.testBit 8 = false → (nI a < 8 → inR (nI a) 4096 ∧ Q (some (Value.int (nI (uMm u (nI a).toNatClampNeg) &&& 4095))) w) ∧ (¬nI a < 8 → (15 < nI a → inR (nI a) 4096 ∧ Q (some (Value.int (nI (uMm u (nI a).toNatClampNeg) &&& 4095))) w) ∧ (¬15 < nI a → inR (nI a) 4096 ∧ inR (nI a) 4096 ∧ inR (nI a) 4096 ∧ Q (some (Value.int (nI (uMm u (nI a).toNatClampNeg) + 1 &&& 4095 &&& 4095))) (uA w (b + 1) (nI a).toNatClampNeg (nI (uMm u (nI a).toNatClampNeg) + 1 &&& 4095))))) ∧ (x.testBit 8 = false → Q (some (Value.int (nI a))) w)) := by
    intro a ha he
    have hma := hmm a
    rw [clN (by omega), m12 (by omega), nI_1, m12 (by omega), m12 (by omega), Nat.mod_eq_of_lt hma, Nat.mod_mod, show (8 : Int32) = nI 8 from rfl, show (15 : Int32) = nI 15 from rfl, nI_ltI (by omega) (by decide), nI_ltI (by decide) (by omega)]
    have hin : inR (nI a) 4096 := inR_nI ha (by decide)
    have eA : i_refA u x own = if x.testBit 8 then (i_bump u a, uMm (i_bump u a) a) else (u, a) := by unfold i_refA; rw [he]
    refine ⟨fun q => ?_, fun q => ?_⟩
    · have q' : x.testBit 8 = true := by simpa using q
      rw [if_pos q'] at eA
      rw [eA] at h
      unfold i_bump at h
      refine ⟨fun q1 => ⟨hin, ?_⟩, fun q1 => ⟨fun q2 => ⟨hin, ?_⟩, fun q2 => ⟨hin, hin, hin, ?_⟩⟩⟩
      · rw [if_neg (by omega)] at h; exact h _ hu0 FrU.rf
      · rw [if_neg (by omega)] at h; exact h _ hu0 FrU.rf
      · rw [if_pos (by omega)] at h
        have := h _ hu0.Mem (FrU.rf.A (k := 1) (by decide))
        have e2 : uMm (uMem u a ((uMm u a + 1) % 4096)) a = (uMm u a + 1) % 4096 := by show va_up _ _ _ _ = _; exact va_up_self _ _ _
        rw [e2] at this
        exact this
    · rw [q, if_neg (by decide)] at eA
      rw [eA] at h
      exact h _ hu0 FrU.rf
  refine ⟨fun q => key (x % 128) (by omega) (by unfold i_addr; rw [q]; rfl), fun q => key (x % 128 + own / 128 * 128) (by omega) ?_⟩
  have q' : x.testBit 7 = true := by simpa using q
  unfold i_addr; rw [q']; rfl
