theorem bit_le0 {n : Nat} (k : Nat) (hk : k < 31) : (nI n &&& nI (2 ^ k) ≤ 0) ↔ n.testBit k = false := by
  rw [← Int32.not_lt, bit_gt0 k hk]
  simp
theorem bl0 (n : Nat) : (nI n &&& 1 ≤ 0) ↔ n.testBit 0 = false := bit_le0 0 (by decide)
theorem bl1 (n : Nat) : (nI n &&& 2 ≤ 0) ↔ n.testBit 1 = false := bit_le0 1 (by decide)
theorem bl2 (n : Nat) : (nI n &&& 4 ≤ 0) ↔ n.testBit 2 = false := bit_le0 2 (by decide)
theorem bl3 (n : Nat) : (nI n &&& 8 ≤ 0) ↔ n.testBit 3 = false := bit_le0 3 (by decide)
theorem bl4 (n : Nat) : (nI n &&& 16 ≤ 0) ↔ n.testBit 4 = false := bit_le0 4 (by decide)
theorem bl5 (n : Nat) : (nI n &&& 32 ≤ 0) ↔ n.testBit 5 = false := bit_le0 5 (by decide)
theorem bl6 (n : Nat) : (nI n &&& 64 ≤ 0) ↔ n.testBit 6 = false := bit_le0 6 (by decide)
theorem bl7 (n : Nat) : (nI n &&& 128 ≤ 0) ↔ n.testBit 7 = false := bit_le0 7 (by decide)
theorem bl8 (n : Nat) : (nI n &&& 256 ≤ 0) ↔ n.testBit 8 = false := bit_le0 8 (by decide)
def FrN (w w' : aw) (m u : Nat) : Prop := FrV w w' m u ∧ ∀ g, fd w' g m = fd w g m
theorem FrN.rf {w : aw} {m u : Nat} : FrN w w m u := ⟨FrV.rf, fun _ => rfl⟩
theorem FrN.tr {w w1 w2 : aw} {m u : Nat} (h : FrN w w1 m u) (g : FrN w1 w2 m u) : FrN w w2 m u := ⟨h.1.tr g.1, fun q => (g.2 q).trans (h.2 q)⟩
theorem FrN.one {w w' : aw} {m u k : Nat} {x : Int32} (h : FrN w w' m u) (hk : k = 2 ∨ (5 ≤ k ∧ k ≤ 12) ∨ k = 14 ∨ k = 16 ∨ k = 18) : FrN w (uA w' (m + k) u x) m u := ⟨h.1.one hk, h.2⟩
theorem FrN.two {w w' : aw} {m u k a : Nat} {x : Int32} (h : FrN w w' m u) (hk : k = 3 ∨ k = 4) (ha : a < 4096) : FrN w (uA w' (m + k) (4096 * u + a) x) m u := ⟨h.1.two hk ha, h.2⟩
theorem FrN.sh {w w' : aw} {m u : Nat} (h : FrN w w' m u) (hs : RSh w m) : RSh w' m := h.1.sh hs
theorem uS_self {x : us} {k : Nat} : uS x k (x.1 k) = x := by
  unfold uS
  have : va_up x.1 k (x.1 k) = x.1 := by funext j; unfold va_up; by_cases h : j = k <;> simp [h]
  rw [this]
theorem sub1 {l : Nat} (h : l < 2) : (1 : Int32) - nI l = nI (1 - l) := pk_sub (a := 1) (by omega)
theorem sp_R_sum {d : Nat} {w : aw} {m u v : Nat} {x : us} {Q : wQ} (hs : RSh w m) (hx : RU w m u x) (hu : u < 8) (h2 : x.1 2 < 2) (hv : v < 65536) (h : ∀ w', RU w' m u (i_sum x v) → FrN w w' m u → Q none w') : wpD (d + 1) 109 [.ref m, .int (nI u), .int (nI v)] w Q := by
  obtain ⟨rk, r1, r2, r3, r4, r5, r6, r7, r8, r9, r10, r11, r12, r13, r14, r15, r16, r17, r18, r19, r20, r21, r22, r23, r24, k1, k2, k3, k4, k5, k6, k7, k8, k9, k10, k11, k12, k13, k14, k15, k16, k17, k18, k19, k20, k21, k22, k23, k24, n1, n2, n3, n4, n5, n6, n7, n8, n9, n10, n11, n12, n13, n14, n15, n16, n17, n18, n19, n20, n21, n22, n23, n24⟩ := hs
  have hx0 := hx
  obtain ⟨t0, t1, t2, t3, t4, t5, t6, t7, t8, t9, mm, ff, pp, il, ix, ol, ox⟩ := hx
  refine ⟨Nat.le_of_ble_eq_true rfl, ?_⟩
  show wp d 109 Q 0 [some (.ref m), some (.int (nI u)), some (.int (nI v))] [] w 0 0
  have hin : inR (nI u) 8 := inR_nI hu (by decide)
  have cu : (nI u).toNatClampNeg = u := clN (by omega)
  have k21 : ∀ w' y, RU w' m u y → (uS y 1 (v % 4096)) = i_sum x v → FrN w w' m u → wp d 109 Q 21 [some (.ref m), some (.int (nI u)), some (.int (nI v))] [] w' 0 0 := by
    intro w' y hy he hF
    have hs' : RSh w' m := hF.sh ⟨rk, r1, r2, r3, r4, r5, r6, r7, r8, r9, r10, r11, r12, r13, r14, r15, r16, r17, r18, r19, r20, r21, r22, r23, r24, k1, k2, k3, k4, k5, k6, k7, k8, k9, k10, k11, k12, k13, k14, k15, k16, k17, k18, k19, k20, k21, k22, k23, k24, n1, n2, n3, n4, n5, n6, n7, n8, n9, n10, n11, n12, n13, n14, n15, n16, n17, n18, n19, n20, n21, n22, n23, n24⟩
    obtain ⟨rk, r1, r2, r3, r4, r5, r6, r7, r8, r9, r10, r11, r12, r13, r14, r15, r16, r17, r18, r19, r20, r21, r22, r23, r24, k1, k2, k3, k4, k5, k6, k7, k8, k9, k10, k11, k12, k13, k14, k15, k16, k17, k18, k19, k20, k21, k22, k23, k24, n1, n2, n3, n4, n5, n6, n7, n8, n9, n10, n11, n12, n13, n14, n15, n16, n17, n18, n19, n20, n21, n22, n23, n24⟩ := hs'
    simp only [↓s_109_21, ↓s_109_22, ↓s_109_25, ↓s_109_26, ↓s_109_27, ↓s_109_30, ↓s_109_31, ↓s_109_32, kd_uF, ln_uF, ai_uF, al_uF, ar_uF, zs_uF, fd_uF, kd_uA, ln_uA, fd_uA, al_uA, ar_uA, zs_uA, ai_uA, kd_uL, ln_uL, fd_uL, ai_uL, ar_uL, zs_uL, al_uL, kd_uR, ln_uR, fd_uR, ai_uR, al_uR, zs_uR, ar_uR, true_and, and_true, Option.toList_some, Option.toList_none, List.cons_append, List.nil_append, catS_nil, catS_int, catS_ref, catS_null, catS_long, cat_int, cat_ref, cat_null, Nat.reduceEqDiff, Nat.reduceLeDiff, Nat.reduceAdd, false_and, and_false, if_false, if_true, ite_true, ite_false, true_or, or_true, false_or, or_false, and_self, forall_const, true_implies, reduceCtorEq, clr_int, clr_ref, clr_null, clr_none, clr_long, va_rf_some, va_rf_none, rk, r5, k5, n5, cu]
    rw [m12 (by omega)]
    refine ⟨hin, h _ (by rw [← he]; exact hy.S1) (hF.one (by omega))⟩
  simp only [↓s_109_0, ↓s_109_1, ↓s_109_4, ↓s_109_7, ↓s_109_8, ↓s_109_11, ↓s_109_12, ↓s_109_13, ↓s_109_14, ↓s_109_17, ↓s_109_18, ↓s_109_19, ↓s_109_20, kd_uF, ln_uF, ai_uF, al_uF, ar_uF, zs_uF, fd_uF, kd_uA, ln_uA, fd_uA, al_uA, ar_uA, zs_uA, ai_uA, kd_uL, ln_uL, fd_uL, ai_uL, ar_uL, zs_uL, al_uL, kd_uR, ln_uR, fd_uR, ai_uR, al_uR, zs_uR, ar_uR, true_and, and_true, Option.toList_some, Option.toList_none, List.cons_append, List.nil_append, catS_nil, catS_int, catS_ref, catS_null, catS_long, cat_int, cat_ref, cat_null, Nat.reduceEqDiff, Nat.reduceLeDiff, Nat.reduceAdd, false_and, and_false, if_false, if_true, ite_true, ite_false, true_or, or_true, false_or, or_false, and_self, forall_const, true_implies, reduceCtorEq, clr_int, clr_ref, clr_null, clr_none, clr_long, va_rf_some, va_rf_none, rk, r7, k7, n7, cu, t2]
  rw [sub1 h2, show (4095 : Int32) = nI 4095 from rfl, nI_leI (by omega) (by decide)]
  refine ⟨fun q => k21 w x hx0 (by unfold i_sum; rw [if_neg (by omega)]) FrN.rf, fun q => ⟨hin, hin, k21 _ _ hx0.S2 (by unfold i_sum; rw [if_pos (by omega)]) (FrN.rf.one (by omega))⟩⟩
theorem sp_R_skip {d : Nat} {w : aw} {m u : Nat} {x : us} {c : Bool} {Q : wQ} (hs : RSh w m) (hx : RU w m u x) (hu : u < 8) (hp : x.1 0 < 4096) (h : ∀ w', RU w' m u (i_skipIf x c) → FrN w w' m u → Q none w') : wpD (d + 1) 110 [.ref m, .int (nI u), .int (nI c.toNat)] w Q := by
  obtain ⟨rk, r1, r2, r3, r4, r5, r6, r7, r8, r9, r10, r11, r12, r13, r14, r15, r16, r17, r18, r19, r20, r21, r22, r23, r24, k1, k2, k3, k4, k5, k6, k7, k8, k9, k10, k11, k12, k13, k14, k15, k16, k17, k18, k19, k20, k21, k22, k23, k24, n1, n2, n3, n4, n5, n6, n7, n8, n9, n10, n11, n12, n13, n14, n15, n16, n17, n18, n19, n20, n21, n22, n23, n24⟩ := hs
  have hx0 := hx
  obtain ⟨t0, t1, t2, t3, t4, t5, t6, t7, t8, t9, mm, ff, pp, il, ix, ol, ox⟩ := hx
  refine ⟨Nat.le_of_ble_eq_true rfl, ?_⟩
  show wp d 110 Q 0 [some (.ref m), some (.int (nI u)), some (.int (nI c.toNat))] [] w 0 0
  have hin : inR (nI u) 8 := inR_nI hu (by decide)
  have cu : (nI u).toNatClampNeg = u := clN (by omega)
  simp only [↓s_110_0, ↓s_110_1, ↓s_110_4, ↓s_110_5, ↓s_110_6, ↓s_110_9, ↓s_110_10, ↓s_110_13, ↓s_110_14, ↓s_110_15, ↓s_110_16, ↓s_110_17, ↓s_110_20, ↓s_110_21, ↓s_110_24, ↓s_110_25, ↓s_110_28, ↓s_110_29, ↓s_110_30, ↓s_110_31, kd_uF, ln_uF, ai_uF, al_uF, ar_uF, zs_uF, fd_uF, kd_uA, ln_uA, fd_uA, al_uA, ar_uA, zs_uA, ai_uA, kd_uL, ln_uL, fd_uL, ai_uL, ar_uL, zs_uL, al_uL, kd_uR, ln_uR, fd_uR, ai_uR, al_uR, zs_uR, ar_uR, true_and, and_true, Option.toList_some, Option.toList_none, List.cons_append, List.nil_append, catS_nil, catS_int, catS_ref, catS_null, catS_long, cat_int, cat_ref, cat_null, Nat.reduceEqDiff, Nat.reduceLeDiff, Nat.reduceAdd, false_and, and_false, if_false, if_true, ite_true, ite_false, true_or, or_true, false_or, or_false, and_self, forall_const, true_implies, reduceCtorEq, clr_int, clr_ref, clr_null, clr_none, clr_long, va_rf_some, va_rf_none, rk, r6, k6, n6, cu, t0]
  rw [nI_1, m12 (by omega)]
  refine ⟨fun q => ⟨hin, hin, h _ ?_ (FrN.rf.one (by omega))⟩, fun q => ⟨hin, hin, h _ ?_ (FrN.rf.one (by omega))⟩⟩
  · have : c = false := by cases c <;> first | rfl | exact absurd q (by decide)
    subst this
    have := hx0.S0 (v := x.1 0)
    rw [uS_self] at this
    exact this
  · have : c = true := by cases c <;> first | rfl | exact absurd rfl q
    subst this
    exact hx0.S0
theorem sp_R_leave {d : Nat} {w : aw} {m u how : Nat} {x : us} {Q : wQ} (hs : RSh w m) (hx : RU w m u x) (hu : u < 8) (h : ∀ w', RU w' m u (uS x 3 how) → FrV w w' m u → fd w' 521 m = .int (-1) → fd w' 522 m = .int 0 → Q none w') : wpD (d + 1) 118 [.ref m, .int (nI u), .int (nI how)] w Q := by
  obtain ⟨rk, r1, r2, r3, r4, r5, r6, r7, r8, r9, r10, r11, r12, r13, r14, r15, r16, r17, r18, r19, r20, r21, r22, r23, r24, k1, k2, k3, k4, k5, k6, k7, k8, k9, k10, k11, k12, k13, k14, k15, k16, k17, k18, k19, k20, k21, k22, k23, k24, n1, n2, n3, n4, n5, n6, n7, n8, n9, n10, n11, n12, n13, n14, n15, n16, n17, n18, n19, n20, n21, n22, n23, n24⟩ := hs
  refine ⟨Nat.le_of_ble_eq_true rfl, ?_⟩
  show wp d 118 Q 0 [some (.ref m), some (.int (nI u)), some (.int (nI how))] [] w 0 0
  have hin : inR (nI u) 8 := inR_nI hu (by decide)
  have cu : (nI u).toNatClampNeg = u := clN (by omega)
  simp only [↓s_118_0, ↓s_118_1, ↓s_118_4, ↓s_118_5, ↓s_118_6, ↓s_118_7, ↓s_118_8, ↓s_118_9, ↓s_118_12, ↓s_118_13, ↓s_118_14, ↓s_118_17, kd_uF, ln_uF, ai_uF, al_uF, ar_uF, zs_uF, fd_uF, kd_uA, ln_uA, fd_uA, al_uA, ar_uA, zs_uA, ai_uA, kd_uL, ln_uL, fd_uL, ai_uL, ar_uL, zs_uL, al_uL, kd_uR, ln_uR, fd_uR, ai_uR, al_uR, zs_uR, ar_uR, true_and, and_true, Option.toList_some, Option.toList_none, List.cons_append, List.nil_append, catS_nil, catS_int, catS_ref, catS_null, catS_long, cat_int, cat_ref, cat_null, Nat.reduceEqDiff, Nat.reduceLeDiff, Nat.reduceAdd, false_and, and_false, if_false, if_true, ite_true, ite_false, true_or, or_true, false_or, or_false, and_self, forall_const, true_implies, reduceCtorEq, clr_int, clr_ref, clr_null, clr_none, clr_long, va_rf_some, va_rf_none, rk, r8, k8, n8, cu]
  exact ⟨hin, h _ hx.S3 (((FrV.rf.one (by omega)).fld (Or.inl rfl)).fld (Or.inr rfl)) (by simp only [kd_uF, ln_uF, ai_uF, al_uF, ar_uF, zs_uF, fd_uF, kd_uA, ln_uA, fd_uA, al_uA, ar_uA, zs_uA, ai_uA, kd_uL, ln_uL, fd_uL, ai_uL, ar_uL, zs_uL, al_uL, kd_uR, ln_uR, fd_uR, ai_uR, al_uR, zs_uR, ar_uR, true_and, and_true, Option.toList_some, Option.toList_none, List.cons_append, List.nil_append, catS_nil, catS_int, catS_ref, catS_null, catS_long, cat_int, cat_ref, cat_null, Nat.reduceEqDiff, Nat.reduceLeDiff, Nat.reduceAdd, false_and, and_false, if_false, if_true, ite_true, ite_false, true_or, or_true, false_or, or_false, and_self, forall_const, true_implies, reduceCtorEq, clr_int, clr_ref, clr_null, clr_none, clr_long, va_rf_some, va_rf_none]) (by simp only [kd_uF, ln_uF, ai_uF, al_uF, ar_uF, zs_uF, fd_uF, kd_uA, ln_uA, fd_uA, al_uA, ar_uA, zs_uA, ai_uA, kd_uL, ln_uL, fd_uL, ai_uL, ar_uL, zs_uL, al_uL, kd_uR, ln_uR, fd_uR, ai_uR, al_uR, zs_uR, ar_uR, true_and, and_true, Option.toList_some, Option.toList_none, List.cons_append, List.nil_append, catS_nil, catS_int, catS_ref, catS_null, catS_long, cat_int, cat_ref, cat_null, Nat.reduceEqDiff, Nat.reduceLeDiff, Nat.reduceAdd, false_and, and_false, if_false, if_true, ite_true, ite_false, true_or, or_true, false_or, or_false, and_self, forall_const, true_implies, reduceCtorEq, clr_int, clr_ref, clr_null, clr_none, clr_long, va_rf_some, va_rf_none])⟩
theorem div512 {x : Nat} (h : x < 2147483648) : nI x / 512 = nI (x / 512) := pk_div (d := 512) h (by decide) (by decide)
theorem sp_R_memory {d : Nat} {w : aw} {m u z own : Nat} {x : us} {Q : wQ} (hs : RSh w m) (hx : RU w m u x) (hB : UB x) (hu : u < 8) (hz : z < 3072) (ho : own < 4096) (h : ∀ w', RU w' m u (i_ref x z own) → FrN w w' m u → Q none w') : wpD (d + 2) 112 [.ref m, .int (nI u), .int (nI z), .int (nI own)] w Q := by
  refine ⟨Nat.le_of_ble_eq_true rfl, ?_⟩
  show wp (d + 1) 112 Q 0 [some (.ref m), some (.int (nI u)), some (.int (nI z)), some (.int (nI own)), none] [] w 0 0
  have hin : inR (nI u) 8 := inR_nI hu (by decide)
  have cu : (nI u).toNatClampNeg = u := clN (by omega)
  have k249 : ∀ w' l4, Q none w' → wp (d + 1) 112 Q 249 [some (.ref m), some (.int (nI u)), some (.int (nI z)), some (.int (nI own)), l4] [] w' 0 0 := by
    intro w' l4 hq
    simp only [↓s_112_249]
    exact hq
  have k69 : ∀ w' y a, RU w' m u y → UB y → a < 4096 → (y, a) = i_refA x z own → FrN w w' m u → wp (d + 1) 112 Q 69 [some (.ref m), some (.int (nI u)), some (.int (nI z)), some (.int (nI own)), some (.int (nI a))] [] w' 0 0 := by
    intro w' y a hy hBy ha he hF
    unfold i_ref at h
    rw [← he] at h
    dsimp only at h
    have hs' := hF.sh hs
    have hs0 := hs'
    have hy0 := hy
    have hmm := hBy.2.2.2.2.2.2.2.2.1
    obtain ⟨rk, r1, r2, r3, r4, r5, r6, r7, r8, r9, r10, r11, r12, r13, r14, r15, r16, r17, r18, r19, r20, r21, r22, r23, r24, k1, k2, k3, k4, k5, k6, k7, k8, k9, k10, k11, k12, k13, k14, k15, k16, k17, k18, k19, k20, k21, k22, k23, k24, n1, n2, n3, n4, n5, n6, n7, n8, n9, n10, n11, n12, n13, n14, n15, n16, n17, n18, n19, n20, n21, n22, n23, n24⟩ := hs'
    obtain ⟨t0, t1, t2, t3, t4, t5, t6, t7, t8, t9, mm, ff, pp, il, ix, ol, ox⟩ := hy
    simp only [↓s_112_69, ↓s_112_70, ↓s_112_73, ↓s_112_74, kd_uF, ln_uF, ai_uF, al_uF, ar_uF, zs_uF, fd_uF, kd_uA, ln_uA, fd_uA, al_uA, ar_uA, zs_uA, ai_uA, kd_uL, ln_uL, fd_uL, ai_uL, ar_uL, zs_uL, al_uL, kd_uR, ln_uR, fd_uR, ai_uR, al_uR, zs_uR, ar_uR, true_and, and_true, Option.toList_some, Option.toList_none, List.cons_append, List.nil_append, catS_nil, catS_int, catS_ref, catS_null, catS_long, cat_int, cat_ref, cat_null, Nat.reduceEqDiff, Nat.reduceLeDiff, Nat.reduceAdd, false_and, and_false, if_false, if_true, ite_true, ite_false, true_or, or_true, false_or, or_false, and_self, forall_const, true_implies, reduceCtorEq, clr_int, clr_ref, clr_null, clr_none, clr_long, va_rf_some, va_rf_none]
    rw [div512 (by omega)]
    refine ⟨by decide, tsw (l := 0) rfl (by omega) rfl rfl (fun i t hi e => ?_) (fun hq => ?_)⟩
    · rcases i with _ | _ | _ | _ | _ | i
      · cases hi
        rw [show z / 512 = 0 by omega] at h
        simp only [↓s_112_108, ↓s_112_109, ↓s_112_112, ↓s_112_113, ↓s_112_114, ↓s_112_115, ↓s_112_116, ↓s_112_117, ↓s_112_119, kd_uF, ln_uF, ai_uF, al_uF, ar_uF, zs_uF, fd_uF, kd_uA, ln_uA, fd_uA, al_uA, ar_uA, zs_uA, ai_uA, kd_uL, ln_uL, fd_uL, ai_uL, ar_uL, zs_uL, al_uL, kd_uR, ln_uR, fd_uR, ai_uR, al_uR, zs_uR, ar_uR, true_and, and_true, Option.toList_some, Option.toList_none, List.cons_append, List.nil_append, catS_nil, catS_int, catS_ref, catS_null, catS_long, cat_int, cat_ref, cat_null, Nat.reduceEqDiff, Nat.reduceLeDiff, Nat.reduceAdd, false_and, and_false, if_false, if_true, ite_true, ite_false, true_or, or_true, false_or, or_false, and_self, forall_const, true_implies, reduceCtorEq, clr_int, clr_ref, clr_null, clr_none, clr_long, va_rf_some, va_rf_none, rk, r5, k5, n5, cu, t1]
        refine ⟨hin, sp_R_get hs0 hy0 hu ha ?_⟩
        simp only [↓s_112_122, ↓s_112_123, ↓s_112_124, kd_uF, ln_uF, ai_uF, al_uF, ar_uF, zs_uF, fd_uF, kd_uA, ln_uA, fd_uA, al_uA, ar_uA, zs_uA, ai_uA, kd_uL, ln_uL, fd_uL, ai_uL, ar_uL, zs_uL, al_uL, kd_uR, ln_uR, fd_uR, ai_uR, al_uR, zs_uR, ar_uR, true_and, and_true, Option.toList_some, Option.toList_none, List.cons_append, List.nil_append, catS_nil, catS_int, catS_ref, catS_null, catS_long, cat_int, cat_ref, cat_null, Nat.reduceEqDiff, Nat.reduceLeDiff, Nat.reduceAdd, false_and, and_false, if_false, if_true, ite_true, ite_false, true_or, or_true, false_or, or_false, and_self, forall_const, true_implies, reduceCtorEq, clr_int, clr_ref, clr_null, clr_none, clr_long, va_rf_some, va_rf_none, k5, n5, cu]
        rw [and2]
        exact ⟨hin, k249 _ _ (h _ hy0.S1 (hF.one (by omega)))⟩
      · cases hi
        rw [show z / 512 = 1 by omega] at h
        simp only [↓s_112_127, ↓s_112_128, ↓s_112_129, ↓s_112_130, ↓s_112_133, ↓s_112_134, ↓s_112_135, ↓s_112_136, ↓s_112_137, ↓s_112_139, kd_uF, ln_uF, ai_uF, al_uF, ar_uF, zs_uF, fd_uF, kd_uA, ln_uA, fd_uA, al_uA, ar_uA, zs_uA, ai_uA, kd_uL, ln_uL, fd_uL, ai_uL, ar_uL, zs_uL, al_uL, kd_uR, ln_uR, fd_uR, ai_uR, al_uR, zs_uR, ar_uR, true_and, and_true, Option.toList_some, Option.toList_none, List.cons_append, List.nil_append, catS_nil, catS_int, catS_ref, catS_null, catS_long, cat_int, cat_ref, cat_null, Nat.reduceEqDiff, Nat.reduceLeDiff, Nat.reduceAdd, false_and, and_false, if_false, if_true, ite_true, ite_false, true_or, or_true, false_or, or_false, and_self, forall_const, true_implies, reduceCtorEq, clr_int, clr_ref, clr_null, clr_none, clr_long, va_rf_some, va_rf_none, rk, r5, k5, n5, cu, t1]
        refine ⟨hin, sp_R_get hs0 hy0 hu ha ?_⟩
        simp only [↓s_112_142, ↓s_112_143, kd_uF, ln_uF, ai_uF, al_uF, ar_uF, zs_uF, fd_uF, kd_uA, ln_uA, fd_uA, al_uA, ar_uA, zs_uA, ai_uA, kd_uL, ln_uL, fd_uL, ai_uL, ar_uL, zs_uL, al_uL, kd_uR, ln_uR, fd_uR, ai_uR, al_uR, zs_uR, ar_uR, true_and, and_true, Option.toList_some, Option.toList_none, List.cons_append, List.nil_append, catS_nil, catS_int, catS_ref, catS_null, catS_long, cat_int, cat_ref, cat_null, Nat.reduceEqDiff, Nat.reduceLeDiff, Nat.reduceAdd, false_and, and_false, if_false, if_true, ite_true, ite_false, true_or, or_true, false_or, or_false, and_self, forall_const, true_implies, reduceCtorEq, clr_int, clr_ref, clr_null, clr_none, clr_long, va_rf_some, va_rf_none, rk]
        rw [nI_add]
        refine sp_R_sum hs0 hy0 hu hBy.2.2.1 (by have := hBy.2.1; have := hmm a; omega) (fun w2 hy2 hF2 => ?_)
        simp only [↓s_112_146, kd_uF, ln_uF, ai_uF, al_uF, ar_uF, zs_uF, fd_uF, kd_uA, ln_uA, fd_uA, al_uA, ar_uA, zs_uA, ai_uA, kd_uL, ln_uL, fd_uL, ai_uL, ar_uL, zs_uL, al_uL, kd_uR, ln_uR, fd_uR, ai_uR, al_uR, zs_uR, ar_uR, true_and, and_true, Option.toList_some, Option.toList_none, List.cons_append, List.nil_append, catS_nil, catS_int, catS_ref, catS_null, catS_long, cat_int, cat_ref, cat_null, Nat.reduceEqDiff, Nat.reduceLeDiff, Nat.reduceAdd, false_and, and_false, if_false, if_true, ite_true, ite_false, true_or, or_true, false_or, or_false, and_self, forall_const, true_implies, reduceCtorEq, clr_int, clr_ref, clr_null, clr_none, clr_long, va_rf_some, va_rf_none]
        exact k249 _ _ (h _ hy2 (hF.tr hF2))
      · cases hi
        rw [show z / 512 = 2 by omega] at h
        simp only [↓s_112_149, ↓s_112_150, ↓s_112_151, ↓s_112_153, ↓s_112_154, ↓s_112_155, ↓s_112_157, kd_uF, ln_uF, ai_uF, al_uF, ar_uF, zs_uF, fd_uF, kd_uA, ln_uA, fd_uA, al_uA, ar_uA, zs_uA, ai_uA, kd_uL, ln_uL, fd_uL, ai_uL, ar_uL, zs_uL, al_uL, kd_uR, ln_uR, fd_uR, ai_uR, al_uR, zs_uR, ar_uR, true_and, and_true, Option.toList_some, Option.toList_none, List.cons_append, List.nil_append, catS_nil, catS_int, catS_ref, catS_null, catS_long, cat_int, cat_ref, cat_null, Nat.reduceEqDiff, Nat.reduceLeDiff, Nat.reduceAdd, false_and, and_false, if_false, if_true, ite_true, ite_false, true_or, or_true, false_or, or_false, and_self, forall_const, true_implies, reduceCtorEq, clr_int, clr_ref, clr_null, clr_none, clr_long, va_rf_some, va_rf_none, rk]
        refine sp_R_get hs0 hy0 hu ha ?_
        simp only [↓s_112_160, ↓s_112_161, ↓s_112_162, kd_uF, ln_uF, ai_uF, al_uF, ar_uF, zs_uF, fd_uF, kd_uA, ln_uA, fd_uA, al_uA, ar_uA, zs_uA, ai_uA, kd_uL, ln_uL, fd_uL, ai_uL, ar_uL, zs_uL, al_uL, kd_uR, ln_uR, fd_uR, ai_uR, al_uR, zs_uR, ar_uR, true_and, and_true, Option.toList_some, Option.toList_none, List.cons_append, List.nil_append, catS_nil, catS_int, catS_ref, catS_null, catS_long, cat_int, cat_ref, cat_null, Nat.reduceEqDiff, Nat.reduceLeDiff, Nat.reduceAdd, false_and, and_false, if_false, if_true, ite_true, ite_false, true_or, or_true, false_or, or_false, and_self, forall_const, true_implies, reduceCtorEq, clr_int, clr_ref, clr_null, clr_none, clr_long, va_rf_some, va_rf_none, rk]
        rw [nI_1]
        refine sp_R_set hs0 hy0 hu ha (by have := hmm a; omega) (fun w2 hy2 hF2 hf2 => ?_)
        have hF2 : FrN w' w2 m u := ⟨hF2, hf2⟩
        have hs2 := hF2.sh hs0
        simp only [↓s_112_165, ↓s_112_166, ↓s_112_167, ↓s_112_168, ↓s_112_169, ↓s_112_171, kd_uF, ln_uF, ai_uF, al_uF, ar_uF, zs_uF, fd_uF, kd_uA, ln_uA, fd_uA, al_uA, ar_uA, zs_uA, ai_uA, kd_uL, ln_uL, fd_uL, ai_uL, ar_uL, zs_uL, al_uL, kd_uR, ln_uR, fd_uR, ai_uR, al_uR, zs_uR, ar_uR, true_and, and_true, Option.toList_some, Option.toList_none, List.cons_append, List.nil_append, catS_nil, catS_int, catS_ref, catS_null, catS_long, cat_int, cat_ref, cat_null, Nat.reduceEqDiff, Nat.reduceLeDiff, Nat.reduceAdd, false_and, and_false, if_false, if_true, ite_true, ite_false, true_or, or_true, false_or, or_false, and_self, forall_const, true_implies, reduceCtorEq, clr_int, clr_ref, clr_null, clr_none, clr_long, va_rf_some, va_rf_none, hs2.1]
        refine sp_R_get hs2 hy2 hu ha ?_
        have e3 : uMm (uMem y a ((uMm y a + 1) % 4096)) a = (uMm y a + 1) % 4096 := va_up_self _ _ _
        rw [e3]
        simp only [↓s_112_174, ↓s_112_177, ↓s_112_178, ↓s_112_181, ↓s_112_182, kd_uF, ln_uF, ai_uF, al_uF, ar_uF, zs_uF, fd_uF, kd_uA, ln_uA, fd_uA, al_uA, ar_uA, zs_uA, ai_uA, kd_uL, ln_uL, fd_uL, ai_uL, ar_uL, zs_uL, al_uL, kd_uR, ln_uR, fd_uR, ai_uR, al_uR, zs_uR, ar_uR, true_and, and_true, Option.toList_some, Option.toList_none, List.cons_append, List.nil_append, catS_nil, catS_int, catS_ref, catS_null, catS_long, cat_int, cat_ref, cat_null, Nat.reduceEqDiff, Nat.reduceLeDiff, Nat.reduceAdd, false_and, and_false, if_false, if_true, ite_true, ite_false, true_or, or_true, false_or, or_false, and_self, forall_const, true_implies, reduceCtorEq, clr_int, clr_ref, clr_null, clr_none, clr_long, va_rf_some, va_rf_none, hs2.1]
        have hB2 : UB (uMem y a ((uMm y a + 1) % 4096)) := hBy.Mem (Nat.mod_lt _ (by decide))
        rw [show (0 : Int32) = nI 0 from rfl, nI_eq (by omega) (by decide)]
        refine ⟨fun q => sp_R_skip (c := false) hs2 hy2 hu hB2.1 (fun w3 hy3 hF3 => ?_), fun q => sp_R_skip (c := true) hs2 hy2 hu hB2.1 (fun w3 hy3 hF3 => ?_)⟩
        · simp only [↓s_112_185, kd_uF, ln_uF, ai_uF, al_uF, ar_uF, zs_uF, fd_uF, kd_uA, ln_uA, fd_uA, al_uA, ar_uA, zs_uA, ai_uA, kd_uL, ln_uL, fd_uL, ai_uL, ar_uL, zs_uL, al_uL, kd_uR, ln_uR, fd_uR, ai_uR, al_uR, zs_uR, ar_uR, true_and, and_true, Option.toList_some, Option.toList_none, List.cons_append, List.nil_append, catS_nil, catS_int, catS_ref, catS_null, catS_long, cat_int, cat_ref, cat_null, Nat.reduceEqDiff, Nat.reduceLeDiff, Nat.reduceAdd, false_and, and_false, if_false, if_true, ite_true, ite_false, true_or, or_true, false_or, or_false, and_self, forall_const, true_implies, reduceCtorEq, clr_int, clr_ref, clr_null, clr_none, clr_long, va_rf_some, va_rf_none]
          refine k249 _ _ (h _ ?_ (hF.tr (hF2.tr hF3)))
          rw [show ((uMm y a + 1) % 4096 == 0) = false by simpa using q]; exact hy3
        · simp only [↓s_112_185, kd_uF, ln_uF, ai_uF, al_uF, ar_uF, zs_uF, fd_uF, kd_uA, ln_uA, fd_uA, al_uA, ar_uA, zs_uA, ai_uA, kd_uL, ln_uL, fd_uL, ai_uL, ar_uL, zs_uL, al_uL, kd_uR, ln_uR, fd_uR, ai_uR, al_uR, zs_uR, ar_uR, true_and, and_true, Option.toList_some, Option.toList_none, List.cons_append, List.nil_append, catS_nil, catS_int, catS_ref, catS_null, catS_long, cat_int, cat_ref, cat_null, Nat.reduceEqDiff, Nat.reduceLeDiff, Nat.reduceAdd, false_and, and_false, if_false, if_true, ite_true, ite_false, true_or, or_true, false_or, or_false, and_self, forall_const, true_implies, reduceCtorEq, clr_int, clr_ref, clr_null, clr_none, clr_long, va_rf_some, va_rf_none]
          refine k249 _ _ (h _ ?_ (hF.tr (hF2.tr hF3)))
          rw [show ((uMm y a + 1) % 4096 == 0) = true by simpa using q]; exact hy3
      · cases hi
        rw [show z / 512 = 3 by omega] at h
        simp only [↓s_112_188, ↓s_112_189, ↓s_112_190, ↓s_112_192, ↓s_112_193, ↓s_112_196, ↓s_112_197, ↓s_112_198, kd_uF, ln_uF, ai_uF, al_uF, ar_uF, zs_uF, fd_uF, kd_uA, ln_uA, fd_uA, al_uA, ar_uA, zs_uA, ai_uA, kd_uL, ln_uL, fd_uL, ai_uL, ar_uL, zs_uL, al_uL, kd_uR, ln_uR, fd_uR, ai_uR, al_uR, zs_uR, ar_uR, true_and, and_true, Option.toList_some, Option.toList_none, List.cons_append, List.nil_append, catS_nil, catS_int, catS_ref, catS_null, catS_long, cat_int, cat_ref, cat_null, Nat.reduceEqDiff, Nat.reduceLeDiff, Nat.reduceAdd, false_and, and_false, if_false, if_true, ite_true, ite_false, true_or, or_true, false_or, or_false, and_self, forall_const, true_implies, reduceCtorEq, clr_int, clr_ref, clr_null, clr_none, clr_long, va_rf_some, va_rf_none, rk, r5, k5, n5, cu, t1]
        refine ⟨hin, sp_R_set hs0 hy0 hu ha (by have := hBy.2.1; omega) (fun w2 hy2 hF2 hf2 => ?_)⟩
        have hF2 : FrN w' w2 m u := ⟨hF2, hf2⟩
        have hs2 := hF2.sh hs0
        clear rk r5 k5 n5
        obtain ⟨rk, r1, r2, r3, r4, r5, r6, r7, r8, r9, r10, r11, r12, r13, r14, r15, r16, r17, r18, r19, r20, r21, r22, r23, r24, k1, k2, k3, k4, k5, k6, k7, k8, k9, k10, k11, k12, k13, k14, k15, k16, k17, k18, k19, k20, k21, k22, k23, k24, n1, n2, n3, n4, n5, n6, n7, n8, n9, n10, n11, n12, n13, n14, n15, n16, n17, n18, n19, n20, n21, n22, n23, n24⟩ := hs2
        simp only [↓s_112_201, ↓s_112_202, ↓s_112_205, ↓s_112_206, ↓s_112_207, ↓s_112_208, kd_uF, ln_uF, ai_uF, al_uF, ar_uF, zs_uF, fd_uF, kd_uA, ln_uA, fd_uA, al_uA, ar_uA, zs_uA, ai_uA, kd_uL, ln_uL, fd_uL, ai_uL, ar_uL, zs_uL, al_uL, kd_uR, ln_uR, fd_uR, ai_uR, al_uR, zs_uR, ar_uR, true_and, and_true, Option.toList_some, Option.toList_none, List.cons_append, List.nil_append, catS_nil, catS_int, catS_ref, catS_null, catS_long, cat_int, cat_ref, cat_null, Nat.reduceEqDiff, Nat.reduceLeDiff, Nat.reduceAdd, false_and, and_false, if_false, if_true, ite_true, ite_false, true_or, or_true, false_or, or_false, and_self, forall_const, true_implies, reduceCtorEq, clr_int, clr_ref, clr_null, clr_none, clr_long, va_rf_some, va_rf_none, rk, r5, k5, n5, cu]
        rw [Nat.mod_eq_of_lt hBy.2.1] at hy2
        exact ⟨hin, k249 _ _ (h _ hy2.S1 ((hF.tr hF2).one (by omega)))⟩
      · cases hi
        rw [show z / 512 = 4 by omega] at h
        simp only [↓s_112_211, ↓s_112_212, ↓s_112_213, ↓s_112_215, ↓s_112_216, ↓s_112_219, ↓s_112_220, ↓s_112_221, kd_uF, ln_uF, ai_uF, al_uF, ar_uF, zs_uF, fd_uF, kd_uA, ln_uA, fd_uA, al_uA, ar_uA, zs_uA, ai_uA, kd_uL, ln_uL, fd_uL, ai_uL, ar_uL, zs_uL, al_uL, kd_uR, ln_uR, fd_uR, ai_uR, al_uR, zs_uR, ar_uR, true_and, and_true, Option.toList_some, Option.toList_none, List.cons_append, List.nil_append, catS_nil, catS_int, catS_ref, catS_null, catS_long, cat_int, cat_ref, cat_null, Nat.reduceEqDiff, Nat.reduceLeDiff, Nat.reduceAdd, false_and, and_false, if_false, if_true, ite_true, ite_false, true_or, or_true, false_or, or_false, and_self, forall_const, true_implies, reduceCtorEq, clr_int, clr_ref, clr_null, clr_none, clr_long, va_rf_some, va_rf_none, rk, r6, k6, n6, cu, t0]
        refine ⟨hin, sp_R_set hs0 hy0 hu ha (by have := hBy.1; omega) (fun w2 hy2 hF2 hf2 => ?_)⟩
        have hF2 : FrN w' w2 m u := ⟨hF2, hf2⟩
        have hs2 := hF2.sh hs0
        clear rk r6 k6 n6
        obtain ⟨rk, r1, r2, r3, r4, r5, r6, r7, r8, r9, r10, r11, r12, r13, r14, r15, r16, r17, r18, r19, r20, r21, r22, r23, r24, k1, k2, k3, k4, k5, k6, k7, k8, k9, k10, k11, k12, k13, k14, k15, k16, k17, k18, k19, k20, k21, k22, k23, k24, n1, n2, n3, n4, n5, n6, n7, n8, n9, n10, n11, n12, n13, n14, n15, n16, n17, n18, n19, n20, n21, n22, n23, n24⟩ := hs2
        simp only [↓s_112_224, ↓s_112_225, ↓s_112_228, ↓s_112_229, ↓s_112_231, ↓s_112_232, ↓s_112_233, ↓s_112_236, ↓s_112_237, ↓s_112_238, kd_uF, ln_uF, ai_uF, al_uF, ar_uF, zs_uF, fd_uF, kd_uA, ln_uA, fd_uA, al_uA, ar_uA, zs_uA, ai_uA, kd_uL, ln_uL, fd_uL, ai_uL, ar_uL, zs_uL, al_uL, kd_uR, ln_uR, fd_uR, ai_uR, al_uR, zs_uR, ar_uR, true_and, and_true, Option.toList_some, Option.toList_none, List.cons_append, List.nil_append, catS_nil, catS_int, catS_ref, catS_null, catS_long, cat_int, cat_ref, cat_null, Nat.reduceEqDiff, Nat.reduceLeDiff, Nat.reduceAdd, false_and, and_false, if_false, if_true, ite_true, ite_false, true_or, or_true, false_or, or_false, and_self, forall_const, true_implies, reduceCtorEq, clr_int, clr_ref, clr_null, clr_none, clr_long, va_rf_some, va_rf_none, rk, r6, k6, n6, cu]
        rw [nI_1, m12 (by omega)]
        rw [Nat.mod_eq_of_lt hBy.1] at hy2
        exact ⟨hin, k249 _ _ (h _ hy2.S0 ((hF.tr hF2).one (by omega)))⟩
      · simp at hi
    · have e5 : z / 512 = 5 := by simp at hq; omega
      rw [e5] at h
      simp only [↓s_112_241, ↓s_112_242, ↓s_112_245, ↓s_112_246, ↓s_112_248, kd_uF, ln_uF, ai_uF, al_uF, ar_uF, zs_uF, fd_uF, kd_uA, ln_uA, fd_uA, al_uA, ar_uA, zs_uA, ai_uA, kd_uL, ln_uL, fd_uL, ai_uL, ar_uL, zs_uL, al_uL, kd_uR, ln_uR, fd_uR, ai_uR, al_uR, zs_uR, ar_uR, true_and, and_true, Option.toList_some, Option.toList_none, List.cons_append, List.nil_append, catS_nil, catS_int, catS_ref, catS_null, catS_long, cat_int, cat_ref, cat_null, Nat.reduceEqDiff, Nat.reduceLeDiff, Nat.reduceAdd, false_and, and_false, if_false, if_true, ite_true, ite_false, true_or, or_true, false_or, or_false, and_self, forall_const, true_implies, reduceCtorEq, clr_int, clr_ref, clr_null, clr_none, clr_long, va_rf_some, va_rf_none, rk, r6, k6, n6, cu]
      exact ⟨hin, k249 _ _ (h _ hy0.S0 (hF.one (by omega)))⟩
  have k60 : ∀ w' y a, RU w' m u y → UB y → a < 4096 → (y, uMm y a) = i_refA x z own → FrN w w' m u → wp (d + 1) 112 Q 60 [some (.ref m), some (.int (nI u)), some (.int (nI z)), some (.int (nI own)), some (.int (nI a))] [] w' 0 0 := by
    intro w' y a hy hBy ha he hF
    have hs' := hF.sh hs
    simp only [↓s_112_60, ↓s_112_61, ↓s_112_62, ↓s_112_64, kd_uF, ln_uF, ai_uF, al_uF, ar_uF, zs_uF, fd_uF, kd_uA, ln_uA, fd_uA, al_uA, ar_uA, zs_uA, ai_uA, kd_uL, ln_uL, fd_uL, ai_uL, ar_uL, zs_uL, al_uL, kd_uR, ln_uR, fd_uR, ai_uR, al_uR, zs_uR, ar_uR, true_and, and_true, Option.toList_some, Option.toList_none, List.cons_append, List.nil_append, catS_nil, catS_int, catS_ref, catS_null, catS_long, cat_int, cat_ref, cat_null, Nat.reduceEqDiff, Nat.reduceLeDiff, Nat.reduceAdd, false_and, and_false, if_false, if_true, ite_true, ite_false, true_or, or_true, false_or, or_false, and_self, forall_const, true_implies, reduceCtorEq, clr_int, clr_ref, clr_null, clr_none, clr_long, va_rf_some, va_rf_none, hs'.1]
    refine sp_R_get hs' hy hu ha ?_
    simp only [↓s_112_67, kd_uF, ln_uF, ai_uF, al_uF, ar_uF, zs_uF, fd_uF, kd_uA, ln_uA, fd_uA, al_uA, ar_uA, zs_uA, ai_uA, kd_uL, ln_uL, fd_uL, ai_uL, ar_uL, zs_uL, al_uL, kd_uR, ln_uR, fd_uR, ai_uR, al_uR, zs_uR, ar_uR, true_and, and_true, Option.toList_some, Option.toList_none, List.cons_append, List.nil_append, catS_nil, catS_int, catS_ref, catS_null, catS_long, cat_int, cat_ref, cat_null, Nat.reduceEqDiff, Nat.reduceLeDiff, Nat.reduceAdd, false_and, and_false, if_false, if_true, ite_true, ite_false, true_or, or_true, false_or, or_false, and_self, forall_const, true_implies, reduceCtorEq, clr_int, clr_ref, clr_null, clr_none, clr_long, va_rf_some, va_rf_none]
    exact k69 w' y _ hy hBy (hBy.2.2.2.2.2.2.2.2.1 a) he hF
  have k21 : ∀ a c, a ||| c < 4096 → i_addr x z own = a ||| c → wp (d + 1) 112 Q 21 [some (.ref m), some (.int (nI u)), some (.int (nI z)), some (.int (nI own)), none] [.int (nI c), .int (nI a)] w 0 0 := by
    intro a c hac he
    simp only [↓s_112_21, ↓s_112_22, ↓s_112_24, ↓s_112_25, ↓s_112_28, ↓s_112_29, ↓s_112_32, ↓s_112_34, ↓s_112_36, ↓s_112_38, kd_uF, ln_uF, ai_uF, al_uF, ar_uF, zs_uF, fd_uF, kd_uA, ln_uA, fd_uA, al_uA, ar_uA, zs_uA, ai_uA, kd_uL, ln_uL, fd_uL, ai_uL, ar_uL, zs_uL, al_uL, kd_uR, ln_uR, fd_uR, ai_uR, al_uR, zs_uR, ar_uR, true_and, and_true, Option.toList_some, Option.toList_none, List.cons_append, List.nil_append, catS_nil, catS_int, catS_ref, catS_null, catS_long, cat_int, cat_ref, cat_null, Nat.reduceEqDiff, Nat.reduceLeDiff, Nat.reduceAdd, false_and, and_false, if_false, if_true, ite_true, ite_false, true_or, or_true, false_or, or_false, and_self, forall_const, true_implies, reduceCtorEq, clr_int, clr_ref, clr_null, clr_none, clr_long, va_rf_some, va_rf_none, bl8]
    rw [or2]
    have eA : i_refA x z own = if z.testBit 8 then (i_bump x (a ||| c), uMm (i_bump x (a ||| c)) (a ||| c)) else (x, a ||| c) := by unfold i_refA; rw [he]
    revert hac he eA
    generalize a ||| c = e
    intro hac he eA
    refine ⟨fun q => k69 w x e hx hB hac (by rw [eA, q]; rfl) FrN.rf, fun q => ?_⟩
    have q' : z.testBit 8 = true := by simpa using q
    rw [if_pos q'] at eA
    refine sp_R_isIn (fun c1 c2 => ?_) (fun c1 => ?_)
    · rw [show (8 : Int32) = nI 8 from rfl, nI_leI (by decide) (by omega)] at c1
      rw [show (15 : Int32) = nI 15 from rfl, nI_leI (by omega) (by decide)] at c2
      simp only [↓s_112_41, ↓s_112_44, ↓s_112_45, ↓s_112_46, ↓s_112_48, ↓s_112_49, ↓s_112_50, ↓s_112_52, kd_uF, ln_uF, ai_uF, al_uF, ar_uF, zs_uF, fd_uF, kd_uA, ln_uA, fd_uA, al_uA, ar_uA, zs_uA, ai_uA, kd_uL, ln_uL, fd_uL, ai_uL, ar_uL, zs_uL, al_uL, kd_uR, ln_uR, fd_uR, ai_uR, al_uR, zs_uR, ar_uR, true_and, and_true, Option.toList_some, Option.toList_none, List.cons_append, List.nil_append, catS_nil, catS_int, catS_ref, catS_null, catS_long, cat_int, cat_ref, cat_null, Nat.reduceEqDiff, Nat.reduceLeDiff, Nat.reduceAdd, false_and, and_false, if_false, if_true, ite_true, ite_false, true_or, or_true, false_or, or_false, and_self, forall_const, true_implies, reduceCtorEq, clr_int, clr_ref, clr_null, clr_none, clr_long, va_rf_some, va_rf_none, hs.1]
      refine ⟨fun q => absurd q (by decide), fun _ => sp_R_get hs hx hu hac ?_⟩
      simp only [↓s_112_55, ↓s_112_56, ↓s_112_57, kd_uF, ln_uF, ai_uF, al_uF, ar_uF, zs_uF, fd_uF, kd_uA, ln_uA, fd_uA, al_uA, ar_uA, zs_uA, ai_uA, kd_uL, ln_uL, fd_uL, ai_uL, ar_uL, zs_uL, al_uL, kd_uR, ln_uR, fd_uR, ai_uR, al_uR, zs_uR, ar_uR, true_and, and_true, Option.toList_some, Option.toList_none, List.cons_append, List.nil_append, catS_nil, catS_int, catS_ref, catS_null, catS_long, cat_int, cat_ref, cat_null, Nat.reduceEqDiff, Nat.reduceLeDiff, Nat.reduceAdd, false_and, and_false, if_false, if_true, ite_true, ite_false, true_or, or_true, false_or, or_false, and_self, forall_const, true_implies, reduceCtorEq, clr_int, clr_ref, clr_null, clr_none, clr_long, va_rf_some, va_rf_none, hs.1]
      rw [nI_1]
      refine sp_R_set hs hx hu hac (by have := hB.2.2.2.2.2.2.2.2.1 e; omega) (fun w2 hy2 hF2 hf2 => ?_)
      have eb : i_bump x e = uMem x e ((uMm x e + 1) % 4096) := by unfold i_bump; rw [if_pos ⟨c1, c2⟩]
      exact k60 w2 _ e hy2 (hB.Mem (Nat.mod_lt _ (by decide))) hac (by rw [eA, eb]) ⟨hF2, hf2⟩
    · rw [show (8 : Int32) = nI 8 from rfl, nI_leI (by decide) (by omega), show (15 : Int32) = nI 15 from rfl, nI_leI (by omega) (by decide)] at c1
      simp only [↓s_112_41, ↓s_112_44, ↓s_112_45, ↓s_112_46, ↓s_112_48, ↓s_112_49, ↓s_112_50, ↓s_112_52, kd_uF, ln_uF, ai_uF, al_uF, ar_uF, zs_uF, fd_uF, kd_uA, ln_uA, fd_uA, al_uA, ar_uA, zs_uA, ai_uA, kd_uL, ln_uL, fd_uL, ai_uL, ar_uL, zs_uL, al_uL, kd_uR, ln_uR, fd_uR, ai_uR, al_uR, zs_uR, ar_uR, true_and, and_true, Option.toList_some, Option.toList_none, List.cons_append, List.nil_append, catS_nil, catS_int, catS_ref, catS_null, catS_long, cat_int, cat_ref, cat_null, Nat.reduceEqDiff, Nat.reduceLeDiff, Nat.reduceAdd, false_and, and_false, if_false, if_true, ite_true, ite_false, true_or, or_true, false_or, or_false, and_self, forall_const, true_implies, reduceCtorEq, clr_int, clr_ref, clr_null, clr_none, clr_long, va_rf_some, va_rf_none, hs.1]
      have eb : i_bump x e = x := by unfold i_bump; rw [if_neg c1]
      exact ⟨k60 w x e hx hB hac (by rw [eA, eb]) FrN.rf, fun q => absurd trivial q⟩
  simp only [↓s_112_0, ↓s_112_1, ↓s_112_3, ↓s_112_4, ↓s_112_5, ↓s_112_8, ↓s_112_9, ↓s_112_12, ↓s_112_13, ↓s_112_16, ↓s_112_17, ↓s_112_20, kd_uF, ln_uF, ai_uF, al_uF, ar_uF, zs_uF, fd_uF, kd_uA, ln_uA, fd_uA, al_uA, ar_uA, zs_uA, ai_uA, kd_uL, ln_uL, fd_uL, ai_uL, ar_uL, zs_uL, al_uL, kd_uR, ln_uR, fd_uR, ai_uR, al_uR, zs_uR, ar_uR, true_and, and_true, Option.toList_some, Option.toList_none, List.cons_append, List.nil_append, catS_nil, catS_int, catS_ref, catS_null, catS_long, cat_int, cat_ref, cat_null, Nat.reduceEqDiff, Nat.reduceLeDiff, Nat.reduceAdd, false_and, and_false, if_false, if_true, ite_true, ite_false, true_or, or_true, false_or, or_false, and_self, forall_const, true_implies, reduceCtorEq, clr_int, clr_ref, clr_null, clr_none, clr_long, va_rf_some, va_rf_none, bl7]
  rw [m7 (by omega), page ho]
  refine ⟨fun q => k21 (z % 128) 0 (by simp; omega) (by unfold i_addr; rw [q]; simp), fun q => ?_⟩
  have q' : z.testBit 7 = true := by simpa using q
  have e1 : z % 128 ||| own / 128 * 128 = z % 128 + own / 128 * 128 := by
    rw [Nat.or_comm, Nat.add_comm, show own / 128 * 128 = 2 ^ 7 * (own / 128) by omega, ← Nat.two_pow_add_eq_or_of_lt (by omega)]
  exact k21 (z % 128) (own / 128 * 128) (by rw [e1]; omega) (by rw [e1]; unfold i_addr; rw [q']; rfl)
