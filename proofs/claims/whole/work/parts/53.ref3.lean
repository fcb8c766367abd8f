theorem sub12 {a : Nat} (h : a < 4096) : (4095 : Int32) - nI a = nI (4095 - a) := pk_sub (a := 4095) (by omega)
theorem sp_R_turns {d : Nat} {w : aw} {m u z : Nat} {x : us} {Q : wQ} (hs : RSh w m) (hx : RU w m u x) (hB : UB x) (hu : u < 8) (h : ∀ w', RU w' m u (i_op x z) → FrN w w' m u → Q none w') : wpD (d + 2) 113 [.ref m, .int (nI u), .int (nI z)] w Q := by
  refine ⟨Nat.le_of_ble_eq_true rfl, ?_⟩
  show wp (d + 1) 113 Q 0 [some (.ref m), some (.int (nI u)), some (.int (nI z)), none, none, none, none] [] w 0 0
  have hin : inR (nI u) 8 := inR_nI hu (by decide)
  have cu : (nI u).toNatClampNeg = u := clN (by omega)
  have k229 : ∀ w' l3 l4 l5 l6, Q none w' → wp (d + 1) 113 Q 229 [some (.ref m), some (.int (nI u)), some (.int (nI z)), l3, l4, l5, l6] [] w' 0 0 := by
    intro w' l3 l4 l5 l6 hq
    simp only [↓s_113_229]
    exact hq
  have k92 : ∀ w' y, RU w' m u y → UB y → FrN w w' m u → (if z.testBit 3 = z.testBit 2 then y else if z.testBit 1 then i_rot (i_rot y (z.testBit 3)) (z.testBit 3) else i_rot y (z.testBit 3)) = i_op x z → wp (d + 1) 113 Q 92 [some (.ref m), some (.int (nI u)), some (.int (nI z)), none, none, none, none] [] w' 0 0 := by
    intro w' y hy hBy hF he
    -- one turn
    have k197 : ∀ (r l : Bool) w2 v i l6, RU w2 m u v → UB v → FrN w w2 m u → (∀ w3 l6', RU w3 m u (i_rot v r) → FrN w w3 m u → wp (d + 1) 113 Q 121 [some (.ref m), some (.int (nI u)), some (.int (nI z)), some (.int (nI r.toNat)), some (.int (nI l.toNat)), some (.int (nI (i + 1))), l6'] [] w3 0 0) → wp (d + 1) 113 Q 197 [some (.ref m), some (.int (nI u)), some (.int (nI z)), some (.int (nI r.toNat)), some (.int (nI l.toNat)), some (.int (nI i)), l6] [.int (nI (rotN r (v.1 2 * 4096 + v.1 1)))] w2 0 0 := by
      intro r l w2 v i l6 hv hBv hF2 hk
      have hs2 := hF2.sh hs
      obtain ⟨rk, r1, r2, r3, r4, r5, r6, r7, r8, r9, r10, r11, r12, r13, r14, r15, r16, r17, r18, r19, r20, r21, r22, r23, r24, k1, k2, k3, k4, k5, k6, k7, k8, k9, k10, k11, k12, k13, k14, k15, k16, k17, k18, k19, k20, k21, k22, k23, k24, n1, n2, n3, n4, n5, n6, n7, n8, n9, n10, n11, n12, n13, n14, n15, n16, n17, n18, n19, n20, n21, n22, n23, n24⟩ := hs2
      simp only [↓s_113_197, ↓s_113_199, ↓s_113_200, ↓s_113_203, ↓s_113_204, ↓s_113_206, ↓s_113_209, ↓s_113_210, ↓s_113_211, ↓s_113_212, ↓s_113_215, ↓s_113_216, ↓s_113_218, ↓s_113_221, ↓s_113_222, ↓s_113_223, ↓s_113_226, kd_uF, ln_uF, ai_uF, al_uF, ar_uF, zs_uF, fd_uF, kd_uA, ln_uA, fd_uA, al_uA, ar_uA, zs_uA, ai_uA, kd_uL, ln_uL, fd_uL, ai_uL, ar_uL, zs_uL, al_uL, kd_uR, ln_uR, fd_uR, ai_uR, al_uR, zs_uR, ar_uR, true_and, and_true, Option.toList_some, Option.toList_none, List.cons_append, List.nil_append, catS_nil, catS_int, catS_ref, catS_null, catS_long, cat_int, cat_ref, cat_null, Nat.reduceEqDiff, Nat.reduceLeDiff, Nat.reduceAdd, false_and, and_false, if_false, if_true, ite_true, ite_false, true_or, or_true, false_or, or_false, and_self, forall_const, true_implies, reduceCtorEq, clr_int, clr_ref, clr_null, clr_none, clr_long, va_rf_some, va_rf_none, rk, r5, k5, n5, r7, k7, n7, cu]
      have hlt := rotN_lt (r := r) (show v.1 2 * 4096 + v.1 1 < 8192 by have := hBv.2.1; have := hBv.2.2.1; omega)
      have e1 : nI (rotN r (v.1 2 * 4096 + v.1 1)) / 4096 = nI (rotN r (v.1 2 * 4096 + v.1 1) / 4096) := pk_div (d := 4096) (by omega) (by decide) (by decide)
      have e2 : nI (rotN r (v.1 2 * 4096 + v.1 1)) - nI (rotN r (v.1 2 * 4096 + v.1 1) / 4096) * 4096 = nI (rotN r (v.1 2 * 4096 + v.1 1) % 4096) := by
        rw [← e1]; exact pk_rem (d := 4096) (by omega) (by decide) (by decide)
      rw [e1, e2, nI_1]
      refine ⟨by decide, hin, by decide, hin, hk _ _ ?_ ((hF2.one (by omega)).one (by omega))⟩
      rw [i_rot_eq]
      exact hv.S2.S1
    have k121 : ∀ (r l : Bool) w2 v i l6, z.testBit 3 = r → z.testBit 2 = l → RU w2 m u v → UB v → FrN w w2 m u → (i < (if z.testBit 1 then 2 else 1) → r ≠ l → ∀ w3 l6', RU w3 m u (i_rot v r) → FrN w w3 m u → wp (d + 1) 113 Q 121 [some (.ref m), some (.int (nI u)), some (.int (nI z)), some (.int (nI r.toNat)), some (.int (nI l.toNat)), some (.int (nI (i + 1))), l6'] [] w3 0 0) → (¬ (i < (if z.testBit 1 then 2 else 1) ∧ r ≠ l) → Q none w2) → i ≤ 2 → wp (d + 1) 113 Q 121 [some (.ref m), some (.int (nI u)), some (.int (nI z)), some (.int (nI r.toNat)), some (.int (nI l.toNat)), some (.int (nI i)), l6] [] w2 0 0 := by
      intro r l w2 v i l6 hr hl hv hBv hF2 hk hq hi
      have hs2 := hF2.sh hs
      have hv0 := hv
      obtain ⟨rk, r1, r2, r3, r4, r5, r6, r7, r8, r9, r10, r11, r12, r13, r14, r15, r16, r17, r18, r19, r20, r21, r22, r23, r24, k1, k2, k3, k4, k5, k6, k7, k8, k9, k10, k11, k12, k13, k14, k15, k16, k17, k18, k19, k20, k21, k22, k23, k24, n1, n2, n3, n4, n5, n6, n7, n8, n9, n10, n11, n12, n13, n14, n15, n16, n17, n18, n19, n20, n21, n22, n23, n24⟩ := hs2
      obtain ⟨t0, t1, t2, t3, t4, t5, t6, t7, t8, t9, mm, ff, pp, il, ix, ol, ox⟩ := hv
      have b1 := hBv.2.1
      have b2 := hBv.2.2.1
      have body : ∀ t : Nat, t ≤ 2 → t = (if z.testBit 1 then 2 else 1) → wp (d + 1) 113 Q 134 [some (.ref m), some (.int (nI u)), some (.int (nI z)), some (.int (nI r.toNat)), some (.int (nI l.toNat)), some (.int (nI i)), l6] [.int (nI t), .int (nI i)] w2 0 0 := by
        intro t ht2 ht
        simp only [↓s_113_134, ↓s_113_137, ↓s_113_138, ↓s_113_140, ↓s_113_143, ↓s_113_144, ↓s_113_147, ↓s_113_148, ↓s_113_149, ↓s_113_152, ↓s_113_153, ↓s_113_154, ↓s_113_157, ↓s_113_158, ↓s_113_159, ↓s_113_160, ↓s_113_162, ↓s_113_163, ↓s_113_166, ↓s_113_168, ↓s_113_169, ↓s_113_170, ↓s_113_172, ↓s_113_173, ↓s_113_174, ↓s_113_177, ↓s_113_178, ↓s_113_179, ↓s_113_182, ↓s_113_184, ↓s_113_185, ↓s_113_186, ↓s_113_189, ↓s_113_190, ↓s_113_192, ↓s_113_195, ↓s_113_196, kd_uF, ln_uF, ai_uF, al_uF, ar_uF, zs_uF, fd_uF, kd_uA, ln_uA, fd_uA, al_uA, ar_uA, zs_uA, ai_uA, kd_uL, ln_uL, fd_uL, ai_uL, ar_uL, zs_uL, al_uL, kd_uR, ln_uR, fd_uR, ai_uR, al_uR, zs_uR, ar_uR, true_and, and_true, Option.toList_some, Option.toList_none, List.cons_append, List.nil_append, catS_nil, catS_int, catS_ref, catS_null, catS_long, cat_int, cat_ref, cat_null, Nat.reduceEqDiff, Nat.reduceLeDiff, Nat.reduceAdd, false_and, and_false, if_false, if_true, ite_true, ite_false, true_or, or_true, false_or, or_false, and_self, forall_const, true_implies, reduceCtorEq, clr_int, clr_ref, clr_null, clr_none, clr_long, va_rf_some, va_rf_none, rk, r5, k5, n5, r7, k7, n7, cu, t1, t2]
        rw [show nI (v.1 2) * 4096 + nI (v.1 1) = nI (v.1 2 * 4096 + v.1 1) from by rw [show (4096 : Int32) = nI 4096 from rfl, pk_mul, nI_add]]
        rw [nI_leI (by omega) (by omega)]
        refine ⟨fun q => k229 _ _ _ _ _ (hq (fun e => by omega)), fun q => ⟨fun q2 => k229 _ _ _ _ _ (hq (fun e => ?_)), fun q2 => ⟨hin, hin, fun q3 => ⟨by decide, by decide, ?_⟩, fun q3 => ⟨by decide, by decide, ?_⟩⟩⟩⟩
        · have : r = l := by revert q2; cases r <;> cases l <;> first | (intro _; rfl) | (intro q2; exact absurd q2 (by decide))
          exact e.2 this
        · have hr0 : r = false := by revert q3; cases r <;> first | (intro _; rfl) | (intro q3; exact absurd q3 (by decide))
          have e3 : nI (v.1 2 * 4096 + v.1 1) * 2 - nI (v.1 2 * 4096 + v.1 1) * 2 / 8192 * 8192 + nI (v.1 2 * 4096 + v.1 1) / 4096 = nI (rotN r (v.1 2 * 4096 + v.1 1)) := by
            rw [show nI (v.1 2 * 4096 + v.1 1) * 2 = nI ((v.1 2 * 4096 + v.1 1) * 2) from pk_mul _ 2, show nI ((v.1 2 * 4096 + v.1 1) * 2) - nI ((v.1 2 * 4096 + v.1 1) * 2) / 8192 * 8192 = nI ((v.1 2 * 4096 + v.1 1) * 2 % 8192) from pk_rem (d := 8192) (by omega) (by decide) (by decide), show nI (v.1 2 * 4096 + v.1 1) / 4096 = nI ((v.1 2 * 4096 + v.1 1) / 4096) from pk_div (d := 4096) (by omega) (by decide) (by decide), nI_add, hr0]
            rfl
          rw [e3]
          exact k197 r l w2 v i _ hv0 hBv hF2 (hk (by omega) (fun e => q2 (by rw [e])))
        · have hr0 : r = true := by revert q3; cases r <;> first | (intro _; rfl) | (intro q3; exact absurd rfl q3)
          have e3 : nI (v.1 2 * 4096 + v.1 1) / 2 + (nI (v.1 2 * 4096 + v.1 1) - nI (v.1 2 * 4096 + v.1 1) / 2 * 2) * 4096 = nI (rotN r (v.1 2 * 4096 + v.1 1)) := by
            rw [show nI (v.1 2 * 4096 + v.1 1) - nI (v.1 2 * 4096 + v.1 1) / 2 * 2 = nI ((v.1 2 * 4096 + v.1 1) % 2) from pk_rem (d := 2) (by omega) (by decide) (by decide), show nI (v.1 2 * 4096 + v.1 1) / 2 = nI ((v.1 2 * 4096 + v.1 1) / 2) from pk_div (d := 2) (by omega) (by decide) (by decide), show nI ((v.1 2 * 4096 + v.1 1) % 2) * 4096 = nI ((v.1 2 * 4096 + v.1 1) % 2 * 4096) from pk_mul _ 4096, nI_add, hr0]
            rfl
          rw [e3]
          exact k197 r l w2 v i _ hv0 hBv hF2 (hk (by omega) (fun e => q2 (by rw [e])))
      rw [s_113_121]
      simp only [↓s_113_123, ↓s_113_124, ↓s_113_125, ↓s_113_126, ↓s_113_129, ↓s_113_130, ↓s_113_133, kd_uF, ln_uF, ai_uF, al_uF, ar_uF, zs_uF, fd_uF, kd_uA, ln_uA, fd_uA, al_uA, ar_uA, zs_uA, ai_uA, kd_uL, ln_uL, fd_uL, ai_uL, ar_uL, zs_uL, al_uL, kd_uR, ln_uR, fd_uR, ai_uR, al_uR, zs_uR, ar_uR, true_and, and_true, Option.toList_some, Option.toList_none, List.cons_append, List.nil_append, catS_nil, catS_int, catS_ref, catS_null, catS_long, cat_int, cat_ref, cat_null, Nat.reduceEqDiff, Nat.reduceLeDiff, Nat.reduceAdd, false_and, and_false, if_false, if_true, ite_true, ite_false, true_or, or_true, false_or, or_false, and_self, forall_const, true_implies, reduceCtorEq, clr_int, clr_ref, clr_null, clr_none, clr_long, va_rf_some, va_rf_none, bl1]
      refine ⟨fun q => body 1 (by decide) (by rw [q]; rfl), fun q => body 2 (by decide) (by rw [if_pos (by simpa using q)])⟩
    have k116 : ∀ (r l : Bool), z.testBit 3 = r → z.testBit 2 = l → wp (d + 1) 113 Q 116 [some (.ref m), some (.int (nI u)), some (.int (nI z)), some (.int (nI r.toNat)), none, none, none] [.int (nI l.toNat)] w' 0 0 := by
      intro r l hr hl
      simp only [↓s_113_116, ↓s_113_118, ↓s_113_119, kd_uF, ln_uF, ai_uF, al_uF, ar_uF, zs_uF, fd_uF, kd_uA, ln_uA, fd_uA, al_uA, ar_uA, zs_uA, ai_uA, kd_uL, ln_uL, fd_uL, ai_uL, ar_uL, zs_uL, al_uL, kd_uR, ln_uR, fd_uR, ai_uR, al_uR, zs_uR, ar_uR, true_and, and_true, Option.toList_some, Option.toList_none, List.cons_append, List.nil_append, catS_nil, catS_int, catS_ref, catS_null, catS_long, cat_int, cat_ref, cat_null, Nat.reduceEqDiff, Nat.reduceLeDiff, Nat.reduceAdd, false_and, and_false, if_false, if_true, ite_true, ite_false, true_or, or_true, false_or, or_false, and_self, forall_const, true_implies, reduceCtorEq, clr_int, clr_ref, clr_null, clr_none, clr_long, va_rf_some, va_rf_none]
      rw [hr, hl] at he
      refine k121 r l w' y 0 _ hr hl hy hBy hF (fun hi hne w3 l6 hy3 hF3 => ?_) (fun hn => h _ ?_ hF) (by decide)
      · refine k121 r l w3 _ 1 _ hr hl hy3 hBy.rot hF3 (fun hi2 _ w4 l7 hy4 hF4 => ?_) (fun hn => h _ ?_ hF3) (by decide)
        · refine k121 r l w4 _ 2 _ hr hl hy4 hBy.rot.rot hF4 (fun hi3 => ?_) (fun _ => h _ ?_ hF4) (by decide)
          · exfalso; revert hi3; cases z.testBit 1 <;> simp
          · rw [if_neg hne, if_pos (by revert hi2; cases z.testBit 1 <;> simp)] at he
            rw [← he]; exact hy4
        · rw [if_neg hne, if_neg (by intro e; exact hn ⟨by rw [e]; decide, hne⟩)] at he
          rw [← he]; exact hy3
      · have : r = l := Classical.byContradiction fun e => hn ⟨by cases z.testBit 1 <;> simp, e⟩
        rw [if_pos this] at he
        rw [← he]; exact hy
    have k104 : ∀ (r : Bool), z.testBit 3 = r → wp (d + 1) 113 Q 104 [some (.ref m), some (.int (nI u)), some (.int (nI z)), none, none, none, none] [.int (nI r.toNat)] w' 0 0 := by
      intro r hr
      simp only [↓s_113_104, ↓s_113_105, ↓s_113_106, ↓s_113_107, ↓s_113_108, ↓s_113_111, ↓s_113_112, ↓s_113_115, kd_uF, ln_uF, ai_uF, al_uF, ar_uF, zs_uF, fd_uF, kd_uA, ln_uA, fd_uA, al_uA, ar_uA, zs_uA, ai_uA, kd_uL, ln_uL, fd_uL, ai_uL, ar_uL, zs_uL, al_uL, kd_uR, ln_uR, fd_uR, ai_uR, al_uR, zs_uR, ar_uR, true_and, and_true, Option.toList_some, Option.toList_none, List.cons_append, List.nil_append, catS_nil, catS_int, catS_ref, catS_null, catS_long, cat_int, cat_ref, cat_null, Nat.reduceEqDiff, Nat.reduceLeDiff, Nat.reduceAdd, false_and, and_false, if_false, if_true, ite_true, ite_false, true_or, or_true, false_or, or_false, and_self, forall_const, true_implies, reduceCtorEq, clr_int, clr_ref, clr_null, clr_none, clr_long, va_rf_some, va_rf_none, bl2]
      exact ⟨fun q => k116 r false hr q, fun q => k116 r true hr (by simpa using q)⟩
    simp only [↓s_113_92, ↓s_113_93, ↓s_113_95, ↓s_113_96, ↓s_113_99, ↓s_113_100, ↓s_113_103, kd_uF, ln_uF, ai_uF, al_uF, ar_uF, zs_uF, fd_uF, kd_uA, ln_uA, fd_uA, al_uA, ar_uA, zs_uA, ai_uA, kd_uL, ln_uL, fd_uL, ai_uL, ar_uL, zs_uL, al_uL, kd_uR, ln_uR, fd_uR, ai_uR, al_uR, zs_uR, ar_uR, true_and, and_true, Option.toList_some, Option.toList_none, List.cons_append, List.nil_append, catS_nil, catS_int, catS_ref, catS_null, catS_long, cat_int, cat_ref, cat_null, Nat.reduceEqDiff, Nat.reduceLeDiff, Nat.reduceAdd, false_and, and_false, if_false, if_true, ite_true, ite_false, true_or, or_true, false_or, or_false, and_self, forall_const, true_implies, reduceCtorEq, clr_int, clr_ref, clr_null, clr_none, clr_long, va_rf_some, va_rf_none, bl3]
    exact ⟨fun q => k104 false q, fun q => k104 true (by simpa using q)⟩
  have k73 : ∀ w' v, RU w' m u v → UB v → FrN w w' m u → (let u := if z.testBit 0 then i_sum v (v.1 1 + 1) else v; if z.testBit 3 = z.testBit 2 then u else if z.testBit 1 then i_rot (i_rot u (z.testBit 3)) (z.testBit 3) else i_rot u (z.testBit 3)) = i_op x z → wp (d + 1) 113 Q 73 [some (.ref m), some (.int (nI u)), some (.int (nI z)), none, none, none, none] [] w' 0 0 := by
    intro w' v hv hBv hF he
    have hs' := hF.sh hs
    have hs0 := hs'
    have hv0 := hv
    obtain ⟨rk, r1, r2, r3, r4, r5, r6, r7, r8, r9, r10, r11, r12, r13, r14, r15, r16, r17, r18, r19, r20, r21, r22, r23, r24, k1, k2, k3, k4, k5, k6, k7, k8, k9, k10, k11, k12, k13, k14, k15, k16, k17, k18, k19, k20, k21, k22, k23, k24, n1, n2, n3, n4, n5, n6, n7, n8, n9, n10, n11, n12, n13, n14, n15, n16, n17, n18, n19, n20, n21, n22, n23, n24⟩ := hs'
    obtain ⟨t0, t1, t2, t3, t4, t5, t6, t7, t8, t9, mm, ff, pp, il, ix, ol, ox⟩ := hv
    dsimp only at he
    simp only [↓s_113_73, ↓s_113_74, ↓s_113_75, ↓s_113_76, ↓s_113_79, ↓s_113_80, ↓s_113_81, ↓s_113_82, ↓s_113_85, ↓s_113_86, ↓s_113_87, ↓s_113_88, ↓s_113_89, kd_uF, ln_uF, ai_uF, al_uF, ar_uF, zs_uF, fd_uF, kd_uA, ln_uA, fd_uA, al_uA, ar_uA, zs_uA, ai_uA, kd_uL, ln_uL, fd_uL, ai_uL, ar_uL, zs_uL, al_uL, kd_uR, ln_uR, fd_uR, ai_uR, al_uR, zs_uR, ar_uR, true_and, and_true, Option.toList_some, Option.toList_none, List.cons_append, List.nil_append, catS_nil, catS_int, catS_ref, catS_null, catS_long, cat_int, cat_ref, cat_null, Nat.reduceEqDiff, Nat.reduceLeDiff, Nat.reduceAdd, false_and, and_false, if_false, if_true, ite_true, ite_false, true_or, or_true, false_or, or_false, and_self, forall_const, true_implies, reduceCtorEq, clr_int, clr_ref, clr_null, clr_none, clr_long, va_rf_some, va_rf_none, bl0, rk, r5, k5, n5, cu, t1]
    rw [nI_1]
    refine ⟨fun q => k92 w' v hv0 hBv hF (by rw [q] at he; exact he), fun q => ⟨hin, sp_R_sum hs0 hv0 hu hBv.2.2.1 (by have := hBv.2.1; omega) (fun w2 hv2 hF2 => ?_)⟩⟩
    have q' : z.testBit 0 = true := by simpa using q
    exact k92 w2 _ hv2 hBv.sum (hF.tr hF2) (by rw [q'] at he; exact he)
  have k52 : ∀ w' v, RU w' m u v → UB v → FrN w w' m u → (let u := if z.testBit 4 then uS v 2 (1 - v.1 2) else v; let u := if z.testBit 0 then i_sum u (u.1 1 + 1) else u; if z.testBit 3 = z.testBit 2 then u else if z.testBit 1 then i_rot (i_rot u (z.testBit 3)) (z.testBit 3) else i_rot u (z.testBit 3)) = i_op x z → wp (d + 1) 113 Q 52 [some (.ref m), some (.int (nI u)), some (.int (nI z)), none, none, none, none] [] w' 0 0 := by
    intro w' v hv hBv hF he
    have hs' := hF.sh hs
    have hv0 := hv
    obtain ⟨rk, r1, r2, r3, r4, r5, r6, r7, r8, r9, r10, r11, r12, r13, r14, r15, r16, r17, r18, r19, r20, r21, r22, r23, r24, k1, k2, k3, k4, k5, k6, k7, k8, k9, k10, k11, k12, k13, k14, k15, k16, k17, k18, k19, k20, k21, k22, k23, k24, n1, n2, n3, n4, n5, n6, n7, n8, n9, n10, n11, n12, n13, n14, n15, n16, n17, n18, n19, n20, n21, n22, n23, n24⟩ := hs'
    obtain ⟨t0, t1, t2, t3, t4, t5, t6, t7, t8, t9, mm, ff, pp, il, ix, ol, ox⟩ := hv
    simp only [↓s_113_52, ↓s_113_53, ↓s_113_55, ↓s_113_56, ↓s_113_59, ↓s_113_60, ↓s_113_63, ↓s_113_64, ↓s_113_65, ↓s_113_66, ↓s_113_69, ↓s_113_70, ↓s_113_71, ↓s_113_72, kd_uF, ln_uF, ai_uF, al_uF, ar_uF, zs_uF, fd_uF, kd_uA, ln_uA, fd_uA, al_uA, ar_uA, zs_uA, ai_uA, kd_uL, ln_uL, fd_uL, ai_uL, ar_uL, zs_uL, al_uL, kd_uR, ln_uR, fd_uR, ai_uR, al_uR, zs_uR, ar_uR, true_and, and_true, Option.toList_some, Option.toList_none, List.cons_append, List.nil_append, catS_nil, catS_int, catS_ref, catS_null, catS_long, cat_int, cat_ref, cat_null, Nat.reduceEqDiff, Nat.reduceLeDiff, Nat.reduceAdd, false_and, and_false, if_false, if_true, ite_true, ite_false, true_or, or_true, false_or, or_false, and_self, forall_const, true_implies, reduceCtorEq, clr_int, clr_ref, clr_null, clr_none, clr_long, va_rf_some, va_rf_none, bl4, rk, r7, k7, n7, cu, t2]
    rw [sub1 hBv.2.2.1]
    refine ⟨fun q => k73 w' v hv0 hBv hF (by rw [q] at he; exact he), fun q => ⟨hin, hin, k73 _ _ hv0.S2 (hBv.S2 (by omega)) (hF.one (by omega)) ?_⟩⟩
    have q' : z.testBit 4 = true := by simpa using q
    rw [q'] at he; exact he
  have k29 : ∀ w' v, RU w' m u v → UB v → FrN w w' m u → (let u := if z.testBit 5 then uS v 1 (4095 - v.1 1) else v; let u := if z.testBit 4 then uS u 2 (1 - u.1 2) else u; let u := if z.testBit 0 then i_sum u (u.1 1 + 1) else u; if z.testBit 3 = z.testBit 2 then u else if z.testBit 1 then i_rot (i_rot u (z.testBit 3)) (z.testBit 3) else i_rot u (z.testBit 3)) = i_op x z → wp (d + 1) 113 Q 29 [some (.ref m), some (.int (nI u)), some (.int (nI z)), none, none, none, none] [] w' 0 0 := by
    intro w' v hv hBv hF he
    have hs' := hF.sh hs
    have hv0 := hv
    obtain ⟨rk, r1, r2, r3, r4, r5, r6, r7, r8, r9, r10, r11, r12, r13, r14, r15, r16, r17, r18, r19, r20, r21, r22, r23, r24, k1, k2, k3, k4, k5, k6, k7, k8, k9, k10, k11, k12, k13, k14, k15, k16, k17, k18, k19, k20, k21, k22, k23, k24, n1, n2, n3, n4, n5, n6, n7, n8, n9, n10, n11, n12, n13, n14, n15, n16, n17, n18, n19, n20, n21, n22, n23, n24⟩ := hs'
    obtain ⟨t0, t1, t2, t3, t4, t5, t6, t7, t8, t9, mm, ff, pp, il, ix, ol, ox⟩ := hv
    simp only [↓s_113_29, ↓s_113_30, ↓s_113_32, ↓s_113_33, ↓s_113_36, ↓s_113_37, ↓s_113_40, ↓s_113_41, ↓s_113_44, ↓s_113_45, ↓s_113_48, ↓s_113_49, ↓s_113_50, ↓s_113_51, kd_uF, ln_uF, ai_uF, al_uF, ar_uF, zs_uF, fd_uF, kd_uA, ln_uA, fd_uA, al_uA, ar_uA, zs_uA, ai_uA, kd_uL, ln_uL, fd_uL, ai_uL, ar_uL, zs_uL, al_uL, kd_uR, ln_uR, fd_uR, ai_uR, al_uR, zs_uR, ar_uR, true_and, and_true, Option.toList_some, Option.toList_none, List.cons_append, List.nil_append, catS_nil, catS_int, catS_ref, catS_null, catS_long, cat_int, cat_ref, cat_null, Nat.reduceEqDiff, Nat.reduceLeDiff, Nat.reduceAdd, false_and, and_false, if_false, if_true, ite_true, ite_false, true_or, or_true, false_or, or_false, and_self, forall_const, true_implies, reduceCtorEq, clr_int, clr_ref, clr_null, clr_none, clr_long, va_rf_some, va_rf_none, bl5, rk, r5, k5, n5, cu, t1]
    rw [sub12 hBv.2.1]
    refine ⟨fun q => k52 w' v hv0 hBv hF (by rw [q] at he; exact he), fun q => ⟨hin, hin, k52 _ _ hv0.S1 (hBv.S1 (by omega)) (hF.one (by omega)) ?_⟩⟩
    have q' : z.testBit 5 = true := by simpa using q
    rw [q'] at he; exact he
  have g15 : ∀ w' v, RU w' m u v → UB v → FrN w w' m u → (let u := if z.testBit 6 then uS v 2 0 else v; let u := if z.testBit 5 then uS u 1 (4095 - u.1 1) else u; let u := if z.testBit 4 then uS u 2 (1 - u.1 2) else u; let u := if z.testBit 0 then i_sum u (u.1 1 + 1) else u; if z.testBit 3 = z.testBit 2 then u else if z.testBit 1 then i_rot (i_rot u (z.testBit 3)) (z.testBit 3) else i_rot u (z.testBit 3)) = i_op x z → wp (d + 1) 113 Q 15 [some (.ref m), some (.int (nI u)), some (.int (nI z)), none, none, none, none] [] w' 0 0 := by
    intro w' v hv hBv hF he
    have hs' := hF.sh hs
    obtain ⟨rk, r1, r2, r3, r4, r5, r6, r7, r8, r9, r10, r11, r12, r13, r14, r15, r16, r17, r18, r19, r20, r21, r22, r23, r24, k1, k2, k3, k4, k5, k6, k7, k8, k9, k10, k11, k12, k13, k14, k15, k16, k17, k18, k19, k20, k21, k22, k23, k24, n1, n2, n3, n4, n5, n6, n7, n8, n9, n10, n11, n12, n13, n14, n15, n16, n17, n18, n19, n20, n21, n22, n23, n24⟩ := hs'
    simp only [↓s_113_15, ↓s_113_16, ↓s_113_18, ↓s_113_19, ↓s_113_22, ↓s_113_23, ↓s_113_26, ↓s_113_27, ↓s_113_28, kd_uF, ln_uF, ai_uF, al_uF, ar_uF, zs_uF, fd_uF, kd_uA, ln_uA, fd_uA, al_uA, ar_uA, zs_uA, ai_uA, kd_uL, ln_uL, fd_uL, ai_uL, ar_uL, zs_uL, al_uL, kd_uR, ln_uR, fd_uR, ai_uR, al_uR, zs_uR, ar_uR, true_and, and_true, Option.toList_some, Option.toList_none, List.cons_append, List.nil_append, catS_nil, catS_int, catS_ref, catS_null, catS_long, cat_int, cat_ref, cat_null, Nat.reduceEqDiff, Nat.reduceLeDiff, Nat.reduceAdd, false_and, and_false, if_false, if_true, ite_true, ite_false, true_or, or_true, false_or, or_false, and_self, forall_const, true_implies, reduceCtorEq, clr_int, clr_ref, clr_null, clr_none, clr_long, va_rf_some, va_rf_none, bl6, rk, r7, k7, n7, cu]
    refine ⟨fun q => k29 w' v hv hBv hF (by rw [q] at he; exact he), fun q => ⟨hin, k29 _ _ hv.S2 (hBv.S2 (by decide)) (hF.one (by omega)) ?_⟩⟩
    have q' : z.testBit 6 = true := by simpa using q
    rw [q'] at he; exact he
  have hs0 := hs
  obtain ⟨rk, r1, r2, r3, r4, r5, r6, r7, r8, r9, r10, r11, r12, r13, r14, r15, r16, r17, r18, r19, r20, r21, r22, r23, r24, k1, k2, k3, k4, k5, k6, k7, k8, k9, k10, k11, k12, k13, k14, k15, k16, k17, k18, k19, k20, k21, k22, k23, k24, n1, n2, n3, n4, n5, n6, n7, n8, n9, n10, n11, n12, n13, n14, n15, n16, n17, n18, n19, n20, n21, n22, n23, n24⟩ := hs
  simp only [↓s_113_0, ↓s_113_1, ↓s_113_4, ↓s_113_5, ↓s_113_8, ↓s_113_9, ↓s_113_12, ↓s_113_13, ↓s_113_14, kd_uF, ln_uF, ai_uF, al_uF, ar_uF, zs_uF, fd_uF, kd_uA, ln_uA, fd_uA, al_uA, ar_uA, zs_uA, ai_uA, kd_uL, ln_uL, fd_uL, ai_uL, ar_uL, zs_uL, al_uL, kd_uR, ln_uR, fd_uR, ai_uR, al_uR, zs_uR, ar_uR, true_and, and_true, Option.toList_some, Option.toList_none, List.cons_append, List.nil_append, catS_nil, catS_int, catS_ref, catS_null, catS_long, cat_int, cat_ref, cat_null, Nat.reduceEqDiff, Nat.reduceLeDiff, Nat.reduceAdd, false_and, and_false, if_false, if_true, ite_true, ite_false, true_or, or_true, false_or, or_false, and_self, forall_const, true_implies, reduceCtorEq, clr_int, clr_ref, clr_null, clr_none, clr_long, va_rf_some, va_rf_none, bl7, rk, r5, k5, n5, cu]
  refine ⟨fun q => g15 w x hx hB FrN.rf (by unfold i_op; rw [q]; rfl), fun q => ⟨hin, g15 _ _ hx.S1 (hB.S1 (by decide)) (FrN.rf.one (by omega)) ?_⟩⟩
  have q' : z.testBit 7 = true := by simpa using q
  unfold i_op; rw [q']; rfl
