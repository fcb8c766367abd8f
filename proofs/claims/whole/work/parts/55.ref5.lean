/-- only a user's letters in one row, and their number in another, may differ -/
def TK (w w' : aw) (l n u : Nat) : Prop := (∀ q, kd w' q = kd w q) ∧ (∀ q, ln w' q = ln w q) ∧ zs w' = zs w ∧ (∀ g q, fd w' g q = fd w g q) ∧ (∀ q i, al w' q i = al w q i) ∧ (∀ q i, ar w' q i = ar w q i) ∧ ∀ q i, ¬ (q = l ∧ 16 * u ≤ i ∧ i < 16 * u + 16) → ¬ (q = n ∧ i = u) → ai w' q i = ai w q i
theorem TK.rf {w : aw} {l n u : Nat} : TK w w l n u := ⟨fun _ => rfl, fun _ => rfl, rfl, fun _ _ => rfl, fun _ _ => rfl, fun _ _ => rfl, fun _ _ _ _ => rfl⟩
theorem TK.let {w w' : aw} {l n u i : Nat} {x : Int32} (h : TK w w' l n u) (hi : i < 16) : TK w (uA w' l (16 * u + i) x) l n u :=
  ⟨h.1, h.2.1, h.2.2.1, h.2.2.2.1, h.2.2.2.2.1, h.2.2.2.2.2.1, fun q j a b => by rw [ai_uA, if_neg (by omega)]; exact h.2.2.2.2.2.2 q j a b⟩
theorem TK.many {w w' : aw} {l n u : Nat} {x : Int32} (h : TK w w' l n u) : TK w (uA w' n u x) l n u :=
  ⟨h.1, h.2.1, h.2.2.1, h.2.2.2.1, h.2.2.2.2.1, h.2.2.2.2.2.1, fun q j a b => by rw [ai_uA, if_neg (by omega)]; exact h.2.2.2.2.2.2 q j a b⟩
theorem sp_R_taken {d : Nat} {w : aw} {l n u c : Nat} {r : List Nat} {Q : wQ} (hk : kd w l = 20) (hl : ln w l = 128) (hk2 : kd w n = 20) (hl2 : ln w n = 8) (hne : l ≠ n) (hu : u < 8) (hn : ai w n u = nI (r.length + 1)) (hlen : r.length < 16) (hx : ∀ i, i < r.length + 1 → ai w l (16 * u + i) = nI ((c :: r).getD i 0))
    (h : ∀ w', TK w w' l n u → ai w' n u = nI r.length → (∀ i, i < r.length → ai w' l (16 * u + i) = nI (r.getD i 0)) → Q (some (.int (nI c))) w') : wpD (d + 1) 116 [.ref l, .ref n, .int (nI u)] w Q := by
  refine ⟨Nat.le_of_ble_eq_true rfl, ?_⟩
  show wp d 116 Q 0 [some (.ref l), some (.ref n), some (.int (nI u)), none, none] [] w 0 0
  have hin : inR (nI u) 8 := inR_nI hu (by decide)
  have cu : (nI u).toNatClampNeg = u := clN (by omega)
  have e16 : (16 : Int32) * nI u = nI (16 * u) := by rw [show (16 : Int32) = nI 16 from rfl, pk_mul]
  have c16 : (nI (16 * u)).toNatClampNeg = 16 * u := clN (by omega)
  have h0 := hx 0 (by omega)
  rw [Nat.add_zero] at h0
  simp only [↓s_116_0, ↓s_116_0n, ↓s_116_1, ↓s_116_3, ↓s_116_4, ↓s_116_5, ↓s_116_6, ↓s_116_7, ↓s_116_7n, ↓s_116_8, ↓s_116_9, ↓s_116_10, ↓s_116_11, ↓s_116_12, ↓s_116_13, ↓s_116_14, ↓s_116_15, kd_uF, ln_uF, ai_uF, al_uF, ar_uF, zs_uF, fd_uF, kd_uA, ln_uA, fd_uA, al_uA, ar_uA, zs_uA, ai_uA, kd_uL, ln_uL, fd_uL, ai_uL, ar_uL, zs_uL, al_uL, kd_uR, ln_uR, fd_uR, ai_uR, al_uR, zs_uR, ar_uR, true_and, and_true, Option.toList_some, Option.toList_none, List.cons_append, List.nil_append, catS_nil, catS_int, catS_ref, catS_null, catS_long, cat_int, cat_ref, cat_null, Nat.reduceEqDiff, Nat.reduceLeDiff, Nat.reduceAdd, false_and, and_false, if_false, if_true, ite_true, ite_false, true_or, or_true, false_or, or_false, and_self, forall_const, true_implies, reduceCtorEq, clr_int, clr_ref, clr_null, clr_none, clr_long, va_rf_some, va_rf_none, hk, hl, hk2, hl2, e16, c16, cu, hn, h0]
  rw [show nI (r.length + 1) - 1 = nI r.length from nI_pred _]
  refine ⟨inR_nI (by omega) (by decide), hin, hin, ?_⟩
  have lp : ∀ (k i : Nat), i + k = r.length → ∀ w', TK w w' l n u → ai w' n u = nI r.length → (∀ j, j < i → ai w' l (16 * u + j) = nI (r.getD j 0)) → (∀ j, i ≤ j → j < r.length + 1 → ai w' l (16 * u + j) = nI ((c :: r).getD j 0)) → wp d 116 Q 17 [some (.ref l), some (.ref n), some (.int (nI u)), some (.int (nI ((c :: r).getD 0 0))), some (.int (nI i))] [] w' 0 0 := by
    intro k
    induction k with
    | zero =>
      intro i hi w' hT hm hd hr
      have hi : i = r.length := by omega
      subst hi
      rw [s_116_17]
      simp only [↓s_116_19, ↓s_116_19n, ↓s_116_20, ↓s_116_21, ↓s_116_22, ↓s_116_25, ↓s_116_25n, ↓s_116_26, ↓s_116_28, ↓s_116_29, ↓s_116_30, ↓s_116_32, ↓s_116_33, ↓s_116_33n, ↓s_116_34, ↓s_116_36, ↓s_116_37, ↓s_116_38, ↓s_116_40, ↓s_116_41, ↓s_116_42, ↓s_116_43, ↓s_116_44, ↓s_116_45, ↓s_116_48, ↓s_116_51, ↓s_116_52, kd_uF, ln_uF, ai_uF, al_uF, ar_uF, zs_uF, fd_uF, kd_uA, ln_uA, fd_uA, al_uA, ar_uA, zs_uA, ai_uA, kd_uL, ln_uL, fd_uL, ai_uL, ar_uL, zs_uL, al_uL, kd_uR, ln_uR, fd_uR, ai_uR, al_uR, zs_uR, ar_uR, true_and, and_true, Option.toList_some, Option.toList_none, List.cons_append, List.nil_append, catS_nil, catS_int, catS_ref, catS_null, catS_long, cat_int, cat_ref, cat_null, Nat.reduceEqDiff, Nat.reduceLeDiff, Nat.reduceAdd, false_and, and_false, if_false, if_true, ite_true, ite_false, true_or, or_true, false_or, or_false, and_self, forall_const, true_implies, reduceCtorEq, clr_int, clr_ref, clr_null, clr_none, clr_long, va_rf_some, va_rf_none, hT.1, hT.2.1, hk, hl, hk2, hl2, hm, cu]
      exact ⟨hin, fun _ => h w' hT hm hd, fun q => absurd (nI_le (Nat.le_refl _) (by omega)) q⟩
    | succ k ih =>
      intro i hi w' hT hm hd hr
      have e1 := hr (i + 1) (by omega) (by omega)
      have ci : (nI (16 * u) + nI i) = nI (16 * u + i) := nI_add _ _
      have ci1 : (nI (16 * u + i) + 1) = nI (16 * u + (i + 1)) := nI_1 _
      rw [s_116_17]
      simp only [↓s_116_19, ↓s_116_19n, ↓s_116_20, ↓s_116_21, ↓s_116_22, ↓s_116_25, ↓s_116_25n, ↓s_116_26, ↓s_116_28, ↓s_116_29, ↓s_116_30, ↓s_116_32, ↓s_116_33, ↓s_116_33n, ↓s_116_34, ↓s_116_36, ↓s_116_37, ↓s_116_38, ↓s_116_40, ↓s_116_41, ↓s_116_42, ↓s_116_43, ↓s_116_44, ↓s_116_45, ↓s_116_48, ↓s_116_51, ↓s_116_52, kd_uF, ln_uF, ai_uF, al_uF, ar_uF, zs_uF, fd_uF, kd_uA, ln_uA, fd_uA, al_uA, ar_uA, zs_uA, ai_uA, kd_uL, ln_uL, fd_uL, ai_uL, ar_uL, zs_uL, al_uL, kd_uR, ln_uR, fd_uR, ai_uR, al_uR, zs_uR, ar_uR, true_and, and_true, Option.toList_some, Option.toList_none, List.cons_append, List.nil_append, catS_nil, catS_int, catS_ref, catS_null, catS_long, cat_int, cat_ref, cat_null, Nat.reduceEqDiff, Nat.reduceLeDiff, Nat.reduceAdd, false_and, and_false, if_false, if_true, ite_true, ite_false, true_or, or_true, false_or, or_false, and_self, forall_const, true_implies, reduceCtorEq, clr_int, clr_ref, clr_null, clr_none, clr_long, va_rf_some, va_rf_none, hT.1, hT.2.1, hk, hl, hk2, hl2, hm, cu, e16, ci, ci1, clN (show 16 * u + i < 2147483648 by omega), clN (show 16 * u + (i + 1) < 2147483648 by omega), e1]
      rw [nI_1]
      refine ⟨hin, fun q => absurd q (nI_ge (by omega) (by omega)), fun _ => ⟨inR_nI (by omega) (by decide), inR_nI (by omega) (by decide), ih (i + 1) (by omega) _ (hT.let (by omega)) ?_ ?_ ?_⟩⟩
      · rw [ai_uA, if_neg (by omega)]; exact hm
      · intro j hj
        rw [ai_uA]
        by_cases e : j = i
        · rw [if_pos ⟨rfl, by omega⟩, e]; rfl
        · rw [if_neg (by omega)]; exact hd j (by omega)
      · intro j h1 h2
        rw [ai_uA, if_neg (by omega)]; exact hr j (by omega) h2
  exact lp r.length 0 (by omega) _ TK.rf.many (by rw [ai_uA, if_pos ⟨rfl, rfl⟩]) (fun j hj => absurd hj (Nat.not_lt_zero j)) (fun j _ hj => by rw [ai_uA, if_neg (by omega)]; exact hx j hj)
theorem TK.F {w w' : aw} {m u k k2 : Nat} (h : TK w w' (m + k) (m + k2) u) (hk : (k = 13 ∧ k2 = 14) ∨ (k = 15 ∧ k2 = 16)) : FrN w w' m u := by
  obtain ⟨a1, a2, a3, a4, a5, a6, a7⟩ := h
  refine ⟨⟨⟨a1, a2, a3, fun q hq => ⟨fun g => a4 g q, fun i => a7 q i (by omega) (by omega), fun i => a5 q i, fun i => a6 q i⟩⟩, fun g _ _ => a4 g m, fun j i p => a7 _ i (by omega) (by omega), a5, fun j v p q => a7 _ v (by omega) (by omega), fun j v a p q r => a7 _ _ (by omega) (by omega), fun v a p q => a7 _ _ (by omega) (by omega), fun j v a p q r => a7 _ _ (by omega) (by omega)⟩, fun g => a4 g m⟩
theorem RU.Inp {w w' : aw} {m u : Nat} {x : us} {r : List Nat} (h : RU w m u x) (hT : TK w w' (m + 13) (m + 14) u) (h1 : ai w' (m + 14) u = nI r.length) (h2 : ∀ i, i < r.length → ai w' (m + 13) (16 * u + i) = nI (r.getD i 0)) (hu : u < 8) : RU w' m u (uInp x r) := by
  obtain ⟨t0, t1, t2, t3, t4, t5, t6, t7, t8, t9, mm, ff, pp, il, ix, ol, ox⟩ := h
  have e := hT.2.2.2.2.2.2
  exact ⟨(e _ _ (by omega) (by omega)).trans t0, (e _ _ (by omega) (by omega)).trans t1, (e _ _ (by omega) (by omega)).trans t2, (e _ _ (by omega) (by omega)).trans t3, (e _ _ (by omega) (by omega)).trans t4, (e _ _ (by omega) (by omega)).trans t5, (e _ _ (by omega) (by omega)).trans t6, (e _ _ (by omega) (by omega)).trans t7, (e _ _ (by omega) (by omega)).trans t8, (e _ _ (by omega) (by omega)).trans t9,
    fun a ha => (e _ _ (by omega) (by omega)).trans (mm a ha), fun a ha => (e _ _ (by omega) (by omega)).trans (ff a ha), fun a ha => (e _ _ (by omega) (by omega)).trans (pp a ha), h1, h2, (e _ _ (by omega) (by omega)).trans ol, fun i q => (e _ _ (by omega) (by omega)).trans (ox i q)⟩
theorem RU.Out {w w' : aw} {m u : Nat} {x : us} {r : List Nat} (h : RU w m u x) (hT : TK w w' (m + 15) (m + 16) u) (h1 : ai w' (m + 16) u = nI r.length) (h2 : ∀ i, i < r.length → ai w' (m + 15) (16 * u + i) = nI (r.getD i 0)) (hu : u < 8) : RU w' m u (uOut x r) := by
  obtain ⟨t0, t1, t2, t3, t4, t5, t6, t7, t8, t9, mm, ff, pp, il, ix, ol, ox⟩ := h
  have e := hT.2.2.2.2.2.2
  exact ⟨(e _ _ (by omega) (by omega)).trans t0, (e _ _ (by omega) (by omega)).trans t1, (e _ _ (by omega) (by omega)).trans t2, (e _ _ (by omega) (by omega)).trans t3, (e _ _ (by omega) (by omega)).trans t4, (e _ _ (by omega) (by omega)).trans t5, (e _ _ (by omega) (by omega)).trans t6, (e _ _ (by omega) (by omega)).trans t7, (e _ _ (by omega) (by omega)).trans t8, (e _ _ (by omega) (by omega)).trans t9,
    fun a ha => (e _ _ (by omega) (by omega)).trans (mm a ha), fun a ha => (e _ _ (by omega) (by omega)).trans (ff a ha), fun a ha => (e _ _ (by omega) (by omega)).trans (pp a ha), (e _ _ (by omega) (by omega)).trans il, fun i q => (e _ _ (by omega) (by omega)).trans (ix i q), h1, h2⟩
theorem sp_R_transfer {d : Nat} {w : aw} {m u : Nat} {x : us} {rd : Bool} {Q : wQ} (hs : RSh w m) (hx : RU w m u x) (hB : UB x) (hu : u < 8) (h : ∀ w', RU w' m u (i_block x rd) → FrN w w' m u → Q none w') : wpD (d + 2) 117 [.ref m, .int (nI u), .int (nI rd.toNat)] w Q := by
  refine ⟨Nat.le_of_ble_eq_true rfl, ?_⟩
  show wp (d + 1) 117 Q 0 [some (.ref m), some (.int (nI u)), some (.int (nI rd.toNat)), none, none, none] [] w 0 0
  have hin : inR (nI u) 8 := inR_nI hu (by decide)
  have cu : (nI u).toNatClampNeg = u := clN (by omega)
  have hs0 := hs
  have hx0 := hx
  obtain ⟨rk, r1, r2, r3, r4, r5, r6, r7, r8, r9, r10, r11, r12, r13, r14, r15, r16, r17, r18, r19, r20, r21, r22, r23, r24, k1, k2, k3, k4, k5, k6, k7, k8, k9, k10, k11, k12, k13, k14, k15, k16, k17, k18, k19, k20, k21, k22, k23, k24, n1, n2, n3, n4, n5, n6, n7, n8, n9, n10, n11, n12, n13, n14, n15, n16, n17, n18, n19, n20, n21, n22, n23, n24⟩ := hs
  obtain ⟨t0, t1, t2, t3, t4, t5, t6, t7, t8, t9, mm, ff, pp, il, ix, ol, ox⟩ := hx
  simp only [↓s_117_0, ↓s_117_1, ↓s_117_2, ↓s_117_3, ↓s_117_6, ↓s_117_7, ↓s_117_8, kd_uF, ln_uF, ai_uF, al_uF, ar_uF, zs_uF, fd_uF, kd_uA, ln_uA, fd_uA, al_uA, ar_uA, zs_uA, ai_uA, kd_uL, ln_uL, fd_uL, ai_uL, ar_uL, zs_uL, al_uL, kd_uR, ln_uR, fd_uR, ai_uR, al_uR, zs_uR, ar_uR, true_and, and_true, Option.toList_some, Option.toList_none, List.cons_append, List.nil_append, catS_nil, catS_int, catS_ref, catS_null, catS_long, cat_int, cat_ref, cat_null, Nat.reduceEqDiff, Nat.reduceLeDiff, Nat.reduceAdd, false_and, and_false, if_false, if_true, ite_true, ite_false, true_or, or_true, false_or, or_false, and_self, forall_const, true_implies, reduceCtorEq, clr_int, clr_ref, clr_null, clr_none, clr_long, va_rf_some, va_rf_none, rk, r6, k6, n6, cu, t0]
  refine ⟨hin, sp_R_get hs0 hx0 hu hB.1 ?_⟩
  unfold i_block at h
  dsimp only at h
  have ha : uMm x (x.1 0) < 4096 := hB.2.2.2.2.2.2.2.2.1 _
  revert ha h
  generalize uMm x (x.1 0) = a
  intro h ha
  simp only [↓s_117_11, ↓s_117_12, ↓s_117_13, ↓s_117_16, ↓s_117_17, ↓s_117_18, ↓s_117_21, ↓s_117_22, ↓s_117_23, ↓s_117_24, ↓s_117_25, ↓s_117_28, ↓s_117_29, ↓s_117_30, ↓s_117_31, ↓s_117_34, ↓s_117_35, ↓s_117_36, ↓s_117_38, ↓s_117_41, ↓s_117_42, ↓s_117_45, ↓s_117_46, ↓s_117_49, ↓s_117_50, ↓s_117_51, ↓s_117_54, ↓s_117_55, ↓s_117_56, ↓s_117_59, ↓s_117_60, ↓s_117_63, ↓s_117_64, ↓s_117_65, ↓s_117_66, ↓s_117_67, ↓s_117_69, ↓s_117_70, kd_uF, ln_uF, ai_uF, al_uF, ar_uF, zs_uF, fd_uF, kd_uA, ln_uA, fd_uA, al_uA, ar_uA, zs_uA, ai_uA, kd_uL, ln_uL, fd_uL, ai_uL, ar_uL, zs_uL, al_uL, kd_uR, ln_uR, fd_uR, ai_uR, al_uR, zs_uR, ar_uR, true_and, and_true, Option.toList_some, Option.toList_none, List.cons_append, List.nil_append, catS_nil, catS_int, catS_ref, catS_null, catS_long, cat_int, cat_ref, cat_null, Nat.reduceEqDiff, Nat.reduceLeDiff, Nat.reduceAdd, false_and, and_false, if_false, if_true, ite_true, ite_false, true_or, or_true, false_or, or_false, and_self, forall_const, true_implies, reduceCtorEq, clr_int, clr_ref, clr_null, clr_none, clr_long, va_rf_some, va_rf_none, rk, r6, k6, n6, r5, k5, n5, cu, t0, t1, show ¬ (m + 5 = m + 6) by omega]
  rw [nI_1, m12 (by have := hB.1; omega)]
  have hv : RU (uA w (m + 6) u (nI ((x.1 0 + 1) % 4096))) m u (i_skip x) := hx0.S0
  have hF1 : FrN w (uA w (m + 6) u (nI ((x.1 0 + 1) % 4096))) m u := FrN.rf.one (by omega)
  have hB1 := hB.skip
  have eac : x.1 1 = (i_skip x).1 1 := rfl
  rw [eac]
  generalize i_skip x = v at *
  generalize uA w (m + 6) u (nI ((x.1 0 + 1) % 4096)) = w1 at *
  have hac := hB1.2.1
  rw [show (32 : Int32) = nI 32 from rfl, nI_ltI (by omega) (by decide)]
  refine ⟨hin, hin, hin, fun q => ⟨hin, ?_⟩, fun q => ⟨hin, h _ (by rw [if_pos (by omega)]; exact hv.S1) (hF1.one (by omega))⟩⟩
  rw [if_neg (by omega)] at h
  rw [show (4096 : Int32) * nI u + 128 * nI (v.1 1) = nI (4096 * u + 128 * v.1 1) from by rw [show (4096 : Int32) = nI 4096 from rfl, show (128 : Int32) = nI 128 from rfl, pk_mul, pk_mul, nI_add]]
  have eP : ∀ i, i < 128 → nI a + nI i &&& 4095 = nI ((a + i) % 4096) := fun i hi => by rw [nI_add, m12 (by omega)]
  have eF : ∀ i, nI (4096 * u + 128 * v.1 1) + nI i = nI (4096 * u + (v.1 1 * 128 + i)) := fun i => by rw [nI_add]; congr 1; omega
  clear rk r1 r2 r3 r4 r5 r6 r7 r8 r9 r10 r11 r12 r13 r14 r15 r16 r17 r18 r19 r20 r21 r22 r23 r24 k1 k2 k3 k4 k5 k6 k7 k8 k9 k10 k11 k12 k13 k14 k15 k16 k17 k18 k19 k20 k21 k22 k23 k24 n1 n2 n3 n4 n5 n6 n7 n8 n9 n10 n11 n12 n13 n14 n15 n16 n17 n18 n19 n20 n21 n22 n23 n24 t0 t1 t2 t3 t4 t5 t6 t7 t8 t9 mm ff pp il ix ol ox
  cases rd with
  | true =>
    rw [if_pos rfl] at h
    have lp : ∀ (k i : Nat), i + k = 128 → ∀ w', RU w' m u (blkR v a i) → FrN w w' m u → wp (d + 1) 117 Q 72 [some (Value.ref m), some (Value.int (nI u)), some (Value.int (nI true.toNat)), some (Value.int (nI a)), some (Value.int (nI (4096 * u + 128 * v.1 1))), some (Value.int (nI i))] [] w' 0 0 := by
      intro k
      induction k with
      | zero =>
        intro i hi w' hw hF
        have hi : i = 128 := by omega
        subst hi
        have hs' := hF.sh hs0
        obtain ⟨rk, r1, r2, r3, r4, r5, r6, r7, r8, r9, r10, r11, r12, r13, r14, r15, r16, r17, r18, r19, r20, r21, r22, r23, r24, k1, k2, k3, k4, k5, k6, k7, k8, k9, k10, k11, k12, k13, k14, k15, k16, k17, k18, k19, k20, k21, k22, k23, k24, n1, n2, n3, n4, n5, n6, n7, n8, n9, n10, n11, n12, n13, n14, n15, n16, n17, n18, n19, n20, n21, n22, n23, n24⟩ := hs'
        rw [s_117_72]
        simp only [↓s_117_74, ↓s_117_77, ↓s_117_80, ↓s_117_81, ↓s_117_84, ↓s_117_85, ↓s_117_86, ↓s_117_87, ↓s_117_89, ↓s_117_90, ↓s_117_93, ↓s_117_94, ↓s_117_95, ↓s_117_98, ↓s_117_100, ↓s_117_102, ↓s_117_103, ↓s_117_104, ↓s_117_110, ↓s_117_111, ↓s_117_114, ↓s_117_116, ↓s_117_118, ↓s_117_119, ↓s_117_120, ↓s_117_121, ↓s_117_122, ↓s_117_124, ↓s_117_125, ↓s_117_128, ↓s_117_129, ↓s_117_139, ↓s_117_140, ↓s_117_143, ↓s_117_144, ↓s_117_145, ↓s_117_146, kd_uF, ln_uF, ai_uF, al_uF, ar_uF, zs_uF, fd_uF, kd_uA, ln_uA, fd_uA, al_uA, ar_uA, zs_uA, ai_uA, kd_uL, ln_uL, fd_uL, ai_uL, ar_uL, zs_uL, al_uL, kd_uR, ln_uR, fd_uR, ai_uR, al_uR, zs_uR, ar_uR, true_and, and_true, Option.toList_some, Option.toList_none, List.cons_append, List.nil_append, catS_nil, catS_int, catS_ref, catS_null, catS_long, cat_int, cat_ref, cat_null, Nat.reduceEqDiff, Nat.reduceLeDiff, Nat.reduceAdd, false_and, and_false, if_false, if_true, ite_true, ite_false, true_or, or_true, false_or, or_false, and_self, forall_const, true_implies, reduceCtorEq, clr_int, clr_ref, clr_null, clr_none, clr_long, va_rf_some, va_rf_none, rk, r5, k5, n5, cu]
        exact ⟨fun _ => ⟨hin, h _ hw.S1 (hF.one (by omega))⟩, fun q => absurd (by decide) q⟩
      | succ k ih =>
        intro i hi w' hw hF
        have hs' := hF.sh hs0
        have hs1 := hs'
        have hw0 := hw
        obtain ⟨rk, r1, r2, r3, r4, r5, r6, r7, r8, r9, r10, r11, r12, r13, r14, r15, r16, r17, r18, r19, r20, r21, r22, r23, r24, k1, k2, k3, k4, k5, k6, k7, k8, k9, k10, k11, k12, k13, k14, k15, k16, k17, k18, k19, k20, k21, k22, k23, k24, n1, n2, n3, n4, n5, n6, n7, n8, n9, n10, n11, n12, n13, n14, n15, n16, n17, n18, n19, n20, n21, n22, n23, n24⟩ := hs'
        obtain ⟨t0, t1, t2, t3, t4, t5, t6, t7, t8, t9, mm, ff, pp, il, ix, ol, ox⟩ := hw
        have ev := ff (v.1 1 * 128 + i) (by omega)
        have hfv : uFf (blkR v a i) (v.1 1 * 128 + i) = uFf v (v.1 1 * 128 + i) := rfl
        rw [hfv] at ev
        rw [s_117_72]
        simp only [↓s_117_74, ↓s_117_77, ↓s_117_80, ↓s_117_81, ↓s_117_84, ↓s_117_85, ↓s_117_86, ↓s_117_87, ↓s_117_89, ↓s_117_90, ↓s_117_93, ↓s_117_94, ↓s_117_95, ↓s_117_98, ↓s_117_100, ↓s_117_102, ↓s_117_103, ↓s_117_104, ↓s_117_110, ↓s_117_111, ↓s_117_114, ↓s_117_116, ↓s_117_118, ↓s_117_119, ↓s_117_120, ↓s_117_121, ↓s_117_122, ↓s_117_124, ↓s_117_125, ↓s_117_128, ↓s_117_129, ↓s_117_139, ↓s_117_140, ↓s_117_143, ↓s_117_144, ↓s_117_145, ↓s_117_146, kd_uF, ln_uF, ai_uF, al_uF, ar_uF, zs_uF, fd_uF, kd_uA, ln_uA, fd_uA, al_uA, ar_uA, zs_uA, ai_uA, kd_uL, ln_uL, fd_uL, ai_uL, ar_uL, zs_uL, al_uL, kd_uR, ln_uR, fd_uR, ai_uR, al_uR, zs_uR, ar_uR, true_and, and_true, Option.toList_some, Option.toList_none, List.cons_append, List.nil_append, catS_nil, catS_int, catS_ref, catS_null, catS_long, cat_int, cat_ref, cat_null, Nat.reduceEqDiff, Nat.reduceLeDiff, Nat.reduceAdd, false_and, and_false, if_false, if_true, ite_true, ite_false, true_or, or_true, false_or, or_false, and_self, forall_const, true_implies, reduceCtorEq, clr_int, clr_ref, clr_null, clr_none, clr_long, va_rf_some, va_rf_none, rk, r4, k4, n4, eP i (by omega), eF i, clN (show 4096 * u + (v.1 1 * 128 + i) < 2147483648 by omega), ev]
        refine ⟨fun q => absurd q (nI_ge (b := 128) (by omega) (by decide)), fun _ => ⟨fun q => absurd q (by decide), fun _ => ⟨inR_nI (by omega) (by decide), sp_R_set hs1 hw0 hu (Nat.mod_lt _ (by decide)) (by have := hB1.2.2.2.2.2.2.2.2.2.1 (v.1 1 * 128 + i); omega) (fun w2 hy2 hF2 hf2 => ?_)⟩⟩⟩
        rw [Nat.mod_eq_of_lt (hB1.2.2.2.2.2.2.2.2.2.1 _), blkR_step ha (by omega)] at hy2
        simp only [↓s_117_107, kd_uF, ln_uF, ai_uF, al_uF, ar_uF, zs_uF, fd_uF, kd_uA, ln_uA, fd_uA, al_uA, ar_uA, zs_uA, ai_uA, kd_uL, ln_uL, fd_uL, ai_uL, ar_uL, zs_uL, al_uL, kd_uR, ln_uR, fd_uR, ai_uR, al_uR, zs_uR, ar_uR, true_and, and_true, Option.toList_some, Option.toList_none, List.cons_append, List.nil_append, catS_nil, catS_int, catS_ref, catS_null, catS_long, cat_int, cat_ref, cat_null, Nat.reduceEqDiff, Nat.reduceLeDiff, Nat.reduceAdd, false_and, and_false, if_false, if_true, ite_true, ite_false, true_or, or_true, false_or, or_false, and_self, forall_const, true_implies, reduceCtorEq, clr_int, clr_ref, clr_null, clr_none, clr_long, va_rf_some, va_rf_none]
        rw [s_117_133]
        simp only [↓s_117_136, kd_uF, ln_uF, ai_uF, al_uF, ar_uF, zs_uF, fd_uF, kd_uA, ln_uA, fd_uA, al_uA, ar_uA, zs_uA, ai_uA, kd_uL, ln_uL, fd_uL, ai_uL, ar_uL, zs_uL, al_uL, kd_uR, ln_uR, fd_uR, ai_uR, al_uR, zs_uR, ar_uR, true_and, and_true, Option.toList_some, Option.toList_none, List.cons_append, List.nil_append, catS_nil, catS_int, catS_ref, catS_null, catS_long, cat_int, cat_ref, cat_null, Nat.reduceEqDiff, Nat.reduceLeDiff, Nat.reduceAdd, false_and, and_false, if_false, if_true, ite_true, ite_false, true_or, or_true, false_or, or_false, and_self, forall_const, true_implies, reduceCtorEq, clr_int, clr_ref, clr_null, clr_none, clr_long, va_rf_some, va_rf_none]
        rw [nI_1]
        exact ih (i + 1) (by omega) w2 hy2 (hF.tr ⟨hF2, hf2⟩)
    exact lp 128 0 rfl w1 (by rw [blkR_0]; exact hv) hF1
  | false =>
    rw [if_neg (by decide)] at h
    have lp : ∀ (k i : Nat), i + k = 128 → ∀ w', RU w' m u (blkW v a i) → FrN w w' m u → wp (d + 1) 117 Q 72 [some (Value.ref m), some (Value.int (nI u)), some (Value.int (nI false.toNat)), some (Value.int (nI a)), some (Value.int (nI (4096 * u + 128 * v.1 1))), some (Value.int (nI i))] [] w' 0 0 := by
      intro k
      induction k with
      | zero =>
        intro i hi w' hw hF
        have hi : i = 128 := by omega
        subst hi
        have hs' := hF.sh hs0
        obtain ⟨rk, r1, r2, r3, r4, r5, r6, r7, r8, r9, r10, r11, r12, r13, r14, r15, r16, r17, r18, r19, r20, r21, r22, r23, r24, k1, k2, k3, k4, k5, k6, k7, k8, k9, k10, k11, k12, k13, k14, k15, k16, k17, k18, k19, k20, k21, k22, k23, k24, n1, n2, n3, n4, n5, n6, n7, n8, n9, n10, n11, n12, n13, n14, n15, n16, n17, n18, n19, n20, n21, n22, n23, n24⟩ := hs'
        rw [s_117_72]
        simp only [↓s_117_74, ↓s_117_77, ↓s_117_80, ↓s_117_81, ↓s_117_84, ↓s_117_85, ↓s_117_86, ↓s_117_87, ↓s_117_89, ↓s_117_90, ↓s_117_93, ↓s_117_94, ↓s_117_95, ↓s_117_98, ↓s_117_100, ↓s_117_102, ↓s_117_103, ↓s_117_104, ↓s_117_110, ↓s_117_111, ↓s_117_114, ↓s_117_116, ↓s_117_118, ↓s_117_119, ↓s_117_120, ↓s_117_121, ↓s_117_122, ↓s_117_124, ↓s_117_125, ↓s_117_128, ↓s_117_129, ↓s_117_139, ↓s_117_140, ↓s_117_143, ↓s_117_144, ↓s_117_145, ↓s_117_146, kd_uF, ln_uF, ai_uF, al_uF, ar_uF, zs_uF, fd_uF, kd_uA, ln_uA, fd_uA, al_uA, ar_uA, zs_uA, ai_uA, kd_uL, ln_uL, fd_uL, ai_uL, ar_uL, zs_uL, al_uL, kd_uR, ln_uR, fd_uR, ai_uR, al_uR, zs_uR, ar_uR, true_and, and_true, Option.toList_some, Option.toList_none, List.cons_append, List.nil_append, catS_nil, catS_int, catS_ref, catS_null, catS_long, cat_int, cat_ref, cat_null, Nat.reduceEqDiff, Nat.reduceLeDiff, Nat.reduceAdd, false_and, and_false, if_false, if_true, ite_true, ite_false, true_or, or_true, false_or, or_false, and_self, forall_const, true_implies, reduceCtorEq, clr_int, clr_ref, clr_null, clr_none, clr_long, va_rf_some, va_rf_none, rk, r5, k5, n5, cu]
        exact ⟨fun _ => ⟨hin, h _ hw.S1 (hF.one (by omega))⟩, fun q => absurd (by decide) q⟩
      | succ k ih =>
        intro i hi w' hw hF
        have hs' := hF.sh hs0
        have hs1 := hs'
        have hw0 := hw
        obtain ⟨rk, r1, r2, r3, r4, r5, r6, r7, r8, r9, r10, r11, r12, r13, r14, r15, r16, r17, r18, r19, r20, r21, r22, r23, r24, k1, k2, k3, k4, k5, k6, k7, k8, k9, k10, k11, k12, k13, k14, k15, k16, k17, k18, k19, k20, k21, k22, k23, k24, n1, n2, n3, n4, n5, n6, n7, n8, n9, n10, n11, n12, n13, n14, n15, n16, n17, n18, n19, n20, n21, n22, n23, n24⟩ := hs'
        rw [s_117_72]
        simp only [↓s_117_74, ↓s_117_77, ↓s_117_80, ↓s_117_81, ↓s_117_84, ↓s_117_85, ↓s_117_86, ↓s_117_87, ↓s_117_89, ↓s_117_90, ↓s_117_93, ↓s_117_94, ↓s_117_95, ↓s_117_98, ↓s_117_100, ↓s_117_102, ↓s_117_103, ↓s_117_104, ↓s_117_110, ↓s_117_111, ↓s_117_114, ↓s_117_116, ↓s_117_118, ↓s_117_119, ↓s_117_120, ↓s_117_121, ↓s_117_122, ↓s_117_124, ↓s_117_125, ↓s_117_128, ↓s_117_129, ↓s_117_139, ↓s_117_140, ↓s_117_143, ↓s_117_144, ↓s_117_145, ↓s_117_146, kd_uF, ln_uF, ai_uF, al_uF, ar_uF, zs_uF, fd_uF, kd_uA, ln_uA, fd_uA, al_uA, ar_uA, zs_uA, ai_uA, kd_uL, ln_uL, fd_uL, ai_uL, ar_uL, zs_uL, al_uL, kd_uR, ln_uR, fd_uR, ai_uR, al_uR, zs_uR, ar_uR, true_and, and_true, Option.toList_some, Option.toList_none, List.cons_append, List.nil_append, catS_nil, catS_int, catS_ref, catS_null, catS_long, cat_int, cat_ref, cat_null, Nat.reduceEqDiff, Nat.reduceLeDiff, Nat.reduceAdd, false_and, and_false, if_false, if_true, ite_true, ite_false, true_or, or_true, false_or, or_false, and_self, forall_const, true_implies, reduceCtorEq, clr_int, clr_ref, clr_null, clr_none, clr_long, va_rf_some, va_rf_none, rk, r4, k4, n4, eP i (by omega), eF i]
        refine ⟨fun q => absurd q (nI_ge (b := 128) (by omega) (by decide)), fun _ => ⟨fun _ => sp_R_get hs1 hw0 hu (Nat.mod_lt _ (by decide)) ?_, fun q => absurd rfl q⟩⟩
        have hfv : uMm (blkW v a i) ((a + i) % 4096) = uMm v ((a + i) % 4096) := rfl
        rw [hfv]
        simp only [↓s_117_132, kd_uF, ln_uF, ai_uF, al_uF, ar_uF, zs_uF, fd_uF, kd_uA, ln_uA, fd_uA, al_uA, ar_uA, zs_uA, ai_uA, kd_uL, ln_uL, fd_uL, ai_uL, ar_uL, zs_uL, al_uL, kd_uR, ln_uR, fd_uR, ai_uR, al_uR, zs_uR, ar_uR, true_and, and_true, Option.toList_some, Option.toList_none, List.cons_append, List.nil_append, catS_nil, catS_int, catS_ref, catS_null, catS_long, cat_int, cat_ref, cat_null, Nat.reduceEqDiff, Nat.reduceLeDiff, Nat.reduceAdd, false_and, and_false, if_false, if_true, ite_true, ite_false, true_or, or_true, false_or, or_false, and_self, forall_const, true_implies, reduceCtorEq, clr_int, clr_ref, clr_null, clr_none, clr_long, va_rf_some, va_rf_none, k4, n4, clN (show 4096 * u + (v.1 1 * 128 + i) < 2147483648 by omega)]
        refine ⟨inR_nI (by omega) (by decide), ?_⟩
        rw [s_117_133]
        simp only [↓s_117_136, kd_uF, ln_uF, ai_uF, al_uF, ar_uF, zs_uF, fd_uF, kd_uA, ln_uA, fd_uA, al_uA, ar_uA, zs_uA, ai_uA, kd_uL, ln_uL, fd_uL, ai_uL, ar_uL, zs_uL, al_uL, kd_uR, ln_uR, fd_uR, ai_uR, al_uR, zs_uR, ar_uR, true_and, and_true, Option.toList_some, Option.toList_none, List.cons_append, List.nil_append, catS_nil, catS_int, catS_ref, catS_null, catS_long, cat_int, cat_ref, cat_null, Nat.reduceEqDiff, Nat.reduceLeDiff, Nat.reduceAdd, false_and, and_false, if_false, if_true, ite_true, ite_false, true_or, or_true, false_or, or_false, and_self, forall_const, true_implies, reduceCtorEq, clr_int, clr_ref, clr_null, clr_none, clr_long, va_rf_some, va_rf_none]
        rw [nI_1]
        have hy2 := hw0.Fil (a := v.1 1 * 128 + i) (v := uMm v ((a + i) % 4096)) (by omega)
        rw [blkW_step (by omega)] at hy2
        exact ih (i + 1) (by omega) _ hy2 (hF.two (by omega) (by omega))
    exact lp 128 0 rfl w1 (by rw [blkW_0]; exact hv) hF1
