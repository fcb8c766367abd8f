def FrRow (w w' : aw) (h : Nat) : Prop := (∀ q, kd w' q = kd w q) ∧ (∀ q, ln w' q = ln w q) ∧ zs w' = zs w ∧ (∀ g q, fd w' g q = fd w g q) ∧ (∀ q i, ai w' q i = ai w q i) ∧ (∀ q i, al w' q i = al w q i) ∧ ∀ q i, q ≠ h + 2 → ar w' q i = ar w q i
theorem FrRow.Fr {w w' : aw} {h : Nat} (c : FrRow w w' h) : Fr w w' h (h + 4) := ⟨c.1, c.2.1, c.2.2.1, fun q hq => ⟨fun g => c.2.2.2.1 g q, fun i => c.2.2.2.2.1 q i, fun i => c.2.2.2.2.2.1 q i, fun i => c.2.2.2.2.2.2 q i (by omega)⟩⟩
theorem FrRow.rf {w : aw} {h : Nat} : FrRow w w h := ⟨fun _ => rfl, fun _ => rfl, rfl, fun _ _ => rfl, fun _ _ => rfl, fun _ _ => rfl, fun _ _ _ => rfl⟩
theorem FrRow.R {w w' : aw} {h i : Nat} {x : Option Nat} (c : FrRow w w' h) : FrRow w (uR w' (h + 2) i x) h := ⟨c.1, c.2.1, c.2.2.1, c.2.2.2.1, c.2.2.2.2.1, c.2.2.2.2.2.1, fun q i hq => by rw [ar_uR, if_neg (fun e => hq e.1)]; exact c.2.2.2.2.2.2 q i hq⟩
theorem cRun_0 {h : Nat} : cRun h 0 = .null := rfl
theorem cRun_s {h k : Nat} : cRun h (k + 1) = .ref (ub h k) := rfl
theorem cRun_p {h k : Nat} (q : k ≠ 0) : cRun h k = .ref (ub h (k - 1)) := if_neg q
theorem sp_C_choose {d : Nat} {w : aw} {h s : Nat} {H : hs} {Q : wQ} (hC : CAt w h H s) (hI : HI H) (hQ : ∀ w', CAt w' h (h_disp H) s → Fr w w' h (h + 68) → Q none w') : wpD (d + 2) 18 [.ref h] w Q := by
  refine ⟨Nat.le_of_ble_eq_true rfl, ?_⟩
  show wp (d + 1) 18 Q 0 [some (.ref h), none, none] [] w 0 0
  have hC0 := hC
  have hlen := hI.len
  obtain ⟨⟨s0, s1, s2, s3, s4, s5, s6, s7, s8, s9, s10⟩, ⟨n0, n1, n2, n3, n4, n5, n6, n8, n9, n10⟩, b, ⟨r1, r2, r3⟩, i, u⟩ := hC
  have z0 : (0 : Int32).toNatClampNeg = 0 := rfl
  have in0 : inR (0 : Int32) 8 := inR_nI (n := 0) (by decide) (by decide)
  by_cases c6 : H.1 6 = 0
  · rw [c6, cRun_0] at n6
    cases er : H.2.1 with
    | nil =>
      have e : h_disp H = H := by unfold h_disp; rw [if_neg (fun q => q c6), er]
      rw [e] at hQ
      rw [er] at r1
      cases ea : ar w (h + 2) 0 with
      | none =>
        simp only [↓s_18_0, ↓s_18_1, ↓s_18_4, ↓s_18_5, ↓s_18_6, ↓s_18_6n, ↓s_18_7, ↓s_18_8, ↓s_18_11, ↓s_18_11n, ↓s_18_14, ↓s_18_15, ↓s_18_18, ↓s_18_21, ↓s_18_21n, ↓s_18_22, ↓s_18_22n, ↓s_18_25, ↓s_18_26, ↓s_18_27, ↓s_18_28, ↓s_18_31, ↓s_18_32, ↓s_18_33, ↓s_18_36, ↓s_18_37, kd_uF, ln_uF, ai_uF, al_uF, ar_uF, zs_uF, fd_uF, kd_uA, ln_uA, fd_uA, al_uA, ar_uA, zs_uA, ai_uA, kd_uL, ln_uL, fd_uL, ai_uL, ar_uL, zs_uL, al_uL, kd_uR, ln_uR, fd_uR, ai_uR, al_uR, zs_uR, ar_uR, true_and, and_true, Option.toList_some, Option.toList_none, List.cons_append, List.nil_append, catS_nil, catS_int, catS_ref, catS_null, catS_long, cat_int, cat_ref, cat_null, Nat.reduceEqDiff, Nat.reduceLeDiff, Nat.reduceAdd, false_and, and_false, if_false, if_true, ite_true, ite_false, true_or, or_true, false_or, or_false, and_self, forall_const, true_implies, reduceCtorEq, clr_int, clr_ref, clr_null, clr_none, clr_long, va_rf_some, va_rf_none, s0, s2, s5, s8, n6, r1, z0, ea]
        exact ⟨in0, fun _ => hQ w hC0 Fr.rf, fun q => absurd (by decide) q⟩
      | some x =>
        simp only [↓s_18_0, ↓s_18_1, ↓s_18_4, ↓s_18_5, ↓s_18_6, ↓s_18_6n, ↓s_18_7, ↓s_18_8, ↓s_18_11, ↓s_18_11n, ↓s_18_14, ↓s_18_15, ↓s_18_18, ↓s_18_21, ↓s_18_21n, ↓s_18_22, ↓s_18_22n, ↓s_18_25, ↓s_18_26, ↓s_18_27, ↓s_18_28, ↓s_18_31, ↓s_18_32, ↓s_18_33, ↓s_18_36, ↓s_18_37, kd_uF, ln_uF, ai_uF, al_uF, ar_uF, zs_uF, fd_uF, kd_uA, ln_uA, fd_uA, al_uA, ar_uA, zs_uA, ai_uA, kd_uL, ln_uL, fd_uL, ai_uL, ar_uL, zs_uL, al_uL, kd_uR, ln_uR, fd_uR, ai_uR, al_uR, zs_uR, ar_uR, true_and, and_true, Option.toList_some, Option.toList_none, List.cons_append, List.nil_append, catS_nil, catS_int, catS_ref, catS_null, catS_long, cat_int, cat_ref, cat_null, Nat.reduceEqDiff, Nat.reduceLeDiff, Nat.reduceAdd, false_and, and_false, if_false, if_true, ite_true, ite_false, true_or, or_true, false_or, or_false, and_self, forall_const, true_implies, reduceCtorEq, clr_int, clr_ref, clr_null, clr_none, clr_long, va_rf_some, va_rf_none, s0, s2, s5, s8, n6, r1, z0, ea]
        exact ⟨in0, fun _ => hQ w hC0 Fr.rf, fun q => absurd (by decide) q⟩
    | cons v r =>
      rw [er] at r1 r2
      have hv : v < H.1 0 := (hI.2.2.2.2.2.2.2.2.2.1 v (by rw [er]; exact List.mem_cons_self)).1
      have h8 := hI.1
      have h0 := (hI.2.2.2.2.2.2.2.1.2 (by omega))
      have hl : r.length + 1 ≤ 8 := by rw [er] at hlen; exact hlen
      have ea : ar w (h + 2) 0 = some (ub h v) := r2 0 (Nat.succ_pos _)
      have ne : ¬ h = ub h v := by unfold ub; omega
      have hlr : (v :: r).length = r.length + 1 := rfl
      rw [hlr] at r1
      -- behind the loop
      have j67 : ∀ w1, FrRow (uF w 70 h (.int (nI r.length))) w1 h → (∀ j, ar w1 (h + 2) j = if j + 1 < 8 then ar w (h + 2) (j + 1) else ar w (h + 2) j) → wp (d + 1) 18 Q 67 [some (.ref h), some (.ref (ub h v)), some (.int (nI 8))] [] w1 0 0 := by
        intro w1 f1 a1
        have ku := (u v (by omega)).1.1
        have k1 := f1.1
        have g1 := f1.2.2.2.1
        have s01 : kd w1 h = 2 := (k1 h).trans s0
        have ku1 : kd w1 (ub h v) = 7 := (k1 _).trans ku
        have n21 : fd w1 67 h = .int (nI (H.1 2)) := (g1 _ _).trans n2
        have f7 : fd w1 398 (ub h v) = .int (nI ((H.2.2 v).1 7)) := by
          rw [g1, fd_uF, if_neg (fun q => ne q.2.symm)]
          exact (u v (by omega)).1.2.2.2.2.2.2.2.2.2.2.2.2.2.2.1
        obtain ⟨K, hK⟩ : ∃ K, K = hU (hSet (hSet (hRow H r) 6 (v + 1)) 7 (H.1 2)) v (uS (H.2.2 v) 3 2) := ⟨_, rfl⟩
        have f : ∀ j, K.1 j = if j = 7 then H.1 2 else if j = 6 then v + 1 else H.1 j := fun j => by rw [hK]; rfl
        have eK1 : K.2.1 = r := by rw [hK]; rfl
        have eK2 : K.2.2 = va_up H.2.2 v (uS (H.2.2 v) 3 2) := by rw [hK]; rfl
        have eT : Fr w (uF w1 73 h (.ref (ub h v))) h (h + 4) := ((Fr.rf.F (by omega) (by omega)).tr f1.Fr).F (by omega) (by omega)
        have hCK : CAt (uF (uF (uF w1 394 (ub h v) (.int 2)) 396 (ub h v) (.int (nI (H.1 2)))) 73 h (.ref (ub h v))) h K s := by
          have eF : ∀ g, g ≠ 73 → g ≠ 70 → fd (uF (uF (uF w1 394 (ub h v) (.int 2)) 396 (ub h v) (.int (nI (H.1 2)))) 73 h (.ref (ub h v))) g h = fd w g h := fun g q1 q2 => by
            rw [fd_uF, if_neg (fun q => q1 q.1), fd_uF, if_neg (fun q => ne q.2), fd_uF, if_neg (fun q => ne q.2), g1, fd_uF, if_neg (fun q => q2 q.1)]
          have eR : ∀ q j, q ≠ h + 2 → ar (uF (uF (uF w1 394 (ub h v) (.int 2)) 396 (ub h v) (.int (nI (H.1 2)))) 73 h (.ref (ub h v))) q j = ar w q j := fun q j hq => by
            rw [ar_uF, ar_uF, ar_uF, f1.2.2.2.2.2.2 q j hq, ar_uF]
          have eR2 : ∀ j, ar (uF (uF (uF w1 394 (ub h v) (.int 2)) 396 (ub h v) (.int (nI (H.1 2)))) 73 h (.ref (ub h v))) (h + 2) j = ar w1 (h + 2) j := fun j => by
            rw [ar_uF, ar_uF, ar_uF]
          have eK : ∀ q, kd (uF (uF (uF w1 394 (ub h v) (.int 2)) 396 (ub h v) (.int (nI (H.1 2)))) 73 h (.ref (ub h v))) q = kd w q := fun q => by rw [kd_uF, kd_uF, kd_uF, k1, kd_uF]
          have eL : ∀ q, ln (uF (uF (uF w1 394 (ub h v) (.int 2)) 396 (ub h v) (.int (nI (H.1 2)))) 73 h (.ref (ub h v))) q = ln w q := fun q => by rw [ln_uF, ln_uF, ln_uF, f1.2.1, ln_uF]
          refine ⟨⟨by rw [eK]; exact s0, by rw [eF _ (by decide) (by decide)]; exact s1, by rw [eF _ (by decide) (by decide)]; exact s2, by rw [eF _ (by decide) (by decide)]; exact s3, by rw [eK]; exact s4, by rw [eK]; exact s5, by rw [eK]; exact s6, by rw [eL]; exact s7, by rw [eL]; exact s8, by rw [eL]; exact s9, fun k hk => by rw [eR _ _ (by omega)]; exact s10 k hk⟩, ⟨by rw [f, if_neg (by decide), if_neg (by decide), eF _ (by decide) (by decide)]; exact n0, by rw [f, if_neg (by decide), if_neg (by decide), eF _ (by decide) (by decide)]; exact n1, by rw [f, if_neg (by decide), if_neg (by decide), eF _ (by decide) (by decide)]; exact n2, by rw [f, if_neg (by decide), if_neg (by decide), eF _ (by decide) (by decide)]; exact n3, by rw [f, if_neg (by decide), if_neg (by decide), eF _ (by decide) (by decide)]; exact n4, by rw [f, if_neg (by decide), if_neg (by decide), eF _ (by decide) (by decide)]; exact n5, by rw [f, if_neg (by decide), if_pos rfl, fd_uF, if_pos ⟨rfl, rfl⟩, cRun_s], by rw [f, if_neg (by decide), if_neg (by decide), eF _ (by decide) (by decide)]; exact n8, by rw [f, if_neg (by decide), if_neg (by decide), eF _ (by decide) (by decide)]; exact n9, by rw [f, if_neg (by decide), if_neg (by decide), eF _ (by decide) (by decide)]; exact n10⟩, by rw [eF _ (by decide) (by decide)]; exact b, ⟨?_, fun k hk => ?_, fun k q hq => ?_⟩, fun t t1 t2 => ?_, ?_⟩
          · rw [eK1, fd_uF, if_neg (fun q => by cases q.1), fd_uF, if_neg (fun q => ne q.2), fd_uF, if_neg (fun q => ne q.2), g1, fd_uF, if_pos ⟨rfl, rfl⟩]
          · rw [eK1] at hk ⊢
            rw [eR2, a1, if_pos (by omega)]
            exact r2 (k + 1) (by rw [hlr]; omega)
          · rw [eK]
            rw [eR2, a1] at hq
            split at hq
            · exact r3 _ _ hq
            · exact r3 _ _ hq
          · rw [f, if_neg (by decide), if_neg (by decide), eK2, eR _ _ (by omega)]
            have e7 : ∀ k, (va_up H.2.2 v (uS (H.2.2 v) 3 2) k).1 7 = (H.2.2 k).1 7 := fun k => by
              unfold va_up; split
              · rename_i c; rw [c]; exact uS_ne (by decide)
              · rfl
            rcases i t t1 t2 with ⟨a, c1, c2, c3, c4⟩ | ⟨c1, c2⟩
            · exact Or.inl ⟨a, c1, c2, (e7 a).trans c3, fun k hk' => c4 k ((e7 k).symm.trans hk')⟩
            · exact Or.inr ⟨c1, fun k hk' => c2 k ((e7 k).symm.trans hk')⟩
          · rw [f, f, if_neg (by decide), if_pos rfl, if_pos rfl, eK2]
            have u1 : CUs w1 h H.2.2 (H.1 6) (H.1 7) := (u.top (Fr.rf.F (by omega) (by omega) : Fr w (uF w 70 h (.int (nI r.length))) h (h + 4))).top f1.Fr
            have u2 : CUs (uF (uF w1 394 (ub h v) (.int 2)) 396 (ub h v) (.int (nI (H.1 2)))) h (va_up H.2.2 v (uS (H.2.2 v) 3 2)) (v + 1) (H.1 2) := by
              refine u1.one ((Fr.rf.F (by omega) (by omega)).F (by omega) (by omega)) (UAt.TR (u1 v (by omega)).1.S3) ?_ (fun k hk => ?_)
              · rw [fd_uF, if_pos ⟨rfl, rfl⟩, if_pos rfl]
              · rw [if_neg (by omega), if_neg (by omega)]
            exact u2.F
        have fW : Fr w (uF (uF (uF w1 394 (ub h v) (.int 2)) 396 (ub h v) (.int (nI (H.1 2)))) 73 h (.ref (ub h v))) h (h + 68) := (((((Fr.rf.F (by omega) (by omega)).tr f1.Fr).wide (Nat.le_refl _) (by omega)).F (by unfold ub; omega) (by unfold ub; omega)).F (by unfold ub; omega) (by unfold ub; omega)).F (by omega) (by omega)
        simp only [↓s_18_67, ↓s_18_67n, ↓s_18_68, ↓s_18_69, ↓s_18_72, ↓s_18_72n, ↓s_18_73, ↓s_18_74, ↓s_18_77, ↓s_18_80, ↓s_18_81, ↓s_18_81n, ↓s_18_82, ↓s_18_82n, ↓s_18_85, ↓s_18_85n, ↓s_18_86, ↓s_18_89, ↓s_18_92, ↓s_18_93, ↓s_18_93n, ↓s_18_94, ↓s_18_97, kd_uF, ln_uF, ai_uF, al_uF, ar_uF, zs_uF, fd_uF, kd_uA, ln_uA, fd_uA, al_uA, ar_uA, zs_uA, ai_uA, kd_uL, ln_uL, fd_uL, ai_uL, ar_uL, zs_uL, al_uL, kd_uR, ln_uR, fd_uR, ai_uR, al_uR, zs_uR, ar_uR, true_and, and_true, Option.toList_some, Option.toList_none, List.cons_append, List.nil_append, catS_nil, catS_int, catS_ref, catS_null, catS_long, cat_int, cat_ref, cat_null, Nat.reduceEqDiff, Nat.reduceLeDiff, Nat.reduceAdd, false_and, and_false, if_false, if_true, ite_true, ite_false, true_or, or_true, false_or, or_false, and_self, forall_const, true_implies, reduceCtorEq, clr_int, clr_ref, clr_null, clr_none, clr_long, va_rf_some, va_rf_none, s01, ku1, n21, f7, eq_false ne, false_and, and_false, if_false]
        have hB7 := (hi_ub hI v).2.2.2.2.2.2.2.1
        rw [show (0 : Int32) = nI 0 from rfl, nI_eq (by omega) (by decide)]
        refine ⟨fun q => ?_, fun q => ?_⟩
        · have e : h_disp H = K := by unfold h_disp; rw [if_neg (fun q => q c6), er]; show (if _ then _ else _) = K; rw [if_pos (by omega), hK]
          rw [e] at hQ
          exact hQ _ hCK fW
        · have e : h_disp H = h_swap K v := by unfold h_disp; rw [if_neg (fun q => q c6), er]; show (if _ then _ else _) = _; rw [if_neg (by omega), hK]
          rw [e] at hQ
          have kf : ∀ j, j ≠ 7 → j ≠ 6 → K.1 j = H.1 j := fun j q1 q2 => by rw [f, if_neg q1, if_neg q2]
          have k0 := kf 0 (by decide) (by decide)
          have k1' := kf 1 (by decide) (by decide)
          have k8 := kf 8 (by decide) (by decide)
          have k9 := kf 9 (by decide) (by decide)
          have hI8 := hI.2.2.2.2.2.2.1
          have hI1 := hI.2.1
          refine sp_C_swap hCK (by omega) (by omega) ?_ (by omega) (by omega) (by omega) (by omega) (fun w2 e1 e2 => ?_)
          · rw [eK2]
            unfold va_up
            rw [if_pos rfl, uS_ne (by decide)]; omega
          · simp only [↓s_18_97, kd_uF, ln_uF, ai_uF, al_uF, ar_uF, zs_uF, fd_uF, kd_uA, ln_uA, fd_uA, al_uA, ar_uA, zs_uA, ai_uA, kd_uL, ln_uL, fd_uL, ai_uL, ar_uL, zs_uL, al_uL, kd_uR, ln_uR, fd_uR, ai_uR, al_uR, zs_uR, ar_uR, true_and, and_true, Option.toList_some, Option.toList_none, List.cons_append, List.nil_append, catS_nil, catS_int, catS_ref, catS_null, catS_long, cat_int, cat_ref, cat_null, Nat.reduceEqDiff, Nat.reduceLeDiff, Nat.reduceAdd, false_and, and_false, if_false, if_true, ite_true, ite_false, true_or, or_true, false_or, or_false, and_self, forall_const, true_implies, reduceCtorEq, clr_int, clr_ref, clr_null, clr_none, clr_long, va_rf_some, va_rf_none]
            exact hQ w2 e1 (fW.tr e2)
      have lp : ∀ (n k : Nat), k + n = 8 → 1 ≤ k → ∀ w1, FrRow (uF w 70 h (.int (nI r.length))) w1 h → (∀ j, ar w1 (h + 2) j = if j + 1 < k then ar w (h + 2) (j + 1) else ar w (h + 2) j) → wp (d + 1) 18 Q 38 [some (.ref h), some (.ref (ub h v)), some (.int (nI k))] [] w1 0 0 := by
        intro n
        induction n with
        | zero =>
          intro k hk hk1 w1 f1 a1
          have e : k = 8 := by omega
          subst e
          have s01 : kd w1 h = 2 := (f1.1 h).trans s0
          have s21 : fd w1 69 h = .ref (h + 2) := (f1.2.2.2.1 _ _).trans s2
          have s51 : kd w1 (h + 2) = 24 := (f1.1 _).trans s5
          have s81 : ln w1 (h + 2) = 8 := (f1.2.1 _).trans s8
          rw [s_18_38]
          simp only [↓s_18_39, ↓s_18_40, ↓s_18_43, ↓s_18_44, kd_uF, ln_uF, ai_uF, al_uF, ar_uF, zs_uF, fd_uF, kd_uA, ln_uA, fd_uA, al_uA, ar_uA, zs_uA, ai_uA, kd_uL, ln_uL, fd_uL, ai_uL, ar_uL, zs_uL, al_uL, kd_uR, ln_uR, fd_uR, ai_uR, al_uR, zs_uR, ar_uR, true_and, and_true, Option.toList_some, Option.toList_none, List.cons_append, List.nil_append, catS_nil, catS_int, catS_ref, catS_null, catS_long, cat_int, cat_ref, cat_null, Nat.reduceEqDiff, Nat.reduceLeDiff, Nat.reduceAdd, false_and, and_false, if_false, if_true, ite_true, ite_false, true_or, or_true, false_or, or_false, and_self, forall_const, true_implies, reduceCtorEq, clr_int, clr_ref, clr_null, clr_none, clr_long, va_rf_some, va_rf_none, s01, s21, s51, s81]
          exact ⟨by decide, fun _ => j67 w1 f1 a1, fun q => absurd (nI_le (Nat.le_refl _) (by decide)) q⟩
        | succ n ih =>
          intro k hk hk1 w1 f1 a1
          have s01 : kd w1 h = 2 := (f1.1 h).trans s0
          have s21 : fd w1 69 h = .ref (h + 2) := (f1.2.2.2.1 _ _).trans s2
          have s51 : kd w1 (h + 2) = 24 := (f1.1 _).trans s5
          have s81 : ln w1 (h + 2) = 8 := (f1.2.1 _).trans s8
          have ck : (nI k).toNatClampNeg = k := clN (by omega)
          have ck1 : (nI k - 1).toNatClampNeg = k - 1 := by rw [nI_pred' hk1]; exact clN (by omega)
          have inp : inR (nI k - 1) 8 := by rw [nI_pred' hk1]; exact inR_nI (by omega) (by decide)
          have next : ∀ x, ar w (h + 2) k = x → ∀ j, ar (uR w1 (h + 2) (k - 1) x) (h + 2) j = if j + 1 < k + 1 then ar w (h + 2) (j + 1) else ar w (h + 2) j := by
            intro x hx j
            rw [ar_uR]
            by_cases c : j = k - 1
            · rw [if_pos ⟨rfl, c⟩, if_pos (by omega), ← hx, show j + 1 = k by omega]
            · rw [if_neg (fun q => c q.2), a1]
              by_cases c2 : j + 1 < k
              · rw [if_pos c2, if_pos (by omega)]
              · rw [if_neg c2, if_neg (by omega)]
          rw [s_18_38]
          cases ea2 : ar w (h + 2) k with
          | none =>
            have ea3 : ar w1 (h + 2) k = none := by rw [a1, if_neg (by omega)]; exact ea2
            simp only [↓s_18_39, ↓s_18_40, ↓s_18_43, ↓s_18_44, ↓s_18_47, ↓s_18_48, ↓s_18_51, ↓s_18_52, ↓s_18_53, ↓s_18_54, ↓s_18_55, ↓s_18_58, ↓s_18_59, ↓s_18_60, ↓s_18_60n, ↓s_18_61, ↓s_18_64, ↓s_18_67, ↓s_18_67n, ↓s_18_68, ↓s_18_69, ↓s_18_72, ↓s_18_72n, ↓s_18_73, ↓s_18_74, ↓s_18_77, ↓s_18_80, ↓s_18_81, ↓s_18_81n, ↓s_18_82, ↓s_18_82n, ↓s_18_85, ↓s_18_85n, ↓s_18_86, ↓s_18_89, ↓s_18_92, ↓s_18_93, ↓s_18_93n, ↓s_18_94, kd_uF, ln_uF, ai_uF, al_uF, ar_uF, zs_uF, fd_uF, kd_uA, ln_uA, fd_uA, al_uA, ar_uA, zs_uA, ai_uA, kd_uL, ln_uL, fd_uL, ai_uL, ar_uL, zs_uL, al_uL, kd_uR, ln_uR, fd_uR, ai_uR, al_uR, zs_uR, ar_uR, true_and, and_true, Option.toList_some, Option.toList_none, List.cons_append, List.nil_append, catS_nil, catS_int, catS_ref, catS_null, catS_long, cat_int, cat_ref, cat_null, Nat.reduceEqDiff, Nat.reduceLeDiff, Nat.reduceAdd, false_and, and_false, if_false, if_true, ite_true, ite_false, true_or, or_true, false_or, or_false, and_self, forall_const, true_implies, reduceCtorEq, clr_int, clr_ref, clr_null, clr_none, clr_long, va_rf_some, va_rf_none, s01, s21, s51, s81, ck, ck1, ea3]
            refine ⟨by decide, fun q => absurd q (nI_ge (show k < 8 by omega) (by decide)), fun _ => ⟨inR_nI (by omega) (by decide), inp, fun q e => e.elim, ?_⟩⟩
            rw [nI_1]
            exact ih (k + 1) (by omega) (by omega) _ f1.R (next none ea2)
          | some x =>
            have ea3 : ar w1 (h + 2) k = some x := by rw [a1, if_neg (by omega)]; exact ea2
            simp only [↓s_18_39, ↓s_18_40, ↓s_18_43, ↓s_18_44, ↓s_18_47, ↓s_18_48, ↓s_18_51, ↓s_18_52, ↓s_18_53, ↓s_18_54, ↓s_18_55, ↓s_18_58, ↓s_18_59, ↓s_18_60, ↓s_18_60n, ↓s_18_61, ↓s_18_64, ↓s_18_67, ↓s_18_67n, ↓s_18_68, ↓s_18_69, ↓s_18_72, ↓s_18_72n, ↓s_18_73, ↓s_18_74, ↓s_18_77, ↓s_18_80, ↓s_18_81, ↓s_18_81n, ↓s_18_82, ↓s_18_82n, ↓s_18_85, ↓s_18_85n, ↓s_18_86, ↓s_18_89, ↓s_18_92, ↓s_18_93, ↓s_18_93n, ↓s_18_94, kd_uF, ln_uF, ai_uF, al_uF, ar_uF, zs_uF, fd_uF, kd_uA, ln_uA, fd_uA, al_uA, ar_uA, zs_uA, ai_uA, kd_uL, ln_uL, fd_uL, ai_uL, ar_uL, zs_uL, al_uL, kd_uR, ln_uR, fd_uR, ai_uR, al_uR, zs_uR, ar_uR, true_and, and_true, Option.toList_some, Option.toList_none, List.cons_append, List.nil_append, catS_nil, catS_int, catS_ref, catS_null, catS_long, cat_int, cat_ref, cat_null, Nat.reduceEqDiff, Nat.reduceLeDiff, Nat.reduceAdd, false_and, and_false, if_false, if_true, ite_true, ite_false, true_or, or_true, false_or, or_false, and_self, forall_const, true_implies, reduceCtorEq, clr_int, clr_ref, clr_null, clr_none, clr_long, va_rf_some, va_rf_none, s01, s21, s51, s81, ck, ck1, ea3]
            refine ⟨by decide, fun q => absurd q (nI_ge (show k < 8 by omega) (by decide)), fun _ => ⟨inR_nI (by omega) (by decide), inp, fun q e => by cases e; rw [f1.1]; exact r3 _ _ ea2, ?_⟩⟩
            rw [nI_1]
            exact ih (k + 1) (by omega) (by omega) _ f1.R (next (some x) ea2)
      simp only [↓s_18_0, ↓s_18_1, ↓s_18_4, ↓s_18_5, ↓s_18_6, ↓s_18_6n, ↓s_18_7, ↓s_18_8, ↓s_18_11, ↓s_18_11n, ↓s_18_14, ↓s_18_15, ↓s_18_18, ↓s_18_21, ↓s_18_21n, ↓s_18_22, ↓s_18_22n, ↓s_18_25, ↓s_18_26, ↓s_18_27, ↓s_18_28, ↓s_18_31, ↓s_18_32, ↓s_18_33, ↓s_18_36, ↓s_18_37, kd_uF, ln_uF, ai_uF, al_uF, ar_uF, zs_uF, fd_uF, kd_uA, ln_uA, fd_uA, al_uA, ar_uA, zs_uA, ai_uA, kd_uL, ln_uL, fd_uL, ai_uL, ar_uL, zs_uL, al_uL, kd_uR, ln_uR, fd_uR, ai_uR, al_uR, zs_uR, ar_uR, true_and, and_true, Option.toList_some, Option.toList_none, List.cons_append, List.nil_append, catS_nil, catS_int, catS_ref, catS_null, catS_long, cat_int, cat_ref, cat_null, Nat.reduceEqDiff, Nat.reduceLeDiff, Nat.reduceAdd, false_and, and_false, if_false, if_true, ite_true, ite_false, true_or, or_true, false_or, or_false, and_self, forall_const, true_implies, reduceCtorEq, clr_int, clr_ref, clr_null, clr_none, clr_long, va_rf_some, va_rf_none, s0, s2, s5, s8, n6, r1, z0, ea]
      rw [nI_pred]
      refine ⟨in0, fun q => absurd q (nI_nle (by omega) (by omega)), fun _ => ?_⟩
      exact lp 7 1 (by omega) (by omega) _ FrRow.rf (fun j => by rw [if_neg (by omega), ar_uF])
  · have e : h_disp H = H := by unfold h_disp; rw [if_pos c6]
    rw [e] at hQ
    rw [cRun_p c6] at n6
    cases ea : ar w (h + 2) 0 with
    | none =>
      simp only [↓s_18_0, ↓s_18_1, ↓s_18_4, ↓s_18_5, ↓s_18_6, ↓s_18_6n, ↓s_18_7, ↓s_18_8, ↓s_18_11, ↓s_18_11n, ↓s_18_14, ↓s_18_15, ↓s_18_18, ↓s_18_21, ↓s_18_21n, ↓s_18_22, ↓s_18_22n, ↓s_18_25, ↓s_18_26, ↓s_18_27, ↓s_18_28, ↓s_18_31, ↓s_18_32, ↓s_18_33, ↓s_18_36, ↓s_18_37, kd_uF, ln_uF, ai_uF, al_uF, ar_uF, zs_uF, fd_uF, kd_uA, ln_uA, fd_uA, al_uA, ar_uA, zs_uA, ai_uA, kd_uL, ln_uL, fd_uL, ai_uL, ar_uL, zs_uL, al_uL, kd_uR, ln_uR, fd_uR, ai_uR, al_uR, zs_uR, ar_uR, true_and, and_true, Option.toList_some, Option.toList_none, List.cons_append, List.nil_append, catS_nil, catS_int, catS_ref, catS_null, catS_long, cat_int, cat_ref, cat_null, Nat.reduceEqDiff, Nat.reduceLeDiff, Nat.reduceAdd, false_and, and_false, if_false, if_true, ite_true, ite_false, true_or, or_true, false_or, or_false, and_self, forall_const, true_implies, reduceCtorEq, clr_int, clr_ref, clr_null, clr_none, clr_long, va_rf_some, va_rf_none, s0, s2, s5, s8, n6, r1, z0, ea]
      exact ⟨in0, hQ w hC0 Fr.rf⟩
    | some x =>
      simp only [↓s_18_0, ↓s_18_1, ↓s_18_4, ↓s_18_5, ↓s_18_6, ↓s_18_6n, ↓s_18_7, ↓s_18_8, ↓s_18_11, ↓s_18_11n, ↓s_18_14, ↓s_18_15, ↓s_18_18, ↓s_18_21, ↓s_18_21n, ↓s_18_22, ↓s_18_22n, ↓s_18_25, ↓s_18_26, ↓s_18_27, ↓s_18_28, ↓s_18_31, ↓s_18_32, ↓s_18_33, ↓s_18_36, ↓s_18_37, kd_uF, ln_uF, ai_uF, al_uF, ar_uF, zs_uF, fd_uF, kd_uA, ln_uA, fd_uA, al_uA, ar_uA, zs_uA, ai_uA, kd_uL, ln_uL, fd_uL, ai_uL, ar_uL, zs_uL, al_uL, kd_uR, ln_uR, fd_uR, ai_uR, al_uR, zs_uR, ar_uR, true_and, and_true, Option.toList_some, Option.toList_none, List.cons_append, List.nil_append, catS_nil, catS_int, catS_ref, catS_null, catS_long, cat_int, cat_ref, cat_null, Nat.reduceEqDiff, Nat.reduceLeDiff, Nat.reduceAdd, false_and, and_false, if_false, if_true, ite_true, ite_false, true_or, or_true, false_or, or_false, and_self, forall_const, true_implies, reduceCtorEq, clr_int, clr_ref, clr_null, clr_none, clr_long, va_rf_some, va_rf_none, s0, s2, s5, s8, n6, r1, z0, ea]
      exact ⟨in0, hQ w hC0 Fr.rf⟩
