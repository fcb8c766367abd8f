theorem scan_P {σ : Type} {T : Nat → Nat} {n : Nat} {f : Nat → Nat → σ → Nat × σ} {P : Nat → Prop} (hP0 : P 0) (hf : ∀ a b s, P (f a b s).1) : ∀ (k p from_ line : Nat) (rem : Bool) (s : σ), P (scan T n f k p from_ line rem s).1 := by
  intro k
  induction k with
  | zero => intro p from_ line rem s; exact hP0
  | succ k ih =>
    intro p from_ line rem s
    rw [scan_1]
    split
    · split
      · exact hf _ _ _
      · split
        · exact ih _ _ _ _ _
        · exact ih _ _ _ _ _
    · split
      · exact ih _ _ _ _ _
      · exact ih _ _ _ _ _
theorem PI_S0 : PI S0 := by
  refine ⟨(by decide : 128 < 4096), List.nodup_nil, fun a => ?_, fun a x h => (by cases h), fun g => ⟨List.nodup_nil, (by decide : 0 ≤ 128)⟩, fun g i _ h => absurd h (Nat.not_lt_zero _)⟩
  exact ⟨fun h => (by cases h), fun h => (by cases h)⟩
theorem RB_nil {w : aw} {m : Nat} (h1 : fd w 548 m = .int (nI 35)) (h : KN w m) : RB w m [] := by
  refine ⟨h1, h.1, fun k x hx => ?_⟩
  rw [List.append_nil] at hx
  have hk : k < 35 := (List.getElem?_eq_some_iff.mp hx).1
  have := h.2 k hk
  rw [List.getD_eq_getElem?_getD, hx] at this
  exact this
theorem KN.K {w w' : aw} {m : Nat} (h : KN w m) (hF : FrK w w' m) : KN w' m :=
  ⟨(hF.1.2.1 _ rfl).trans h.1, fun k hk => ⟨(hF.2 k hk).1.trans (h.2 k hk).1, (hF.2 k hk).2.trans (h.2 k hk).2⟩⟩
def memP (x : us) (P : Nat → Option Nat) (a : Nat) : us := (x.1, (fun b => if b < a then (P b).getD (uMm x b) else uMm x b), x.2.2)
theorem memP_0 {x : us} {P : Nat → Option Nat} : memP x P 0 = x := by
  unfold memP
  have : (fun b => if b < 0 then (P b).getD (uMm x b) else uMm x b) = x.2.1 := by
    funext b; rw [if_neg (Nat.not_lt_zero _)]
  rw [this]
theorem memP_end {x : us} {P : Nat → Option Nat} (h : ∀ a y, P a = some y → a < 4096) : memP x P 4096 = (x.1, (fun a => (P a).getD (uMm x a)), x.2.2) := by
  unfold memP
  have : (fun b => if b < 4096 then (P b).getD (uMm x b) else uMm x b) = (fun a => (P a).getD (uMm x a)) := by
    funext b
    split
    · rfl
    · rename_i c
      cases e : P b with
      | none => rfl
      | some y => exact absurd (h b y e) c
  rw [this]
theorem memP_none {x : us} {P : Nat → Option Nat} {a : Nat} (h : P a = none) : memP x P (a + 1) = memP x P a := by
  unfold memP
  have : (fun b => if b < a + 1 then (P b).getD (uMm x b) else uMm x b) = (fun b => if b < a then (P b).getD (uMm x b) else uMm x b) := by
    funext b
    by_cases c : b = a
    · subst c; rw [if_pos (Nat.lt_succ_self _), if_neg (Nat.lt_irrefl _), h]; rfl
    · by_cases c2 : b < a
      · rw [if_pos (by omega)]; exact (if_pos c2).symm
      · rw [if_neg (by omega)]; exact (if_neg c2).symm
  rw [this]
theorem memP_some {x : us} {P : Nat → Option Nat} {a v : Nat} (h : P a = some v) : memP x P (a + 1) = uMem (memP x P a) a v := by
  unfold memP uMem
  have : (fun b => if b < a + 1 then (P b).getD (uMm x b) else uMm x b) = va_up (fun b => if b < a then (P b).getD (uMm x b) else uMm x b) a v := by
    funext b
    unfold va_up
    by_cases c : b = a
    · subst c; rw [if_pos (Nat.lt_succ_self _), if_pos rfl, h]; rfl
    · rw [if_neg c]
      by_cases c2 : b < a
      · rw [if_pos (by omega)]; exact (if_pos c2).symm
      · rw [if_neg (by omega)]; exact (if_neg c2).symm
  rw [this]
theorem UB.memP {x : us} {P : Nat → Option Nat} {a : Nat} (h : UB x) (hP : ∀ a y, P a = some y → y < 4096) : UB (memP x P a) := by
  obtain ⟨b0, b1, b2, b3, b4, b5, b6, b7, b8, b9, b10, b11, b12, b13, b14⟩ := h
  refine ⟨b0, b1, b2, b3, b4, b5, b6, b7, fun i => ?_, b9, b10, b11, b12, b13, b14⟩
  show (if i < a then (P i).getD (uMm x i) else uMm x i) < 4096
  split
  · cases e : P i with
    | none => exact b8 i
    | some y => exact hP i y e
  · exact b8 i
theorem hU_same {H : hs} {k : Nat} : hU H k (H.2.2 k) = H := by
  unfold hU
  have : va_up H.2.2 k (H.2.2 k) = H.2.2 := by
    funext j
    unfold va_up
    split
    · rename_i e; rw [e]
    · rfl
  rw [this]
theorem oW_neg {o : Option Nat} (h : ∀ y, o = some y → y < 4096) : (oW o < 0) ↔ o = none := by
  cases o with
  | none => exact ⟨fun _ => rfl, fun _ => (by decide : (-1 : Int32) < 0)⟩
  | some y =>
    have := h y rfl
    refine ⟨fun q => absurd q ?_, fun q => by cases q⟩
    show ¬ nI y < 0
    exact nI_pos (by omega)
theorem sp_R_asm {d : Nat} {w : aw} {m : Nat} {u : Int32} {H : hs} {t : tp} {Q : wQ} (hA : RAt w m H) (hI : HI H) (hT : RT w m t) (hTI : TI t) (h : ∀ w', RAt w' m (c_asm H t u).2.1 → RT w' m (c_asm H t u).2.2 → Fr w w' m (m + 25) → Q (some (.int (c_asm H t u).1)) w') : wpD (d + 11) 173 [.ref m, .int u] w Q := by
  refine ⟨Nat.le_of_ble_eq_true rfl, ?_⟩
  show wp (d + 10) 173 Q 0 [some (.ref m), some (.int u), none, none] [] w 0 0
  have rk := hA.1.1
  have h8 := hI.1
  have hB := hI.2.2.2.2.2.2.2.2.2.2.2.2
  obtain ⟨T, n, fw0, fl0⟩ := t
  have hn : n ≤ 8000 := hTI.1
  have hTb : ∀ k, T k < 256 := hTI.2
  simp only [↓s_173_0, ↓s_173_1, ↓s_173_2, kd_uF, ln_uF, ai_uF, al_uF, ar_uF, zs_uF, fd_uF, kd_uA, ln_uA, fd_uA, al_uA, ar_uA, zs_uA, ai_uA, kd_uL, ln_uL, fd_uL, ai_uL, ar_uL, zs_uL, al_uL, kd_uR, ln_uR, fd_uR, ai_uR, al_uR, zs_uR, ar_uR, true_and, and_true, Option.toList_some, Option.toList_none, List.cons_append, List.nil_append, catS_nil, catS_int, catS_ref, catS_null, catS_long, cat_int, cat_ref, cat_null, Nat.reduceEqDiff, Nat.reduceLeDiff, Nat.reduceAdd, false_and, and_false, if_false, if_true, ite_true, ite_false, true_or, or_true, false_or, or_false, and_self, forall_const, true_implies, reduceCtorEq, clr_int, clr_ref, clr_null, clr_none, clr_long, va_rf_some, va_rf_none, rk]
  refine sp_R_isUser hA h8 (fun k e1 e2 e3 => ?_) (fun e1 => ?_)
  case' refine_2 =>
    simp only [↓s_173_5, ↓s_173_8, ↓s_173_9, ↓s_173_10, ↓s_173_11, ↓s_173_12, ↓s_173_15, ↓s_173_16, ↓s_173_17, ↓s_173_20, ↓s_173_21, ↓s_173_22, ↓s_173_25, ↓s_173_28, ↓s_173_29, ↓s_173_30, ↓s_173_33, ↓s_173_34, kd_uF, ln_uF, ai_uF, al_uF, ar_uF, zs_uF, fd_uF, kd_uA, ln_uA, fd_uA, al_uA, ar_uA, zs_uA, ai_uA, kd_uL, ln_uL, fd_uL, ai_uL, ar_uL, zs_uL, al_uL, kd_uR, ln_uR, fd_uR, ai_uR, al_uR, zs_uR, ar_uR, true_and, and_true, Option.toList_some, Option.toList_none, List.cons_append, List.nil_append, catS_nil, catS_int, catS_ref, catS_null, catS_long, cat_int, cat_ref, cat_null, Nat.reduceEqDiff, Nat.reduceLeDiff, Nat.reduceAdd, false_and, and_false, if_false, if_true, ite_true, ite_false, true_or, or_true, false_or, or_false, and_self, forall_const, true_implies, reduceCtorEq, clr_int, clr_ref, clr_null, clr_none, clr_long, va_rf_some, va_rf_none]
    refine ⟨fun q => absurd trivial q, ?_⟩
    have hc : c_asm H (T, n, fw0, fl0) u = (-1, H, (T, n, fw0, fl0)) := by unfold c_asm; rw [e1]
    rw [hc] at h
    exact h w hA hT Fr.rf
  have kn0 := hT.2.2.2.2.1
  have hk8 : k < 8 := by omega
  simp only [↓s_173_5, ↓s_173_8, ↓s_173_9, ↓s_173_10, ↓s_173_11, ↓s_173_12, ↓s_173_15, ↓s_173_16, ↓s_173_17, ↓s_173_20, ↓s_173_21, ↓s_173_22, ↓s_173_25, ↓s_173_28, ↓s_173_29, ↓s_173_30, ↓s_173_33, ↓s_173_34, kd_uF, ln_uF, ai_uF, al_uF, ar_uF, zs_uF, fd_uF, kd_uA, ln_uA, fd_uA, al_uA, ar_uA, zs_uA, ai_uA, kd_uL, ln_uL, fd_uL, ai_uL, ar_uL, zs_uL, al_uL, kd_uR, ln_uR, fd_uR, ai_uR, al_uR, zs_uR, ar_uR, true_and, and_true, Option.toList_some, Option.toList_none, List.cons_append, List.nil_append, catS_nil, catS_int, catS_ref, catS_null, catS_long, cat_int, cat_ref, cat_null, Nat.reduceEqDiff, Nat.reduceLeDiff, Nat.reduceAdd, false_and, and_false, if_false, if_true, ite_true, ite_false, true_or, or_true, false_or, or_false, and_self, forall_const, true_implies, reduceCtorEq, clr_int, clr_ref, clr_null, clr_none, clr_long, va_rf_some, va_rf_none, rk, kn0]
  refine ⟨fun _ => ?_, fun q => absurd q (by decide)⟩
  obtain ⟨w1, hw1⟩ : ∃ w1, w1 = uF (uF (uF (uF w 544 m (.int 0)) 545 m (.int 0)) 548 m (.int (nI 35))) 553 m (.int 0) := ⟨_, rfl⟩
  rw [← hw1]
  have F1 : FrK w w1 m := by rw [hw1]; exact (((FrK.rf.F (g := 544) rfl).F (g := 545) rfl).F (g := 548) rfl).F (g := 553) rfl
  have v1 : fd w1 544 m = .int (nI 0) := by rw [hw1, fd_uF, if_neg (fun q => absurd q.1 (by decide)), fd_uF, if_neg (fun q => absurd q.1 (by decide)), fd_uF, if_neg (fun q => absurd q.1 (by decide)), fd_uF, if_pos ⟨rfl, rfl⟩]; rfl
  have v3 : fd w1 548 m = .int (nI 35) := by rw [hw1, fd_uF, if_neg (fun q => absurd q.1 (by decide)), fd_uF, if_pos ⟨rfl, rfl⟩]
  have v4 : fd w1 553 m = .int (nI 0) := by rw [hw1, fd_uF, if_pos ⟨rfl, rfl⟩]; rfl
  have v5 : fd w1 543 m = .int (nI n) := by rw [hw1]; exact hT.1
  have v6 : ∀ i, i < 8000 → ai w1 (m + 19) i = nI (T i) := by rw [hw1]; exact hT.2.2.2.1
  clear hw1
  -- the rows made anew
  let FX : aw → Prop := fun w2 => FrK w w2 m ∧ (∀ g, fd w2 g m = fd w1 g m) ∧ (∀ i, ai w2 (m + 19) i = ai w1 (m + 19) i)
  have fx0 : FX w1 := ⟨F1, fun _ => rfl, fun _ => rfl⟩
  have fxA : ∀ w2 kk i x, FX w2 → (kk = 22 ∨ kk = 24) → FX (uA w2 (m + kk) i x) := by
    intro w2 kk i x hx hk
    refine ⟨⟨hx.1.1.A (by omega) (by omega), fun k hk' => ⟨(hx.1.2 k hk').1, ?_⟩⟩, hx.2.1, fun j => ?_⟩
    · rw [ai_uA, if_neg (by omega)]; exact (hx.1.2 k hk').2
    · rw [ai_uA, if_neg (by omega)]; exact hx.2.2 j
  -- behind the passes, with a fault
  have bad : ∀ w2 A why ln0, c_asm H (T, n, fw0, fl0) u = (-2, H, (T, 0, why, ln0)) → FrK w w2 m → (∀ i, i < 8000 → ai w2 (m + 19) i = nI (T i)) → fd w2 544 m = .int (nI why) → fd w2 545 m = .int (nI ln0) → wp (d + 10) 173 Q 97 [some (.ref m), some (.int u), A, none] [] w2 0 0 := by
    intro w2 A why ln0 hc f2 t2 y1 y2
    rw [hc] at h
    have rk2 := (f2.1.sh hA.1).1
    simp only [↓s_173_97, ↓s_173_98, ↓s_173_99, ↓s_173_100, ↓s_173_101, ↓s_173_104, ↓s_173_105, ↓s_173_108, ↓s_173_110, ↓s_173_111, ↓s_173_112, kd_uF, ln_uF, ai_uF, al_uF, ar_uF, zs_uF, fd_uF, kd_uA, ln_uA, fd_uA, al_uA, ar_uA, zs_uA, ai_uA, kd_uL, ln_uL, fd_uL, ai_uL, ar_uL, zs_uL, al_uL, kd_uR, ln_uR, fd_uR, ai_uR, al_uR, zs_uR, ar_uR, true_and, and_true, Option.toList_some, Option.toList_none, List.cons_append, List.nil_append, catS_nil, catS_int, catS_ref, catS_null, catS_long, cat_int, cat_ref, cat_null, Nat.reduceEqDiff, Nat.reduceLeDiff, Nat.reduceAdd, false_and, and_false, if_false, if_true, ite_true, ite_false, true_or, or_true, false_or, or_false, and_self, forall_const, true_implies, reduceCtorEq, clr_int, clr_ref, clr_null, clr_none, clr_long, va_rf_some, va_rf_none, rk2]
    refine ⟨fun q => absurd trivial q, ?_⟩
    refine h _ (hA.T hB (f2.1.F (g := 543) rfl)) ⟨by rw [fd_uF, if_pos ⟨rfl, rfl⟩]; rfl, by rw [fd_uF, if_neg (fun q => absurd q.1 (by decide))]; exact y1, by rw [fd_uF, if_neg (fun q => absurd q.1 (by decide))]; exact y2, t2, hT.2.2.2.2.K (f2.F (g := 543) rfl)⟩ (f2.1.F (g := 543) rfl).1
  -- behind the passes, without
  have good : ∀ w2 A (S : ps), c_asm H (T, n, fw0, fl0) u = (nI S.2.2.1.length, hU H k ((H.2.2 k).1, (fun a => (S.2.1 a).getD (uMm (H.2.2 k) a)), (H.2.2 k).2.2), (T, 0, 0, 0)) → FrK w w2 m → (∀ i, i < 8000 → ai w2 (m + 19) i = nI (T i)) → fd w2 544 m = .int (nI 0) → fd w2 545 m = .int (nI 0) → RWd w2 m S → PI S → wp (d + 10) 173 Q 98 [some (.ref m), some (.int u), A, none] [.int 1] w2 0 0 := by
    intro w2 A S hc f2 t2 y1 y2 hW hP
    rw [hc] at h
    have rk2 := (f2.1.sh hA.1).1
    have hP2 : ∀ a y, S.2.1 a = some y → y < 4096 := fun a y e => (hP.2.2.2.1 a y e).2
    simp only [↓s_173_98, ↓s_173_99, ↓s_173_100, ↓s_173_101, ↓s_173_104, ↓s_173_105, ↓s_173_108, ↓s_173_110, ↓s_173_111, ↓s_173_112, kd_uF, ln_uF, ai_uF, al_uF, ar_uF, zs_uF, fd_uF, kd_uA, ln_uA, fd_uA, al_uA, ar_uA, zs_uA, ai_uA, kd_uL, ln_uL, fd_uL, ai_uL, ar_uL, zs_uL, al_uL, kd_uR, ln_uR, fd_uR, ai_uR, al_uR, zs_uR, ar_uR, true_and, and_true, Option.toList_some, Option.toList_none, List.cons_append, List.nil_append, catS_nil, catS_int, catS_ref, catS_null, catS_long, cat_int, cat_ref, cat_null, Nat.reduceEqDiff, Nat.reduceLeDiff, Nat.reduceAdd, false_and, and_false, if_false, if_true, ite_true, ite_false, true_or, or_true, false_or, or_false, and_self, forall_const, true_implies, reduceCtorEq, clr_int, clr_ref, clr_null, clr_none, clr_long, va_rf_some, va_rf_none, rk2]
    refine ⟨fun _ => ?_, fun q => absurd q (by decide)⟩
    -- the words
    have lp : ∀ (j a : Nat) (w3 : aw), a + j = 4096 → RAt w3 m (hU H k (memP (H.2.2 k) S.2.1 a)) → Fr w w3 m (m + 25) → RT w3 m (T, 0, 0, 0) → fd w3 553 m = .int (nI S.2.2.1.length) → (∀ a, a < 4096 → ai w3 (m + 22) a = oW (S.2.1 a)) → wp (d + 10) 173 Q 113 [some (.ref m), some (.int u), some (.int 1), some (.int (nI a))] [] w3 0 0 := by
      intro j
      induction j with
      | zero =>
        intro a w3 ha hA3 f3 hT3 hm3 hp3
        have ea : a = 4096 := by omega
        subst ea
        have rk3 := hA3.1.1
        rw [s_173_113]
        simp only [↓s_173_114, ↓s_173_117, ↓s_173_147, ↓s_173_148, ↓s_173_151, kd_uF, ln_uF, ai_uF, al_uF, ar_uF, zs_uF, fd_uF, kd_uA, ln_uA, fd_uA, al_uA, ar_uA, zs_uA, ai_uA, kd_uL, ln_uL, fd_uL, ai_uL, ar_uL, zs_uL, al_uL, kd_uR, ln_uR, fd_uR, ai_uR, al_uR, zs_uR, ar_uR, true_and, and_true, Option.toList_some, Option.toList_none, List.cons_append, List.nil_append, catS_nil, catS_int, catS_ref, catS_null, catS_long, cat_int, cat_ref, cat_null, Nat.reduceEqDiff, Nat.reduceLeDiff, Nat.reduceAdd, false_and, and_false, if_false, if_true, ite_true, ite_false, true_or, or_true, false_or, or_false, and_self, forall_const, true_implies, reduceCtorEq, clr_int, clr_ref, clr_null, clr_none, clr_long, va_rf_some, va_rf_none, rk3, hm3]
        rw [memP_end (fun a y e => (hP.2.2.2.1 a y e).1)] at hA3
        exact ⟨fun _ => h w3 hA3 hT3 f3, fun q => absurd (by decide) q⟩
      | succ j ih =>
        intro a w3 ha hA3 f3 hT3 hm3 hp3
        have hs3 := hA3.1
        have ha4 : a < 4096 := by omega
        have cl : (nI a).toNatClampNeg = a := clN (by omega)
        have hin : inR (nI a) 4096 := inR_nI ha4 (by decide)
        have hs3' := hs3
        obtain ⟨rk, r1, r2, r3, r4, r5, r6, r7, r8, r9, r10, r11, r12, r13, r14, r15, r16, r17, r18, r19, r20, r21, r22, r23, r24, k1, k2, k3, k4, k5, k6, k7, k8, k9, k10, k11, k12, k13, k14, k15, k16, k17, k18, k19, k20, k21, k22, k23, k24, n1, n2, n3, n4, n5, n6, n7, n8, n9, n10, n11, n12, n13, n14, n15, n16, n17, n18, n19, n20, n21, n22, n23, n24⟩ := hs3
        rw [s_173_113]
        simp only [↓s_173_114, ↓s_173_117, ↓s_173_120, ↓s_173_121, ↓s_173_124, ↓s_173_125, ↓s_173_126, ↓s_173_129, ↓s_173_130, ↓s_173_131, ↓s_173_132, ↓s_173_133, ↓s_173_136, ↓s_173_137, ↓s_173_138, ↓s_173_141, ↓s_173_144, ↓s_173_147, ↓s_173_148, ↓s_173_151, kd_uF, ln_uF, ai_uF, al_uF, ar_uF, zs_uF, fd_uF, kd_uA, ln_uA, fd_uA, al_uA, ar_uA, zs_uA, ai_uA, kd_uL, ln_uL, fd_uL, ai_uL, ar_uL, zs_uL, al_uL, kd_uR, ln_uR, fd_uR, ai_uR, al_uR, zs_uR, ar_uR, true_and, and_true, Option.toList_some, Option.toList_none, List.cons_append, List.nil_append, catS_nil, catS_int, catS_ref, catS_null, catS_long, cat_int, cat_ref, cat_null, Nat.reduceEqDiff, Nat.reduceLeDiff, Nat.reduceAdd, false_and, and_false, if_false, if_true, ite_true, ite_false, true_or, or_true, false_or, or_false, and_self, forall_const, true_implies, reduceCtorEq, clr_int, clr_ref, clr_null, clr_none, clr_long, va_rf_some, va_rf_none, rk, r22, k22, n22, cl, hp3 a ha4]
        refine ⟨fun q => absurd q (nI_ge (b := 4096) (by omega) (by decide)), fun _ => ⟨hin, fun q => ?_, fun q => ⟨hin, ?_⟩⟩⟩
        · rw [oW_neg (hP2 a)] at q
          rw [nI_1]
          exact ih (a + 1) w3 (by omega) (by rw [memP_none q]; exact hA3) f3 hT3 hm3 hp3
        · rw [oW_neg (hP2 a)] at q
          obtain ⟨v, hv⟩ : ∃ v, S.2.1 a = some v := by
            cases e : S.2.1 a with
            | none => exact absurd e q
            | some v => exact ⟨v, rfl⟩
          have hv4 := hP2 a v hv
          rw [hv, e3]
          show wpD (d + 10) 108 [.ref m, .int (nI k), .int (nI a), .int (nI v)] w3 _
          have hu3 := hA3.2.2.2.2.2.2.2.2.2.2.2.2.2.2 k hk8
          rw [hU_at] at hu3
          refine sp_R_set hs3' hu3 hk8 ha4 (by omega) (fun w4 c1 c2 c3 => ?_)
          rw [Nat.mod_eq_of_lt hv4, ← memP_some hv] at c1
          have hA4 := hA3.U (UB_hU hB ((hB k).memP hP2)) ⟨c2, c3⟩ c1
          rw [hU_hU] at hA4
          simp only [↓s_173_141, ↓s_173_144, kd_uF, ln_uF, ai_uF, al_uF, ar_uF, zs_uF, fd_uF, kd_uA, ln_uA, fd_uA, al_uA, ar_uA, zs_uA, ai_uA, kd_uL, ln_uL, fd_uL, ai_uL, ar_uL, zs_uL, al_uL, kd_uR, ln_uR, fd_uR, ai_uR, al_uR, zs_uR, ar_uR, true_and, and_true, Option.toList_some, Option.toList_none, List.cons_append, List.nil_append, catS_nil, catS_int, catS_ref, catS_null, catS_long, cat_int, cat_ref, cat_null, Nat.reduceEqDiff, Nat.reduceLeDiff, Nat.reduceAdd, false_and, and_false, if_false, if_true, ite_true, ite_false, true_or, or_true, false_or, or_false, and_self, forall_const, true_implies, reduceCtorEq, clr_int, clr_ref, clr_null, clr_none, clr_long, va_rf_some, va_rf_none]
          rw [nI_1, ← e3]
          exact ih (a + 1) w4 (by omega) hA4 (f3.tr c2.1) (hT3.M c2.M) ((c3 _).trans hm3) (fun b hb => (c2.2.2.1 22 b (Or.inr (by decide))).trans (hp3 b hb))
    refine lp 4096 0 _ (by omega) ?_ (f2.1.F (g := 543) rfl).1 ⟨by rw [fd_uF, if_pos ⟨rfl, rfl⟩]; rfl, by rw [fd_uF, if_neg (fun q => absurd q.1 (by decide))]; exact y1, by rw [fd_uF, if_neg (fun q => absurd q.1 (by decide))]; exact y2, t2, hT.2.2.2.2.K (f2.F (g := 543) rfl)⟩ (by rw [fd_uF, if_neg (fun q => absurd q.1 (by decide))]; exact hW.1) hW.2.1
    rw [memP_0, hU_same]
    exact hA.T hB (f2.1.F (g := 543) rfl)
  -- the passes
  have pas : ∀ w2 A, FX w2 → (∀ a, a < 4096 → ai w2 (m + 22) a = -1) → (∀ g, g < 32 → ai w2 (m + 24) g = nI 127) → wp (d + 10) 173 Q 77 [some (.ref m), some (.int u), A, none] [] w2 0 0 := by
    intro w2 A fx p1 p2
    have hK2 : RK w2 m T n := ⟨fx.1.1.sh hA.1, fun i hi => (fx.2.2 i).trans (v6 i hi), (fx.2.1 _).trans v5, hn, hTb⟩
    have rk2 := hK2.1.1
    have hKN := hT.2.2.2.2.K fx.1
    have hW0 : RWd w2 m S0 := ⟨(fx.2.1 _).trans v4, fun a ha => p1 a ha, (fun a x e => absurd e (by intro q; cases q)), fun g hg => (p2 g hg).trans (by show nI 127 = nI 127 - nI 0; rfl)⟩
    have hc0 : rg u (H.1 0) = some k := e1
    simp only [↓s_173_77, ↓s_173_78, ↓s_173_79, kd_uF, ln_uF, ai_uF, al_uF, ar_uF, zs_uF, fd_uF, kd_uA, ln_uA, fd_uA, al_uA, ar_uA, zs_uA, ai_uA, kd_uL, ln_uL, fd_uL, ai_uL, ar_uL, zs_uL, al_uL, kd_uR, ln_uR, fd_uR, ai_uR, al_uR, zs_uR, ar_uR, true_and, and_true, Option.toList_some, Option.toList_none, List.cons_append, List.nil_append, catS_nil, catS_int, catS_ref, catS_null, catS_long, cat_int, cat_ref, cat_null, Nat.reduceEqDiff, Nat.reduceLeDiff, Nat.reduceAdd, false_and, and_false, if_false, if_true, ite_true, ite_false, true_or, or_true, false_or, or_false, and_self, forall_const, true_implies, reduceCtorEq, clr_int, clr_ref, clr_null, clr_none, clr_long, va_rf_some, va_rf_none, rk2]
    refine sp_R_passes (R := a1 T n) (s := ([], 128)) sp_R_stat1 (fun a b s => s1_le) s1_self (fun w s g v hg hS => ?_) hK2 ((fx.2.1 _).trans v1) ⟨(RB_nil ((fx.2.1 _).trans v3) hKN).F (by decide) (by decide), TN.nil, by rw [fd_uF, if_pos ⟨rfl, rfl⟩], (by decide : 128 < 4096), hW0.F (by decide)⟩ rfl ?_ (fun r0 w3 f3 hK3 hS3 y1 y2 => ?_) (fun r0 w3 f3 hK3 y1 y2 => ?_)
    · obtain ⟨sB, sN, sD, sd, sW⟩ := hS
      rcases hg with rfl | rfl
      · exact ⟨sB.F (by decide) (by decide), sN, by rw [fd_uF, if_neg (fun q => absurd q.1 (by decide))]; exact sD, sd, sW.F (by decide)⟩
      · exact ⟨sB.F (by decide) (by decide), sN, by rw [fd_uF, if_neg (fun q => absurd q.1 (by decide))]; exact sD, sd, sW.F (by decide)⟩
    · have := scan_P (T := T) (n := n) (f := f1s T) (P := fun x => x ≤ 6) (by decide) (fun a b s => s1_99) (n + 1) 0 0 1 false ([], 128)
      have e : (a1 T n).1 ≤ 6 := this
      omega
    · have rk3 := hK3.1.1
      have f23 := fx.1.tr f3
      obtain ⟨sB, sN, sD, sd, sW⟩ := hS3
      simp only [↓s_173_82, ↓s_173_85, ↓s_173_86, ↓s_173_87, ↓s_173_97, kd_uF, ln_uF, ai_uF, al_uF, ar_uF, zs_uF, fd_uF, kd_uA, ln_uA, fd_uA, al_uA, ar_uA, zs_uA, ai_uA, kd_uL, ln_uL, fd_uL, ai_uL, ar_uL, zs_uL, al_uL, kd_uR, ln_uR, fd_uR, ai_uR, al_uR, zs_uR, ar_uR, true_and, and_true, Option.toList_some, Option.toList_none, List.cons_append, List.nil_append, catS_nil, catS_int, catS_ref, catS_null, catS_long, cat_int, cat_ref, cat_null, Nat.reduceEqDiff, Nat.reduceLeDiff, Nat.reduceAdd, false_and, and_false, if_false, if_true, ite_true, ite_false, true_or, or_true, false_or, or_false, and_self, forall_const, true_implies, reduceCtorEq, clr_int, clr_ref, clr_null, clr_none, clr_long, va_rf_some, va_rf_none, rk3]
      refine ⟨fun q => absurd q (by decide), fun _ => ?_⟩
      refine sp_R_passes (R := a2 T n (a1 T n).2.2.1) (s := S0) (sp_R_stat2 (t := (a1 T n).2.2.1)) (fun a b s => s2_lt) s2_self (fun w s g v hg hS => ?_) hK3 y1 ⟨sB.F (by decide) (by decide), sN, sW.F (by decide), PI_S0, by rw [fd_uF, if_pos ⟨rfl, rfl⟩]; rfl⟩ rfl (scan_no99 (n + 1) 0 0 1 false ([], 128) S0 _ r0 rfl) (fun r1 w4 f4 hK4 hS4 z1 z2 => ?_) (fun r1 w4 f4 hK4 z1 z2 => ?_)
      · obtain ⟨sB, sN, sW, sI, sD⟩ := hS
        rcases hg with rfl | rfl
        · exact ⟨sB.F (by decide) (by decide), sN, sW.F (by decide), sI, by rw [fd_uF, if_neg (fun q => absurd q.1 (by decide))]; exact sD⟩
        · exact ⟨sB.F (by decide) (by decide), sN, sW.F (by decide), sI, by rw [fd_uF, if_neg (fun q => absurd q.1 (by decide))]; exact sD⟩
      · simp only [↓s_173_90, ↓s_173_93, ↓s_173_94, ↓s_173_97, kd_uF, ln_uF, ai_uF, al_uF, ar_uF, zs_uF, fd_uF, kd_uA, ln_uA, fd_uA, al_uA, ar_uA, zs_uA, ai_uA, kd_uL, ln_uL, fd_uL, ai_uL, ar_uL, zs_uL, al_uL, kd_uR, ln_uR, fd_uR, ai_uR, al_uR, zs_uR, ar_uR, true_and, and_true, Option.toList_some, Option.toList_none, List.cons_append, List.nil_append, catS_nil, catS_int, catS_ref, catS_null, catS_long, cat_int, cat_ref, cat_null, Nat.reduceEqDiff, Nat.reduceLeDiff, Nat.reduceAdd, false_and, and_false, if_false, if_true, ite_true, ite_false, true_or, or_true, false_or, or_false, and_self, forall_const, true_implies, reduceCtorEq, clr_int, clr_ref, clr_null, clr_none, clr_long, va_rf_some, va_rf_none]
        refine ⟨fun q => absurd q (by decide), fun _ => ?_⟩
        obtain ⟨_, _, sW4, sI4, _⟩ := hS4
        refine good w4 A (a2 T n (a1 T n).2.2.1).2.2 ?_ (f23.tr f4) hK4.2.1 z1 z2 sW4 sI4
        unfold c_asm
        rw [hc0]
        dsimp only
        rw [if_neg (fun q => q r0), if_neg (fun q => q r1)]
      · simp only [↓s_173_90, kd_uF, ln_uF, ai_uF, al_uF, ar_uF, zs_uF, fd_uF, kd_uA, ln_uA, fd_uA, al_uA, ar_uA, zs_uA, ai_uA, kd_uL, ln_uL, fd_uL, ai_uL, ar_uL, zs_uL, al_uL, kd_uR, ln_uR, fd_uR, ai_uR, al_uR, zs_uR, ar_uR, true_and, and_true, Option.toList_some, Option.toList_none, List.cons_append, List.nil_append, catS_nil, catS_int, catS_ref, catS_null, catS_long, cat_int, cat_ref, cat_null, Nat.reduceEqDiff, Nat.reduceLeDiff, Nat.reduceAdd, false_and, and_false, if_false, if_true, ite_true, ite_false, true_or, or_true, false_or, or_false, and_self, forall_const, true_implies, reduceCtorEq, clr_int, clr_ref, clr_null, clr_none, clr_long, va_rf_some, va_rf_none]
        refine ⟨bad w4 A _ _ ?_ (f23.tr f4) hK4.2.1 z1 z2, fun q => absurd trivial q⟩
        unfold c_asm
        rw [hc0]
        dsimp only
        rw [if_neg (fun q => q r0), if_pos r1]
    · simp only [↓s_173_82, kd_uF, ln_uF, ai_uF, al_uF, ar_uF, zs_uF, fd_uF, kd_uA, ln_uA, fd_uA, al_uA, ar_uA, zs_uA, ai_uA, kd_uL, ln_uL, fd_uL, ai_uL, ar_uL, zs_uL, al_uL, kd_uR, ln_uR, fd_uR, ai_uR, al_uR, zs_uR, ar_uR, true_and, and_true, Option.toList_some, Option.toList_none, List.cons_append, List.nil_append, catS_nil, catS_int, catS_ref, catS_null, catS_long, cat_int, cat_ref, cat_null, Nat.reduceEqDiff, Nat.reduceLeDiff, Nat.reduceAdd, false_and, and_false, if_false, if_true, ite_true, ite_false, true_or, or_true, false_or, or_false, and_self, forall_const, true_implies, reduceCtorEq, clr_int, clr_ref, clr_null, clr_none, clr_long, va_rf_some, va_rf_none]
      refine ⟨bad w3 A _ _ ?_ (fx.1.tr f3) hK3.2.1 y1 y2, fun q => absurd trivial q⟩
      unfold c_asm
      rw [hc0]
      dsimp only
      rw [if_pos r0]
  -- the literals' places
  have l57 : ∀ (j g : Nat) (w2 : aw), g + j = 32 → FX w2 → (∀ a, a < 4096 → ai w2 (m + 22) a = -1) → (∀ i, i < g → ai w2 (m + 24) i = nI 127) → wp (d + 10) 173 Q 57 [some (.ref m), some (.int u), some (.int (nI g)), none] [] w2 0 0 := by
    intro j
    induction j with
    | zero =>
      intro g w2 hg fx p1 p2
      have eg : g = 32 := by omega
      subst eg
      rw [s_173_57]
      simp only [↓s_173_58, ↓s_173_60, kd_uF, ln_uF, ai_uF, al_uF, ar_uF, zs_uF, fd_uF, kd_uA, ln_uA, fd_uA, al_uA, ar_uA, zs_uA, ai_uA, kd_uL, ln_uL, fd_uL, ai_uL, ar_uL, zs_uL, al_uL, kd_uR, ln_uR, fd_uR, ai_uR, al_uR, zs_uR, ar_uR, true_and, and_true, Option.toList_some, Option.toList_none, List.cons_append, List.nil_append, catS_nil, catS_int, catS_ref, catS_null, catS_long, cat_int, cat_ref, cat_null, Nat.reduceEqDiff, Nat.reduceLeDiff, Nat.reduceAdd, false_and, and_false, if_false, if_true, ite_true, ite_false, true_or, or_true, false_or, or_false, and_self, forall_const, true_implies, reduceCtorEq, clr_int, clr_ref, clr_null, clr_none, clr_long, va_rf_some, va_rf_none]
      exact ⟨fun _ => pas w2 _ fx p1 p2, fun q => absurd (by decide) q⟩
    | succ j ih =>
      intro g w2 hg fx p1 p2
      have hs2 := fx.1.1.sh hA.1
      obtain ⟨rk, r1, r2, r3, r4, r5, r6, r7, r8, r9, r10, r11, r12, r13, r14, r15, r16, r17, r18, r19, r20, r21, r22, r23, r24, k1, k2, k3, k4, k5, k6, k7, k8, k9, k10, k11, k12, k13, k14, k15, k16, k17, k18, k19, k20, k21, k22, k23, k24, n1, n2, n3, n4, n5, n6, n7, n8, n9, n10, n11, n12, n13, n14, n15, n16, n17, n18, n19, n20, n21, n22, n23, n24⟩ := hs2
      rw [s_173_57]
      simp only [↓s_173_58, ↓s_173_60, ↓s_173_63, ↓s_173_64, ↓s_173_67, ↓s_173_68, ↓s_173_70, ↓s_173_71, ↓s_173_74, kd_uF, ln_uF, ai_uF, al_uF, ar_uF, zs_uF, fd_uF, kd_uA, ln_uA, fd_uA, al_uA, ar_uA, zs_uA, ai_uA, kd_uL, ln_uL, fd_uL, ai_uL, ar_uL, zs_uL, al_uL, kd_uR, ln_uR, fd_uR, ai_uR, al_uR, zs_uR, ar_uR, true_and, and_true, Option.toList_some, Option.toList_none, List.cons_append, List.nil_append, catS_nil, catS_int, catS_ref, catS_null, catS_long, cat_int, cat_ref, cat_null, Nat.reduceEqDiff, Nat.reduceLeDiff, Nat.reduceAdd, false_and, and_false, if_false, if_true, ite_true, ite_false, true_or, or_true, false_or, or_false, and_self, forall_const, true_implies, reduceCtorEq, clr_int, clr_ref, clr_null, clr_none, clr_long, va_rf_some, va_rf_none, rk, r24, k24, n24, clN (show g < 2147483648 by omega)]
      refine ⟨fun q => absurd q (nI_ge (b := 32) (by omega) (by decide)), fun _ => ⟨inR_nI (by omega) (by decide), ?_⟩⟩
      rw [nI_1]
      refine ih (g + 1) _ (by omega) (fxA w2 24 g _ fx (Or.inr rfl)) (fun a ha => by rw [ai_uA, if_neg (by omega)]; exact p1 a ha) (fun i hi => ?_)
      rw [ai_uA]
      by_cases c : i = g
      · rw [if_pos ⟨rfl, c⟩]; rfl
      · rw [if_neg (fun q => c q.2)]; exact p2 i (by omega)
  have l35 : ∀ (j a : Nat) (w2 : aw), a + j = 4096 → FX w2 → (∀ i, i < a → ai w2 (m + 22) i = -1) → wp (d + 10) 173 Q 35 [some (.ref m), some (.int u), some (.int (nI a)), none] [] w2 0 0 := by
    intro j
    induction j with
    | zero =>
      intro a w2 ha fx p1
      have eg : a = 4096 := by omega
      subst eg
      rw [s_173_35]
      simp only [↓s_173_36, ↓s_173_39, ↓s_173_55, ↓s_173_56, kd_uF, ln_uF, ai_uF, al_uF, ar_uF, zs_uF, fd_uF, kd_uA, ln_uA, fd_uA, al_uA, ar_uA, zs_uA, ai_uA, kd_uL, ln_uL, fd_uL, ai_uL, ar_uL, zs_uL, al_uL, kd_uR, ln_uR, fd_uR, ai_uR, al_uR, zs_uR, ar_uR, true_and, and_true, Option.toList_some, Option.toList_none, List.cons_append, List.nil_append, catS_nil, catS_int, catS_ref, catS_null, catS_long, cat_int, cat_ref, cat_null, Nat.reduceEqDiff, Nat.reduceLeDiff, Nat.reduceAdd, false_and, and_false, if_false, if_true, ite_true, ite_false, true_or, or_true, false_or, or_false, and_self, forall_const, true_implies, reduceCtorEq, clr_int, clr_ref, clr_null, clr_none, clr_long, va_rf_some, va_rf_none]
      exact ⟨fun _ => l57 32 0 w2 (by omega) fx p1 (fun i hi => absurd hi (Nat.not_lt_zero _)), fun q => absurd (by decide) q⟩
    | succ j ih =>
      intro a w2 ha fx p1
      have hs2 := fx.1.1.sh hA.1
      obtain ⟨rk, r1, r2, r3, r4, r5, r6, r7, r8, r9, r10, r11, r12, r13, r14, r15, r16, r17, r18, r19, r20, r21, r22, r23, r24, k1, k2, k3, k4, k5, k6, k7, k8, k9, k10, k11, k12, k13, k14, k15, k16, k17, k18, k19, k20, k21, k22, k23, k24, n1, n2, n3, n4, n5, n6, n7, n8, n9, n10, n11, n12, n13, n14, n15, n16, n17, n18, n19, n20, n21, n22, n23, n24⟩ := hs2
      rw [s_173_35]
      simp only [↓s_173_36, ↓s_173_39, ↓s_173_42, ↓s_173_43, ↓s_173_46, ↓s_173_47, ↓s_173_48, ↓s_173_49, ↓s_173_52, kd_uF, ln_uF, ai_uF, al_uF, ar_uF, zs_uF, fd_uF, kd_uA, ln_uA, fd_uA, al_uA, ar_uA, zs_uA, ai_uA, kd_uL, ln_uL, fd_uL, ai_uL, ar_uL, zs_uL, al_uL, kd_uR, ln_uR, fd_uR, ai_uR, al_uR, zs_uR, ar_uR, true_and, and_true, Option.toList_some, Option.toList_none, List.cons_append, List.nil_append, catS_nil, catS_int, catS_ref, catS_null, catS_long, cat_int, cat_ref, cat_null, Nat.reduceEqDiff, Nat.reduceLeDiff, Nat.reduceAdd, false_and, and_false, if_false, if_true, ite_true, ite_false, true_or, or_true, false_or, or_false, and_self, forall_const, true_implies, reduceCtorEq, clr_int, clr_ref, clr_null, clr_none, clr_long, va_rf_some, va_rf_none, rk, r22, k22, n22, clN (show a < 2147483648 by omega)]
      refine ⟨fun q => absurd q (nI_ge (b := 4096) (by omega) (by decide)), fun _ => ⟨inR_nI (by omega) (by decide), ?_⟩⟩
      rw [nI_1]
      refine ih (a + 1) _ (by omega) (fxA w2 22 a _ fx (Or.inl rfl)) (fun i hi => ?_)
      rw [ai_uA]
      by_cases c : i = a
      · rw [if_pos ⟨rfl, c⟩]
      · rw [if_neg (fun q => c q.2)]; exact p1 i (by omega)
  exact l35 4096 0 w1 (by omega) fx0 (fun i hi => absurd hi (Nat.not_lt_zero _))
