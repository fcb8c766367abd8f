abbrev FrI (w w' : aw) (lo hi : Nat) : Prop := Fr w w' lo hi
theorem CAt.out {w w' : aw} {h s lo hi : Nat} {H : hs} (hC : CAt w h H s) (hF : FrI w w' lo hi) (h1 : hi ≤ h ∨ h + 68 ≤ lo) : CAt w' h H s := by
  obtain ⟨⟨s0, s1, s2, s3, s4, s5, s6, s7, s8, s9, s10⟩, ⟨n0, n1, n2, n3, n4, n5, n6, n8, n9, n10⟩, b, ⟨r1, r2, r3⟩, i, u⟩ := hC
  obtain ⟨hk, hl, hz, ho⟩ := hF
  have o0 := ho h (by omega)
  have o1 := ho (h + 1) (by omega)
  have o2 := ho (h + 2) (by omega)
  have o3 := ho (h + 3) (by omega)
  refine ⟨⟨by rw [hk]; exact s0, by rw [o0.1]; exact s1, by rw [o0.1]; exact s2, by rw [o0.1]; exact s3, by rw [hk]; exact s4, by rw [hk]; exact s5, by rw [hk]; exact s6, by rw [hl]; exact s7, by rw [hl]; exact s8, by rw [hl]; exact s9, fun k hk' => by rw [o1.2.2.2]; exact s10 k hk'⟩, ⟨by rw [o0.1]; exact n0, by rw [o0.1]; exact n1, by rw [o0.1]; exact n2, by rw [o0.1]; exact n3, by rw [o0.1]; exact n4, by rw [o0.1]; exact n5, by rw [o0.1]; exact n6, by rw [o0.1]; exact n8, by rw [o0.1]; exact n9, by rw [o0.1]; exact n10⟩, by rw [o0.1]; exact b, ⟨by rw [o0.1]; exact r1, fun k hk' => by rw [o2.2.2.2]; exact r2 k hk', fun k q hq => by rw [hk]; rw [o2.2.2.2] at hq; exact r3 k q hq⟩, fun t t1 t2 => ?_, fun k hk' => ?_⟩
  · rw [o3.2.2.2]; exact i t t1 t2
  · exact ⟨(u k hk').1.keep hk hl (fun j g hj => (ho _ (by unfold ub; omega)).1 g) (fun j i hj => (ho _ (by unfold ub; omega)).2.1 i), ((ho _ (by unfold ub; omega)).1 _).trans (u k hk').2⟩
theorem CM.out {w w' : aw} {x lo hi : Nat} {H : hs} (hM : CM w x H) (hF : FrI w w' lo hi) (h1 : x < lo ∧ hi ≤ x + 12) : CM w' x H :=
  ⟨(hF.1 x).trans hM.1, ((hF.2.2.2 x (by omega)).1 _).trans hM.2.1, hM.2.2.out hF (Or.inl h1.2)⟩
def RdS (w : aw) (x : Nat) : Prop := kd w (x + 11) = 5 ∧ fd w 256 (x + 11) = .ref (x + 1) ∧ fd w 257 (x + 11) = .ref (x + 4)
def CL (w : aw) (x : Nat) (H : hs) (t : tp) : Prop := CM w x H ∧ CT w x t ∧ CF w x t ∧ ASh w x ∧ RdS w x ∧ GW w x
theorem CL.Z {w : aw} {x : Nat} {H : hs} {t : tp} (h : CL w x H t) (hI : TI t) : ZA w x t.1 t.2.1 := by
  obtain ⟨-, ⟨-, a2, a3, a4, a5, a6, a7⟩, -, hA, ⟨r1, r2, r3⟩, -⟩ := h
  exact ⟨⟨r1, r2, r3, a2, a3, a4, a5, a6, a7, hI.1, hI.2⟩, hA⟩
theorem ASh.out {w w' : aw} {x lo hi : Nat} (h : ASh w x) (hF : FrI w w' lo hi) (h1 : x + 12 ≤ lo ∨ hi ≤ x + 3) : ASh w' x := by
  obtain ⟨a0, a1, a2, a3, a4, a5, a6, a7, b1, b2, b3, b4, b5, b6, b7, b8⟩ := h
  obtain ⟨hk, hl, hz, ho⟩ := hF
  have o3 := ho (x + 3) (by omega)
  exact ⟨(hk _).trans a0, (o3.1 _).trans a1, (o3.1 _).trans a2, (o3.1 _).trans a3, (o3.1 _).trans a4, (o3.1 _).trans a5, (o3.1 _).trans a6, (o3.1 _).trans a7, (hk _).trans b1, (hk _).trans b2, (hk _).trans b3, (hk _).trans b4, (hl _).trans b5, (hl _).trans b6, (hl _).trans b7, (hl _).trans b8⟩
theorem GW.out {w w' : aw} {x lo hi : Nat} (h : GW w x) (hF : FrI w w' lo hi) (h1 : x + 12 ≤ lo ∨ hi ≤ x + 3) : GW w' x := by
  obtain ⟨⟨t, hC⟩, S, hW, hI⟩ := h
  exact ⟨⟨t, hC.Fr hF (by omega)⟩, S, hW.kept ((hF.2.2.2 (x + 3) (by omega)).1 _) (fun k i a b => (hF.2.2.2 (x + k) (by omega)).2.1 i), hI⟩
theorem RdS.out {w w' : aw} {x lo hi : Nat} (h : RdS w x) (hF : FrI w w' lo hi) (h1 : x + 12 ≤ lo ∨ hi ≤ x + 11) : RdS w' x :=
  ⟨(hF.1 _).trans h.1, ((hF.2.2.2 (x + 11) (by omega)).1 _).trans h.2.1, ((hF.2.2.2 (x + 11) (by omega)).1 _).trans h.2.2⟩
theorem CF.out {w w' : aw} {x lo hi : Nat} {t : tp} (h : CF w x t) (hF : FrI w w' lo hi) (h1 : x < lo ∧ (x + 12 ≤ lo ∨ hi ≤ x + 3)) : CF w' x t :=
  ⟨((hF.2.2.2 x (by omega)).1 _).trans h.1, (hF.1 _).trans h.2.1, ((hF.2.2.2 (x + 3) (by omega)).1 _).trans h.2.2.1, ((hF.2.2.2 (x + 3) (by omega)).1 _).trans h.2.2.2⟩
theorem CL.H {w w' : aw} {x : Nat} {H K : hs} {t : tp} (h : CL w x H t) (hM : CM w' x K) (hF : FrI w w' (x + 12) (x + 80)) : CL w' x K t := by
  obtain ⟨-, hT, hC, hA, hR, hG⟩ := h
  exact ⟨hM, hT.Fr hF (by omega), hC.out hF ⟨by omega, Or.inl (by omega)⟩, hA.out hF (Or.inl (by omega)), hR.out hF (Or.inl (by omega)), hG.out hF (Or.inl (by omega))⟩
theorem CL.T {w w' : aw} {x : Nat} {H : hs} {t s : tp} (h : CL w x H t) (hT : CT w' x s) (hs : s.2.2 = t.2.2) (hF : FrI w w' (x + 1) (x + 3)) : CL w' x H s := by
  obtain ⟨hM, -, hC, hA, hR, hG⟩ := h
  have hC' := hC.out hF ⟨by omega, Or.inr (by omega)⟩
  refine ⟨hM.out hF ⟨by omega, by omega⟩, hT, ?_, hA.out hF (Or.inr (by omega)), hR.out hF (Or.inr (by omega)), hG.out hF (Or.inr (by omega))⟩
  unfold CF at hC' ⊢
  rw [hs]; exact hC'
theorem CL.asm {w w' : aw} {x n g l : Nat} {T : Nat → Nat} {H : hs} {t : tp} (h : CL w x H t) (hF : FrI w w' (x + 3) (x + 12)) (hZ : ZA w' x T n) (hG : GW w' x) (h1 : fd w' 9 (x + 3) = .int (nI g)) (h2 : fd w' 10 (x + 3) = .int (nI l)) : CL w' x H (t.1, t.2.1, g, l) := by
  obtain ⟨hM, hT, hC, hA, hR, _⟩ := h
  refine ⟨hM.out hF ⟨by omega, by omega⟩, ?_, ⟨((hF.2.2.2 x (by omega)).1 _).trans hC.1, hZ.2.1, h1, h2⟩, hZ.2, ⟨hZ.1.1, hZ.1.2.1, hZ.1.2.2.1⟩, hG⟩
  exact hT.Fr hF (by omega)
theorem UB_put {x : us} {S : ps} (hP : PI S) (h : UB x) : UB (x.1, (fun a => (S.2.1 a).getD (uMm x a)), x.2.2) := by
  obtain ⟨b0, b1, b2, b3, b4, b5, b6, b7, b8, b9, b10, b11, b12, b13, b14⟩ := h
  refine ⟨b0, b1, b2, b3, b4, b5, b6, b7, fun a => ?_, b9, b10, b11, b12, b13, b14⟩
  show (S.2.1 a).getD (uMm x a) < 4096
  cases e : S.2.1 a with
  | none => exact b8 a
  | some y => exact (hP.2.2.2.1 a y e).2
theorem sp_C_asm {d : Nat} {w : aw} {x : Nat} {u : Int32} {H : hs} {t : tp} {Q : wQ} (hL : CL w x H t) (hI : HI H) (hTI : TI t) (h : ∀ w', CL w' x (c_asm H t u).2.1 (c_asm H t u).2.2 → Fr w w' (x + 1) (x + 80) → (∀ v, UB ((c_asm H t u).2.1.2.2 v)) → Q (some (.int (c_asm H t u).1)) w') : wpD (d + 9) 82 [.ref x, .int u] w Q := by
  refine ⟨Nat.le_of_ble_eq_true rfl, ?_⟩
  show wp (d + 8) 82 Q 0 [some (.ref x), some (.int u), none] [] w 0 0
  have hM := hL.1
  have h8 := hI.1
  have kx := hM.1
  have fx := hM.2.1
  have kh := hM.2.2.1.1
  obtain ⟨T, n, fw0, fl0⟩ := t
  have hZ := hL.Z hTI
  simp only [↓s_82_0, ↓s_82_1, ↓s_82_4, ↓s_82_5, kd_uF, ln_uF, ai_uF, al_uF, ar_uF, zs_uF, fd_uF, kd_uA, ln_uA, fd_uA, al_uA, ar_uA, zs_uA, ai_uA, kd_uL, ln_uL, fd_uL, ai_uL, ar_uL, zs_uL, al_uL, kd_uR, ln_uR, fd_uR, ai_uR, al_uR, zs_uR, ar_uR, true_and, and_true, Option.toList_some, Option.toList_none, List.cons_append, List.nil_append, catS_nil, catS_int, catS_ref, catS_null, catS_long, cat_int, cat_ref, cat_null, Nat.reduceEqDiff, Nat.reduceLeDiff, Nat.reduceAdd, false_and, and_false, if_false, if_true, ite_true, ite_false, true_or, or_true, false_or, or_false, and_self, forall_const, true_implies, reduceCtorEq, clr_int, clr_ref, clr_null, clr_none, clr_long, va_rf_some, va_rf_none, kx, fx, kh]
  refine sp_C_userAt hM.2.2 h8 (fun k e1 e2 e3 => ?_) (fun e1 => ?_)
  case' refine_2 =>
    have hc : c_asm H (T, n, fw0, fl0) u = (-1, H, (T, n, fw0, fl0)) := by unfold c_asm; rw [e1]
    rw [hc] at h
    simp only [↓s_82_8, ↓s_82_8n, ↓s_82_9, ↓s_82_9n, ↓s_82_10, ↓s_82_10n, ↓s_82_13, ↓s_82_14, ↓s_82_15, ↓s_82_16, ↓s_82_19, kd_uF, ln_uF, ai_uF, al_uF, ar_uF, zs_uF, fd_uF, kd_uA, ln_uA, fd_uA, al_uA, ar_uA, zs_uA, ai_uA, kd_uL, ln_uL, fd_uL, ai_uL, ar_uL, zs_uL, al_uL, kd_uR, ln_uR, fd_uR, ai_uR, al_uR, zs_uR, ar_uR, true_and, and_true, Option.toList_some, Option.toList_none, List.cons_append, List.nil_append, catS_nil, catS_int, catS_ref, catS_null, catS_long, cat_int, cat_ref, cat_null, Nat.reduceEqDiff, Nat.reduceLeDiff, Nat.reduceAdd, false_and, and_false, if_false, if_true, ite_true, ite_false, true_or, or_true, false_or, or_false, and_self, forall_const, true_implies, reduceCtorEq, clr_int, clr_ref, clr_null, clr_none, clr_long, va_rf_some, va_rf_none]
    exact h w hL Fr.rf (hi_ub hI)
  have hk8 : k < 8 := by omega
  have fa := hL.2.2.1.1
  have ka := hL.2.2.1.2.1
  -- behind the passes
  have j38 : ∀ (w4 : aw) (g l : Nat), CL w4 x H (T, n, g, l) → Fr w w4 (x + 1) (x + 80) → (g ≠ 0 → g < 1000 ∧ c_asm H (T, n, fw0, fl0) u = (-2, H, (T, 0, g, l))) → (g = 0 → l = 0 ∧ ∃ S : ps, CW w4 x S ∧ PI S ∧ c_asm H (T, n, fw0, fl0) u = (nI S.2.2.1.length, hU H k ((H.2.2 k).1, (fun a => (S.2.1 a).getD (uMm (H.2.2 k) a)), (H.2.2 k).2.2), (T, 0, 0, 0))) → wp (d + 8) 82 Q 38 [some (.ref x), some (.int u), some (.ref (ub (x + 12) k))] [] w4 0 0 := by
    intro w4 g l L4 f4 hbad hgood
    have kx4 := L4.1.1
    have ft4 := L4.2.1.1
    have kt4 := L4.2.1.2.1
    simp only [↓s_82_38, ↓s_82_39, ↓s_82_42, ↓s_82_43, kd_uF, ln_uF, ai_uF, al_uF, ar_uF, zs_uF, fd_uF, kd_uA, ln_uA, fd_uA, al_uA, ar_uA, zs_uA, ai_uA, kd_uL, ln_uL, fd_uL, ai_uL, ar_uL, zs_uL, al_uL, kd_uR, ln_uR, fd_uR, ai_uR, al_uR, zs_uR, ar_uR, true_and, and_true, Option.toList_some, Option.toList_none, List.cons_append, List.nil_append, catS_nil, catS_int, catS_ref, catS_null, catS_long, cat_int, cat_ref, cat_null, Nat.reduceEqDiff, Nat.reduceLeDiff, Nat.reduceAdd, false_and, and_false, if_false, if_true, ite_true, ite_false, true_or, or_true, false_or, or_false, and_self, forall_const, true_implies, reduceCtorEq, clr_int, clr_ref, clr_null, clr_none, clr_long, va_rf_some, va_rf_none, kx4, ft4, kt4]
    refine sp_T_cut (t := (T, n, g, l)) L4.2.1 hTI (fun k0 w5 c1 c2 c3 c4 => ?_) (fun c1 => ?_)
    case' refine_2 =>
      exact absurd c1 (by rw [show (0 : Int32) = nI 0 from rfl, rg_nI (Nat.succ_pos _) (by have := hTI.1; show n + 1 ≤ 2147483648; have : n ≤ 8000 := hTI.1; omega)]; intro z; cases z)
    have hk0 : k0 = 0 := by
      have hn : n ≤ 8000 := hTI.1
      rw [show (0 : Int32) = nI 0 from rfl, rg_nI (Nat.succ_pos _) (by show n + 1 ≤ 2147483648; omega)] at c1
      exact (Option.some.inj c1).symm
    subst hk0
    have L5 : CL w5 x H (T, 0, g, l) := L4.T c3 rfl c4
    have f5 : Fr w w5 (x + 1) (x + 80) := f4.tr (c4.wide (by omega) (by omega))
    have hu5 := L5.1.u hk8
    have hu0 := hu5
    obtain ⟨y0, y1, y2, y3, y4, y5, y6, z0, z1, z2, z3, z4, z5, z6, z7, z8, z9, mw1, mw2, mw3, fw1, fw2, fw3, pw1, pw2, pw3, lin, lou⟩ := hu5
    simp only [↓s_82_46, ↓s_82_47, ↓s_82_48, ↓s_82_51, ↓s_82_51n, ↓s_82_52, ↓s_82_55, kd_uF, ln_uF, ai_uF, al_uF, ar_uF, zs_uF, fd_uF, kd_uA, ln_uA, fd_uA, al_uA, ar_uA, zs_uA, ai_uA, kd_uL, ln_uL, fd_uL, ai_uL, ar_uL, zs_uL, al_uL, kd_uR, ln_uR, fd_uR, ai_uR, al_uR, zs_uR, ar_uR, true_and, and_true, Option.toList_some, Option.toList_none, List.cons_append, List.nil_append, catS_nil, catS_int, catS_ref, catS_null, catS_long, cat_int, cat_ref, cat_null, Nat.reduceEqDiff, Nat.reduceLeDiff, Nat.reduceAdd, false_and, and_false, if_false, if_true, ite_true, ite_false, true_or, or_true, false_or, or_false, and_self, forall_const, true_implies, reduceCtorEq, clr_int, clr_ref, clr_null, clr_none, clr_long, va_rf_some, va_rf_none, L5.1.1, L5.2.2.1.1, L5.2.2.1.2.1, y0, y2]
    by_cases g0 : g = 0
    · subst g0
      obtain ⟨l0, S, hW, hP, hc⟩ := hgood rfl
      subst l0
      rw [hc] at h
      have W5 : CW w5 x S := hW.kept ((c4.2.2.2 (x + 3) (by omega)).1 _) (fun k i a b => (c4.2.2.2 (x + k) (by omega)).2.1 i)
      refine sp_c_deliver L5.2.2.2.1 W5 hP L5.2.2.1.2.2.1 (by unfold ub; omega) hu0 (fun w6 u6 f6 => ?_)
      simp only [↓s_82_58, kd_uF, ln_uF, ai_uF, al_uF, ar_uF, zs_uF, fd_uF, kd_uA, ln_uA, fd_uA, al_uA, ar_uA, zs_uA, ai_uA, kd_uL, ln_uL, fd_uL, ai_uL, ar_uL, zs_uL, al_uL, kd_uR, ln_uR, fd_uR, ai_uR, al_uR, zs_uR, ar_uR, true_and, and_true, Option.toList_some, Option.toList_none, List.cons_append, List.nil_append, catS_nil, catS_int, catS_ref, catS_null, catS_long, cat_int, cat_ref, cat_null, Nat.reduceEqDiff, Nat.reduceLeDiff, Nat.reduceAdd, false_and, and_false, if_false, if_true, ite_true, ite_false, true_or, or_true, false_or, or_false, and_self, forall_const, true_implies, reduceCtorEq, clr_int, clr_ref, clr_null, clr_none, clr_long, va_rf_some, va_rf_none]
      have M6 := L5.1.U hk8 f6 u6 rfl
      exact h w6 (L5.H M6 (f6.H hk8)) (f5.tr ((f6.H hk8).wide (by omega) (by omega))) (fun v => UB_hU (hi_ub hI) (UB_put hP (hi_ub hI k)) v)
    · obtain ⟨g1, hc⟩ := hbad g0
      rw [hc] at h
      refine sp_c_deliver0 (y := .null) L5.2.2.2.1 g0 g1 L5.2.2.1.2.2.1 ?_
      simp only [↓s_82_58, kd_uF, ln_uF, ai_uF, al_uF, ar_uF, zs_uF, fd_uF, kd_uA, ln_uA, fd_uA, al_uA, ar_uA, zs_uA, ai_uA, kd_uL, ln_uL, fd_uL, ai_uL, ar_uL, zs_uL, al_uL, kd_uR, ln_uR, fd_uR, ai_uR, al_uR, zs_uR, ar_uR, true_and, and_true, Option.toList_some, Option.toList_none, List.cons_append, List.nil_append, catS_nil, catS_int, catS_ref, catS_null, catS_long, cat_int, cat_ref, cat_null, Nat.reduceEqDiff, Nat.reduceLeDiff, Nat.reduceAdd, false_and, and_false, if_false, if_true, ite_true, ite_false, true_or, or_true, false_or, or_false, and_self, forall_const, true_implies, reduceCtorEq, clr_int, clr_ref, clr_null, clr_none, clr_long, va_rf_some, va_rf_none]
      exact h w5 L5 f5 (hi_ub hI)
  simp only [↓s_82_8, ↓s_82_8n, ↓s_82_9, ↓s_82_9n, ↓s_82_10, ↓s_82_10n, ↓s_82_13, ↓s_82_14, ↓s_82_15, ↓s_82_16, ↓s_82_19, kd_uF, ln_uF, ai_uF, al_uF, ar_uF, zs_uF, fd_uF, kd_uA, ln_uA, fd_uA, al_uA, ar_uA, zs_uA, ai_uA, kd_uL, ln_uL, fd_uL, ai_uL, ar_uL, zs_uL, al_uL, kd_uR, ln_uR, fd_uR, ai_uR, al_uR, zs_uR, ar_uR, true_and, and_true, Option.toList_some, Option.toList_none, List.cons_append, List.nil_append, catS_nil, catS_int, catS_ref, catS_null, catS_long, cat_int, cat_ref, cat_null, Nat.reduceEqDiff, Nat.reduceLeDiff, Nat.reduceAdd, false_and, and_false, if_false, if_true, ite_true, ite_false, true_or, or_true, false_or, or_false, and_self, forall_const, true_implies, reduceCtorEq, clr_int, clr_ref, clr_null, clr_none, clr_long, va_rf_some, va_rf_none, kx, fa, ka]
  refine sp_c_start hZ hL.2.2.2.2.2 (fun w1 Z1 f1 C1 W1 y1 y2 => ?_)
  have G1 : GW w1 x := ⟨⟨_, C1⟩, S0, W1, PI_S0⟩
  have L1 := hL.asm f1 Z1 G1 y1 y2
  simp only [↓s_82_22, ↓s_82_23, ↓s_82_26, ↓s_82_27, kd_uF, ln_uF, ai_uF, al_uF, ar_uF, zs_uF, fd_uF, kd_uA, ln_uA, fd_uA, al_uA, ar_uA, zs_uA, ai_uA, kd_uL, ln_uL, fd_uL, ai_uL, ar_uL, zs_uL, al_uL, kd_uR, ln_uR, fd_uR, ai_uR, al_uR, zs_uR, ar_uR, true_and, and_true, Option.toList_some, Option.toList_none, List.cons_append, List.nil_append, catS_nil, catS_int, catS_ref, catS_null, catS_long, cat_int, cat_ref, cat_null, Nat.reduceEqDiff, Nat.reduceLeDiff, Nat.reduceAdd, false_and, and_false, if_false, if_true, ite_true, ite_false, true_or, or_true, false_or, or_false, and_self, forall_const, true_implies, reduceCtorEq, clr_int, clr_ref, clr_null, clr_none, clr_long, va_rf_some, va_rf_none, L1.1.1, L1.2.2.1.1, L1.2.2.1.2.1]
  have stR : ∀ w w' s, Fr w w' (x + 11) (x + 12) → St1c x w s → St1c x w' s := by
    intro w w' s hF ⟨a, b, c, d, e⟩
    exact ⟨a.R hF, b, ((hF.2.2.2 (x + 3) (by omega)).1 _).trans c, d, e.R hF (Or.inl (by omega))⟩
  have stF : ∀ w s g v, g = 9 ∨ g = 10 → St1c x w s → St1c x (uF w g (x + 3) v) s := by
    intro w s g v hg ⟨a, b, c, d, e⟩
    refine ⟨a.A, b, ?_, d, e.kept ?_ (fun _ _ _ _ => rfl)⟩
    · rw [fd_uF, if_neg (fun z => by omega)]; exact c
    · rw [fd_uF, if_neg (fun z => by omega)]
  have st2R : ∀ t0 w w' s, Fr w w' (x + 11) (x + 12) → St2c x t0 w s → St2c x t0 w' s := by
    intro t0 w w' s hF ⟨a, b, c, d, e⟩
    exact ⟨a.R hF, b, c.R hF (Or.inl (by omega)), d, ((hF.2.2.2 (x + 3) (by omega)).1 _).trans e⟩
  have st2F : ∀ t0 w s g v, g = 9 ∨ g = 10 → St2c x t0 w s → St2c x t0 (uF w g (x + 3) v) s := by
    intro t0 w s g v hg ⟨a, b, c, d, e⟩
    refine ⟨a.A, b, c.kept ?_ (fun _ _ _ _ => rfl), d, ?_⟩
    · rw [fd_uF, if_neg (fun z => by omega)]
    · rw [fd_uF, if_neg (fun z => by omega)]; exact e
  have hdotW : ∀ (w9 : aw) (S : ps), CW w9 x S → CW (uF w9 8 (x + 3) (.int (nI 128))) x S := fun w9 S hW => hW.kept (by rw [fd_uF, if_neg (fun z => absurd z.1 (by decide))]) (fun _ _ _ _ => rfl)
  refine sp_c_over (fi := true) (R := a1 T n) (s := ([], 128)) ov_1 (fun a b s => s1_le) stR stF Z1 G1 ⟨C1.A, TN.nil, by rw [fd_uF, if_pos ⟨rfl, rfl⟩], (by decide : 128 < 4096), hdotW _ _ W1⟩ y1 y2 rfl ?_ (fun r0 w2 f2 Z2 G2 S2 z1 z2 => ?_) (fun r0 r1 w2 f2 Z2 G2 z1 z2 => ?_)
  · have := scan_P (T := T) (n := n) (f := f1s T) (P := fun x => x ≤ 6) (by decide) (fun a b s => s1_99) (n + 1) 0 0 1 false ([], 128)
    have e : (a1 T n).1 ≤ 6 := this
    omega
  · have L2 := L1.asm f2 Z2 G2 z1 z2
    obtain ⟨sC, sN, sD, sd, sW⟩ := S2
    simp only [↓s_82_30, ↓s_82_31, ↓s_82_34, ↓s_82_35, kd_uF, ln_uF, ai_uF, al_uF, ar_uF, zs_uF, fd_uF, kd_uA, ln_uA, fd_uA, al_uA, ar_uA, zs_uA, ai_uA, kd_uL, ln_uL, fd_uL, ai_uL, ar_uL, zs_uL, al_uL, kd_uR, ln_uR, fd_uR, ai_uR, al_uR, zs_uR, ar_uR, true_and, and_true, Option.toList_some, Option.toList_none, List.cons_append, List.nil_append, catS_nil, catS_int, catS_ref, catS_null, catS_long, cat_int, cat_ref, cat_null, Nat.reduceEqDiff, Nat.reduceLeDiff, Nat.reduceAdd, false_and, and_false, if_false, if_true, ite_true, ite_false, true_or, or_true, false_or, or_false, and_self, forall_const, true_implies, reduceCtorEq, clr_int, clr_ref, clr_null, clr_none, clr_long, va_rf_some, va_rf_none, L2.1.1, L2.2.2.1.1, L2.2.2.1.2.1]
    refine sp_c_over (fi := false) (R := a2 T n (a1 T n).2.2.1) (s := S0) (ov_2 (t := (a1 T n).2.2.1)) (fun a b s => s2_lt) (st2R _) (st2F _) Z2 G2 ⟨sC.A, sN, hdotW _ _ sW, PI_S0, by rw [fd_uF, if_pos ⟨rfl, rfl⟩]; rfl⟩ z1 z2 rfl (scan_no99 (n + 1) 0 0 1 false ([], 128) S0 _ r0 rfl) (fun q0 w3 f3 Z3 G3 S3 v1 v2 => ?_) (fun q0 q1 w3 f3 Z3 G3 v1 v2 => ?_)
    · have L3 := L2.asm f3 Z3 G3 v1 v2
      obtain ⟨_, _, tW, tI, _⟩ := S3
      refine j38 w3 0 0 L3 (((f1.tr f2).tr f3).wide (by omega) (by omega)) (fun z => absurd rfl z) (fun _ => ⟨rfl, _, tW, tI, ?_⟩)
      unfold c_asm
      rw [e1]
      dsimp only
      rw [if_neg (fun q => q r0), if_neg (fun q => q q0)]
    · have L3 := L2.asm f3 Z3 G3 v1 v2
      refine j38 w3 _ _ L3 (((f1.tr f2).tr f3).wide (by omega) (by omega)) (fun z => ⟨q1, ?_⟩) (fun z => absurd z q0)
      unfold c_asm
      rw [e1]
      dsimp only
      rw [if_neg (fun q => q r0), if_pos q0]
  · have L2 := L1.asm f2 Z2 G2 z1 z2
    simp only [↓s_82_30, ↓s_82_31, ↓s_82_34, ↓s_82_35, kd_uF, ln_uF, ai_uF, al_uF, ar_uF, zs_uF, fd_uF, kd_uA, ln_uA, fd_uA, al_uA, ar_uA, zs_uA, ai_uA, kd_uL, ln_uL, fd_uL, ai_uL, ar_uL, zs_uL, al_uL, kd_uR, ln_uR, fd_uR, ai_uR, al_uR, zs_uR, ar_uR, true_and, and_true, Option.toList_some, Option.toList_none, List.cons_append, List.nil_append, catS_nil, catS_int, catS_ref, catS_null, catS_long, cat_int, cat_ref, cat_null, Nat.reduceEqDiff, Nat.reduceLeDiff, Nat.reduceAdd, false_and, and_false, if_false, if_true, ite_true, ite_false, true_or, or_true, false_or, or_false, and_self, forall_const, true_implies, reduceCtorEq, clr_int, clr_ref, clr_null, clr_none, clr_long, va_rf_some, va_rf_none, L2.1.1, L2.2.2.1.1, L2.2.2.1.2.1]
    refine sp_c_over0 Z2 G2 r0 r1 z1 z2 (fun w3 f3 Z3 G3 v1 v2 => ?_)
    have L3 := L2.asm f3 Z3 G3 v1 v2
    refine j38 w3 _ _ L3 (((f1.tr f2).tr f3).wide (by omega) (by omega)) (fun z => ⟨r1, ?_⟩) (fun z => absurd z r0)
    unfold c_asm
    rw [e1]
    dsimp only
    rw [if_pos r0]
