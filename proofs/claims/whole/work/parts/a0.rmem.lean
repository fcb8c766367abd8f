theorem or_add {k a b : Nat} (h : b < 2 ^ k) : nI (2 ^ k * a) ||| nI b = nI (2 ^ k * a + b) := by
  rw [or2, ← Nat.two_pow_add_eq_or_of_lt h]
theorem wd_or {mi a : Nat} {by_ : Bool} (ha : a < 4096) : nI (512 * mi + (if by_ = true then 256 else 0)) ||| (if a < 128 then nI a else 128 ||| nI a &&& 127) = nI (wd mi by_ a) := by
  have e1 : (if a < 128 then nI a else 128 ||| nI a &&& 127) = nI (if a < 128 then a else 128 + a % 128) := by
    split
    · rfl
    · rw [m7 (by omega), show (128 : Int32) = nI (2 ^ 7 * 1) from rfl, or_add (k := 7) (Nat.mod_lt _ (by decide))]
  rw [e1]
  have hlt : (if a < 128 then a else 128 + a % 128) < 2 ^ 8 := by
    have := Nat.mod_lt a (show 0 < 128 by decide)
    split <;> omega
  rw [show 512 * mi + (if by_ = true then 256 else 0) = 2 ^ 8 * (2 * mi + (if by_ = true then 1 else 0)) from by cases by_ <;> simp <;> omega, or_add hlt]
  unfold wd
  congr 1
  cases by_ <;> simp <;> omega
theorem wd_lt {mi a : Nat} {by_ : Bool} (hm : mi < 6) : wd mi by_ a < 4096 := by
  unfold wd
  have := Nat.mod_lt a (show 0 < 128 by decide)
  cases by_ <;> simp <;> split <;> omega
theorem putN_none {S : ps} {x y : Nat} (h : S.2.1 S.1 = some y) : putN S x = (5, S) := by unfold putN put1; rw [h]
theorem putN_some {S : ps} {x : Nat} (h : S.2.1 S.1 = none) : putN S x = (0, ((S.1 + 1) % 4096, va_up S.2.1 S.1 (some x), S.2.2.1 ++ [S.1], S.2.2.2)) := by unfold putN put1; rw [h]
def RO (w' : aw) (m : Nat) (r : Nat × ps) : Prop := r.1 = 0 → RWd w' m r.2 ∧ PI r.2 ∧ fd w' 554 m = .int (nI r.2.1)
theorem sp_R_memWord {d : Nat} {w : aw} {m e b mi q0 : Nat} {T : Nat → Nat} {t : nt} {S : ps} {r : Nat × ps} {Q : wQ} (hQ : RQ w m T e t S.1 b) (hN : TN t) (hW : RWd w m S) (hI : PI S) (hm : mi < 6) (hS : eS T e (m3 T e b) = some q0) (hr : r = match eV T e t S.1 (m3 T e b) with | none => (2, S) | some v => putM T e b v mi S) (h : ∀ w', FrD w w' m → RO w' m r → Q (some (.int (nI r.1))) w') : wpD (d + 6) 168 [.ref m, .int (nI mi)] w Q := by
  refine ⟨Nat.le_of_ble_eq_true rfl, ?_⟩
  show wp (d + 5) 168 Q 0 [some (.ref m), some (.int (nI mi)), none, none, none, none, none] [] w 0 0
  have he := hQ.1.2.2.2.2.1
  have hT := hQ.1.2.2.2.2.2.1
  have hpe := hQ.1.2.2.2.2.2.2
  have rk := hQ.1.1.1
  have at' := hQ.1.2.2.2.1
  have hd := hI.1
  -- the word
  have j167 : ∀ w1 S' a (A B : Option Value), eV T e t S.1 (m3 T e b) ≠ none → S'.1 = S.1 → a < 4096 → RSh w1 m → RWd w1 m S' → PI S' → fd w1 554 m = .int (nI S.1) → FrD w w1 m → r = putN S' (wd mi (isBy T e (m1 T e b)) a) → wp (d + 5) 168 Q 167 [some (.ref m), some (.int (nI mi)), some (.int (nI (512 * mi + (if isBy T e (m1 T e b) = true then 256 else 0)))), A, B, some (.int (nI a)), none] [] w1 0 0 := by
    intro w1 S' a A B e0 e1 ha hs1 hW1 hI1 hD1 f1 er
    have rk1 := hs1.1
    have j195 : ∀ y, y = (if a < 128 then nI a else 128 ||| nI a &&& 127) → wp (d + 5) 168 Q 195 [some (.ref m), some (.int (nI mi)), some (.int (nI (512 * mi + (if isBy T e (m1 T e b) = true then 256 else 0)))), A, B, some (.int (nI a)), none] [.int y, .int (nI (512 * mi + (if isBy T e (m1 T e b) = true then 256 else 0))), .int (nI S.1), .ref m] w1 0 0 := by
      intro y hy
      subst hy
      simp only [↓s_168_195, ↓s_168_196, ↓s_168_197, kd_uF, ln_uF, ai_uF, al_uF, ar_uF, zs_uF, fd_uF, kd_uA, ln_uA, fd_uA, al_uA, ar_uA, zs_uA, ai_uA, kd_uL, ln_uL, fd_uL, ai_uL, ar_uL, zs_uL, al_uL, kd_uR, ln_uR, fd_uR, ai_uR, al_uR, zs_uR, ar_uR, true_and, and_true, Option.toList_some, Option.toList_none, List.cons_append, List.nil_append, catS_nil, catS_int, catS_ref, catS_null, catS_long, cat_int, cat_ref, cat_null, Nat.reduceEqDiff, Nat.reduceLeDiff, Nat.reduceAdd, false_and, and_false, if_false, if_true, ite_true, ite_false, true_or, or_true, false_or, or_false, and_self, forall_const, true_implies, reduceCtorEq, clr_int, clr_ref, clr_null, clr_none, clr_long, va_rf_some, va_rf_none, rk1]
      rw [wd_or ha]
      have hd1 : S'.1 < 4096 := by omega
      rw [← e1]
      refine sp_R_comes hs1 hW1 hI1 hd1 (wd_lt hm) (fun y e2 => ?_) (fun e2 => ?_)
      · rw [putN_none e2] at er
        rw [← e1] at hD1
        simp only [↓s_168_200, ↓s_168_202, ↓s_168_203, ↓s_168_204, ↓s_168_207, ↓s_168_208, ↓s_168_209, ↓s_168_212, ↓s_168_213, ↓s_168_216, ↓s_168_218, kd_uF, ln_uF, ai_uF, al_uF, ar_uF, zs_uF, fd_uF, kd_uA, ln_uA, fd_uA, al_uA, ar_uA, zs_uA, ai_uA, kd_uL, ln_uL, fd_uL, ai_uL, ar_uL, zs_uL, al_uL, kd_uR, ln_uR, fd_uR, ai_uR, al_uR, zs_uR, ar_uR, true_and, and_true, Option.toList_some, Option.toList_none, List.cons_append, List.nil_append, catS_nil, catS_int, catS_ref, catS_null, catS_long, cat_int, cat_ref, cat_null, Nat.reduceEqDiff, Nat.reduceLeDiff, Nat.reduceAdd, false_and, and_false, if_false, if_true, ite_true, ite_false, true_or, or_true, false_or, or_false, and_self, forall_const, true_implies, reduceCtorEq, clr_int, clr_ref, clr_null, clr_none, clr_long, va_rf_some, va_rf_none, rk1, hD1]
        rw [er] at h
        exact h _ (f1.F (by omega)) (fun q => absurd (show (5 : Nat) = 0 from q) (by decide))
      · rw [putN_some e2] at er
        rw [← e1] at hD1
        have nl : vp_nar .boolean 0 = 0 := by decide
        rw [nl]
        have hW2 := hW1.put (x := wd mi (isBy T e (m1 T e b)) a) (dd := (S'.1 + 1) % 4096) hI1 hd1 e2
        have hI2 := hI1.put (x := wd mi (isBy T e (m1 T e b)) a) (d := (S'.1 + 1) % 4096) hd1 (wd_lt hm) (Nat.mod_lt _ (by decide)) e2
        simp only [↓s_168_200, ↓s_168_202, ↓s_168_203, ↓s_168_204, ↓s_168_207, ↓s_168_208, ↓s_168_209, ↓s_168_212, ↓s_168_213, ↓s_168_216, ↓s_168_218, kd_uF, ln_uF, ai_uF, al_uF, ar_uF, zs_uF, fd_uF, kd_uA, ln_uA, fd_uA, al_uA, ar_uA, zs_uA, ai_uA, kd_uL, ln_uL, fd_uL, ai_uL, ar_uL, zs_uL, al_uL, kd_uR, ln_uR, fd_uR, ai_uR, al_uR, zs_uR, ar_uR, true_and, and_true, Option.toList_some, Option.toList_none, List.cons_append, List.nil_append, catS_nil, catS_int, catS_ref, catS_null, catS_long, cat_int, cat_ref, cat_null, Nat.reduceEqDiff, Nat.reduceLeDiff, Nat.reduceAdd, false_and, and_false, if_false, if_true, ite_true, ite_false, true_or, or_true, false_or, or_false, and_self, forall_const, true_implies, reduceCtorEq, clr_int, clr_ref, clr_null, clr_none, clr_long, va_rf_some, va_rf_none, rk1, hD1]
        rw [nI_1, m12 (by omega)]
        rw [er] at h
        refine h _ ((((f1.A (by omega) (by omega)).A (by omega) (by omega)).F (by omega)).F (by omega)) (fun _ => ⟨hW2, hI2, ?_⟩)
        rw [fd_uF, if_pos ⟨rfl, rfl⟩]
    simp only [↓s_168_167, ↓s_168_168, ↓s_168_169, ↓s_168_172, ↓s_168_173, ↓s_168_175, ↓s_168_178, ↓s_168_181, ↓s_168_183, ↓s_168_186, ↓s_168_189, ↓s_168_191, ↓s_168_193, ↓s_168_194, kd_uF, ln_uF, ai_uF, al_uF, ar_uF, zs_uF, fd_uF, kd_uA, ln_uA, fd_uA, al_uA, ar_uA, zs_uA, ai_uA, kd_uL, ln_uL, fd_uL, ai_uL, ar_uL, zs_uL, al_uL, kd_uR, ln_uR, fd_uR, ai_uR, al_uR, zs_uR, ar_uR, true_and, and_true, Option.toList_some, Option.toList_none, List.cons_append, List.nil_append, catS_nil, catS_int, catS_ref, catS_null, catS_long, cat_int, cat_ref, cat_null, Nat.reduceEqDiff, Nat.reduceLeDiff, Nat.reduceAdd, false_and, and_false, if_false, if_true, ite_true, ite_false, true_or, or_true, false_or, or_false, and_self, forall_const, true_implies, reduceCtorEq, clr_int, clr_ref, clr_null, clr_none, clr_long, va_rf_some, va_rf_none, rk1, hD1]
    rw [show (128 : Int32) = nI 128 from rfl, nI_leI (by decide) (by omega)]
    refine ⟨fun q => ?_, fun q => ?_⟩
    · exact j195 _ (by rw [if_neg (show ¬ a < 128 by omega)]; rfl)
    · exact j195 _ (by rw [if_pos (show a < 128 by omega)])
  -- the address
  have j131 : ∀ w1 S' a (A B : Option Value), eV T e t S.1 (m3 T e b) ≠ none → S'.1 = S.1 → a < 4096 → RSh w1 m → RWd w1 m S' → PI S' → fd w1 554 m = .int (nI S.1) → FrD w w1 m → r = (if 128 ≤ a ∧ a / 128 ≠ S.1 / 128 then (4, S') else putN S' (wd mi (isBy T e (m1 T e b)) a)) → wp (d + 5) 168 Q 131 [some (.ref m), some (.int (nI mi)), some (.int (nI (512 * mi + (if isBy T e (m1 T e b) = true then 256 else 0)))), A, B, none, none] [.int (nI a)] w1 0 0 := by
    intro w1 S' a A B e0 e1 ha hs1 hW1 hI1 hD1 f1 er
    have rk1 := hs1.1
    simp only [↓s_168_131, ↓s_168_133, ↓s_168_135, ↓s_168_138, ↓s_168_139, ↓s_168_140, ↓s_168_142, ↓s_168_145, ↓s_168_148, ↓s_168_150, ↓s_168_153, ↓s_168_154, ↓s_168_155, ↓s_168_158, ↓s_168_161, ↓s_168_162, ↓s_168_165, ↓s_168_166, kd_uF, ln_uF, ai_uF, al_uF, ar_uF, zs_uF, fd_uF, kd_uA, ln_uA, fd_uA, al_uA, ar_uA, zs_uA, ai_uA, kd_uL, ln_uL, fd_uL, ai_uL, ar_uL, zs_uL, al_uL, kd_uR, ln_uR, fd_uR, ai_uR, al_uR, zs_uR, ar_uR, true_and, and_true, Option.toList_some, Option.toList_none, List.cons_append, List.nil_append, catS_nil, catS_int, catS_ref, catS_null, catS_long, cat_int, cat_ref, cat_null, Nat.reduceEqDiff, Nat.reduceLeDiff, Nat.reduceAdd, false_and, and_false, if_false, if_true, ite_true, ite_false, true_or, or_true, false_or, or_false, and_self, forall_const, true_implies, reduceCtorEq, clr_int, clr_ref, clr_null, clr_none, clr_long, va_rf_some, va_rf_none, rk1, hD1]
    rw [page ha, page hd, show (128 : Int32) = nI 128 from rfl, nI_ltI (by omega) (by decide), nI_eq (by omega) (by omega)]
    refine ⟨fun _ => ⟨fun q => ?_, fun q => ⟨fun q2 => ?_, fun q2 => ?_⟩⟩, fun q => absurd (nI_pos' (by omega)) q⟩
    · exact j167 w1 S' a A (clr B) e0 e1 ha hs1 hW1 hI1 hD1 f1 (by rw [er, if_neg (by omega)])
    · exact j167 w1 S' a A (clr B) e0 e1 ha hs1 hW1 hI1 hD1 f1 (by rw [er, if_neg (by omega)])
    · rw [if_pos (by omega)] at er
      rw [er] at h
      exact h w1 f1 (fun q => absurd (show (4 : Nat) = 0 from q) (by decide))
  -- the expression
  have j97 : ∀ w1 (C : Int32), C = (if isLi T e b = true then 1 else 0) → RQ w1 m T e t S.1 (m3 T e b) → FrA w w1 m → wp (d + 5) 168 Q 97 [some (.ref m), some (.int (nI mi)), some (.int (nI (512 * mi + (if isBy T e (m1 T e b) = true then 256 else 0)))), some (.int C), none, none, none] [] w1 0 0 := by
    intro w1 C hC hq f1
    have rk1 := hq.1.1.1
    simp only [↓s_168_97, ↓s_168_98, kd_uF, ln_uF, ai_uF, al_uF, ar_uF, zs_uF, fd_uF, kd_uA, ln_uA, fd_uA, al_uA, ar_uA, zs_uA, ai_uA, kd_uL, ln_uL, fd_uL, ai_uL, ar_uL, zs_uL, al_uL, kd_uR, ln_uR, fd_uR, ai_uR, al_uR, zs_uR, ar_uR, true_and, and_true, Option.toList_some, Option.toList_none, List.cons_append, List.nil_append, catS_nil, catS_int, catS_ref, catS_null, catS_long, cat_int, cat_ref, cat_null, Nat.reduceEqDiff, Nat.reduceLeDiff, Nat.reduceAdd, false_and, and_false, if_false, if_true, ite_true, ite_false, true_or, or_true, false_or, or_false, and_self, forall_const, true_implies, reduceCtorEq, clr_int, clr_ref, clr_null, clr_none, clr_long, va_rf_some, va_rf_none, rk1]
    refine sp_R_expr hq hN hd (fun q w2 b1 b2 b3 b4 => ?_) (fun b1 => by rw [b1] at hS; cases hS)
    obtain ⟨v', hv4, va, hva, oa⟩ := b4
    have rk2 := b2.1.1.1
    have hD2 := b2.2.2
    have f2 := f1.tr b3
    have hW2 := hW.A f2
    simp only [↓s_168_101, ↓s_168_103, ↓s_168_104, ↓s_168_107, ↓s_168_110, ↓s_168_111, ↓s_168_112, ↓s_168_113, ↓s_168_116, ↓s_168_117, ↓s_168_118, ↓s_168_121, ↓s_168_127, ↓s_168_128, kd_uF, ln_uF, ai_uF, al_uF, ar_uF, zs_uF, fd_uF, kd_uA, ln_uA, fd_uA, al_uA, ar_uA, zs_uA, ai_uA, kd_uL, ln_uL, fd_uL, ai_uL, ar_uL, zs_uL, al_uL, kd_uR, ln_uR, fd_uR, ai_uR, al_uR, zs_uR, ar_uR, true_and, and_true, Option.toList_some, Option.toList_none, List.cons_append, List.nil_append, catS_nil, catS_int, catS_ref, catS_null, catS_long, cat_int, cat_ref, cat_null, Nat.reduceEqDiff, Nat.reduceLeDiff, Nat.reduceAdd, false_and, and_false, if_false, if_true, ite_true, ite_false, true_or, or_true, false_or, or_false, and_self, forall_const, true_implies, reduceCtorEq, clr_int, clr_ref, clr_null, clr_none, clr_long, va_rf_some, va_rf_none, rk2, va, hva]
    cases hv : eV T e t S.1 (m3 T e b) with
    | none =>
      rw [hv] at hr
      simp only [Option.isSome_none, Bool.false_eq_true, if_false]
      rw [hr] at h
      exact ⟨fun q => absurd trivial q, fun _ => h w2 f2.D (fun q => absurd (show (2 : Nat) = 0 from q) (by decide))⟩
    | some v =>
      have ev := oa v hv
      subst ev
      have hne : eV T e t S.1 (m3 T e b) ≠ none := by rw [hv]; exact fun z => by cases z
      rw [hv] at hr
      have hr' : r = putM T e b v mi S := hr
      simp only [Option.isSome_some, if_true]
      refine ⟨fun _ => ?_, fun q => absurd q (by decide)⟩
      rw [hC]
      unfold putM at hr'
      cases cl : isLi T e b with
      | false =>
        rw [cl] at hr'
        simp only [Bool.false_eq_true, if_false]
        refine ⟨fun _ => ?_, fun q => absurd trivial q⟩
        exact j131 w2 S v _ _ hne rfl hv4 b2.1.1 hW2 hI hD2 f2.D hr'
      | true =>
        rw [cl] at hr'
        simp only [if_true] at hr' ⊢
        refine ⟨fun q => absurd q (by decide), fun _ => sp_R_lit b2.1.1 hW2 hI hD2 hv4 (fun a S' w3 c1 c2 c3 c4 c5 c6 => ?_) (fun c1 w3 c2 => ?_)⟩
        · rw [c1] at hr'
          simp only [↓s_168_124, kd_uF, ln_uF, ai_uF, al_uF, ar_uF, zs_uF, fd_uF, kd_uA, ln_uA, fd_uA, al_uA, ar_uA, zs_uA, ai_uA, kd_uL, ln_uL, fd_uL, ai_uL, ar_uL, zs_uL, al_uL, kd_uR, ln_uR, fd_uR, ai_uR, al_uR, zs_uR, ar_uR, true_and, and_true, Option.toList_some, Option.toList_none, List.cons_append, List.nil_append, catS_nil, catS_int, catS_ref, catS_null, catS_long, cat_int, cat_ref, cat_null, Nat.reduceEqDiff, Nat.reduceLeDiff, Nat.reduceAdd, false_and, and_false, if_false, if_true, ite_true, ite_false, true_or, or_true, false_or, or_false, and_self, forall_const, true_implies, reduceCtorEq, clr_int, clr_ref, clr_null, clr_none, clr_long, va_rf_some, va_rf_none]
          exact j131 w3 S' a _ _ hne (lit_dot c1) c2 (c5.T.sh b2.1.1) c4 c3 ((c6 _ (by decide)).trans hD2) (f2.D.tr c5) hr'
        · rw [c1] at hr'
          simp only [↓s_168_124, kd_uF, ln_uF, ai_uF, al_uF, ar_uF, zs_uF, fd_uF, kd_uA, ln_uA, fd_uA, al_uA, ar_uA, zs_uA, ai_uA, kd_uL, ln_uL, fd_uL, ai_uL, ar_uL, zs_uL, al_uL, kd_uR, ln_uR, fd_uR, ai_uR, al_uR, zs_uR, ar_uR, true_and, and_true, Option.toList_some, Option.toList_none, List.cons_append, List.nil_append, catS_nil, catS_int, catS_ref, catS_null, catS_long, cat_int, cat_ref, cat_null, Nat.reduceEqDiff, Nat.reduceLeDiff, Nat.reduceAdd, false_and, and_false, if_false, if_true, ite_true, ite_false, true_or, or_true, false_or, or_false, and_self, forall_const, true_implies, reduceCtorEq, clr_int, clr_ref, clr_null, clr_none, clr_long, va_rf_some, va_rf_none]
          simp only [↓s_168_131, ↓s_168_133, ↓s_168_135, ↓s_168_138, ↓s_168_139, ↓s_168_140, ↓s_168_142, ↓s_168_145, ↓s_168_148, ↓s_168_150, ↓s_168_153, ↓s_168_154, ↓s_168_155, ↓s_168_158, ↓s_168_161, ↓s_168_162, ↓s_168_165, ↓s_168_166, kd_uF, ln_uF, ai_uF, al_uF, ar_uF, zs_uF, fd_uF, kd_uA, ln_uA, fd_uA, al_uA, ar_uA, zs_uA, ai_uA, kd_uL, ln_uL, fd_uL, ai_uL, ar_uL, zs_uL, al_uL, kd_uR, ln_uR, fd_uR, ai_uR, al_uR, zs_uR, ar_uR, true_and, and_true, Option.toList_some, Option.toList_none, List.cons_append, List.nil_append, catS_nil, catS_int, catS_ref, catS_null, catS_long, cat_int, cat_ref, cat_null, Nat.reduceEqDiff, Nat.reduceLeDiff, Nat.reduceAdd, false_and, and_false, if_false, if_true, ite_true, ite_false, true_or, or_true, false_or, or_false, and_self, forall_const, true_implies, reduceCtorEq, clr_int, clr_ref, clr_null, clr_none, clr_long, va_rf_some, va_rf_none]
          rw [hr'] at h
          exact ⟨fun q => absurd q (by decide), fun _ => h w3 (f2.D.tr c2) (fun q => absurd (show (5 : Nat) = 0 from q) (by decide))⟩
  -- behind the I
  have j49 : ∀ w1, RQ w1 m T e t S.1 (m2 T e b) → FrA w w1 m → wp (d + 5) 168 Q 49 [some (.ref m), some (.int (nI mi)), some (.int (nI (512 * mi + (if isBy T e (m1 T e b) = true then 256 else 0)))), none, none, none, none] [] w1 0 0 := by
    intro w1 hq f1
    have rk1 := hq.1.1.1
    have at1 := hq.1.2.2.2.1
    have st1 := hq.1.2.2.1
    have hqe := hq.1.2.2.2.2.2.2
    have hc := lk_lt (T := T) (e := e) (p := m2 T e b) hT
    simp only [↓s_168_49, ↓s_168_50, ↓s_168_51, ↓s_168_54, kd_uF, ln_uF, ai_uF, al_uF, ar_uF, zs_uF, fd_uF, kd_uA, ln_uA, fd_uA, al_uA, ar_uA, zs_uA, ai_uA, kd_uL, ln_uL, fd_uL, ai_uL, ar_uL, zs_uL, al_uL, kd_uR, ln_uR, fd_uR, ai_uR, al_uR, zs_uR, ar_uR, true_and, and_true, Option.toList_some, Option.toList_none, List.cons_append, List.nil_append, catS_nil, catS_int, catS_ref, catS_null, catS_long, cat_int, cat_ref, cat_null, Nat.reduceEqDiff, Nat.reduceLeDiff, Nat.reduceAdd, false_and, and_false, if_false, if_true, ite_true, ite_false, true_or, or_true, false_or, or_false, and_self, forall_const, true_implies, reduceCtorEq, clr_int, clr_ref, clr_null, clr_none, clr_long, va_rf_some, va_rf_none, rk1, at1]
    refine sp_R_look hq.1 (by omega) ?_
    simp only [↓s_168_57, ↓s_168_59, ↓s_168_62, ↓s_168_63, ↓s_168_66, ↓s_168_67, ↓s_168_70, ↓s_168_73, ↓s_168_74, ↓s_168_77, ↓s_168_78, ↓s_168_79, ↓s_168_80, ↓s_168_83, ↓s_168_84, ↓s_168_85, ↓s_168_88, ↓s_168_89, ↓s_168_90, ↓s_168_93, ↓s_168_94, kd_uF, ln_uF, ai_uF, al_uF, ar_uF, zs_uF, fd_uF, kd_uA, ln_uA, fd_uA, al_uA, ar_uA, zs_uA, ai_uA, kd_uL, ln_uL, fd_uL, ai_uL, ar_uL, zs_uL, al_uL, kd_uR, ln_uR, fd_uR, ai_uR, al_uR, zs_uR, ar_uR, true_and, and_true, Option.toList_some, Option.toList_none, List.cons_append, List.nil_append, catS_nil, catS_int, catS_ref, catS_null, catS_long, cat_int, cat_ref, cat_null, Nat.reduceEqDiff, Nat.reduceLeDiff, Nat.reduceAdd, false_and, and_false, if_false, if_true, ite_true, ite_false, true_or, or_true, false_or, or_false, and_self, forall_const, true_implies, reduceCtorEq, clr_int, clr_ref, clr_null, clr_none, clr_long, va_rf_some, va_rf_none, rk1, at1, st1]
    rw [show (40 : Int32) = nI 40 from rfl, nI_eq (by omega) (by decide), nI_leI (by omega) (by omega)]
    refine ⟨fun z => ?_, fun z => ⟨fun z2 => ?_, fun z2 => ?_⟩⟩
    · have hl : isLi T e b = false := by unfold isLi; simp [z]
      have em : m3 T e b = m2 T e b := by unfold m3; rw [if_neg (by rw [hl]; decide)]
      exact ⟨j97 w1 0 (by rw [hl]; rfl) (by rw [em]; exact hq) f1, fun q => absurd trivial q⟩
    · have hlt : m2 T e b < e := lk_pos (T := T) (by rw [z]; decide)
      omega
    · have hl : isLi T e b = true := by unfold isLi; simp [z]
      have em : m3 T e b = bE T e (m2 T e b + 1) := by unfold m3; rw [if_pos hl]
      refine ⟨fun q => absurd q (by decide), fun _ => ?_⟩
      rw [nI_1]
      have g2 := hq.1.at_ (q := m2 T e b + 1) (by omega)
      have f2 : FrA w1 (uF w1 555 m (.int (nI (m2 T e b + 1)))) m := FrA.rf.F (Or.inl rfl)
      refine sp_R_blanks g2 (fun w2 c1 c2 _ => ?_)
      exact j97 w2 1 (by rw [hl]; rfl) (by rw [em]; exact hq.A (f2.tr c2) c1) ((f1.tr f2).tr c2)
  have hwe := wE_le (T := T) hpe
  simp only [↓s_168_0, ↓s_168_3, ↓s_168_4, ↓s_168_5, ↓s_168_6, ↓s_168_7, ↓s_168_8, ↓s_168_9, ↓s_168_12, kd_uF, ln_uF, ai_uF, al_uF, ar_uF, zs_uF, fd_uF, kd_uA, ln_uA, fd_uA, al_uA, ar_uA, zs_uA, ai_uA, kd_uL, ln_uL, fd_uL, ai_uL, ar_uL, zs_uL, al_uL, kd_uR, ln_uR, fd_uR, ai_uR, al_uR, zs_uR, ar_uR, true_and, and_true, Option.toList_some, Option.toList_none, List.cons_append, List.nil_append, catS_nil, catS_int, catS_ref, catS_null, catS_long, cat_int, cat_ref, cat_null, Nat.reduceEqDiff, Nat.reduceLeDiff, Nat.reduceAdd, false_and, and_false, if_false, if_true, ite_true, ite_false, true_or, or_true, false_or, or_false, and_self, forall_const, true_implies, reduceCtorEq, clr_int, clr_ref, clr_null, clr_none, clr_long, va_rf_some, va_rf_none, rk, at']
  refine sp_R_wordEnd hQ.1 (by omega) ?_
  simp only [↓s_168_15, ↓s_168_18, ↓s_168_19, kd_uF, ln_uF, ai_uF, al_uF, ar_uF, zs_uF, fd_uF, kd_uA, ln_uA, fd_uA, al_uA, ar_uA, zs_uA, ai_uA, kd_uL, ln_uL, fd_uL, ai_uL, ar_uL, zs_uL, al_uL, kd_uR, ln_uR, fd_uR, ai_uR, al_uR, zs_uR, ar_uR, true_and, and_true, Option.toList_some, Option.toList_none, List.cons_append, List.nil_append, catS_nil, catS_int, catS_ref, catS_null, catS_long, cat_int, cat_ref, cat_null, Nat.reduceEqDiff, Nat.reduceLeDiff, Nat.reduceAdd, false_and, and_false, if_false, if_true, ite_true, ite_false, true_or, or_true, false_or, or_false, and_self, forall_const, true_implies, reduceCtorEq, clr_int, clr_ref, clr_null, clr_none, clr_long, va_rf_some, va_rf_none, rk]
  have g1 := hQ.1.at_ (q := wE T e b) hwe
  have f1 : FrA w (uF w 555 m (.int (nI (wE T e b)))) m := FrA.rf.F (Or.inl rfl)
  refine sp_R_blanks g1 (fun w1 c1 c2 _ => ?_)
  have hq1 := hQ.A (f1.tr c2) c1
  have rk1 := c1.1.1
  have at1 := c1.2.2.2.1
  have hme := c1.2.2.2.2.2.2
  simp only [↓s_168_22, ↓s_168_23, kd_uF, ln_uF, ai_uF, al_uF, ar_uF, zs_uF, fd_uF, kd_uA, ln_uA, fd_uA, al_uA, ar_uA, zs_uA, ai_uA, kd_uL, ln_uL, fd_uL, ai_uL, ar_uL, zs_uL, al_uL, kd_uR, ln_uR, fd_uR, ai_uR, al_uR, zs_uR, ar_uR, true_and, and_true, Option.toList_some, Option.toList_none, List.cons_append, List.nil_append, catS_nil, catS_int, catS_ref, catS_null, catS_long, cat_int, cat_ref, cat_null, Nat.reduceEqDiff, Nat.reduceLeDiff, Nat.reduceAdd, false_and, and_false, if_false, if_true, ite_true, ite_false, true_or, or_true, false_or, or_false, and_self, forall_const, true_implies, reduceCtorEq, clr_int, clr_ref, clr_null, clr_none, clr_long, va_rf_some, va_rf_none, rk1]
  refine sp_R_isBy c1 (fun z => ?_) (fun z => ?_)
  · have hby : isBy T e (m1 T e b) = true := z
    rw [hby] at j49
    have em : m2 T e b = bE T e (bE T e (wE T e b) + 1) := if_pos z
    have hlt : bE T e (wE T e b) < e := lk_pos (T := T) (by rw [(isBy_iff.mp z).1]; decide)
    simp only [↓s_168_26, ↓s_168_29, ↓s_168_30, ↓s_168_33, ↓s_168_34, ↓s_168_35, ↓s_168_36, ↓s_168_37, ↓s_168_40, ↓s_168_41, ↓s_168_42, ↓s_168_45, ↓s_168_46, kd_uF, ln_uF, ai_uF, al_uF, ar_uF, zs_uF, fd_uF, kd_uA, ln_uA, fd_uA, al_uA, ar_uA, zs_uA, ai_uA, kd_uL, ln_uL, fd_uL, ai_uL, ar_uL, zs_uL, al_uL, kd_uR, ln_uR, fd_uR, ai_uR, al_uR, zs_uR, ar_uR, true_and, and_true, Option.toList_some, Option.toList_none, List.cons_append, List.nil_append, catS_nil, catS_int, catS_ref, catS_null, catS_long, cat_int, cat_ref, cat_null, Nat.reduceEqDiff, Nat.reduceLeDiff, Nat.reduceAdd, false_and, and_false, if_false, if_true, ite_true, ite_false, true_or, or_true, false_or, or_false, and_self, forall_const, true_implies, reduceCtorEq, clr_int, clr_ref, clr_null, clr_none, clr_long, va_rf_some, va_rf_none, rk1, at1]
    rw [nI_1, show (512 : Int32) = nI 512 from rfl, pk_mul, show 512 * mi = 2 ^ 9 * mi from rfl, show (256 : Int32) = nI 256 from rfl, or_add (by decide)]
    have g2 := c1.at_ (q := bE T e (wE T e b) + 1) (by omega)
    refine ⟨fun q => absurd q (by decide), fun _ => sp_R_blanks g2 (fun w2 d1 d2 _ => ?_)⟩
    exact j49 w2 (by rw [em]; exact hq1.A ((FrA.rf.F (Or.inl rfl)).tr d2) d1) (((f1.tr c2).F (Or.inl rfl)).tr d2)
  · have hby : isBy T e (m1 T e b) = false := z
    rw [hby] at j49
    have em : m2 T e b = bE T e (wE T e b) := if_neg (by rw [show m1 T e b = bE T e (wE T e b) from rfl, z]; decide)
    simp only [↓s_168_26, ↓s_168_29, ↓s_168_30, ↓s_168_33, ↓s_168_34, ↓s_168_35, ↓s_168_36, ↓s_168_37, ↓s_168_40, ↓s_168_41, ↓s_168_42, ↓s_168_45, ↓s_168_46, kd_uF, ln_uF, ai_uF, al_uF, ar_uF, zs_uF, fd_uF, kd_uA, ln_uA, fd_uA, al_uA, ar_uA, zs_uA, ai_uA, kd_uL, ln_uL, fd_uL, ai_uL, ar_uL, zs_uL, al_uL, kd_uR, ln_uR, fd_uR, ai_uR, al_uR, zs_uR, ar_uR, true_and, and_true, Option.toList_some, Option.toList_none, List.cons_append, List.nil_append, catS_nil, catS_int, catS_ref, catS_null, catS_long, cat_int, cat_ref, cat_null, Nat.reduceEqDiff, Nat.reduceLeDiff, Nat.reduceAdd, false_and, and_false, if_false, if_true, ite_true, ite_false, true_or, or_true, false_or, or_false, and_self, forall_const, true_implies, reduceCtorEq, clr_int, clr_ref, clr_null, clr_none, clr_long, va_rf_some, va_rf_none]
    rw [show (512 : Int32) = nI 512 from rfl, pk_mul]
    exact ⟨j49 w1 (by rw [em]; exact hq1) (f1.tr c2), fun q => absurd trivial q⟩
