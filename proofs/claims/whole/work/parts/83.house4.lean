def K7 (u v : us) : Prop := v.1 7 = u.1 7
theorem K7.rf {u : us} : K7 u u := rfl
theorem K7.S {u v : us} {k x : Nat} (h : K7 u v) (h1 : k ≠ 7) : K7 u (uS v k x) := by unfold K7; rw [uS_ne (Ne.symm h1)]; exact h
theorem K7.sk {u v : us} (h : K7 u v) : K7 u (i_skip v) := h.S (by decide)
theorem K7.ski {u v : us} {c : Bool} (h : K7 u v) : K7 u (i_skipIf v c) := by unfold i_skipIf; split; exact h.sk; exact h
theorem K7.sum {u v : us} {s : Nat} (h : K7 u v) : K7 u (i_sum v s) := by
  unfold i_sum; split
  · exact (h.S (by decide)).S (by decide)
  · exact h.S (by decide)
theorem K7.ref {u v : us} {x own : Nat} (h : K7 u v) : K7 u (i_ref v x own) := by
  have h1 : K7 u (i_refA v x own).1 := by
    unfold i_refA; dsimp only; split
    · show K7 u (i_bump v _)
      unfold i_bump; split
      · exact h
      · exact h
    · exact h
  unfold i_ref
  dsimp only
  revert h1
  generalize (i_refA v x own).1 = v
  generalize (i_refA v x own).2 = a
  intro h1
  split
  · exact h1.S (by decide)
  · exact h1.sum
  · exact K7.ski (v := uMem v _ _) h1
  · exact K7.S (v := uMem v _ _) h1 (by decide)
  · exact K7.S (v := uMem v _ _) h1 (by decide)
  · exact h1.S (by decide)
theorem K7.rot {u v : us} {b : Bool} (h : K7 u v) : K7 u (i_rot v b) := (h.S (by decide)).S (by decide)
theorem K7.ite {u v : us} {k x : Nat} {b : Bool} (h : K7 u v) (h1 : k ≠ 7) : K7 u (if b then uS v k x else v) := by
  split
  · exact h.S h1
  · exact h
theorem K7.op {u v : us} {z : Nat} (h : K7 u v) : K7 u (i_op v z) := by
  unfold i_op
  dsimp only
  have e1 : K7 u (if z.testBit 7 then uS v 1 0 else v) := h.ite (by decide)
  generalize (if z.testBit 7 then uS v 1 0 else v) = x1 at *
  have e2 : K7 u (if z.testBit 6 then uS x1 2 0 else x1) := e1.ite (by decide)
  generalize (if z.testBit 6 then uS x1 2 0 else x1) = x2 at *
  have e3 : K7 u (if z.testBit 5 then uS x2 1 (4095 - x2.1 1) else x2) := e2.ite (by decide)
  generalize (if z.testBit 5 then uS x2 1 (4095 - x2.1 1) else x2) = x3 at *
  have e4 : K7 u (if z.testBit 4 then uS x3 2 (1 - x3.1 2) else x3) := e3.ite (by decide)
  generalize (if z.testBit 4 then uS x3 2 (1 - x3.1 2) else x3) = x4 at *
  have e5 : K7 u (if z.testBit 0 then i_sum x4 (x4.1 1 + 1) else x4) := by split; exact e4.sum; exact e4
  generalize (if z.testBit 0 then i_sum x4 (x4.1 1 + 1) else x4) = x5 at *
  split
  · exact e5
  · split
    · exact e5.rot.rot
    · exact e5.rot
theorem K7.test {u v : us} {z : Nat} (h : K7 u v) : K7 u (i_test v z) := by
  unfold i_test
  dsimp only
  have e0 : K7 u (i_skipIf v (i_cond v z != z.testBit 3)) := h.ski
  generalize i_skipIf v (i_cond v z != z.testBit 3) = x0 at *
  have e1 : K7 u (if z.testBit 7 then uS x0 1 0 else x0) := e0.ite (by decide)
  generalize (if z.testBit 7 then uS x0 1 0 else x0) = x1 at *
  have e2 : K7 u (if z.testBit 2 then uS x1 1 (x1.1 1 ||| x1.1 5) else x1) := e1.ite (by decide)
  generalize (if z.testBit 2 then uS x1 1 (x1.1 1 ||| x1.1 5) else x1) = x2 at *
  split
  · exact e2.S (by decide)
  · exact e2
theorem K7.wait {u v : us} {own how : Nat} (h : K7 u v) : K7 u (i_wait v own how) := (h.S (by decide)).S (by decide)
theorem K7.block {u v : us} {rd : Bool} (h : K7 u v) : K7 u (i_block v rd) := by
  unfold i_block
  dsimp only
  have hv := h.sk
  generalize uMm v (v.1 0) = a
  generalize i_skip v = y at *
  split
  · exact hv.S (by decide)
  · split
    · exact K7.S (v := (y.1, _, y.2.2)) hv (by decide)
    · exact K7.S (v := (y.1, y.2.1, _, y.2.2.2)) hv (by decide)
theorem K7.dev {u v : us} {n x own : Nat} (h : K7 u v) : K7 u (i_dev n v x own) := by
  unfold i_dev
  split
  · exact h.ski
  · split
    · split
      · exact h.wait
      · exact K7.S (v := uInp v _) h (by decide)
    · split
      · exact h.ski
      · split
        · split
          · exact h
          · exact h.wait
        · split
          · split
            · exact h
            · exact ((h.S (by decide)).S (by decide)).S (by decide)
          · split
            · exact h.block
            · split
              · exact h.block
              · split
                · exact h.S (by decide)
                · exact h
theorem K7_inst {u : us} {n : Nat} : (inst n u).1 7 = u.1 7 := by
  show K7 u (inst n u)
  have hv : K7 u (uS (i_skip u) 9 (u.1 9 + 1)) := K7.rf.sk.S (by decide)
  unfold inst
  dsimp only
  split
  · exact hv.ref
  · split
    · exact hv.dev
    · split
      · exact hv.op
      · split
        · exact hv.test
        · exact hv
theorem CAt.S7 {w : aw} {h v s x : Nat} {H : hs} (hC : CAt w h H s) (hv : v < 8) (h6 : H.1 6 = v + 1) : CAt (uF w 396 (ub h v) (.int (nI x))) h (hSet H 7 x) s := by
  have hT := hC.top.Fr (Fr.rf.F (g := 396) (a := ub h v) (v := .int (nI x)) (lo := ub h v) (hi := ub h v + 1) (by omega) (by omega)) (by unfold ub; omega)
  obtain ⟨c, n, b, r⟩ := hT
  obtain ⟨n0, n1, n2, n3, n4, n5, n6, n8, n9, n10⟩ := n
  have i := hC.2.2.2.2.1
  have u := hC.2.2.2.2.2
  have f : ∀ j, (hSet H 7 x).1 j = if j = 7 then x else H.1 j := fun j => rfl
  refine ⟨c, ⟨by rw [f, if_neg (by decide)]; exact n0, by rw [f, if_neg (by decide)]; exact n1, by rw [f, if_neg (by decide)]; exact n2, by rw [f, if_neg (by decide)]; exact n3, by rw [f, if_neg (by decide)]; exact n4, by rw [f, if_neg (by decide)]; exact n5, by rw [f, if_neg (by decide)]; exact n6, by rw [f, if_neg (by decide)]; exact n8, by rw [f, if_neg (by decide)]; exact n9, by rw [f, if_neg (by decide)]; exact n10⟩, b, r, by rw [f, if_neg (by decide)]; exact i, ?_⟩
  rw [f, f, if_neg (by decide), if_pos rfl, h6]
  have e : va_up H.2.2 v (H.2.2 v) = H.2.2 := by funext k; unfold va_up; split; rename_i c; rw [c]; rfl
  have := u.one (a' := v + 1) (b' := x) (Fr.rf.F (by omega) (by omega)) (UAt.TR (y := .int (nI x)) (u v hv).1) (by rw [fd_uF, if_pos ⟨rfl, rfl⟩, if_pos rfl]) (fun k hk => by rw [if_neg (by omega), if_neg (by omega)])
  rw [e] at this
  exact this
theorem CAt.S60 {w : aw} {h v s : Nat} {H : hs} (hC : CAt w h H s) (hv : v < 8) (h6 : H.1 6 = v + 1) : CAt (uF (uF w 396 (ub h v) (.int 0)) 73 h .null) h (hSet (hSet H 6 0) 7 0) s := by
  have hT := hC.top.Fr (Fr.rf.F (g := 396) (a := ub h v) (v := .int (nI 0)) (lo := ub h v) (hi := ub h v + 1) (by omega) (by omega)) (by unfold ub; omega)
  obtain ⟨⟨s0, s1, s2, s3, s4⟩, n, b, ⟨r0, r1⟩⟩ := hT
  obtain ⟨n0, n1, n2, n3, n4, n5, n6, n8, n9, n10⟩ := n
  have i := hC.2.2.2.2.1
  have u := hC.2.2.2.2.2
  have f : ∀ j, (hSet (hSet H 6 0) 7 0).1 j = if j = 7 then 0 else if j = 6 then 0 else H.1 j := fun j => rfl
  refine ⟨⟨s0, s1, s2, s3, s4⟩, ⟨by rw [f, if_neg (by decide), if_neg (by decide)]; exact n0, by rw [f, if_neg (by decide), if_neg (by decide)]; exact n1, by rw [f, if_neg (by decide), if_neg (by decide)]; exact n2, by rw [f, if_neg (by decide), if_neg (by decide)]; exact n3, by rw [f, if_neg (by decide), if_neg (by decide)]; exact n4, by rw [f, if_neg (by decide), if_neg (by decide)]; exact n5, by rw [f, if_neg (by decide), if_pos rfl, fd_uF, if_pos ⟨rfl, rfl⟩, cRun_0], by rw [f, if_neg (by decide), if_neg (by decide)]; exact n8, by rw [f, if_neg (by decide), if_neg (by decide)]; exact n9, by rw [f, if_neg (by decide), if_neg (by decide)]; exact n10⟩, b, ⟨r0, r1⟩, by rw [f, if_neg (by decide), if_neg (by decide)]; exact i, ?_⟩
  rw [f, f, if_neg (by decide), if_pos rfl, if_pos rfl]
  have e : va_up H.2.2 v (H.2.2 v) = H.2.2 := by funext k; unfold va_up; split; rename_i c; rw [c]; rfl
  have := u.one (a' := 0) (b' := 0) (Fr.rf.F (by omega) (by omega)) (UAt.TR (y := .int (nI 0)) (u v hv).1) (by rw [fd_uF, if_pos ⟨rfl, rfl⟩, if_neg (by omega)]) (fun k hk => by rw [if_neg (by omega), h6, if_neg (by omega)])
  rw [e] at this
  exact this.F
theorem sp_C_userAt {d : Nat} {w : aw} {h s : Nat} {x : Int32} {H : hs} {Q : wQ} (hC : CAt w h H s) (h8 : H.1 0 ≤ 8) (h1 : ∀ k, rg x (H.1 0) = some k → k < H.1 0 → x = nI k → Q (some (.ref (ub h k))) w) (h2 : rg x (H.1 0) = none → Q (some .null) w) : wpD (d + 1) 16 [.ref h, .int x] w Q := by
  refine ⟨Nat.le_of_ble_eq_true rfl, ?_⟩
  show wp d 16 Q 0 [some (.ref h), some (.int x)] [] w 0 0
  obtain ⟨⟨s0, s1, s2, s3, s4, s5, s6, s7, s8, s9, s10⟩, ⟨n0, n1, n2, n3, n4, n5, n6, n8, n9, n10⟩, b, ⟨r1, r2, r3⟩, i, u⟩ := hC
  have j21 : rg x (H.1 0) = none → wp d 16 Q 21 [some (.ref h), some (.int x)] [] w 0 0 := by
    intro e
    simp only [↓s_16_21, ↓s_16_22, ↓s_16_31, ↓s_16_31n, kd_uF, ln_uF, ai_uF, al_uF, ar_uF, zs_uF, fd_uF, kd_uA, ln_uA, fd_uA, al_uA, ar_uA, zs_uA, ai_uA, kd_uL, ln_uL, fd_uL, ai_uL, ar_uL, zs_uL, al_uL, kd_uR, ln_uR, fd_uR, ai_uR, al_uR, zs_uR, ar_uR, true_and, and_true, Option.toList_some, Option.toList_none, List.cons_append, List.nil_append, catS_nil, catS_int, catS_ref, catS_null, catS_long, cat_int, cat_ref, cat_null, Nat.reduceEqDiff, Nat.reduceLeDiff, Nat.reduceAdd, false_and, and_false, if_false, if_true, ite_true, ite_false, true_or, or_true, false_or, or_false, and_self, forall_const, true_implies, reduceCtorEq, clr_int, clr_ref, clr_null, clr_none, clr_long, va_rf_some, va_rf_none]
    exact h2 e
  cases e : rg x (H.1 0) with
  | none =>
    have hn : ¬ (0 ≤ x ∧ x ≤ nI (H.1 0) - 1) := fun q => absurd ((rg_le (by omega)).mp q) (by rw [e]; decide)
    simp only [↓s_16_0, ↓s_16_1, ↓s_16_4, ↓s_16_5, ↓s_16_6, ↓s_16_9, ↓s_16_12, ↓s_16_13, ↓s_16_14, ↓s_16_17, ↓s_16_18, ↓s_16_25, ↓s_16_26, ↓s_16_29, ↓s_16_30, ↓s_16_31, ↓s_16_31n, kd_uF, ln_uF, ai_uF, al_uF, ar_uF, zs_uF, fd_uF, kd_uA, ln_uA, fd_uA, al_uA, ar_uA, zs_uA, ai_uA, kd_uL, ln_uL, fd_uL, ai_uL, ar_uL, zs_uL, al_uL, kd_uR, ln_uR, fd_uR, ai_uR, al_uR, zs_uR, ar_uR, true_and, and_true, Option.toList_some, Option.toList_none, List.cons_append, List.nil_append, catS_nil, catS_int, catS_ref, catS_null, catS_long, cat_int, cat_ref, cat_null, Nat.reduceEqDiff, Nat.reduceLeDiff, Nat.reduceAdd, false_and, and_false, if_false, if_true, ite_true, ite_false, true_or, or_true, false_or, or_false, and_self, forall_const, true_implies, reduceCtorEq, clr_int, clr_ref, clr_null, clr_none, clr_long, va_rf_some, va_rf_none, s0, s1, s4, s7, n0]
    refine ⟨fun _ => j21 e, fun q => ⟨fun _ => j21 e, fun q2 => ?_⟩⟩
    exfalso
    have h0 : 0 ≤ x := Int32.not_lt.mp q
    have hx := nI_back h0
    have hl := clamp_lt x
    rw [← hx, nI_leI (by omega) (by omega)] at q2
    unfold rg at e
    rw [if_pos ⟨h0, by omega⟩] at e
    cases e
  | some k =>
    have hk := rg_in e
    have hk2 := hk.2
    subst hk2
    simp only [↓s_16_0, ↓s_16_1, ↓s_16_4, ↓s_16_5, ↓s_16_6, ↓s_16_9, ↓s_16_12, ↓s_16_13, ↓s_16_14, ↓s_16_17, ↓s_16_18, ↓s_16_25, ↓s_16_26, ↓s_16_29, ↓s_16_30, ↓s_16_31, ↓s_16_31n, kd_uF, ln_uF, ai_uF, al_uF, ar_uF, zs_uF, fd_uF, kd_uA, ln_uA, fd_uA, al_uA, ar_uA, zs_uA, ai_uA, kd_uL, ln_uL, fd_uL, ai_uL, ar_uL, zs_uL, al_uL, kd_uR, ln_uR, fd_uR, ai_uR, al_uR, zs_uR, ar_uR, true_and, and_true, Option.toList_some, Option.toList_none, List.cons_append, List.nil_append, catS_nil, catS_int, catS_ref, catS_null, catS_long, cat_int, cat_ref, cat_null, Nat.reduceEqDiff, Nat.reduceLeDiff, Nat.reduceAdd, false_and, and_false, if_false, if_true, ite_true, ite_false, true_or, or_true, false_or, or_false, and_self, forall_const, true_implies, reduceCtorEq, clr_int, clr_ref, clr_null, clr_none, clr_long, va_rf_some, va_rf_none, s0, s1, s4, s7, n0, clN (show k < 2147483648 by omega), s10 k (by omega)]
    refine ⟨fun q => absurd q (nI_pos (by omega)), fun _ => ⟨fun q => absurd q (nI_ge hk.1 (by omega)), fun _ => ⟨by decide, fun _ => ⟨inR_nI (by omega) (by decide), h1 k e hk.1 rfl⟩, fun q => absurd (nI_lt (show k < 8 by omega) (by decide)) q⟩⟩⟩
