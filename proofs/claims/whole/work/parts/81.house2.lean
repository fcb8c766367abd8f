theorem UAt.TR {w : aw} {b n : Nat} {u : us} {y : Value} (h : UAt w b n u) : UAt (uF w 396 b y) b n u := by
  obtain ⟨h0, h1, h2, h3, h4, h5, h6, s0, s1, s2, s3, s4, s5, s6, s7, s8, s9, m1, m2, m3, f1, f2, f3, p1, p2, p3, li, lo⟩ := h
  exact ⟨h0, h1, h2, h3, h4, h5, h6, s0, s1, s2, s3, s4, s5, s6, s7, s8, s9, m1, m2, m3, f1, f2, f3, p1, p2, p3, li.F (by omega), lo.F (by omega)⟩
def CTop (w : aw) (h : Nat) (f : Nat → Nat) (s : Nat) (r : List Nat) : Prop := CSh w h ∧ CNm w h f ∧ fd w 75 h = .int (nI s) ∧ CRw w h r
theorem CTop.Fr {w w' : aw} {h s lo hi : Nat} {f : Nat → Nat} {r : List Nat} (c : CTop w h f s r) (hF : Fr w w' lo hi) (h1 : h + 4 ≤ lo) : CTop w' h f s r := by
  obtain ⟨⟨s0, s1, s2, s3, s4, s5, s6, s7, s8, s9, s10⟩, ⟨n0, n1, n2, n3, n4, n5, n6, n8, n9, n10⟩, b, ⟨r1, r2, r3⟩⟩ := c
  obtain ⟨hk, hl, hz, ho⟩ := hF
  have o0 := ho h (by omega)
  have o1 := ho (h + 1) (by omega)
  have o2 := ho (h + 2) (by omega)
  exact ⟨⟨by rw [hk]; exact s0, by rw [o0.1]; exact s1, by rw [o0.1]; exact s2, by rw [o0.1]; exact s3, by rw [hk]; exact s4, by rw [hk]; exact s5, by rw [hk]; exact s6, by rw [hl]; exact s7, by rw [hl]; exact s8, by rw [hl]; exact s9, fun k hk' => by rw [o1.2.2.2]; exact s10 k hk'⟩, ⟨by rw [o0.1]; exact n0, by rw [o0.1]; exact n1, by rw [o0.1]; exact n2, by rw [o0.1]; exact n3, by rw [o0.1]; exact n4, by rw [o0.1]; exact n5, by rw [o0.1]; exact n6, by rw [o0.1]; exact n8, by rw [o0.1]; exact n9, by rw [o0.1]; exact n10⟩, by rw [o0.1]; exact b, ⟨by rw [o0.1]; exact r1, fun k hk' => by rw [o2.2.2.2]; exact r2 k hk', fun k q hq => by rw [hk]; rw [o2.2.2.2] at hq; exact r3 k q hq⟩⟩
theorem CUs.one {w w' : aw} {h v a b a' b' : Nat} {U : Nat → us} {x : us} (u : CUs w h U a b) (hF : Fr w w' (ub h v) (ub h v + 8)) (hx : UAt w' (ub h v) v x) (ht : fd w' 396 (ub h v) = .int (nI (if a' = v + 1 then b' else 0))) (ho' : ∀ k, k ≠ v → (if a' = k + 1 then b' else 0) = (if a = k + 1 then b else 0)) : CUs w' h (va_up U v x) a' b' := by
  intro k hk'
  obtain ⟨hk, hl, hz, ho⟩ := hF
  unfold va_up
  by_cases c : k = v
  · subst c
    rw [if_pos rfl]
    exact ⟨hx, ht⟩
  · rw [if_neg c, ho' k c]
    exact ⟨(u k hk').1.keep hk hl (fun j g hj => (ho _ (by unfold ub; omega)).1 g) (fun j i hj => (ho _ (by unfold ub; omega)).2.1 i), ((ho _ (by unfold ub; omega)).1 _).trans (u k hk').2⟩
theorem CUs.top {w w' : aw} {h a b : Nat} {U : Nat → us} (u : CUs w h U a b) (hF : Fr w w' h (h + 4)) : CUs w' h U a b := by
  intro k hk'
  obtain ⟨hk, hl, hz, ho⟩ := hF
  exact ⟨(u k hk').1.keep hk hl (fun j g hj => (ho _ (by unfold ub; omega)).1 g) (fun j i hj => (ho _ (by unfold ub; omega)).2.1 i), ((ho _ (by unfold ub; omega)).1 _).trans (u k hk').2⟩
theorem CAt.top {w : aw} {h s : Nat} {H : hs} (c : CAt w h H s) : CTop w h H.1 s H.2.1 := ⟨c.1, c.2.1, c.2.2.1, c.2.2.2.1⟩
theorem CAt.push {w : aw} {h v s : Nat} {H : hs} (hC : CAt w h H s) (hv : v < 8) : CAt (uF (uR w (h + 2) H.2.1.length (some (ub h v))) 70 h (.int (nI (H.2.1.length + 1)))) h (hRow H (H.2.1 ++ [v])) s := by
  obtain ⟨⟨s0, s1, s2, s3, s4, s5, s6, s7, s8, s9, s10⟩, n, b, ⟨r1, r2, r3⟩, i, u⟩ := hC
  have ku := (u v hv).1.1
  refine ⟨⟨s0, s1, s2, s3, s4, s5, s6, s7, s8, s9, fun k hk => ?_⟩, n, b, ⟨?_, fun k hk => ?_, fun k q hq => ?_⟩, fun t t1 t2 => ?_, u.top ((Fr.rf.R (by omega) (by omega)).F (by omega) (by omega))⟩
  · rw [ar_uF, ar_uR, if_neg (by omega)]; exact s10 k hk
  · rw [fd_uF, if_pos ⟨rfl, rfl⟩]
    show _ = Value.int (nI (H.2.1 ++ [v]).length)
    rw [List.length_append]; rfl
  · have hk' : k < (H.2.1 ++ [v]).length := hk
    show _ = some (ub h ((H.2.1 ++ [v]).getD k 0))
    rw [List.length_append] at hk'
    rw [ar_uF, ar_uR]
    by_cases c : k = H.2.1.length
    · rw [if_pos ⟨rfl, c⟩, c]; simp
    · have hlt : k < H.2.1.length := by simp at hk'; omega
      rw [if_neg (fun q => c q.2), r2 k hlt]
      simp [List.getD_eq_getElem?_getD, List.getElem?_append_left hlt]
  · rw [ar_uF, ar_uR] at hq
    show kd w q = _
    split at hq
    · cases hq; exact ku
    · exact r3 k q hq
  · have := i t t1 t2
    rw [ar_uF, ar_uR, if_neg (by omega)]; exact this
theorem sp_C_ready {d : Nat} {w : aw} {h v s : Nat} {H : hs} {Q : wQ} (hC : CAt w h H s) (hv : v < 8) (hl : H.2.1.length < 8) (hQ : ∀ w', CAt w' h (h_ready H v) s → Fr w w' h (h + 68) → Q none w') : wpD (d + 1) 17 [.ref h, .ref (ub h v)] w Q := by
  refine ⟨Nat.le_of_ble_eq_true rfl, ?_⟩
  show wp d 17 Q 0 [some (.ref h), some (.ref (ub h v))] [] w 0 0
  have hC0 := hC
  obtain ⟨⟨s0, s1, s2, s3, s4, s5, s6, s7, s8, s9, s10⟩, n, b, ⟨r1, r2, r3⟩, i, u⟩ := hC
  have ku := (u v hv).1.1
  have ne : ¬ h = ub h v := by unfold ub; omega
  simp only [↓s_17_0, ↓s_17_1, ↓s_17_4, ↓s_17_5, ↓s_17_8, ↓s_17_9, ↓s_17_12, ↓s_17_12n, ↓s_17_13, ↓s_17_14, ↓s_17_17, ↓s_17_18, ↓s_17_21, ↓s_17_22, ↓s_17_25, ↓s_17_25n, ↓s_17_26, ↓s_17_26n, ↓s_17_27, ↓s_17_28, ↓s_17_29, ↓s_17_32, ↓s_17_33, ↓s_17_34, ↓s_17_37, kd_uF, ln_uF, ai_uF, al_uF, ar_uF, zs_uF, fd_uF, kd_uA, ln_uA, fd_uA, al_uA, ar_uA, zs_uA, ai_uA, kd_uL, ln_uL, fd_uL, ai_uL, ar_uL, zs_uL, al_uL, kd_uR, ln_uR, fd_uR, ai_uR, al_uR, zs_uR, ar_uR, true_and, and_true, Option.toList_some, Option.toList_none, List.cons_append, List.nil_append, catS_nil, catS_int, catS_ref, catS_null, catS_long, cat_int, cat_ref, cat_null, Nat.reduceEqDiff, Nat.reduceLeDiff, Nat.reduceAdd, false_and, and_false, if_false, if_true, ite_true, ite_false, true_or, or_true, false_or, or_false, and_self, forall_const, true_implies, reduceCtorEq, clr_int, clr_ref, clr_null, clr_none, clr_long, va_rf_some, va_rf_none, s0, s2, s5, s8, r1, ku, clN (show H.2.1.length < 2147483648 by omega), eq_false ne, false_and, and_false, if_false]
  rw [nI_1]
  refine ⟨by decide, fun q => absurd q (nI_ge hl (by decide)), fun _ => ⟨inR_nI hl (by decide), fun q e => by cases e; exact ku, ?_⟩⟩
  have h1 : CAt (uF w 394 (ub h v) (.int (nI 1))) h (hU H v (uS (H.2.2 v) 3 1)) s := hC0.U hv FrU.rf.S3 (u v hv).1.S3 (uS_ne (by decide))
  have h2 := h1.push (v := v) hv
  exact hQ _ h2 (((Fr.rf.F (by unfold ub; omega) (by unfold ub; omega)).R (by omega) (by omega)).F (by omega) (by omega))
theorem out7 {U : Nat → us} {n t k : Nat} : (h_out U n t k).1 7 = if k < n ∧ (U k).1 7 = t then 0 else (U k).1 7 := by
  unfold h_out
  split
  · exact uS_at
  · rfl
theorem out_none {U : Nat → us} {n t : Nat} (h : ∀ v, (U v).1 7 ≠ t) : h_out U n t = U := by
  funext k
  unfold h_out
  rw [if_neg (fun q => h k q.2)]
theorem out_one {U : Nat → us} {n t v : Nat} (hv : v < n) (h1 : (U v).1 7 = t) (h2 : ∀ k, (U k).1 7 = t → k = v) : h_out U n t = va_up U v (uS (U v) 7 0) := by
  funext k
  unfold h_out va_up
  by_cases c : k = v
  · subst c; rw [if_pos ⟨hv, h1⟩, if_pos rfl]
  · rw [if_neg (fun q => c (h2 k q.2)), if_neg c]
theorem sp_C_swap {d : Nat} {w : aw} {h v s : Nat} {H : hs} {Q : wQ} (hC : CAt w h H s) (hv : v < H.1 0) (h8 : H.1 0 ≤ 8) (h7 : (H.2.2 v).1 7 = 0) (h9 : 1 ≤ H.1 9) (h91 : H.1 9 ≤ H.1 1) (h1 : H.1 1 < 8) (hs : H.1 8 < 4096) (hQ : ∀ w', CAt w' h (h_swap H v) s → Fr w w' h (h + 68) → Q none w') : wpD (d + 1) 19 [.ref h, .ref (ub h v)] w Q := by
  refine ⟨Nat.le_of_ble_eq_true rfl, ?_⟩
  show wp d 19 Q 0 [some (.ref h), some (.ref (ub h v)), none] [] w 0 0
  have hC0 := hC
  have ht := hC.top
  obtain ⟨⟨s0, s1, s2, s3, s4, s5, s6, s7, s8, s9, s10⟩, ⟨n0, n1, n2, n3, n4, n5, n6, n8, n9, n10⟩, b, ⟨r1, r2, r3⟩, i, u⟩ := hC
  have ct : (nI (H.1 9)).toNatClampNeg = H.1 9 := clN (by omega)
  -- behind the one that was there
  have j32 : ∀ (w1 : aw) (L : Option Value), Fr w w1 (h + 4) (h + 68) → CUs w1 h (h_out H.2.2 (H.1 0) (H.1 9)) (H.1 6) (H.1 7) → wp d 19 Q 32 [some (.ref h), some (.ref (ub h v)), L] [] w1 0 0 := by
    intro w1 L f1 u1
    have hT := ht.Fr f1 (Nat.le_refl _)
    obtain ⟨⟨s0, s1, s2, s3, s4, s5, s6, s7, s8, s9, s10⟩, ⟨n0, n1, n2, n3, n4, n5, n6, n8, n9, n10⟩, b, ⟨r1, r2, r3⟩⟩ := hT
    have ku := (u1 v (by omega)).1.1
    have e3 : ∀ k, ar w1 (h + 3) k = ar w (h + 3) k := (f1.2.2.2 (h + 3) (by omega)).2.2.2
    simp only [↓s_19_32, ↓s_19_33, ↓s_19_36, ↓s_19_37, ↓s_19_40, ↓s_19_40n, ↓s_19_41, ↓s_19_41n, ↓s_19_42, ↓s_19_42n, ↓s_19_43, ↓s_19_44, ↓s_19_47, ↓s_19_50, ↓s_19_51, ↓s_19_52, ↓s_19_55, ↓s_19_56, ↓s_19_57, ↓s_19_60, ↓s_19_61, ↓s_19_64, ↓s_19_65, ↓s_19_66, ↓s_19_69, ↓s_19_70, ↓s_19_73, ↓s_19_76, ↓s_19_77, ↓s_19_80, ↓s_19_81, ↓s_19_84, ↓s_19_85, ↓s_19_86, ↓s_19_89, kd_uF, ln_uF, ai_uF, al_uF, ar_uF, zs_uF, fd_uF, kd_uA, ln_uA, fd_uA, al_uA, ar_uA, zs_uA, ai_uA, kd_uL, ln_uL, fd_uL, ai_uL, ar_uL, zs_uL, al_uL, kd_uR, ln_uR, fd_uR, ai_uR, al_uR, zs_uR, ar_uR, true_and, and_true, Option.toList_some, Option.toList_none, List.cons_append, List.nil_append, catS_nil, catS_int, catS_ref, catS_null, catS_long, cat_int, cat_ref, cat_null, Nat.reduceEqDiff, Nat.reduceLeDiff, Nat.reduceAdd, false_and, and_false, if_false, if_true, ite_true, ite_false, true_or, or_true, false_or, or_false, and_self, forall_const, true_implies, reduceCtorEq, clr_int, clr_ref, clr_null, clr_none, clr_long, va_rf_some, va_rf_none, s0, s3, s6, s9, n9, n1, n8, ku, ct]
    rw [nI_1, m12 (by omega), nI_1, nI_ltI (by omega) (by omega)]
    have go : ∀ y, (y = if H.1 9 = H.1 1 then 1 else H.1 9 + 1) → Q none (uF (uF (uF (uR w1 (h + 3) (H.1 9) (some (ub h v))) 398 (ub h v) (.int (nI (H.1 9)))) 77 h (.int (nI ((H.1 8 + 1) % 4096)))) 72 h (.int (nI y))) := by
      intro y hy
      subst hy
      refine hQ _ ?_ ((((((f1.wide (lo' := h) (hi' := h + 68) (by omega) (by omega))).R (by omega) (by omega)).F (by unfold ub; omega) (by unfold ub; omega)).F (by omega) (by omega)).F (by omega) (by omega))
      unfold h_swap
      refine CAt.S9 (CAt.S8 ?_)
      have f2 : Fr w1 (uF (uR w1 (h + 3) (H.1 9) (some (ub h v))) 398 (ub h v) (.int (nI (H.1 9)))) (h + 3) (h + 68) := (Fr.rf.R (by omega) (by omega)).F (by unfold ub; omega) (by unfold ub; omega)
      have nb : ¬ h = ub h v := by unfold ub; omega
      have eA : ∀ g, fd (uF (uR w1 (h + 3) (H.1 9) (some (ub h v))) 398 (ub h v) (.int (nI (H.1 9)))) g h = fd w1 g h := (f2.2.2.2 h (by omega)).1
      have eR1 : ∀ k, ar (uF (uR w1 (h + 3) (H.1 9) (some (ub h v))) 398 (ub h v) (.int (nI (H.1 9)))) (h + 1) k = ar w1 (h + 1) k := (f2.2.2.2 (h + 1) (by omega)).2.2.2
      have eR2 : ∀ k, ar (uF (uR w1 (h + 3) (H.1 9) (some (ub h v))) 398 (ub h v) (.int (nI (H.1 9)))) (h + 2) k = ar w1 (h + 2) k := (f2.2.2.2 (h + 2) (by omega)).2.2.2
      refine ⟨⟨s0, by rw [eA]; exact s1, by rw [eA]; exact s2, by rw [eA]; exact s3, s4, s5, s6, s7, s8, s9, fun k hk => by rw [eR1]; exact s10 k hk⟩, ⟨by rw [eA]; exact n0, by rw [eA]; exact n1, by rw [eA]; exact n2, by rw [eA]; exact n3, by rw [eA]; exact n4, by rw [eA]; exact n5, by rw [eA]; exact n6, by rw [eA]; exact n8, by rw [eA]; exact n9, by rw [eA]; exact n10⟩, by rw [eA]; exact b, ⟨by rw [eA]; exact r1, fun k hk => by rw [eR2]; exact r2 k hk, fun k q hq => by rw [eR2] at hq; exact r3 k q hq⟩, fun t t1 t2 => ?_, ?_⟩
      · have e7 : ∀ k, (va_up (h_out H.2.2 (H.1 0) (H.1 9)) v (uS (h_out H.2.2 (H.1 0) (H.1 9) v) 7 (H.1 9)) k).1 7 = if k = v then H.1 9 else if k < H.1 0 ∧ (H.2.2 k).1 7 = H.1 9 then 0 else (H.2.2 k).1 7 := fun k => by
          unfold va_up
          by_cases c : k = v
          · rw [if_pos c, if_pos c, uS_at]
          · rw [if_neg c, if_neg c, out7]
        show (∃ v_1, v_1 < H.1 0 ∧ _) ∨ _
        rw [ar_uF, ar_uR]
        by_cases c : t = H.1 9
        · refine Or.inl ⟨v, hv, by rw [if_pos ⟨rfl, c⟩], by have := e7 v; rw [if_pos rfl] at this; exact this.trans c.symm, fun k hk => ?_⟩
          have hk' : (va_up (h_out H.2.2 (H.1 0) (H.1 9)) v (uS (h_out H.2.2 (H.1 0) (H.1 9) v) 7 (H.1 9)) k).1 7 = t := hk
          rw [e7] at hk'
          by_cases c2 : k = v
          · exact c2
          · rw [if_neg c2] at hk'
            split at hk'
            · omega
            · rename_i c3
              rcases i t t1 t2 with ⟨a, d1, d2, d3, d4⟩ | ⟨d1, d2⟩
              · have := d4 k hk'
                exact absurd ⟨by omega, by omega⟩ c3
              · exact absurd hk' (d2 k)
        · rw [if_neg (fun q => c q.2), e3]
          rcases i t t1 t2 with ⟨a, d1, d2, d3, d4⟩ | ⟨d1, d2⟩
          · refine Or.inl ⟨a, d1, d2, ?_, fun k hk => ?_⟩
            · have := e7 a
              rw [if_neg (fun q : a = v => by rw [q] at d3; omega), if_neg (fun q => by omega)] at this
              exact this.trans d3
            · have hk' : (va_up (h_out H.2.2 (H.1 0) (H.1 9)) v (uS (h_out H.2.2 (H.1 0) (H.1 9) v) 7 (H.1 9)) k).1 7 = t := hk
              rw [e7] at hk'
              split at hk'
              · omega
              · split at hk'
                · omega
                · exact d4 k hk'
          · refine Or.inr ⟨d1, fun k hk => ?_⟩
            have hk' : (va_up (h_out H.2.2 (H.1 0) (H.1 9)) v (uS (h_out H.2.2 (H.1 0) (H.1 9) v) 7 (H.1 9)) k).1 7 = t := hk
            rw [e7] at hk'
            split at hk'
            · omega
            · split at hk'
              · omega
              · exact d2 k hk'
      · have u2 : CUs (uR w1 (h + 3) (H.1 9) (some (ub h v))) h (h_out H.2.2 (H.1 0) (H.1 9)) (H.1 6) (H.1 7) := u1.top (Fr.rf.R (by omega) (by omega))
        exact u2.one (Fr.rf.F (by omega) (by omega)) (u2 v (by omega)).1.S7 (u2 v (by omega)).2 (fun _ _ => rfl)
    refine ⟨inR_nI (by omega) (by decide), fun q e => by cases e; exact ku, fun q => go _ ?_, fun q => go _ ?_⟩
    · rw [if_neg (by omega)]
    · rw [if_pos (by omega)]
  simp only [↓s_19_0, ↓s_19_1, ↓s_19_4, ↓s_19_5, ↓s_19_8, ↓s_19_9, ↓s_19_12, ↓s_19_13, ↓s_19_14, ↓s_19_17, ↓s_19_18, ↓s_19_21, ↓s_19_22, ↓s_19_22n, ↓s_19_23, ↓s_19_23n, ↓s_19_24, ↓s_19_24n, ↓s_19_27, ↓s_19_27n, ↓s_19_28, ↓s_19_29, kd_uF, ln_uF, ai_uF, al_uF, ar_uF, zs_uF, fd_uF, kd_uA, ln_uA, fd_uA, al_uA, ar_uA, zs_uA, ai_uA, kd_uL, ln_uL, fd_uL, ai_uL, ar_uL, zs_uL, al_uL, kd_uR, ln_uR, fd_uR, ai_uR, al_uR, zs_uR, ar_uR, true_and, and_true, Option.toList_some, Option.toList_none, List.cons_append, List.nil_append, catS_nil, catS_int, catS_ref, catS_null, catS_long, cat_int, cat_ref, cat_null, Nat.reduceEqDiff, Nat.reduceLeDiff, Nat.reduceAdd, false_and, and_false, if_false, if_true, ite_true, ite_false, true_or, or_true, false_or, or_false, and_self, forall_const, true_implies, reduceCtorEq, clr_int, clr_ref, clr_null, clr_none, clr_long, va_rf_some, va_rf_none, s0, s3, s6, s9, n9, ct]
  rw [nI_ltI (by omega) (by decide)]
  refine ⟨by decide, fun _ => ⟨inR_nI (by omega) (by decide), ?_⟩, fun q => absurd (by omega) q⟩
  rcases i (H.1 9) h9 (by omega) with ⟨a, d1, d2, d3, d4⟩ | ⟨d1, d2⟩
  · have ka := (u a (by omega)).1.1
    rw [d2]
    simp only [↓s_19_22, ↓s_19_22n, ↓s_19_23, ↓s_19_23n, ↓s_19_24, ↓s_19_24n, ↓s_19_27, ↓s_19_27n, ↓s_19_28, ↓s_19_29, kd_uF, ln_uF, ai_uF, al_uF, ar_uF, zs_uF, fd_uF, kd_uA, ln_uA, fd_uA, al_uA, ar_uA, zs_uA, ai_uA, kd_uL, ln_uL, fd_uL, ai_uL, ar_uL, zs_uL, al_uL, kd_uR, ln_uR, fd_uR, ai_uR, al_uR, zs_uR, ar_uR, true_and, and_true, Option.toList_some, Option.toList_none, List.cons_append, List.nil_append, catS_nil, catS_int, catS_ref, catS_null, catS_long, cat_int, cat_ref, cat_null, Nat.reduceEqDiff, Nat.reduceLeDiff, Nat.reduceAdd, false_and, and_false, if_false, if_true, ite_true, ite_false, true_or, or_true, false_or, or_false, and_self, forall_const, true_implies, reduceCtorEq, clr_int, clr_ref, clr_null, clr_none, clr_long, va_rf_some, va_rf_none, ka]
    refine j32 _ _ (Fr.rf.F (by unfold ub; omega) (by unfold ub; omega)) ?_
    rw [out_one d1 d3 d4]
    exact u.one (Fr.rf.F (by omega) (by omega)) (u a (by omega)).1.S7 (u a (by omega)).2 (fun _ _ => rfl)
  · rw [d1]
    simp only [↓s_19_22, ↓s_19_22n, ↓s_19_23, ↓s_19_23n, ↓s_19_24, ↓s_19_24n, ↓s_19_27, ↓s_19_27n, ↓s_19_28, ↓s_19_29, kd_uF, ln_uF, ai_uF, al_uF, ar_uF, zs_uF, fd_uF, kd_uA, ln_uA, fd_uA, al_uA, ar_uA, zs_uA, ai_uA, kd_uL, ln_uL, fd_uL, ai_uL, ar_uL, zs_uL, al_uL, kd_uR, ln_uR, fd_uR, ai_uR, al_uR, zs_uR, ar_uR, true_and, and_true, Option.toList_some, Option.toList_none, List.cons_append, List.nil_append, catS_nil, catS_int, catS_ref, catS_null, catS_long, cat_int, cat_ref, cat_null, Nat.reduceEqDiff, Nat.reduceLeDiff, Nat.reduceAdd, false_and, and_false, if_false, if_true, ite_true, ite_false, true_or, or_true, false_or, or_false, and_self, forall_const, true_implies, reduceCtorEq, clr_int, clr_ref, clr_null, clr_none, clr_long, va_rf_some, va_rf_none]
    refine j32 _ _ Fr.rf ?_
    rw [out_none d2]
    exact u
