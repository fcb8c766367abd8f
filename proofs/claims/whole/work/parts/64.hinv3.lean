theorem HI.insta {H : hs} (h : HI H) : HI (h_inst H) := by
  unfold h_inst
  split
  · exact h.set (by omega)
  · rename_i q
    obtain ⟨a0, a1, a2, a3, a6, a7, a8, a9, an, ar, at', as, ab⟩ := h
    have hk := IK_inst (u := H.2.2 (H.1 6 - 1)) (n := H.1 6 - 1)
    have hb := UB_inst (n := H.1 6 - 1) (ab (H.1 6 - 1)) (by omega)
    have hs := at' q
    generalize inst (H.1 6 - 1) (H.2.2 (H.1 6 - 1)) = x at *
    split
    · rename_i q2
      exact HI.U ⟨a0, a1, a2, a3, a6, a7, a8, a9, an, ar, at', as, ab⟩ hb (q2.trans hs.symm) (fun q => by omega)
    · rename_i q2
      have f : ∀ j, (hSet (hSet (hU H (H.1 6 - 1) x) 6 0) 7 0).1 j = if j = 7 then 0 else if j = 6 then 0 else H.1 j := fun j => rfl
      refine ⟨by rw [f, if_neg (by decide), if_neg (by decide)]; exact a0, by rw [f, if_neg (by decide), if_neg (by decide)]; exact a1, by rw [f, if_neg (by decide), if_neg (by decide)]; exact a2, by rw [f, if_neg (by decide), if_neg (by decide)]; exact a3, by rw [f, if_neg (by decide), if_pos rfl]; exact Nat.zero_le _, by rw [f, if_pos rfl]; exact Nat.zero_le _, by rw [f, if_neg (by decide), if_neg (by decide)]; exact a8, ⟨by rw [f, if_neg (by decide), if_neg (by decide)]; exact a9.1, by rw [f, f, f, f, f]; exact a9.2⟩, an, fun v hv => ⟨by rw [f, if_neg (by decide), if_neg (by decide)]; exact (ar v hv).1, ?_⟩, fun q => absurd (by rw [f, if_neg (by decide), if_pos rfl]) q, fun v hv => ?_, UB_hU ab hb⟩
      · show ((hU H (H.1 6 - 1) x).2.2 v).1 3 = 1
        have := (ar v hv).2
        rw [hU_ne (fun e : v = H.1 6 - 1 => by rw [← e] at hs; omega)]; exact this
      · have hv' : ((hU H (H.1 6 - 1) x).2.2 v).1 3 = 5 := hv
        show 1 ≤ ((hU H (H.1 6 - 1) x).2.2 v).1 4
        by_cases c : v = H.1 6 - 1
        · subst c
          rw [hU_at] at hv' ⊢
          have := hk.2
          omega
        · rw [hU_ne c] at hv' ⊢; exact as v hv'
theorem HI.disp {H : hs} (h : HI H) : HI (h_disp H) := by
  have hB := h.2.2.2.2.2.2.2.2.2.2.2.2
  obtain ⟨a0, a1, a2, a3, a6, a7, a8, a9, an, ar, at', as, ab⟩ := h
  unfold h_disp
  split
  · exact ⟨a0, a1, a2, a3, a6, a7, a8, a9, an, ar, at', as, ab⟩
  · rename_i q
    split
    · exact ⟨a0, a1, a2, a3, a6, a7, a8, a9, an, ar, at', as, ab⟩
    · rename_i u r e
      rw [e] at an ar
      have an' := List.nodup_cons.mp an
      have hu := ar u List.mem_cons_self
      have k1 : HI (hU (hSet (hSet (hRow H r) 6 (u + 1)) 7 (H.1 2)) u (uS (H.2.2 u) 3 2)) := by
        have f : ∀ j, (hU (hSet (hSet (hRow H r) 6 (u + 1)) 7 (H.1 2)) u (uS (H.2.2 u) 3 2)).1 j = if j = 7 then H.1 2 else if j = 6 then u + 1 else H.1 j := fun j => rfl
        refine ⟨by rw [f, if_neg (by decide), if_neg (by decide)]; exact a0, by rw [f, if_neg (by decide), if_neg (by decide)]; exact a1, by rw [f, if_neg (by decide), if_neg (by decide)]; exact a2, by rw [f, if_neg (by decide), if_neg (by decide)]; exact a3, by rw [f, f, if_neg (by decide), if_pos rfl, if_neg (by decide), if_neg (by decide)]; exact hu.1, by rw [f, if_pos rfl]; exact a2, by rw [f, if_neg (by decide), if_neg (by decide)]; exact a8, ⟨by rw [f, if_neg (by decide), if_neg (by decide)]; exact a9.1, by rw [f, f, f, f, f]; exact a9.2⟩, an'.2, fun v hv => ⟨by rw [f, if_neg (by decide), if_neg (by decide)]; exact (ar v (List.mem_cons_of_mem _ hv)).1, ?_⟩, fun _ => ?_, fun v hv => ?_, UB_hU ab ((ab u).S3 (by decide))⟩
        · have := (ar v (List.mem_cons_of_mem _ hv)).2
          show ((hU H u (uS (H.2.2 u) 3 2)).2.2 v).1 3 = 1
          rw [hU_ne (fun e : v = u => an'.1 (by rw [← e]; exact hv))]; exact this
        · rw [f, if_neg (by decide), if_pos rfl, Nat.add_sub_cancel]
          show ((hU H u (uS (H.2.2 u) 3 2)).2.2 u).1 3 = 2
          rw [hU_at, uS_at]
        · have hv' : ((hU H u (uS (H.2.2 u) 3 2)).2.2 v).1 3 = 5 := hv
          show 1 ≤ ((hU H u (uS (H.2.2 u) 3 2)).2.2 v).1 4
          by_cases c : v = u
          · subst c; rw [hU_at, uS_at] at hv'; omega
          · rw [hU_ne c] at hv' ⊢; exact as v hv'
      have hz : (hU (hSet (hSet (hRow H r) 6 (u + 1)) 7 (H.1 2)) u (uS (H.2.2 u) 3 2)).1 0 ≠ 0 := by
        show H.1 0 ≠ 0
        omega
      split
      · exact k1
      · generalize hU (hSet (hSet (hRow H r) 6 (u + 1)) 7 (H.1 2)) u (uS (H.2.2 u) 3 2) = K at *
        unfold h_swap
        have k2 : ∀ U : Nat → us, (∀ v, (U v).1 3 = (K.2.2 v).1 3 ∧ (U v).1 4 = (K.2.2 v).1 4) → (∀ v, UB (U v)) → HI (K.1, K.2.1, U) := by
          intro U hU hUB
          obtain ⟨a0, a1, a2, a3, a6, a7, a8, a9, an, ar, at', as, ab⟩ := k1
          exact ⟨a0, a1, a2, a3, a6, a7, a8, a9, an, fun v hv => ⟨(ar v hv).1, (hU v).1.trans (ar v hv).2⟩, fun q => (hU _).1.trans (at' q), fun v hv => by rw [(hU v).2]; exact as v ((hU v).1.symm.trans hv), hUB⟩
        have hKB := k1.2.2.2.2.2.2.2.2.2.2.2.2
        have ho : ∀ v, (h_out K.2.2 (K.1 0) (K.1 9) v).1 3 = (K.2.2 v).1 3 ∧ (h_out K.2.2 (K.1 0) (K.1 9) v).1 4 = (K.2.2 v).1 4 := fun v => by
          unfold h_out; split
          · exact ⟨uS_ne (by decide), uS_ne (by decide)⟩
          · exact ⟨rfl, rfl⟩
        have hoB : ∀ v, UB (h_out K.2.2 (K.1 0) (K.1 9) v) := fun v => by
          unfold h_out; split
          · exact (hKB v).S7 (by decide)
          · exact hKB v
        have h9 := k1.2.2.2.2.2.2.2.1.1
        have h11 := k1.2.1
        refine HI.set (HI.set (k2 _ (fun v => ?_) (fun v => ?_)) (by have := Nat.mod_lt (K.1 8 + 1) (show 0 < 4096 by decide); omega)) ?_
        · unfold va_up; split
          · rename_i c; rw [c]; exact ⟨(uS_ne (by decide)).trans (ho u).1, (uS_ne (by decide)).trans (ho u).2⟩
          · exact ho v
        · unfold va_up; split
          · exact (hoB u).S7 h9
          · exact hoB v
        · have h10 := k1.2.2.2.2.2.2.2.1.2 hz
          have h12 : (if K.1 9 = K.1 1 then 1 else K.1 9 + 1) < 8 ∧ 1 ≤ (if K.1 9 = K.1 1 then 1 else K.1 9 + 1) ∧ (if K.1 9 = K.1 1 then 1 else K.1 9 + 1) ≤ K.1 1 := by split <;> omega
          exact Or.inr (Or.inr (Or.inr (Or.inr (Or.inr (Or.inr ⟨rfl, h12⟩)))))
theorem h_disp_0 {H : hs} {j : Nat} (h : j = 0 ∨ j = 1 ∨ j = 2 ∨ j = 3 ∨ j = 4 ∨ j = 5 ∨ j = 10) : (h_disp H).1 j = H.1 j := by
  unfold h_disp
  split
  · rfl
  · split
    · rfl
    · split
      · show (hSet (hSet (hRow H _) 6 _) 7 (H.1 2)).1 j = H.1 j
        rw [hSet_ne (by omega), hSet_ne (by omega)]; rfl
      · unfold h_swap
        rw [hSet_ne (by omega), hSet_ne (by omega)]
        show (hSet (hSet (hRow H _) 6 _) 7 (H.1 2)).1 j = H.1 j
        rw [hSet_ne (by omega), hSet_ne (by omega)]; rfl
theorem h_inst_0 {H : hs} {j : Nat} (h : j = 0 ∨ j = 1 ∨ j = 2 ∨ j = 3 ∨ j = 4 ∨ j = 5) : (h_inst H).1 j = H.1 j := by
  unfold h_inst
  split
  · rw [hSet_ne (by omega)]
  · split
    · rfl
    · rw [hSet_ne (by omega), hSet_ne (by omega)]; rfl
theorem h_tick_0 {H : hs} {j : Nat} (h : j = 0 ∨ j = 1 ∨ j = 2 ∨ j = 3 ∨ j = 4 ∨ j = 10) : (h_tick H).1 j = H.1 j := by
  unfold h_tick h_quant
  have e : (h_ticks (hSet H 5 (H.1 5 + 1)) (H.1 0)).1 j = H.1 j := by rw [h_ticks_1, hSet_ne (by omega)]
  split
  · exact e
  · split
    · rw [hSet_ne (by omega)]; exact e
    · rw [h_ready_1, hSet_ne (by omega), hSet_ne (by omega)]; exact e
/-- letters printed so far -/
def PM (H : hs) (k : Nat) : Prop := ∀ v, (H.2.2 v).1 8 + (if v < k then 0 else 1) ≤ H.1 5
theorem PM.ready {H : hs} {k u : Nat} (h : PM H k) : PM (h_ready H u) k := by
  intro v
  show ((hU H u (uS (H.2.2 u) 3 1)).2.2 v).1 8 + _ ≤ H.1 5
  by_cases c : v = u
  · subst c; rw [hU_at, uS_ne (by decide)]; exact h v
  · rw [hU_ne c]; exact h v
theorem PM.tickU {H : hs} {k : Nat} (h : PM H k) : PM (h_tickU H k) (k + 1) := by
  have h1 : PM (h_print H k) (k + 1) := by
    have h2 : PM H (k + 1) := fun v => by have := h v; split at this <;> split <;> omega
    unfold h_print
    split
    · exact h2
    · rename_i c r e
      have h3 : PM (hU H k (uS (uPap (uOut (H.2.2 k) r) ((H.2.2 k).1 8 % 512) c) 8 ((H.2.2 k).1 8 + 1))) (k + 1) := by
        intro v
        show ((hU H k _).2.2 v).1 8 + _ ≤ H.1 5
        by_cases q : v = k
        · subst q; rw [hU_at, uS_at, if_pos (by omega)]; have := h v; rw [if_neg (by omega)] at this; exact this
        · rw [hU_ne q]; exact h2 v
      split
      · exact h3.ready
      · exact h3
  unfold h_tickU
  generalize h_print H k = K at *
  unfold h_wake
  have h4 : PM (hU K k (uS (K.2.2 k) 4 ((K.2.2 k).1 4 - 1))) (k + 1) := by
    intro v
    show ((hU K k _).2.2 v).1 8 + _ ≤ K.1 5
    by_cases q : v = k
    · subst q; rw [hU_at, uS_ne (by decide)]; exact h1 v
    · rw [hU_ne q]; exact h1 v
  split
  · split
    · exact h4.ready
    · exact h4
  · exact h1
theorem PM.ticks {H : hs} {k : Nat} (h : PM H 0) : PM (h_ticks H k) k := by
  induction k with
  | zero => exact h
  | succ k ih => exact ih.tickU
