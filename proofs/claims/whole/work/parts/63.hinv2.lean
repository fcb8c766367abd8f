theorem HI.set {H : hs} {k v : Nat} (h : HI H) (h1 : k = 4 ∨ k = 5 ∨ k = 10 ∨ (k = 7 ∧ v ≤ 64) ∨ (k = 6 ∧ v = 0) ∨ (k = 8 ∧ v < 4096) ∨ (k = 9 ∧ v < 8 ∧ 1 ≤ v ∧ v ≤ H.1 1)) : HI (hSet H k v) := by
  obtain ⟨a0, a1, a2, a3, a6, a7, a8, a9, an, ar, at', as, ab⟩ := h
  have e : ∀ j, (hSet H k v).1 j = if j = k then v else H.1 j := fun j => rfl
  refine ⟨by rw [e, if_neg (by omega)]; exact a0, by rw [e, if_neg (by omega)]; exact a1, by rw [e, if_neg (by omega)]; exact a2, by rw [e, if_neg (by omega)]; exact a3, ?_, ?_, ?_, ?_, an, fun x hx => ?_, ?_, as, ab⟩
  · rw [e, e]; split <;> split <;> omega
  · rw [e]; split <;> omega
  · rw [e]; split <;> omega
  · have e0 : (hSet H k v).1 0 = H.1 0 := by rw [e, if_neg (by omega)]
    have e1 : (hSet H k v).1 1 = H.1 1 := by rw [e, if_neg (by omega)]
    have e2 : (hSet H k v).1 2 = H.1 2 := by rw [e, if_neg (by omega)]
    have e3 : (hSet H k v).1 3 = H.1 3 := by rw [e, if_neg (by omega)]
    rw [e0, e1, e2, e3, e]
    split
    · exact ⟨by omega, fun q => ⟨by omega, (a9.2 q).2.1, by omega, (a9.2 q).2.2.2⟩⟩
    · exact a9
  · rw [e, if_neg (by omega)]; exact ar x hx
  · show (hSet H k v).1 6 ≠ 0 → (H.2.2 ((hSet H k v).1 6 - 1)).1 3 = 2
    rw [e]; split
    · intro q; omega
    · exact at'
theorem UB.paper {x : us} {r : List Nat} {c a n : Nat} (h : UB x) (e : uOt x = c :: r) : UB (uS (uPap (uOut x r) a c) 8 n) := by
  obtain ⟨b0, b1, b2, b3, b4, b5, b6, b7, b8, b9, b10, b11, b12, b13, b14⟩ := h
  rw [e] at b12 b14
  refine ⟨b0, b1, b2, b3, b4, b5, b6, b7, b8, b9, fun i => ?_, b11, by simp at b12; show r.length ≤ 16; omega, b13, fun x hx => b14 x (List.mem_cons_of_mem _ hx)⟩
  show va_up (uPp x) a c i < 256
  unfold va_up; split
  · exact b14 c List.mem_cons_self
  · exact b10 i
/-- the numbers that a tick leaves -/
def HK (H K : hs) : Prop := K.1 = H.1
theorem h_ready_1 {H : hs} {u : Nat} : (h_ready H u).1 = H.1 := rfl
theorem h_print_1 {H : hs} {u : Nat} : (h_print H u).1 = H.1 := by unfold h_print; split; rfl; split <;> rfl
theorem h_wake_1 {H : hs} {u : Nat} : (h_wake H u).1 = H.1 := by unfold h_wake; split; split <;> rfl; rfl
theorem h_tickU_1 {H : hs} {u : Nat} : (h_tickU H u).1 = H.1 := h_wake_1.trans h_print_1
theorem h_ticks_1 {H : hs} {n : Nat} : (h_ticks H n).1 = H.1 := by
  induction n with
  | zero => rfl
  | succ n ih => exact h_tickU_1.trans ih
theorem HI.run {H : hs} {u : Nat} (h : HI H) (h1 : (H.2.2 u).1 3 ≠ 2) : H.1 6 ≠ u + 1 := by
  intro e
  have := h.2.2.2.2.2.2.2.2.2.2.1 (by omega)
  rw [e] at this
  exact h1 this
theorem HI.print {H : hs} {u : Nat} (h : HI H) (hu : u < H.1 0) : HI (h_print H u) := by
  have h5 := h.2.2.2.2.2.2.2.2.2.2.2.1 u
  have hb := h.2.2.2.2.2.2.2.2.2.2.2.2 u
  unfold h_print
  split
  · exact h
  · rename_i c r e
    have h1 : HI (hU H u (uS (uPap (uOut (H.2.2 u) r) ((H.2.2 u).1 8 % 512) c) 8 ((H.2.2 u).1 8 + 1))) := h.U (hb.paper e) (uS_ne (by decide)) (fun q => by rw [uS_ne (by decide)] at q ⊢; exact h5 q)
    split
    · rename_i q
      refine h1.ready hu ?_ (h.run (u := u) (by rw [q]; decide))
      rw [hU_at, uS_ne (by decide)]
      show (H.2.2 u).1 3 ≠ 1
      rw [q]; decide
    · exact h1
theorem HI.wake {H : hs} {u : Nat} (h : HI H) (hu : u < H.1 0) : HI (h_wake H u) := by
  have h5 := h.2.2.2.2.2.2.2.2.2.2.2.1 u
  have hb := h.2.2.2.2.2.2.2.2.2.2.2.2 u
  unfold h_wake
  split
  · rename_i q
    have hs := hb.2.2.2.2.1
    obtain ⟨a0, a1, a2, a3, a6, a7, a8, a9, an, ar, at', as, ab⟩ := h
    have hr : H.1 6 ≠ u + 1 := fun e => by
      have := at' (by omega)
      rw [e] at this
      have e2 : (H.2.2 u).1 3 = 2 := this
      omega
    split
    · rename_i q2
      have hn : u ∉ H.2.1 := fun hm => by have := (ar u hm).2; omega
      have e : h_ready (hU H u (uS (H.2.2 u) 4 ((H.2.2 u).1 4 - 1))) u = hU (h_ready H u) u (uS (uS (H.2.2 u) 4 ((H.2.2 u).1 4 - 1)) 3 1) := by
        unfold h_ready hRow hU
        have : va_up (va_up H.2.2 u (uS (H.2.2 u) 4 ((H.2.2 u).1 4 - 1))) u (uS (va_up H.2.2 u (uS (H.2.2 u) 4 ((H.2.2 u).1 4 - 1)) u) 3 1) = va_up (va_up H.2.2 u (uS (H.2.2 u) 3 1)) u (uS (uS (H.2.2 u) 4 ((H.2.2 u).1 4 - 1)) 3 1) := by
          funext j
          unfold va_up
          by_cases c : j = u
          · rw [if_pos c, if_pos c, if_pos rfl]
          · rw [if_neg c, if_neg c, if_neg c, if_neg c]
        show (H.1, H.2.1 ++ [u], _) = (H.1, H.2.1 ++ [u], _)
        rw [this]
      rw [e]
      refine HI.U (HI.ready ⟨a0, a1, a2, a3, a6, a7, a8, a9, an, ar, at', as, ab⟩ hu (by omega) hr) ((hb.S4 (by omega)).S3 (by decide)) ?_ (fun q => by rw [uS_at] at q; omega)
      rw [uS_at]
      show 1 = ((hU H u (uS (H.2.2 u) 3 1)).2.2 u).1 3
      rw [hU_at, uS_at]
    · exact HI.U ⟨a0, a1, a2, a3, a6, a7, a8, a9, an, ar, at', as, ab⟩ (hb.S4 (by omega)) (uS_ne (by decide)) (fun _ => by rw [uS_at]; omega)
  · exact h
theorem HI.tickU {H : hs} {u : Nat} (h : HI H) (hu : u < H.1 0) : HI (h_tickU H u) := (h.print hu).wake (by rw [h_print_1]; exact hu)
theorem HI.ticks {H : hs} {n : Nat} (h : HI H) (hn : n ≤ H.1 0) : HI (h_ticks H n) := by
  induction n with
  | zero => exact h
  | succ n ih => exact (ih (by omega)).tickU (by rw [h_ticks_1]; omega)
theorem HI.quant {H : hs} (h : HI H) : HI (h_quant H) := by
  unfold h_quant
  split
  · exact h
  · rename_i q
    have hr := h.2.2.2.2.2.2.2.2.2.2.1 q
    have h6 := h.2.2.2.2.1
    have h7 := h.2.2.2.2.2.1
    split
    · exact h.set (by omega)
    · refine ((h.set (by omega)).set (by omega)).ready ?_ ?_ ?_
      · show H.1 6 - 1 < H.1 0
        omega
      · show (H.2.2 (H.1 6 - 1)).1 3 ≠ 1
        omega
      · show 0 ≠ H.1 6 - 1 + 1
        omega
theorem HI.tick {H : hs} (h : HI H) : HI (h_tick H) := HI.quant (HI.ticks (h.set (by omega)) (Nat.le_refl _))
