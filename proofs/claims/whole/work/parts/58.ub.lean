/-! the bounds hold behind each instruction -/
theorem UB.wait {u : us} {own how : Nat} (h : UB u) (ho : own < 4096) (hh : how < 6) : UB (i_wait u own how) := (h.S0 ho).S3 hh
theorem UB.ref {u : us} {x own : Nat} (h : UB u) (ho : own < 4096) : UB (i_ref u x own) := by
  have hB1 := h.refA (x := x) (own := own)
  have ha := refA_lt (x := x) h ho
  unfold i_ref
  dsimp only
  revert hB1 ha
  generalize (i_refA u x own).1 = v
  generalize (i_refA u x own).2 = a
  intro hB1 ha
  have hm := hB1.2.2.2.2.2.2.2.2.1 a
  split
  · exact hB1.S1 (Nat.lt_of_le_of_lt Nat.and_le_left hB1.2.1)
  · exact hB1.sum
  · exact (hB1.Mem (Nat.mod_lt _ (by decide))).skipIf
  · exact (hB1.Mem hB1.2.1).S1 (by decide)
  · exact (hB1.Mem hB1.1).S0 (Nat.mod_lt _ (by decide))
  · exact hB1.S0 ha
theorem UB.op {u : us} {z : Nat} (h : UB u) : UB (i_op u z) := by
  unfold i_op
  dsimp only
  have e1 : UB (if z.testBit 7 then uS u 1 0 else u) := by split; exact h.S1 (by decide); exact h
  generalize (if z.testBit 7 then uS u 1 0 else u) = x1 at *
  have e2 : UB (if z.testBit 6 then uS x1 2 0 else x1) := by split; exact e1.S2 (by decide); exact e1
  generalize (if z.testBit 6 then uS x1 2 0 else x1) = x2 at *
  have e3 : UB (if z.testBit 5 then uS x2 1 (4095 - x2.1 1) else x2) := by split; exact e2.S1 (by omega); exact e2
  generalize (if z.testBit 5 then uS x2 1 (4095 - x2.1 1) else x2) = x3 at *
  have e4 : UB (if z.testBit 4 then uS x3 2 (1 - x3.1 2) else x3) := by split; exact e3.S2 (by omega); exact e3
  generalize (if z.testBit 4 then uS x3 2 (1 - x3.1 2) else x3) = x4 at *
  have e5 : UB (if z.testBit 0 then i_sum x4 (x4.1 1 + 1) else x4) := by split; exact e4.sum; exact e4
  generalize (if z.testBit 0 then i_sum x4 (x4.1 1 + 1) else x4) = x5 at *
  split
  · exact e5
  · split
    · exact e5.rot.rot
    · exact e5.rot
theorem UB.test {u : us} {z : Nat} (h : UB u) : UB (i_test u z) := by
  unfold i_test
  dsimp only
  have e0 : UB (i_skipIf u (i_cond u z != z.testBit 3)) := h.skipIf
  generalize i_skipIf u (i_cond u z != z.testBit 3) = x0 at *
  have e1 : UB (if z.testBit 7 then uS x0 1 0 else x0) := by split; exact e0.S1 (by decide); exact e0
  generalize (if z.testBit 7 then uS x0 1 0 else x0) = x1 at *
  have e2 : UB (if z.testBit 2 then uS x1 1 (x1.1 1 ||| x1.1 5) else x1) := by split; exact e1.S1 (or12 e1.2.1 e1.2.2.2.2.2.1); exact e1
  generalize (if z.testBit 2 then uS x1 1 (x1.1 1 ||| x1.1 5) else x1) = x2 at *
  split
  · exact e2.S3 (by decide)
  · exact e2
theorem UB.Inp {u : us} {r : List Nat} (h : UB u) (h1 : r.length ≤ 16) (h2 : ∀ x ∈ r, x < 256) : UB (uInp u r) := by
  obtain ⟨b0, b1, b2, b3, b4, b5, b6, b7, b8, b9, b10, b11, b12, b13, b14⟩ := h
  exact ⟨b0, b1, b2, b3, b4, b5, b6, b7, b8, b9, b10, h1, b12, h2, b14⟩
theorem UB.Out {u : us} {r : List Nat} (h : UB u) (h1 : r.length ≤ 16) (h2 : ∀ x ∈ r, x < 256) : UB (uOut u r) := by
  obtain ⟨b0, b1, b2, b3, b4, b5, b6, b7, b8, b9, b10, b11, b12, b13, b14⟩ := h
  exact ⟨b0, b1, b2, b3, b4, b5, b6, b7, b8, b9, b10, b11, h1, b13, h2⟩
theorem UB.block {u : us} {rd : Bool} (h : UB u) : UB (i_block u rd) := by
  unfold i_block
  dsimp only
  have hv := h.skip
  have hm := h.2.2.2.2.2.2.2.2.1
  generalize uMm u (u.1 0) = a
  generalize i_skip u = v at *
  obtain ⟨b0, b1, b2, b3, b4, b5, b6, b7, b8, b9, b10, b11, b12, b13, b14⟩ := hv
  split
  · exact ⟨b0, by show 4095 < 4096; decide, b2, b3, b4, b5, b6, b7, b8, b9, b10, b11, b12, b13, b14⟩
  · split
    · refine ⟨b0, by show 0 < 4096; decide, b2, b3, b4, b5, b6, b7, fun i => ?_, b9, b10, b11, b12, b13, b14⟩
      show (if _ then _ else _) < 4096
      split
      · exact b9 _
      · exact b8 _
    · refine ⟨b0, by show 0 < 4096; decide, b2, b3, b4, b5, b6, b7, b8, fun i => ?_, b10, b11, b12, b13, b14⟩
      show (if _ then _ else _) < 4096
      split
      · exact b8 _
      · exact b9 _
theorem UB.dev {u : us} {n x own : Nat} (h : UB u) (ho : own < 4096) (hn : n < 8) : UB (i_dev n u x own) := by
  have hl := h.2.2.2.2.2.2.2.2.2.2.2.1
  have hi := h.2.2.2.2.2.2.2.2.2.2.2.2.2.1
  have ho2 := h.2.2.2.2.2.2.2.2.2.2.2.2.2.2
  unfold i_dev
  split
  · exact h.skipIf
  · split
    · split
      · exact h.wait ho (by decide)
      · rename_i c r he
        rw [he] at hl hi
        refine (h.Inp (by simp at hl; omega) (fun x hx => hi x (List.mem_cons_of_mem _ hx))).S1 ?_
        have := hi c List.mem_cons_self
        omega
    · split
      · exact h.skipIf
      · split
        · split
          · refine h.Out (by rw [List.length_append]; simp; omega) (fun x hx => ?_)
            rcases List.mem_append.mp hx with q | q
            · exact ho2 x q
            · rw [List.mem_singleton.mp q]; exact Nat.mod_lt _ (by decide)
          · exact h.wait ho (by decide)
        · split
          · split
            · exact h
            · exact ((h.S3 (by decide)).S4 h.2.1).S1 (by decide)
          · split
            · exact h.block
            · split
              · exact h.block
              · split
                · exact h.S1 (by omega)
                · exact h
theorem UB_inst {u : us} {n : Nat} (h : UB u) (hn : n < 8) : UB (inst n u) := by
  have hv : UB (uS (i_skip u) 9 (u.1 9 + 1)) := h.skip.S9
  unfold inst
  dsimp only
  split
  · exact hv.ref h.1
  · split
    · exact hv.dev h.1 hn
    · split
      · exact hv.op
      · split
        · exact hv.test
        · exact hv
/-! the house of the document: 0 users, 1 fields, 2 quantum, 3 beat, 4 steps, 5 ticks, 6 who runs and 1 (0 none), 7 left, 8 swaps, 9 turn, 10 idle -/
abbrev hs : Type := (Nat → Nat) × List Nat × (Nat → us)
def hSet (H : hs) (k v : Nat) : hs := (va_up H.1 k v, H.2)
def hRow (H : hs) (r : List Nat) : hs := (H.1, r, H.2.2)
def hU (H : hs) (u : Nat) (x : us) : hs := (H.1, H.2.1, va_up H.2.2 u x)
def h_ready (H : hs) (u : Nat) : hs := hRow (hU H u (uS (H.2.2 u) 3 1)) (H.2.1 ++ [u])
def h_out (U : Nat → us) (n t : Nat) : Nat → us := fun k => if k < n ∧ (U k).1 7 = t then uS (U k) 7 0 else U k
def h_swap (H : hs) (u : Nat) : hs := hSet (hSet (H.1, H.2.1, va_up (h_out H.2.2 (H.1 0) (H.1 9)) u (uS (h_out H.2.2 (H.1 0) (H.1 9) u) 7 (H.1 9))) 8 ((H.1 8 + 1) % 4096)) 9 (if H.1 9 = H.1 1 then 1 else H.1 9 + 1)
def h_disp (H : hs) : hs := if H.1 6 ≠ 0 then H else match H.2.1 with
  | [] => H
  | u :: r => if 0 < (H.2.2 u).1 7 then hU (hSet (hSet (hRow H r) 6 (u + 1)) 7 (H.1 2)) u (uS (H.2.2 u) 3 2) else h_swap (hU (hSet (hSet (hRow H r) 6 (u + 1)) 7 (H.1 2)) u (uS (H.2.2 u) 3 2)) u
def h_print (H : hs) (u : Nat) : hs := match uOt (H.2.2 u) with
  | [] => H
  | c :: r => if (H.2.2 u).1 3 = 4 then h_ready (hU H u (uS (uPap (uOut (H.2.2 u) r) ((H.2.2 u).1 8 % 512) c) 8 ((H.2.2 u).1 8 + 1))) u else hU H u (uS (uPap (uOut (H.2.2 u) r) ((H.2.2 u).1 8 % 512) c) 8 ((H.2.2 u).1 8 + 1))
def h_wake (H : hs) (u : Nat) : hs := if (H.2.2 u).1 3 = 5 then (if (H.2.2 u).1 4 - 1 = 0 then h_ready (hU H u (uS (H.2.2 u) 4 ((H.2.2 u).1 4 - 1))) u else hU H u (uS (H.2.2 u) 4 ((H.2.2 u).1 4 - 1))) else H
def h_tickU (H : hs) (u : Nat) : hs := h_wake (h_print H u) u
def h_ticks (H : hs) : Nat → hs
  | 0 => H
  | n + 1 => h_tickU (h_ticks H n) n
def h_quant (H : hs) : hs := if H.1 6 = 0 then H else if 0 < H.1 7 - 1 then hSet H 7 (H.1 7 - 1) else h_ready (hSet (hSet H 6 0) 7 0) (H.1 6 - 1)
def h_tick (H : hs) : hs := h_quant (h_ticks (hSet H 5 (H.1 5 + 1)) (H.1 0))
def h_inst (H : hs) : hs := if H.1 6 = 0 then hSet H 10 (H.1 10 + 1) else if (inst (H.1 6 - 1) (H.2.2 (H.1 6 - 1))).1 3 = 2 then hU H (H.1 6 - 1) (inst (H.1 6 - 1) (H.2.2 (H.1 6 - 1))) else hSet (hSet (hU H (H.1 6 - 1) (inst (H.1 6 - 1) (H.2.2 (H.1 6 - 1)))) 6 0) 7 0
def h_beat (H : hs) : hs := if H.1 4 % H.1 3 = 0 then h_tick H else H
def h_step (H : hs) : hs := h_disp (h_beat (h_inst (hSet H 4 (H.1 4 + 1))))
def h_steps (H : hs) : Nat → hs
  | 0 => H
  | n + 1 => h_step (h_steps H n)
