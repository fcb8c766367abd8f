/-! the machine of the document, in numbers -/
abbrev us : Type := (Nat → Nat) × (Nat → Nat) × (Nat → Nat) × (Nat → Nat) × List Nat × List Nat
/-- numbers of a user: 0 pc, 1 ac, 2 link, 3 state, 4 sleep, 5 switches, 6 lost, 7 field, 8 printed, 9 steps -/
def uS (u : us) (k v : Nat) : us := (va_up u.1 k v, u.2)
def uMem (u : us) (a v : Nat) : us := (u.1, va_up u.2.1 a v, u.2.2)
def uFil (u : us) (a v : Nat) : us := (u.1, u.2.1, va_up u.2.2.1 a v, u.2.2.2)
def uPap (u : us) (a v : Nat) : us := (u.1, u.2.1, u.2.2.1, va_up u.2.2.2.1 a v, u.2.2.2.2)
def uInp (u : us) (x : List Nat) : us := (u.1, u.2.1, u.2.2.1, u.2.2.2.1, x, u.2.2.2.2.2)
def uOut (u : us) (x : List Nat) : us := (u.1, u.2.1, u.2.2.1, u.2.2.2.1, u.2.2.2.2.1, x)
abbrev uMm (u : us) : Nat → Nat := u.2.1
abbrev uFf (u : us) : Nat → Nat := u.2.2.1
abbrev uPp (u : us) : Nat → Nat := u.2.2.2.1
abbrev uIn (u : us) : List Nat := u.2.2.2.2.1
abbrev uOt (u : us) : List Nat := u.2.2.2.2.2
/-- what numbers there are -/
def UB (u : us) : Prop := u.1 0 < 4096 ∧ u.1 1 < 4096 ∧ u.1 2 < 2 ∧ u.1 3 < 6 ∧ u.1 4 < 4096 ∧ u.1 5 < 4096 ∧ u.1 6 < 4096 ∧ u.1 7 < 8 ∧ (∀ i, uMm u i < 4096) ∧ (∀ i, uFf u i < 4096) ∧ (∀ i, uPp u i < 256) ∧ (uIn u).length ≤ 16 ∧ (uOt u).length ≤ 16 ∧ (∀ x ∈ uIn u, x < 256) ∧ (∀ x ∈ uOt u, x < 256)
def i_skip (u : us) : us := uS u 0 ((u.1 0 + 1) % 4096)
def i_skipIf (u : us) (c : Bool) : us := if c then i_skip u else u
def i_sum (u : us) (s : Nat) : us := uS (if 4096 ≤ s then uS u 2 (1 - u.1 2) else u) 1 (s % 4096)
def i_addr (u : us) (w own : Nat) : Nat := (w % 128) + (if w.testBit 7 then own / 128 * 128 else 0)
def i_bump (u : us) (a : Nat) : us := if 8 ≤ a ∧ a ≤ 15 then uMem u a ((uMm u a + 1) % 4096) else u
def i_refA (u : us) (w own : Nat) : us × Nat := let a := i_addr u w own; if w.testBit 8 then (i_bump u a, uMm (i_bump u a) a) else (u, a)
def i_ref (u : us) (w own : Nat) : us :=
  let v := (i_refA u w own).1; let a := (i_refA u w own).2
  match w / 512 with
  | 0 => uS v 1 (v.1 1 &&& uMm v a)
  | 1 => i_sum v (v.1 1 + uMm v a)
  | 2 => i_skipIf (uMem v a ((uMm v a + 1) % 4096)) ((uMm v a + 1) % 4096 == 0)
  | 3 => uS (uMem v a (v.1 1)) 1 0
  | 4 => uS (uMem v a (v.1 0)) 0 ((a + 1) % 4096)
  | _ => uS v 0 a
def i_rot (u : us) (right : Bool) : us :=
  let all := u.1 2 * 4096 + u.1 1
  let x := if right then all / 2 + all % 2 * 4096 else all * 2 % 8192 + all / 4096
  uS (uS u 2 (x / 4096)) 1 (x % 4096)
def i_op (u : us) (w : Nat) : us :=
  let u := if w.testBit 7 then uS u 1 0 else u
  let u := if w.testBit 6 then uS u 2 0 else u
  let u := if w.testBit 5 then uS u 1 (4095 - u.1 1) else u
  let u := if w.testBit 4 then uS u 2 (1 - u.1 2) else u
  let u := if w.testBit 0 then i_sum u (u.1 1 + 1) else u
  if w.testBit 3 = w.testBit 2 then u else if w.testBit 1 then i_rot (i_rot u (w.testBit 3)) (w.testBit 3) else i_rot u (w.testBit 3)
def i_cond (u : us) (w : Nat) : Bool := (w.testBit 6 && decide (2048 ≤ u.1 1)) || (w.testBit 5 && decide (u.1 1 = 0)) || (w.testBit 4 && decide (u.1 2 = 1))
def i_test (u : us) (w : Nat) : us :=
  let u := i_skipIf u (i_cond u w != w.testBit 3)
  let u := if w.testBit 7 then uS u 1 0 else u
  let u := if w.testBit 2 then uS u 1 (u.1 1 ||| u.1 5) else u
  if w.testBit 1 then uS u 3 0 else u
def i_wait (u : us) (own how : Nat) : us := uS (uS u 0 own) 3 how
def i_moved (mm ff : Nat → Nat) (a b : Nat) : Nat → Nat := fun j => let k := (j + 4096 - a) % 4096; if k < 128 then ff (b + k) else mm j
def i_block (u : us) (read : Bool) : us :=
  let a := uMm u (u.1 0)
  let v := i_skip u
  if 32 ≤ v.1 1 then uS v 1 4095
  else if read then uS (v.1, (fun j => if (j + 4096 - a) % 4096 < 128 ∧ j < 4096 then uFf v (v.1 1 * 128 + (j + 4096 - a) % 4096) else uMm v j), v.2.2) 1 0
  else uS (v.1, v.2.1, (fun j => if v.1 1 * 128 ≤ j ∧ j < v.1 1 * 128 + 128 then uMm v ((a + (j - v.1 1 * 128)) % 4096) else uFf v j), v.2.2.2) 1 0
def i_dev (n : Nat) (u : us) (w own : Nat) : us :=
  if w = 3097 then i_skipIf u (decide (0 < (uIn u).length))
  else if w = 3102 then (match uIn u with | [] => i_wait u own 3 | c :: r => uS (uInp u r) 1 c)
  else if w = 3105 then i_skipIf u (decide ((uOt u).length < 16))
  else if w = 3110 then (if (uOt u).length < 16 then uOut u (uOt u ++ [u.1 1 % 256]) else i_wait u own 4)
  else if w = 3113 then (if u.1 1 = 0 then u else uS (uS (uS u 3 5) 4 (u.1 1)) 1 0)
  else if w = 3114 then i_block u true
  else if w = 3115 then i_block u false
  else if w = 3116 then uS u 1 n
  else u
def inst (n : Nat) (u : us) : us :=
  let own := u.1 0
  let w := uMm u own
  let v := uS (i_skip u) 9 (u.1 9 + 1)
  if w < 3072 then i_ref v w own else if w < 3584 then i_dev n v w own else if w.testBit 8 = false then i_op v w else if w.testBit 0 = false then i_test v w else v
/-! the numbers stay in their bounds -/
theorem UB.S0 {u : us} {v : Nat} (h : UB u) (hv : v < 4096) : UB (uS u 0 v) := by
  obtain ⟨b0, b1, b2, b3, b4, b5, b6, b7, b8, b9, b10, b11, b12, b13, b14⟩ := h
  exact ⟨hv, b1, b2, b3, b4, b5, b6, b7, b8, b9, b10, b11, b12, b13, b14⟩
theorem UB.S1 {u : us} {v : Nat} (h : UB u) (hv : v < 4096) : UB (uS u 1 v) := by
  obtain ⟨b0, b1, b2, b3, b4, b5, b6, b7, b8, b9, b10, b11, b12, b13, b14⟩ := h
  exact ⟨b0, hv, b2, b3, b4, b5, b6, b7, b8, b9, b10, b11, b12, b13, b14⟩
theorem UB.S2 {u : us} {v : Nat} (h : UB u) (hv : v < 2) : UB (uS u 2 v) := by
  obtain ⟨b0, b1, b2, b3, b4, b5, b6, b7, b8, b9, b10, b11, b12, b13, b14⟩ := h
  exact ⟨b0, b1, hv, b3, b4, b5, b6, b7, b8, b9, b10, b11, b12, b13, b14⟩
theorem UB.S3 {u : us} {v : Nat} (h : UB u) (hv : v < 6) : UB (uS u 3 v) := by
  obtain ⟨b0, b1, b2, b3, b4, b5, b6, b7, b8, b9, b10, b11, b12, b13, b14⟩ := h
  exact ⟨b0, b1, b2, hv, b4, b5, b6, b7, b8, b9, b10, b11, b12, b13, b14⟩
theorem UB.S4 {u : us} {v : Nat} (h : UB u) (hv : v < 4096) : UB (uS u 4 v) := by
  obtain ⟨b0, b1, b2, b3, b4, b5, b6, b7, b8, b9, b10, b11, b12, b13, b14⟩ := h
  exact ⟨b0, b1, b2, b3, hv, b5, b6, b7, b8, b9, b10, b11, b12, b13, b14⟩
theorem UB.S5 {u : us} {v : Nat} (h : UB u) (hv : v < 4096) : UB (uS u 5 v) := by
  obtain ⟨b0, b1, b2, b3, b4, b5, b6, b7, b8, b9, b10, b11, b12, b13, b14⟩ := h
  exact ⟨b0, b1, b2, b3, b4, hv, b6, b7, b8, b9, b10, b11, b12, b13, b14⟩
theorem UB.S6 {u : us} {v : Nat} (h : UB u) (hv : v < 4096) : UB (uS u 6 v) := by
  obtain ⟨b0, b1, b2, b3, b4, b5, b6, b7, b8, b9, b10, b11, b12, b13, b14⟩ := h
  exact ⟨b0, b1, b2, b3, b4, b5, hv, b7, b8, b9, b10, b11, b12, b13, b14⟩
theorem UB.S7 {u : us} {v : Nat} (h : UB u) (hv : v < 8) : UB (uS u 7 v) := by
  obtain ⟨b0, b1, b2, b3, b4, b5, b6, b7, b8, b9, b10, b11, b12, b13, b14⟩ := h
  exact ⟨b0, b1, b2, b3, b4, b5, b6, hv, b8, b9, b10, b11, b12, b13, b14⟩
theorem UB.S8 {u : us} {v : Nat} (h : UB u) : UB (uS u 8 v) := h
theorem UB.S9 {u : us} {v : Nat} (h : UB u) : UB (uS u 9 v) := h
theorem UB.Mem {u : us} {a v : Nat} (h : UB u) (hv : v < 4096) : UB (uMem u a v) := by
  obtain ⟨b0, b1, b2, b3, b4, b5, b6, b7, b8, b9, b10, b11, b12, b13, b14⟩ := h
  exact ⟨b0, b1, b2, b3, b4, b5, b6, b7, fun i => by show va_up _ _ _ _ < _; unfold va_up; split <;> first | exact hv | exact b8 i, b9, b10, b11, b12, b13, b14⟩
theorem UB.Fil {u : us} {a v : Nat} (h : UB u) (hv : v < 4096) : UB (uFil u a v) := by
  obtain ⟨b0, b1, b2, b3, b4, b5, b6, b7, b8, b9, b10, b11, b12, b13, b14⟩ := h
  exact ⟨b0, b1, b2, b3, b4, b5, b6, b7, b8, fun i => by show va_up _ _ _ _ < _; unfold va_up; split <;> first | exact hv | exact b9 i, b10, b11, b12, b13, b14⟩
theorem UB.Pap {u : us} {a v : Nat} (h : UB u) (hv : v < 256) : UB (uPap u a v) := by
  obtain ⟨b0, b1, b2, b3, b4, b5, b6, b7, b8, b9, b10, b11, b12, b13, b14⟩ := h
  exact ⟨b0, b1, b2, b3, b4, b5, b6, b7, b8, b9, fun i => by show va_up _ _ _ _ < _; unfold va_up; split <;> first | exact hv | exact b10 i, b11, b12, b13, b14⟩
theorem UB.skip {u : us} (h : UB u) : UB (i_skip u) := h.S0 (Nat.mod_lt _ (by decide))
theorem UB.skipIf {u : us} {c : Bool} (h : UB u) : UB (i_skipIf u c) := by unfold i_skipIf; split <;> first | exact h.skip | exact h
theorem UB.sum {u : us} {s : Nat} (h : UB u) : UB (i_sum u s) := by
  unfold i_sum
  split
  · exact (h.S2 (by have := h.2.2.1; omega)).S1 (Nat.mod_lt _ (by decide))
  · exact h.S1 (Nat.mod_lt _ (by decide))
theorem UB.bump {u : us} {a : Nat} (h : UB u) : UB (i_bump u a) := by
  unfold i_bump
  split
  · exact h.Mem (Nat.mod_lt _ (by decide))
  · exact h
theorem UB.refA {u : us} {x own : Nat} (h : UB u) : UB (i_refA u x own).1 := by
  unfold i_refA
  dsimp only
  split
  · exact h.bump
  · exact h
theorem refA_lt {u : us} {x own : Nat} (h : UB u) (ho : own < 4096) : (i_refA u x own).2 < 4096 := by
  unfold i_refA
  dsimp only
  split
  · exact h.bump.2.2.2.2.2.2.2.2.1 _
  · unfold i_addr
    split <;> dsimp only <;> omega
