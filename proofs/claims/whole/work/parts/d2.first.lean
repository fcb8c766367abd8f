theorem fit_arr {s : State} {q i : Nat} {cell : Cell} {ty : FieldType} {v : Value} (hf : heapFits s = true) (hc : s.heap[q]? = some cell) (ha : s.isArrayOf cell ty) (hi : cell.slots[i]? = some v) : fits ty v = true := by
  unfold heapFits at hf
  rw [Array.all_eq_true] at hf
  obtain ⟨h1, h2⟩ := Array.getElem?_eq_some_iff.mp hc
  have h3 := hf q h1
  rw [h2] at h3
  unfold cellFits at h3
  have h4 := List.all_eq_true.mp h3 i (List.mem_range.mpr (Array.getElem?_eq_some_iff.mp hi).1)
  rw [hi] at h4
  obtain ⟨n, k, hk, comp, hkind⟩ := ha
  have h5 : s.slotType? cell.cls cell.vm i = some ty := by
    unfold State.slotType?
    rw [hk]
    show (match cell.vm with | .statics _ => k.staticTypes[i]? | _ => match k.kind with | .array _ type => some type | _ => k.instanceTypes[i]?) = some ty
    rw [hkind]
    cases e : cell.vm <;> first | rfl | exact absurd e (n _)
  unfold State.fitsSlot at h4
  rw [h5] at h4
  exact h4
def ln0 (H : Heap) (q : Nat) : Nat := match H[q]? with | some c => c.slots.size.toInt32.toNatClampNeg | none => 0
def ai0 (H : Heap) (q j : Nat) : Int32 := match H[q]? with | some c => (match c.slots[j]? with | some (.int v) => v | _ => 0) | none => 0
abbrev oB (s : State) : Nat → Prop := fun q => s.heap.size ≤ q
theorem oB_not {s : State} : ∀ a : Nat, a < s.heap.size → ¬ oB s a := fun _ h => Nat.not_le.mpr h
theorem T_ln {ty : FieldType} {t N : Nat} {f : Nat → Int32} {A : Nat → Prop} {U : State} {H : Heap} (h : va_T ty t N (fun j => .int (f j)) A U H) (hN : N < 2147483648) : ln0 H t = N ∧ (∀ j, j < N → ai0 H t j = f j) ∧ va_T ty t (ln0 H t) (fun j => .int (ai0 H t j)) A U H := by
  obtain ⟨cell, h1, h2, h3, h4, h5, h6, h7⟩ := h
  have e1 : ln0 H t = N := by
    unfold ln0
    rw [h1]
    show cell.slots.size.toInt32.toNatClampNeg = N
    rw [h5]
    exact Int32.toNatClampNeg_ofNat_of_lt hN
  have e2 : ∀ j, j < N → ai0 H t j = f j := fun j hj => by
    unfold ai0
    rw [h1]
    show (match cell.slots[j]? with | some (.int v) => v | _ => 0) = f j
    rw [h6 j hj]
  refine ⟨e1, e2, cell, h1, h2, h3, by rw [e1]; exact h4, by rw [e1]; exact h5, fun j hj => ?_, h7⟩
  rw [e1] at hj
  show cell.slots[j]? = some (.int (ai0 H t j))
  rw [e2 j hj]
  exact h6 j hj
def K30 (s : State) (q : Nat) : Prop := va_T .int q (ln0 s.heap q) (fun j => .int (ai0 s.heap q j)) (oB s) s s.heap
def K31 (s : State) (q : Nat) : Prop := va_T .byte q (ln0 s.heap q) (fun j => .int (ai0 s.heap q j)) (oB s) s s.heap
def K11 (s : State) (q : Nat) : Prop := ∃ a : Nat, va_O "java/lang/String" q (oB s) s s.heap ∧ va_OF "java/lang/String" "coder" "B" (.int 0) q (oB s) s s.heap ∧ va_OF "java/lang/String" "value" "[B" (.ref a) q (oB s) s s.heap
noncomputable def kd0 (s : State) (q : Nat) : Nat := @ite Nat (K30 s q) (Classical.propDecidable _) 30 (@ite Nat (K31 s q) (Classical.propDecidable _) 31 (@ite Nat (K11 s q) (Classical.propDecidable _) (10 + 1) 0))
theorem kd0_all (s : State) (q : Nat) : (kd0 s q = 30 ∧ K30 s q) ∨ (kd0 s q = 31 ∧ K31 s q) ∨ (kd0 s q = 10 + 1 ∧ K11 s q) ∨ kd0 s q = 0 := by
  unfold kd0
  by_cases c1 : K30 s q
  · rw [if_pos c1]; exact Or.inl ⟨rfl, c1⟩
  · rw [if_neg c1]
    by_cases c2 : K31 s q
    · rw [if_pos c2]; exact Or.inr (Or.inl ⟨rfl, c2⟩)
    · rw [if_neg c2]
      by_cases c3 : K11 s q
      · rw [if_pos c3]; exact Or.inr (Or.inr (Or.inl ⟨rfl, c3⟩))
      · rw [if_neg c3]; exact Or.inr (Or.inr (Or.inr rfl))
theorem K30_31 {s : State} {q : Nat} (h1 : K30 s q) (h2 : K31 s q) : False := by
  obtain ⟨c, a1, ⟨-, k, a2, x, a3⟩, -⟩ := h1
  obtain ⟨c', b1, ⟨-, k', b2, x', b3⟩, -⟩ := h2
  cases a1.symm.trans b1
  cases a2.symm.trans b2
  cases a3.symm.trans b3
theorem K_arr {s : State} {q : Nat} (hf : heapFits s = true) (h2 : K11 s q) : ¬ K30 s q ∧ ¬ K31 s q := by
  obtain ⟨a, -, -, cf, k, i, f, cell, h3, h4, h5, h6, h7, h8⟩ := h2
  refine ⟨fun h => ?_, fun h => ?_⟩
  · obtain ⟨c, a1, a2, -⟩ := h
    cases a1.symm.trans h5
    have := fit_arr hf h5 a2 h7
    cases this
  · obtain ⟨c, a1, a2, -⟩ := h
    cases a1.symm.trans h5
    have := fit_arr hf h5 a2 h7
    cases this
theorem kd0_30 {s : State} {q : Nat} (h : K30 s q) : kd0 s q = 30 := if_pos h
theorem kd0_31 {s : State} {q : Nat} (h : K31 s q) : kd0 s q = 31 := by
  unfold kd0
  rw [if_neg (fun c => K30_31 c h), if_pos h]
theorem kd0_11 {s : State} {q : Nat} (hf : heapFits s = true) (h : K11 s q) : kd0 s q = 10 + 1 := by
  unfold kd0
  rw [if_neg (K_arr hf h).1, if_neg (K_arr hf h).2, if_pos h]
def sv0 (s : State) (q : Nat) : Value := match s.fieldFound? "java/lang/String" "value" "[B", s.heap[q]? with
  | some (_, _, _, f), some c0 => (c0.slots[f.slot]?).getD .null
  | _, _ => .null
theorem sv0_eq {s : State} {q : Nat} {v : Value} {A : Nat → Prop} (h : va_OF "java/lang/String" "value" "[B" v q A s s.heap) : sv0 s q = v := by
  obtain ⟨cf, k, i, f, cell, h1, h2, h3, h4, h5, h6⟩ := h
  unfold sv0
  rw [h1, h3]
  show (cell.slots[f.slot]?).getD .null = v
  rw [h5]
  rfl
noncomputable def w0 (s : State) (tA : Nat → ClassId) (st : Nat → Value) : aw := (fun q => (kd0 s q, ln0 s.heap q), fun g q => if g = 64 * 10 then sv0 s q else if g = 64 * 10 + 1 then .int 0 else if 20000 ≤ g then .ref (tA (100 + (g - 20000))) else st (g - 10000), fun q j => ai0 s.heap q j, fun _ _ => 0, fun _ _ => none, s.heap.size)
theorem w0_rp {D : va_G} {tA : Nat → ClassId} {s : State} {st : Nat → Value} (hZ : ∀ (j : Nat) (x : String × String × String), stL[j]? = some x → va_Z x.1 x.2.1 x.2.2 (st j) (oB s) s s.heap) : rp D tA s.heap.size (w0 s tA st) s s.heap := by
  have kk0 : ∀ q, kd (w0 s tA st) q = kd0 s q := fun _ => rfl
  refine ⟨⟨fun q ci r hq hr => ?_, fun q hq => ?_, fun q hq => ?_, fun q hq => ?_⟩, fun q h1 h2 h3 => ?_, rfl, Nat.le_refl _, fun j x hx => ?_, ⟨fun q hq => ?_, fun q hq => ?_, fun q hq => ?_⟩, fun i hi => ?_⟩
  · have := vwCl_lt hr
    rw [kk0] at hq
    rcases kd0_all s q with h | h | h | h <;> omega
  · rw [kk0] at hq
    unfold isI at hq
    rcases kd0_all s q with h | h | h | h <;> omega
  · rw [kk0] at hq
    rcases kd0_all s q with h | h | h | h <;> omega
  · rw [kk0] at hq
    rcases kd0_all s q with h | h | h | h <;> omega
  · rw [kk0] at h1 h2 h3
    rcases kd0_all s q with h | h | h | h <;> omega
  · have h := hZ j x hx
    have hj := (List.getElem?_eq_some_iff.mp hx).1
    have h9 : stL.length < 100 := by decide
    have e : fd (w0 s tA st) (10000 + j) 0 = st j := by
      show (if 10000 + j = 64 * 10 then sv0 s 0 else if 10000 + j = 64 * 10 + 1 then .int 0 else if 20000 ≤ 10000 + j then .ref (tA (100 + (10000 + j - 20000))) else st (10000 + j - 10000)) = st j
      rw [if_neg (by omega), if_neg (by omega), if_neg (by omega), show 10000 + j - 10000 = j by omega]
    rw [e]
    exact h
  · rw [kk0] at hq
    rcases kd0_all s q with h | h | h | h
    · exact h.2
    · omega
    · omega
    · omega
  · rw [kk0] at hq
    rcases kd0_all s q with h | h | h | h
    · omega
    · exact h.2
    · omega
    · omega
  · rw [kk0] at hq
    rcases kd0_all s q with h | h | h | h
    · omega
    · omega
    · obtain ⟨a, h1, h2, h3⟩ := h.2
      exact ⟨a, sv0_eq h3, rfl, h1, h2, h3⟩
    · omega
  · have h4 : gL.length < 100 := by decide
    show (if 20000 + i = 64 * 10 then sv0 s 0 else if 20000 + i = 64 * 10 + 1 then .int 0 else if 20000 ≤ 20000 + i then .ref (tA (100 + (20000 + i - 20000))) else st (20000 + i - 10000)) = _
    rw [if_neg (by omega), if_neg (by omega), if_pos (by omega), show 20000 + i - 20000 = i by omega]
theorem w0_st {s : State} {tA : Nat → ClassId} {st : Nat → Value} {g : Nat} (h1 : 10000 ≤ g) (h2 : g < 20000) : fd (w0 s tA st) g 0 = st (g - 10000) := by
  show (if g = 64 * 10 then sv0 s 0 else if g = 64 * 10 + 1 then .int 0 else if 20000 ≤ g then .ref (tA (100 + (g - 20000))) else st (g - 10000)) = _
  rw [if_neg (by omega), if_neg (by omega), if_neg (by omega)]
theorem w0_tx {s : State} {tA : Nat → ClassId} {st : Nat → Value} {a v : Nat} {bs : List Nat} (hf : heapFits s = true) (h1 : va_O "java/lang/String" a (oB s) s s.heap) (h2 : va_OF "java/lang/String" "coder" "B" (.int 0) a (oB s) s s.heap) (h3 : va_OF "java/lang/String" "value" "[B" (.ref v) a (oB s) s s.heap) (h4 : va_T .byte v bs.length (fun j => .int (nI (bs.getD j 0))) (oB s) s s.heap) (hb : bs.length < 1000) : TxA (w0 s tA st) s.heap.size a bs := by
  have hT := T_ln h4 (by omega)
  have l1 : a < s.heap.size := by obtain ⟨c, q, -⟩ := h1; exact (Array.getElem?_eq_some_iff.mp q).1
  have l2 : v < s.heap.size := by obtain ⟨c, q, -⟩ := h4; exact (Array.getElem?_eq_some_iff.mp q).1
  exact ⟨l1, kd0_11 hf ⟨v, h1, h2, h3⟩, v, l2, sv0_eq h3, rfl, kd0_31 hT.2.2, hT.1, hT.2.1⟩
theorem w0_vl {s : State} {tA : Nat → ClassId} {st : Nat → Value} {a : Nat} {W : nt} (h4 : va_T .int a W.length (fun j => .int (rn (W.getD j ([], 0)).2)) (oB s) s s.heap) (hb : W.length < 1000) : VlA (w0 s tA st) s.heap.size a W := by
  have hT := T_ln h4 (by omega)
  have l2 : a < s.heap.size := by obtain ⟨c, q, -⟩ := h4; exact (Array.getElem?_eq_some_iff.mp q).1
  refine ⟨l2, kd0_30 hT.2.2, hT.1, fun k y hy => ?_⟩
  have hk := (List.getElem?_eq_some_iff.mp hy).1
  refine (hT.2.1 k hk).trans ?_
  rw [List.getD_eq_getElem?_getD, hy]
  rfl
theorem w0_sc {s : State} {tA : Nat → ClassId} {st : Nat → Value} {b L : Nat} {xs : Nat → Int32} (hX : va_X b L xs s s.heap) (hL : L ≤ 3072) : b < s.heap.size ∧ SC (w0 s tA st) b L xs := by
  obtain ⟨scr, h1, h2, h3, h4, h5⟩ := hX
  have l := (Array.getElem?_eq_some_iff.mp h1).1
  have hT := T_ln (ty := .int) (t := b) (N := L) (f := xs) (A := oB s) (U := s) (H := s.heap) ⟨scr, h1, h2, h3, by omega, by rw [h4], h5, oB_not b l⟩ (by omega)
  exact ⟨l, kd0_30 hT.2.2, hT.1, hT.2.1⟩
