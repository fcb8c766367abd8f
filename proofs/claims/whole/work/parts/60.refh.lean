/-! the reference holds the house -/
def rn (k : Nat) : Int32 := if k = 0 then -1 else nI (k - 1)
def RAt (w : aw) (m : Nat) (H : hs) : Prop := RSh w m ∧ fd w 512 m = .int (nI (H.1 0)) ∧ fd w 513 m = .int (nI (H.1 1)) ∧ fd w 514 m = .int (nI (H.1 2)) ∧ fd w 515 m = .int (nI (H.1 3)) ∧ fd w 516 m = .int (nI (H.1 4)) ∧ fd w 517 m = .int (nI (H.1 5)) ∧ fd w 521 m = .int (rn (H.1 6)) ∧ fd w 522 m = .int (nI (H.1 7)) ∧ fd w 518 m = .int (nI (H.1 8)) ∧ fd w 519 m = .int (nI (H.1 9)) ∧ fd w 520 m = .int (nI (H.1 10)) ∧ fd w 524 m = .int (nI H.2.1.length) ∧ (∀ i, i < H.2.1.length → ai w (m + 1) i = nI (H.2.1.getD i 0)) ∧ ∀ v, v < 8 → RU w m v (H.2.2 v)
/-- nothing of the tape's side changes, nor what isn't the reference's -/
def FrM (w w' : aw) (m : Nat) : Prop := Fr w w' m (m + 25) ∧ (∀ k i, 19 ≤ k → ai w' (m + k) i = ai w (m + k) i) ∧ (∀ q i, al w' q i = al w q i) ∧ fd w' 543 m = fd w 543 m ∧ fd w' 544 m = fd w 544 m ∧ fd w' 545 m = fd w 545 m ∧ fd w' 548 m = fd w 548 m ∧ fd w' 549 m = fd w 549 m ∧ fd w' 553 m = fd w 553 m ∧ fd w' 554 m = fd w 554 m ∧ fd w' 555 m = fd w 555 m ∧ fd w' 556 m = fd w 556 m ∧ fd w' 557 m = fd w 557 m ∧ fd w' 558 m = fd w 558 m
theorem FrM.rf {w : aw} {m : Nat} : FrM w w m := ⟨Fr.rf, fun _ _ _ => rfl, fun _ _ => rfl, rfl, rfl, rfl, rfl, rfl, rfl, rfl, rfl, rfl, rfl, rfl⟩
theorem FrM.tr {w w1 w2 : aw} {m : Nat} (h : FrM w w1 m) (g : FrM w1 w2 m) : FrM w w2 m := by
  obtain ⟨a1, a2, a3, e0, e1, e2, e3, e4, e5, e6, e7, e8, e9, e10⟩ := h
  obtain ⟨b1, b2, b3, f0, f1, f2, f3, f4, f5, f6, f7, f8, f9, f10⟩ := g
  exact ⟨a1.tr b1, fun k i p => (b2 k i p).trans (a2 k i p), fun q i => (b3 q i).trans (a3 q i), f0.trans e0, f1.trans e1, f2.trans e2, f3.trans e3, f4.trans e4, f5.trans e5, f6.trans e6, f7.trans e7, f8.trans e8, f9.trans e9, f10.trans e10⟩
theorem FrV.M {w w' : aw} {m u : Nat} (h : FrV w w' m u) : FrM w w' m := ⟨h.1, fun k i p => h.2.2.1 k i (Or.inr p), h.2.2.2.1, h.2.1 _ (by decide) (by decide), h.2.1 _ (by decide) (by decide), h.2.1 _ (by decide) (by decide), h.2.1 _ (by decide) (by decide), h.2.1 _ (by decide) (by decide), h.2.1 _ (by decide) (by decide), h.2.1 _ (by decide) (by decide), h.2.1 _ (by decide) (by decide), h.2.1 _ (by decide) (by decide), h.2.1 _ (by decide) (by decide), h.2.1 _ (by decide) (by decide)⟩
theorem FrM.A {w w' : aw} {m k i : Nat} {x : Int32} (h : FrM w w' m) (hk : k < 19) : FrM w (uA w' (m + k) i x) m := by
  obtain ⟨a1, a2, a3, e0, e1, e2, e3, e4, e5, e6, e7, e8, e9, e10⟩ := h
  exact ⟨a1.A (by omega) (by omega), fun j i' p => by rw [ai_uA, if_neg (by omega)]; exact a2 j i' p, a3, e0, e1, e2, e3, e4, e5, e6, e7, e8, e9, e10⟩
theorem FrM.users {w w' : aw} {m : Nat} {x : Value} (h : FrM w w' m) : FrM w (uF w' 512 m x) m := by
  obtain ⟨a1, a2, a3, e0, e1, e2, e3, e4, e5, e6, e7, e8, e9, e10⟩ := h
  exact ⟨a1.F (by omega) (by omega), a2, a3, e0, e1, e2, e3, e4, e5, e6, e7, e8, e9, e10⟩
theorem FrM.fields {w w' : aw} {m : Nat} {x : Value} (h : FrM w w' m) : FrM w (uF w' 513 m x) m := by
  obtain ⟨a1, a2, a3, e0, e1, e2, e3, e4, e5, e6, e7, e8, e9, e10⟩ := h
  exact ⟨a1.F (by omega) (by omega), a2, a3, e0, e1, e2, e3, e4, e5, e6, e7, e8, e9, e10⟩
theorem FrM.quantum {w w' : aw} {m : Nat} {x : Value} (h : FrM w w' m) : FrM w (uF w' 514 m x) m := by
  obtain ⟨a1, a2, a3, e0, e1, e2, e3, e4, e5, e6, e7, e8, e9, e10⟩ := h
  exact ⟨a1.F (by omega) (by omega), a2, a3, e0, e1, e2, e3, e4, e5, e6, e7, e8, e9, e10⟩
theorem FrM.beat {w w' : aw} {m : Nat} {x : Value} (h : FrM w w' m) : FrM w (uF w' 515 m x) m := by
  obtain ⟨a1, a2, a3, e0, e1, e2, e3, e4, e5, e6, e7, e8, e9, e10⟩ := h
  exact ⟨a1.F (by omega) (by omega), a2, a3, e0, e1, e2, e3, e4, e5, e6, e7, e8, e9, e10⟩
theorem FrM.steps {w w' : aw} {m : Nat} {x : Value} (h : FrM w w' m) : FrM w (uF w' 516 m x) m := by
  obtain ⟨a1, a2, a3, e0, e1, e2, e3, e4, e5, e6, e7, e8, e9, e10⟩ := h
  exact ⟨a1.F (by omega) (by omega), a2, a3, e0, e1, e2, e3, e4, e5, e6, e7, e8, e9, e10⟩
theorem FrM.ticks {w w' : aw} {m : Nat} {x : Value} (h : FrM w w' m) : FrM w (uF w' 517 m x) m := by
  obtain ⟨a1, a2, a3, e0, e1, e2, e3, e4, e5, e6, e7, e8, e9, e10⟩ := h
  exact ⟨a1.F (by omega) (by omega), a2, a3, e0, e1, e2, e3, e4, e5, e6, e7, e8, e9, e10⟩
theorem FrM.left {w w' : aw} {m : Nat} {x : Value} (h : FrM w w' m) : FrM w (uF w' 522 m x) m := by
  obtain ⟨a1, a2, a3, e0, e1, e2, e3, e4, e5, e6, e7, e8, e9, e10⟩ := h
  exact ⟨a1.F (by omega) (by omega), a2, a3, e0, e1, e2, e3, e4, e5, e6, e7, e8, e9, e10⟩
theorem FrM.swaps {w w' : aw} {m : Nat} {x : Value} (h : FrM w w' m) : FrM w (uF w' 518 m x) m := by
  obtain ⟨a1, a2, a3, e0, e1, e2, e3, e4, e5, e6, e7, e8, e9, e10⟩ := h
  exact ⟨a1.F (by omega) (by omega), a2, a3, e0, e1, e2, e3, e4, e5, e6, e7, e8, e9, e10⟩
theorem FrM.turn {w w' : aw} {m : Nat} {x : Value} (h : FrM w w' m) : FrM w (uF w' 519 m x) m := by
  obtain ⟨a1, a2, a3, e0, e1, e2, e3, e4, e5, e6, e7, e8, e9, e10⟩ := h
  exact ⟨a1.F (by omega) (by omega), a2, a3, e0, e1, e2, e3, e4, e5, e6, e7, e8, e9, e10⟩
theorem FrM.idle {w w' : aw} {m : Nat} {x : Value} (h : FrM w w' m) : FrM w (uF w' 520 m x) m := by
  obtain ⟨a1, a2, a3, e0, e1, e2, e3, e4, e5, e6, e7, e8, e9, e10⟩ := h
  exact ⟨a1.F (by omega) (by omega), a2, a3, e0, e1, e2, e3, e4, e5, e6, e7, e8, e9, e10⟩
theorem FrM.running {w w' : aw} {m : Nat} {x : Value} (h : FrM w w' m) : FrM w (uF w' 521 m x) m := by
  obtain ⟨a1, a2, a3, e0, e1, e2, e3, e4, e5, e6, e7, e8, e9, e10⟩ := h
  exact ⟨a1.F (by omega) (by omega), a2, a3, e0, e1, e2, e3, e4, e5, e6, e7, e8, e9, e10⟩
theorem FrM.rowMany {w w' : aw} {m : Nat} {x : Value} (h : FrM w w' m) : FrM w (uF w' 524 m x) m := by
  obtain ⟨a1, a2, a3, e0, e1, e2, e3, e4, e5, e6, e7, e8, e9, e10⟩ := h
  exact ⟨a1.F (by omega) (by omega), a2, a3, e0, e1, e2, e3, e4, e5, e6, e7, e8, e9, e10⟩
theorem RAt.S0 {w : aw} {m v : Nat} {H : hs} (h : RAt w m H) : RAt (uF w 512 m (.int (nI v))) m (hSet H 0 v) := by
  obtain ⟨sh, q0, q1, q2, q3, q4, q5, q6, q7, q8, q9, q10, qm, qr, qu⟩ := h
  exact ⟨sh, by rw [fd_uF, if_pos ⟨rfl, rfl⟩]; simp [hSet, va_up], q1, q2, q3, q4, q5, q6, q7, q8, q9, q10, qm, qr, qu⟩
theorem RAt.S1 {w : aw} {m v : Nat} {H : hs} (h : RAt w m H) : RAt (uF w 513 m (.int (nI v))) m (hSet H 1 v) := by
  obtain ⟨sh, q0, q1, q2, q3, q4, q5, q6, q7, q8, q9, q10, qm, qr, qu⟩ := h
  exact ⟨sh, q0, by rw [fd_uF, if_pos ⟨rfl, rfl⟩]; simp [hSet, va_up], q2, q3, q4, q5, q6, q7, q8, q9, q10, qm, qr, qu⟩
theorem RAt.S2 {w : aw} {m v : Nat} {H : hs} (h : RAt w m H) : RAt (uF w 514 m (.int (nI v))) m (hSet H 2 v) := by
  obtain ⟨sh, q0, q1, q2, q3, q4, q5, q6, q7, q8, q9, q10, qm, qr, qu⟩ := h
  exact ⟨sh, q0, q1, by rw [fd_uF, if_pos ⟨rfl, rfl⟩]; simp [hSet, va_up], q3, q4, q5, q6, q7, q8, q9, q10, qm, qr, qu⟩
theorem RAt.S3 {w : aw} {m v : Nat} {H : hs} (h : RAt w m H) : RAt (uF w 515 m (.int (nI v))) m (hSet H 3 v) := by
  obtain ⟨sh, q0, q1, q2, q3, q4, q5, q6, q7, q8, q9, q10, qm, qr, qu⟩ := h
  exact ⟨sh, q0, q1, q2, by rw [fd_uF, if_pos ⟨rfl, rfl⟩]; simp [hSet, va_up], q4, q5, q6, q7, q8, q9, q10, qm, qr, qu⟩
theorem RAt.S4 {w : aw} {m v : Nat} {H : hs} (h : RAt w m H) : RAt (uF w 516 m (.int (nI v))) m (hSet H 4 v) := by
  obtain ⟨sh, q0, q1, q2, q3, q4, q5, q6, q7, q8, q9, q10, qm, qr, qu⟩ := h
  exact ⟨sh, q0, q1, q2, q3, by rw [fd_uF, if_pos ⟨rfl, rfl⟩]; simp [hSet, va_up], q5, q6, q7, q8, q9, q10, qm, qr, qu⟩
theorem RAt.S5 {w : aw} {m v : Nat} {H : hs} (h : RAt w m H) : RAt (uF w 517 m (.int (nI v))) m (hSet H 5 v) := by
  obtain ⟨sh, q0, q1, q2, q3, q4, q5, q6, q7, q8, q9, q10, qm, qr, qu⟩ := h
  exact ⟨sh, q0, q1, q2, q3, q4, by rw [fd_uF, if_pos ⟨rfl, rfl⟩]; simp [hSet, va_up], q6, q7, q8, q9, q10, qm, qr, qu⟩
theorem RAt.S6 {w : aw} {m v : Nat} {H : hs} (h : RAt w m H) : RAt (uF w 521 m (.int (rn v))) m (hSet H 6 v) := by
  obtain ⟨sh, q0, q1, q2, q3, q4, q5, q6, q7, q8, q9, q10, qm, qr, qu⟩ := h
  exact ⟨sh, q0, q1, q2, q3, q4, q5, by rw [fd_uF, if_pos ⟨rfl, rfl⟩]; simp [hSet, va_up], q7, q8, q9, q10, qm, qr, qu⟩
theorem RAt.S7 {w : aw} {m v : Nat} {H : hs} (h : RAt w m H) : RAt (uF w 522 m (.int (nI v))) m (hSet H 7 v) := by
  obtain ⟨sh, q0, q1, q2, q3, q4, q5, q6, q7, q8, q9, q10, qm, qr, qu⟩ := h
  exact ⟨sh, q0, q1, q2, q3, q4, q5, q6, by rw [fd_uF, if_pos ⟨rfl, rfl⟩]; simp [hSet, va_up], q8, q9, q10, qm, qr, qu⟩
theorem RAt.S8 {w : aw} {m v : Nat} {H : hs} (h : RAt w m H) : RAt (uF w 518 m (.int (nI v))) m (hSet H 8 v) := by
  obtain ⟨sh, q0, q1, q2, q3, q4, q5, q6, q7, q8, q9, q10, qm, qr, qu⟩ := h
  exact ⟨sh, q0, q1, q2, q3, q4, q5, q6, q7, by rw [fd_uF, if_pos ⟨rfl, rfl⟩]; simp [hSet, va_up], q9, q10, qm, qr, qu⟩
theorem RAt.S9 {w : aw} {m v : Nat} {H : hs} (h : RAt w m H) : RAt (uF w 519 m (.int (nI v))) m (hSet H 9 v) := by
  obtain ⟨sh, q0, q1, q2, q3, q4, q5, q6, q7, q8, q9, q10, qm, qr, qu⟩ := h
  exact ⟨sh, q0, q1, q2, q3, q4, q5, q6, q7, q8, by rw [fd_uF, if_pos ⟨rfl, rfl⟩]; simp [hSet, va_up], q10, qm, qr, qu⟩
theorem RAt.S10 {w : aw} {m v : Nat} {H : hs} (h : RAt w m H) : RAt (uF w 520 m (.int (nI v))) m (hSet H 10 v) := by
  obtain ⟨sh, q0, q1, q2, q3, q4, q5, q6, q7, q8, q9, q10, qm, qr, qu⟩ := h
  exact ⟨sh, q0, q1, q2, q3, q4, q5, q6, q7, q8, q9, by rw [fd_uF, if_pos ⟨rfl, rfl⟩]; simp [hSet, va_up], qm, qr, qu⟩
theorem RAt.U {w w' : aw} {m u : Nat} {x : us} {H : hs} (h : RAt w m H) (hB : ∀ v, UB (H.2.2 v)) (hF : FrN w w' m u) (hx : RU w' m u x) : RAt w' m (hU H u x) := by
  obtain ⟨sh, q0, q1, q2, q3, q4, q5, q6, q7, q8, q9, q10, qm, qr, qu⟩ := h
  obtain ⟨hV, hf⟩ := hF
  refine ⟨hV.sh sh, (hf _).trans q0, (hf _).trans q1, (hf _).trans q2, (hf _).trans q3, (hf _).trans q4, (hf _).trans q5, (hf _).trans q6, (hf _).trans q7, (hf _).trans q8, (hf _).trans q9, (hf _).trans q10, (hf _).trans qm, fun i hi => (hV.2.2.1 1 i (Or.inl rfl)).trans (qr i hi), fun v hv => ?_⟩
  show RU w' m v (va_up H.2.2 u x v)
  unfold va_up
  split
  · rename_i e; rw [e]; exact hx
  · rename_i e; exact hV.other e (hB v) (qu v hv)
theorem RU.row {w : aw} {m v i : Nat} {x : us} {c : Int32} (h : RU w m v x) : RU (uA w (m + 1) i c) m v x := by
  obtain ⟨t0, t1, t2, t3, t4, t5, t6, t7, t8, t9, mm, ff, pp, il, ix, ol, ox⟩ := h
  exact ⟨by rw [ai_uA, if_neg (by omega)]; exact t0, by rw [ai_uA, if_neg (by omega)]; exact t1, by rw [ai_uA, if_neg (by omega)]; exact t2, by rw [ai_uA, if_neg (by omega)]; exact t3, by rw [ai_uA, if_neg (by omega)]; exact t4, by rw [ai_uA, if_neg (by omega)]; exact t5, by rw [ai_uA, if_neg (by omega)]; exact t6, by rw [ai_uA, if_neg (by omega)]; exact t7, by rw [ai_uA, if_neg (by omega)]; exact t8, by rw [ai_uA, if_neg (by omega)]; exact t9, fun a ha => by rw [ai_uA, if_neg (by omega)]; exact mm a ha, fun a ha => by rw [ai_uA, if_neg (by omega)]; exact ff a ha, fun a ha => by rw [ai_uA, if_neg (by omega)]; exact pp a ha, by rw [ai_uA, if_neg (by omega)]; exact il, fun i q => by rw [ai_uA, if_neg (by omega)]; exact ix i q, by rw [ai_uA, if_neg (by omega)]; exact ol, fun i q => by rw [ai_uA, if_neg (by omega)]; exact ox i q⟩
theorem RAt.push {w : aw} {m u : Nat} {H : hs} (h : RAt w m H) : RAt (uF (uA w (m + 1) H.2.1.length (nI u)) 524 m (.int (nI (H.2.1.length + 1)))) m (hRow H (H.2.1 ++ [u])) := by
  obtain ⟨sh, q0, q1, q2, q3, q4, q5, q6, q7, q8, q9, q10, qm, qr, qu⟩ := h
  refine ⟨sh, q0, q1, q2, q3, q4, q5, q6, q7, q8, q9, q10, ?_, fun i hi => ?_, fun v hv => (qu v hv).row⟩
  · rw [fd_uF, if_pos ⟨rfl, rfl⟩]
    show _ = Value.int (nI (H.2.1 ++ [u]).length)
    rw [List.length_append]; rfl
  · have hi' : i < (H.2.1 ++ [u]).length := hi
    rw [List.length_append] at hi'
    show ai (uA w (m + 1) H.2.1.length (nI u)) (m + 1) i = nI ((H.2.1 ++ [u]).getD i 0)
    rw [ai_uA]
    by_cases e : i = H.2.1.length
    · rw [if_pos ⟨rfl, e⟩, e]; simp
    · have hlt : i < H.2.1.length := by simp at hi'; omega
      rw [if_neg (by omega), qr i hlt]
      simp [List.getD_eq_getElem?_getD, List.getElem?_append_left hlt]
theorem sp_R_ready {d : Nat} {w : aw} {m u : Nat} {H : hs} {Q : wQ} (hA : RAt w m H) (hB : ∀ v, UB (H.2.2 v)) (hu : u < 8) (hl : H.2.1.length < 8) (h : ∀ w', RAt w' m (h_ready H u) → FrM w w' m → Q none w') : wpD (d + 1) 119 [.ref m, .int (nI u)] w Q := by
  refine ⟨Nat.le_of_ble_eq_true rfl, ?_⟩
  show wp d 119 Q 0 [some (.ref m), some (.int (nI u))] [] w 0 0
  have hin : inR (nI u) 8 := inR_nI hu (by decide)
  have cu : (nI u).toNatClampNeg = u := clN (by omega)
  have hA0 := hA
  obtain ⟨sh, q0, q1, q2, q3, q4, q5, q6, q7, q8, q9, q10, qm, qr, qu⟩ := hA
  obtain ⟨rk, r1, r2, r3, r4, r5, r6, r7, r8, r9, r10, r11, r12, r13, r14, r15, r16, r17, r18, r19, r20, r21, r22, r23, r24, k1, k2, k3, k4, k5, k6, k7, k8, k9, k10, k11, k12, k13, k14, k15, k16, k17, k18, k19, k20, k21, k22, k23, k24, n1, n2, n3, n4, n5, n6, n7, n8, n9, n10, n11, n12, n13, n14, n15, n16, n17, n18, n19, n20, n21, n22, n23, n24⟩ := sh
  simp only [↓s_119_0, ↓s_119_1, ↓s_119_4, ↓s_119_5, ↓s_119_6, ↓s_119_7, ↓s_119_8, ↓s_119_11, ↓s_119_12, ↓s_119_15, ↓s_119_16, ↓s_119_17, ↓s_119_18, ↓s_119_19, ↓s_119_22, ↓s_119_23, ↓s_119_24, ↓s_119_27, kd_uF, ln_uF, ai_uF, al_uF, ar_uF, zs_uF, fd_uF, kd_uA, ln_uA, fd_uA, al_uA, ar_uA, zs_uA, ai_uA, kd_uL, ln_uL, fd_uL, ai_uL, ar_uL, zs_uL, al_uL, kd_uR, ln_uR, fd_uR, ai_uR, al_uR, zs_uR, ar_uR, true_and, and_true, Option.toList_some, Option.toList_none, List.cons_append, List.nil_append, catS_nil, catS_int, catS_ref, catS_null, catS_long, cat_int, cat_ref, cat_null, Nat.reduceEqDiff, Nat.reduceLeDiff, Nat.reduceAdd, false_and, and_false, if_false, if_true, ite_true, ite_false, true_or, or_true, false_or, or_false, and_self, forall_const, true_implies, reduceCtorEq, clr_int, clr_ref, clr_null, clr_none, clr_long, va_rf_some, va_rf_none, rk, r8, k8, n8, r1, k1, n1, cu, qm, clN (show H.2.1.length < 2147483648 by omega)]
  rw [nI_1]
  have h1 : RAt (uA w (m + 8) u (nI 1)) m (hU H u (uS (H.2.2 u) 3 1)) := hA0.U hB (FrN.rf.one (by omega)) (qu u hu).S3
  exact ⟨hin, inR_nI hl (by decide), h _ h1.push (((FrM.rf.A (by decide)).A (by decide)).rowMany)⟩
