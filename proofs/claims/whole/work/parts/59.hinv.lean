/-! what holds of the house behind every call -/
theorem uS_at {u : us} {k v : Nat} : (uS u k v).1 k = v := by unfold uS va_up; simp
theorem uS_ne {u : us} {k v j : Nat} (h : j ≠ k) : (uS u k v).1 j = u.1 j := by unfold uS va_up; simp [h]
theorem hSet_at {H : hs} {k v : Nat} : (hSet H k v).1 k = v := by unfold hSet va_up; simp
theorem hSet_ne {H : hs} {k v j : Nat} (h : j ≠ k) : (hSet H k v).1 j = H.1 j := by unfold hSet va_up; simp [h]
theorem hU_at {H : hs} {u : Nat} {x : us} : (hU H u x).2.2 u = x := by unfold hU va_up; simp
theorem hU_ne {H : hs} {u v : Nat} {x : us} (h : v ≠ u) : (hU H u x).2.2 v = H.2.2 v := by unfold hU va_up; simp [h]
theorem UB_hU {H : hs} {u : Nat} {x : us} (h : ∀ v, UB (H.2.2 v)) (hx : UB x) : ∀ v, UB ((hU H u x).2.2 v) := by
  intro v
  show UB (va_up H.2.2 u x v)
  unfold va_up; split
  · exact hx
  · exact h v
/-- printed letters and the state stay -/
def SK (u v : us) : Prop := v.1 8 = u.1 8 ∧ v.1 3 = u.1 3
theorem SK.rf {u : us} : SK u u := ⟨rfl, rfl⟩
theorem SK.S {u v : us} {k x : Nat} (h : SK u v) (h1 : k ≠ 8) (h2 : k ≠ 3) : SK u (uS v k x) := ⟨by rw [uS_ne (Ne.symm h1)]; exact h.1, by rw [uS_ne (Ne.symm h2)]; exact h.2⟩
theorem SK.M {u v : us} {a x : Nat} (h : SK u v) : SK u (uMem v a x) := h
theorem SK.sk {u v : us} (h : SK u v) : SK u (i_skip v) := h.S (by decide) (by decide)
theorem SK.ski {u v : us} {c : Bool} (h : SK u v) : SK u (i_skipIf v c) := by unfold i_skipIf; split; exact h.sk; exact h
theorem SK.sum {u v : us} {s : Nat} (h : SK u v) : SK u (i_sum v s) := by
  unfold i_sum; split
  · exact (h.S (by decide) (by decide)).S (by decide) (by decide)
  · exact h.S (by decide) (by decide)
theorem SK.ref {u v : us} {x own : Nat} (h : SK u v) : SK u (i_ref v x own) := by
  have h1 : SK u (i_refA v x own).1 := by
    unfold i_refA; dsimp only; split
    · show SK u (i_bump v _)
      unfold i_bump; split
      · exact h.M
      · exact h
    · exact h
  unfold i_ref
  dsimp only
  revert h1
  generalize (i_refA v x own).1 = v
  generalize (i_refA v x own).2 = a
  intro h1
  split
  · exact h1.S (by decide) (by decide)
  · exact h1.sum
  · exact h1.M.ski
  · exact h1.M.S (by decide) (by decide)
  · exact h1.M.S (by decide) (by decide)
  · exact h1.S (by decide) (by decide)
theorem SK.rot {u v : us} {b : Bool} (h : SK u v) : SK u (i_rot v b) := (h.S (by decide) (by decide)).S (by decide) (by decide)
theorem SK.ite {u v : us} {k x : Nat} {b : Bool} (h : SK u v) (h1 : k ≠ 8) (h2 : k ≠ 3) : SK u (if b then uS v k x else v) := by
  split
  · exact h.S h1 h2
  · exact h
theorem SK.op {u v : us} {z : Nat} (h : SK u v) : SK u (i_op v z) := by
  unfold i_op
  dsimp only
  have e1 : SK u (if z.testBit 7 then uS v 1 0 else v) := h.ite (by decide) (by decide)
  generalize (if z.testBit 7 then uS v 1 0 else v) = x1 at *
  have e2 : SK u (if z.testBit 6 then uS x1 2 0 else x1) := e1.ite (by decide) (by decide)
  generalize (if z.testBit 6 then uS x1 2 0 else x1) = x2 at *
  have e3 : SK u (if z.testBit 5 then uS x2 1 (4095 - x2.1 1) else x2) := e2.ite (by decide) (by decide)
  generalize (if z.testBit 5 then uS x2 1 (4095 - x2.1 1) else x2) = x3 at *
  have e4 : SK u (if z.testBit 4 then uS x3 2 (1 - x3.1 2) else x3) := e3.ite (by decide) (by decide)
  generalize (if z.testBit 4 then uS x3 2 (1 - x3.1 2) else x3) = x4 at *
  have e5 : SK u (if z.testBit 0 then i_sum x4 (x4.1 1 + 1) else x4) := by split; exact e4.sum; exact e4
  generalize (if z.testBit 0 then i_sum x4 (x4.1 1 + 1) else x4) = x5 at *
  split
  · exact e5
  · split
    · exact e5.rot.rot
    · exact e5.rot
/-- behind an instruction -/
def IK (u v : us) : Prop := v.1 8 = u.1 8 ∧ (v.1 3 = u.1 3 ∨ v.1 3 = 0 ∨ v.1 3 = 3 ∨ v.1 3 = 4 ∨ (v.1 3 = 5 ∧ 1 ≤ v.1 4))
theorem SK.I {u v : us} (h : SK u v) : IK u v := ⟨h.1, Or.inl h.2⟩
theorem SK.test {u v : us} {z : Nat} (h : SK u v) : IK u (i_test v z) := by
  unfold i_test
  dsimp only
  have e0 : SK u (i_skipIf v (i_cond v z != z.testBit 3)) := h.ski
  generalize i_skipIf v (i_cond v z != z.testBit 3) = x0 at *
  have e1 : SK u (if z.testBit 7 then uS x0 1 0 else x0) := e0.ite (by decide) (by decide)
  generalize (if z.testBit 7 then uS x0 1 0 else x0) = x1 at *
  have e2 : SK u (if z.testBit 2 then uS x1 1 (x1.1 1 ||| x1.1 5) else x1) := e1.ite (by decide) (by decide)
  generalize (if z.testBit 2 then uS x1 1 (x1.1 1 ||| x1.1 5) else x1) = x2 at *
  split
  · exact ⟨by rw [uS_ne (by decide)]; exact e2.1, Or.inr (Or.inl uS_at)⟩
  · exact e2.I
theorem SK.wait {u v : us} {own : Nat} (h : SK u v) : IK u (i_wait v own 3) ∧ IK u (i_wait v own 4) :=
  ⟨⟨by unfold i_wait; rw [uS_ne (by decide), uS_ne (by decide)]; exact h.1, Or.inr (Or.inr (Or.inl uS_at))⟩, ⟨by unfold i_wait; rw [uS_ne (by decide), uS_ne (by decide)]; exact h.1, Or.inr (Or.inr (Or.inr (Or.inl uS_at)))⟩⟩
theorem SK.block {u v : us} {rd : Bool} (h : SK u v) : SK u (i_block v rd) := by
  unfold i_block
  dsimp only
  have hv := h.sk
  generalize uMm v (v.1 0) = a
  generalize i_skip v = y at *
  split
  · exact hv.S (by decide) (by decide)
  · split
    · exact SK.S (v := (y.1, _, y.2.2)) hv (by decide) (by decide)
    · exact SK.S (v := (y.1, y.2.1, _, y.2.2.2)) hv (by decide) (by decide)
theorem SK.dev {u v : us} {n x own : Nat} (h : SK u v) : IK u (i_dev n v x own) := by
  unfold i_dev
  split
  · exact h.ski.I
  · split
    · split
      · exact h.wait.1
      · exact (SK.S (v := uInp v _) h (by decide) (by decide)).I
    · split
      · exact h.ski.I
      · split
        · split
          · exact SK.I (v := uOut v _) h
          · exact h.wait.2
        · split
          · split
            · exact h.I
            · refine ⟨by rw [uS_ne (by decide), uS_ne (by decide), uS_ne (by decide)]; exact h.1, Or.inr (Or.inr (Or.inr (Or.inr ⟨by rw [uS_ne (by decide), uS_ne (by decide), uS_at], ?_⟩)))⟩
              rw [uS_ne (by decide), uS_at]
              omega
          · split
            · exact h.block.I
            · split
              · exact h.block.I
              · split
                · exact (h.S (by decide) (by decide)).I
                · exact h.I
theorem IK_inst {u : us} {n : Nat} : IK u (inst n u) := by
  have hv : SK u (uS (i_skip u) 9 (u.1 9 + 1)) := SK.rf.sk.S (by decide) (by decide)
  unfold inst
  dsimp only
  split
  · exact hv.ref.I
  · split
    · exact hv.dev
    · split
      · exact hv.op.I
      · split
        · exact hv.test
        · exact hv.I
theorem nodup_len : ∀ (n : Nat) (l : List Nat), l.Nodup → (∀ x ∈ l, x < n) → l.length ≤ n := by
  intro n
  induction n with
  | zero => intro l _ h; cases l with
    | nil => exact Nat.le_refl _
    | cons a r => exact absurd (h a List.mem_cons_self) (Nat.not_lt_zero _)
  | succ n ih =>
    intro l hn h
    have h1 := ih (l.erase n) (hn.erase n) (fun x hx => by
      have := (List.Nodup.mem_erase_iff hn).mp hx
      have := h x this.2
      omega)
    by_cases c : n ∈ l
    · rw [List.length_erase_of_mem c] at h1; omega
    · rw [List.erase_of_not_mem c] at h1; omega
def HI (H : hs) : Prop := H.1 0 ≤ 8 ∧ H.1 1 < 8 ∧ H.1 2 ≤ 64 ∧ H.1 3 ≤ 1000 ∧ H.1 6 ≤ H.1 0 ∧ H.1 7 ≤ 64 ∧ H.1 8 < 4096 ∧ (H.1 9 < 8 ∧ (H.1 0 ≠ 0 → H.1 9 ≤ H.1 1 ∧ 1 ≤ H.1 1 ∧ 1 ≤ H.1 9 ∧ 1 ≤ H.1 2 ∧ 4 ≤ H.1 3)) ∧ H.2.1.Nodup ∧ (∀ v ∈ H.2.1, v < H.1 0 ∧ (H.2.2 v).1 3 = 1) ∧ (H.1 6 ≠ 0 → (H.2.2 (H.1 6 - 1)).1 3 = 2) ∧ (∀ v, (H.2.2 v).1 3 = 5 → 1 ≤ (H.2.2 v).1 4) ∧ ∀ v, UB (H.2.2 v)
theorem HI.len {H : hs} (h : HI H) : H.2.1.length ≤ 8 := Nat.le_trans (nodup_len (H.1 0) _ h.2.2.2.2.2.2.2.2.1 (fun x hx => (h.2.2.2.2.2.2.2.2.2.1 x hx).1)) h.1
theorem HI.len' {H : hs} {u : Nat} (h : HI H) (hu : u < H.1 0) (h1 : (H.2.2 u).1 3 ≠ 1) : H.2.1.length < 8 := by
  obtain ⟨a0, a1, a2, a3, a6, a7, a8, a9, an, ar, at', as, ab⟩ := h
  have := nodup_len (H.1 0) (u :: H.2.1) (List.nodup_cons.mpr ⟨fun q => h1 (ar u q).2, an⟩) (fun x hx => by
    rcases List.mem_cons.mp hx with q | q
    · omega
    · exact (ar x q).1)
  simp at this
  omega
theorem HI.U {H : hs} {u : Nat} {x : us} (h : HI H) (hx : UB x) (h3 : x.1 3 = (H.2.2 u).1 3) (h5 : x.1 3 = 5 → 1 ≤ x.1 4) : HI (hU H u x) := by
  obtain ⟨a0, a1, a2, a3, a6, a7, a8, a9, an, ar, at', as, ab⟩ := h
  have e : ∀ v, ((hU H u x).2.2 v).1 3 = (H.2.2 v).1 3 := fun v => by
    by_cases c : v = u
    · subst c; rw [hU_at]; exact h3
    · rw [hU_ne c]
  refine ⟨a0, a1, a2, a3, a6, a7, a8, a9, an, fun v hv => ⟨(ar v hv).1, (e v).trans (ar v hv).2⟩, fun q => (e _).trans (at' q), fun v q => ?_, UB_hU ab hx⟩
  by_cases c : v = u
  · subst c; rw [hU_at] at q ⊢; exact h5 q
  · rw [hU_ne c] at q ⊢; exact as v q
theorem HI.ready {H : hs} {u : Nat} (h : HI H) (hu : u < H.1 0) (h1 : (H.2.2 u).1 3 ≠ 1) (h2 : H.1 6 ≠ u + 1) : HI (h_ready H u) := by
  obtain ⟨a0, a1, a2, a3, a6, a7, a8, a9, an, ar, at', as, ab⟩ := h
  have hn : u ∉ H.2.1 := fun q => h1 (ar u q).2
  refine ⟨a0, a1, a2, a3, a6, a7, a8, a9, ?_, fun v hv => ?_, fun q => ?_, fun v q => ?_, UB_hU ab ((ab u).S3 (by decide))⟩
  · show (H.2.1 ++ [u]).Nodup
    rw [List.nodup_append]
    exact ⟨an, List.nodup_cons.mpr ⟨by simp, List.nodup_nil⟩, fun a ha b hb => by rw [List.mem_singleton.mp hb]; exact fun e => hn (by rw [← e]; exact ha)⟩
  · have hv' : v ∈ H.2.1 ++ [u] := hv
    rcases List.mem_append.mp hv' with q | q
    · refine ⟨(ar v q).1, ?_⟩
      show ((hU H u (uS (H.2.2 u) 3 1)).2.2 v).1 3 = 1
      rw [hU_ne (fun e : v = u => hn (by rw [← e]; exact q))]; exact (ar v q).2
    · have e := List.mem_singleton.mp q
      subst e
      refine ⟨hu, ?_⟩
      show ((hU H v (uS (H.2.2 v) 3 1)).2.2 v).1 3 = 1
      rw [hU_at, uS_at]
  · show ((hU H u (uS (H.2.2 u) 3 1)).2.2 (H.1 6 - 1)).1 3 = 2
    have q' : H.1 6 ≠ 0 := q
    rw [hU_ne (by omega)]; exact at' q
  · have q' : ((hU H u (uS (H.2.2 u) 3 1)).2.2 v).1 3 = 5 := q
    show 1 ≤ ((hU H u (uS (H.2.2 u) 3 1)).2.2 v).1 4
    by_cases c : v = u
    · subst c; rw [hU_at, uS_at] at q'; exact absurd q' (by decide)
    · rw [hU_ne c] at q' ⊢; exact as v q'
