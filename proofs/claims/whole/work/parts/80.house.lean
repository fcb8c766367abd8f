def ub (h v : Nat) : Nat := h + 4 + 8 * v
def CSh (w : aw) (h : Nat) : Prop := kd w h = 2 ∧ fd w 64 h = .ref (h + 1) ∧ fd w 69 h = .ref (h + 2) ∧ fd w 71 h = .ref (h + 3) ∧ kd w (h + 1) = 24 ∧ kd w (h + 2) = 24 ∧ kd w (h + 3) = 24 ∧ ln w (h + 1) = 8 ∧ ln w (h + 2) = 8 ∧ ln w (h + 3) = 8 ∧ ∀ v, v < 8 → ar w (h + 1) v = some (ub h v)
def cRun (h k : Nat) : Value := if k = 0 then .null else .ref (ub h (k - 1))
def CNm (w : aw) (h : Nat) (f : Nat → Nat) : Prop := fd w 65 h = .int (nI (f 0)) ∧ fd w 66 h = .int (nI (f 1)) ∧ fd w 67 h = .int (nI (f 2)) ∧ fd w 68 h = .int (nI (f 3)) ∧ fd w 74 h = .int (nI (f 4)) ∧ fd w 76 h = .int (nI (f 5)) ∧ fd w 73 h = cRun h (f 6) ∧ fd w 77 h = .int (nI (f 8)) ∧ fd w 72 h = .int (nI (f 9)) ∧ fd w 78 h = .int (nI (f 10))
def CRw (w : aw) (h : Nat) (r : List Nat) : Prop := fd w 70 h = .int (nI r.length) ∧ (∀ i, i < r.length → ar w (h + 2) i = some (ub h (r.getD i 0))) ∧ ∀ i q, ar w (h + 2) i = some q → kd w q = 7
def CIf (w : aw) (h n : Nat) (U : Nat → us) : Prop := ∀ t, 1 ≤ t → t < 8 → (∃ v, v < n ∧ ar w (h + 3) t = some (ub h v) ∧ (U v).1 7 = t ∧ ∀ v', (U v').1 7 = t → v' = v) ∨ (ar w (h + 3) t = none ∧ ∀ v', (U v').1 7 ≠ t)
def CUs (w : aw) (h : Nat) (U : Nat → us) (a b : Nat) : Prop := ∀ v, v < 8 → UAt w (ub h v) v (U v) ∧ fd w 396 (ub h v) = .int (nI (if a = v + 1 then b else 0))
def CAt (w : aw) (h : Nat) (H : hs) (s : Nat) : Prop := CSh w h ∧ CNm w h H.1 ∧ fd w 75 h = .int (nI s) ∧ CRw w h H.2.1 ∧ CIf w h (H.1 0) H.2.2 ∧ CUs w h H.2.2 (H.1 6) (H.1 7)
theorem UAt.keep {w w' : aw} {b n : Nat} {u : us} (h : UAt w b n u) (hk : ∀ q, kd w' q = kd w q) (hl : ∀ q, ln w' q = ln w q) (hf : ∀ k g, k < 8 → fd w' g (b + k) = fd w g (b + k)) (ha : ∀ k i, k < 8 → ai w' (b + k) i = ai w (b + k) i) : UAt w' b n u := by
  obtain ⟨h0, h1, h2, h3, h4, h5, h6, s0, s1, s2, s3, s4, s5, s6, s7, s8, s9, m1, m2, m3, f1, f2, f3, p1, p2, p3, li, lo⟩ := h
  have eb : ∀ g, fd w' g b = fd w g b := fun g => hf 0 g (by decide)
  refine ⟨by rw [hk]; exact h0, by rw [eb]; exact h1, by rw [eb]; exact h2, by rw [eb]; exact h3, by rw [eb]; exact h4, by rw [eb]; exact h5, by rw [eb]; exact h6, by rw [eb]; exact s0, by rw [eb]; exact s1, by rw [eb]; exact s2, by rw [eb]; exact s3, by rw [eb]; exact s4, by rw [eb]; exact s5, by rw [eb]; exact s6, by rw [eb]; exact s7, by rw [eb]; exact s8, by rw [eb]; exact s9,
    by rw [hk]; exact m1, by rw [hl]; exact m2, fun i => by rw [ha 1 i (by decide)]; exact m3 i, by rw [hk]; exact f1, by rw [hl]; exact f2, fun i => by rw [ha 2 i (by decide)]; exact f3 i, by rw [hk]; exact p1, by rw [hl]; exact p2, fun i => by rw [ha 3 i (by decide)]; exact p3 i, ?_, ?_⟩
  · exact li.kept hk hl (fun g => hf 4 g (by decide)) (fun i => ha 5 i (by decide))
  · exact lo.kept hk hl (fun g => hf 6 g (by decide)) (fun i => ha 7 i (by decide))
theorem UAt.Fr {w w' : aw} {b n lo hi : Nat} {u : us} (h : UAt w b n u) (hF : Fr w w' lo hi) (h1 : b + 8 ≤ lo ∨ hi ≤ b) : UAt w' b n u :=
  h.keep hF.1 hF.2.1 (fun k g hk => (hF.2.2.2 (b + k) (by omega)).1 g) (fun k i hk => (hF.2.2.2 (b + k) (by omega)).2.1 i)
theorem CAt.U {w w' : aw} {h v s : Nat} {H : hs} {x : us} (hC : CAt w h H s) (hv : v < 8) (hF : FrU w w' (ub h v)) (hx : UAt w' (ub h v) v x) (h7 : x.1 7 = (H.2.2 v).1 7) : CAt w' h (hU H v x) s := by
  obtain ⟨⟨s0, s1, s2, s3, s4, s5, s6, s7, s8, s9, s10⟩, ⟨n0, n1, n2, n3, n4, n5, n6, n8, n9, n10⟩, b, ⟨r1, r2, r3⟩, i, u⟩ := hC
  obtain ⟨⟨hk, hl, hz, ho⟩, ht⟩ := hF
  have o0 := ho h (by unfold ub; omega)
  have o1 := ho (h + 1) (by unfold ub; omega)
  have o2 := ho (h + 2) (by unfold ub; omega)
  have o3 := ho (h + 3) (by unfold ub; omega)
  have e7 : ∀ k, ((hU H v x).2.2 k).1 7 = (H.2.2 k).1 7 := fun k => by
    by_cases c : k = v
    · subst c; rw [hU_at]; exact h7
    · rw [hU_ne c]
  refine ⟨⟨by rw [hk]; exact s0, by rw [o0.1]; exact s1, by rw [o0.1]; exact s2, by rw [o0.1]; exact s3, by rw [hk]; exact s4, by rw [hk]; exact s5, by rw [hk]; exact s6, by rw [hl]; exact s7, by rw [hl]; exact s8, by rw [hl]; exact s9, fun k hk' => by rw [o1.2.2.2]; exact s10 k hk'⟩, ⟨by rw [o0.1]; exact n0, by rw [o0.1]; exact n1, by rw [o0.1]; exact n2, by rw [o0.1]; exact n3, by rw [o0.1]; exact n4, by rw [o0.1]; exact n5, by rw [o0.1]; exact n6, by rw [o0.1]; exact n8, by rw [o0.1]; exact n9, by rw [o0.1]; exact n10⟩, by rw [o0.1]; exact b, ⟨by rw [o0.1]; exact r1, fun k hk' => by rw [o2.2.2.2]; exact r2 k hk', fun k q hq => by rw [hk]; rw [o2.2.2.2] at hq; exact r3 k q hq⟩, fun t t1 t2 => ?_, fun k hk' => ?_⟩
  · rw [o3.2.2.2]
    rcases i t t1 t2 with ⟨a, c1, c2, c3, c4⟩ | ⟨c1, c2⟩
    · exact Or.inl ⟨a, c1, c2, (e7 a).trans c3, fun k hk' => c4 k ((e7 k).symm.trans hk')⟩
    · exact Or.inr ⟨c1, fun k hk' => c2 k ((e7 k).symm.trans hk')⟩
  · by_cases c : k = v
    · subst c
      rw [hU_at]
      exact ⟨hx, ht.trans (u k hk').2⟩
    · rw [hU_ne c]
      exact ⟨(u k hk').1.keep hk hl (fun j g hj => (ho _ (by unfold ub; omega)).1 g) (fun j i hj => (ho _ (by unfold ub; omega)).2.1 i), ((ho _ (by unfold ub; omega)).1 _).trans (u k hk').2⟩
def cF (g : Nat) : Bool := g == 64 || g == 69 || g == 71 || g == 70 || g == 73
theorem CUs.F {w : aw} {h g : Nat} {y : Value} {U : Nat → us} {a b : Nat} (u : CUs w h U a b) : CUs (uF w g h y) h U a b := fun v hv =>
  ⟨(u v hv).1.keep (fun _ => rfl) (fun _ => rfl) (fun k g' hk => by rw [fd_uF, if_neg (by unfold ub; omega)]) (fun _ _ _ => rfl), by rw [fd_uF, if_neg (by unfold ub; omega)]; exact (u v hv).2⟩
theorem CSh.F {w : aw} {h g : Nat} {y : Value} (c : CSh w h) (hg : cF g = false) : CSh (uF w g h y) h := by
  obtain ⟨s0, s1, s2, s3, s4⟩ := c
  refine ⟨s0, ?_, ?_, ?_, s4⟩
  · rw [fd_uF, if_neg (fun q => by rw [← q.1] at hg; exact absurd hg (by decide))]; exact s1
  · rw [fd_uF, if_neg (fun q => by rw [← q.1] at hg; exact absurd hg (by decide))]; exact s2
  · rw [fd_uF, if_neg (fun q => by rw [← q.1] at hg; exact absurd hg (by decide))]; exact s3
theorem CRw.F {w : aw} {h g : Nat} {y : Value} {r : List Nat} (c : CRw w h r) (hg : cF g = false) : CRw (uF w g h y) h r := by
  obtain ⟨s0, s1⟩ := c
  refine ⟨?_, s1⟩
  rw [fd_uF, if_neg (fun q => by rw [← q.1] at hg; exact absurd hg (by decide))]; exact s0
theorem CAt.S4 {w : aw} {h v s : Nat} {H : hs} (hC : CAt w h H s) : CAt (uF w 74 h (.int (nI v))) h (hSet H 4 v) s := by
  obtain ⟨c, ⟨n0, n1, n2, n3, n4, n5, n6, n8, n9, n10⟩, b, r, i, u⟩ := hC
  exact ⟨c.F rfl, ⟨n0, n1, n2, n3, by simp [fd_uF, hSet, va_up], n5, n6, n8, n9, n10⟩, b, r.F rfl, i, u.F⟩
theorem CAt.S5 {w : aw} {h v s : Nat} {H : hs} (hC : CAt w h H s) : CAt (uF w 76 h (.int (nI v))) h (hSet H 5 v) s := by
  obtain ⟨c, ⟨n0, n1, n2, n3, n4, n5, n6, n8, n9, n10⟩, b, r, i, u⟩ := hC
  exact ⟨c.F rfl, ⟨n0, n1, n2, n3, n4, by simp [fd_uF, hSet, va_up], n6, n8, n9, n10⟩, b, r.F rfl, i, u.F⟩
theorem CAt.S8 {w : aw} {h v s : Nat} {H : hs} (hC : CAt w h H s) : CAt (uF w 77 h (.int (nI v))) h (hSet H 8 v) s := by
  obtain ⟨c, ⟨n0, n1, n2, n3, n4, n5, n6, n8, n9, n10⟩, b, r, i, u⟩ := hC
  exact ⟨c.F rfl, ⟨n0, n1, n2, n3, n4, n5, n6, by simp [fd_uF, hSet, va_up], n9, n10⟩, b, r.F rfl, i, u.F⟩
theorem CAt.S9 {w : aw} {h v s : Nat} {H : hs} (hC : CAt w h H s) : CAt (uF w 72 h (.int (nI v))) h (hSet H 9 v) s := by
  obtain ⟨c, ⟨n0, n1, n2, n3, n4, n5, n6, n8, n9, n10⟩, b, r, i, u⟩ := hC
  exact ⟨c.F rfl, ⟨n0, n1, n2, n3, n4, n5, n6, n8, by simp [fd_uF, hSet, va_up], n10⟩, b, r.F rfl, i, u.F⟩
theorem CAt.S10 {w : aw} {h v s : Nat} {H : hs} (hC : CAt w h H s) : CAt (uF w 78 h (.int (nI v))) h (hSet H 10 v) s := by
  obtain ⟨c, ⟨n0, n1, n2, n3, n4, n5, n6, n8, n9, n10⟩, b, r, i, u⟩ := hC
  exact ⟨c.F rfl, ⟨n0, n1, n2, n3, n4, n5, n6, n8, n9, by simp [fd_uF, hSet, va_up]⟩, b, r.F rfl, i, u.F⟩
theorem CAt.B {w : aw} {h v s : Nat} {H : hs} (hC : CAt w h H s) : CAt (uF w 75 h (.int (nI v))) h H v := by
  obtain ⟨c, ⟨n0, n1, n2, n3, n4, n5, n6, n8, n9, n10⟩, b, r, i, u⟩ := hC
  exact ⟨c.F rfl, ⟨n0, n1, n2, n3, n4, n5, n6, n8, n9, n10⟩, by simp [fd_uF], r.F rfl, i, u.F⟩
