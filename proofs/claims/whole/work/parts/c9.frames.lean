theorem RAt.out {w w' : aw} {m lo hi : Nat} {H : hs} (h : RAt w m H) (hF : FrI w w' lo hi) (h1 : hi ≤ m) : RAt w' m H := by
  obtain ⟨sh, q0, q1, q2, q3, q4, q5, q6, q7, q8, q9, q10, qm, qr, qu⟩ := h
  obtain ⟨hk, hl, hz, ho⟩ := hF
  have o := fun j => (ho (m + j) (by omega)).2.1
  have f := (ho m (by omega)).1
  refine ⟨sh.kept hk hl (f _) (f _) (f _) (f _) (f _) (f _) (f _) (f _) (f _) (f _) (f _) (f _) (f _) (f _) (f _) (f _) (f _) (f _) (f _) (f _) (f _) (f _) (f _) (f _), (f _).trans q0, (f _).trans q1, (f _).trans q2, (f _).trans q3, (f _).trans q4, (f _).trans q5, (f _).trans q6, (f _).trans q7, (f _).trans q8, (f _).trans q9, (f _).trans q10, (f _).trans qm, fun i hi => (o 1 i).trans (qr i hi), fun v hv => ?_⟩
  obtain ⟨t0, t1, t2, t3, t4, t5, t6, t7, t8, t9, mm, ff, pp, il, ix, ol, ox⟩ := qu v hv
  exact ⟨(o _ _).trans t0, (o _ _).trans t1, (o _ _).trans t2, (o _ _).trans t3, (o _ _).trans t4, (o _ _).trans t5, (o _ _).trans t6, (o _ _).trans t7, (o _ _).trans t8, (o _ _).trans t9, fun a ha => (o _ _).trans (mm a ha), fun a ha => (o _ _).trans (ff a ha), fun a ha => (o _ _).trans (pp a ha), (o _ _).trans il, fun i hi => (o _ _).trans (ix i hi), (o _ _).trans ol, fun i hi => (o _ _).trans (ox i hi)⟩
theorem RT.out {w w' : aw} {m lo hi : Nat} {t : tp} (h : RT w m t) (hF : FrI w w' lo hi) (h1 : hi ≤ m) : RT w' m t := by
  obtain ⟨b1, b2, b3, b4, b5, b6⟩ := h
  obtain ⟨hk, hl, hz, ho⟩ := hF
  have o := fun j => (ho (m + j) (by omega)).2
  have f := (ho m (by omega)).1
  exact ⟨(f _).trans b1, (f _).trans b2, (f _).trans b3, fun k hk => ((o 19).1 k).trans (b4 k hk), (f _).trans b5, fun k hk => ⟨((o 20).2.1 k).trans (b6 k hk).1, ((o 21).1 k).trans (b6 k hk).2⟩⟩
theorem CT.far {w w' : aw} {x lo hi : Nat} {t : tp} (h : CT w x t) (hF : FrI w w' lo hi) (h1 : x + 80 ≤ lo) : CT w' x t := h.Fr hF (by omega)
theorem CL.out {w w' : aw} {x lo hi : Nat} {H : hs} {t : tp} (h : CL w x H t) (hF : FrI w w' lo hi) (h1 : x + 80 ≤ lo) : CL w' x H t := by
  obtain ⟨hM, hT, hC, hA, hR, hG⟩ := h
  exact ⟨⟨(hF.1 x).trans hM.1, ((hF.2.2.2 x (by omega)).1 _).trans hM.2.1, hM.2.2.out hF (Or.inr (by omega))⟩, hT.Fr hF (by omega), hC.out hF ⟨by omega, Or.inl (by omega)⟩, hA.out hF (Or.inl (by omega)), hR.out hF (Or.inl (by omega)), hG.out hF (Or.inl (by omega))⟩
theorem Od.Bs {w w' : aw} {z : Nat} (o : Od w w' z) (h1 : zs w = z) (h2 : z ≤ zs w') : Bs w w' 0 [] :=
  ⟨by omega, fun q hq => have a := o q (by omega); ⟨a.1, a.2.1, a.2.2.2.1, a.2.2.2.2.1, a.2.2.2.2.2⟩, fun q g hq _ => (o q (by omega)).2.2.1 g⟩
theorem CL.od {w w' : aw} {x : Nat} {t : tp} (h : CL w x h00 t) (hr : ∀ v, ar w (x + 14) v = none) (o : Od w w' (x + 80)) (h1 : zs w = x + 80) (h2 : x + 80 ≤ zs w') : CL w' x h00 t := by
  obtain ⟨⟨m1, m2, ⟨s0, s1, s2, s3, s4, s5, s6, s7, s8, s9, s10⟩, ⟨n0, n1, n2, n3, n4, n5, n6, n8, n9, n10⟩, b, ⟨r1, r2, r3⟩, i, u⟩, ⟨a1, a2, a3, a4, a5, a6, a7⟩, ⟨c1, c2, c3, c4⟩, hA, hR, ⟨t', hB⟩, S, hW, hP⟩ := h
  have k := fun q hq => (o q hq).1
  have l := fun q hq => (o q hq).2.1
  have f := fun q hq => (o q hq).2.2.1
  have e := fun q hq => (o q hq).2.2.2.2.2
  have hx : x < x + 80 := by omega
  have p12 : x + 12 < x + 80 := by omega
  have B := o.Bs h1 h2
  refine ⟨⟨(k _ hx).trans m1, (f _ hx _).trans m2, ⟨(k _ p12).trans s0, (f _ p12 _).trans s1, (f _ p12 _).trans s2, (f _ p12 _).trans s3, (k _ (by omega)).trans s4, (k _ (by omega)).trans s5, (k _ (by omega)).trans s6, (l _ (by omega)).trans s7, (l _ (by omega)).trans s8, (l _ (by omega)).trans s9, fun v hv => (e _ (by omega) v).trans (s10 v hv)⟩, ⟨(f _ p12 _).trans n0, (f _ p12 _).trans n1, (f _ p12 _).trans n2, (f _ p12 _).trans n3, (f _ p12 _).trans n4, (f _ p12 _).trans n5, (f _ p12 _).trans n6, (f _ p12 _).trans n8, (f _ p12 _).trans n9, (f _ p12 _).trans n10⟩, (f _ p12 _).trans b, ⟨(f _ p12 _).trans r1, fun j hj => absurd hj (Nat.not_lt_zero _), fun j q hq => ?_⟩, fun t t1 t2 => ?_, fun v hv => ?_⟩, ⟨(f _ hx _).trans a1, (k _ (by omega)).trans a2, (f _ (by omega) _).trans a3, (k _ (by omega)).trans a4, (l _ (by omega)).trans a5, (f _ (by omega) _).trans a6, fun j hj => ?_⟩, ⟨(f _ hx _).trans c1, (k _ (by omega)).trans c2, (f _ (by omega) _).trans c3, (f _ (by omega) _).trans c4⟩, hA.od o (by omega), ⟨(k _ (by omega)).trans hR.1, (f _ (by omega) _).trans hR.2.1, (f _ (by omega) _).trans hR.2.2⟩, ⟨t', hB.od o (by omega)⟩, S, hW.od o (by omega), hP⟩
  · rw [e (x + 12 + 2) (by omega), hr j] at hq; cases hq
  · rw [e (x + 12 + 3) (by omega)]; exact i t t1 t2
  · have hu : ub (x + 12) v = x + 16 + 8 * v := by unfold ub; omega
    exact ⟨(u v hv).1.Bs B (by omega) (by omega), (f _ (by omega) _).trans (u v hv).2⟩
  · rw [(o (x + 2) (by omega)).2.2.2.1]; exact a7 j hj
