def Bs (w w' : aw) (b : Nat) (F : List Nat) : Prop := zs w ≤ zs w' ∧ (∀ q, q < zs w → kd w' q = kd w q ∧ ln w' q = ln w q ∧ (∀ i, ai w' q i = ai w q i) ∧ (∀ i, al w' q i = al w q i) ∧ (∀ i, ar w' q i = ar w q i)) ∧ ∀ q g, q < zs w → (q ≠ b ∨ g ∉ F) → fd w' g q = fd w g q
theorem Bs.rf {w : aw} {b : Nat} : Bs w w b [] := ⟨Nat.le_refl _, fun _ _ => ⟨rfl, rfl, fun _ => rfl, fun _ => rfl, fun _ => rfl⟩, fun _ _ _ _ => rfl⟩
theorem Bs.tr {w w1 w2 : aw} {b : Nat} {F G : List Nat} (h : Bs w w1 b F) (g : Bs w1 w2 b G) : Bs w w2 b (F ++ G) := by
  refine ⟨Nat.le_trans h.1 g.1, fun q hq => ?_, fun q k hq hk => ?_⟩
  · have a := h.2.1 q hq
    have c := g.2.1 q (Nat.lt_of_lt_of_le hq h.1)
    exact ⟨c.1.trans a.1, c.2.1.trans a.2.1, fun i => (c.2.2.1 i).trans (a.2.2.1 i), fun i => (c.2.2.2.1 i).trans (a.2.2.2.1 i), fun i => (c.2.2.2.2 i).trans (a.2.2.2.2 i)⟩
  · rw [g.2.2 q k (Nat.lt_of_lt_of_le hq h.1) (hk.imp id (fun z y => z (List.mem_append.mpr (Or.inr y)))), h.2.2 q k hq (hk.imp id (fun z y => z (List.mem_append.mpr (Or.inl y))))]
theorem Bs.F {w w' : aw} {b g : Nat} {F : List Nat} {v : Value} (h : Bs w w' b F) : Bs w (uF w' g b v) b (F ++ [g]) := by
  refine ⟨h.1, h.2.1, fun q k hq hk => ?_⟩
  rw [fd_uF, if_neg ?_]
  · exact h.2.2 q k hq (hk.imp id (fun z y => z (List.mem_append.mpr (Or.inl y))))
  · rintro ⟨rfl, rfl⟩
    rcases hk with z | z
    · exact z rfl
    · exact z (by simp)
theorem Bs.N {w w' : aw} {b k n : Nat} {F : List Nat} (h : Bs w w' b F) : Bs w (nw w' k n) b F := by
  have hz := h.1
  refine ⟨by rw [zs_nw]; omega, fun q hq => ?_, fun q g hq hg => ?_⟩
  · have hne : q ≠ zs w' := by omega
    rw [kd_nw, if_neg hne, ln_nw, if_neg hne]
    refine ⟨(h.2.1 q hq).1, (h.2.1 q hq).2.1, fun i => ?_, fun i => ?_, fun i => ?_⟩
    · rw [ai_nw, if_neg hne]; exact (h.2.1 q hq).2.2.1 i
    · rw [al_nw, if_neg hne]; exact (h.2.1 q hq).2.2.2.1 i
    · rw [ar_nw, if_neg hne]; exact (h.2.1 q hq).2.2.2.2 i
  · rw [fd_nw, if_neg (fun z => by omega)]; exact h.2.2 q g hq hg
theorem Bs.other {w w1 w2 : aw} {b c : Nat} {F G : List Nat} (h : Bs w w1 b F) (g : Bs w1 w2 c G) (hc : zs w ≤ c) : Bs w w2 b F := by
  refine ⟨Nat.le_trans h.1 g.1, fun q hq => ?_, fun q k hq hk => ?_⟩
  · have a := h.2.1 q hq
    have c := g.2.1 q (Nat.lt_of_lt_of_le hq h.1)
    exact ⟨c.1.trans a.1, c.2.1.trans a.2.1, fun i => (c.2.2.1 i).trans (a.2.2.1 i), fun i => (c.2.2.2.1 i).trans (a.2.2.2.1 i), fun i => (c.2.2.2.2 i).trans (a.2.2.2.2 i)⟩
  · rw [g.2.2 q k (Nat.lt_of_lt_of_le hq h.1) (Or.inl (by omega)), h.2.2 q k hq hk]
theorem Bs.wide {w w' : aw} {b : Nat} {F G : List Nat} (h : Bs w w' b F) (hg : ∀ x ∈ F, x ∈ G) : Bs w w' b G := ⟨h.1, h.2.1, fun q g hq hk => h.2.2 q g hq (hk.imp id (fun z y => z (hg g y)))⟩
def Ars (w : aw) (b z0 : Nat) (L : List (Nat × Nat × Nat)) : Prop := zs w = z0 + L.length ∧ b < z0 ∧ ∀ j x, L[j]? = some x → kd w (z0 + j) = x.1 ∧ ln w (z0 + j) = x.2.1 ∧ fd w x.2.2 b = .ref (z0 + j) ∧ (∀ i, ai w (z0 + j) i = 0) ∧ (∀ i, al w (z0 + j) i = 0) ∧ (∀ i, ar w (z0 + j) i = none)
theorem Ars.nil {w : aw} {b z0 : Nat} (h : zs w = z0) (hb : b < z0) : Ars w b z0 [] := ⟨h, hb, fun j x hx => by cases hx⟩
theorem Ars.step {w : aw} {b z0 k n f : Nat} {L : List (Nat × Nat × Nat)} (h : Ars w b z0 L) (hf : ∀ x ∈ L, x.2.2 ≠ f) : Ars (uF (nw w k n) f b (.ref (zs w))) b z0 (L ++ [(k, n, f)]) := by
  obtain ⟨h1, h2, h3⟩ := h
  refine ⟨?_, h2, fun j x hx => ?_⟩
  · rw [zs_uF, zs_nw, h1, List.length_append]; rfl
  · by_cases c : j < L.length
    · rw [List.getElem?_append_left c] at hx
      obtain ⟨a1, a2, a3, a4, a5, a6⟩ := h3 j x hx
      have hne : z0 + j ≠ zs w := by omega
      have hxf := hf x (List.mem_of_getElem? hx)
      rw [kd_uF, kd_nw, if_neg hne, ln_uF, ln_nw, if_neg hne, fd_uF, if_neg (fun z => hxf z.1), fd_nw, if_neg (fun z => by omega)]
      refine ⟨a1, a2, a3, fun i => ?_, fun i => ?_, fun i => ?_⟩
      · rw [ai_uF, ai_nw, if_neg hne]; exact a4 i
      · rw [al_uF, al_nw, if_neg hne]; exact a5 i
      · rw [ar_uF, ar_nw, if_neg hne]; exact a6 i
    · rw [List.getElem?_append_right (by omega)] at hx
      have hj : j = L.length := by
        have := (List.getElem?_eq_some_iff.mp hx).1
        simp at this
        omega
      subst hj
      rw [Nat.sub_self] at hx
      cases hx
      have he : z0 + L.length = zs w := h1.symm
      rw [he, kd_uF, kd_nw, if_pos rfl, ln_uF, ln_nw, if_pos rfl, fd_uF, if_pos ⟨rfl, rfl⟩]
      refine ⟨rfl, rfl, rfl, fun i => ?_, fun i => ?_, fun i => ?_⟩
      · rw [ai_uF, ai_nw, if_pos rfl]
      · rw [al_uF, al_nw, if_pos rfl]
      · rw [ar_uF, ar_nw, if_pos rfl]
theorem Ars.keep {w w' : aw} {b z0 c : Nat} {L : List (Nat × Nat × Nat)} {F : List Nat} (h : Ars w b z0 L) (hB : Bs w w' c F) (hc : c ≠ b ∨ ∀ x ∈ L, x.2.2 ∉ F) : ∀ j x, L[j]? = some x → kd w' (z0 + j) = x.1 ∧ ln w' (z0 + j) = x.2.1 ∧ fd w' x.2.2 b = .ref (z0 + j) ∧ (∀ i, ai w' (z0 + j) i = 0) ∧ (∀ i, al w' (z0 + j) i = 0) ∧ (∀ i, ar w' (z0 + j) i = none) := by
  intro j x hx
  obtain ⟨h1, h2, h3⟩ := h
  have hj := (List.getElem?_eq_some_iff.mp hx).1
  obtain ⟨a1, a2, a3, a4, a5, a6⟩ := h3 j x hx
  have k := hB.2.1 (z0 + j) (by omega)
  exact ⟨k.1.trans a1, k.2.1.trans a2, (hB.2.2 b x.2.2 (by omega) (hc.imp Ne.symm (fun z => z x (List.mem_of_getElem? hx)))).trans a3, fun i => (k.2.2.1 i).trans (a4 i), fun i => (k.2.2.2.1 i).trans (a5 i), fun i => (k.2.2.2.2 i).trans (a6 i)⟩
theorem cl_16 : (16 : Int32).toNatClampNeg = 16 := rfl
theorem cl_8 : (8 : Int32).toNatClampNeg = 8 := rfl
theorem cl_32 : (32 : Int32).toNatClampNeg = 32 := rfl
theorem cl_128 : (128 : Int32).toNatClampNeg = 128 := rfl
theorem cl_235 : (235 : Int32).toNatClampNeg = 235 := rfl
theorem cl_260 : (260 : Int32).toNatClampNeg = 260 := rfl
theorem cl_512 : (512 : Int32).toNatClampNeg = 512 := rfl
theorem cl_4096 : (4096 : Int32).toNatClampNeg = 4096 := rfl
theorem cl_8000 : (8000 : Int32).toNatClampNeg = 8000 := rfl
theorem cl_32768 : (32768 : Int32).toNatClampNeg = 32768 := rfl
theorem sp_L_init {d : Nat} {w : aw} {b : Nat} {Q : wQ} (kb : kd w b = 3) (hz : zs w = b + 1) (f1 : fd w 129 b = .int 0) (f2 : fd w 130 b = .int 0) (h : ∀ w', LAt w' b [] → zs w' = b + 2 → Bs w w' b [128] → Q none w') : wpD (d + 1) 27 [.ref b] w Q := by
  refine ⟨Nat.le_of_ble_eq_true rfl, ?_⟩
  show wp d 27 Q 0 [some (.ref b)] [] w 0 0
  have kn : kd (nw w 20 16) b = 3 := by rw [kd_nw, if_neg (by omega)]; exact kb
  simp only [↓s_27_0, ↓s_27_1, ↓s_27_4, ↓s_27_5, ↓s_27_7, ↓s_27_9, ↓s_27_12, kd_uF, ln_uF, ai_uF, al_uF, ar_uF, zs_uF, fd_uF, kd_uA, ln_uA, fd_uA, al_uA, ar_uA, zs_uA, ai_uA, kd_uL, ln_uL, fd_uL, ai_uL, ar_uL, zs_uL, al_uL, kd_uR, ln_uR, fd_uR, ai_uR, al_uR, zs_uR, ar_uR, true_and, and_true, Option.toList_some, Option.toList_none, List.cons_append, List.nil_append, catS_nil, catS_int, catS_ref, catS_null, catS_long, cat_int, cat_ref, cat_null, Nat.reduceEqDiff, Nat.reduceLeDiff, Nat.reduceAdd, false_and, and_false, if_false, if_true, ite_true, ite_false, true_or, or_true, false_or, or_false, and_self, forall_const, true_implies, reduceCtorEq, clr_int, clr_ref, clr_null, clr_none, clr_long, va_rf_some, va_rf_none, cl_16, kn]
  refine ⟨by decide, by decide, ?_⟩
  have A := (Ars.nil (b := b) hz (by omega)).step (k := 20) (n := 16) (f := 128) (fun x hx => by cases hx)
  have B : Bs w (uF (nw w 20 16) 128 b (.ref (zs w))) b ([] ++ [128]) := Bs.rf.N.F
  obtain ⟨a1, a2, a3, a4, _, _⟩ := A.2.2 0 _ rfl
  exact h _ ⟨(B.2.1 b (by omega)).1.trans kb, a3, a1, a2, 0, by decide, (B.2.2 b _ (by omega) (Or.inr (by decide))).trans f1, (B.2.2 b _ (by omega) (Or.inr (by decide))).trans f2, by decide, fun i hi => absurd hi (Nat.not_lt_zero _)⟩ A.1 B
def u00 : us := ((fun _ => 0), (fun _ => 0), (fun _ => 0), (fun _ => 0), [], [])
theorem nw_new {w : aw} {k g : Nat} (hg : g < 10000) : fd (nw w k 0) g (zs w) = dfV g := by rw [fd_nw, if_pos ⟨rfl, hg⟩]
theorem alc_go {y z cn sn c s : Nat} {K : Nat → Nat → Prop} (h0 : ¬ (mC z = 0 ∧ mS z = 0)) (hc : mC z = c) (hs : mS z = s) (h1 : cn + c ≤ mC y) (h2 : sn + s ≤ mS y) (k : K (cn + c) (sn + s)) : alc y z cn sn K := by
  unfold alc
  rw [if_neg h0, hc, hs]
  exact ⟨h1, h2, k⟩
theorem LAt.loc {w w' : aw} {b : Nat} {xs : List Nat} (h : LAt w b xs) (k0 : kd w' b = kd w b) (k1 : kd w' (b + 1) = kd w (b + 1)) (l1 : ln w' (b + 1) = ln w (b + 1)) (f : ∀ g, fd w' g b = fd w g b) (a : ∀ i, ai w' (b + 1) i = ai w (b + 1) i) : LAt w' b xs := by
  obtain ⟨h0, h1, h2, h3, p, h4, h5, h6, h7, h8⟩ := h
  exact ⟨k0.trans h0, (f _).trans h1, k1.trans h2, l1.trans h3, p, h4, (f _).trans h5, (f _).trans h6, h7, fun i hi => (a _).trans (h8 i hi)⟩
theorem LAt.Bs {w w' : aw} {b c : Nat} {xs F : List Nat} (h : LAt w b xs) (hB : Bs w w' c F) (hz : b + 2 ≤ zs w) (hc : c ≠ b) : LAt w' b xs := by
  have o0 := hB.2.1 b (by omega)
  have o1 := hB.2.1 (b + 1) (by omega)
  exact h.loc o0.1 o1.1 o1.2.1 (fun g => hB.2.2 b g (by omega) (Or.inl (Ne.symm hc))) o1.2.2.1
theorem sp_U_init {d : Nat} {w : aw} {b v : Nat} {Q : wQ} (kb : kd w b = 7) (hz : zs w = b + 1) (hf : ∀ g, g < 10000 → fd w g b = dfV g) (h : ∀ w', UAt w' b v u00 → fd w' 396 b = .int 0 → zs w' = b + 8 → Bs w w' b [385, 386, 387, 388, 389, 384] → Q none w') : wpD (d + 2) 61 [.ref b, .int (nI v)] w Q := by
  refine ⟨Nat.le_of_ble_eq_true rfl, ?_⟩
  show wp (d + 1) 61 Q 0 [some (.ref b), some (.int (nI v))] [] w 0 0
  obtain ⟨w1, hw1⟩ : ∃ w1, w1 = uF (nw w 20 4096) 385 b (.ref (zs w)) := ⟨_, rfl⟩
  obtain ⟨w2, hw2⟩ : ∃ w2, w2 = uF (nw w1 20 4096) 386 b (.ref (zs w1)) := ⟨_, rfl⟩
  obtain ⟨w3, hw3⟩ : ∃ w3, w3 = uF (nw w2 20 512) 387 b (.ref (zs w2)) := ⟨_, rfl⟩
  have A1 : Ars w1 b (b + 1) [(20, 4096, 385)] := by rw [hw1]; exact (Ars.nil hz (by omega)).step (fun x hx => by cases hx)
  have A2 : Ars w2 b (b + 1) [(20, 4096, 385), (20, 4096, 386)] := by rw [hw2]; exact A1.step (by decide)
  have A3 : Ars w3 b (b + 1) [(20, 4096, 385), (20, 4096, 386), (20, 512, 387)] := by rw [hw3]; exact A2.step (by decide)
  have B3 : Bs w w3 b [385, 386, 387] := by rw [hw3, hw2, hw1]; exact Bs.rf.N.F.N.F.N.F
  have k0 : kd (nw w 20 4096) b = 7 := by rw [kd_nw, if_neg (by omega)]; exact kb
  have k1 : kd (nw w1 20 4096) b = 7 := by rw [kd_nw, if_neg (by have := A1.1; simp at this; omega), hw1]; exact k0
  have k2 : kd (nw w2 20 512) b = 7 := by rw [kd_nw, if_neg (by have := A2.1; simp at this; omega), hw2]; exact k1
  simp only [↓s_61_0, ↓s_61_1, ↓s_61_4, ↓s_61_5, ↓s_61_8, ↓s_61_10, ↓s_61_13, ↓s_61_14, ↓s_61_17, ↓s_61_19, ↓s_61_22, ↓s_61_23, ↓s_61_26, ↓s_61_28, ↓s_61_31, ↓s_61_32, ↓s_61_35, ↓s_61_36, kd_uF, ln_uF, ai_uF, al_uF, ar_uF, zs_uF, fd_uF, kd_uA, ln_uA, fd_uA, al_uA, ar_uA, zs_uA, ai_uA, kd_uL, ln_uL, fd_uL, ai_uL, ar_uL, zs_uL, al_uL, kd_uR, ln_uR, fd_uR, ai_uR, al_uR, zs_uR, ar_uR, true_and, and_true, Option.toList_some, Option.toList_none, List.cons_append, List.nil_append, catS_nil, catS_int, catS_ref, catS_null, catS_long, cat_int, cat_ref, cat_null, Nat.reduceEqDiff, Nat.reduceLeDiff, Nat.reduceAdd, false_and, and_false, if_false, if_true, ite_true, ite_false, true_or, or_true, false_or, or_false, and_self, forall_const, true_implies, reduceCtorEq, clr_int, clr_ref, clr_null, clr_none, clr_long, va_rf_some, va_rf_none, cl_4096, cl_512, k0, ← hw1, k1, ← hw2, k2, ← hw3]
  have z3 : zs w3 = b + 4 := A3.1
  clear hw1 hw2 hw3
  refine ⟨by decide, by decide, by decide, by decide, by decide, by decide, alc_go (c := 1) (s := 16) (by decide +kernel) (by decide +kernel) (by decide +kernel) (by decide +kernel) (by decide +kernel) ?_⟩
  obtain ⟨w4, hw4⟩ : ∃ w4, w4 = nw w3 3 0 := ⟨_, rfl⟩
  rw [← hw4, z3]
  have z4 : zs w4 = b + 4 + 1 := by rw [hw4, zs_nw, z3]
  have kl4 : kd w4 (b + 4) = 3 := by rw [hw4, kd_nw, if_pos z3.symm]
  have fl4 : ∀ g, g < 10000 → fd w4 g (b + 4) = dfV g := fun g hg => by rw [hw4, ← z3]; exact nw_new hg
  have B4 : Bs w w4 b [385, 386, 387] := by rw [hw4]; exact B3.N
  have K4 : Bs w3 w4 b [] := by rw [hw4]; exact Bs.rf.N
  clear hw4
  refine sp_L_init kl4 z4 (fl4 _ (by decide)) (fl4 _ (by decide)) (fun w5 l5 z5 K5 => ?_)
  have B5 := B4.other K5 (by omega)
  have k5 : kd w5 b = 7 := (B5.2.1 b (by omega)).1.trans kb
  obtain ⟨w6, hw6⟩ : ∃ w6, w6 = uF w5 388 b (.ref (b + 4)) := ⟨_, rfl⟩
  have K6 : Bs w5 w6 b [388] := by rw [hw6]; exact Bs.rf.F
  have z6 : zs w6 = b + 6 := by rw [hw6, zs_uF, z5]
  have i6 : fd w6 388 b = .ref (b + 4) := by rw [hw6, fd_uF, if_pos ⟨rfl, rfl⟩]
  have B6 := B5.tr K6
  simp only [↓s_61_39, ↓s_61_39n, ↓s_61_42, ↓s_61_43, ↓s_61_46, ↓s_61_47, kd_uF, ln_uF, ai_uF, al_uF, ar_uF, zs_uF, fd_uF, kd_uA, ln_uA, fd_uA, al_uA, ar_uA, zs_uA, ai_uA, kd_uL, ln_uL, fd_uL, ai_uL, ar_uL, zs_uL, al_uL, kd_uR, ln_uR, fd_uR, ai_uR, al_uR, zs_uR, ar_uR, true_and, and_true, Option.toList_some, Option.toList_none, List.cons_append, List.nil_append, catS_nil, catS_int, catS_ref, catS_null, catS_long, cat_int, cat_ref, cat_null, Nat.reduceEqDiff, Nat.reduceLeDiff, Nat.reduceAdd, false_and, and_false, if_false, if_true, ite_true, ite_false, true_or, or_true, false_or, or_false, and_self, forall_const, true_implies, reduceCtorEq, clr_int, clr_ref, clr_null, clr_none, clr_long, va_rf_some, va_rf_none, k5, ← hw6]
  refine alc_go (c := 1) (s := 16) (by decide +kernel) (by decide +kernel) (by decide +kernel) (by decide +kernel) (by decide +kernel) ?_
  clear hw6
  obtain ⟨w7, hw7⟩ : ∃ w7, w7 = nw w6 3 0 := ⟨_, rfl⟩
  rw [← hw7, z6]
  have z7 : zs w7 = b + 6 + 1 := by rw [hw7, zs_nw, z6]
  have kl7 : kd w7 (b + 6) = 3 := by rw [hw7, kd_nw, if_pos z6.symm]
  have fl7 : ∀ g, g < 10000 → fd w7 g (b + 6) = dfV g := fun g hg => by rw [hw7, ← z6]; exact nw_new hg
  have B7 := B6.N (k := 3) (n := 0)
  rw [← hw7] at B7
  have K7 : Bs w6 w7 b [] := by rw [hw7]; exact Bs.rf.N
  clear hw7
  refine sp_L_init kl7 z7 (fl7 _ (by decide)) (fl7 _ (by decide)) (fun w8 l8 z8 K8 => ?_)
  have B8 := B7.other K8 (by omega)
  have k8 : kd w8 b = 7 := (B8.2.1 b (by omega)).1.trans kb
  obtain ⟨w9, hw9⟩ : ∃ w9, w9 = uF (uF w8 389 b (.ref (b + 6))) 384 b (.int (nI v)) := ⟨_, rfl⟩
  simp only [↓s_61_50, ↓s_61_50n, ↓s_61_53, ↓s_61_54, ↓s_61_55, ↓s_61_58, kd_uF, ln_uF, ai_uF, al_uF, ar_uF, zs_uF, fd_uF, kd_uA, ln_uA, fd_uA, al_uA, ar_uA, zs_uA, ai_uA, kd_uL, ln_uL, fd_uL, ai_uL, ar_uL, zs_uL, al_uL, kd_uR, ln_uR, fd_uR, ai_uR, al_uR, zs_uR, ar_uR, true_and, and_true, Option.toList_some, Option.toList_none, List.cons_append, List.nil_append, catS_nil, catS_int, catS_ref, catS_null, catS_long, cat_int, cat_ref, cat_null, Nat.reduceEqDiff, Nat.reduceLeDiff, Nat.reduceAdd, false_and, and_false, if_false, if_true, ite_true, ite_false, true_or, or_true, false_or, or_false, and_self, forall_const, true_implies, reduceCtorEq, clr_int, clr_ref, clr_null, clr_none, clr_long, va_rf_some, va_rf_none, k8, ← hw9]
  have K9 : Bs w8 w9 b [389, 384] := by rw [hw9]; exact Bs.rf.F.F
  have B9 := B8.tr K9
  -- from the rows to the end
  have R : Bs w3 w9 b [388, 389, 384] := ((((K4.other K5 (by omega)).tr K6).tr K7).other K8 (by omega)).tr K9
  have ar := A3.keep R (Or.inr (by decide))
  have o9 : fd w9 389 b = .ref (b + 6) := by rw [hw9, fd_uF, if_neg (fun z => absurd z.1 (by decide)), fd_uF, if_pos ⟨rfl, rfl⟩]
  have n9 : fd w9 384 b = .int (nI v) := by rw [hw9, fd_uF, if_pos ⟨rfl, rfl⟩]
  have i9 : fd w9 388 b = .ref (b + 4) := by
    rw [((K7.other K8 (by omega)).tr K9).2.2 b _ (by omega) (Or.inr (by decide))]; exact i6
  have dd : ∀ g, g < 10000 → g ∉ [385, 386, 387, 388, 389, 384] → fd w9 g b = dfV g := fun g h1 h2 => by
    rw [B9.2.2 b g (by omega) (Or.inr (fun y => h2 (by simpa using y)))]; exact hf g h1
  have L5 : LAt w9 (b + 4) [] := ((l5.Bs K6 (by omega) (by omega)).Bs K7 (by omega) (by omega)).Bs (K8) (by omega) (by omega) |>.Bs K9 (by omega) (by omega)
  have L8 : LAt w9 (b + 6) [] := l8.Bs K9 (by omega) (by omega)
  obtain ⟨p1, p2, p3, p4, _, _⟩ := ar 0 _ rfl
  obtain ⟨q1, q2, q3, q4, _, _⟩ := ar 1 _ rfl
  obtain ⟨r1, r2, r3, r4, _, _⟩ := ar 2 _ rfl
  refine h w9 ⟨(B9.2.1 b (by omega)).1.trans kb, n9, p3, q3, r3, i9, o9, dd _ (by decide) (by decide), dd _ (by decide) (by decide), dd _ (by decide) (by decide), dd _ (by decide) (by decide), dd _ (by decide) (by decide), dd _ (by decide) (by decide), dd _ (by decide) (by decide), dd _ (by decide) (by decide), dd _ (by decide) (by decide), dd _ (by decide) (by decide), p1, p2, fun i => p4 i, q1, q2, fun i => q4 i, r1, r2, fun i => r4 i, L5, L8⟩ (dd _ (by decide) (by decide)) ?_ B9
  rw [hw9, zs_uF, zs_uF, z8]
