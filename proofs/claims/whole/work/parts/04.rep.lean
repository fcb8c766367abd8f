/-! how a world follows the heap -/
theorem isI_ne {k : Nat} (h : isI k) : k ≠ 22 ∧ k ≠ 24 ∧ k ≠ 0 ∧ 19 < k ∧ k < 30 := by
  rcases h with h | h | h <;> omega
theorem vwCl_lt {ci : Nat} {r : vw_C} (h : vwCl[ci]? = some r) : ci < 10 ∧ r.2.2 < 64 := by
  have hl := (List.getElem?_eq_some_iff.mp h).1
  have h9 : vwCl.length ≤ 10 := by decide
  refine ⟨by omega, ?_⟩
  have hm := List.mem_of_getElem? h
  have hall : ∀ x ∈ vwCl, x.2.2 < 64 := by decide
  exact hall r hm
theorem rO.lt {D : va_G} {w : aw} {H : Heap} (h : rO D w H) {q ci : Nat} {r : vw_C} (hk : kd w q = ci + 1) (hc : vwCl[ci]? = some r) : q < H.size := by
  obtain ⟨cell, h1, -⟩ := h q ci r hk hc
  exact (Array.getElem?_eq_some_iff.mp h1).1
theorem rZ.kept {B : Nat} {w w' : aw} {U : State} {H H1 : Heap} (h : rZ B w U H) (hf : ∀ j : Nat, fd w' (10000 + j) 0 = fd w (10000 + j) 0) (hq : ∀ a : Nat, a < H.size → ¬ B ≤ a → H1[a]? = H[a]?) : rZ B w' U H1 := by
  intro j x hx
  rw [hf]
  exact (h j x hx).kept hq
theorem rZ.moved {B : Nat} {w : aw} {u U : State} {H : Heap} (hvm : u.vm.Alike U.vm) (h : rZ B w u H) : rZ B w U H := fun j x hx => (h j x hx).moved hvm
theorem rFz.moved {B : Nat} {w : aw} {u U : State} {H : Heap} (hvm : u.vm.Alike U.vm) (h : rFz B w u H) : rFz B w U H :=
  ⟨fun q hq => (h.1 q hq).moved hvm, fun q hq => (h.2.1 q hq).moved hvm, fun q hq => by
    obtain ⟨a, e1, e2, e3, e4, e5⟩ := h.2.2 q hq
    exact ⟨a, e1, e2, e3.moved hvm, e4.moved hvm, e5.moved hvm⟩⟩
theorem rFz.kept {B : Nat} {w w' : aw} {U : State} {H H1 : Heap} (h : rFz B w U H) (hf : ∀ q : Nat, 30 ≤ kd w' q ∨ kd w' q = 10 + 1 → kd w' q = kd w q ∧ ln w' q = ln w q ∧ (∀ i, ai w' q i = ai w q i) ∧ ∀ g, fd w' g q = fd w g q) (hq : ∀ a : Nat, a < H.size → ¬ B ≤ a → H1[a]? = H[a]?) : rFz B w' U H1 := by
  refine ⟨fun q hk => ?_, fun q hk => ?_, fun q hk => ?_⟩
  · obtain ⟨e1, e2, e3, -⟩ := hf q (Or.inl (by omega))
    have := (h.1 q (e1.symm.trans hk)).kept hq
    rw [e2, show (fun j => Value.int (ai w' q j)) = (fun j => Value.int (ai w q j)) from funext fun j => by rw [e3]]
    exact this
  · obtain ⟨e1, e2, e3, -⟩ := hf q (Or.inl (by omega))
    have := (h.2.1 q (e1.symm.trans hk)).kept hq
    rw [e2, show (fun j => Value.int (ai w' q j)) = (fun j => Value.int (ai w q j)) from funext fun j => by rw [e3]]
    exact this
  · obtain ⟨e1, -, -, e4⟩ := hf q (Or.inr hk)
    obtain ⟨a, f1, f2, f3, f4, f5⟩ := h.2.2 q (e1.symm.trans hk)
    exact ⟨a, (e4 _).trans f1, (e4 _).trans f2, f3.kept hq, f4.kept hq, f5.kept hq⟩
theorem rp.moved {D : va_G} {tA : Nat → ClassId} {B : Nat} {w : aw} {u U : State} {H : Heap} (hvm : u.vm.Alike U.vm) (h : rp D tA B w u H) : rp D tA B w U H := ⟨h.1, h.2.1, h.2.2.1, h.2.2.2.1, h.2.2.2.2.1.moved hvm, h.2.2.2.2.2.1.moved hvm, h.2.2.2.2.2.2⟩
/-- a field is set -/
theorem rp.setF {D : va_G} {tA : Nat → ClassId} {B : Nat} {w : aw} {U : State} {H H1 : Heap} {a ci k : Nat} {r : vw_C} {v : Value} (h : rp D tA B w U H) (hk : kd w a = ci + 1) (hc : vwCl[ci]? = some r) (hkN : k < r.2.2)
    (hn : t_OB a (D.1 ci) r.2.2 (D.2 ci) H1 (updV (fun j => fd w (64 * ci + j) a) k v)) (oq : ∀ q : Nat, q ≠ a → H1[q]? = H[q]?) (hz : H1.size = H.size) : rp D tA B (uF w (64 * ci + k) a v) U H1 := by
  obtain ⟨⟨h1, h2, h3, h4⟩, h5, h6, h7, h8, h9, h10⟩ := h
  obtain ⟨l1, l2⟩ := vwCl_lt hc
  have hB : B ≤ a := h5 a (by omega) (by omega) (by omega)
  refine ⟨⟨?_, ?_, ?_, ?_⟩, h5, by rw [hz]; exact h6, h7, h8.kept (fun j => ?_) (fun x _ hx => oq x (fun e => hx (by rw [e]; exact hB))), h9.kept (fun q hq => ⟨rfl, rfl, fun _ => rfl, fun g => ?_⟩) (fun x _ hx => oq x (fun e => hx (by rw [e]; exact hB))), fun i hi => ?_⟩
  · intro q ci' r' hq hr
    have hq' : kd w q = ci' + 1 := hq
    obtain ⟨m1, m2⟩ := vwCl_lt hr
    by_cases hqa : q = a
    · subst hqa
      have : ci' = ci := by omega
      subst this
      cases hc.symm.trans hr
      refine hn.to (fun j hj => ?_)
      rw [fd_uF]
      unfold updV
      by_cases hjk : j = k
      · subst hjk; simp
      · rw [if_neg hjk, if_neg (by omega)]
    · refine ((h1 q ci' r' hq' hr).kept (oq q hqa)).to (fun j hj => ?_)
      rw [fd_uF, if_neg (fun e => hqa e.2)]
  · intro q hq
    have hq' : isI (kd w q) := hq
    have := isI_ne hq'
    rw [oq q (fun e => by subst e; omega)]
    exact h2 q hq'
  · intro q hq
    have hq' : kd w q = 22 := hq
    rw [oq q (fun e => by subst e; omega)]
    exact h3 q hq'
  · intro q hq
    have hq' : kd w q = 24 := hq
    rw [oq q (fun e => by subst e; omega)]
    exact h4 q hq'
  · rw [fd_uF, if_neg (by omega)]
  · have hq' : 30 ≤ kd w q ∨ kd w q = 10 + 1 := hq
    rw [fd_uF, if_neg (fun e => by have e2 := e.2; subst e2; omega)]
  · rw [fd_uF, if_neg (by omega)]; exact h10 i hi
/-- a place of a row of ints is set -/
theorem rp.setA {D : va_G} {tA : Nat → ClassId} {B : Nat} {w : aw} {U : State} {H H1 : Heap} {a i : Nat} {x : Int32} (h : rp D tA B w U H) (hk : isI (kd w a)) (h30 : kd w a < 30)
    (hn : H1[a]? = some (arrV (tA (kd w a)) (ln w a) (updV (fun j => .int (ai w a j)) i (.int x)))) (oq : ∀ q : Nat, q ≠ a → H1[q]? = H[q]?) (hz : H1.size = H.size) : rp D tA B (uA w a i x) U H1 := by
  obtain ⟨⟨h1, h2, h3, h4⟩, h5, h6, h7, h8, h9, h10⟩ := h
  have hne := isI_ne hk
  have hB : B ≤ a := h5 a hne.2.2.1 h30 (by omega)
  refine ⟨⟨?_, ?_, ?_, ?_⟩, h5, by rw [hz]; exact h6, h7, h8.kept (fun j => rfl) (fun x _ hx => oq x (fun e => hx (by rw [e]; exact hB))), h9.kept (fun q hq => ⟨rfl, rfl, fun i => ?_, fun _ => rfl⟩) (fun x _ hx => oq x (fun e => hx (by rw [e]; exact hB))), h10⟩
  · intro q ci' r' hq hr
    have hq' : kd w q = ci' + 1 := hq
    have := vwCl_lt hr
    exact (h1 q ci' r' hq' hr).kept (oq q (fun e => by subst e; omega))
  · intro q hq
    have hq' : isI (kd w q) := hq
    by_cases hqa : q = a
    · subst hqa
      rw [hn]
      show some (arrV _ _ _) = some (arrV _ _ _)
      congr 2
      funext j
      rw [ai_uA]
      unfold updV
      by_cases hj : j = i
      · subst hj; simp
      · rw [if_neg hj, if_neg (fun e => hj e.2)]
    · rw [oq q hqa, h2 q hq']
      show some (arrV _ _ _) = some (arrV _ _ _)
      congr 2
      funext j
      rw [ai_uA, if_neg (fun e => hqa e.1)]
  · intro q hq
    have hq' : kd w q = 22 := hq
    rw [oq q (fun e => by subst e; omega)]
    exact h3 q hq'
  · intro q hq
    have hq' : kd w q = 24 := hq
    rw [oq q (fun e => by subst e; omega)]
    exact h4 q hq'
  · have hq' : 30 ≤ kd w q ∨ kd w q = 10 + 1 := hq
    rw [ai_uA, if_neg (fun e => by have e1 := e.1; subst e1; omega)]
/-- a place of a row of longs is set -/
theorem rp.setL {D : va_G} {tA : Nat → ClassId} {B : Nat} {w : aw} {U : State} {H H1 : Heap} {a i : Nat} {x : Int64} (h : rp D tA B w U H) (hk : kd w a = 22)
    (hn : H1[a]? = some (arrV (tA 22) (ln w a) (updV (fun j => .long (al w a j)) i (.long x)))) (oq : ∀ q : Nat, q ≠ a → H1[q]? = H[q]?) (hz : H1.size = H.size) : rp D tA B (uL w a i x) U H1 := by
  obtain ⟨⟨h1, h2, h3, h4⟩, h5, h6, h7, h8, h9, h10⟩ := h
  have hB : B ≤ a := h5 a (by omega) (by omega) (by omega)
  refine ⟨⟨?_, ?_, ?_, ?_⟩, h5, by rw [hz]; exact h6, h7, h8.kept (fun j => rfl) (fun x _ hx => oq x (fun e => hx (by rw [e]; exact hB))), h9.kept (fun q hq => ⟨rfl, rfl, fun i => rfl, fun _ => rfl⟩) (fun x _ hx => oq x (fun e => hx (by rw [e]; exact hB))), h10⟩
  · intro q ci' r' hq hr
    have hq' : kd w q = ci' + 1 := hq
    have := vwCl_lt hr
    exact (h1 q ci' r' hq' hr).kept (oq q (fun e => by subst e; omega))
  · intro q hq
    have hq' : isI (kd w q) := hq
    have := isI_ne hq'
    rw [oq q (fun e => by subst e; omega)]
    exact h2 q hq'
  · intro q hq
    have hq' : kd w q = 22 := hq
    by_cases hqa : q = a
    · subst hqa
      rw [hn]
      show some (arrV _ _ _) = some (arrV _ _ _)
      congr 2
      funext j
      rw [al_uL]
      unfold updV
      by_cases hj : j = i
      · subst hj; simp
      · rw [if_neg hj, if_neg (fun e => hj e.2)]
    · rw [oq q hqa, h3 q hq']
      show some (arrV _ _ _) = some (arrV _ _ _)
      congr 2
      funext j
      rw [al_uL, if_neg (fun e => hqa e.1)]
  · intro q hq
    have hq' : kd w q = 24 := hq
    rw [oq q (fun e => by subst e; omega)]
    exact h4 q hq'
/-- a place of a row of references is set -/
theorem rp.setR {D : va_G} {tA : Nat → ClassId} {B : Nat} {w : aw} {U : State} {H H1 : Heap} {a i : Nat} {x : Option Nat} (h : rp D tA B w U H) (hk : kd w a = 24)
    (hn : H1[a]? = some (arrV (tA 24) (ln w a) (updV (fun j => va_rf (ar w a j)) i (va_rf x)))) (oq : ∀ q : Nat, q ≠ a → H1[q]? = H[q]?) (hz : H1.size = H.size) : rp D tA B (uR w a i x) U H1 := by
  obtain ⟨⟨h1, h2, h3, h4⟩, h5, h6, h7, h8, h9, h10⟩ := h
  have hB : B ≤ a := h5 a (by omega) (by omega) (by omega)
  refine ⟨⟨?_, ?_, ?_, ?_⟩, h5, by rw [hz]; exact h6, h7, h8.kept (fun j => rfl) (fun x _ hx => oq x (fun e => hx (by rw [e]; exact hB))), h9.kept (fun q hq => ⟨rfl, rfl, fun i => rfl, fun _ => rfl⟩) (fun x _ hx => oq x (fun e => hx (by rw [e]; exact hB))), h10⟩
  · intro q ci' r' hq hr
    have hq' : kd w q = ci' + 1 := hq
    have := vwCl_lt hr
    exact (h1 q ci' r' hq' hr).kept (oq q (fun e => by subst e; omega))
  · intro q hq
    have hq' : isI (kd w q) := hq
    have := isI_ne hq'
    rw [oq q (fun e => by subst e; omega)]
    exact h2 q hq'
  · intro q hq
    have hq' : kd w q = 22 := hq
    rw [oq q (fun e => by subst e; omega)]
    exact h3 q hq'
  · intro q hq
    have hq' : kd w q = 24 := hq
    by_cases hqa : q = a
    · subst hqa
      rw [hn]
      show some (arrV _ _ _) = some (arrV _ _ _)
      congr 2
      funext j
      rw [ar_uR]
      unfold updV
      by_cases hj : j = i
      · subst hj; simp
      · rw [if_neg hj, if_neg (fun e => hj e.2)]
    · rw [oq q hqa, h4 q hq']
      show some (arrV _ _ _) = some (arrV _ _ _)
      congr 2
      funext j
      rw [ar_uR, if_neg (fun e => hqa e.1)]
/-- a cell is made -/
theorem rp.born {D : va_G} {tA : Nat → ClassId} {B : Nat} {w : aw} {U : State} {H H1 : Heap} {k n : Nat} (hk : k < 30 ∧ k ≠ 10 + 1) (h : rp D tA B w U H) (hz : H1.size = H.size + 1) (oq : ∀ q : Nat, q < H.size → H1[q]? = H[q]?)
    (c1 : ∀ (ci : Nat) (r : vw_C), k = ci + 1 → vwCl[ci]? = some r → t_OB H.size (D.1 ci) r.2.2 (D.2 ci) H1 (fun j => dfV (64 * ci + j)))
    (c2 : isI k → H1[H.size]? = some (arrV (tA k) n (fun _ => .int 0))) (c3 : k = 22 → H1[H.size]? = some (arrV (tA 22) n (fun _ => .long 0))) (c4 : k = 24 → H1[H.size]? = some (arrV (tA 24) n (fun _ => .null))) : rp D tA B (nw w k n) U H1 := by
  obtain ⟨⟨h1, h2, h3, h4⟩, h5, h6, h7, h8, h9, h10⟩ := h
  refine ⟨⟨?_, ?_, ?_, ?_⟩, ?_, by rw [hz, zs_nw, h6], by rw [zs_nw]; omega, h8.kept (fun j => ?_) (fun x hx _ => oq x hx), h9.kept (fun q hq => ?_) (fun x hx _ => oq x hx), fun i hi => ?_⟩
  · intro q ci r hq hr
    rw [kd_nw] at hq
    have hv := vwCl_lt hr
    by_cases hqz : q = zs w
    · rw [if_pos hqz] at hq
      rw [hqz, ← h6]
      refine (c1 ci r hq hr).to (fun j hj => ?_)
      rw [fd_nw, if_pos ⟨h6, by omega⟩]
    · rw [if_neg hqz] at hq
      have hl : q < H.size := by
        obtain ⟨cell, g1, -⟩ := h1 q ci r hq hr
        exact (Array.getElem?_eq_some_iff.mp g1).1
      refine ((h1 q ci r hq hr).kept (oq q hl)).to (fun j hj => ?_)
      rw [fd_nw, if_neg (fun e => hqz e.1)]
  · intro q hq
    rw [kd_nw] at hq ⊢
    by_cases hqz : q = zs w
    · rw [if_pos hqz] at hq ⊢
      rw [hqz, ← h6, c2 hq, h6, ln_nw, if_pos rfl]
      congr 2
      funext j
      rw [ai_nw, if_pos rfl]
    · rw [if_neg hqz] at hq ⊢
      have hl : q < H.size := (Array.getElem?_eq_some_iff.mp (h2 q hq)).1
      rw [oq q hl, h2 q hq, ln_nw, if_neg hqz]
      congr 2
      funext j
      rw [ai_nw, if_neg hqz]
  · intro q hq
    rw [kd_nw] at hq
    by_cases hqz : q = zs w
    · rw [if_pos hqz] at hq
      rw [hqz, ← h6, c3 hq, h6, ln_nw, if_pos rfl]
      congr 2
      funext j
      rw [al_nw, if_pos rfl]
    · rw [if_neg hqz] at hq
      have hl : q < H.size := (Array.getElem?_eq_some_iff.mp (h3 q hq)).1
      rw [oq q hl, h3 q hq, ln_nw, if_neg hqz]
      congr 2
      funext j
      rw [al_nw, if_neg hqz]
  · intro q hq
    rw [kd_nw] at hq
    by_cases hqz : q = zs w
    · rw [if_pos hqz] at hq
      rw [hqz, ← h6, c4 hq, h6, ln_nw, if_pos rfl]
      congr 2
      funext j
      rw [ar_nw, if_pos rfl]
      rfl
    · rw [if_neg hqz] at hq
      have hl : q < H.size := (Array.getElem?_eq_some_iff.mp (h4 q hq)).1
      rw [oq q hl, h4 q hq, ln_nw, if_neg hqz]
      congr 2
      funext j
      rw [ar_nw, if_neg hqz]
  · intro q hq hq2 hq3
    rw [kd_nw] at hq hq2 hq3
    by_cases hqz : q = zs w
    · rw [hqz]; exact h7
    · rw [if_neg hqz] at hq hq2 hq3
      exact h5 q hq hq2 hq3
  · rw [fd_nw, if_neg (by omega)]
  · have hqz : q ≠ zs w := by
      intro e
      rw [kd_nw, if_pos e] at hq
      omega
    refine ⟨by rw [kd_nw, if_neg hqz], by rw [ln_nw, if_neg hqz], fun i => by rw [ai_nw, if_neg hqz], fun g => by rw [fd_nw, if_neg (fun e => hqz e.1)]⟩
  · rw [fd_nw, if_neg (by omega)]; exact h10 i hi
