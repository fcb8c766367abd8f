/-! the tables speak the truth -/
def wsG : List Cond := lw_tbl.filter goodWord
theorem inG {i : Nat} {w : Cond} (h : lw_tbl[i]? = some w) (hg : goodWord w = true) : w ∈ wsG := List.mem_filter.mpr ⟨List.mem_of_getElem? h, hg⟩
theorem good_wsG : GoodIn wsG wsG := fun w hw => ⟨hw, good_of_word (List.mem_filter.mp hw).2⟩
theorem hts_wsG {args : Array Value} {s : State} (h : ∀ w ∈ lw_tbl, w.before args s = true) : ∀ w ∈ wsG, w.before args s = true := fun w hw => h w (List.mem_filter.mp hw).1
def clD : vw_C := ("", fun _ => ("", "", "", false), 0)
def clA (ci : Nat) : vw_C := (vwCl[ci]?).getD clD
theorem clA_of {ci : Nat} {r : vw_C} (h : vwCl[ci]? = some r) : clA ci = r := by unfold clA; rw [h]; rfl
def sfn (k : Nat) : String × String := if k = 0 then ("value", "[B") else ("coder", "B")
def fLb (x : Nat × Nat × Nat × Nat × Nat) : Bool := (decide (x.2.2.1 = 10) && (decide (x.2.2.2.1 < 2) && decide (lw_tbl[x.2.2.2.2]? = some (Cond.fieldLink (oN x.1) x.2.1 "java/lang/String" (sfn x.2.2.2.1).1 (sfn x.2.2.2.1).2)))) || (decide (x.2.2.1 < vwCl.length) && (decide (x.2.2.2.1 < (clA x.2.2.1).2.2) && decide (lw_tbl[x.2.2.2.2]? = some (Cond.fieldLink (oN x.1) x.2.1 ((clA x.2.2.1).2.1 x.2.2.2.1).1 ((clA x.2.2.1).2.1 x.2.2.2.1).2.1 ((clA x.2.2.1).2.1 x.2.2.2.1).2.2.1))))
set_option maxRecDepth 100000 in
theorem fL_ok : fL.all fLb = true := by decide +kernel
theorem fT_ok {o i ci k : Nat} (h : fT o i = some (ci, k)) : (ci = 10 ∧ k < 2 ∧ Cond.fieldLink (oN o) i "java/lang/String" (sfn k).1 (sfn k).2 ∈ wsG) ∨ ∃ r : vw_C, vwCl[ci]? = some r ∧ k < r.2.2 ∧ Cond.fieldLink (oN o) i (r.2.1 k).1 (r.2.1 k).2.1 (r.2.1 k).2.2.1 ∈ wsG := by
  unfold fT at h
  cases hf : fL.find? (fun x => x.1 == o && x.2.1 == i) with
  | none => rw [hf] at h; cases h
  | some x =>
    rw [hf] at h
    have hp := List.find?_some hf
    have hm := List.mem_of_find?_eq_some hf
    simp only [Bool.and_eq_true, beq_iff_eq] at hp
    obtain ⟨rfl, rfl⟩ := hp
    obtain ⟨a, b, c, d, e⟩ := x
    cases h
    have ok := List.all_eq_true.mp fL_ok _ hm
    unfold fLb at ok
    simp only [Bool.or_eq_true, Bool.and_eq_true, decide_eq_true_eq] at ok
    rcases ok with ⟨o1, o2, o3⟩ | ⟨o1, o2, o3⟩
    · exact Or.inl ⟨o1, o2, inG o3 rfl⟩
    refine Or.inr ⟨clA c, ?_, o2, inG o3 rfl⟩
    rw [List.getElem?_eq_getElem o1]
    unfold clA
    rw [List.getElem?_eq_getElem o1]
    rfl
def lyB (ci k : Nat) : Bool := decide (lw_tbl[(lyP.getD ci []).getD k 0]? = some (u_lay (clA ci).1 (clA ci).2.1 k)) && (goodWord (u_lay (clA ci).1 (clA ci).2.1 k) && decide (parseFieldDescriptor ((clA ci).2.1 k).2.2.1 = some (tyOf ci k)))
set_option maxRecDepth 100000 in
theorem ly_ok0 : (List.range vwCl.length).all (fun ci => (List.range (clA ci).2.2).all (fun k => lyB ci k)) = true := by decide +kernel
theorem lt_of_vw {ci : Nat} {r : vw_C} (h : vwCl[ci]? = some r) : ci < vwCl.length := (List.getElem?_eq_some_iff.mp h).1
theorem ly_ok1 {ci k : Nat} {r : vw_C} (h : vwCl[ci]? = some r) (hk : k < r.2.2) : lyB ci k = true := by
  have h1 := List.all_eq_true.mp ly_ok0 ci (List.mem_range.mpr (lt_of_vw h))
  exact List.all_eq_true.mp h1 k (List.mem_range.mpr (by rw [clA_of h]; exact hk))
theorem ly_in {ci : Nat} {r : vw_C} (h : vwCl[ci]? = some r) : ∀ w ∈ u_ws r.1 r.2.1 r.2.2, w ∈ wsG := by
  intro w hw
  obtain ⟨k, hk, rfl⟩ := List.mem_map.mp hw
  have h1 := ly_ok1 h (List.mem_range.mp hk)
  unfold lyB at h1
  simp only [Bool.and_eq_true, decide_eq_true_eq] at h1
  rw [clA_of h] at h1
  exact inG h1.1 h1.2.1
theorem ly_ty {ci : Nat} {r : vw_C} (h : vwCl[ci]? = some r) : ∀ k, k < r.2.2 → parseFieldDescriptor (r.2.1 k).2.2.1 = some (tyOf ci k) := by
  intro k hk
  have h1 := ly_ok1 h hk
  unfold lyB at h1
  simp only [Bool.and_eq_true, decide_eq_true_eq] at h1
  rw [clA_of h] at h1
  exact h1.2.2
set_option maxRecDepth 100000 in
theorem nm_ok0 : (List.range vwCl.length).all (fun ci => (List.range (clA ci).2.2).all (fun a => (List.range (clA ci).2.2).all (fun b => decide (a = b) || decide (((clA ci).2.1 a).2.1 ≠ ((clA ci).2.1 b).2.1)))) = true := by decide +kernel
theorem nm_ok {ci : Nat} {r : vw_C} (h : vwCl[ci]? = some r) : ∀ a, a < r.2.2 → ∀ b, b < r.2.2 → a ≠ b → (r.2.1 a).2.1 ≠ (r.2.1 b).2.1 := by
  intro a ha b hb hab
  have h1 := List.all_eq_true.mp nm_ok0 ci (List.mem_range.mpr (lt_of_vw h))
  rw [clA_of h] at h1
  have h2 := List.all_eq_true.mp (List.all_eq_true.mp h1 a (List.mem_range.mpr ha)) b (List.mem_range.mpr hb)
  simp only [Bool.or_eq_true, decide_eq_true_eq] at h2
  exact h2.resolve_left hab
def mOb (y : Nat) : Bool := decide (oN (mO y) = (mN y).cls) && (decide ((parseMethodDescriptor (mN y).desc).map (fun d => d.parameters.length) = some (mA y)) && (decide ((mN y).cls ≠ "java/lang/invoke/MethodHandle") && (decide ((mN y).cls ≠ "java/lang/invoke/VarHandle") && (plainName (mN y).cls && decide (mL y ≤ 12)))))
set_option maxRecDepth 100000 in
theorem mO_ok0 : (List.range mMany).all mOb = true := by decide +kernel
theorem mO_ok {y : Nat} (h : y < mMany) : oN (mO y) = (mN y).cls ∧ (parseMethodDescriptor (mN y).desc).map (fun d => d.parameters.length) = some (mA y) ∧ (mN y).cls ≠ "java/lang/invoke/MethodHandle" ∧ (mN y).cls ≠ "java/lang/invoke/VarHandle" ∧ plainName (mN y).cls = true ∧ mL y ≤ 12 := by
  have h1 := List.all_eq_true.mp mO_ok0 y (List.mem_range.mpr h)
  unfold mOb at h1
  simp only [Bool.and_eq_true, decide_eq_true_eq] at h1
  exact h1
def cLb (x : Nat × Nat × Nat × Nat × Nat × Nat × Nat × Nat) : Bool := match x with
  | (o, i, 0, z, a, b, c, d) => decide (0 < z) && (decide (z < mMany) && (decide (lw_tbl[a]? = some (Cond.methodLink (oN o) i (mN z))) && (decide (lw_tbl[b]? = some (Cond.instanceMethod (mN z))) && (decide (lw_tbl[c]? = some (Cond.initialized (mN z).cls)) && decide (lw_tbl[d]? = some (Cond.selects (mN z).cls (mN z) (mN z)))))))
  | (o, i, 1, z, a, b, c, _) => decide (0 < z) && (decide (z < mMany) && (decide (lw_tbl[a]? = some (Cond.methodLink (oN o) i (mN z))) && (decide (lw_tbl[b]? = some (Cond.instanceMethod (mN z))) && (decide (lw_tbl[c]? = some (Cond.initialized (mN z).cls)) && (decide ((mN z).name = "<init>") && decide (mR z = none))))))
  | (o, i, 2, z, a, b, c, _) => decide (0 < z) && (decide (z < mMany) && (decide (lw_tbl[a]? = some (Cond.methodLink (oN o) i (mN z))) && (decide (lw_tbl[b]? = some (Cond.static (mN z))) && decide (lw_tbl[c]? = some (Cond.initialized (mN z).cls)))))
  | (o, i, 3, _, a, _, _, _) => decide (lw_tbl[a]? = some (Cond.methodLink (oN o) i Lib.objectInit))
  | (o, i, 4, z, _, b, c, _) => decide (0 < z) && (decide (z < mMany) && (decide ((o, i, z) ∈ cNest) && (decide (lw_tbl[b]? = some (Cond.instanceMethod (mN z))) && (decide (lw_tbl[c]? = some (Cond.initialized (mN z).cls)) && (decide ((mN z).name = "<init>") && decide (mR z = none))))))
  | (o, i, 5, z, _, b, c, _) => decide (0 < z) && (decide (z < mMany) && (decide ((o, i, z) ∈ cNest) && (decide (lw_tbl[b]? = some (Cond.static (mN z))) && decide (lw_tbl[c]? = some (Cond.initialized (mN z).cls)))))
  | _ => false
set_option maxRecDepth 100000 in
theorem cL_ok : cL.all cLb = true := by decide +kernel
theorem cT_in {o i kn z : Nat} (h : cT o i = some (kn, z)) : ∃ a b c d, cLb (o, i, kn, z, a, b, c, d) = true := by
  unfold cT at h
  cases hf : cL.find? (fun x => x.1 == o && x.2.1 == i) with
  | none => rw [hf] at h; cases h
  | some x =>
    rw [hf] at h
    have hp := List.find?_some hf
    have hm := List.mem_of_find?_eq_some hf
    simp only [Bool.and_eq_true, beq_iff_eq] at hp
    obtain ⟨rfl, rfl⟩ := hp
    obtain ⟨a, b, c, d, e⟩ := x
    cases h
    exact ⟨_, _, _, _, List.all_eq_true.mp cL_ok _ hm⟩
theorem cT_0 {o i z : Nat} (h : cT o i = some (0, z)) : 0 < z ∧ z < mMany ∧ Cond.methodLink (oN o) i (mN z) ∈ wsG ∧ Cond.instanceMethod (mN z) ∈ wsG ∧ Cond.initialized (mN z).cls ∈ wsG ∧ Cond.selects (mN z).cls (mN z) (mN z) ∈ wsG := by
  obtain ⟨a, b, c, d, h⟩ := cT_in h
  simp only [cLb, Bool.and_eq_true, decide_eq_true_eq] at h
  exact ⟨h.1, h.2.1, inG h.2.2.1 rfl, inG h.2.2.2.1 rfl, inG h.2.2.2.2.1 rfl, inG h.2.2.2.2.2 rfl⟩
theorem cT_1 {o i z : Nat} (h : cT o i = some (1, z)) : 0 < z ∧ z < mMany ∧ Cond.methodLink (oN o) i (mN z) ∈ wsG ∧ Cond.instanceMethod (mN z) ∈ wsG ∧ Cond.initialized (mN z).cls ∈ wsG ∧ (mN z).name = "<init>" ∧ mR z = none := by
  obtain ⟨a, b, c, d, h⟩ := cT_in h
  simp only [cLb, Bool.and_eq_true, decide_eq_true_eq] at h
  exact ⟨h.1, h.2.1, inG h.2.2.1 rfl, inG h.2.2.2.1 rfl, inG h.2.2.2.2.1 rfl, h.2.2.2.2.2.1, h.2.2.2.2.2.2⟩
theorem cT_2 {o i z : Nat} (h : cT o i = some (2, z)) : 0 < z ∧ z < mMany ∧ Cond.methodLink (oN o) i (mN z) ∈ wsG ∧ Cond.static (mN z) ∈ wsG ∧ Cond.initialized (mN z).cls ∈ wsG := by
  obtain ⟨a, b, c, d, h⟩ := cT_in h
  simp only [cLb, Bool.and_eq_true, decide_eq_true_eq] at h
  exact ⟨h.1, h.2.1, inG h.2.2.1 rfl, inG h.2.2.2.1 rfl, inG h.2.2.2.2 rfl⟩
theorem cT_3 {o i z : Nat} (h : cT o i = some (3, z)) : Cond.methodLink (oN o) i Lib.objectInit ∈ wsG := by
  obtain ⟨a, b, c, d, h⟩ := cT_in h
  simp only [cLb, decide_eq_true_eq] at h
  exact inG h rfl
theorem cT_4 {o i z : Nat} (h : cT o i = some (4, z)) : 0 < z ∧ z < mMany ∧ (o, i, z) ∈ cNest ∧ Cond.instanceMethod (mN z) ∈ wsG ∧ Cond.initialized (mN z).cls ∈ wsG ∧ (mN z).name = "<init>" ∧ mR z = none := by
  obtain ⟨a, b, c, d, h⟩ := cT_in h
  simp only [cLb, Bool.and_eq_true, decide_eq_true_eq] at h
  exact ⟨h.1, h.2.1, h.2.2.1, inG h.2.2.2.1 rfl, inG h.2.2.2.2.1 rfl, h.2.2.2.2.2.1, h.2.2.2.2.2.2⟩
theorem cT_5 {o i z : Nat} (h : cT o i = some (5, z)) : 0 < z ∧ z < mMany ∧ (o, i, z) ∈ cNest ∧ Cond.static (mN z) ∈ wsG ∧ Cond.initialized (mN z).cls ∈ wsG := by
  obtain ⟨a, b, c, d, h⟩ := cT_in h
  simp only [cLb, Bool.and_eq_true, decide_eq_true_eq] at h
  exact ⟨h.1, h.2.1, h.2.2.1, inG h.2.2.2.1 rfl, inG h.2.2.2.2 rfl⟩
def nLb (x : Nat × Nat × Nat × Nat × Nat × Nat) : Bool := decide (x.2.2.1 < vwCl.length) && (decide (lw_tbl[x.2.2.2.1]? = some (Cond.classLink (oN x.1) x.2.1 (clA x.2.2.1).1)) && (decide (lw_tbl[x.2.2.2.2.1]? = some (Cond.instantiable (clA x.2.2.1).1 (clA x.2.2.1).2.2)) && decide (lw_tbl[x.2.2.2.2.2]? = some (Cond.initialized (clA x.2.2.1).1))))
set_option maxRecDepth 100000 in
theorem nL_ok : nL.all nLb = true := by decide +kernel
theorem nT_ok {o i ci : Nat} (h : nT o i = some ci) : ∃ r : vw_C, vwCl[ci]? = some r ∧ Cond.classLink (oN o) i r.1 ∈ wsG ∧ Cond.instantiable r.1 r.2.2 ∈ wsG ∧ Cond.initialized r.1 ∈ wsG := by
  unfold nT at h
  cases hf : nL.find? (fun x => x.1 == o && x.2.1 == i) with
  | none => rw [hf] at h; cases h
  | some x =>
    rw [hf] at h
    have hp := List.find?_some hf
    have hm := List.mem_of_find?_eq_some hf
    simp only [Bool.and_eq_true, beq_iff_eq] at hp
    obtain ⟨rfl, rfl⟩ := hp
    obtain ⟨a, b, c, d, e⟩ := x
    cases h
    have ok := List.all_eq_true.mp nL_ok _ hm
    unfold nLb at ok
    simp only [Bool.and_eq_true, decide_eq_true_eq] at ok
    obtain ⟨o1, o2, o3, o4⟩ := ok
    refine ⟨clA c, ?_, inG o2 rfl, inG o3 rfl, inG o4 rfl⟩
    rw [List.getElem?_eq_getElem o1]
    unfold clA
    rw [List.getElem?_eq_getElem o1]
    rfl
def sLb (x : Nat × Nat × Nat × Nat) : Bool := decide (x.2.2.1 < stL.length) && decide (lw_tbl[x.2.2.2]? = some (Cond.fieldLink (oN x.1) x.2.1 (stL.getD x.2.2.1 ("", "", "")).1 (stL.getD x.2.2.1 ("", "", "")).2.1 (stL.getD x.2.2.1 ("", "", "")).2.2))
set_option maxRecDepth 100000 in
theorem sL_ok : sL.all sLb = true := by decide +kernel
theorem sT_ok {o i j : Nat} (h : sT o i = some j) : ∃ x, stL[j]? = some x ∧ Cond.fieldLink (oN o) i x.1 x.2.1 x.2.2 ∈ wsG := by
  unfold sT at h
  cases hf : sL.find? (fun x => x.1 == o && x.2.1 == i) with
  | none => rw [hf] at h; cases h
  | some x =>
    rw [hf] at h
    have hp := List.find?_some hf
    have hm := List.mem_of_find?_eq_some hf
    simp only [Bool.and_eq_true, beq_iff_eq] at hp
    obtain ⟨rfl, rfl⟩ := hp
    obtain ⟨a, b, c, d⟩ := x
    cases h
    have ok := List.all_eq_true.mp sL_ok _ hm
    unfold sLb at ok
    simp only [Bool.and_eq_true, decide_eq_true_eq] at ok
    obtain ⟨o1, o2⟩ := ok
    refine ⟨stL.getD c ("", "", ""), ?_, inG o2 rfl⟩
    rw [List.getElem?_eq_getElem o1]
    simp only [List.getD_eq_getElem?_getD, List.getElem?_eq_getElem o1]
    rfl
def kLb (x : Nat × Nat × Value × Nat) : Bool := match x with
  | (o, i, .int v, p) => decide (lw_tbl[p]? = some (Cond.constant (oN o) i v))
  | (o, i, .long v, p) => decide (lw_tbl[p]? = some (Cond.constantLong (oN o) i v))
  | (o, i, .ref j, _) => decide ((gL[j]?).map (fun x => (x.1, x.2.1)) = some (o, i))
  | _ => false
set_option maxRecDepth 100000 in
theorem kL_ok : kL.all kLb = true := by decide +kernel
theorem kT_in {o i : Nat} {v : Value} (h : kT o i = some v) : ∃ p, kLb (o, i, v, p) = true := by
  unfold kT at h
  cases hf : kL.find? (fun x => x.1 == o && x.2.1 == i) with
  | none => rw [hf] at h; cases h
  | some x =>
    rw [hf] at h
    have hp := List.find?_some hf
    have hm := List.mem_of_find?_eq_some hf
    simp only [Bool.and_eq_true, beq_iff_eq] at hp
    obtain ⟨rfl, rfl⟩ := hp
    obtain ⟨a, b, c, d⟩ := x
    cases h
    exact ⟨_, List.all_eq_true.mp kL_ok _ hm⟩
theorem kT_int {o i : Nat} {v : Int32} (h : kT o i = some (.int v)) : Cond.constant (oN o) i v ∈ wsG := by
  obtain ⟨p, h⟩ := kT_in h
  simp only [kLb, decide_eq_true_eq] at h
  exact inG h rfl
theorem kT_str {o i j : Nat} (h : kT o i = some (.ref j)) : ∃ x, gL[j]? = some x ∧ x.1 = o ∧ x.2.1 = i := by
  obtain ⟨p, h⟩ := kT_in h
  simp only [kLb, decide_eq_true_eq] at h
  cases hg : gL[j]? with
  | none => rw [hg] at h; cases h
  | some x => rw [hg] at h; cases h; exact ⟨x, rfl, rfl, rfl⟩
theorem kT_long {o i : Nat} {v : Int64} (h : kT o i = some (.long v)) : Cond.constantLong (oN o) i v ∈ wsG := by
  obtain ⟨p, h⟩ := kT_in h
  simp only [kLb, decide_eq_true_eq] at h
  exact inG h rfl
def acB (x : FieldType × Nat) : Bool := decide (lw_tbl[x.2]? = some (Cond.arrayClass x.1))
set_option maxRecDepth 100000 in
theorem ac_ok : acP.all acB = true := by decide +kernel
theorem ac_in {ty : FieldType} {p : Nat} (h : (ty, p) ∈ acP) : Cond.arrayClass ty ∈ wsG := by
  have h1 := List.all_eq_true.mp ac_ok _ h
  simp only [acB, decide_eq_true_eq] at h1
  exact inG h1 rfl
set_option maxRecDepth 100000 in
theorem oi_in : Cond.instanceMethod Lib.objectInit ∈ wsG := List.mem_filter.mpr ⟨by decide +kernel, rfl⟩
