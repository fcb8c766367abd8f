def isL (c : Nat) : Bool := decide (65 ≤ c ∧ c ≤ 90)
def isD (c : Nat) : Bool := decide (48 ≤ c ∧ c ≤ 57)
def isW (c : Nat) : Bool := isL c || isD c
def isB (c : Nat) : Bool := c == 32 || c == 9
theorem isL_iff {c : Nat} : isL c = true ↔ 65 ≤ c ∧ c ≤ 90 := by unfold isL; exact decide_eq_true_iff
theorem isD_iff {c : Nat} : isD c = true ↔ 48 ≤ c ∧ c ≤ 57 := by unfold isD; exact decide_eq_true_iff
theorem isW_iff {c : Nat} : isW c = true ↔ (65 ≤ c ∧ c ≤ 90) ∨ (48 ≤ c ∧ c ≤ 57) := by unfold isW; rw [Bool.or_eq_true, isL_iff, isD_iff]
theorem isB_iff {c : Nat} : isB c = true ↔ c = 32 ∨ c = 9 := by unfold isB; rw [Bool.or_eq_true, beq_iff_eq, beq_iff_eq]
def cnt (f : Nat → Bool) (T : Nat → Nat) : Nat → Nat → Nat
  | _, 0 => 0
  | p, k + 1 => if f (T p) = true then cnt f T (p + 1) k + 1 else 0
def wE (T : Nat → Nat) (e p : Nat) : Nat := p + cnt isW T p (e - p)
def bE (T : Nat → Nat) (e p : Nat) : Nat := p + cnt isB T p (e - p)
theorem cnt_le {f : Nat → Bool} {T : Nat → Nat} : ∀ {k p : Nat}, cnt f T p k ≤ k := by
  intro k
  induction k with
  | zero => intro p; exact Nat.le_refl _
  | succ k ih =>
    intro p
    show (if f (T p) = true then cnt f T (p + 1) k + 1 else 0) ≤ k + 1
    split
    · exact Nat.succ_le_succ ih
    · exact Nat.zero_le _
theorem cnt_go {f : Nat → Bool} {T : Nat → Nat} {e p : Nat} (h : p < e) (hf : f (T p) = true) : p + cnt f T p (e - p) = (p + 1) + cnt f T (p + 1) (e - (p + 1)) := by
  obtain ⟨k, hk⟩ : ∃ k, e - p = k + 1 := ⟨e - p - 1, by omega⟩
  rw [hk, show e - (p + 1) = k by omega]
  show p + (if f (T p) = true then cnt f T (p + 1) k + 1 else 0) = _
  rw [if_pos hf]; omega
theorem cnt_no {f : Nat → Bool} {T : Nat → Nat} {e p : Nat} (h : p < e → f (T p) = false) : p + cnt f T p (e - p) = p := by
  by_cases c : p < e
  · obtain ⟨k, hk⟩ : ∃ k, e - p = k + 1 := ⟨e - p - 1, by omega⟩
    rw [hk]
    show p + (if f (T p) = true then cnt f T (p + 1) k + 1 else 0) = p
    rw [if_neg (by rw [h c]; decide)]; rfl
  · rw [show e - p = 0 by omega]; rfl
theorem wE_go {T : Nat → Nat} {e p : Nat} (h : p < e) (hf : isW (T p) = true) : wE T e p = wE T e (p + 1) := cnt_go h hf
theorem wE_no {T : Nat → Nat} {e p : Nat} (h : p < e → isW (T p) = false) : wE T e p = p := cnt_no h
theorem bE_go {T : Nat → Nat} {e p : Nat} (h : p < e) (hf : isB (T p) = true) : bE T e p = bE T e (p + 1) := cnt_go h hf
theorem bE_no {T : Nat → Nat} {e p : Nat} (h : p < e → isB (T p) = false) : bE T e p = p := cnt_no h
theorem wE_ge {T : Nat → Nat} {e p : Nat} : p ≤ wE T e p := Nat.le_add_right _ _
theorem bE_ge {T : Nat → Nat} {e p : Nat} : p ≤ bE T e p := Nat.le_add_right _ _
theorem wE_le {T : Nat → Nat} {e p : Nat} (h : p ≤ e) : wE T e p ≤ e := by unfold wE; have := cnt_le (f := isW) (T := T) (k := e - p) (p := p); omega
theorem bE_le {T : Nat → Nat} {e p : Nat} (h : p ≤ e) : bE T e p ≤ e := by unfold bE; have := cnt_le (f := isB) (T := T) (k := e - p) (p := p); omega
theorem cnt_in {f : Nat → Bool} {T : Nat → Nat} : ∀ {k p i : Nat}, i < cnt f T p k → f (T (p + i)) = true := by
  intro k
  induction k with
  | zero => intro p i h; exact absurd h (Nat.not_lt_zero _)
  | succ k ih =>
    intro p i h
    have h' : i < if f (T p) = true then cnt f T (p + 1) k + 1 else 0 := h
    split at h'
    · rename_i c
      cases i with
      | zero => exact c
      | succ i => have := ih (p := p + 1) (i := i) (by omega); rw [show p + (i + 1) = p + 1 + i by omega]; exact this
    · omega
theorem wE_in {T : Nat → Nat} {e p i : Nat} (h : p + i < wE T e p) : isW (T (p + i)) = true := cnt_in (k := e - p) (by unfold wE at h; omega)
def lk (T : Nat → Nat) (e p : Nat) : Nat := if p < e then T p else 0
theorem lk_in {T : Nat → Nat} {e p : Nat} (h : p < e) : lk T e p = T p := if_pos h
theorem lk_out {T : Nat → Nat} {e p : Nat} (h : e ≤ p) : lk T e p = 0 := if_neg (by omega)
theorem lk_pos {T : Nat → Nat} {e p : Nat} (h : lk T e p ≠ 0) : p < e := by
  by_cases c : p < e
  · exact c
  · exact absurd (lk_out (by omega)) h
theorem lk_lt {T : Nat → Nat} {e p : Nat} (hT : ∀ k, T k < 256) : lk T e p < 256 := by
  unfold lk; split
  · exact hT p
  · decide
def nm (T : Nat → Nat) (p k : Nat) : List Nat := (List.range k).map (fun i => T (p + i))
theorem nm_s {T : Nat → Nat} {p k : Nat} : nm T p (k + 1) = nm T p k ++ [T (p + k)] := by
  unfold nm; rw [List.range_succ, List.map_append]; rfl
theorem nm_len {T : Nat → Nat} {p k : Nat} : (nm T p k).length = k := by unfold nm; simp
def nmE (T : Nat → Nat) (e p : Nat) : List Nat := nm T p (wE T e p - p)
def b256 (l : List Nat) : Nat := l.foldl (fun n c => n * 256 + c) 0
theorem b37_s {l : List Nat} {c : Nat} : b37 (l ++ [c]) = b37 l * 37 + sg c := by unfold b37; rw [List.foldl_append]; rfl
theorem b256_s {l : List Nat} {c : Nat} : b256 (l ++ [c]) = b256 l * 256 + c := by unfold b256; rw [List.foldl_append]; rfl
def okN (l : List Nat) : Prop := ∀ c ∈ l, isW c = true
theorem okN_nm {T : Nat → Nat} {e p k : Nat} (h : p + k ≤ wE T e p) : okN (nm T p k) := by
  intro c hc
  unfold nm at hc
  obtain ⟨i, hi, rfl⟩ := List.mem_map.mp hc
  have := List.mem_range.mp hi
  exact wE_in (e := e) (by omega)
theorem sg_lt {c : Nat} (h : isW c = true) : 1 ≤ sg c ∧ sg c < 37 := by
  rw [isW_iff] at h
  unfold sg
  split <;> omega
theorem sg_inj {a b : Nat} (h : isW a = true) (g : isW b = true) (e : sg a = sg b) : a = b := by
  rw [isW_iff] at h g
  unfold sg at e
  split at e <;> split at e <;> omega
theorem nil_or_app (l : List Nat) : l = [] ∨ ∃ l' c, l = l' ++ [c] := by
  rcases List.eq_nil_or_concat l with q | ⟨l', c, q⟩
  · exact Or.inl q
  · exact Or.inr ⟨l', c, by rw [q, List.concat_eq_append]⟩
theorem b37_inj : ∀ (n : Nat) (l k : List Nat), l.length ≤ n → okN l → okN k → b37 l = b37 k → l = k := by
  intro n
  induction n with
  | zero =>
    intro l k hl h g e
    have : l = [] := List.eq_nil_of_length_eq_zero (by omega)
    subst this
    rcases nil_or_app k with q | ⟨k', c, q⟩
    · exact q.symm
    · subst q
      rw [b37_s] at e
      have := sg_lt (g c (by simp))
      have e0 : b37 [] = 0 := rfl
      omega
  | succ n ih =>
    intro l k hl h g e
    rcases nil_or_app l with q | ⟨l', a, q⟩
    · subst q
      rcases nil_or_app k with q | ⟨k', c, q⟩
      · exact q.symm
      · subst q
        rw [b37_s] at e
        have := sg_lt (g c (by simp))
        have e0 : b37 [] = 0 := rfl
        omega
    · subst q
      have ha := sg_lt (h a (by simp))
      rw [b37_s] at e
      rcases nil_or_app k with q | ⟨k', c, q⟩
      · subst q
        have e0 : b37 [] = 0 := rfl
        omega
      · subst q
        rw [b37_s] at e
        have hc := sg_lt (g c (by simp))
        have e1 : sg a = sg c := by omega
        have e2 : b37 l' = b37 k' := by omega
        rw [ih l' k' (by simp at hl; omega) (fun x hx => h x (by simp [hx])) (fun x hx => g x (by simp [hx])) e2, sg_inj (h a (by simp)) (g c (by simp)) e1]
theorem b256_inj : ∀ (n : Nat) (l k : List Nat), l.length ≤ n → okN l → okN k → b256 l = b256 k → l = k := by
  have w : ∀ c, isW c = true → 1 ≤ c ∧ c < 256 := fun c h => by rw [isW_iff] at h; omega
  intro n
  induction n with
  | zero =>
    intro l k hl h g e
    have : l = [] := List.eq_nil_of_length_eq_zero (by omega)
    subst this
    rcases nil_or_app k with q | ⟨k', c, q⟩
    · exact q.symm
    · subst q
      rw [b256_s] at e
      have := w c (g c (by simp))
      have e0 : b256 [] = 0 := rfl
      omega
  | succ n ih =>
    intro l k hl h g e
    rcases nil_or_app l with q | ⟨l', a, q⟩
    · subst q
      rcases nil_or_app k with q | ⟨k', c, q⟩
      · exact q.symm
      · subst q
        rw [b256_s] at e
        have := w c (g c (by simp))
        have e0 : b256 [] = 0 := rfl
        omega
    · subst q
      have ha := w a (h a (by simp))
      rw [b256_s] at e
      rcases nil_or_app k with q | ⟨k', c, q⟩
      · subst q
        have e0 : b256 [] = 0 := rfl
        omega
      · subst q
        rw [b256_s] at e
        have hc := w c (g c (by simp))
        have e1 : a = c := by omega
        have e2 : b256 l' = b256 k' := by omega
        rw [ih l' k' (by simp at hl; omega) (fun x hx => h x (by simp [hx])) (fun x hx => g x (by simp [hx])) e2, e1]
theorem b37_lt : ∀ (n : Nat) (l : List Nat), l.length ≤ n → okN l → b37 l < 37 ^ n := by
  intro n
  induction n with
  | zero =>
    intro l hl h
    have : l = [] := List.eq_nil_of_length_eq_zero (by omega)
    subst this
    decide
  | succ n ih =>
    intro l hl h
    rcases nil_or_app l with q | ⟨l', a, q⟩
    · subst q
      exact Nat.pow_pos (by decide)
    · subst q
      have ha := sg_lt (h a (by simp))
      have := ih l' (by simp at hl; omega) (fun x hx => h x (by simp [hx]))
      rw [b37_s, Nat.pow_succ]
      omega
theorem b256_lt : ∀ (n : Nat) (l : List Nat), l.length ≤ n → okN l → b256 l < 256 ^ n := by
  intro n
  induction n with
  | zero =>
    intro l hl h
    have : l = [] := List.eq_nil_of_length_eq_zero (by omega)
    subst this
    decide
  | succ n ih =>
    intro l hl h
    rcases nil_or_app l with q | ⟨l', a, q⟩
    · subst q
      exact Nat.pow_pos (by decide)
    · subst q
      have ha : a < 256 := by have := h a (by simp); rw [isW_iff] at this; omega
      have := ih l' (by simp at hl; omega) (fun x hx => h x (by simp [hx]))
      rw [b256_s, Nat.pow_succ]
      omega
abbrev nt : Type := List (List Nat × Nat)
def lu (t : nt) (l : List Nat) : Option Nat := ((R35 ++ t).find? (fun x => x.1 == l)).map (fun x => x.2)
def TN (t : nt) : Prop := ((R35 ++ t).map (fun x => x.1)).Nodup ∧ (∀ x ∈ R35 ++ t, okN x.1 ∧ x.1.length ≤ 6 ∧ x.2 ≤ 4096) ∧ t.length ≤ 200
theorem find_mem : ∀ (tb : nt) (x : List Nat × Nat), (tb.map (fun x => x.1)).Nodup → x ∈ tb → tb.find? (fun y => y.1 == x.1) = some x := by
  intro tb
  induction tb with
  | nil => intro x _ h; exact absurd h (by simp)
  | cons a r ih =>
    intro x hn hx
    rw [List.map_cons, List.nodup_cons] at hn
    rw [List.find?_cons]
    rcases List.mem_cons.mp hx with q | q
    · subst q; simp
    · have hne : a.1 ≠ x.1 := fun e => hn.1 (by rw [e]; exact List.mem_map.mpr ⟨x, q, rfl⟩)
      rw [show (a.1 == x.1) = false from by simp [hne]]
      exact ih x hn.2 q
theorem lu_mem {t : nt} {x : List Nat × Nat} (h : TN t) (hx : x ∈ R35 ++ t) : lu t x.1 = some x.2 := by
  unfold lu
  rw [find_mem _ _ h.1 hx]; rfl
theorem lu_none {t : nt} {l : List Nat} (h : ∀ x ∈ R35 ++ t, x.1 ≠ l) : lu t l = none := by
  unfold lu
  rw [List.find?_eq_none.mpr (fun x hx => by simp [h x hx])]; rfl
def tl1 (t : nt) (l : List Nat) (v : Nat) : Nat × nt := if (lu t l).isSome = true then (3, t) else if t.length = 200 then (6, t) else (0, t ++ [(l, v + 1)])
def tls (dot : Nat) : nt → List (List Nat) → Nat × nt
  | t, [] => (0, t)
  | t, l :: r => if (tl1 t l dot).1 = 0 then tls dot (tl1 t l dot).2 r else ((tl1 t l dot).1, t)
theorem TN.tell {t : nt} {l : List Nat} {v : Nat} (h : TN t) (hl : okN l) (h6 : l.length ≤ 6) (hv : v < 4096) : TN (tl1 t l v).2 := by
  unfold tl1
  split
  · exact h
  · rename_i c1
    split
    · exact h
    · rename_i c2
      obtain ⟨a, b, c⟩ := h
      refine ⟨?_, fun x hx => ?_, ?_⟩
      · show ((R35 ++ (t ++ [(l, v + 1)])).map (fun x => x.1)).Nodup
        rw [← List.append_assoc, List.map_append, List.nodup_append]
        refine ⟨a, by simp, fun x hx y hy e => ?_⟩
        simp at hy
        subst hy
        subst e
        obtain ⟨z, hz, ez⟩ := List.mem_map.mp hx
        have := lu_mem ⟨a, b, c⟩ hz
        rw [ez] at this
        rw [this] at c1
        exact c1 rfl
      · have hx' : x ∈ R35 ++ (t ++ [(l, v + 1)]) := hx
        rw [← List.append_assoc] at hx'
        rcases List.mem_append.mp hx' with q | q
        · exact b x q
        · rw [List.mem_singleton.mp q]; exact ⟨hl, h6, by show v + 1 ≤ 4096; omega⟩
      · show (t ++ [(l, v + 1)]).length ≤ 200
        rw [List.length_append]; simp; omega
theorem TN.nil : TN [] := by
  refine ⟨by decide, fun x hx => ?_, by decide⟩
  have : ∀ x ∈ R35 ++ [], (∀ c ∈ x.1, isW c = true) ∧ x.1.length ≤ 6 ∧ x.2 ≤ 4096 := by decide
  exact this x hx
def mw (l : List Nat) : Option Nat := if l = [65, 78, 68] then some 0 else if l = [84, 65, 68] then some 1 else if l = [73, 83, 90] then some 2 else if l = [68, 67, 65] then some 3 else if l = [74, 77, 83] then some 4 else if l = [74, 77, 80] then some 5 else none
