def isN (T : Nat → Nat) (e p : Nat) : Bool := isL (lk T e p) && decide (wE T e p ≤ p + 6)
def isLb (T : Nat → Nat) (e p : Nat) : Bool := isN T e p && lk T e (wE T e p) == 44
def isTe (T : Nat → Nat) (e p : Nat) : Bool := isN T e p && lk T e (wE T e p) == 61
def mwA (T : Nat → Nat) (e p : Nat) : Option Nat := if isN T e p = true then mw (nmE T e p) else none
def lbs (T : Nat → Nat) (e : Nat) : Nat → Nat → List (List Nat)
  | 0, _ => []
  | k + 1, p => if isLb T e p = true then nmE T e p :: lbs T e k (bE T e (wE T e p + 1)) else []
def lbE (T : Nat → Nat) (e : Nat) : Nat → Nat → Nat
  | 0, p => p
  | k + 1, p => if isLb T e p = true then lbE T e k (bE T e (wE T e p + 1)) else p
theorem isN_iff {T : Nat → Nat} {e p : Nat} : isN T e p = true ↔ isL (lk T e p) = true ∧ wE T e p ≤ p + 6 := by unfold isN; rw [Bool.and_eq_true, decide_eq_true_iff]
theorem isLb_iff {T : Nat → Nat} {e p : Nat} : isLb T e p = true ↔ isN T e p = true ∧ lk T e (wE T e p) = 44 := by unfold isLb; rw [Bool.and_eq_true, beq_iff_eq]
theorem isTe_iff {T : Nat → Nat} {e p : Nat} : isTe T e p = true ↔ isN T e p = true ∧ lk T e (wE T e p) = 61 := by unfold isTe; rw [Bool.and_eq_true, beq_iff_eq]
theorem isL_pos {T : Nat → Nat} {e p : Nat} (h : isL (lk T e p) = true) : p < e := lk_pos (T := T) (by rw [isL_iff] at h; omega)
theorem isN_pos {T : Nat → Nat} {e p : Nat} (h : isN T e p = true) : p < e ∧ p < wE T e p := by
  have hl := (isN_iff.mp h).1
  have hp := isL_pos hl
  refine ⟨hp, ?_⟩
  rw [lk_in hp] at hl
  rw [wE_go hp (by unfold isW; rw [hl]; rfl)]
  exact wE_ge
theorem isLb_pos {T : Nat → Nat} {e p : Nat} (h : isLb T e p = true) : p < wE T e p ∧ wE T e p < e := ⟨(isN_pos (isLb_iff.mp h).1).2, lk_pos (T := T) (by rw [(isLb_iff.mp h).2]; decide)⟩
theorem isTe_pos {T : Nat → Nat} {e p : Nat} (h : isTe T e p = true) : p < wE T e p ∧ wE T e p < e := ⟨(isN_pos (isTe_iff.mp h).1).2, lk_pos (T := T) (by rw [(isTe_iff.mp h).2]; decide)⟩
theorem lbE_b {T : Nat → Nat} {e : Nat} : ∀ {k p : Nat}, p ≤ e → p ≤ lbE T e k p ∧ lbE T e k p ≤ e := by
  intro k
  induction k with
  | zero => intro p h; exact ⟨Nat.le_refl _, h⟩
  | succ k ih =>
    intro p h
    show p ≤ (if isLb T e p = true then lbE T e k (bE T e (wE T e p + 1)) else p) ∧ (if isLb T e p = true then lbE T e k (bE T e (wE T e p + 1)) else p) ≤ e
    split
    · rename_i c
      have h1 := isLb_pos c
      have h2 := bE_le (T := T) (e := e) (p := wE T e p + 1) (by omega)
      have h3 := bE_ge (T := T) (e := e) (p := wE T e p + 1)
      have := ih h2
      omega
    · exact ⟨Nat.le_refl _, h⟩
theorem lbE_no {T : Nat → Nat} {e : Nat} : ∀ {k p : Nat}, e ≤ p + k → isLb T e (lbE T e k p) = false := by
  intro k
  induction k with
  | zero =>
    intro p h
    cases c : isLb T e p with
    | false => exact c
    | true => have := isLb_pos c; omega
  | succ k ih =>
    intro p h
    show isLb T e (if isLb T e p = true then lbE T e k (bE T e (wE T e p + 1)) else p) = false
    split
    · rename_i c
      have h1 := isLb_pos c
      have h3 := bE_ge (T := T) (e := e) (p := wE T e p + 1)
      exact ih (by omega)
    · rename_i c; simpa using c
def oct (T : Nat → Nat) (p : Nat) : Nat → Nat
  | 0 => 0
  | k + 1 => oct T p k * 8 + (T (p + k) - 48)
def isO (T : Nat → Nat) (p : Nat) : Nat → Bool
  | 0 => true
  | k + 1 => isO T p k && decide (48 ≤ T (p + k) ∧ T (p + k) ≤ 55)
def tS (T : Nat → Nat) (e p : Nat) : Option Nat :=
  if lk T e p = 46 then some (p + 1) else if isL (lk T e p) = true then (if wE T e p ≤ p + 6 then some (wE T e p) else none)
  else if wE T e p = p ∨ p + 4 < wE T e p then none else if isO T p (wE T e p - p) = true then some (wE T e p) else none
def vN : Option Nat → Option Nat
  | some (v + 1) => some v
  | _ => none
def tV (T : Nat → Nat) (e : Nat) (t : nt) (dot p : Nat) : Option Nat :=
  if lk T e p = 46 then some dot else if isL (lk T e p) = true then vN (lu t (nmE T e p)) else some (oct T p (wE T e p - p))
def comb (neg : Bool) : Option Nat → Option Nat → Option Nat
  | some a, some v => some (if neg = true then (a + (4096 - v)) % 4096 else (a + v) % 4096)
  | _, _ => none
def isPM (c : Nat) : Bool := c == 43 || c == 45
theorem isPM_iff {c : Nat} : isPM c = true ↔ c = 43 ∨ c = 45 := by unfold isPM; rw [Bool.or_eq_true, beq_iff_eq, beq_iff_eq]
def xS (T : Nat → Nat) (e : Nat) : Nat → Nat → Option Nat
  | 0, _ => none
  | k + 1, p => match tS T e p with
    | none => none
    | some q => if isPM (lk T e q) = true then xS T e k (q + 1) else some q
def xV (T : Nat → Nat) (e : Nat) (t : nt) (dot : Nat) : Nat → Nat → Bool → Option Nat → Option Nat
  | 0, _, _, a => a
  | k + 1, p, neg, a => match tS T e p with
    | none => none
    | some q => if isPM (lk T e q) = true then xV T e t dot k (q + 1) (lk T e q == 45) (comb neg a (tV T e t dot p)) else comb neg a (tV T e t dot p)
def mP (T : Nat → Nat) (e p : Nat) : Nat := if lk T e p = 45 then p + 1 else p
def eS (T : Nat → Nat) (e p : Nat) : Option Nat := xS T e (e + 1 - mP T e p) (mP T e p)
def eV (T : Nat → Nat) (e : Nat) (t : nt) (dot p : Nat) : Option Nat := xV T e t dot (e + 1 - mP T e p) (mP T e p) (lk T e p == 45) (some 0)
theorem isL_46 : isL 46 = false := rfl
theorem tS_b {T : Nat → Nat} {e p q : Nat} (h : tS T e p = some q) : p < q ∧ q ≤ e := by
  unfold tS at h
  split at h
  · rename_i c
    have := lk_pos (T := T) (e := e) (p := p) (by omega)
    cases h; omega
  · split at h
    · rename_i c
      have hp := isL_pos c
      split at h
      · cases h
        rw [lk_in hp] at c
        have h1 : wE T e p = wE T e (p + 1) := wE_go hp (by unfold isW; rw [c]; rfl)
        have h2 := wE_ge (T := T) (e := e) (p := p + 1)
        have h3 := wE_le (T := T) (e := e) (p := p) (by omega)
        omega
      · cases h
    · split at h
      · cases h
      · rename_i c
        split at h
        · cases h
          have h2 := wE_ge (T := T) (e := e) (p := p)
          have h4 : p < e := by
            by_cases q : p < e
            · exact q
            · have := wE_no (T := T) (e := e) (p := p) (fun q2 => absurd q2 q)
              omega
          have h3 := wE_le (T := T) (e := e) (p := p) (by omega)
          omega
        · cases h
theorem mP_b {T : Nat → Nat} {e p : Nat} (h : p ≤ e) : p ≤ mP T e p ∧ mP T e p ≤ e := by
  unfold mP
  split
  · rename_i c
    have := lk_pos (T := T) (e := e) (p := p) (by omega)
    omega
  · exact ⟨Nat.le_refl _, h⟩
theorem xS_b {T : Nat → Nat} {e : Nat} : ∀ {k p q : Nat}, xS T e k p = some q → p < q ∧ q ≤ e := by
  intro k
  induction k with
  | zero => intro p q h; cases h
  | succ k ih =>
    intro p q h
    unfold xS at h
    cases c : tS T e p with
    | none => rw [c] at h; cases h
    | some r =>
      rw [c] at h
      have hb := tS_b c
      dsimp only at h
      split at h
      · have := ih h; omega
      · cases h; exact hb
theorem eS_b {T : Nat → Nat} {e p q : Nat} (h : eS T e p = some q) : p < q ∧ q ≤ e := by
  have := xS_b h
  have h2 : p ≤ mP T e p := by unfold mP; split <;> omega
  omega
def orO : Option Nat → Option Nat → Option Nat
  | some a, some b => some (a ||| b)
  | _, _ => none
def rS (T : Nat → Nat) (e : Nat) : Nat → Nat → Bool
  | 0, _ => true
  | k + 1, p => if e ≤ p then true else match eS T e p with
    | none => false
    | some q => if q < bE T e q ∨ e ≤ bE T e q then rS T e k (bE T e q) else false
def rV (T : Nat → Nat) (e : Nat) (t : nt) (dot : Nat) : Nat → Nat → Option Nat → Option Nat
  | 0, _, a => a
  | k + 1, p, a => if e ≤ p then a else match eS T e p with
    | none => none
    | some q => rV T e t dot k (bE T e q) (orO a (eV T e t dot p))
def opn (c : Nat) : Bool := isL c || isD c || c == 46 || c == 45 || c == 40
def isBy (T : Nat → Nat) (e p : Nat) : Bool := lk T e p == 73 && wE T e p == p + 1 && opn (lk T e (bE T e (p + 1)))
theorem isBy_iff {T : Nat → Nat} {e p : Nat} : isBy T e p = true ↔ lk T e p = 73 ∧ wE T e p = p + 1 ∧ opn (lk T e (bE T e (p + 1))) = true := by unfold isBy; rw [Bool.and_eq_true, Bool.and_eq_true, beq_iff_eq, beq_iff_eq, and_assoc]
def m1 (T : Nat → Nat) (e p : Nat) : Nat := bE T e (wE T e p)
def m2 (T : Nat → Nat) (e p : Nat) : Nat := if isBy T e (m1 T e p) = true then bE T e (m1 T e p + 1) else m1 T e p
def isLi (T : Nat → Nat) (e p : Nat) : Bool := lk T e (m2 T e p) == 40
def m3 (T : Nat → Nat) (e p : Nat) : Nat := if isLi T e p = true then bE T e (m2 T e p + 1) else m2 T e p
def knd (T : Nat → Nat) (e p : Nat) : Nat := if e ≤ p then 0 else if lk T e p = 42 then 1 else if isTe T e p = true then 2 else if (mwA T e p).isSome = true then 3 else 4
def xAt (T : Nat → Nat) (e p : Nat) : Nat := match knd T e p with
  | 1 => bE T e (p + 1)
  | 2 => bE T e (wE T e p + 1)
  | 3 => m3 T e p
  | _ => p
def eOK (T : Nat → Nat) (e : Nat) : Option Nat → Bool
  | none => false
  | some q => decide (e ≤ bE T e q)
def cPar (T : Nat → Nat) (e q : Nat) : Nat := if lk T e (bE T e q) = 41 then bE T e q + 1 else bE T e q
def lOK (T : Nat → Nat) (e : Nat) : Option Nat → Bool
  | none => false
  | some q => decide (e ≤ bE T e (cPar T e q))
def right (T : Nat → Nat) (e p : Nat) : Bool := match knd T e p with
  | 0 => true
  | 1 => eOK T e (eS T e (bE T e (p + 1)))
  | 2 => eOK T e (eS T e (bE T e (wE T e p + 1)))
  | 3 => if isLi T e p = true then lOK T e (eS T e (m3 T e p)) else eOK T e (eS T e (m3 T e p))
  | _ => rS T e (e - p) p
def vAt (T : Nat → Nat) (e : Nat) (t : nt) (dot p : Nat) : Option Nat := match knd T e p with
  | 1 => eV T e t dot (bE T e (p + 1))
  | 2 => eV T e t dot (bE T e (wE T e p + 1))
  | 3 => eV T e t dot (m3 T e p)
  | _ => rV T e t dot (e - p) p (some 0)
theorem knd_lt {T : Nat → Nat} {e p : Nat} : knd T e p < 5 := by unfold knd; split; decide; split; decide; split; decide; split <;> decide
def p0 (T : Nat → Nat) (from_ e : Nat) : Nat := lbE T e (e - bE T e from_) (bE T e from_)
def ls0 (T : Nat → Nat) (from_ e : Nat) : List (List Nat) := lbs T e (e - bE T e from_) (bE T e from_)
def s1 (T : Nat → Nat) (from_ e : Nat) (t : nt) (dot : Nat) : Nat × nt × Nat :=
  if right T e (p0 T from_ e) = false then (1, t, dot)
  else if (tls dot t (ls0 T from_ e)).1 ≠ 0 then ((tls dot t (ls0 T from_ e)).1, t, dot)
  else match knd T e (p0 T from_ e) with
    | 0 => (0, (tls dot t (ls0 T from_ e)).2, dot)
    | 1 => (match vAt T e (tls dot t (ls0 T from_ e)).2 dot (p0 T from_ e) with | none => (2, t, dot) | some v => (0, (tls dot t (ls0 T from_ e)).2, v))
    | 2 => (match vAt T e (tls dot t (ls0 T from_ e)).2 dot (p0 T from_ e) with | none => (2, t, dot) | some v => ((tl1 (tls dot t (ls0 T from_ e)).2 (nmE T e (p0 T from_ e)) v).1, (tl1 (tls dot t (ls0 T from_ e)).2 (nmE T e (p0 T from_ e)) v).2, dot))
    | _ => (0, (tls dot t (ls0 T from_ e)).2, (dot + 1) % 4096)
abbrev ps : Type := Nat × (Nat → Option Nat) × List Nat × (Nat → List Nat)
def put1 (S : ps) (a x : Nat) : Option ps := match S.2.1 a with
  | some _ => none
  | none => some (S.1, va_up S.2.1 a (some x), S.2.2.1 ++ [a], S.2.2.2)
def litP (S : ps) (v : Nat) : Option (Nat × ps) := match (S.2.2.2 (S.1 / 128)).findIdx? (fun y => y == v) with
  | some i => some (S.1 / 128 * 128 + 127 - i, S)
  | none => if (S.2.2.2 (S.1 / 128)).length = 128 then none else match put1 S (S.1 / 128 * 128 + 127 - (S.2.2.2 (S.1 / 128)).length) v with
    | none => none
    | some S' => some (S.1 / 128 * 128 + 127 - (S.2.2.2 (S.1 / 128)).length, (S'.1, S'.2.1, S'.2.2.1, va_up S.2.2.2 (S.1 / 128) (S.2.2.2 (S.1 / 128) ++ [v])))
def putN (S : ps) (x : Nat) : Nat × ps := match put1 S S.1 x with
  | none => (5, S)
  | some S' => (0, ((S.1 + 1) % 4096, S'.2))
def wd (m : Nat) (by_ : Bool) (a : Nat) : Nat := m * 512 + (if by_ = true then 256 else 0) + (if a < 128 then a else 128 + a % 128)
def putM (T : Nat → Nat) (e p v m : Nat) (S : ps) : Nat × ps :=
  match (if isLi T e p = true then litP S v else some (v, S)) with
  | none => (5, S)
  | some (a, S') => if 128 ≤ a ∧ a / 128 ≠ S.1 / 128 then (4, S') else putN S' (wd m (isBy T e (m1 T e p)) a)
def s2 (T : Nat → Nat) (from_ e : Nat) (t : nt) (S : ps) : Nat × ps :=
  if right T e (p0 T from_ e) = false then (99, S)
  else match knd T e (p0 T from_ e) with
    | 0 => (0, S)
    | 1 => (match vAt T e t S.1 (p0 T from_ e) with | none => (99, S) | some v => (0, (v, S.2)))
    | 2 => (0, S)
    | 3 => (match vAt T e t S.1 (p0 T from_ e) with | none => (2, S) | some v => putM T e (p0 T from_ e) v ((mwA T e (p0 T from_ e)).getD 0) S)
    | _ => (match vAt T e t S.1 (p0 T from_ e) with | none => (2, S) | some v => putN S v)
def scan {σ : Type} (T : Nat → Nat) (n : Nat) (f : Nat → Nat → σ → Nat × σ) : Nat → Nat → Nat → Nat → Bool → σ → Nat × Nat × σ
  | 0, _, _, _, _, s => (0, 0, s)
  | k + 1, p, from_, line, rem, s =>
    if rem = false ∧ (n ≤ p ∨ T p = 10 ∨ T p = 59 ∨ T p = 47) then
      (if (f from_ p s).1 ≠ 0 then ((f from_ p s).1, line, (f from_ p s).2)
       else if n ≤ p ∨ T p = 10 then scan T n f k (p + 1) (p + 1) (line + 1) false (f from_ p s).2
       else scan T n f k (p + 1) (p + 1) line (decide (T p = 47)) (f from_ p s).2)
    else if n ≤ p ∨ T p = 10 then scan T n f k (p + 1) (p + 1) (line + 1) false s
    else scan T n f k (p + 1) from_ line rem s
def a1 (T : Nat → Nat) (n : Nat) : Nat × Nat × nt × Nat := scan T n (fun a b (s : nt × Nat) => s1 T a b s.1 s.2) (n + 1) 0 0 1 false ([], 128)
def a2 (T : Nat → Nat) (n : Nat) (t : nt) : Nat × Nat × ps := scan T n (fun a b s => s2 T a b t s) (n + 1) 0 0 1 false (128, (fun _ => none), [], fun _ => [])
def c_asm (H : hs) (t : tp) (u : Int32) : Int32 × hs × tp := match rg u (H.1 0) with
  | none => (-1, H, t)
  | some u => if (a1 t.1 t.2.1).1 ≠ 0 then (-2, H, (t.1, 0, (a1 t.1 t.2.1).1, (a1 t.1 t.2.1).2.1))
    else if (a2 t.1 t.2.1 (a1 t.1 t.2.1).2.2.1).1 ≠ 0 then (-2, H, (t.1, 0, (a2 t.1 t.2.1 (a1 t.1 t.2.1).2.2.1).1, (a2 t.1 t.2.1 (a1 t.1 t.2.1).2.2.1).2.1))
    else (nI (a2 t.1 t.2.1 (a1 t.1 t.2.1).2.2.1).2.2.2.2.1.length, hU H u ((H.2.2 u).1, (fun a => ((a2 t.1 t.2.1 (a1 t.1 t.2.1).2.2.1).2.2.2.1 a).getD (uMm (H.2.2 u) a)), (H.2.2 u).2.2), (t.1, 0, 0, 0))
