/-! the calculus is sound over the machine -/
def lh (ls : Array Slot) (L : List (Option Value)) : Prop := ls.size = L.length ∧ lv_wf ls ∧ ∀ (i : Nat) (v : Value), L[i]? = some (some v) → ls[i]? = some (.val v)
theorem nth_some {L : List (Option Value)} {k : Nat} {v : Value} (h : nth L k = some v) : L[k]? = some (some v) := by
  induction L generalizing k with
  | nil => cases h
  | cons a r ih =>
    cases k with
    | zero => exact congrArg some h
    | succ k => exact ih h
theorem lh.at {ls : Array Slot} {L : List (Option Value)} (h : lh ls L) {k : Nat} {v : Value} (hk : nth L k = some v) : ls[k]? = some (.val v) := h.2.2 k v (nth_some hk)
def lo (L : List (Option Value)) : List (Nat × Value) := (List.range L.length).filterMap (fun i => (L.getD i none).map (fun v => (i, v)))
theorem lo_mem {L : List (Option Value)} {i : Nat} {v : Value} : (i, v) ∈ lo L ↔ L[i]? = some (some v) := by
  unfold lo
  rw [List.mem_filterMap]
  constructor
  · rintro ⟨j, hj, h⟩
    have hl := List.mem_range.mp hj
    rw [List.getD_eq_getElem?_getD, List.getElem?_eq_getElem hl] at h
    cases hv : L[j] with
    | none => rw [hv] at h; cases h
    | some u =>
      rw [hv] at h
      cases h
      rw [List.getElem?_eq_getElem hl, hv]
  · intro h
    have hl := (List.getElem?_eq_some_iff.mp h).1
    refine ⟨i, List.mem_range.mpr hl, ?_⟩
    rw [List.getD_eq_getElem?_getD, h]
    rfl
theorem lh.has {ls : Array Slot} {L : List (Option Value)} (h : lh ls L) : lv_has ls L.length (lo L) := ⟨h.1, h.2.1, fun q hq => h.2.2 q.1 q.2 (lo_mem.mp hq)⟩
theorem st1_len (L : List (Option Value)) (k : Nat) (v : Value) : (st1 L k v).length = L.length := by
  induction L generalizing k with
  | nil => rfl
  | cons a r ih =>
    match k with
    | 0 => rfl
    | 1 => show (st1 r 0 v).length + 1 = _; rw [ih]; rfl
    | k + 2 => show (st1 r (k + 1) v).length + 1 = _; rw [ih]; rfl
theorem st2_len (L : List (Option Value)) (k : Nat) (v : Value) (h : k + 1 < L.length) : (st2 L k v).length = L.length := by
  induction L generalizing k with
  | nil => rfl
  | cons a r ih =>
    match r, k with
    | [], _ => simp at h
    | b :: r, 0 => rfl
    | b :: r, 1 => show (st2 (b :: r) 0 v).length + 1 = _; rw [ih 0 (by simp at h ⊢; omega)]; rfl
    | b :: r, k + 2 => show (st2 (b :: r) (k + 1) v).length + 1 = _; rw [ih (k + 1) (by simp at h ⊢; omega)]; rfl
theorem clr_some {a : Option Value} {u : Value} (h : clr a = some u) : a = some u ∧ u.category = 1 := by
  unfold clr at h
  split at h
  · cases h
  · cases h
  · subst h
    refine ⟨rfl, ?_⟩
    cases u <;> first | rfl | simp_all
theorem st1_get {L : List (Option Value)} {k : Nat} {v : Value} {i : Nat} {u : Value} (h : (st1 L k v)[i]? = some (some u)) : (i = k ∧ u = v) ∨ (i ≠ k ∧ L[i]? = some (some u) ∧ ¬ (i + 1 = k ∧ u.category = 2)) := by
  induction L generalizing k i with
  | nil => simp [st1] at h
  | cons a r ih =>
    match k with
    | 0 =>
      cases i with
      | zero => simp [st1] at h; exact Or.inl ⟨rfl, h.symm⟩
      | succ i => exact Or.inr ⟨by omega, by simpa [st1] using h, by omega⟩
    | 1 =>
      cases i with
      | zero =>
        simp [st1] at h
        obtain ⟨h1, h2⟩ := clr_some h
        exact Or.inr ⟨by omega, by simp [h1], by omega⟩
      | succ i =>
        simp only [st1, List.getElem?_cons_succ] at h
        rcases ih h with ⟨h1, h2⟩ | ⟨h1, h2, h3⟩
        · exact Or.inl ⟨by omega, h2⟩
        · exact Or.inr ⟨by omega, by simpa using h2, by omega⟩
    | k + 2 =>
      cases i with
      | zero => simp [st1] at h; exact Or.inr ⟨by omega, by simp [h], by omega⟩
      | succ i =>
        simp only [st1, List.getElem?_cons_succ] at h
        rcases ih h with ⟨h1, h2⟩ | ⟨h1, h2, h3⟩
        · exact Or.inl ⟨by omega, h2⟩
        · exact Or.inr ⟨by omega, by simpa using h2, by omega⟩
theorem st2_get {L : List (Option Value)} {k : Nat} {v : Value} {i : Nat} {u : Value} (h : (st2 L k v)[i]? = some (some u)) : (i = k ∧ u = v) ∨ (i ≠ k ∧ i ≠ k + 1 ∧ L[i]? = some (some u) ∧ ¬ (i + 1 = k ∧ u.category = 2)) := by
  induction L generalizing k i with
  | nil => simp [st2] at h
  | cons a r ih =>
    match r, k with
    | [], k => simp [st2] at h
    | b :: r, 0 =>
      match i with
      | 0 => simp [st2] at h; exact Or.inl ⟨rfl, h.symm⟩
      | 1 => simp [st2] at h
      | i + 2 => exact Or.inr ⟨by omega, by omega, by simpa [st2] using h, by omega⟩
    | b :: r, 1 =>
      cases i with
      | zero =>
        simp [st2] at h
        obtain ⟨h1, h2⟩ := clr_some h
        exact Or.inr ⟨by omega, by omega, by simp [h1], by omega⟩
      | succ i =>
        simp only [st2, List.getElem?_cons_succ] at h
        rcases ih h with ⟨h1, h2⟩ | ⟨h1, h1', h2, h3⟩
        · exact Or.inl ⟨by omega, h2⟩
        · exact Or.inr ⟨by omega, by omega, by simpa using h2, by omega⟩
    | b :: r, k + 2 =>
      cases i with
      | zero => simp [st2] at h; exact Or.inr ⟨by omega, by omega, by simp [h], by omega⟩
      | succ i =>
        simp only [st2, List.getElem?_cons_succ] at h
        rcases ih h with ⟨h1, h2⟩ | ⟨h1, h1', h2, h3⟩
        · exact Or.inl ⟨by omega, h2⟩
        · exact Or.inr ⟨by omega, by omega, by simpa using h2, by omega⟩
theorem lh.st1 {ls' : Array Slot} {L : List (Option Value)} {k : Nat} {v : Value} (h : lv_has ls' L.length ((k, v) :: (lo L).filter (fun q => !(q.1 == k) && !(q.1 + 1 == k && q.2.category == 2)))) : lh ls' (st1 L k v) := by
  refine ⟨by rw [st1_len]; exact h.1, h.2.1, fun i u hu => ?_⟩
  rcases st1_get hu with ⟨rfl, rfl⟩ | ⟨h1, h2, h3⟩
  · exact h.2.2 _ List.mem_cons_self
  · refine h.2.2 (i, u) (List.mem_cons_of_mem _ (List.mem_filter.mpr ⟨lo_mem.mpr h2, ?_⟩))
    simp only [Bool.and_eq_true, Bool.not_eq_true', beq_eq_false_iff_ne, Bool.and_eq_false_iff]
    refine ⟨h1, ?_⟩
    by_cases hk : i + 1 = k
    · exact Or.inr (fun e => h3 ⟨hk, e⟩)
    · exact Or.inl hk
theorem lh.st2 {ls' : Array Slot} {L : List (Option Value)} {k : Nat} {v : Value} (hk : k + 1 < L.length) (h : lv_has ls' L.length ((k, v) :: (lo L).filter (fun q => !(q.1 == k) && (!(q.1 == k + 1) && !(q.1 + 1 == k && q.2.category == 2))))) : lh ls' (st2 L k v) := by
  refine ⟨by rw [st2_len _ _ _ hk]; exact h.1, h.2.1, fun i u hu => ?_⟩
  rcases st2_get hu with ⟨rfl, rfl⟩ | ⟨h1, h1', h2, h3⟩
  · exact h.2.2 _ List.mem_cons_self
  · refine h.2.2 (i, u) (List.mem_cons_of_mem _ (List.mem_filter.mpr ⟨lo_mem.mpr h2, ?_⟩))
    simp only [Bool.and_eq_true, Bool.not_eq_true', beq_eq_false_iff_ne, Bool.and_eq_false_iff]
    refine ⟨h1, h1', ?_⟩
    by_cases hk : i + 1 = k
    · exact Or.inr (fun e => h3 ⟨hk, e⟩)
    · exact Or.inl hk
theorem e_n1 {n : Nat} {P : Prop} (h : n1 n P) : n = 1 ∧ P := by unfold n1 at h; split at h <;> first | exact ⟨rfl, h⟩ | exact h.elim
theorem e_n2 {n : Nat} {P : Prop} (h : n2 n P) : n = 2 ∧ P := by unfold n2 at h; split at h <;> first | exact ⟨rfl, h⟩ | exact h.elim
theorem e_n3 {n : Nat} {P : Prop} (h : n3 n P) : n = 3 ∧ P := by unfold n3 at h; split at h <;> first | exact ⟨rfl, h⟩ | exact h.elim
theorem e_p1 {st : List Value} {K : Int32 → List Value → Prop} (h : p1 st K) : ∃ a r, st = .int a :: r ∧ K a r := by unfold p1 at h; split at h <;> first | exact ⟨_, _, rfl, h⟩ | exact h.elim
theorem e_p2 {st : List Value} {K : Int32 → Int32 → List Value → Prop} (h : p2 st K) : ∃ a b r, st = .int b :: .int a :: r ∧ K a b r := by unfold p2 at h; split at h <;> first | exact ⟨_, _, _, rfl, h⟩ | exact h.elim
theorem e_q1 {st : List Value} {K : Int64 → List Value → Prop} (h : q1 st K) : ∃ a r, st = .long a :: r ∧ K a r := by unfold q1 at h; split at h <;> first | exact ⟨_, _, rfl, h⟩ | exact h.elim
theorem e_q2 {st : List Value} {K : Int64 → Int64 → List Value → Prop} (h : q2 st K) : ∃ a b r, st = .long b :: .long a :: r ∧ K a b r := by unfold q2 at h; split at h <;> first | exact ⟨_, _, _, rfl, h⟩ | exact h.elim
theorem e_pr {st : List Value} {K : Nat → List Value → Prop} (h : pr st K) : ∃ a r, st = .ref a :: r ∧ K a r := by unfold pr at h; split at h <;> first | exact ⟨_, _, rfl, h⟩ | exact h.elim
theorem e_pir {st : List Value} {K : Nat → Int32 → List Value → Prop} (h : pir st K) : ∃ a i r, st = .int i :: .ref a :: r ∧ K a i r := by unfold pir at h; split at h <;> first | exact ⟨_, _, _, rfl, h⟩ | exact h.elim
theorem e_piir {st : List Value} {K : Nat → Int32 → Int32 → List Value → Prop} (h : piir st K) : ∃ a i x r, st = .int x :: .int i :: .ref a :: r ∧ K a i x r := by unfold piir at h; split at h <;> first | exact ⟨_, _, _, _, rfl, h⟩ | exact h.elim
theorem e_plir {st : List Value} {K : Nat → Int32 → Int64 → List Value → Prop} (h : plir st K) : ∃ a i x r, st = .long x :: .int i :: .ref a :: r ∧ K a i x r := by unfold plir at h; split at h <;> first | exact ⟨_, _, _, _, rfl, h⟩ | exact h.elim
theorem e_prir {st : List Value} {K : Nat → Int32 → Option Nat → List Value → Prop} (h : prir st K) : ∃ a i x r, st = va_rf x :: .int i :: .ref a :: r ∧ K a i x r := by unfold prir at h; split at h <;> first | exact ⟨_, _, some _, _, rfl, h⟩ | exact ⟨_, _, none, _, rfl, h⟩ | exact h.elim
theorem e_pvr {st : List Value} {K : Nat → Value → List Value → Prop} (h : pvr st K) : ∃ a v r, st = v :: .ref a :: r ∧ K a v r := by unfold pvr at h; split at h <;> first | exact ⟨_, _, _, rfl, h⟩ | exact h.elim
theorem e_pn {st : List Value} {K : Option Nat → List Value → Prop} (h : pn st K) : ∃ a r, st = va_rf a :: r ∧ K a r := by unfold pn at h; split at h <;> first | exact ⟨some _, _, rfl, h⟩ | exact ⟨none, _, rfl, h⟩ | exact h.elim
theorem e_li {a : Option Value} {K : Int32 → Prop} (h : li a K) : ∃ v, a = some (.int v) ∧ K v := by unfold li at h; split at h <;> first | exact ⟨_, rfl, h⟩ | exact h.elim
theorem e_ll {a : Option Value} {K : Int64 → Prop} (h : ll a K) : ∃ v, a = some (.long v) ∧ K v := by unfold ll at h; split at h <;> first | exact ⟨_, rfl, h⟩ | exact h.elim
theorem e_lr {a : Option Value} {K : Value → Prop} (h : lr a K) : ∃ x, a = some (va_rf x) ∧ K (va_rf x) := by unfold lr at h; split at h <;> first | exact ⟨some _, rfl, h⟩ | exact ⟨none, rfl, h⟩ | exact h.elim
theorem e_oc {o : Option (Nat × Nat)} {K : Nat → Nat → Prop} (h : oc o K) : ∃ a b, o = some (a, b) ∧ K a b := by unfold oc at h; split at h <;> first | exact ⟨_, _, rfl, h⟩ | exact h.elim
theorem e_on {α : Type} {o : Option α} {K : α → Prop} (h : on o K) : ∃ a, o = some a ∧ K a := by unfold on at h; split at h <;> first | exact ⟨_, rfl, h⟩ | exact h.elim
theorem e_ldv {v : Value} {w : aw} {K : Value → Prop} (h : ldv v w K) : (∃ x, v = .int x ∧ K (.int x)) ∨ ∃ i, v = .ref i ∧ K (fd w (20000 + i) 0) := by unfold ldv at h; split at h <;> first | exact Or.inl ⟨_, rfl, h⟩ | exact Or.inr ⟨_, rfl, h⟩ | exact h.elim
theorem e_ot {o : Option Int} {K : Int → Prop} (h : ot o K) : ∃ a, o = some a ∧ K a := by unfold ot at h; split at h <;> first | exact ⟨_, rfl, h⟩ | exact h.elim
theorem e_spl {n : Nat} {st : List Value} {K : List Value → List Value → Prop} (h : spl n st K) : ∃ As r, st = As.reverse ++ r ∧ As.length = n ∧ K As r := by
  unfold spl at h
  split at h
  · rename_i hn
    exact ⟨_, _, by rw [List.reverse_reverse, List.take_append_drop], by simp [hn], h⟩
  · exact h.elim
/-- a method's start and end -/
def PreX (D : va_G) (tA : Nat → ClassId) (B : Nat) (As : List Value) (w : aw) : Array Value → State → Prop := fun a U => a = As.toArray ∧ rp D tA B w U U.heap ∧ kk D tA U
def PostX (D : va_G) (tA : Nat → ClassId) (B : Nat) (Q : wQ) : Array Value → State → Outcome → State → Prop := fun _ st o t => (∃ v w', o = .returned v ∧ Q v w' ∧ rp D tA B w' t t.heap) ∧ va_F (fun q => B ≤ q) st t
theorem PreX.blind {D : va_G} {tA : Nat → ClassId} {B : Nat} {As : List Value} {w : aw} : FrameBlind (PreX D tA B As w) := fun a U g mk q =>
  ⟨q.1, rp.moved (u := U) (U := U.calling g mk a) (Vm.Alike.refl U.vm) q.2.1, q.2.2.call⟩
def wM (z : Nat) : List Cond := .code (mN z) (mB z) (mL z) (mR z) :: wsG
def rmD (d z : Nat) : Room := { frames := d, cells := mC z, slots := mS z, locals := 32 * d }
/-- what a call's predicate promises -/
def sndC (l : Launch) (D : va_G) (tA : Nat → ClassId) (B d : Nat) (C : wC) : Prop := ∀ z As w Q, 0 < z → z < mMany → C z As w Q → Met l (mN z) (wM z) (rmD d z) (PreX D tA B As w) (PostX D tA B Q) (mC z) (mS z) (fun q => B ≤ q)
theorem code_in {z : Nat} (h0 : 0 < z) (h : z < mMany) : Cond.code (mN z) (mB z) (mL z) (mR z) ∈ wsG := by
  obtain ⟨i, hi⟩ := mc_all z h0 h
  exact inG hi rfl
theorem wM_good {z : Nat} (h0 : 0 < z) (h : z < mMany) : GoodIn wsG (wM z) := by
  intro w hw
  rcases List.mem_cons.mp hw with rfl | hw
  · exact good_wsG _ (code_in h0 h)
  · exact good_wsG w hw
def cx (p : Program) (R : Room) (s : State) (m : MethodId) (args : Array Value) (meth : Method) (c : Code) (D : va_G) (tA : Nat → ClassId) (B y d : Nat) : Prop :=
  p.tables.exec = Jvm.exec ∧ c.code = mB y ∧ c.maxLocals = mL y ∧ s.vm.findClass (oN (mO y)) = some m.cls ∧ (∀ w ∈ wsG, w.before args s = true) ∧ meth.name = (mN y).name ∧ kk D tA s ∧ (d + 1 ≤ R.frames ∧ 32 * (d + 1) ≤ R.locals ∧ R.cells = mC y ∧ R.slots = mS y) ∧ B ≤ s.heap.size
section Snd
variable {p : Program} {l : Launch} {e : Env} {R : Room} {s : State} {m : MethodId} {args : Array Value} {below : List Frame} {meth : Method} {c : Code} {D : va_G} {tA : Nat → ClassId} {B y d : Nat} {Z : State → Prop} {C : wC} {Q : wQ}
def J (p : Program) (l : Launch) (e : Env) (R : Room) (s : State) (m : MethodId) (args : Array Value) (below : List Frame) (meth : Method) (c : Code) (D : va_G) (tA : Nat → ClassId) (B y : Nat) (Z : State → Prop) : wI := fun pc L st w cn sn =>
  ∀ (H : Heap) (locs : List Loc) (ls : Array Slot), rp D tA B w s H → va_S (fun q => B ≤ q) s.heap H locs → lh ls L → L.length = mL y → cn ≤ mC y → sn ≤ mS y → W p l e R s m args below meth c H locs cn sn Z (F0 m pc ls st)
/-- how a method may end -/
def ends (p : Program) (l : Launch) (e : Env) (R : Room) (s : State) (m : MethodId) (args : Array Value) (below : List Frame) (meth : Method) (c : Code) (D : va_G) (tA : Nat → ClassId) (B y : Nat) (Z : State → Prop) (Q : wQ) : Prop :=
  ∀ (H : Heap) (locs : List Loc) (ls : Array Slot) (w : aw) (pc cn sn : Nat), rp D tA B w s H → va_S (fun q => B ≤ q) s.heap H locs → cn ≤ mC y → sn ≤ mS y →
    (∀ (v : Int32) (ty : FieldType), mR y = some ty → narrow ty (.int v) = .int v → decode (mB y) pc = .ok (.ireturn, 1) → Q (some (.int v)) w → W p l e R s m args below meth c H locs cn sn Z (F0 m pc ls [.int v])) ∧
    (∀ (v : Int64), mR y = some .long → decode (mB y) pc = .ok (.lreturn, 1) → Q (some (.long v)) w → W p l e R s m args below meth c H locs cn sn Z (F0 m pc ls [.long v])) ∧
    (∀ (x : Option Nat) (ty : FieldType), mR y = some ty → ((∃ n, ty = .object n) ∨ ∃ t, ty = .array t) → decode (mB y) pc = .ok (.areturn, 1) → Q (some (va_rf x)) w → W p l e R s m args below meth c H locs cn sn Z (F0 m pc ls [va_rf x])) ∧
    (mR y = none → decode (mB y) pc = .ok (.return_, 1) → Q none w → W p l e R s m args below meth c H locs cn sn Z (F0 m pc ls []))
theorem call_go {pc mc ms cn sn : Nat} {rest st0 : List Value} {L : List (Option Value)} {ls : Array Slot} {H : Heap} {locs : List Loc} {a : Array Value} {Q' : wQ}
    (hr : va_Run p l e R s m args below meth c H locs cn sn mc ms (F0 m pc ls st0) rest (PostX D tA B Q' a) (fun q => B ≤ q)) (hS : va_S (fun q => B ≤ q) s.heap H locs) (hl : lh ls L) (hL : L.length = mL y) (h1 : cn + mc ≤ mC y) (h2 : sn + ms ≤ mS y)
    (k : ∀ v w', Q' v w' → J p l e R s m args below meth c D tA B y Z (pc + 3) L (v.toList ++ rest) w' (cn + mc) (sn + ms)) : W p l e R s m args below meth c H locs cn sn Z (F0 m pc ls st0) := by
  intro T hT X
  obtain ⟨v, st₀, t, T', Lc, h0, X', hLc, e1, e2, ⟨⟨v', w', hv, hq, hrp⟩, hz, hk⟩, st⟩ := hr T hT X
  cases hv
  rw [h0] at hz hk
  have hal : t.vm.Alike s.vm := by rw [← e2]; exact X'.warmed.alike.symm
  have hrp' : rp D tA B w' s T'.heap := by rw [e1]; exact hrp.moved hal
  have hS' : va_S (fun q => B ≤ q) s.heap T'.heap (locs ++ Lc) := by
    refine ⟨Nat.le_trans hS.1 (by rw [e1]; exact hz), fun q h1 h2 => ?_, fun q hq => ?_⟩
    · rw [e1, hk q (Nat.lt_of_lt_of_le h1 hS.1) h2]
      exact hS.2.1 q h1 h2
    · rcases List.mem_append.mp hq with h | h
      · exact hS.2.2 q h
      · exact hLc q h
  obtain ⟨t2, a1, b1⟩ := k v w' hq T'.heap (locs ++ Lc) ls hrp' hS' hl hL h1 h2 T' rfl X'
  exact ⟨t2, st t2 a1, b1⟩
theorem pre_go {As : List Value} {w : aw} {H : Heap} (hr : rp D tA B w s H) (hK : kk D tA s) : PreS s H (PreX D tA B As w) As :=
  ⟨PreX.blind, fun U hU hW => ⟨rfl, by rw [hU]; exact hr.moved hW.alike, hK.warm hW⟩⟩
theorem recv_go {w : aw} {H : Heap} {b ci : Nat} {r : vw_C} (hr : rp D tA B w s H) (hK : kk D tA s) (hk : kd w b = ci + 1) (hc : vwCl[ci]? = some r) : ∃ cellB : Cell, H[b]? = some cellB ∧ cellB.vm.isStatics = false ∧ s.vm.findClass r.1 = some cellB.cls := by
  obtain ⟨cell, h1, h2, h3, -⟩ := hr.1.1 b ci r hk hc
  exact ⟨cell, h1, by rw [h3]; rfl, by rw [h2]; exact (hK.1.1 ci r hc).2.1⟩
theorem callB_go (X : cx p R s m args meth c D tA B y d) {z i : Nat} (h0 : 0 < z) (hz : z < mMany) (hini : Cond.initialized (mN z).cls ∈ wsG) (hl : Cond.methodLink (oN (mO y)) i (mN z) ∈ wsG) : CallB R s args (oN (mO y)) i (mN z) (mB z) (mL z) (mR z) (wM z) (rmD d z) (mC z) (mS z) (mA z) := by
  obtain ⟨hx, hb, hml, hown, hts, hnm, hK, ⟨r1, r2, r3, r4⟩, hB⟩ := X
  obtain ⟨o1, o2, o3, o4, o5, o6⟩ := mO_ok hz
  exact callB_of (mA z) hts (wM_good h0 hz) rfl rfl rfl (hts _ hini) (hts _ hl) ⟨o3, o4, o2⟩ ⟨r1, by show 8 + (mL z + 11) + 32 * d ≤ R.locals; omega⟩
end Snd
