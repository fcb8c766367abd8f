/-! the calculus is monotone, so the least predicate is a fixed point -/
theorem mo_and {A A' B B' : Prop} (h1 : A → A') (h2 : B → B') : A ∧ B → A' ∧ B' := fun h => ⟨h1 h.1, h2 h.2⟩
theorem mo_or {A A' B B' : Prop} (h1 : A → A') (h2 : B → B') : A ∨ B → A' ∨ B' := fun h => h.elim (fun h => Or.inl (h1 h)) (fun h => Or.inr (h2 h))
theorem mo_imp {A B B' : Prop} (h2 : B → B') : (A → B) → (A → B') := fun h a => h2 (h a)
theorem mo_n1 {n : Nat} {P P' : Prop} (h : P → P') : n1 n P → n1 n P' := by unfold n1; split <;> first | exact h | exact id
theorem mo_n2 {n : Nat} {P P' : Prop} (h : P → P') : n2 n P → n2 n P' := by unfold n2; split <;> first | exact h | exact id
theorem mo_n3 {n : Nat} {P P' : Prop} (h : P → P') : n3 n P → n3 n P' := by unfold n3; split <;> first | exact h | exact id
theorem mo_p1 {st : List Value} {K K' : Int32 → List Value → Prop} (h : ∀ a r, K a r → K' a r) : p1 st K → p1 st K' := by unfold p1; split <;> first | exact h _ _ | exact id
theorem mo_p2 {st : List Value} {K K' : Int32 → Int32 → List Value → Prop} (h : ∀ a b r, K a b r → K' a b r) : p2 st K → p2 st K' := by unfold p2; split <;> first | exact h _ _ _ | exact id
theorem mo_q1 {st : List Value} {K K' : Int64 → List Value → Prop} (h : ∀ a r, K a r → K' a r) : q1 st K → q1 st K' := by unfold q1; split <;> first | exact h _ _ | exact id
theorem mo_q2 {st : List Value} {K K' : Int64 → Int64 → List Value → Prop} (h : ∀ a b r, K a b r → K' a b r) : q2 st K → q2 st K' := by unfold q2; split <;> first | exact h _ _ _ | exact id
theorem mo_pr {st : List Value} {K K' : Nat → List Value → Prop} (h : ∀ a r, K a r → K' a r) : pr st K → pr st K' := by unfold pr; split <;> first | exact h _ _ | exact id
theorem mo_pir {st : List Value} {K K' : Nat → Int32 → List Value → Prop} (h : ∀ a i r, K a i r → K' a i r) : pir st K → pir st K' := by unfold pir; split <;> first | exact h _ _ _ | exact id
theorem mo_piir {st : List Value} {K K' : Nat → Int32 → Int32 → List Value → Prop} (h : ∀ a i x r, K a i x r → K' a i x r) : piir st K → piir st K' := by unfold piir; split <;> first | exact h _ _ _ _ | exact id
theorem mo_plir {st : List Value} {K K' : Nat → Int32 → Int64 → List Value → Prop} (h : ∀ a i x r, K a i x r → K' a i x r) : plir st K → plir st K' := by unfold plir; split <;> first | exact h _ _ _ _ | exact id
theorem mo_prir {st : List Value} {K K' : Nat → Int32 → Option Nat → List Value → Prop} (h : ∀ a i x r, K a i x r → K' a i x r) : prir st K → prir st K' := by unfold prir; split <;> first | exact h _ _ _ _ | exact id
theorem mo_pvr {st : List Value} {K K' : Nat → Value → List Value → Prop} (h : ∀ a v r, K a v r → K' a v r) : pvr st K → pvr st K' := by unfold pvr; split <;> first | exact h _ _ _ | exact id
theorem mo_pn {st : List Value} {K K' : Option Nat → List Value → Prop} (h : ∀ a r, K a r → K' a r) : pn st K → pn st K' := by unfold pn; split <;> first | exact h _ _ | exact id
theorem mo_li {a : Option Value} {K K' : Int32 → Prop} (h : ∀ v, K v → K' v) : li a K → li a K' := by unfold li; split <;> first | exact h _ | exact id
theorem mo_ll {a : Option Value} {K K' : Int64 → Prop} (h : ∀ v, K v → K' v) : ll a K → ll a K' := by unfold ll; split <;> first | exact h _ | exact id
theorem mo_lr {a : Option Value} {K K' : Value → Prop} (h : ∀ v, K v → K' v) : lr a K → lr a K' := by unfold lr; split <;> first | exact h _ | exact id
theorem mo_br {pc : Nat} {off : Int} {K K' : Nat → Prop} (h : ∀ t, K t → K' t) : br pc off K → br pc off K' := fun ⟨t, e, q⟩ => ⟨t, e, h t q⟩
theorem mo_oc {o : Option (Nat × Nat)} {K K' : Nat → Nat → Prop} (h : ∀ a b, K a b → K' a b) : oc o K → oc o K' := by unfold oc; split <;> first | exact h _ _ | exact id
theorem mo_on {α : Type} {o : Option α} {K K' : α → Prop} (h : ∀ a, K a → K' a) : on o K → on o K' := by unfold on; split <;> first | exact h _ | exact id
theorem mo_ldv {v : Value} {w : aw} {K K' : Value → Prop} (h : ∀ x, K x → K' x) : ldv v w K → ldv v w K' := by unfold ldv; split <;> first | exact h _ | exact id
theorem mo_ot {o : Option Int} {K K' : Int → Prop} (h : ∀ a, K a → K' a) : ot o K → ot o K' := by unfold ot; split <;> first | exact h _ | exact id
theorem mo_spl {n : Nat} {st : List Value} {K K' : List Value → List Value → Prop} (h : ∀ a r, K a r → K' a r) : spl n st K → spl n st K' := by unfold spl; split <;> first | exact h _ _ | exact id
theorem mo_alc {y z cn sn : Nat} {K K' : Nat → Nat → Prop} (h : ∀ a r, K a r → K' a r) : alc y z cn sn K → alc y z cn sn K' := by
  unfold alc; split
  · exact h _ _
  · exact fun q => ⟨q.1, q.2.1, h _ _ q.2.2⟩
theorem mo_rtI {r : Option FieldType} {v : Int32} {P P' : Prop} (h : P → P') : rtI r v P → rtI r v P' := by unfold rtI; split <;> first | exact h | exact fun q => ⟨q.1, h q.2⟩ | exact id
theorem mo_rtR {r : Option FieldType} {P P' : Prop} (h : P → P') : rtR r P → rtR r P' := by unfold rtR; split <;> first | exact h | exact id
def moC (C : wC) : Prop := ∀ z As w Q Q', (∀ v w, Q v w → Q' v w) → C z As w Q → C z As w Q'
theorem mo_wcall {C : wC} (hC : moC C) {y z pc : Nat} {As rest : List Value} {L : List (Option Value)} {w : aw} {cn sn : Nat} {I I' : wI} (h : ∀ pc L st w cn sn, I pc L st w cn sn → I' pc L st w cn sn) : wcall C y z pc As rest L w cn sn I → wcall C y z pc As rest L w cn sn I' :=
  mo_and id (mo_alc fun _ _ => hC _ _ _ _ _ fun _ _ => h _ _ _ _ _ _)
set_option maxHeartbeats 4000000 in
set_option maxRecDepth 100000 in
theorem mo_wp1 {C : wC} (hC : moC C) {y : Nat} {Q Q' : wQ} {I I' : wI} (hQ : ∀ v w, Q v w → Q' v w) (hI : ∀ pc L st w cn sn, I pc L st w cn sn → I' pc L st w cn sn) {i : Instr} {n pc : Nat} {L : List (Option Value)} {st : List Value} {w : aw} {cn sn : Nat} : wp1 C y Q I i n pc L st w cn sn → wp1 C y Q' I' i n pc L st w cn sn := by
  unfold wp1
  split
  all_goals
    repeat' (first
      | exact id
      | exact hI _ _ _ _ _ _
      | exact hQ _ _
      | exact mo_wcall hC hI
      | refine mo_n1 ?_
      | refine mo_n2 ?_
      | refine mo_n3 ?_
      | refine mo_p1 fun _ _ => ?_
      | refine mo_p2 fun _ _ _ => ?_
      | refine mo_q1 fun _ _ => ?_
      | refine mo_q2 fun _ _ _ => ?_
      | refine mo_pr fun _ _ => ?_
      | refine mo_pir fun _ _ _ => ?_
      | refine mo_piir fun _ _ _ _ => ?_
      | refine mo_plir fun _ _ _ _ => ?_
      | refine mo_prir fun _ _ _ _ => ?_
      | refine mo_pvr fun _ _ _ => ?_
      | refine mo_pn fun _ _ => ?_
      | refine mo_li fun _ => ?_
      | refine mo_ll fun _ => ?_
      | refine mo_lr fun _ => ?_
      | refine mo_br fun _ => ?_
      | refine mo_oc fun _ _ => ?_
      | refine mo_on fun _ => ?_
      | refine mo_ot fun _ => ?_
      | refine mo_ldv fun _ => ?_
      | refine mo_spl fun _ _ => ?_
      | refine mo_rtI ?_
      | refine mo_rtR ?_
      | refine mo_and ?_ ?_
      | refine mo_or ?_ ?_
      | refine mo_imp ?_
      | (split))
theorem mo_wpF {C : wC} (hC : moC C) {y : Nat} {Q Q' : wQ} {I I' : wI} (hQ : ∀ v w, Q v w → Q' v w) (hI : ∀ pc L st w cn sn, I pc L st w cn sn → I' pc L st w cn sn) {pc : Nat} {L : List (Option Value)} {st : List Value} {w : aw} {cn sn : Nat} : wpF C y Q I pc L st w cn sn → wpF C y Q' I' pc L st w cn sn := by
  unfold wpF
  split
  · exact mo_wp1 hC hQ hI
  · exact id
theorem wpx_in {C : wC} (hC : moC C) {y : Nat} {Q : wQ} {pc : Nat} {L : List (Option Value)} {st : List Value} {w : aw} {cn sn : Nat} (h : wpF C y Q (wpx C y Q) pc L st w cn sn) : wpx C y Q pc L st w cn sn :=
  fun I hI => hI _ _ _ _ _ _ (mo_wpF hC (fun _ _ => id) (fun _ _ _ _ _ _ q => q I hI) h)
theorem wpx_out {C : wC} (hC : moC C) {y : Nat} {Q : wQ} {pc : Nat} {L : List (Option Value)} {st : List Value} {w : aw} {cn sn : Nat} (h : wpx C y Q pc L st w cn sn) : wpF C y Q (wpx C y Q) pc L st w cn sn :=
  h (wpF C y Q (wpx C y Q)) (fun _ _ _ _ _ _ q => mo_wpF hC (fun _ _ => id) (fun _ _ _ _ _ _ q => wpx_in hC q) q)
theorem mo_wpx {C : wC} (hC : moC C) {y : Nat} {Q Q' : wQ} (hQ : ∀ v w, Q v w → Q' v w) {pc : Nat} {L : List (Option Value)} {st : List Value} {w : aw} {cn sn : Nat} (h : wpx C y Q pc L st w cn sn) : wpx C y Q' pc L st w cn sn :=
  fun I hI => h I (fun _ _ _ _ _ _ q => hI _ _ _ _ _ _ (mo_wpF hC hQ (fun _ _ _ _ _ _ => id) q))
def lo0 (As : List Value) : List (Option Value) := As.flatMap fun v => if v.category = 2 then [some v, none] else [some v]
def loE (n : Nat) (As : List Value) : List (Option Value) := lo0 As ++ List.replicate (n - (lo0 As).length) none
/-- a method's call, at most d deep -/
def wpD : Nat → wC
  | 0, _, _, _, _ => False
  | d + 1, z, As, w, Q => (lo0 As).length ≤ mL z ∧ wpx (wpD d) z Q 0 (loE (mL z) As) [] w 0 0
theorem moD : ∀ d, moC (wpD d)
  | 0 => fun _ _ _ _ _ _ h => h
  | d + 1 => fun _ _ _ _ _ hQ h => ⟨h.1, mo_wpx (moD d) hQ h.2⟩
abbrev wp (d : Nat) (y : Nat) (Q : wQ) : wI := wpx (wpD d) y Q
theorem wp_row {d y : Nat} {Q : wQ} {pc : Nat} {i : Instr} {n : Nat} (hd : decode (mB y) pc = .ok (i, n)) (L : List (Option Value)) (st : List Value) (w : aw) (cn sn : Nat) : wp d y Q pc L st w cn sn = wp1 (wpD d) y Q (wp d y Q) i n pc L st w cn sn := by
  have e : wpF (wpD d) y Q (wp d y Q) pc L st w cn sn = wp1 (wpD d) y Q (wp d y Q) i n pc L st w cn sn := by
    unfold wpF
    rw [hd]
  rw [← e]
  exact propext ⟨wpx_out (moD d), wpx_in (moD d)⟩
