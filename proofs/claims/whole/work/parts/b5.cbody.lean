def BD (w : aw) (x : Nat) (T : Nat → Nat) (e : Nat) (t : nt) (dot p : Nat) : Prop := fd w 267 (x + 11) = .int (bI (!(right T e p))) ∧ (right T e p = true → fd w 261 (x + 11) = .int (nI (knd T e p)) ∧ fd w 268 (x + 11) = .int (bI (vAt T e t dot p).isNone) ∧ (∃ v, v < 4096 ∧ fd w 266 (x + 11) = .int (nI v) ∧ ∀ y, vAt T e t dot p = some y → y = v) ∧ (∀ i, mwA T e p = some i → fd w 263 (x + 11) = .int (nI i)) ∧ (knd T e p = 3 → fd w 264 (x + 11) = .int (bI (isBy T e (m1 T e p))) ∧ fd w 265 (x + 11) = .int (bI (isLi T e p))) ∧ (isN T e p = true → fd w 262 (x + 11) = .long (lN (b256 (nmE T e p)))))
theorem mwA_K {T : Nat → Nat} {e p : Nat} : mwA T e p = mw (nmK T e p) := by
  unfold mwA nmK
  split
  · rfl
  · rfl
theorem knd_0 {T : Nat → Nat} {e p : Nat} (h : e ≤ p) : knd T e p = 0 := if_pos h
theorem knd_1 {T : Nat → Nat} {e p : Nat} (h : ¬ e ≤ p) (h1 : lk T e p = 42) : knd T e p = 1 := by unfold knd; rw [if_neg h, if_pos h1]
theorem knd_2 {T : Nat → Nat} {e p : Nat} (h : ¬ e ≤ p) (h1 : ¬ lk T e p = 42) (h2 : isTe T e p = true) : knd T e p = 2 := by unfold knd; rw [if_neg h, if_neg h1, if_pos h2]
theorem knd_3 {T : Nat → Nat} {e p i : Nat} (h : ¬ e ≤ p) (h1 : ¬ lk T e p = 42) (h2 : isTe T e p = false) (h3 : mwA T e p = some i) : knd T e p = 3 := by unfold knd; rw [if_neg h, if_neg h1, if_neg (by rw [h2]; decide), if_pos (by rw [h3]; rfl)]
theorem knd_4 {T : Nat → Nat} {e p : Nat} (h : ¬ e ≤ p) (h1 : ¬ lk T e p = 42) (h2 : isTe T e p = false) (h3 : mwA T e p = none) : knd T e p = 4 := by unfold knd; rw [if_neg h, if_neg h1, if_neg (by rw [h2]; decide), if_neg (by rw [h3]; decide)]
theorem dec_not {a b : Nat} : (!(decide (a ≤ b))) = decide (b < a) := by
  by_cases c : a ≤ b
  · rw [decide_eq_true c, decide_eq_false (by omega)]; rfl
  · rw [decide_eq_false c, decide_eq_true (by omega)]; rfl
def BQ (w0 w : aw) (x : Nat) (T : Nat → Nat) (n e : Nat) (t : nt) (dot p : Nat) : Prop := CQ w x T n e t dot p ∧ fd w 267 (x + 11) = .int 0 ∧ fd w 268 (x + 11) = .int (bI false) ∧ fd w 266 (x + 11) = .int (nI 0) ∧ fd w 264 (x + 11) = .int 0 ∧ fd w 265 (x + 11) = .int 0 ∧ fd w 262 (x + 11) = .long (lN (b256 (nmK T e p))) ∧ (∀ i, mwA T e p = some i → fd w 263 (x + 11) = .int (nI i)) ∧ Fr w0 w (x + 11) (x + 12)
theorem CQ.V {w : aw} {x n e dot p g : Nat} {T : Nat → Nat} {t : nt} {v : Value} (h : CQ w x T n e t dot p) (hg : g ≠ 256 ∧ g ≠ 257 ∧ g ≠ 259 ∧ g ≠ 260 ∧ g ≠ 258) : CQ (uF w g (x + 11) v) x T n e t dot p :=
  ⟨h.1.F hg.1 hg.2.1 hg.2.2.1, h.2.1.Fr (w' := uF w g (x + 11) v) (Fr.rf.F (lo := x + 11) (hi := x + 12) (by omega) (by omega)) (Or.inl (by omega)), by rw [fd_uF, if_neg (fun q => hg.2.2.2.1 q.1.symm)]; exact h.2.2.1, by rw [fd_uF, if_neg (fun q => hg.2.2.2.2 q.1.symm)]; exact h.2.2.2⟩
theorem sp_c_body {d : Nat} {w : aw} {x n e p dot : Nat} {T : Nat → Nat} {t : nt} {Q : wQ} (hS : SR w x T n e) (hC : CB w x t) (hN : TN t) (hat : fd w 258 (x + 11) = .int (nI p)) (hp : p ≤ e) (hd : dot < 4096) (h : ∀ w', SR w' x T n e → Fr w w' (x + 11) (x + 12) → BD w' x T e t dot p → Q none w') : wpD (d + 5) 48 [.ref (x + 11), .int (nI dot)] w Q := by
  refine ⟨Nat.le_of_ble_eq_true rfl, ?_⟩
  show wp (d + 4) 48 Q 0 [some (.ref (x + 11)), some (.int (nI dot)), none, none] [] w 0 0
  have rk := hS.1
  have hT := hS.2.2.2.2.2.2.2.2.2.2.2.2
  have hen := hS.2.2.2.2.2.2.2.2.2.2.1
  have hn8 := hS.2.2.2.2.2.2.2.2.2.2.2.1
  have hw := wE_ge (T := T) (e := e) (p := p)
  have hwl := wE_le (T := T) hp
  -- the end
  have j276 : ∀ (w4 : aw) (q : Nat) (B : Bool) (A1 A2 : Option Value), SR w4 x T n e → fd w4 258 (x + 11) = .int (nI q) → q ≤ e → fd w4 267 (x + 11) = .int (bI B) → Fr w w4 (x + 11) (x + 12) → (∀ w', (∀ g, g ≠ 267 → fd w' g (x + 11) = fd w4 g (x + 11)) → fd w' 267 (x + 11) = .int (bI (B || decide (bE T e q < e))) → BD w' x T e t dot p) → wp (d + 4) 48 Q 276 [some (.ref (x + 11)), some (.int (nI dot)), A1, A2] [] w4 0 0 := by
    intro w4 q B A1 A2 hS4 at4 hq b4 f4 hh
    have rk4 := hS4.1
    have en4 := hS4.2.2.2.2.2.2.2.2.2.1
    have hb := bE_le (T := T) hq
    have j301 : ∀ b : Bool, b = decide (bE T e q < e) → wp (d + 4) 48 Q 301 [some (.ref (x + 11)), some (.int (nI dot)), A1, A2] [.int (bI b), .int (bI B), .ref (x + 11)] w4 0 0 := by
      intro b hb
      simp only [↓s_48_301, ↓s_48_302, ↓s_48_305, kd_uF, ln_uF, ai_uF, al_uF, ar_uF, zs_uF, fd_uF, kd_uA, ln_uA, fd_uA, al_uA, ar_uA, zs_uA, ai_uA, kd_uL, ln_uL, fd_uL, ai_uL, ar_uL, zs_uL, al_uL, kd_uR, ln_uR, fd_uR, ai_uR, al_uR, zs_uR, ar_uR, true_and, and_true, Option.toList_some, Option.toList_none, List.cons_append, List.nil_append, catS_nil, catS_int, catS_ref, catS_null, catS_long, cat_int, cat_ref, cat_null, Nat.reduceEqDiff, Nat.reduceLeDiff, Nat.reduceAdd, false_and, and_false, if_false, if_true, ite_true, ite_false, true_or, or_true, false_or, or_false, and_self, forall_const, true_implies, reduceCtorEq, clr_int, clr_ref, clr_null, clr_none, clr_long, va_rf_some, va_rf_none, rk4]
      rw [bI_or, hb]
      exact ⟨bI_ok _, h _ (hS4.F (by decide) (by decide) (by decide)) (f4.F (by omega) (by omega)) (hh _ (fun g hg => by rw [fd_uF, if_neg (fun z => hg z.1)]) (by rw [fd_uF, if_pos ⟨rfl, rfl⟩]))⟩
    simp only [↓s_48_276, ↓s_48_277, ↓s_48_278, ↓s_48_281, ↓s_48_282, ↓s_48_283, ↓s_48_286, kd_uF, ln_uF, ai_uF, al_uF, ar_uF, zs_uF, fd_uF, kd_uA, ln_uA, fd_uA, al_uA, ar_uA, zs_uA, ai_uA, kd_uL, ln_uL, fd_uL, ai_uL, ar_uL, zs_uL, al_uL, kd_uR, ln_uR, fd_uR, ai_uR, al_uR, zs_uR, ar_uR, true_and, and_true, Option.toList_some, Option.toList_none, List.cons_append, List.nil_append, catS_nil, catS_int, catS_ref, catS_null, catS_long, cat_int, cat_ref, cat_null, Nat.reduceEqDiff, Nat.reduceLeDiff, Nat.reduceAdd, false_and, and_false, if_false, if_true, ite_true, ite_false, true_or, or_true, false_or, or_false, and_self, forall_const, true_implies, reduceCtorEq, clr_int, clr_ref, clr_null, clr_none, clr_long, va_rf_some, va_rf_none, rk4, at4, b4]
    refine sp_c_blanks hS4 (by omega) ?_
    simp only [↓s_48_289, ↓s_48_290, ↓s_48_293, ↓s_48_296, ↓s_48_297, ↓s_48_300, kd_uF, ln_uF, ai_uF, al_uF, ar_uF, zs_uF, fd_uF, kd_uA, ln_uA, fd_uA, al_uA, ar_uA, zs_uA, ai_uA, kd_uL, ln_uL, fd_uL, ai_uL, ar_uL, zs_uL, al_uL, kd_uR, ln_uR, fd_uR, ai_uR, al_uR, zs_uR, ar_uR, true_and, and_true, Option.toList_some, Option.toList_none, List.cons_append, List.nil_append, catS_nil, catS_int, catS_ref, catS_null, catS_long, cat_int, cat_ref, cat_null, Nat.reduceEqDiff, Nat.reduceLeDiff, Nat.reduceAdd, false_and, and_false, if_false, if_true, ite_true, ite_false, true_or, or_true, false_or, or_false, and_self, forall_const, true_implies, reduceCtorEq, clr_int, clr_ref, clr_null, clr_none, clr_long, va_rf_some, va_rf_none, rk4, en4]
    rw [nI_leI (by omega) (by omega)]
    exact ⟨fun z => j301 false (by rw [decide_eq_false (by omega)]), fun z => j301 true (by rw [decide_eq_true (by omega)])⟩
  -- a broken statement
  have brk : ∀ (w4 : aw) (q : Nat) (A1 A2 : Option Value), right T e p = false → SR w4 x T n e → fd w4 258 (x + 11) = .int (nI q) → q ≤ e → fd w4 267 (x + 11) = .int 1 → Fr w w4 (x + 11) (x + 12) → wp (d + 4) 48 Q 276 [some (.ref (x + 11)), some (.int (nI dot)), A1, A2] [] w4 0 0 := by
    intro w4 q A1 A2 hr hS4 at4 hq b4 f4
    refine j276 w4 q true A1 A2 hS4 at4 hq b4 f4 (fun w' g1 g2 => ⟨?_, fun z => by rw [hr] at z; cases z⟩)
    rw [g2, hr]; rfl
  -- one expression, its end at q
  have one : ∀ (w3 w4 : aw) (q v : Nat) (A1 A2 : Option Value) (p' K : Nat), BQ w w3 x T n e t dot p → knd T e p = K → vAt T e t dot p = eV T e t dot p' → right T e p = eOK T e (some q) → K ≠ 3 → (isN T e p = true → fd w4 262 (x + 11) = fd w3 262 (x + 11)) → fd w4 263 (x + 11) = fd w3 263 (x + 11) → fd w4 261 (x + 11) = .int (nI K) → SR w4 x T n e → fd w4 258 (x + 11) = .int (nI q) → q ≤ e → fd w4 267 (x + 11) = .int 0 → fd w4 268 (x + 11) = .int (bI (false || (eV T e t dot p').isNone)) → fd w4 266 (x + 11) = .int (nI v) → v < 4096 → (∀ y, eV T e t dot p' = some y → y = v) → Fr w w4 (x + 11) (x + 12) → wp (d + 4) 48 Q 276 [some (.ref (x + 11)), some (.int (nI dot)), A1, A2] [] w4 0 0 := by
    intro w3 w4 q v A1 A2 p' K hb hK hv hr hK3 ky op kd4 hS4 at4 hq b4 u4 v4 hv4 hy f4
    refine j276 w4 q false A1 A2 hS4 at4 hq b4 f4 (fun w' g1 g2 => ⟨?_, fun z => ⟨?_, ?_, ⟨v, hv4, ?_, ?_⟩, ?_, fun z3 => absurd (hK.symm.trans z3) hK3, fun zN => ?_⟩⟩)
    · rw [g2, hr, Bool.false_or]
      show _ = Value.int (bI (!(decide (e ≤ bE T e q))))
      rw [dec_not]
    · rw [g1 _ (by decide), hK]; exact kd4
    · rw [g1 _ (by decide), u4, hv, Bool.false_or]
    · rw [g1 _ (by decide)]; exact v4
    · rw [hv]; exact hy
    · intro i hi; rw [g1 _ (by decide), op]; exact hb.2.2.2.2.2.2.2.1 i hi
    · rw [g1 _ (by decide), ky zN, hb.2.2.2.2.2.2.1]; unfold nmK; rw [if_pos zN]
  -- a row's further expressions
  have brk242 : ∀ (w4 : aw) (q : Nat) (i : Int32) (A1 : Option Value), right T e p = false → SR w4 x T n e → fd w4 258 (x + 11) = .int (nI q) → q ≤ e → fd w4 267 (x + 11) = .int 1 → Fr w w4 (x + 11) (x + 12) → wp (d + 4) 48 Q 242 [some (.ref (x + 11)), some (.int (nI dot)), A1, some (.int i)] [] w4 0 0 := by
    intro w4 q i A1 hr hS4 at4 hq b4 f4
    have rk4 := hS4.1
    have en4 := hS4.2.2.2.2.2.2.2.2.2.1
    rw [s_48_242]
    simp only [↓s_48_243, ↓s_48_244, ↓s_48_247, ↓s_48_250, ↓s_48_251, kd_uF, ln_uF, ai_uF, al_uF, ar_uF, zs_uF, fd_uF, kd_uA, ln_uA, fd_uA, al_uA, ar_uA, zs_uA, ai_uA, kd_uL, ln_uL, fd_uL, ai_uL, ar_uL, zs_uL, al_uL, kd_uR, ln_uR, fd_uR, ai_uR, al_uR, zs_uR, ar_uR, true_and, and_true, Option.toList_some, Option.toList_none, List.cons_append, List.nil_append, catS_nil, catS_int, catS_ref, catS_null, catS_long, cat_int, cat_ref, cat_null, Nat.reduceEqDiff, Nat.reduceLeDiff, Nat.reduceAdd, false_and, and_false, if_false, if_true, ite_true, ite_false, true_or, or_true, false_or, or_false, and_self, forall_const, true_implies, reduceCtorEq, clr_int, clr_ref, clr_null, clr_none, clr_long, va_rf_some, va_rf_none, rk4, en4]
    refine ⟨fun _ => brk w4 q A1 _ hr hS4 at4 hq b4 f4, fun _ => sp_c_more (B := true) hS4 at4 hq b4 (fun z => by cases z) (fun _ => ?_)⟩
    simp only [↓s_48_254, kd_uF, ln_uF, ai_uF, al_uF, ar_uF, zs_uF, fd_uF, kd_uA, ln_uA, fd_uA, al_uA, ar_uA, zs_uA, ai_uA, kd_uL, ln_uL, fd_uL, ai_uL, ar_uL, zs_uL, al_uL, kd_uR, ln_uR, fd_uR, ai_uR, al_uR, zs_uR, ar_uR, true_and, and_true, Option.toList_some, Option.toList_none, List.cons_append, List.nil_append, catS_nil, catS_int, catS_ref, catS_null, catS_long, cat_int, cat_ref, cat_null, Nat.reduceEqDiff, Nat.reduceLeDiff, Nat.reduceAdd, false_and, and_false, if_false, if_true, ite_true, ite_false, true_or, or_true, false_or, or_false, and_self, forall_const, true_implies, reduceCtorEq, clr_int, clr_ref, clr_null, clr_none, clr_long, va_rf_some, va_rf_none]
    exact ⟨brk w4 q A1 _ hr hS4 at4 hq b4 f4, fun z => absurd trivial z⟩
  have row : ∀ (k : Nat) (w3 w4 : aw) (q i s : Nat) (o : Option Nat) (A1 : Option Value), BQ w w3 x T n e t dot p → knd T e p = 4 → e ≤ q + k → i ≤ q → CQ w4 x T n e t dot q → q ≤ e → fd w4 267 (x + 11) = .int 0 → fd w4 268 (x + 11) = .int (bI o.isNone) → fd w4 266 (x + 11) = .int (nI s) → s < 4096 → (∀ y, o = some y → y = s) → fd w4 262 (x + 11) = fd w3 262 (x + 11) → fd w4 263 (x + 11) = fd w3 263 (x + 11) → fd w4 261 (x + 11) = .int (nI 4) → Fr w w4 (x + 11) (x + 12) → (if q < bE T e q ∨ e ≤ bE T e q then rS T e k (bE T e q) else false) = right T e p → rV T e t dot k (bE T e q) o = vAt T e t dot p → wp (d + 4) 48 Q 242 [some (.ref (x + 11)), some (.int (nI dot)), A1, some (.int (nI i))] [] w4 0 0 := by
    intro k
    induction k with
    | zero =>
      intro w3 w4 q i s o A1 hb hK hk hi hq4 hq b4 u4 v4 hs ho ky op kd4 f4 e1 e2
      have eq : q = e := by omega
      have hbe : bE T e q = e := by rw [eq]; exact bE_self
      have fin : wp (d + 4) 48 Q 276 [some (.ref (x + 11)), some (.int (nI dot)), A1, some (.int (nI i))] [] w4 0 0 := by
        rw [if_pos (Or.inr (by omega))] at e1
        have e1' : true = right T e p := e1
        have e2' : o = vAt T e t dot p := e2
        refine j276 w4 q false A1 _ hq4.1 hq4.2.2.2 hq b4 f4 (fun w' g1 g2 => ⟨?_, fun z => ⟨?_, ?_, ⟨s, hs, ?_, ?_⟩, ?_, fun z3 => (by rw [hK] at z3; cases z3), fun zN => ?_⟩⟩)
        · rw [g2, ← e1', decide_eq_false (by omega)]; rfl
        · rw [g1 _ (by decide), hK]; exact kd4
        · rw [g1 _ (by decide), u4, e2']
        · rw [g1 _ (by decide)]; exact v4
        · rw [← e2']; exact ho
        · intro i hi; rw [g1 _ (by decide), op]; exact hb.2.2.2.2.2.2.2.1 i hi
        · rw [g1 _ (by decide), ky, hb.2.2.2.2.2.2.1]; unfold nmK; rw [if_pos zN]
      have rk4 := hq4.1.1
      have en4 := hq4.1.2.2.2.2.2.2.2.2.2.1
      rw [s_48_242]
      simp only [↓s_48_243, ↓s_48_244, ↓s_48_247, ↓s_48_250, ↓s_48_251, kd_uF, ln_uF, ai_uF, al_uF, ar_uF, zs_uF, fd_uF, kd_uA, ln_uA, fd_uA, al_uA, ar_uA, zs_uA, ai_uA, kd_uL, ln_uL, fd_uL, ai_uL, ar_uL, zs_uL, al_uL, kd_uR, ln_uR, fd_uR, ai_uR, al_uR, zs_uR, ar_uR, true_and, and_true, Option.toList_some, Option.toList_none, List.cons_append, List.nil_append, catS_nil, catS_int, catS_ref, catS_null, catS_long, cat_int, cat_ref, cat_null, Nat.reduceEqDiff, Nat.reduceLeDiff, Nat.reduceAdd, false_and, and_false, if_false, if_true, ite_true, ite_false, true_or, or_true, false_or, or_false, and_self, forall_const, true_implies, reduceCtorEq, clr_int, clr_ref, clr_null, clr_none, clr_long, va_rf_some, va_rf_none, rk4, en4]
      refine ⟨fun _ => fin, fun _ => sp_c_more (B := false) hq4.1 hq4.2.2.2 hq b4 (fun _ z1 z2 => by omega) (fun _ => ?_)⟩
      simp only [↓s_48_254, kd_uF, ln_uF, ai_uF, al_uF, ar_uF, zs_uF, fd_uF, kd_uA, ln_uA, fd_uA, al_uA, ar_uA, zs_uA, ai_uA, kd_uL, ln_uL, fd_uL, ai_uL, ar_uL, zs_uL, al_uL, kd_uR, ln_uR, fd_uR, ai_uR, al_uR, zs_uR, ar_uR, true_and, and_true, Option.toList_some, Option.toList_none, List.cons_append, List.nil_append, catS_nil, catS_int, catS_ref, catS_null, catS_long, cat_int, cat_ref, cat_null, Nat.reduceEqDiff, Nat.reduceLeDiff, Nat.reduceAdd, false_and, and_false, if_false, if_true, ite_true, ite_false, true_or, or_true, false_or, or_false, and_self, forall_const, true_implies, reduceCtorEq, clr_int, clr_ref, clr_null, clr_none, clr_long, va_rf_some, va_rf_none]
      exact ⟨fin, fun z => absurd trivial z⟩
    | succ k ih =>
      intro w3 w4 q i s o A1 hb hK hk hi hq4 hq b4 u4 v4 hs ho ky op kd4 f4 e1 e2
      have hbge := bE_ge (T := T) (e := e) (p := q)
      have hble := bE_le (T := T) hq
      have rk4 := hq4.1.1
      have en4 := hq4.1.2.2.2.2.2.2.2.2.2.1
      by_cases c : q < bE T e q ∧ bE T e q < e
      · rw [if_pos (Or.inl c.1)] at e1
        have r1 : rS T e (k + 1) (bE T e q) = match eS T e (bE T e q) with | none => false | some q => if q < bE T e q ∨ e ≤ bE T e q then rS T e k (bE T e q) else false := by
          show (if e ≤ bE T e q then true else _) = _
          rw [if_neg (by omega)]
          rfl
        have r2 : rV T e t dot (k + 1) (bE T e q) o = match eS T e (bE T e q) with | none => none | some q' => rV T e t dot k (bE T e q') (orO o (eV T e t dot (bE T e q))) := by
          show (if e ≤ bE T e q then o else _) = _
          rw [if_neg (by omega)]
          rfl
        rw [r1] at e1
        rw [r2] at e2
        rw [s_48_242]
        simp only [↓s_48_243, ↓s_48_244, ↓s_48_247, ↓s_48_250, ↓s_48_251, kd_uF, ln_uF, ai_uF, al_uF, ar_uF, zs_uF, fd_uF, kd_uA, ln_uA, fd_uA, al_uA, ar_uA, zs_uA, ai_uA, kd_uL, ln_uL, fd_uL, ai_uL, ar_uL, zs_uL, al_uL, kd_uR, ln_uR, fd_uR, ai_uR, al_uR, zs_uR, ar_uR, true_and, and_true, Option.toList_some, Option.toList_none, List.cons_append, List.nil_append, catS_nil, catS_int, catS_ref, catS_null, catS_long, cat_int, cat_ref, cat_null, Nat.reduceEqDiff, Nat.reduceLeDiff, Nat.reduceAdd, false_and, and_false, if_false, if_true, ite_true, ite_false, true_or, or_true, false_or, or_false, and_self, forall_const, true_implies, reduceCtorEq, clr_int, clr_ref, clr_null, clr_none, clr_long, va_rf_some, va_rf_none, rk4, en4]
        refine ⟨fun z => absurd z (nI_ge (by omega) (by omega)), fun _ => sp_c_more (B := false) hq4.1 hq4.2.2.2 hq b4 (fun _ z1 z2 => ?_) (fun z => absurd ⟨rfl, c⟩ z)⟩
        have hq5 : CQ (uF w4 258 (x + 11) (.int (nI (bE T e q)))) x T n e t dot (bE T e q) := hq4.B (FrB.rf.F (Or.inl rfl)) (by rw [fd_uF, if_pos ⟨rfl, rfl⟩])
        simp only [↓s_48_254, ↓s_48_257, ↓s_48_258, ↓s_48_259, ↓s_48_262, ↓s_48_263, ↓s_48_276, ↓s_48_277, ↓s_48_278, ↓s_48_281, ↓s_48_282, ↓s_48_283, ↓s_48_286, kd_uF, ln_uF, ai_uF, al_uF, ar_uF, zs_uF, fd_uF, kd_uA, ln_uA, fd_uA, al_uA, ar_uA, zs_uA, ai_uA, kd_uL, ln_uL, fd_uL, ai_uL, ar_uL, zs_uL, al_uL, kd_uR, ln_uR, fd_uR, ai_uR, al_uR, zs_uR, ar_uR, true_and, and_true, Option.toList_some, Option.toList_none, List.cons_append, List.nil_append, catS_nil, catS_int, catS_ref, catS_null, catS_long, cat_int, cat_ref, cat_null, Nat.reduceEqDiff, Nat.reduceLeDiff, Nat.reduceAdd, false_and, and_false, if_false, if_true, ite_true, ite_false, true_or, or_true, false_or, or_false, and_self, forall_const, true_implies, reduceCtorEq, clr_int, clr_ref, clr_null, clr_none, clr_long, va_rf_some, va_rf_none, rk4, v4]
        refine ⟨fun z => absurd z (by decide), fun _ => sp_c_expr hq5 hN hd hble (by simp only [fd_uF, eq_self, and_self, true_and, false_and, if_true, if_false, ite_true, ite_false, Nat.reduceEqDiff, b4]) (by simp only [fd_uF, eq_self, and_self, true_and, false_and, if_true, if_false, ite_true, ite_false, Nat.reduceEqDiff]; exact u4) (fun q' w5 v c1 c2 c3 c4 c5 c6 c7 => ?_) (fun c1 w5 q' v c2 c3 c4 c5 => ?_)⟩
        · have hqb := eS_b c1
          rw [c1] at e1 e2
          have rk5 := c2.1.1
          simp only [↓s_48_266, ↓s_48_267, ↓s_48_270, ↓s_48_273, kd_uF, ln_uF, ai_uF, al_uF, ar_uF, zs_uF, fd_uF, kd_uA, ln_uA, fd_uA, al_uA, ar_uA, zs_uA, ai_uA, kd_uL, ln_uL, fd_uL, ai_uL, ar_uL, zs_uL, al_uL, kd_uR, ln_uR, fd_uR, ai_uR, al_uR, zs_uR, ar_uR, true_and, and_true, Option.toList_some, Option.toList_none, List.cons_append, List.nil_append, catS_nil, catS_int, catS_ref, catS_null, catS_long, cat_int, cat_ref, cat_null, Nat.reduceEqDiff, Nat.reduceLeDiff, Nat.reduceAdd, false_and, and_false, if_false, if_true, ite_true, ite_false, true_or, or_true, false_or, or_false, and_self, forall_const, true_implies, reduceCtorEq, clr_int, clr_ref, clr_null, clr_none, clr_long, va_rf_some, va_rf_none, rk5]
          rw [or2, nI_1]
          have k5 : ∀ g, g ≠ 258 → g ≠ 267 → g ≠ 268 → fd w5 g (x + 11) = fd w4 g (x + 11) := fun g a b c => by rw [c3.2 g a b c, fd_uF, if_neg (fun z => a z.1)]
          refine ih w3 (uF w5 266 (x + 11) (.int (nI (s ||| v)))) q' (i + 1) (s ||| v) (orO o (eV T e t dot (bE T e q))) _ hb hK (by omega) (by omega) ?_ hqb.2 ?_ ?_ ?_ (or12 hs c6) ?_ ?_ ?_ ?_ (((f4.F (by omega) (by omega)).tr c3.1).F (by omega) (by omega)) e1 e2
          · exact c2.V (by decide)
          · simp only [fd_uF, eq_self, and_self, true_and, false_and, if_true, if_false, ite_true, ite_false, Nat.reduceEqDiff, c4]
          · simp only [fd_uF, eq_self, and_self, true_and, false_and, if_true, if_false, ite_true, ite_false, Nat.reduceEqDiff, c5]
            congr 2
            cases o <;> cases (eV T e t dot (bE T e q)) <;> rfl
          · simp only [fd_uF, eq_self, and_self, true_and, false_and, if_true, if_false, ite_true, ite_false, Nat.reduceEqDiff]
          · intro y hy
            obtain ⟨a, b, h1, h2, h3⟩ := orO_some (v := none) (y := 0) hy
            rw [h3, ho a h1, c7 b h2]
          · simp only [fd_uF, eq_self, and_self, true_and, false_and, if_true, if_false, ite_true, ite_false, Nat.reduceEqDiff]; rw [k5 _ (by decide) (by decide) (by decide)]; exact ky
          · simp only [fd_uF, eq_self, and_self, true_and, false_and, if_true, if_false, ite_true, ite_false, Nat.reduceEqDiff]; rw [k5 _ (by decide) (by decide) (by decide)]; exact op
          · simp only [fd_uF, eq_self, and_self, true_and, false_and, if_true, if_false, ite_true, ite_false, Nat.reduceEqDiff]; rw [k5 _ (by decide) (by decide) (by decide)]; exact kd4
        · rw [c1] at e1
          have rk5 := c2.1.1
          simp only [↓s_48_266, ↓s_48_267, ↓s_48_270, ↓s_48_273, kd_uF, ln_uF, ai_uF, al_uF, ar_uF, zs_uF, fd_uF, kd_uA, ln_uA, fd_uA, al_uA, ar_uA, zs_uA, ai_uA, kd_uL, ln_uL, fd_uL, ai_uL, ar_uL, zs_uL, al_uL, kd_uR, ln_uR, fd_uR, ai_uR, al_uR, zs_uR, ar_uR, true_and, and_true, Option.toList_some, Option.toList_none, List.cons_append, List.nil_append, catS_nil, catS_int, catS_ref, catS_null, catS_long, cat_int, cat_ref, cat_null, Nat.reduceEqDiff, Nat.reduceLeDiff, Nat.reduceAdd, false_and, and_false, if_false, if_true, ite_true, ite_false, true_or, or_true, false_or, or_false, and_self, forall_const, true_implies, reduceCtorEq, clr_int, clr_ref, clr_null, clr_none, clr_long, va_rf_some, va_rf_none, rk5]
          refine brk242 (uF w5 266 (x + 11) (.int (nI s ||| v))) q' _ _ e1.symm (c2.V (by decide)).1 (c2.V (by decide)).2.2.2 c3 ?_ (((f4.F (by omega) (by omega)).tr c4.1).F (by omega) (by omega))
          simp only [fd_uF, eq_self, and_self, true_and, false_and, if_true, if_false, ite_true, ite_false, Nat.reduceEqDiff, c5]
      · have fin : wp (d + 4) 48 Q 276 [some (.ref (x + 11)), some (.int (nI dot)), A1, some (.int (nI i))] [] w4 0 0 := by
          by_cases c2 : e ≤ bE T e q
          · rw [if_pos (Or.inr c2)] at e1
            have e1' : true = right T e p := by
              rw [← e1]
              show true = if e ≤ bE T e q then true else _
              rw [if_pos c2]
            have e2' : o = vAt T e t dot p := by
              rw [← e2]
              show o = if e ≤ bE T e q then o else _
              rw [if_pos c2]
            refine j276 w4 q false A1 _ hq4.1 hq4.2.2.2 hq b4 f4 (fun w' g1 g2 => ⟨?_, fun z => ⟨?_, ?_, ⟨s, hs, ?_, ?_⟩, ?_, fun z3 => (by rw [hK] at z3; cases z3), fun zN => ?_⟩⟩)
            · rw [g2, ← e1', decide_eq_false (by omega)]; rfl
            · rw [g1 _ (by decide), hK]; exact kd4
            · rw [g1 _ (by decide), u4, e2']
            · rw [g1 _ (by decide)]; exact v4
            · rw [← e2']; exact ho
            · intro i hi; rw [g1 _ (by decide), op]; exact hb.2.2.2.2.2.2.2.1 i hi
            · rw [g1 _ (by decide), ky, hb.2.2.2.2.2.2.1]; unfold nmK; rw [if_pos zN]
          · rw [if_neg (by omega)] at e1
            refine j276 w4 q false A1 _ hq4.1 hq4.2.2.2 hq b4 f4 (fun w' g1 g2 => ⟨?_, fun z => by rw [← e1] at z; cases z⟩)
            rw [g2, ← e1, decide_eq_true (by omega)]; rfl
        rw [s_48_242]
        simp only [↓s_48_243, ↓s_48_244, ↓s_48_247, ↓s_48_250, ↓s_48_251, kd_uF, ln_uF, ai_uF, al_uF, ar_uF, zs_uF, fd_uF, kd_uA, ln_uA, fd_uA, al_uA, ar_uA, zs_uA, ai_uA, kd_uL, ln_uL, fd_uL, ai_uL, ar_uL, zs_uL, al_uL, kd_uR, ln_uR, fd_uR, ai_uR, al_uR, zs_uR, ar_uR, true_and, and_true, Option.toList_some, Option.toList_none, List.cons_append, List.nil_append, catS_nil, catS_int, catS_ref, catS_null, catS_long, cat_int, cat_ref, cat_null, Nat.reduceEqDiff, Nat.reduceLeDiff, Nat.reduceAdd, false_and, and_false, if_false, if_true, ite_true, ite_false, true_or, or_true, false_or, or_false, and_self, forall_const, true_implies, reduceCtorEq, clr_int, clr_ref, clr_null, clr_none, clr_long, va_rf_some, va_rf_none, rk4, en4]
        refine ⟨fun _ => fin, fun _ => sp_c_more (B := false) hq4.1 hq4.2.2.2 hq b4 (fun _ z1 z2 => absurd ⟨z1, z2⟩ c) (fun _ => ?_)⟩
        simp only [↓s_48_254, kd_uF, ln_uF, ai_uF, al_uF, ar_uF, zs_uF, fd_uF, kd_uA, ln_uA, fd_uA, al_uA, ar_uA, zs_uA, ai_uA, kd_uL, ln_uL, fd_uL, ai_uL, ar_uL, zs_uL, al_uL, kd_uR, ln_uR, fd_uR, ai_uR, al_uR, zs_uR, ar_uR, true_and, and_true, Option.toList_some, Option.toList_none, List.cons_append, List.nil_append, catS_nil, catS_int, catS_ref, catS_null, catS_long, cat_int, cat_ref, cat_null, Nat.reduceEqDiff, Nat.reduceLeDiff, Nat.reduceAdd, false_and, and_false, if_false, if_true, ite_true, ite_false, true_or, or_true, false_or, or_false, and_self, forall_const, true_implies, reduceCtorEq, clr_int, clr_ref, clr_null, clr_none, clr_long, va_rf_some, va_rf_none]
        exact ⟨fin, fun z => absurd trivial z⟩
  have j224 : ∀ (w3 : aw) (A1 A2 : Option Value), BQ w w3 x T n e t dot p → ¬ e ≤ p → knd T e p = 4 → wp (d + 4) 48 Q 224 [some (.ref (x + 11)), some (.int (nI dot)), A1, A2] [] w3 0 0 := by
    intro w3 A1 A2 hb hpe hK
    have hb0 := hb
    obtain ⟨hq, b3, u3, v3, i3, l3, y3, o3, f3⟩ := hb
    have rk3 := hq.1.1
    have hk1 : e - p = (e - p - 1) + 1 := by omega
    have r1 : right T e p = match eS T e p with | none => false | some q => if q < bE T e q ∨ e ≤ bE T e q then rS T e (e - p - 1) (bE T e q) else false := by
      unfold right
      rw [hK]
      show rS T e (e - p) p = _
      rw [hk1]
      show (if e ≤ p then true else _) = _
      rw [if_neg hpe]
      rfl
    have r2 : vAt T e t dot p = match eS T e p with | none => none | some q => rV T e t dot (e - p - 1) (bE T e q) (orO (some 0) (eV T e t dot p)) := by
      unfold vAt
      rw [hK]
      show rV T e t dot (e - p) p (some 0) = _
      rw [hk1]
      show (if e ≤ p then some 0 else _) = _
      rw [if_neg hpe]
      rfl
    have hq4 : CQ (uF w3 261 (x + 11) (.int 4)) x T n e t dot p := hq.V (by decide)
    simp only [↓s_48_224, ↓s_48_225, ↓s_48_226, ↓s_48_229, ↓s_48_230, ↓s_48_231, kd_uF, ln_uF, ai_uF, al_uF, ar_uF, zs_uF, fd_uF, kd_uA, ln_uA, fd_uA, al_uA, ar_uA, zs_uA, ai_uA, kd_uL, ln_uL, fd_uL, ai_uL, ar_uL, zs_uL, al_uL, kd_uR, ln_uR, fd_uR, ai_uR, al_uR, zs_uR, ar_uR, true_and, and_true, Option.toList_some, Option.toList_none, List.cons_append, List.nil_append, catS_nil, catS_int, catS_ref, catS_null, catS_long, cat_int, cat_ref, cat_null, Nat.reduceEqDiff, Nat.reduceLeDiff, Nat.reduceAdd, false_and, and_false, if_false, if_true, ite_true, ite_false, true_or, or_true, false_or, or_false, and_self, forall_const, true_implies, reduceCtorEq, clr_int, clr_ref, clr_null, clr_none, clr_long, va_rf_some, va_rf_none, rk3]
    refine sp_c_expr hq4 hN hd hp (by simp only [fd_uF, eq_self, and_self, true_and, false_and, if_true, if_false, ite_true, ite_false, Nat.reduceEqDiff, b3]) (by simp only [fd_uF, eq_self, and_self, true_and, false_and, if_true, if_false, ite_true, ite_false, Nat.reduceEqDiff]; exact u3) (fun q w5 v c1 c2 c3 c4 c5 c6 c7 => ?_) (fun c1 w5 q v c2 c3 c4 c5 => ?_)
    · have hqb := eS_b c1
      have rk5 := c2.1.1
      rw [c1] at r1 r2
      have k5 : ∀ g, g ≠ 258 → g ≠ 267 → g ≠ 268 → g ≠ 261 → fd w5 g (x + 11) = fd w3 g (x + 11) := fun g a b c d => by rw [c3.2 g a b c, fd_uF, if_neg (fun z => d z.1)]
      simp only [↓s_48_234, ↓s_48_237, ↓s_48_238, ↓s_48_241, kd_uF, ln_uF, ai_uF, al_uF, ar_uF, zs_uF, fd_uF, kd_uA, ln_uA, fd_uA, al_uA, ar_uA, zs_uA, ai_uA, kd_uL, ln_uL, fd_uL, ai_uL, ar_uL, zs_uL, al_uL, kd_uR, ln_uR, fd_uR, ai_uR, al_uR, zs_uR, ar_uR, true_and, and_true, Option.toList_some, Option.toList_none, List.cons_append, List.nil_append, catS_nil, catS_int, catS_ref, catS_null, catS_long, cat_int, cat_ref, cat_null, Nat.reduceEqDiff, Nat.reduceLeDiff, Nat.reduceAdd, false_and, and_false, if_false, if_true, ite_true, ite_false, true_or, or_true, false_or, or_false, and_self, forall_const, true_implies, reduceCtorEq, clr_int, clr_ref, clr_null, clr_none, clr_long, va_rf_some, va_rf_none, rk5, c2.2.2.2]
      refine row (e - p - 1) w3 (uF w5 266 (x + 11) (.int (nI v))) q q v (orO (some 0) (eV T e t dot p)) _ hb0 hK (by omega) (Nat.le_refl _) (c2.V (by decide)) hqb.2 ?_ ?_ ?_ c6 ?_ ?_ ?_ ?_ (((f3.F (by omega) (by omega)).tr c3.1).F (by omega) (by omega)) r1.symm r2.symm
      · simp only [fd_uF, eq_self, and_self, true_and, false_and, if_true, if_false, ite_true, ite_false, Nat.reduceEqDiff, c4]
      · simp only [fd_uF, eq_self, and_self, true_and, false_and, if_true, if_false, ite_true, ite_false, Nat.reduceEqDiff, c5]
        congr 2
        cases (eV T e t dot p) <;> rfl
      · simp only [fd_uF, eq_self, and_self, true_and, false_and, if_true, if_false, ite_true, ite_false, Nat.reduceEqDiff]
      · intro y hy
        obtain ⟨a, b, h1, h2, h3⟩ := orO_some (v := none) (y := 0) hy
        have h1' : 0 = a := Option.some.inj h1
        rw [h3, ← h1', Nat.zero_or, c7 b h2]
      · simp only [fd_uF, eq_self, and_self, true_and, false_and, if_true, if_false, ite_true, ite_false, Nat.reduceEqDiff]; exact k5 _ (by decide) (by decide) (by decide) (by decide)
      · simp only [fd_uF, eq_self, and_self, true_and, false_and, if_true, if_false, ite_true, ite_false, Nat.reduceEqDiff]; exact k5 _ (by decide) (by decide) (by decide) (by decide)
      · simp only [fd_uF, eq_self, and_self, true_and, false_and, if_true, if_false, ite_true, ite_false, Nat.reduceEqDiff]
        rw [c3.2 _ (by decide) (by decide) (by decide)]
        simp only [fd_uF, eq_self, and_self, true_and, false_and, if_true, if_false, ite_true, ite_false, Nat.reduceEqDiff]
        rfl
    · rw [c1] at r1
      have rk5 := c2.1.1
      simp only [↓s_48_234, ↓s_48_237, ↓s_48_238, ↓s_48_241, kd_uF, ln_uF, ai_uF, al_uF, ar_uF, zs_uF, fd_uF, kd_uA, ln_uA, fd_uA, al_uA, ar_uA, zs_uA, ai_uA, kd_uL, ln_uL, fd_uL, ai_uL, ar_uL, zs_uL, al_uL, kd_uR, ln_uR, fd_uR, ai_uR, al_uR, zs_uR, ar_uR, true_and, and_true, Option.toList_some, Option.toList_none, List.cons_append, List.nil_append, catS_nil, catS_int, catS_ref, catS_null, catS_long, cat_int, cat_ref, cat_null, Nat.reduceEqDiff, Nat.reduceLeDiff, Nat.reduceAdd, false_and, and_false, if_false, if_true, ite_true, ite_false, true_or, or_true, false_or, or_false, and_self, forall_const, true_implies, reduceCtorEq, clr_int, clr_ref, clr_null, clr_none, clr_long, va_rf_some, va_rf_none, rk5, c2.2.2.2]
      refine brk242 (uF w5 266 (x + 11) (.int v)) q _ _ r1 (c2.V (by decide)).1 (c2.V (by decide)).2.2.2 c3 ?_ (((f3.F (by omega) (by omega)).tr c4.1).F (by omega) (by omega))
      simp only [fd_uF, eq_self, and_self, true_and, false_and, if_true, if_false, ite_true, ite_false, Nat.reduceEqDiff, c5]
  have j175 : ∀ (w3 : aw) (op : Int32) (A2 : Option Value), BQ w w3 x T n e t dot p → fd w3 263 (x + 11) = .int op → (mwA T e p = none → op < 0 ∨ nI 6 ≤ op) → (∀ i, mwA T e p = some i → op = nI i ∧ i < 6) → ¬ e ≤ p → ¬ lk T e p = 42 → isTe T e p = false → wp (d + 4) 48 Q 175 [some (.ref (x + 11)), some (.int (nI dot)), some (.int (nI (wE T e p))), A2] [] w3 0 0 := by
    intro w3 op A2 hb ho3 hno hyes hpe h42 hte
    have hb0 := hb
    obtain ⟨hq, b3, u3, v3, i3, l3, y3, o3, f3⟩ := hb
    have rk3 := hq.1.1
    simp only [↓s_48_175, ↓s_48_176, ↓s_48_179, ↓s_48_182, ↓s_48_183, ↓s_48_186, ↓s_48_188, ↓s_48_191, ↓s_48_192, ↓s_48_193, ↓s_48_196, ↓s_48_197, ↓s_48_198, ↓s_48_199, kd_uF, ln_uF, ai_uF, al_uF, ar_uF, zs_uF, fd_uF, kd_uA, ln_uA, fd_uA, al_uA, ar_uA, zs_uA, ai_uA, kd_uL, ln_uL, fd_uL, ai_uL, ar_uL, zs_uL, al_uL, kd_uR, ln_uR, fd_uR, ai_uR, al_uR, zs_uR, ar_uR, true_and, and_true, Option.toList_some, Option.toList_none, List.cons_append, List.nil_append, catS_nil, catS_int, catS_ref, catS_null, catS_long, cat_int, cat_ref, cat_null, Nat.reduceEqDiff, Nat.reduceLeDiff, Nat.reduceAdd, false_and, and_false, if_false, if_true, ite_true, ite_false, true_or, or_true, false_or, or_false, and_self, forall_const, true_implies, reduceCtorEq, clr_int, clr_ref, clr_null, clr_none, clr_long, va_rf_some, va_rf_none, rk3, ho3]
    cases em : mwA T e p with
    | none =>
      have hK := knd_4 hpe h42 hte em
      refine ⟨fun _ => j224 w3 _ _ hb0 hpe hK, fun q => ⟨fun _ => j224 w3 _ _ hb0 hpe hK, fun q2 => ?_⟩⟩
      rcases hno em with z | z
      · exact absurd z q
      · exact absurd z q2
    | some i =>
      have hK := knd_3 hpe h42 hte em
      obtain ⟨hop, hi6⟩ := hyes i em
      subst hop
      refine ⟨fun q => absurd q (nI_pos (by omega)), fun _ => ⟨fun q => absurd q (nI_ge (b := 6) hi6 (by decide)), fun _ => ?_⟩⟩
      have hq4 : CQ (uF w3 261 (x + 11) (.int 3)) x T n e t dot p := hq.V (by decide)
      refine sp_c_blanks hq4.1 (by omega) ?_
      simp only [↓s_48_202, ↓s_48_205, ↓s_48_206, kd_uF, ln_uF, ai_uF, al_uF, ar_uF, zs_uF, fd_uF, kd_uA, ln_uA, fd_uA, al_uA, ar_uA, zs_uA, ai_uA, kd_uL, ln_uL, fd_uL, ai_uL, ar_uL, zs_uL, al_uL, kd_uR, ln_uR, fd_uR, ai_uR, al_uR, zs_uR, ar_uR, true_and, and_true, Option.toList_some, Option.toList_none, List.cons_append, List.nil_append, catS_nil, catS_int, catS_ref, catS_null, catS_long, cat_int, cat_ref, cat_null, Nat.reduceEqDiff, Nat.reduceLeDiff, Nat.reduceAdd, false_and, and_false, if_false, if_true, ite_true, ite_false, true_or, or_true, false_or, or_false, and_self, forall_const, true_implies, reduceCtorEq, clr_int, clr_ref, clr_null, clr_none, clr_long, va_rf_some, va_rf_none, rk3]
      have hm1 : m1 T e p ≤ e := bE_le hwl
      have hS5 : SR (uF (uF w3 261 (x + 11) (.int 3)) 258 (x + 11) (.int (nI (bE T e (wE T e p))))) x T n e := hq4.1.F (by decide) (by decide) (by decide)
      refine sp_c_ahead hS5 (p := m1 T e p) (by simp only [fd_uF, eq_self, and_self, true_and, false_and, if_true, if_false, ite_true, ite_false, Nat.reduceEqDiff]; rfl) hm1 (by simp only [fd_uF, eq_self, and_self, true_and, false_and, if_true, if_false, ite_true, ite_false, Nat.reduceEqDiff, i3]) (by simp only [fd_uF, eq_self, and_self, true_and, false_and, if_true, if_false, ite_true, ite_false, Nat.reduceEqDiff, l3]) (fun w6 g1 g2 g3 g4 g5 g6 => ?_)
      have rk6 := g1.1
      have em3 : mBB T e (m1 T e p) = m3 T e p := by unfold mBB m3 isLi m2 mAA; rfl
      have eli : (lk T e (mAA T e (m1 T e p)) == 40) = isLi T e p := by unfold isLi m2 mAA; rfl
      rw [em3] at g2
      rw [eli] at g4
      have hm3 : m3 T e p ≤ e := by rw [← em3]; exact mBB_b hm1
      have k6 : ∀ g, g ≠ 258 → g ≠ 264 → g ≠ 265 → g ≠ 261 → fd w6 g (x + 11) = fd w3 g (x + 11) := fun g a b c d => by rw [g6 g a b c, fd_uF, if_neg (fun z => a z.1), fd_uF, if_neg (fun z => d z.1)]
      have f6 : Fr w w6 (x + 11) (x + 12) := ((f3.F (by omega) (by omega)).F (by omega) (by omega)).tr g5
      have C6 : CQ w6 x T n e t dot (m3 T e p) := ⟨g1, hC.Fr f6 (Or.inl (by omega)), by rw [k6 _ (by decide) (by decide) (by decide) (by decide)]; exact hq.2.2.1, g2⟩
      simp only [↓s_48_209, ↓s_48_210, ↓s_48_211, kd_uF, ln_uF, ai_uF, al_uF, ar_uF, zs_uF, fd_uF, kd_uA, ln_uA, fd_uA, al_uA, ar_uA, zs_uA, ai_uA, kd_uL, ln_uL, fd_uL, ai_uL, ar_uL, zs_uL, al_uL, kd_uR, ln_uR, fd_uR, ai_uR, al_uR, zs_uR, ar_uR, true_and, and_true, Option.toList_some, Option.toList_none, List.cons_append, List.nil_append, catS_nil, catS_int, catS_ref, catS_null, catS_long, cat_int, cat_ref, cat_null, Nat.reduceEqDiff, Nat.reduceLeDiff, Nat.reduceAdd, false_and, and_false, if_false, if_true, ite_true, ite_false, true_or, or_true, false_or, or_false, and_self, forall_const, true_implies, reduceCtorEq, clr_int, clr_ref, clr_null, clr_none, clr_long, va_rf_some, va_rf_none, rk6]
      have hv : vAt T e t dot p = eV T e t dot (m3 T e p) := by unfold vAt; rw [hK]; rfl
      refine sp_c_expr C6 hN hd hm3 ((k6 _ (by decide) (by decide) (by decide) (by decide)).trans b3) ((k6 _ (by decide) (by decide) (by decide) (by decide)).trans u3) (fun q w7 v c1 c2 c3 c4 c5 c6 c7 => ?_) (fun c1 w7 q v c2 c3 c4 c5 => ?_)
      · have rk7 := c2.1.1
        have hqb := eS_b c1
        simp only [↓s_48_214, ↓s_48_217, ↓s_48_218, kd_uF, ln_uF, ai_uF, al_uF, ar_uF, zs_uF, fd_uF, kd_uA, ln_uA, fd_uA, al_uA, ar_uA, zs_uA, ai_uA, kd_uL, ln_uL, fd_uL, ai_uL, ar_uL, zs_uL, al_uL, kd_uR, ln_uR, fd_uR, ai_uR, al_uR, zs_uR, ar_uR, true_and, and_true, Option.toList_some, Option.toList_none, List.cons_append, List.nil_append, catS_nil, catS_int, catS_ref, catS_null, catS_long, cat_int, cat_ref, cat_null, Nat.reduceEqDiff, Nat.reduceLeDiff, Nat.reduceAdd, false_and, and_false, if_false, if_true, ite_true, ite_false, true_or, or_true, false_or, or_false, and_self, forall_const, true_implies, reduceCtorEq, clr_int, clr_ref, clr_null, clr_none, clr_long, va_rf_some, va_rf_none, rk7]
        have C7 : CQ (uF w7 266 (x + 11) (.int (nI v))) x T n e t dot q := c2.V (by decide)
        have l7 : fd (uF w7 266 (x + 11) (.int (nI v))) 265 (x + 11) = .int (bI (isLi T e p)) := by simp only [fd_uF, eq_self, and_self, true_and, false_and, if_true, if_false, ite_true, ite_false, Nat.reduceEqDiff]; rw [c3.2 _ (by decide) (by decide) (by decide)]; exact g4
        refine sp_c_behind (L := isLi T e p) C7.1 C7.2.2.2 hqb.2 l7 (fun w8 q8 hq8 z1 z2 z3 z4 z5 => ?_)
        simp only [↓s_48_221, kd_uF, ln_uF, ai_uF, al_uF, ar_uF, zs_uF, fd_uF, kd_uA, ln_uA, fd_uA, al_uA, ar_uA, zs_uA, ai_uA, kd_uL, ln_uL, fd_uL, ai_uL, ar_uL, zs_uL, al_uL, kd_uR, ln_uR, fd_uR, ai_uR, al_uR, zs_uR, ar_uR, true_and, and_true, Option.toList_some, Option.toList_none, List.cons_append, List.nil_append, catS_nil, catS_int, catS_ref, catS_null, catS_long, cat_int, cat_ref, cat_null, Nat.reduceEqDiff, Nat.reduceLeDiff, Nat.reduceAdd, false_and, and_false, if_false, if_true, ite_true, ite_false, true_or, or_true, false_or, or_false, and_self, forall_const, true_implies, reduceCtorEq, clr_int, clr_ref, clr_null, clr_none, clr_long, va_rf_some, va_rf_none]
        have k8 : ∀ g, g ≠ 258 → g ≠ 267 → g ≠ 268 → g ≠ 266 → fd w8 g (x + 11) = fd w6 g (x + 11) := fun g a b c d => by rw [z5 g a, fd_uF, if_neg (fun z => d z.1)]; exact c3.2 g a b c
        have hr : right T e p = decide (e ≤ bE T e q8) := by
          unfold right
          rw [hK]
          show (if isLi T e p = true then lOK T e (eS T e (m3 T e p)) else eOK T e (eS T e (m3 T e p))) = _
          rw [c1]
          cases cl : isLi T e p with
          | false =>
            rw [cl] at hq8
            rw [if_neg (fun z => by cases z.1)] at hq8
            rw [hq8]; rfl
          | true =>
            rw [cl] at hq8
            show decide (e ≤ bE T e (cPar T e q)) = _
            unfold cPar
            by_cases c41 : lk T e (bE T e q) = 41
            · rw [if_pos c41]
              rw [if_pos ⟨rfl, c41⟩] at hq8
              rw [hq8]
            · rw [if_neg c41]
              rw [if_neg (fun z => c41 z.2)] at hq8
              rw [hq8, bE_idem]
        refine j276 w8 q8 false _ _ z1 z2 z3 (by rw [z5 _ (by decide)]; simp only [fd_uF, eq_self, and_self, true_and, false_and, if_true, if_false, ite_true, ite_false, Nat.reduceEqDiff]; exact c4) ((((f6.tr c3.1).F (by omega) (by omega))).tr z4) (fun w' y1 y2 => ⟨?_, fun _ => ⟨?_, ?_, ⟨v, c6, ?_, ?_⟩, ?_, fun _ => ⟨?_, ?_⟩, fun zN => ?_⟩⟩)
        · rw [y2, hr, Bool.false_or, dec_not]
        · rw [y1 _ (by decide), k8 _ (by decide) (by decide) (by decide) (by decide), g6 _ (by decide) (by decide) (by decide), hK]; simp only [fd_uF, eq_self, and_self, true_and, false_and, if_true, if_false, ite_true, ite_false, Nat.reduceEqDiff]; rfl
        · rw [y1 _ (by decide), z5 _ (by decide)]; simp only [fd_uF, eq_self, and_self, true_and, false_and, if_true, if_false, ite_true, ite_false, Nat.reduceEqDiff]; rw [c5, hv, Bool.false_or]
        · rw [y1 _ (by decide), z5 _ (by decide)]; simp only [fd_uF, eq_self, and_self, true_and, false_and, if_true, if_false, ite_true, ite_false, Nat.reduceEqDiff]
        · rw [hv]; exact c7
        · intro i hi; rw [y1 _ (by decide), k8 _ (by decide) (by decide) (by decide) (by decide), k6 _ (by decide) (by decide) (by decide) (by decide)]; exact o3 i hi
        · rw [y1 _ (by decide), k8 _ (by decide) (by decide) (by decide) (by decide)]; exact g3
        · rw [y1 _ (by decide), k8 _ (by decide) (by decide) (by decide) (by decide)]; exact g4
        · rw [y1 _ (by decide), k8 _ (by decide) (by decide) (by decide) (by decide), k6 _ (by decide) (by decide) (by decide) (by decide), y3]; unfold nmK; rw [if_pos zN]
      · have rk7 := c2.1.1
        have hr : right T e p = false := by
          unfold right
          rw [hK]
          show (if isLi T e p = true then lOK T e (eS T e (m3 T e p)) else eOK T e (eS T e (m3 T e p))) = _
          rw [c1]
          split <;> rfl
        simp only [↓s_48_214, ↓s_48_217, ↓s_48_218, kd_uF, ln_uF, ai_uF, al_uF, ar_uF, zs_uF, fd_uF, kd_uA, ln_uA, fd_uA, al_uA, ar_uA, zs_uA, ai_uA, kd_uL, ln_uL, fd_uL, ai_uL, ar_uL, zs_uL, al_uL, kd_uR, ln_uR, fd_uR, ai_uR, al_uR, zs_uR, ar_uR, true_and, and_true, Option.toList_some, Option.toList_none, List.cons_append, List.nil_append, catS_nil, catS_int, catS_ref, catS_null, catS_long, cat_int, cat_ref, cat_null, Nat.reduceEqDiff, Nat.reduceLeDiff, Nat.reduceAdd, false_and, and_false, if_false, if_true, ite_true, ite_false, true_or, or_true, false_or, or_false, and_self, forall_const, true_implies, reduceCtorEq, clr_int, clr_ref, clr_null, clr_none, clr_long, va_rf_some, va_rf_none, rk7]
        have C7 : CQ (uF w7 266 (x + 11) (.int v)) x T n e t dot q := c2.V (by decide)
        have l7 : fd (uF w7 266 (x + 11) (.int v)) 265 (x + 11) = .int (bI (isLi T e p)) := by simp only [fd_uF, eq_self, and_self, true_and, false_and, if_true, if_false, ite_true, ite_false, Nat.reduceEqDiff]; rw [c4.2 _ (by decide) (by decide) (by decide)]; exact g4
        refine sp_c_behind (L := isLi T e p) C7.1 C7.2.2.2 c3 l7 (fun w8 q8 hq8 z1 z2 z3 z4 z5 => ?_)
        simp only [↓s_48_221, kd_uF, ln_uF, ai_uF, al_uF, ar_uF, zs_uF, fd_uF, kd_uA, ln_uA, fd_uA, al_uA, ar_uA, zs_uA, ai_uA, kd_uL, ln_uL, fd_uL, ai_uL, ar_uL, zs_uL, al_uL, kd_uR, ln_uR, fd_uR, ai_uR, al_uR, zs_uR, ar_uR, true_and, and_true, Option.toList_some, Option.toList_none, List.cons_append, List.nil_append, catS_nil, catS_int, catS_ref, catS_null, catS_long, cat_int, cat_ref, cat_null, Nat.reduceEqDiff, Nat.reduceLeDiff, Nat.reduceAdd, false_and, and_false, if_false, if_true, ite_true, ite_false, true_or, or_true, false_or, or_false, and_self, forall_const, true_implies, reduceCtorEq, clr_int, clr_ref, clr_null, clr_none, clr_long, va_rf_some, va_rf_none]
        exact brk w8 q8 _ _ hr z1 z2 z3 (by rw [z5 _ (by decide)]; simp only [fd_uF, eq_self, and_self, true_and, false_and, if_true, if_false, ite_true, ite_false, Nat.reduceEqDiff]; exact c5) ((((f6.tr c4.1).F (by omega) (by omega))).tr z4)
  have main : ∀ (w3 : aw) (op : Int32), BQ w w3 x T n e t dot p → fd w3 263 (x + 11) = .int op → (mwA T e p = none → op < 0 ∨ nI 6 ≤ op) → (∀ i, mwA T e p = some i → op = nI i ∧ i < 6) → wp (d + 4) 48 Q 67 [some (.ref (x + 11)), some (.int (nI dot)), some (.int (nI (wE T e p))), none] [] w3 0 0 := by
    intro w3 op hb ho3 hno hyes
    have hb0 := hb
    obtain ⟨hq, b3, u3, v3, i3, l3, y3, o3, f3⟩ := hb
    have rk3 := hq.1.1
    have at3 := hq.2.2.2
    have en3 := hq.1.2.2.2.2.2.2.2.2.2.1
    simp only [↓s_48_67, ↓s_48_68, ↓s_48_71, ↓s_48_72, ↓s_48_75, ↓s_48_78, ↓s_48_79, ↓s_48_80, ↓s_48_83, ↓s_48_86, ↓s_48_87, ↓s_48_88, ↓s_48_91, kd_uF, ln_uF, ai_uF, al_uF, ar_uF, zs_uF, fd_uF, kd_uA, ln_uA, fd_uA, al_uA, ar_uA, zs_uA, ai_uA, kd_uL, ln_uL, fd_uL, ai_uL, ar_uL, zs_uL, al_uL, kd_uR, ln_uR, fd_uR, ai_uR, al_uR, zs_uR, ar_uR, true_and, and_true, Option.toList_some, Option.toList_none, List.cons_append, List.nil_append, catS_nil, catS_int, catS_ref, catS_null, catS_long, cat_int, cat_ref, cat_null, Nat.reduceEqDiff, Nat.reduceLeDiff, Nat.reduceAdd, false_and, and_false, if_false, if_true, ite_true, ite_false, true_or, or_true, false_or, or_false, and_self, forall_const, true_implies, reduceCtorEq, clr_int, clr_ref, clr_null, clr_none, clr_long, va_rf_some, va_rf_none, rk3, at3, en3]
    rw [nI_ltI (by omega) (by omega)]
    refine ⟨fun hlt => sp_c_look hq.1 (by omega) ?_, fun hge => ?_⟩
    · have hpe : ¬ e ≤ p := by omega
      simp only [↓s_48_94, ↓s_48_96, ↓s_48_99, ↓s_48_100, ↓s_48_101, ↓s_48_104, ↓s_48_105, ↓s_48_106, ↓s_48_107, ↓s_48_110, ↓s_48_111, ↓s_48_112, ↓s_48_129, ↓s_48_130, ↓s_48_133, ↓s_48_134, ↓s_48_135, ↓s_48_138, ↓s_48_139, ↓s_48_140, kd_uF, ln_uF, ai_uF, al_uF, ar_uF, zs_uF, fd_uF, kd_uA, ln_uA, fd_uA, al_uA, ar_uA, zs_uA, ai_uA, kd_uL, ln_uL, fd_uL, ai_uL, ar_uL, zs_uL, al_uL, kd_uR, ln_uR, fd_uR, ai_uR, al_uR, zs_uR, ar_uR, true_and, and_true, Option.toList_some, Option.toList_none, List.cons_append, List.nil_append, catS_nil, catS_int, catS_ref, catS_null, catS_long, cat_int, cat_ref, cat_null, Nat.reduceEqDiff, Nat.reduceLeDiff, Nat.reduceAdd, false_and, and_false, if_false, if_true, ite_true, ite_false, true_or, or_true, false_or, or_false, and_self, forall_const, true_implies, reduceCtorEq, clr_int, clr_ref, clr_null, clr_none, clr_long, va_rf_some, va_rf_none, rk3, at3, y3, lg_cmp_eq]
      rw [show (42 : Int32) = nI 42 from rfl, lkI_eq hT (by decide) (by decide), key_0, nI_1]
      refine ⟨fun h42 => ⟨fun hn => ?_, fun hn => sp_c_look hq.1 (by omega) ?_⟩, fun h42 => ?_⟩
      · exact j175 w3 op _ hb0 ho3 hno hyes hpe h42 (by unfold isTe; rw [hn]; rfl)
      · have hn' : isN T e p = true := by simpa using hn
        simp only [↓s_48_143, ↓s_48_145, ↓s_48_148, ↓s_48_149, ↓s_48_150, ↓s_48_153, ↓s_48_154, ↓s_48_155, ↓s_48_156, ↓s_48_157, ↓s_48_158, kd_uF, ln_uF, ai_uF, al_uF, ar_uF, zs_uF, fd_uF, kd_uA, ln_uA, fd_uA, al_uA, ar_uA, zs_uA, ai_uA, kd_uL, ln_uL, fd_uL, ai_uL, ar_uL, zs_uL, al_uL, kd_uR, ln_uR, fd_uR, ai_uR, al_uR, zs_uR, ar_uR, true_and, and_true, Option.toList_some, Option.toList_none, List.cons_append, List.nil_append, catS_nil, catS_int, catS_ref, catS_null, catS_long, cat_int, cat_ref, cat_null, Nat.reduceEqDiff, Nat.reduceLeDiff, Nat.reduceAdd, false_and, and_false, if_false, if_true, ite_true, ite_false, true_or, or_true, false_or, or_false, and_self, forall_const, true_implies, reduceCtorEq, clr_int, clr_ref, clr_null, clr_none, clr_long, va_rf_some, va_rf_none, rk3]
        rw [show (61 : Int32) = nI 61 from rfl, lkI_eq hT (by decide) (by decide), nI_1]
        refine ⟨fun h61 => j175 w3 op _ hb0 ho3 hno hyes hpe h42 ?_, fun h61 => ?_⟩
        · cases c : isTe T e p with
          | false => rfl
          | true => exact absurd (isTe_iff.mp c).2 h61
        · have hte : isTe T e p = true := isTe_iff.mpr ⟨hn', h61⟩
          have hz := isTe_pos hte
          have hK := knd_2 hpe h42 hte
          have hq4 : CQ (uF w3 261 (x + 11) (.int 2)) x T n e t dot p := hq.V (by decide)
          have hp' : bE T e (wE T e p + 1) ≤ e := bE_le (by omega)
          refine sp_c_blanks hq4.1 (by omega) ?_
          simp only [↓s_48_161, ↓s_48_164, ↓s_48_165, ↓s_48_166, kd_uF, ln_uF, ai_uF, al_uF, ar_uF, zs_uF, fd_uF, kd_uA, ln_uA, fd_uA, al_uA, ar_uA, zs_uA, ai_uA, kd_uL, ln_uL, fd_uL, ai_uL, ar_uL, zs_uL, al_uL, kd_uR, ln_uR, fd_uR, ai_uR, al_uR, zs_uR, ar_uR, true_and, and_true, Option.toList_some, Option.toList_none, List.cons_append, List.nil_append, catS_nil, catS_int, catS_ref, catS_null, catS_long, cat_int, cat_ref, cat_null, Nat.reduceEqDiff, Nat.reduceLeDiff, Nat.reduceAdd, false_and, and_false, if_false, if_true, ite_true, ite_false, true_or, or_true, false_or, or_false, and_self, forall_const, true_implies, reduceCtorEq, clr_int, clr_ref, clr_null, clr_none, clr_long, va_rf_some, va_rf_none, rk3]
          have hq5 : CQ (uF (uF w3 261 (x + 11) (.int 2)) 258 (x + 11) (.int (nI (bE T e (wE T e p + 1))))) x T n e t dot (bE T e (wE T e p + 1)) := hq4.B (FrB.rf.F (Or.inl rfl)) (by simp only [fd_uF, eq_self, and_self, true_and, false_and, if_true, if_false, ite_true, ite_false, Nat.reduceEqDiff])
          refine sp_c_expr hq5 hN hd hp' (by simp only [fd_uF, eq_self, and_self, true_and, false_and, if_true, if_false, ite_true, ite_false, Nat.reduceEqDiff, b3]) (by simp only [fd_uF, eq_self, and_self, true_and, false_and, if_true, if_false, ite_true, ite_false, Nat.reduceEqDiff]; exact u3) (fun q w6 v c1 c2 c3 c4 c5 c6 c7 => ?_) (fun c1 w6 q v c2 c3 c4 c5 => ?_)
          · have hqb := eS_b c1
            have rk6 := c2.1.1
            simp only [↓s_48_169, ↓s_48_172, kd_uF, ln_uF, ai_uF, al_uF, ar_uF, zs_uF, fd_uF, kd_uA, ln_uA, fd_uA, al_uA, ar_uA, zs_uA, ai_uA, kd_uL, ln_uL, fd_uL, ai_uL, ar_uL, zs_uL, al_uL, kd_uR, ln_uR, fd_uR, ai_uR, al_uR, zs_uR, ar_uR, true_and, and_true, Option.toList_some, Option.toList_none, List.cons_append, List.nil_append, catS_nil, catS_int, catS_ref, catS_null, catS_long, cat_int, cat_ref, cat_null, Nat.reduceEqDiff, Nat.reduceLeDiff, Nat.reduceAdd, false_and, and_false, if_false, if_true, ite_true, ite_false, true_or, or_true, false_or, or_false, and_self, forall_const, true_implies, reduceCtorEq, clr_int, clr_ref, clr_null, clr_none, clr_long, va_rf_some, va_rf_none, rk6]
            have k6 : ∀ g, g ≠ 258 → g ≠ 267 → g ≠ 268 → g ≠ 261 → fd w6 g (x + 11) = fd w3 g (x + 11) := fun g a b c d => by rw [c3.2 g a b c, fd_uF, if_neg (fun z => a z.1), fd_uF, if_neg (fun z => d z.1)]
            refine one w3 (uF w6 266 (x + 11) (.int (nI v))) q v _ _ (bE T e (wE T e p + 1)) 2 hb0 hK (by unfold vAt; rw [hK]; rfl) (by unfold right; rw [hK]; show eOK T e (eS T e (bE T e (wE T e p + 1))) = _; rw [c1]) (by decide) (fun _ => ?_) ?_ ?_ (c2.V (by decide)).1 (c2.V (by decide)).2.2.2 hqb.2 ?_ ?_ ?_ c6 c7 ((((f3.F (by omega) (by omega)).F (by omega) (by omega)).tr c3.1).F (by omega) (by omega))
            · simp only [fd_uF, eq_self, and_self, true_and, false_and, if_true, if_false, ite_true, ite_false, Nat.reduceEqDiff]; exact k6 _ (by decide) (by decide) (by decide) (by decide)
            · simp only [fd_uF, eq_self, and_self, true_and, false_and, if_true, if_false, ite_true, ite_false, Nat.reduceEqDiff]; exact k6 _ (by decide) (by decide) (by decide) (by decide)
            · simp only [fd_uF, eq_self, and_self, true_and, false_and, if_true, if_false, ite_true, ite_false, Nat.reduceEqDiff]; rw [c3.2 _ (by decide) (by decide) (by decide)]; simp only [fd_uF, eq_self, and_self, true_and, false_and, if_true, if_false, ite_true, ite_false, Nat.reduceEqDiff]; rfl
            · simp only [fd_uF, eq_self, and_self, true_and, false_and, if_true, if_false, ite_true, ite_false, Nat.reduceEqDiff, c4]
            · simp only [fd_uF, eq_self, and_self, true_and, false_and, if_true, if_false, ite_true, ite_false, Nat.reduceEqDiff, c5]
            · simp only [fd_uF, eq_self, and_self, true_and, false_and, if_true, if_false, ite_true, ite_false, Nat.reduceEqDiff]
          · have rk6 := c2.1.1
            simp only [↓s_48_169, ↓s_48_172, kd_uF, ln_uF, ai_uF, al_uF, ar_uF, zs_uF, fd_uF, kd_uA, ln_uA, fd_uA, al_uA, ar_uA, zs_uA, ai_uA, kd_uL, ln_uL, fd_uL, ai_uL, ar_uL, zs_uL, al_uL, kd_uR, ln_uR, fd_uR, ai_uR, al_uR, zs_uR, ar_uR, true_and, and_true, Option.toList_some, Option.toList_none, List.cons_append, List.nil_append, catS_nil, catS_int, catS_ref, catS_null, catS_long, cat_int, cat_ref, cat_null, Nat.reduceEqDiff, Nat.reduceLeDiff, Nat.reduceAdd, false_and, and_false, if_false, if_true, ite_true, ite_false, true_or, or_true, false_or, or_false, and_self, forall_const, true_implies, reduceCtorEq, clr_int, clr_ref, clr_null, clr_none, clr_long, va_rf_some, va_rf_none, rk6]
            exact brk (uF w6 266 (x + 11) (.int v)) q _ _ (by unfold right; rw [hK]; show eOK T e (eS T e (bE T e (wE T e p + 1))) = _; rw [c1]; rfl) (c2.V (by decide)).1 (c2.V (by decide)).2.2.2 c3 (by simp only [fd_uF, eq_self, and_self, true_and, false_and, if_true, if_false, ite_true, ite_false, Nat.reduceEqDiff, c5]) ((((f3.F (by omega) (by omega)).F (by omega) (by omega)).tr c4.1).F (by omega) (by omega))
      · have hK := knd_1 hpe h42
        have hq4 : CQ (uF w3 261 (x + 11) (.int 1)) x T n e t dot p := hq.V (by decide)
        have hp' : bE T e (p + 1) ≤ e := bE_le (by omega)
        refine sp_c_blanks hq4.1 (by omega) ?_
        simp only [↓s_48_115, ↓s_48_118, ↓s_48_119, ↓s_48_120, kd_uF, ln_uF, ai_uF, al_uF, ar_uF, zs_uF, fd_uF, kd_uA, ln_uA, fd_uA, al_uA, ar_uA, zs_uA, ai_uA, kd_uL, ln_uL, fd_uL, ai_uL, ar_uL, zs_uL, al_uL, kd_uR, ln_uR, fd_uR, ai_uR, al_uR, zs_uR, ar_uR, true_and, and_true, Option.toList_some, Option.toList_none, List.cons_append, List.nil_append, catS_nil, catS_int, catS_ref, catS_null, catS_long, cat_int, cat_ref, cat_null, Nat.reduceEqDiff, Nat.reduceLeDiff, Nat.reduceAdd, false_and, and_false, if_false, if_true, ite_true, ite_false, true_or, or_true, false_or, or_false, and_self, forall_const, true_implies, reduceCtorEq, clr_int, clr_ref, clr_null, clr_none, clr_long, va_rf_some, va_rf_none, rk3]
        have hq5 : CQ (uF (uF w3 261 (x + 11) (.int 1)) 258 (x + 11) (.int (nI (bE T e (p + 1))))) x T n e t dot (bE T e (p + 1)) := hq4.B (FrB.rf.F (Or.inl rfl)) (by simp only [fd_uF, eq_self, and_self, true_and, false_and, if_true, if_false, ite_true, ite_false, Nat.reduceEqDiff])
        refine sp_c_expr hq5 hN hd hp' (by simp only [fd_uF, eq_self, and_self, true_and, false_and, if_true, if_false, ite_true, ite_false, Nat.reduceEqDiff, b3]) (by simp only [fd_uF, eq_self, and_self, true_and, false_and, if_true, if_false, ite_true, ite_false, Nat.reduceEqDiff]; exact u3) (fun q w6 v c1 c2 c3 c4 c5 c6 c7 => ?_) (fun c1 w6 q v c2 c3 c4 c5 => ?_)
        · have hqb := eS_b c1
          have rk6 := c2.1.1
          simp only [↓s_48_123, ↓s_48_126, kd_uF, ln_uF, ai_uF, al_uF, ar_uF, zs_uF, fd_uF, kd_uA, ln_uA, fd_uA, al_uA, ar_uA, zs_uA, ai_uA, kd_uL, ln_uL, fd_uL, ai_uL, ar_uL, zs_uL, al_uL, kd_uR, ln_uR, fd_uR, ai_uR, al_uR, zs_uR, ar_uR, true_and, and_true, Option.toList_some, Option.toList_none, List.cons_append, List.nil_append, catS_nil, catS_int, catS_ref, catS_null, catS_long, cat_int, cat_ref, cat_null, Nat.reduceEqDiff, Nat.reduceLeDiff, Nat.reduceAdd, false_and, and_false, if_false, if_true, ite_true, ite_false, true_or, or_true, false_or, or_false, and_self, forall_const, true_implies, reduceCtorEq, clr_int, clr_ref, clr_null, clr_none, clr_long, va_rf_some, va_rf_none, rk6]
          have k6 : ∀ g, g ≠ 258 → g ≠ 267 → g ≠ 268 → g ≠ 261 → fd w6 g (x + 11) = fd w3 g (x + 11) := fun g a b c d => by rw [c3.2 g a b c, fd_uF, if_neg (fun z => a z.1), fd_uF, if_neg (fun z => d z.1)]
          refine one w3 (uF w6 266 (x + 11) (.int (nI v))) q v _ _ (bE T e (p + 1)) 1 hb0 hK (by unfold vAt; rw [hK]; rfl) (by unfold right; rw [hK]; show eOK T e (eS T e (bE T e (p + 1))) = _; rw [c1]) (by decide) (fun _ => ?_) ?_ ?_ (c2.V (by decide)).1 (c2.V (by decide)).2.2.2 hqb.2 ?_ ?_ ?_ c6 c7 ((((f3.F (by omega) (by omega)).F (by omega) (by omega)).tr c3.1).F (by omega) (by omega))
          · simp only [fd_uF, eq_self, and_self, true_and, false_and, if_true, if_false, ite_true, ite_false, Nat.reduceEqDiff]; exact k6 _ (by decide) (by decide) (by decide) (by decide)
          · simp only [fd_uF, eq_self, and_self, true_and, false_and, if_true, if_false, ite_true, ite_false, Nat.reduceEqDiff]; exact k6 _ (by decide) (by decide) (by decide) (by decide)
          · simp only [fd_uF, eq_self, and_self, true_and, false_and, if_true, if_false, ite_true, ite_false, Nat.reduceEqDiff]; rw [c3.2 _ (by decide) (by decide) (by decide)]; simp only [fd_uF, eq_self, and_self, true_and, false_and, if_true, if_false, ite_true, ite_false, Nat.reduceEqDiff]; rfl
          · simp only [fd_uF, eq_self, and_self, true_and, false_and, if_true, if_false, ite_true, ite_false, Nat.reduceEqDiff, c4]
          · simp only [fd_uF, eq_self, and_self, true_and, false_and, if_true, if_false, ite_true, ite_false, Nat.reduceEqDiff, c5]
          · simp only [fd_uF, eq_self, and_self, true_and, false_and, if_true, if_false, ite_true, ite_false, Nat.reduceEqDiff]
        · have rk6 := c2.1.1
          simp only [↓s_48_123, ↓s_48_126, kd_uF, ln_uF, ai_uF, al_uF, ar_uF, zs_uF, fd_uF, kd_uA, ln_uA, fd_uA, al_uA, ar_uA, zs_uA, ai_uA, kd_uL, ln_uL, fd_uL, ai_uL, ar_uL, zs_uL, al_uL, kd_uR, ln_uR, fd_uR, ai_uR, al_uR, zs_uR, ar_uR, true_and, and_true, Option.toList_some, Option.toList_none, List.cons_append, List.nil_append, catS_nil, catS_int, catS_ref, catS_null, catS_long, cat_int, cat_ref, cat_null, Nat.reduceEqDiff, Nat.reduceLeDiff, Nat.reduceAdd, false_and, and_false, if_false, if_true, ite_true, ite_false, true_or, or_true, false_or, or_false, and_self, forall_const, true_implies, reduceCtorEq, clr_int, clr_ref, clr_null, clr_none, clr_long, va_rf_some, va_rf_none, rk6]
          exact brk (uF w6 266 (x + 11) (.int v)) q _ _ (by unfold right; rw [hK]; show eOK T e (eS T e (bE T e (p + 1))) = _; rw [c1]; rfl) (c2.V (by decide)).1 (c2.V (by decide)).2.2.2 c3 (by simp only [fd_uF, eq_self, and_self, true_and, false_and, if_true, if_false, ite_true, ite_false, Nat.reduceEqDiff, c5]) ((((f3.F (by omega) (by omega)).F (by omega) (by omega)).tr c4.1).F (by omega) (by omega))
    · have ep : p = e := by omega
      have hK := knd_0 (T := T) (e := e) (p := p) (by omega)
      have hr : right T e p = true := by unfold right; rw [hK]; rfl
      have hv : vAt T e t dot p = some 0 := by
        unfold vAt; rw [hK]
        show rV T e t dot (e - p) p (some 0) = some 0
        rw [show e - p = 0 by omega]; rfl
      refine j276 (uF w3 261 (x + 11) (.int 0)) p false _ _ (hq.V (by decide)).1 (hq.V (by decide)).2.2.2 hp (by simp only [fd_uF, eq_self, and_self, true_and, false_and, if_true, if_false, ite_true, ite_false, Nat.reduceEqDiff]; exact b3) (f3.F (by omega) (by omega)) (fun w' y1 y2 => ⟨?_, fun _ => ⟨?_, ?_, ⟨0, by decide, ?_, ?_⟩, ?_, fun z3 => (by rw [hK] at z3; cases z3), fun zN => ?_⟩⟩)
      · rw [y2, hr, decide_eq_false (by rw [ep, bE_self]; omega)]; rfl
      · rw [y1 _ (by decide), hK]; simp only [fd_uF, eq_self, and_self, true_and, false_and, if_true, if_false, ite_true, ite_false, Nat.reduceEqDiff]; rfl
      · rw [y1 _ (by decide), hv]; simp only [fd_uF, eq_self, and_self, true_and, false_and, if_true, if_false, ite_true, ite_false, Nat.reduceEqDiff]; exact u3
      · rw [y1 _ (by decide)]; simp only [fd_uF, eq_self, and_self, true_and, false_and, if_true, if_false, ite_true, ite_false, Nat.reduceEqDiff]; exact v3
      · intro y hy; rw [hv] at hy; exact (Option.some.inj hy).symm
      · intro i hi; rw [y1 _ (by decide)]; simp only [fd_uF, eq_self, and_self, true_and, false_and, if_true, if_false, ite_true, ite_false, Nat.reduceEqDiff]; exact o3 i hi
      · rw [y1 _ (by decide)]; simp only [fd_uF, eq_self, and_self, true_and, false_and, if_true, if_false, ite_true, ite_false, Nat.reduceEqDiff]; rw [y3]; unfold nmK; rw [if_pos zN]
  -- the beginning
  have j64 : ∀ (w2 : aw) (op : Int32), CQ w2 x T n e t dot p → fd w2 267 (x + 11) = .int 0 → fd w2 268 (x + 11) = .int 0 → fd w2 266 (x + 11) = .int 0 → fd w2 264 (x + 11) = .int 0 → fd w2 265 (x + 11) = .int 0 → fd w2 262 (x + 11) = .long (lN (b256 (nmK T e p))) → Fr w w2 (x + 11) (x + 12) → (mwA T e p = none → op < 0 ∨ nI 6 ≤ op) → (∀ i, mwA T e p = some i → op = nI i ∧ i < 6) → wp (d + 4) 48 Q 64 [some (.ref (x + 11)), some (.int (nI dot)), some (.int (nI (wE T e p))), none] [.int op, .ref (x + 11)] w2 0 0 := by
    intro w2 op hq b2 u2 v2 i2 l2 y2 f2 hno hyes
    have rk2 := hq.1.1
    simp only [↓s_48_64, kd_uF, ln_uF, ai_uF, al_uF, ar_uF, zs_uF, fd_uF, kd_uA, ln_uA, fd_uA, al_uA, ar_uA, zs_uA, ai_uA, kd_uL, ln_uL, fd_uL, ai_uL, ar_uL, zs_uL, al_uL, kd_uR, ln_uR, fd_uR, ai_uR, al_uR, zs_uR, ar_uR, true_and, and_true, Option.toList_some, Option.toList_none, List.cons_append, List.nil_append, catS_nil, catS_int, catS_ref, catS_null, catS_long, cat_int, cat_ref, cat_null, Nat.reduceEqDiff, Nat.reduceLeDiff, Nat.reduceAdd, false_and, and_false, if_false, if_true, ite_true, ite_false, true_or, or_true, false_or, or_false, and_self, forall_const, true_implies, reduceCtorEq, clr_int, clr_ref, clr_null, clr_none, clr_long, va_rf_some, va_rf_none, rk2]
    refine main (uF w2 263 (x + 11) (.int op)) op ⟨hq.V (by decide), ?_, ?_, ?_, ?_, ?_, ?_, ?_, f2.F (by omega) (by omega)⟩ (by simp only [fd_uF, eq_self, and_self, true_and, false_and, if_true, if_false, ite_true, ite_false, Nat.reduceEqDiff]) hno hyes
    · simp only [fd_uF, eq_self, and_self, true_and, false_and, if_true, if_false, ite_true, ite_false, Nat.reduceEqDiff]; exact b2
    · simp only [fd_uF, eq_self, and_self, true_and, false_and, if_true, if_false, ite_true, ite_false, Nat.reduceEqDiff]; exact u2
    · simp only [fd_uF, eq_self, and_self, true_and, false_and, if_true, if_false, ite_true, ite_false, Nat.reduceEqDiff]; exact v2
    · simp only [fd_uF, eq_self, and_self, true_and, false_and, if_true, if_false, ite_true, ite_false, Nat.reduceEqDiff]; exact i2
    · simp only [fd_uF, eq_self, and_self, true_and, false_and, if_true, if_false, ite_true, ite_false, Nat.reduceEqDiff]; exact l2
    · simp only [fd_uF, eq_self, and_self, true_and, false_and, if_true, if_false, ite_true, ite_false, Nat.reduceEqDiff]; exact y2
    · intro i hi; simp only [fd_uF, eq_self, and_self, true_and, false_and, if_true, if_false, ite_true, ite_false, Nat.reduceEqDiff]; rw [(hyes i hi).1]
  simp only [↓s_48_0, ↓s_48_1, ↓s_48_2, ↓s_48_5, ↓s_48_6, ↓s_48_7, ↓s_48_10, ↓s_48_11, ↓s_48_12, ↓s_48_15, ↓s_48_16, ↓s_48_17, ↓s_48_20, ↓s_48_21, ↓s_48_22, ↓s_48_25, ↓s_48_26, ↓s_48_27, ↓s_48_30, ↓s_48_31, ↓s_48_32, ↓s_48_35, kd_uF, ln_uF, ai_uF, al_uF, ar_uF, zs_uF, fd_uF, kd_uA, ln_uA, fd_uA, al_uA, ar_uA, zs_uA, ai_uA, kd_uL, ln_uL, fd_uL, ai_uL, ar_uL, zs_uL, al_uL, kd_uR, ln_uR, fd_uR, ai_uR, al_uR, zs_uR, ar_uR, true_and, and_true, Option.toList_some, Option.toList_none, List.cons_append, List.nil_append, catS_nil, catS_int, catS_ref, catS_null, catS_long, cat_int, cat_ref, cat_null, Nat.reduceEqDiff, Nat.reduceLeDiff, Nat.reduceAdd, false_and, and_false, if_false, if_true, ite_true, ite_false, true_or, or_true, false_or, or_false, and_self, forall_const, true_implies, reduceCtorEq, clr_int, clr_ref, clr_null, clr_none, clr_long, va_rf_some, va_rf_none, rk, hat]
  refine ⟨bI_ok false, bI_ok false, bI_ok false, bI_ok false, ?_⟩
  obtain ⟨w1, hw1⟩ : ∃ w1, w1 = uF (uF (uF (uF (uF (uF w 260 (x + 11) (.int (nI dot))) 266 (x + 11) (.int 0)) 264 (x + 11) (.int 0)) 265 (x + 11) (.int 0)) 267 (x + 11) (.int 0)) 268 (x + 11) (.int 0) := ⟨_, rfl⟩
  rw [← hw1]
  have hS1 : SR w1 x T n e := by rw [hw1]; exact (((((hS.F (by decide) (by decide) (by decide)).F (by decide) (by decide) (by decide)).F (by decide) (by decide) (by decide)).F (by decide) (by decide) (by decide)).F (by decide) (by decide) (by decide)).F (by decide) (by decide) (by decide)
  have F1 : Fr w w1 (x + 11) (x + 12) := by rw [hw1]; exact (((((Fr.rf.F (by omega) (by omega)).F (by omega) (by omega)).F (by omega) (by omega)).F (by omega) (by omega)).F (by omega) (by omega)).F (by omega) (by omega)
  have x1 : fd w1 260 (x + 11) = .int (nI dot) := by rw [hw1]; simp only [fd_uF, eq_self, and_self, true_and, false_and, if_true, if_false, ite_true, ite_false, Nat.reduceEqDiff]
  have x2 : fd w1 266 (x + 11) = .int 0 := by rw [hw1]; simp only [fd_uF, eq_self, and_self, true_and, false_and, if_true, if_false, ite_true, ite_false, Nat.reduceEqDiff]
  have x3 : fd w1 264 (x + 11) = .int 0 := by rw [hw1]; simp only [fd_uF, eq_self, and_self, true_and, false_and, if_true, if_false, ite_true, ite_false, Nat.reduceEqDiff]
  have x4 : fd w1 265 (x + 11) = .int 0 := by rw [hw1]; simp only [fd_uF, eq_self, and_self, true_and, false_and, if_true, if_false, ite_true, ite_false, Nat.reduceEqDiff]
  have x5 : fd w1 267 (x + 11) = .int 0 := by rw [hw1]; simp only [fd_uF, eq_self, and_self, true_and, false_and, if_true, if_false, ite_true, ite_false, Nat.reduceEqDiff]
  have x6 : fd w1 268 (x + 11) = .int 0 := by rw [hw1]; simp only [fd_uF, eq_self, and_self, true_and, false_and, if_true, if_false, ite_true, ite_false, Nat.reduceEqDiff]
  have x7 : fd w1 258 (x + 11) = .int (nI p) := by rw [hw1]; simp only [fd_uF, eq_self, and_self, true_and, false_and, if_true, if_false, ite_true, ite_false, Nat.reduceEqDiff]; exact hat
  clear hw1
  have rk1 := hS1.1
  refine sp_c_word hS1 (by omega) ?_
  simp only [↓s_48_38, ↓s_48_39, ↓s_48_40, ↓s_48_41, ↓s_48_42, ↓s_48_45, ↓s_48_46, kd_uF, ln_uF, ai_uF, al_uF, ar_uF, zs_uF, fd_uF, kd_uA, ln_uA, fd_uA, al_uA, ar_uA, zs_uA, ai_uA, kd_uL, ln_uL, fd_uL, ai_uL, ar_uL, zs_uL, al_uL, kd_uR, ln_uR, fd_uR, ai_uR, al_uR, zs_uR, ar_uR, true_and, and_true, Option.toList_some, Option.toList_none, List.cons_append, List.nil_append, catS_nil, catS_int, catS_ref, catS_null, catS_long, cat_int, cat_ref, cat_null, Nat.reduceEqDiff, Nat.reduceLeDiff, Nat.reduceAdd, false_and, and_false, if_false, if_true, ite_true, ite_false, true_or, or_true, false_or, or_false, and_self, forall_const, true_implies, reduceCtorEq, clr_int, clr_ref, clr_null, clr_none, clr_long, va_rf_some, va_rf_none, rk1, x7]
  refine sp_c_key hS1 (by omega) ?_
  have hS2 : SR (uF w1 262 (x + 11) (.long (lN (b256 (nmK T e p))))) x T n e := hS1.F (by decide) (by decide) (by decide)
  have hC2 : CB (uF w1 262 (x + 11) (.long (lN (b256 (nmK T e p))))) x t := hC.Fr (F1.F (by omega) (by omega)) (Or.inl (by omega))
  have nm1 := hS1.2.2.1
  have kk4 : kd w1 (x + 4) = 4 := hC2.1
  simp only [↓s_48_49, ↓s_48_52, ↓s_48_53, ↓s_48_54, ↓s_48_57, ↓s_48_58, ↓s_48_61, kd_uF, ln_uF, ai_uF, al_uF, ar_uF, zs_uF, fd_uF, kd_uA, ln_uA, fd_uA, al_uA, ar_uA, zs_uA, ai_uA, kd_uL, ln_uL, fd_uL, ai_uL, ar_uL, zs_uL, al_uL, kd_uR, ln_uR, fd_uR, ai_uR, al_uR, zs_uR, ar_uR, true_and, and_true, Option.toList_some, Option.toList_none, List.cons_append, List.nil_append, catS_nil, catS_int, catS_ref, catS_null, catS_long, cat_int, cat_ref, cat_null, Nat.reduceEqDiff, Nat.reduceLeDiff, Nat.reduceAdd, false_and, and_false, if_false, if_true, ite_true, ite_false, true_or, or_true, false_or, or_false, and_self, forall_const, true_implies, reduceCtorEq, clr_int, clr_ref, clr_null, clr_none, clr_long, va_rf_some, va_rf_none, rk1, nm1, kk4]
  have hK := nmK_ok (T := T) (e := e) (p := p)
  have C2 : CQ (uF w1 262 (x + 11) (.long (lN (b256 (nmK T e p))))) x T n e t dot p := ⟨hS2, hC2, by simp only [fd_uF, eq_self, and_self, true_and, false_and, if_true, if_false, ite_true, ite_false, Nat.reduceEqDiff, x1], by simp only [fd_uF, eq_self, and_self, true_and, false_and, if_true, if_false, ite_true, ite_false, Nat.reduceEqDiff, x7]⟩
  refine sp_c_findM hC2 hN hK.1 hK.2 (fun i e1 e2 => ?_) (fun e1 v e2 => ?_)
  · exact j64 _ (nI i) C2 (by simp only [fd_uF, eq_self, and_self, true_and, false_and, if_true, if_false, ite_true, ite_false, Nat.reduceEqDiff, x5]) (by simp only [fd_uF, eq_self, and_self, true_and, false_and, if_true, if_false, ite_true, ite_false, Nat.reduceEqDiff, x6]) (by simp only [fd_uF, eq_self, and_self, true_and, false_and, if_true, if_false, ite_true, ite_false, Nat.reduceEqDiff, x2]) (by simp only [fd_uF, eq_self, and_self, true_and, false_and, if_true, if_false, ite_true, ite_false, Nat.reduceEqDiff, x3]) (by simp only [fd_uF, eq_self, and_self, true_and, false_and, if_true, if_false, ite_true, ite_false, Nat.reduceEqDiff, x4]) (by simp only [fd_uF, eq_self, and_self, true_and, false_and, if_true, if_false, ite_true, ite_false, Nat.reduceEqDiff]) (F1.F (by omega) (by omega)) (fun z => by rw [mwA_K, e1] at z; cases z) (fun j hj => by rw [mwA_K, e1] at hj; cases hj; exact ⟨rfl, e2⟩)
  · exact j64 _ v C2 (by simp only [fd_uF, eq_self, and_self, true_and, false_and, if_true, if_false, ite_true, ite_false, Nat.reduceEqDiff, x5]) (by simp only [fd_uF, eq_self, and_self, true_and, false_and, if_true, if_false, ite_true, ite_false, Nat.reduceEqDiff, x6]) (by simp only [fd_uF, eq_self, and_self, true_and, false_and, if_true, if_false, ite_true, ite_false, Nat.reduceEqDiff, x2]) (by simp only [fd_uF, eq_self, and_self, true_and, false_and, if_true, if_false, ite_true, ite_false, Nat.reduceEqDiff, x3]) (by simp only [fd_uF, eq_self, and_self, true_and, false_and, if_true, if_false, ite_true, ite_false, Nat.reduceEqDiff, x4]) (by simp only [fd_uF, eq_self, and_self, true_and, false_and, if_true, if_false, ite_true, ite_false, Nat.reduceEqDiff]) (F1.F (by omega) (by omega)) (fun _ => e2) (fun j hj => by rw [mwA_K, e1] at hj; cases hj)
