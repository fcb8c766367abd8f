theorem and4095 (x : Int32) : x &&& 4095 = nI (x.toBitVec.toNat % 4096) := by
  have e : x = nI x.toBitVec.toNat := by
    apply Int32.toBitVec_inj.mp
    show _ = BitVec.ofNat 32 _
    rw [BitVec.ofNat_toNat, BitVec.setWidth_eq]
  have h := pk_andN (m := 4095) (show x.toBitVec.toNat < 4294967296 from x.toBitVec.isLt) 12 (by decide)
  rw [← e] at h
  exact h
theorem mask12 (n : Nat) : nI n &&& 4095 = nI (n % 4096) := by
  rw [show (4095 : Int32) = nI 4095 from rfl, and2, show 4095 = 2 ^ 12 - 1 from rfl, Nat.and_two_pow_sub_one_eq_mod]
theorem addP (a v : Nat) : nI a + (1 : Int32) * nI v &&& 4095 = nI ((a + v) % 4096) := by
  rw [Int32.one_mul, nI_add, mask12]
theorem subP {a v : Nat} (h : v ≤ 4096) : nI a + (-1 : Int32) * nI v &&& 4095 = nI ((a + (4096 - v)) % 4096) := by
  have e : (-1 : Int32) * nI v = nI (4294967296 - v) := by
    rw [show (-1 : Int32) = nI 4294967295 from by decide, pk_mul]
    apply Int32.toBitVec_inj.mp
    show BitVec.ofNat 32 _ = BitVec.ofNat 32 _
    apply BitVec.eq_of_toNat_eq
    rw [BitVec.toNat_ofNat, BitVec.toNat_ofNat]
    omega
  rw [e, nI_add, mask12]
  congr 1
  omega
def RV (w : aw) (m : Nat) (o : Option Nat) : Prop := ∃ a, a < 4096 ∧ fd w 557 m = .int (nI a) ∧ fd w 558 m = .int (if o.isSome = true then 1 else 0) ∧ ∀ v, o = some v → v = a
def sgn (neg : Bool) : Int32 := if neg = true then -1 else 1
theorem comb_some {neg : Bool} {o u : Option Nat} : (comb neg o u).isSome = true ↔ o.isSome = true ∧ u.isSome = true := by
  unfold comb
  cases o <;> cases u <;> simp
theorem oct_lt {T : Nat → Nat} {p : Nat} : ∀ {k : Nat}, isO T p k = true → oct T p k < 8 ^ k := by
  intro k
  induction k with
  | zero => intro _; exact Nat.zero_lt_one
  | succ k ih =>
    intro h
    unfold isO at h
    rw [Bool.and_eq_true, decide_eq_true_iff] at h
    have := ih h.1
    show oct T p k * 8 + (T (p + k) - 48) < 8 ^ (k + 1)
    rw [Nat.pow_succ]
    omega
theorem isO_le {T : Nat → Nat} {p : Nat} : ∀ {k j : Nat}, isO T p k = true → j ≤ k → isO T p j = true := by
  intro k
  induction k with
  | zero => intro j h hj; rw [show j = 0 by omega]; rfl
  | succ k ih =>
    intro j h hj
    by_cases c : j = k + 1
    · rw [c]; exact h
    · unfold isO at h
      rw [Bool.and_eq_true] at h
      exact ih h.1 (by omega)
theorem isO_lt {T : Nat → Nat} {p : Nat} : ∀ {k j : Nat}, isO T p k = true → j < k → 48 ≤ T (p + j) ∧ T (p + j) ≤ 55 := by
  intro k j h hj
  have := isO_le (j := j + 1) h hj
  unfold isO at this
  rw [Bool.and_eq_true, decide_eq_true_iff] at this
  exact this.2
theorem oct_lt' {T : Nat → Nat} {p k : Nat} (h : isO T p k = true) (hk : k ≤ 4) : oct T p k < 4096 := Nat.lt_of_lt_of_le (oct_lt h) (by
  have : k = 0 ∨ k = 1 ∨ k = 2 ∨ k = 3 ∨ k = 4 := by omega
  rcases this with c | c | c | c | c <;> subst c <;> decide)
theorem tV_lt {T : Nat → Nat} {e p q dot v : Nat} {t : nt} (hN : TN t) (hd : dot < 4096) (hS : tS T e p = some q) (h : tV T e t dot p = some v) : v < 4096 := by
  unfold tV at h
  unfold tS at hS
  split at h
  · cases h; exact hd
  · rename_i c1
    rw [if_neg c1] at hS
    split at h
    · rename_i c2
      rw [if_pos c2] at hS
      unfold vN lu at h
      split at h
      · rename_i v' he
        cases h
        rw [Option.map_eq_some_iff] at he
        obtain ⟨x, hx, ex⟩ := he
        have := hN.2.1 x (List.mem_of_find?_eq_some hx)
        omega
      · cases h
    · rename_i c2
      rw [if_neg c2] at hS
      cases h
      split at hS
      · cases hS
      · split at hS
        · rename_i c4; exact oct_lt' c4 (by omega)
        · cases hS
theorem sp_R_term {d : Nat} {w : aw} {m e p dot : Nat} {T : Nat → Nat} {t : nt} {neg : Bool} {o : Option Nat} {Q : wQ} (hP : RP w m T e p) (hB : RB w m t) (hN : TN t) (hD : fd w 554 m = .int (nI dot)) (hd : dot < 4096) (hV : RV w m o) (h1 : ∀ q w', tS T e p = some q → RP w' m T e q → FrA w w' m → RV w' m (comb neg o (tV T e t dot p)) → Q (some (.int 1)) w') (h2 : tS T e p = none → Q (some (.int 0)) w) : wpD (d + 4) 157 [.ref m, .int (sgn neg)] w Q := by
  refine ⟨Nat.le_of_ble_eq_true rfl, ?_⟩
  show wp (d + 3) 157 Q 0 [some (.ref m), some (.int (sgn neg)), none, none, none] [] w 0 0
  have hP0 := hP
  have he := hP.2.2.2.2.1
  have hT := hP.2.2.2.2.2.1
  have hpe := hP.2.2.2.2.2.2
  obtain ⟨sh, tp, st, at', -, -, -⟩ := hP
  obtain ⟨rk, r1, r2, r3, r4, r5, r6, r7, r8, r9, r10, r11, r12, r13, r14, r15, r16, r17, r18, r19, r20, r21, r22, r23, r24, k1, k2, k3, k4, k5, k6, k7, k8, k9, k10, k11, k12, k13, k14, k15, k16, k17, k18, k19, k20, k21, k22, k23, k24, n1, n2, n3, n4, n5, n6, n7, n8, n9, n10, n11, n12, n13, n14, n15, n16, n17, n18, n19, n20, n21, n22, n23, n24⟩ := sh
  have hc := lk_lt (T := T) (e := e) (p := p) hT
  have hw := wE_ge (T := T) (e := e) (p := p)
  have hwe := wE_le (T := T) hpe
  obtain ⟨a, ha, va, hva, oa⟩ := hV
  -- the end
  have j200 : ∀ (w1 : aw) (q : Nat) (v : Int32) (u : Option Nat) (L : Option Value), tS T e p = some q → tV T e t dot p = u → (∀ x, u = some x → x < 4096 ∧ v = nI x) → FrA w w1 m → RP w1 m T e p → fd w1 557 m = .int (nI a) → fd w1 558 m = .int (if (comb neg o u).isSome = true then 1 else 0) → wp (d + 3) 157 Q 200 [some (.ref m), some (.int (sgn neg)), some (.int v), some (.int (nI q)), L] [] w1 0 0 := by
    intro w1 q v u L e1 e2 e3 f1 g1 g2 g3
    have rk1 := g1.1.1
    have hqe := (tS_b e1).2
    simp only [↓s_157_200, ↓s_157_201, ↓s_157_202, ↓s_157_205, ↓s_157_206, ↓s_157_207, ↓s_157_210, ↓s_157_211, ↓s_157_212, ↓s_157_213, ↓s_157_214, ↓s_157_217, ↓s_157_218, ↓s_157_221, ↓s_157_222, kd_uF, ln_uF, ai_uF, al_uF, ar_uF, zs_uF, fd_uF, kd_uA, ln_uA, fd_uA, al_uA, ar_uA, zs_uA, ai_uA, kd_uL, ln_uL, fd_uL, ai_uL, ar_uL, zs_uL, al_uL, kd_uR, ln_uR, fd_uR, ai_uR, al_uR, zs_uR, ar_uR, true_and, and_true, Option.toList_some, Option.toList_none, List.cons_append, List.nil_append, catS_nil, catS_int, catS_ref, catS_null, catS_long, cat_int, cat_ref, cat_null, Nat.reduceEqDiff, Nat.reduceLeDiff, Nat.reduceAdd, false_and, and_false, if_false, if_true, ite_true, ite_false, true_or, or_true, false_or, or_false, and_self, forall_const, true_implies, reduceCtorEq, clr_int, clr_ref, clr_null, clr_none, clr_long, va_rf_some, va_rf_none, rk1, g2]
    refine ⟨rfl, h1 q _ e1 ?_ ((f1.F (Or.inl rfl)).F (Or.inr (Or.inl rfl))) ?_⟩
    · exact FrA.P (FrA.rf.F (Or.inr (Or.inl rfl))) (g1.at_ hqe) (by rw [fd_uF, if_neg (fun q => absurd q.1 (by decide)), fd_uF, if_pos ⟨rfl, rfl⟩]) hqe
    · rw [e2]
      refine ⟨(nI a + sgn neg * v).toBitVec.toNat % 4096, Nat.mod_lt _ (by decide), ?_, ?_, fun x hx => ?_⟩
      · rw [fd_uF, if_pos ⟨rfl, rfl⟩, and4095]
      · rw [fd_uF, if_neg (fun q => absurd q.1 (by decide)), fd_uF, if_neg (fun q => absurd q.1 (by decide))]; exact g3
      · have hs := (comb_some (neg := neg) (o := o) (u := u)).mp (by rw [hx]; rfl)
        obtain ⟨oa', ho⟩ := Option.isSome_iff_exists.mp hs.1
        obtain ⟨x', hu⟩ := Option.isSome_iff_exists.mp hs.2
        have ex := e3 x' hu
        have eo := oa oa' ho
        subst eo
        rw [ho, hu] at hx
        rw [ex.2]
        have em := and4095 (nI oa' + sgn neg * nI x')
        have hx' : (if neg = true then (oa' + (4096 - x')) % 4096 else (oa' + x') % 4096) = x := by
          unfold comb at hx; exact Option.some.inj hx
        have key : nI oa' + sgn neg * nI x' &&& 4095 = nI x := by
          rw [← hx']
          unfold sgn
          cases neg
          · exact addP _ _
          · exact subP (by omega)
        rw [em] at key
        have hxl : x < 4096 := by rw [← hx']; split <;> exact Nat.mod_lt _ (by decide)
        exact ((nI_eq (by have := Nat.mod_lt (nI oa' + sgn neg * nI x').toBitVec.toNat (show 0 < 4096 by decide); omega) (by omega)).mp key).symm
  simp only [↓s_157_0, ↓s_157_1, ↓s_157_2, ↓s_157_5, kd_uF, ln_uF, ai_uF, al_uF, ar_uF, zs_uF, fd_uF, kd_uA, ln_uA, fd_uA, al_uA, ar_uA, zs_uA, ai_uA, kd_uL, ln_uL, fd_uL, ai_uL, ar_uL, zs_uL, al_uL, kd_uR, ln_uR, fd_uR, ai_uR, al_uR, zs_uR, ar_uR, true_and, and_true, Option.toList_some, Option.toList_none, List.cons_append, List.nil_append, catS_nil, catS_int, catS_ref, catS_null, catS_long, cat_int, cat_ref, cat_null, Nat.reduceEqDiff, Nat.reduceLeDiff, Nat.reduceAdd, false_and, and_false, if_false, if_true, ite_true, ite_false, true_or, or_true, false_or, or_false, and_self, forall_const, true_implies, reduceCtorEq, clr_int, clr_ref, clr_null, clr_none, clr_long, va_rf_some, va_rf_none, rk, at']
  refine sp_R_wordEnd hP0 (by omega) ?_
  simp only [↓s_157_8, ↓s_157_9, ↓s_157_10, ↓s_157_11, ↓s_157_14, kd_uF, ln_uF, ai_uF, al_uF, ar_uF, zs_uF, fd_uF, kd_uA, ln_uA, fd_uA, al_uA, ar_uA, zs_uA, ai_uA, kd_uL, ln_uL, fd_uL, ai_uL, ar_uL, zs_uL, al_uL, kd_uR, ln_uR, fd_uR, ai_uR, al_uR, zs_uR, ar_uR, true_and, and_true, Option.toList_some, Option.toList_none, List.cons_append, List.nil_append, catS_nil, catS_int, catS_ref, catS_null, catS_long, cat_int, cat_ref, cat_null, Nat.reduceEqDiff, Nat.reduceLeDiff, Nat.reduceAdd, false_and, and_false, if_false, if_true, ite_true, ite_false, true_or, or_true, false_or, or_false, and_self, forall_const, true_implies, reduceCtorEq, clr_int, clr_ref, clr_null, clr_none, clr_long, va_rf_some, va_rf_none, rk, at']
  refine sp_R_look hP0 (by omega) ?_
  simp only [↓s_157_17, ↓s_157_19, ↓s_157_22, ↓s_157_23, ↓s_157_26, ↓s_157_27, ↓s_157_28, ↓s_157_31, ↓s_157_32, ↓s_157_33, ↓s_157_34, ↓s_157_37, ↓s_157_38, ↓s_157_39, ↓s_157_42, kd_uF, ln_uF, ai_uF, al_uF, ar_uF, zs_uF, fd_uF, kd_uA, ln_uA, fd_uA, al_uA, ar_uA, zs_uA, ai_uA, kd_uL, ln_uL, fd_uL, ai_uL, ar_uL, zs_uL, al_uL, kd_uR, ln_uR, fd_uR, ai_uR, al_uR, zs_uR, ar_uR, true_and, and_true, Option.toList_some, Option.toList_none, List.cons_append, List.nil_append, catS_nil, catS_int, catS_ref, catS_null, catS_long, cat_int, cat_ref, cat_null, Nat.reduceEqDiff, Nat.reduceLeDiff, Nat.reduceAdd, false_and, and_false, if_false, if_true, ite_true, ite_false, true_or, or_true, false_or, or_false, and_self, forall_const, true_implies, reduceCtorEq, clr_int, clr_ref, clr_null, clr_none, clr_long, va_rf_some, va_rf_none, rk, at', hD]
  rw [show (46 : Int32) = nI 46 from rfl, nI_eq (by omega) (by decide), nI_1]
  refine ⟨fun q => sp_R_look hP0 (by omega) ?_, fun q => ?_⟩
  · simp only [↓s_157_45, kd_uF, ln_uF, ai_uF, al_uF, ar_uF, zs_uF, fd_uF, kd_uA, ln_uA, fd_uA, al_uA, ar_uA, zs_uA, ai_uA, kd_uL, ln_uL, fd_uL, ai_uL, ar_uL, zs_uL, al_uL, kd_uR, ln_uR, fd_uR, ai_uR, al_uR, zs_uR, ar_uR, true_and, and_true, Option.toList_some, Option.toList_none, List.cons_append, List.nil_append, catS_nil, catS_int, catS_ref, catS_null, catS_long, cat_int, cat_ref, cat_null, Nat.reduceEqDiff, Nat.reduceLeDiff, Nat.reduceAdd, false_and, and_false, if_false, if_true, ite_true, ite_false, true_or, or_true, false_or, or_false, and_self, forall_const, true_implies, reduceCtorEq, clr_int, clr_ref, clr_null, clr_none, clr_long, va_rf_some, va_rf_none]
    refine sp_R_isL hc (fun z => ?_) (fun z => ?_)
    · -- a name
      have eS : tS T e p = if wE T e p ≤ p + 6 then some (wE T e p) else none := by unfold tS; rw [if_neg q, if_pos z]
      have eV' : tV T e t dot p = vN (lu t (nmE T e p)) := by unfold tV; rw [if_neg q, if_pos z]
      simp only [↓s_157_48, ↓s_157_51, ↓s_157_52, ↓s_157_53, ↓s_157_56, ↓s_157_57, ↓s_157_59, ↓s_157_62, ↓s_157_63, ↓s_157_64, ↓s_157_65, ↓s_157_66, ↓s_157_67, ↓s_157_70, ↓s_157_118, ↓s_157_119, ↓s_157_120, ↓s_157_123, ↓s_157_126, ↓s_157_127, ↓s_157_128, ↓s_157_131, ↓s_157_132, ↓s_157_133, ↓s_157_138, ↓s_157_139, ↓s_157_140, ↓s_157_141, ↓s_157_144, kd_uF, ln_uF, ai_uF, al_uF, ar_uF, zs_uF, fd_uF, kd_uA, ln_uA, fd_uA, al_uA, ar_uA, zs_uA, ai_uA, kd_uL, ln_uL, fd_uL, ai_uL, ar_uL, zs_uL, al_uL, kd_uR, ln_uR, fd_uR, ai_uR, al_uR, zs_uR, ar_uR, true_and, and_true, Option.toList_some, Option.toList_none, List.cons_append, List.nil_append, catS_nil, catS_int, catS_ref, catS_null, catS_long, cat_int, cat_ref, cat_null, Nat.reduceEqDiff, Nat.reduceLeDiff, Nat.reduceAdd, false_and, and_false, if_false, if_true, ite_true, ite_false, true_or, or_true, false_or, or_false, and_self, forall_const, true_implies, reduceCtorEq, clr_int, clr_ref, clr_null, clr_none, clr_long, va_rf_some, va_rf_none, rk, at']
      rw [pk_sub hw, show (6 : Int32) = nI 6 from rfl, nI_leI (by omega) (by decide)]
      refine ⟨fun q => absurd q (by decide), fun _ => ⟨fun q2 => sp_R_nameAt hP0 hpe ?_, fun q2 => ⟨rfl, h2 (by rw [eS, if_neg (by omega)])⟩⟩⟩
      have q6 : wE T e p ≤ p + 6 := by omega
      have eS' : tS T e p = some (wE T e p) := by rw [eS, if_pos q6]
      simp only [↓s_157_73, kd_uF, ln_uF, ai_uF, al_uF, ar_uF, zs_uF, fd_uF, kd_uA, ln_uA, fd_uA, al_uA, ar_uA, zs_uA, ai_uA, kd_uL, ln_uL, fd_uL, ai_uL, ar_uL, zs_uL, al_uL, kd_uR, ln_uR, fd_uR, ai_uR, al_uR, zs_uR, ar_uR, true_and, and_true, Option.toList_some, Option.toList_none, List.cons_append, List.nil_append, catS_nil, catS_int, catS_ref, catS_null, catS_long, cat_int, cat_ref, cat_null, Nat.reduceEqDiff, Nat.reduceLeDiff, Nat.reduceAdd, false_and, and_false, if_false, if_true, ite_true, ite_false, true_or, or_true, false_or, or_false, and_self, forall_const, true_implies, reduceCtorEq, clr_int, clr_ref, clr_null, clr_none, clr_long, va_rf_some, va_rf_none, rk]
      refine sp_R_find hP0.1 hB hN nmE_ok (nmE_6 q6) (fun j x a1 a2 a3 => ?_) (fun a1 => ?_)
      · have hlu : lu t (nmE T e p) = some x.2 := by rw [← a2]; exact lu_mem hN (List.mem_of_getElem? a1)
        have hval := (hB.2.2 j x a1).2
        have ht := hN.2.2
        have hx4 := (hN.2.1 x (List.mem_of_getElem? a1)).2.2
        simp only [↓s_157_76, ↓s_157_78, ↓s_157_80, ↓s_157_83, ↓s_157_84, ↓s_157_87, ↓s_157_88, ↓s_157_91, ↓s_157_93, ↓s_157_94, ↓s_157_95, ↓s_157_96, ↓s_157_97, ↓s_157_100, ↓s_157_103, ↓s_157_104, ↓s_157_107, ↓s_157_108, ↓s_157_111, ↓s_157_112, ↓s_157_115, kd_uF, ln_uF, ai_uF, al_uF, ar_uF, zs_uF, fd_uF, kd_uA, ln_uA, fd_uA, al_uA, ar_uA, zs_uA, ai_uA, kd_uL, ln_uL, fd_uL, ai_uL, ar_uL, zs_uL, al_uL, kd_uR, ln_uR, fd_uR, ai_uR, al_uR, zs_uR, ar_uR, true_and, and_true, Option.toList_some, Option.toList_none, List.cons_append, List.nil_append, catS_nil, catS_int, catS_ref, catS_null, catS_long, cat_int, cat_ref, cat_null, Nat.reduceEqDiff, Nat.reduceLeDiff, Nat.reduceAdd, false_and, and_false, if_false, if_true, ite_true, ite_false, true_or, or_true, false_or, or_false, and_self, forall_const, true_implies, reduceCtorEq, clr_int, clr_ref, clr_null, clr_none, clr_long, va_rf_some, va_rf_none, rk, r21, k21, n21, clN (show j < 2147483648 by omega), hval, hva]
        refine ⟨fun _ => ⟨inR_nI (by omega) (by decide), ?_⟩, fun q3 => absurd (nI_pos' (by omega)) q3⟩
        rw [hlu] at eV'
        by_cases c0 : x.2 = 0
        · have eV2 : tV T e t dot p = none := by rw [eV', c0]; rfl
          rw [c0]
          have fin : FrA w (uF w 558 m (.int 0)) m := FrA.rf.F (Or.inr (Or.inr rfl))
          have fP := fin.P hP0 (q := p) at' hpe
          have go := fun L => j200 _ (wE T e p) (rn 0) none L eS' eV2 (fun _ h => by cases h) fin fP va (by rw [fd_uF, if_pos ⟨rfl, rfl⟩]; unfold comb; cases o <;> rfl)
          cases ho : o.isSome with
          | true => simp only [if_true]; exact ⟨fun q => absurd q (by decide), fun _ => ⟨fun _ => ⟨ok_z0, go _⟩, fun q => absurd (by decide) q⟩⟩
          | false => simp only [Bool.false_eq_true, if_false]; exact ⟨fun _ => ⟨ok_z0, go _⟩, fun q => absurd trivial q⟩
        · obtain ⟨y, hy⟩ : ∃ y, x.2 = y + 1 := ⟨x.2 - 1, by omega⟩
          have eV2 : tV T e t dot p = some y := by rw [eV', hy]; rfl
          have er : rn x.2 = nI y := by rw [hy]; rfl
          rw [er]
          have go := fun (b : Int32) (hb : b = (if o.isSome = true then 1 else 0)) L => j200 (uF w 558 m (.int b)) (wE T e p) (nI y) (some y) L eS' eV2 (fun x' h => by cases h; exact ⟨by omega, rfl⟩) (FrA.rf.F (Or.inr (Or.inr rfl))) ((FrA.rf.F (Or.inr (Or.inr rfl))).P hP0 (q := p) at' hpe) va (by rw [fd_uF, if_pos ⟨rfl, rfl⟩, hb]; congr 2; unfold comb; cases o <;> rfl)
          cases ho : o.isSome with
          | true => simp only [if_true]; exact ⟨fun q => absurd q (by decide), fun _ => ⟨fun q => absurd q (nI_pos (by omega)), fun _ => ⟨ok_z1, go 1 (by rw [ho]; rfl) _⟩⟩⟩
          | false => simp only [Bool.false_eq_true, if_false]; exact ⟨fun _ => ⟨ok_z0, go 0 (by rw [ho]; rfl) _⟩, fun q => absurd trivial q⟩
      · have hlu : lu t (nmE T e p) = none := lu_none a1
        have eV2 : tV T e t dot p = none := by rw [eV', hlu]; rfl
        simp only [↓s_157_76, ↓s_157_78, ↓s_157_80, ↓s_157_83, ↓s_157_84, ↓s_157_87, ↓s_157_88, ↓s_157_91, ↓s_157_93, ↓s_157_94, ↓s_157_95, ↓s_157_96, ↓s_157_97, ↓s_157_100, ↓s_157_103, ↓s_157_104, ↓s_157_107, ↓s_157_108, ↓s_157_111, ↓s_157_112, ↓s_157_115, kd_uF, ln_uF, ai_uF, al_uF, ar_uF, zs_uF, fd_uF, kd_uA, ln_uA, fd_uA, al_uA, ar_uA, zs_uA, ai_uA, kd_uL, ln_uL, fd_uL, ai_uL, ar_uL, zs_uL, al_uL, kd_uR, ln_uR, fd_uR, ai_uR, al_uR, zs_uR, ar_uR, true_and, and_true, Option.toList_some, Option.toList_none, List.cons_append, List.nil_append, catS_nil, catS_int, catS_ref, catS_null, catS_long, cat_int, cat_ref, cat_null, Nat.reduceEqDiff, Nat.reduceLeDiff, Nat.reduceAdd, false_and, and_false, if_false, if_true, ite_true, ite_false, true_or, or_true, false_or, or_false, and_self, forall_const, true_implies, reduceCtorEq, clr_int, clr_ref, clr_null, clr_none, clr_long, va_rf_some, va_rf_none, rk, hva]
        refine ⟨fun q3 => absurd q3 (by decide), fun _ => ?_⟩
        have fin : FrA w (uF w 558 m (.int 0)) m := FrA.rf.F (Or.inr (Or.inr rfl))
        have fP := fin.P hP0 (q := p) at' hpe
        have go := fun L => j200 _ (wE T e p) (-1) none L eS' eV2 (fun _ h => by cases h) fin fP va (by rw [fd_uF, if_pos ⟨rfl, rfl⟩]; unfold comb; cases o <;> rfl)
        cases ho : o.isSome with
        | true => simp only [if_true]; exact ⟨fun q => absurd q (by decide), fun _ => ⟨fun _ => ⟨ok_z0, go _⟩, fun q => absurd (by decide) q⟩⟩
        | false => simp only [Bool.false_eq_true, if_false]; exact ⟨fun _ => ⟨ok_z0, go _⟩, fun q => absurd trivial q⟩
    · -- a number
      have z' : ¬ isL (lk T e p) = true := by rw [z]; decide
      have eS : tS T e p = if wE T e p = p ∨ p + 4 < wE T e p then none else if isO T p (wE T e p - p) = true then some (wE T e p) else none := by unfold tS; rw [if_neg q, if_neg z']
      have eV' : tV T e t dot p = some (oct T p (wE T e p - p)) := by unfold tV; rw [if_neg q, if_neg z']
      have j136 : (wE T e p = p ∨ p + 4 < wE T e p) → wp (d + 3) 157 Q 136 [some (.ref m), some (.int (sgn neg)), none, some (.int (nI (wE T e p))), none] [] w 0 0 := by
        intro c
        simp only [↓s_157_136, ↓s_157_137, kd_uF, ln_uF, ai_uF, al_uF, ar_uF, zs_uF, fd_uF, kd_uA, ln_uA, fd_uA, al_uA, ar_uA, zs_uA, ai_uA, kd_uL, ln_uL, fd_uL, ai_uL, ar_uL, zs_uL, al_uL, kd_uR, ln_uR, fd_uR, ai_uR, al_uR, zs_uR, ar_uR, true_and, and_true, Option.toList_some, Option.toList_none, List.cons_append, List.nil_append, catS_nil, catS_int, catS_ref, catS_null, catS_long, cat_int, cat_ref, cat_null, Nat.reduceEqDiff, Nat.reduceLeDiff, Nat.reduceAdd, false_and, and_false, if_false, if_true, ite_true, ite_false, true_or, or_true, false_or, or_false, and_self, forall_const, true_implies, reduceCtorEq, clr_int, clr_ref, clr_null, clr_none, clr_long, va_rf_some, va_rf_none]
        exact ⟨rfl, h2 (by rw [eS, if_pos c])⟩
      simp only [↓s_157_48, ↓s_157_51, ↓s_157_52, ↓s_157_53, ↓s_157_56, ↓s_157_57, ↓s_157_59, ↓s_157_62, ↓s_157_63, ↓s_157_64, ↓s_157_65, ↓s_157_66, ↓s_157_67, ↓s_157_70, ↓s_157_118, ↓s_157_119, ↓s_157_120, ↓s_157_123, ↓s_157_126, ↓s_157_127, ↓s_157_128, ↓s_157_131, ↓s_157_132, ↓s_157_133, ↓s_157_138, ↓s_157_139, ↓s_157_140, ↓s_157_141, ↓s_157_144, kd_uF, ln_uF, ai_uF, al_uF, ar_uF, zs_uF, fd_uF, kd_uA, ln_uA, fd_uA, al_uA, ar_uA, zs_uA, ai_uA, kd_uL, ln_uL, fd_uL, ai_uL, ar_uL, zs_uL, al_uL, kd_uR, ln_uR, fd_uR, ai_uR, al_uR, zs_uR, ar_uR, true_and, and_true, Option.toList_some, Option.toList_none, List.cons_append, List.nil_append, catS_nil, catS_int, catS_ref, catS_null, catS_long, cat_int, cat_ref, cat_null, Nat.reduceEqDiff, Nat.reduceLeDiff, Nat.reduceAdd, false_and, and_false, if_false, if_true, ite_true, ite_false, true_or, or_true, false_or, or_false, and_self, forall_const, true_implies, reduceCtorEq, clr_int, clr_ref, clr_null, clr_none, clr_long, va_rf_some, va_rf_none, rk, at']
      rw [pk_sub hw, show (4 : Int32) = nI 4 from rfl, nI_leI (by omega) (by decide), nI_eq (by omega) (by omega)]
      refine ⟨⟨fun q3 => j136 (Or.inl q3), fun q3 => ⟨fun q4 => ?_, fun q4 => j136 (Or.inr (by omega))⟩⟩, fun q => absurd trivial q⟩
      have eS2 : tS T e p = if isO T p (wE T e p - p) = true then some (wE T e p) else none := by rw [eS, if_neg (by omega)]
      have lp : ∀ (j i : Nat), i + j = wE T e p - p → isO T p i = true → wp (d + 3) 157 Q 146 [some (.ref m), some (.int (sgn neg)), some (.int (nI (oct T p i))), some (.int (nI (wE T e p))), some (.int (nI (p + i)))] [] w 0 0 := by
        intro j
        induction j with
        | zero =>
          intro i hi ho
          have e0 : i = wE T e p - p := by omega
          have ep : p + i = wE T e p := by omega
          rw [s_157_146]
          simp only [↓s_157_148, ↓s_157_149, kd_uF, ln_uF, ai_uF, al_uF, ar_uF, zs_uF, fd_uF, kd_uA, ln_uA, fd_uA, al_uA, ar_uA, zs_uA, ai_uA, kd_uL, ln_uL, fd_uL, ai_uL, ar_uL, zs_uL, al_uL, kd_uR, ln_uR, fd_uR, ai_uR, al_uR, zs_uR, ar_uR, true_and, and_true, Option.toList_some, Option.toList_none, List.cons_append, List.nil_append, catS_nil, catS_int, catS_ref, catS_null, catS_long, cat_int, cat_ref, cat_null, Nat.reduceEqDiff, Nat.reduceLeDiff, Nat.reduceAdd, false_and, and_false, if_false, if_true, ite_true, ite_false, true_or, or_true, false_or, or_false, and_self, forall_const, true_implies, reduceCtorEq, clr_int, clr_ref, clr_null, clr_none, clr_long, va_rf_some, va_rf_none]
          rw [ep]
          refine ⟨fun _ => ?_, fun q => absurd (nI_le (Nat.le_refl _) (by omega)) q⟩
          rw [e0] at ho ⊢
          exact j200 w (wE T e p) _ (some (oct T p (wE T e p - p))) _ (by rw [eS2, if_pos ho]) eV' (fun x hx => by cases hx; exact ⟨oct_lt' ho (by omega), rfl⟩) FrA.rf hP0 va (by rw [hva]; congr 2; unfold comb; cases o <;> rfl)
        | succ j ih =>
          intro i hi ho
          have hcp := hT (p + i)
          have hin : inR (nI (p + i)) 8000 := inR_nI (by omega) (by decide)
          have hob := oct_lt' (T := T) (p := p) (k := i) ho (by omega)
          have bad : ¬ (48 ≤ T (p + i) ∧ T (p + i) ≤ 55) → wp (d + 3) 157 Q 176 [some (.ref m), some (.int (sgn neg)), some (.int (nI (oct T p i))), some (.int (nI (wE T e p))), some (.int (nI (p + i)))] [] w 0 0 := by
            intro c
            simp only [↓s_157_176, ↓s_157_177, kd_uF, ln_uF, ai_uF, al_uF, ar_uF, zs_uF, fd_uF, kd_uA, ln_uA, fd_uA, al_uA, ar_uA, zs_uA, ai_uA, kd_uL, ln_uL, fd_uL, ai_uL, ar_uL, zs_uL, al_uL, kd_uR, ln_uR, fd_uR, ai_uR, al_uR, zs_uR, ar_uR, true_and, and_true, Option.toList_some, Option.toList_none, List.cons_append, List.nil_append, catS_nil, catS_int, catS_ref, catS_null, catS_long, cat_int, cat_ref, cat_null, Nat.reduceEqDiff, Nat.reduceLeDiff, Nat.reduceAdd, false_and, and_false, if_false, if_true, ite_true, ite_false, true_or, or_true, false_or, or_false, and_self, forall_const, true_implies, reduceCtorEq, clr_int, clr_ref, clr_null, clr_none, clr_long, va_rf_some, va_rf_none]
            exact ⟨rfl, h2 (by rw [eS2, if_neg (fun z => c (isO_lt z (by omega)))])⟩
          rw [s_157_146]
          simp only [↓s_157_148, ↓s_157_149, ↓s_157_152, ↓s_157_153, ↓s_157_156, ↓s_157_158, ↓s_157_159, ↓s_157_161, ↓s_157_164, ↓s_157_165, ↓s_157_168, ↓s_157_170, ↓s_157_171, ↓s_157_173, ↓s_157_178, ↓s_157_180, ↓s_157_181, ↓s_157_182, ↓s_157_183, ↓s_157_186, ↓s_157_188, ↓s_157_189, ↓s_157_190, ↓s_157_192, ↓s_157_193, ↓s_157_194, ↓s_157_197, kd_uF, ln_uF, ai_uF, al_uF, ar_uF, zs_uF, fd_uF, kd_uA, ln_uA, fd_uA, al_uA, ar_uA, zs_uA, ai_uA, kd_uL, ln_uL, fd_uL, ai_uL, ar_uL, zs_uL, al_uL, kd_uR, ln_uR, fd_uR, ai_uR, al_uR, zs_uR, ar_uR, true_and, and_true, Option.toList_some, Option.toList_none, List.cons_append, List.nil_append, catS_nil, catS_int, catS_ref, catS_null, catS_long, cat_int, cat_ref, cat_null, Nat.reduceEqDiff, Nat.reduceLeDiff, Nat.reduceAdd, false_and, and_false, if_false, if_true, ite_true, ite_false, true_or, or_true, false_or, or_false, and_self, forall_const, true_implies, reduceCtorEq, clr_int, clr_ref, clr_null, clr_none, clr_long, va_rf_some, va_rf_none, rk, r19, k19, n19, clN (show p + i < 2147483648 by omega), tp (p + i) (by omega)]
          rw [show (48 : Int32) = nI 48 from rfl, show (55 : Int32) = nI 55 from rfl, show (8 : Int32) = nI 8 from rfl, nI_ltI (by omega) (by decide), nI_leI (a := T (p + i)) (b := 55) (by omega) (by decide), nI_1]
          refine ⟨fun q => absurd q (nI_ge (by omega) (by omega)), fun _ => ⟨hin, fun q5 => bad (by omega), fun q5 => ⟨hin, fun q6 => ⟨hin, ?_⟩, fun q6 => bad (by omega)⟩⟩⟩
          rw [pk_mul, nI_add, pk_sub (by omega), show 8 * oct T p i + T (p + i) - 48 = oct T p (i + 1) from by show _ = oct T p i * 8 + (T (p + i) - 48); omega]
          exact ih (i + 1) (by omega) (by unfold isO; rw [ho, Bool.true_and, decide_eq_true_iff]; omega)
      exact lp (wE T e p - p) 0 (by omega) rfl
  · -- the place
    exact j200 w (p + 1) (nI dot) (some dot) _ (by unfold tS; rw [if_pos q]) (by unfold tV; rw [if_pos q]) (fun x hx => by cases hx; exact ⟨hd, rfl⟩) FrA.rf hP0 va (by rw [hva]; congr 2; unfold comb; cases o <;> rfl)
