theorem pr_of {args : Array Value} {s : State} (h : (Jvm.Cond.and given_1 narrow_1).before args s = true) {k : Nat} {c : Cond} (hk : pfl[k]? = some c) : c.before args s = true := flat_of_before _ h c (List.mem_of_getElem? hk)
theorem ar_fact {args : Array Value} {s : State} (h : (Jvm.Cond.and given_1 narrow_1).before args s = true) {i : Nat} (hi : i < 4) : ∃ a : Nat, (aTm i).eval args s none [] s = some (.ref a) ∧ va_T .int a (gWd i).length (fun j => .int (rn ((gWd i).getD j ([], 0)).2)) (oB s) s s.heap := by
  obtain ⟨h1, h2, h3⟩ := pr_arr i hi
  have hl : (gWd i).length < 2 ^ 31 := by
    rcases (show i = 0 ∨ i = 1 ∨ i = 2 ∨ i = 3 by omega) with rfl | rfl | rfl | rfl <;> decide
  exact va_Tof (f := fun j => .int (rn ((gWd i).getD j ([], 0)).2)) (A := oB s) hl (pr_of h h1) (va_eqt (pr_of h h2)) (fun j hj => va_eqt (pr_of h (h3 j hj))) oB_not
theorem tx_fact {args : Array Value} {s : State} (h : (Jvm.Cond.and given_1 narrow_1).before args s = true) {i : Nat} (hi : i < 4) : ∃ a v : Nat, (sTm i).eval args s none [] s = some (.ref a) ∧ va_O "java/lang/String" a (oB s) s s.heap ∧ va_OF "java/lang/String" "coder" "B" (.int 0) a (oB s) s s.heap ∧ va_OF "java/lang/String" "value" "[B" (.ref v) a (oB s) s s.heap ∧ va_T .byte v (flat (gWd i)).length (fun j => .int (nI ((flat (gWd i)).getD j 0))) (oB s) s s.heap := by
  obtain ⟨h1, h2, h3, h4, h5⟩ := pr_str i hi
  have hl : (flat (gWd i)).length < 2 ^ 31 := by
    rcases (show i = 0 ∨ i = 1 ∨ i = 2 ∨ i = 3 by omega) with rfl | rfl | rfl | rfl <;> decide
  obtain ⟨a, c, cA, kA, q1, q2, q3, q4, q5, q6, -⟩ := Cond.exactly_spec (args := args) (first := s) (o := none) (s := s) (idx := []) (t := sTm i) (cls := "java/lang/String") (pr_of h h1)
  obtain ⟨t, ht, hT⟩ := va_Tof (f := fun j => .int (nI ((flat (gWd i)).getD j 0))) (A := oB s) hl (pr_of h h3) (va_eqt (pr_of h h4)) (fun j hj => va_eqt (pr_of h (h5 j hj))) oB_not
  exact ⟨a, t, q1, ⟨cA, q3, q5, by rw [q6]; exact q2, oB_not a (Array.getElem?_eq_some_iff.mp q3).1⟩, vk_OFof q1 (va_eqt (pr_of h h2)) oB_not, vk_OFof q1 ht oB_not, hT⟩
theorem st_fact {args : Array Value} {s : State} (hts : ∀ w ∈ lw_tbl, w.before args s = true) (h : (Jvm.Cond.and given_1 narrow_1).before args s = true) : ∃ st : Nat → Value, (∀ (j : Nat) (x : String × String × String), stL[j]? = some x → va_Z x.1 x.2.1 x.2.2 (st j) (oB s) s s.heap) ∧ st 1 = .int 1 ∧ (∃ y, st 2 = va_rf y) ∧ ∀ i, i < 4 → ∃ a : Nat, st (aJ i) = .ref a ∧ va_T .int a (gWd i).length (fun j => .int (rn ((gWd i).getD j ([], 0)).2)) (oB s) s s.heap := by
  obtain ⟨p1, p2, p3, p4, p5⟩ := pr_int
  have e1 := va_eqt (pr_of h p1)
  have e3 := va_eqt (pr_of h p3)
  have e4 := va_eqt (pr_of h p4)
  have e5 := va_eqt (pr_of h p5)
  have e2 : ∃ y, (sjT 2).eval args s none [] s = some (va_rf y) := by
    have hq := pr_of h p2
    cases hv : (sjT 2).eval args s none [] s with
    | none => simp [Cond.before, Cond.holds, Cond.value, hv] at hq
    | some w =>
      simp only [Cond.before, Cond.holds, Cond.value, hv] at hq
      cases w with
      | null => exact ⟨none, rfl⟩
      | ref t => exact ⟨some t, rfl⟩
      | _ => simp at hq
  obtain ⟨y, e2⟩ := e2
  have ea : ∀ i, i < 4 → ∃ a : Nat, (sjT (aJ i)).eval args s none [] s = some (.ref a) ∧ va_T .int a (gWd i).length (fun j => .int (rn ((gWd i).getD j ([], 0)).2)) (oB s) s s.heap := fun i hi => by
    rw [← (aJ_ok i hi).1]; exact ar_fact h hi
  refine ⟨fun j => ((sjT j).eval args s none [] s).getD .null, fun j x hx => ?_, by show ((sjT 1).eval args s none [] s).getD .null = _; rw [e1]; rfl, ⟨y, by show ((sjT 2).eval args s none [] s).getD .null = _; rw [e2]; rfl⟩, fun i hi => ?_⟩
  · have hs : sJ j = x := by unfold sJ; rw [List.getD_eq_getElem?_getD, hx]; rfl
    have ex : ∃ v, (sjT j).eval args s none [] s = some v := by
      have hj : j < 9 := (List.getElem?_eq_some_iff.mp hx).1
      rcases (show j = 0 ∨ j = 1 ∨ j = 2 ∨ j = 3 ∨ j = 4 ∨ j = 5 ∨ j = 6 ∨ j = 7 ∨ j = 8 by omega) with rfl | rfl | rfl | rfl | rfl | rfl | rfl | rfl | rfl
      · obtain ⟨a, ha, _⟩ := ea 0 (by decide); exact ⟨_, ha⟩
      · exact ⟨_, e1⟩
      · exact ⟨_, e2⟩
      · exact ⟨_, e3⟩
      · exact ⟨_, e4⟩
      · exact ⟨_, e5⟩
      · obtain ⟨a, ha, _⟩ := ea 1 (by decide); exact ⟨_, ha⟩
      · obtain ⟨a, ha, _⟩ := ea 2 (by decide); exact ⟨_, ha⟩
      · obtain ⟨a, ha, _⟩ := ea 3 (by decide); exact ⟨_, ha⟩
    obtain ⟨v, hv⟩ := ex
    have ok := st_ok x (List.mem_of_getElem? hx)
    show va_Z x.1 x.2.1 x.2.2 (((sjT j).eval args s none [] s).getD .null) (oB s) s s.heap
    rw [hv]
    subst hs
    exact va_Zof (hts _ ok.1) (hts _ ok.2) hv oB_not
  · obtain ⟨a, ha, hT⟩ := ea i hi
    exact ⟨a, by show ((sjT (aJ i)).eval args s none [] s).getD .null = _; rw [ha]; rfl, hT⟩
theorem arr_fact {args : Array Value} {s : State} {ty : FieldType} (h : (Cond.arrayClass ty).before args s = true) : ∃ c : ClassId, ArrOfT s c ty ∧ s.vm.findClass ("[" ++ ty.toString) = some c := by
  obtain ⟨c, k, comp, h1, h2, h3⟩ := Cond.arrayClass_spec h
  exact ⟨c, fun n z => ⟨fun k h => (by cases h), k, h2, comp, h3⟩, h1⟩
theorem first_world {args : Array Value} {s : State} {b L : Nat} {xs : Nat → Int32} (hf : heapFits s = true) (hts : ∀ w ∈ lw_tbl, w.before args s = true) (h : (Jvm.Cond.and given_1 narrow_1).before args s = true) (hX : va_X b L xs s s.heap) (hL : L ≤ 3072) : ∃ (D : va_G) (tA : Nat → ClassId) (w : aw), kk D tA s ∧ rp D tA s.heap.size w s s.heap ∧ SE w (zs w) ∧ b < zs w ∧ SC w b L xs := by
  obtain ⟨st, z1, z2, z3, z4⟩ := st_fact hts h
  have hD : ∀ ci : Nat, ∃ q : ClassId × (Nat → Nat), ∀ r : vw_C, vwCl[ci]? = some r → u_Kn s r.1 r.2.1 r.2.2 q.1 q.2 := by
    intro ci
    cases e : vwCl[ci]? with
    | none => exact ⟨(0, fun _ => 0), fun r hr => by cases hr⟩
    | some r =>
      have h1 := List.all_eq_true.mp inst_ok0 ci (List.mem_range.mpr (lt_of_vw e))
      obtain ⟨x, hx, h2⟩ := List.any_eq_true.mp h1
      obtain ⟨r', hr', -, hin, -⟩ := nT_ok (of_decide_eq_true h2)
      cases e.symm.trans hr'
      obtain ⟨cC, iS, hK⟩ := u_known (C := r.1) (T := r.2.1) (N := r.2.2) (hts_wsG hts) (ly_in e) (hts_wsG hts _ hin)
      exact ⟨(cC, iS), fun r2 hr2 => by cases hr2; exact hK⟩
  obtain ⟨dq, hdq⟩ := Classical.axiomOfChoice hD
  obtain ⟨a1, a2, a3, a4, a5⟩ := ac_ok0
  obtain ⟨cI, i1, i2⟩ := arr_fact (hts _ a1)
  obtain ⟨cB, b1, b2⟩ := arr_fact (hts _ a2)
  obtain ⟨cL, l1, l2⟩ := arr_fact (hts _ a3)
  obtain ⟨cZ, y1, y2⟩ := arr_fact (hts _ a4)
  obtain ⟨comp, cU, kU, u1, u2, u3, u4, u5⟩ := Cond.arrayOver_spec (hts _ a5)
  have hK : ∀ i : Nat, ∃ a : Nat, i < 4 → (sTm i).eval args s none [] s = some (.ref a) ∧ ∃ v : Nat, va_O "java/lang/String" a (oB s) s s.heap ∧ va_OF "java/lang/String" "coder" "B" (.int 0) a (oB s) s s.heap ∧ va_OF "java/lang/String" "value" "[B" (.ref v) a (oB s) s s.heap ∧ va_T .byte v (flat (gWd i)).length (fun j => .int (nI ((flat (gWd i)).getD j 0))) (oB s) s s.heap := by
    intro i
    by_cases hi : i < 4
    · obtain ⟨a, v, q⟩ := tx_fact h hi
      exact ⟨a, fun _ => ⟨q.1, v, q.2⟩⟩
    · exact ⟨0, fun z => absurd z hi⟩
  obtain ⟨adK, hadK⟩ := Classical.axiomOfChoice hK
  obtain ⟨tA, htA⟩ : ∃ tA : Nat → ClassId, tA = fun t => if t = 20 then cI else if t = 21 then cB else if t = 22 then cL else if t = 23 then cZ else if t = 24 then cU else adK (t - 100) := ⟨_, rfl⟩
  have t20 : tA 20 = cI := by rw [htA]; rfl
  have t21 : tA 21 = cB := by rw [htA]; rfl
  have t22 : tA 22 = cL := by rw [htA]; rfl
  have t23 : tA 23 = cZ := by rw [htA]; rfl
  have t24 : tA 24 = cU := by rw [htA]; rfl
  have t100 : ∀ i, tA (100 + i) = adK i := fun i => by
    rw [htA]
    show (if 100 + i = 20 then cI else if 100 + i = 21 then cB else if 100 + i = 22 then cL else if 100 + i = 23 then cZ else if 100 + i = 24 then cU else adK (100 + i - 100)) = adK i
    rw [if_neg (by omega), if_neg (by omega), if_neg (by omega), if_neg (by omega), if_neg (by omega), show 100 + i - 100 = i by omega]
  have hsc := w0_sc (tA := tA) (st := st) hX hL
  refine ⟨(fun c => (dq c).1, fun c => (dq c).2), tA, w0 s tA st, ⟨⟨fun c q hq => hdq c q hq, fun k q hk => by simp at hk⟩, fun t ty ht => ?_, fun x hx => ?_, va_AO.of (hts _ a5), fun i x hx => ?_⟩, w0_rp z1, ?_, hsc.1, hsc.2⟩
  · unfold tyN at ht
    split at ht <;> first | cases ht; done | skip
    · cases ht; rw [t20]; exact ⟨i1, i2⟩
    · cases ht; rw [t21]; exact ⟨b1, b2⟩
    · cases ht; rw [t22]; exact ⟨l1, l2⟩
    · cases ht; rw [t23]; exact ⟨y1, y2⟩
    · cases ht; rw [t24]; exact ⟨fun n z => ⟨fun k h => (by cases h), kU, u3, comp, u4⟩, kU, comp, u3, u4, u1, u5⟩
  · exact va_Nw.of rfl (hts _ (cN_ok x hx))
  · have hi : i < 4 := (List.getElem?_eq_some_iff.mp hx).1
    have hg : gLx i = x := by unfold gLx; rw [List.getD_eq_getElem?_getD, hx]; rfl
    rw [t100]
    have ev := (hadK i hi).1
    unfold sTm at ev
    rw [hg] at ev
    exact vk_R.of (hts _ (gL_ok x (List.mem_of_getElem? hx))) ev
  · have hz : 0 < s.heap.size := Nat.lt_of_le_of_lt (Nat.zero_le _) hsc.1
    refine ⟨hz, ⟨(w0_st (by decide) (by decide)).trans z2, ?_⟩, fun i hi => ⟨?_, ?_⟩⟩
    · obtain ⟨y, hy⟩ := z3
      exact ⟨y, (w0_st (by decide) (by decide)).trans hy⟩
    · obtain ⟨v, q1, q2, q3, q4⟩ := (hadK i hi).2
      have hb : (flat (gWd i)).length < 1000 := by
        rcases (show i = 0 ∨ i = 1 ∨ i = 2 ∨ i = 3 by omega) with rfl | rfl | rfl | rfl <;> decide
      refine ⟨adK i, ?_, w0_tx hf q1 q2 q3 q4 hb⟩
      rw [← t100 i]
      exact (w0_rp (D := (fun c => (dq c).1, fun c => (dq c).2)) z1).2.2.2.2.2.2 i hi
    · obtain ⟨a, q1, q2⟩ := z4 i hi
      have hb : (gWd i).length < 1000 := by
        rcases (show i = 0 ∨ i = 1 ∨ i = 2 ∨ i = 3 by omega) with rfl | rfl | rfl | rfl <;> decide
      have hj : aJ i < 100 := by
        rcases (show i = 0 ∨ i = 1 ∨ i = 2 ∨ i = 3 by omega) with rfl | rfl | rfl | rfl <;> decide
      refine ⟨a, ?_, w0_vl q2 hb⟩
      rw [(aJ_ok i hi).2, w0_st (by omega) (by omega), show 10000 + aJ i - 10000 = aJ i by omega]
      exact q1
