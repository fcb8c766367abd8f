def LI (H : hs) (n : Nat) : Prop := HX H ∧ HJ H ∧ HS H ∧ (H.1 0 = 0 → H = h00) ∧ H.1 4 ≤ 1000 * n
theorem UB_00 : UB u00 := by
  refine ⟨?_, ?_, ?_, ?_, ?_, ?_, ?_, ?_, ?_, ?_, ?_, ?_, ?_, ?_, ?_⟩ <;> first | exact Nat.zero_lt_succ _ | exact fun _ => Nat.zero_lt_succ _ | exact Nat.zero_le _ | exact fun _ h => absurd h List.not_mem_nil
theorem LI_00 {n : Nat} : LI h00 n := by
  refine ⟨⟨⟨?_, ?_, ?_, ?_, ?_, ?_, ?_, ⟨?_, ?_⟩, ?_, ?_, ?_, ?_, ?_⟩, ?_, ?_⟩, ?_, ?_, ?_, ?_⟩
  · exact Nat.zero_le _
  · exact Nat.zero_lt_succ _
  · exact Nat.zero_le _
  · exact Nat.zero_le _
  · exact Nat.zero_le _
  · exact Nat.zero_le _
  · exact Nat.zero_lt_succ _
  · show (1 : Nat) < 8; decide
  · exact fun h => absurd rfl h
  · exact List.nodup_nil
  · exact fun v h => absurd h List.not_mem_nil
  · exact fun h => absurd rfl h
  · exact fun v h => absurd h (by show ¬ (0 : Nat) = 5; decide)
  · exact fun v => UB_00
  · exact fun v => Nat.zero_le _
  · exact Nat.zero_le _
  · exact fun h => absurd rfl h
  · exact Or.inr rfl
  · exact fun _ => rfl
  · exact Nat.zero_le _
theorem TI_00 : TI t00 := ⟨Nat.zero_le _, fun _ => Nat.zero_lt_succ _⟩
theorem LI.keep {H : hs} {n : Nat} (h : LI H n) : LI H (n + 1) := ⟨h.1, h.2.1, h.2.2.1, h.2.2.2.1, by have := h.2.2.2.2; omega⟩
theorem HX.U {H : hs} {u : Nat} {x : us} (h : HX H) (hx : UB x) (h3 : x.1 3 = (H.2.2 u).1 3) (h5 : x.1 3 = 5 → 1 ≤ x.1 4) (h8 : x.1 8 = (H.2.2 u).1 8) : HX (hU H u x) := by
  refine ⟨h.1.U hx h3 h5, fun v => ?_, h.2.2⟩
  by_cases c : v = u
  · subst c; rw [hU_at, h8]; exact h.2.1 v
  · rw [hU_ne c]; exact h.2.1 v
theorem LI.U {H : hs} {u n : Nat} {x : us} (h : LI H n) (hu : u < H.1 0) (hx : UB x) (h3 : x.1 3 = (H.2.2 u).1 3) (h5 : x.1 3 = 5 → 1 ≤ x.1 4) (h8 : x.1 8 = (H.2.2 u).1 8) : LI (hU H u x) (n + 1) :=
  ⟨h.1.U hx h3 h5 h8, h.2.1, h.2.2.1, fun z => absurd (show H.1 0 = 0 from z) (by omega), by show H.1 4 ≤ _; have := h.2.2.2.2; omega⟩
theorem HX.ready {H : hs} {u : Nat} (h : HX H) (hu : u < H.1 0) (h1 : (H.2.2 u).1 3 ≠ 1) (h2 : H.1 6 ≠ u + 1) : HX (h_ready H u) := by
  refine ⟨h.1.ready hu h1 h2, fun v => ?_, h.2.2⟩
  show ((hU H u (uS (H.2.2 u) 3 1)).2.2 v).1 8 ≤ H.1 5
  by_cases c : v = u
  · subst c; rw [hU_at, uS_ne (by decide)]; exact h.2.1 v
  · rw [hU_ne c]; exact h.2.1 v
theorem HX.disp {H : hs} (h : HX H) : HX (h_disp H) :=
  ⟨h.1.disp, fun v => by rw [h_disp_pm, h_disp_0 (by omega)]; exact h.2.1 v, by rw [h_disp_0 (by omega), h_disp_0 (by omega)]; exact h.2.2⟩
theorem HS_disp {H : hs} : HS (h_disp H) := by
  unfold h_disp
  split
  · rename_i c; exact Or.inl c
  · split
    · rename_i e; exact Or.inr e
    · rename_i u r e
      have e6 : (hSet (hSet (hRow H r) 6 (u + 1)) 7 (H.1 2)).1 6 = u + 1 := by rw [hSet_ne (by decide), hSet_at]
      left
      split
      · intro z; exact absurd (e6.symm.trans z) (Nat.succ_ne_zero _)
      · unfold h_swap
        rw [hSet_ne (by decide), hSet_ne (by decide)]
        intro z; exact absurd (e6.symm.trans z) (Nat.succ_ne_zero _)
theorem LI.disp {H : hs} {n : Nat} (hX : HX H) (hJ : HJ H) (h0 : H.1 0 ≠ 0) (h4 : H.1 4 ≤ 1000 * n) : LI (h_disp H) n :=
  ⟨hX.disp, hJ.disp hX.1, HS_disp, fun z => absurd z (by rw [h_disp_0 (by omega)]; exact h0), by rw [h_disp_0 (by omega)]; exact h4⟩
theorem LI.poke {H : hs} {n : Nat} {u a v : Int32} (h : LI H n) : LI (c_poke H u a v).2 (n + 1) := by
  unfold c_poke
  split
  · rename_i e1 e2 e3
    have hB := hi_ub h.1.1 
    exact h.U (rg_in e1).1 ((hB _).Mem (rg_in e3).1) rfl (h.1.1.2.2.2.2.2.2.2.2.2.2.2.1 _) rfl
  · exact h.keep
theorem LI.store {H : hs} {n : Nat} {u b i v : Int32} (h : LI H n) : LI (c_store H u b i v).2 (n + 1) := by
  unfold c_store
  split
  · rename_i u' p' v' e1 e3
    have hB := hi_ub h.1.1
    have e2 : u' < H.1 0 := by
      unfold c_place at e1
      split at e1
      · rename_i f1 f2 f3
        cases e1
        exact (rg_in f1).1
      · cases e1
    have hb := hB u'
    refine h.U e2 ?_ rfl (h.1.1.2.2.2.2.2.2.2.2.2.2.2.1 _) rfl
    obtain ⟨b0, b1, b2, b3, b4, b5, b6, b7, b8, b9, b10, b11, b12, b13, b14⟩ := hb
    refine ⟨b0, b1, b2, b3, b4, b5, b6, b7, b8, fun k => ?_, b10, b11, b12, b13, b14⟩
    have hv := (rg_in e3).1
    show (va_up _ _ _ _) < 4096
    unfold va_up
    split
    · exact hv
    · exact b9 _
  · exact h.keep
theorem LI.switches {H : hs} {n : Nat} {u v : Int32} (h : LI H n) : LI (c_switches H u v).2 (n + 1) := by
  unfold c_switches
  split
  · rename_i u' v' e1 e3
    have hb := hi_ub h.1.1 u'
    refine h.U (rg_in e1).1 ?_ (uS_ne (by decide)) ?_ (uS_ne (by decide))
    · have hv := (rg_in e3).1
      obtain ⟨b0, b1, b2, b3, b4, b5, b6, b7, b8, b9, b10, b11, b12, b13, b14⟩ := hb
      exact ⟨b0, b1, b2, b3, b4, hv, b6, b7, b8, b9, b10, b11, b12, b13, b14⟩
    · rw [uS_ne (by decide), uS_ne (by decide)]; exact h.1.1.2.2.2.2.2.2.2.2.2.2.2.1 _
  · exact h.keep
theorem LI.start {H : hs} {n : Nat} {u a : Int32} (h : LI H n) : LI (c_start H u a).2 (n + 1) := by
  unfold c_start
  split
  · rename_i u' a' e1 e3
    split
    · rename_i q
      have hu := (rg_in e1).1
      have hb := hi_ub h.1.1 u'
      have hU1 : LI (hU H u' (uS (H.2.2 u') 0 a')) (n + 1) := by
        refine h.U hu (hb.S0 (rg_in e3).1) (uS_ne (by decide)) ?_ (uS_ne (by decide))
        rw [uS_ne (by decide), uS_ne (by decide)]; exact h.1.1.2.2.2.2.2.2.2.2.2.2.2.1 _
      have s3 : ((hU H u' (uS (H.2.2 u') 0 a')).2.2 u').1 3 = 0 := by rw [hU_at, uS_ne (by decide)]; exact q
      refine LI.disp (hU1.1.ready hu (by rw [s3]; decide) (hU1.1.1.run (by rw [s3]; decide))) hU1.2.1 (by show H.1 0 ≠ 0; omega) (by show H.1 4 ≤ _; have := h.2.2.2.2; omega)
    · exact h.keep
  · exact h.keep
theorem LI.key {H : hs} {n : Nat} {u c : Int32} (h : LI H n) : LI (c_key H u c).2 (n + 1) := by
  unfold c_key
  split
  · rename_i u' c' e1 e3
    have hu := (rg_in e1).1
    have hb := hi_ub h.1.1 u'
    have h5 := h.1.1.2.2.2.2.2.2.2.2.2.2.2.1 u'
    split
    · refine h.U hu ?_ (uS_ne (by decide)) ?_ (uS_ne (by decide))
      · obtain ⟨b0, b1, b2, b3, b4, b5, b6, b7, b8, b9, b10, b11, b12, b13, b14⟩ := hb
        exact ⟨b0, b1, b2, b3, b4, b5, Nat.mod_lt _ (by decide), b7, b8, b9, b10, b11, b12, b13, b14⟩
      · rw [uS_ne (by decide), uS_ne (by decide)]; exact h5
    · rename_i q
      have hl : (uIn (H.2.2 u')).length < 16 := by
        have := hb.2.2.2.2.2.2.2.2.2.2.2.1
        omega
      have hU1 : LI (hU H u' (uInp (H.2.2 u') (uIn (H.2.2 u') ++ [c']))) (n + 1) := h.U hu (hb.push (rg_in e3).1 hl) rfl h5 rfl
      have hk := h.1.1.key hu (rg_in e3).1 hl
      have k1 : (h_key H u' c').1 = H.1 := by unfold h_key; split <;> rfl
      refine LI.disp ⟨hk, ?_, ?_⟩ ?_ ?_ ?_
      · intro v
        have := hU1.1.2.1
        rw [k1]
        unfold h_key
        split
        · rename_i s
          have s3 : ((hU H u' (uInp (H.2.2 u') (uIn (H.2.2 u') ++ [c']))).2.2 u').1 3 = 3 := by rw [hU_at]; exact s
          exact (hU1.1.ready hu (by rw [s3]; decide) (hU1.1.1.run (by rw [s3]; decide))).2.1 v
        · exact this v
      · rw [k1]; exact h.1.2.2
      · unfold HJ; rw [k1]; exact h.2.1
      · rw [k1]; omega
      · rw [k1]; have := h.2.2.2.2; omega
  · exact h.keep
theorem LI.run {H : hs} {n : Nat} {k : Int32} (h : LI H n) : LI (c_run H k).2 (n + 1) := by
  unfold c_run
  split
  · exact h.keep
  · rename_i h0
    split
    · rename_i j e
      have hj := (rg_in e).1
      refine ⟨h.1.steps, h.2.1.steps h.1, ?_, fun z => absurd z (by rw [h_steps_0 (by omega)]; exact h0), ?_⟩
      · show HS (h_steps H j)
        cases j with
        | zero => exact h.2.2.1
        | succ j => exact HS_disp
      · show (h_steps H j).1 4 ≤ _
        rw [h_steps_4]; have := h.2.2.2.2; omega
    · exact h.keep
theorem LI.opened {H : hs} {n : Nat} {a b c d : Int32} (h : LI H n) : LI (c_open H a b c d).2 (n + 1) := by
  unfold c_open
  split
  · rename_i q
    obtain ⟨q0, qa, qb, qc, qd⟩ := q
    have ea := rb_in qa (by decide) (by decide)
    have eb := rb_in qb (by decide) (by decide)
    have ec := rb_in qc (by decide) (by decide)
    have ed := rb_in qd (by decide) (by decide)
    have e := h.2.2.2.1 q0
    subst e
    generalize a.toNatClampNeg = A at *
    generalize b.toNatClampNeg = B at *
    generalize c.toNatClampNeg = C at *
    generalize d.toNatClampNeg = D at *
    have f0 : (h_open h00 A B C D).1 0 = A := by unfold h_open; rw [hSet_ne (by decide), hSet_ne (by decide), hSet_ne (by decide), hSet_at]
    have f1 : (h_open h00 A B C D).1 1 = B := by unfold h_open; rw [hSet_ne (by decide), hSet_ne (by decide), hSet_at]
    have f2 : (h_open h00 A B C D).1 2 = C := by unfold h_open; rw [hSet_ne (by decide), hSet_at]
    have f3 : (h_open h00 A B C D).1 3 = D := by unfold h_open; rw [hSet_at]
    have fj : ∀ j, 4 ≤ j → (h_open h00 A B C D).1 j = if j = 9 then 1 else 0 := fun j hj => by unfold h_open; rw [hSet_ne (by omega), hSet_ne (by omega), hSet_ne (by omega), hSet_ne (by omega)]; rfl
    have f4 := fj 4 (by decide)
    have f5 := fj 5 (by decide)
    have f6 := fj 6 (by decide)
    have f7 := fj 7 (by decide)
    have f8 := fj 8 (by decide)
    have f9 := fj 9 (by decide)
    refine ⟨⟨⟨by rw [f0]; omega, by rw [f1]; omega, by rw [f2]; omega, by rw [f3]; omega, by rw [f6]; exact Nat.zero_le _, by rw [f7]; exact Nat.zero_le _, by rw [f8]; decide, ⟨by rw [f9]; decide, fun _ => ⟨by rw [f9, f1]; exact eb.2.1, by rw [f1]; omega, by rw [f9]; decide, by rw [f2]; omega, by rw [f3]; omega⟩⟩, List.nodup_nil, fun v hv => absurd hv List.not_mem_nil, fun z => absurd f6 z, fun v z => absurd z (by show ¬ (0 : Nat) = 5; decide), fun v => UB_00⟩, fun v => Nat.zero_le _, by rw [f5]; exact Nat.zero_le _⟩, fun z => absurd f6 z, Or.inr rfl, fun z => absurd z (by rw [f0]; omega), by rw [f4]; exact Nat.zero_le _⟩
  · exact h.keep
theorem LI.asm {H : hs} {t : tp} {n : Nat} {u : Int32} (h : LI H n) (hB : ∀ v, UB ((c_asm H t u).2.1.2.2 v)) : LI (c_asm H t u).2.1 (n + 1) := by
  unfold c_asm at hB ⊢
  split at hB
  · exact h.keep
  · rename_i k e
    split at hB
    · rename_i q; rw [if_pos q]; exact h.keep
    · rename_i q
      rw [if_neg q]
      split at hB
      · rename_i q2; rw [if_pos q2]; exact h.keep
      · rename_i q2
        rw [if_neg q2]
        have := hB k
        rw [hU_at] at this
        exact h.U (rg_in e).1 this rfl (h.1.1.2.2.2.2.2.2.2.2.2.2.2.1 _) rfl
theorem TI.asm {H : hs} {t : tp} {u : Int32} (h : TI t) : TI (c_asm H t u).2.2 := by
  unfold c_asm
  split
  · exact h
  · split
    · exact ⟨Nat.zero_le _, h.2⟩
    · split
      · exact ⟨Nat.zero_le _, h.2⟩
      · exact ⟨Nat.zero_le _, h.2⟩
theorem TI.feed {t : tp} {a b c d e : Int32} (h : TI t) : TI (c_feed t a b c d e).2 := by
  unfold c_feed
  split
  · rename_i q
    have h1 := h.lay (v := a) (by omega)
    have h2 := h1.lay (v := b) (by show t.2.1 + 4 + 4 ≤ 8000; omega)
    have h3 := h2.lay (v := c) (by show t.2.1 + 4 + 4 + 4 ≤ 8000; omega)
    have h4 := h3.lay (v := d) (by show t.2.1 + 4 + 4 + 4 + 4 ≤ 8000; omega)
    exact h4.lay (v := e) (by show t.2.1 + 4 + 4 + 4 + 4 + 4 ≤ 8000; omega)
  · exact h
theorem TI.cut {t : tp} {n : Int32} (h : TI t) : TI (c_end t n).2 := by
  unfold c_end
  split
  · rename_i k e
    have := (rg_in e).1
    have h1 := h.1
    exact ⟨by show k ≤ 8000; omega, h.2⟩
  · exact h
theorem c_feed_2 {t : tp} {a b c d e : Int32} : (c_feed t a b c d e).2.2.2 = t.2.2 := by unfold c_feed; split <;> rfl
theorem c_end_2 {t : tp} {n : Int32} : (c_end t n).2.2.2 = t.2.2 := by unfold c_end; split <;> rfl
