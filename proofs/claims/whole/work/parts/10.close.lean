section Cls
variable {p : Program} {l : Launch} {e : Env} {R : Room} {s : State} {m : MethodId} {args : Array Value} {below : List Frame} {meth : Method} {c : Code} {D : va_G} {tA : Nat → ClassId} {B y d : Nat} {Z : State → Prop} {C : wC} {Q : wQ}
variable {k pc n : Nat} {L : List (Option Value)} {st r : List Value} {w : aw} {cn sn a ci f : Nat}
theorem S_grow {A : Nat → Prop} {H0 H H1 : Heap} {locs : List Loc} (h : va_S A H0 H locs) (z : H1.size = H.size + 1) (oq : ∀ q : Nat, q < H.size → H1[q]? = H[q]?) : va_S A H0 H1 locs :=
  ⟨by rw [z]; exact Nat.le_succ_of_le h.1, fun q h1 h2 => (oq q (Nat.lt_of_lt_of_le h1 h.1)).trans (h.2.1 q h1 h2), h.2.2⟩
theorem j_new (X : cx p R s m args meth c D tA B y d) (hd : decode (mB y) pc = .ok (.new k, 3)) (hf : nT (mO y) k = some ci) (h1 : cn + 1 ≤ mC y) (h2 : sn + clF ci ≤ mS y) (h : J p l e R s m args below meth c D tA B y Z (pc + 3) L (.ref (zs w) :: st) (nw w (ci + 1) 0) (cn + 1) (sn + clF ci)) : J p l e R s m args below meth c D tA B y Z pc L st w cn sn := by
  obtain ⟨hx, hb, hml, hown, hts, hnm, hK, ⟨r1, r2, r3, r4⟩, hB⟩ := X
  intro H locs ls hr hS hl hL hcn hsn
  obtain ⟨rr, hc, k1, k2, k3⟩ := nT_ok hf
  have hKn := hK.1.1 ci rr hc
  rw [clF_of hc] at h h2
  have hv := vwCl_lt hc
  refine W.newcK hx hb hown (hts _ k1) (hts _ k2) (hts _ k3) rfl hd (by rw [r3]; exact h1) (by rw [r4]; exact h2) hKn.2.1 rfl fun H1 kC hkC e1 z1 o1 => ?_
  have hrn : rp D tA B (nw w (ci + 1) 0) s H1 := by
    refine hr.born ⟨by omega, by omega⟩ z1 o1 (fun ci' r' hci hr' => ?_) (fun hI => ?_) (fun hI => ?_) (fun hI => ?_)
    · have : ci' = ci := by omega
      subst this
      cases hc.symm.trans hr'
      refine (u_born (tyOf ci') hts (ly_in hc) hKn hkC e1 (ly_ty hc)).to (fun j hj => ?_)
      unfold dfV
      rw [show (64 * ci' + j) / 64 = ci' by omega, show (64 * ci' + j) % 64 = j by omega]
    · have := isI_ne hI; omega
    · omega
    · omega
  have hz : H.size = zs w := hr.2.2.1
  rw [← hz] at h
  exact h H1 locs ls hrn (S_grow hS z1 o1) hl hL h1 h2
theorem aTy_ok {t : ArrayType} {kn sz : Nat} (h : aTy t = some (kn, sz)) : ∃ ty, newarray.typeOf t = ty ∧ componentBytes ty = sz ∧ tyN kn = some ty ∧ Cond.arrayClass ty ∈ wsG ∧ ((isI kn ∧ defaultValue ty = .int 0) ∨ (kn = 22 ∧ defaultValue ty = .long 0)) := by
  unfold aTy at h
  split at h
  · cases h; exact ⟨.int, rfl, rfl, rfl, ac_in (p := (acP.lookup .int).getD 0) (by decide +kernel), Or.inl ⟨by simp [isI], rfl⟩⟩
  · cases h; exact ⟨.byte, rfl, rfl, rfl, ac_in (p := (acP.lookup .byte).getD 0) (by decide +kernel), Or.inl ⟨by simp [isI], rfl⟩⟩
  · cases h; exact ⟨.long, rfl, rfl, rfl, ac_in (p := (acP.lookup .long).getD 0) (by decide +kernel), Or.inr ⟨rfl, rfl⟩⟩
  · cases h; exact ⟨.boolean, rfl, rfl, rfl, ac_in (p := (acP.lookup .boolean).getD 0) (by decide +kernel), Or.inl ⟨by simp [isI], rfl⟩⟩
  · cases h
theorem va_RA_nm {U : State} {cA : ClassId} {ty : FieldType} (h : va_RA U cA ty) : U.vm.findClass ("[" ++ ty.toString) = some cA := by
  cases ty with
  | object C => obtain ⟨_, _, _, _, _, h⟩ := h; exact h
  | _ => exact h
theorem j_newarray (X : cx p R s m args meth c D tA B y d) {t : ArrayType} {v : Int32} {kn sz : Nat} (hd : decode (mB y) pc = .ok (.newarray t, 2)) (hf : aTy t = some (kn, sz)) (h0 : ¬ v < 0) (hby : v.toNatClampNeg * sz ≤ 536870912) (h1 : cn + 1 ≤ mC y) (h2 : sn + v.toNatClampNeg ≤ mS y) (h : J p l e R s m args below meth c D tA B y Z (pc + 2) L (.ref (zs w) :: r) (nw w kn v.toNatClampNeg) (cn + 1) (sn + v.toNatClampNeg)) : J p l e R s m args below meth c D tA B y Z pc L (.int v :: r) w cn sn := by
  obtain ⟨hx, hb, hml, hown, hts, hnm, hK, ⟨r1, r2, r3, r4⟩, hB⟩ := X
  intro H locs ls hr hS hl hL hcn hsn
  obtain ⟨ty, k1, k2, k3, k4, k5⟩ := aTy_ok hf
  subst k1
  refine va_newaK hx hb (hts _ k4) rfl hd rfl h0 rfl (by rw [k2]; exact hby) (by rw [r3]; exact h1) (by rw [r4]; exact h2) rfl fun H1 cA e1 z1 o1 hAr hNm => ?_
  have hcA : cA = tA kn := Option.some.inj (hNm.symm.trans (va_RA_nm (hK.2.1 kn _ k3).2))
  subst hcA
  have hrn : rp D tA B (nw w kn v.toNatClampNeg) s H1 := by
    have hk30 : kn < 30 ∧ kn ≠ 10 + 1 := by
      rcases k5 with ⟨q, -⟩ | ⟨q, -⟩
      · have := isI_ne q; omega
      · omega
    refine hr.born hk30 z1 o1 (fun ci' r' hci hr' => ?_) (fun hI => ?_) (fun hI => ?_) (fun hI => ?_)
    · have := vwCl_lt hr'
      rcases k5 with ⟨q, -⟩ | ⟨q, -⟩
      · have := isI_ne q; omega
      · omega
    · rcases k5 with ⟨-, q⟩ | ⟨q, -⟩
      · rw [e1, q]
      · have := isI_ne hI; omega
    · rcases k5 with ⟨q, -⟩ | ⟨-, q⟩
      · have := isI_ne q; omega
      · subst hI; rw [e1, q]
    · rcases k5 with ⟨q, -⟩ | ⟨q, -⟩
      · have := isI_ne q; omega
      · omega
  have hz : H.size = zs w := hr.2.2.1
  rw [← hz] at h
  exact h H1 locs ls hrn (S_grow hS z1 o1) hl hL h1 h2
theorem j_anewarray (X : cx p R s m args meth c D tA B y d) {v : Int32} (hd : decode (mB y) pc = .ok (.anewarray k, 3)) (hf : nT (mO y) k = some ci) (hu : ci + 1 = 7) (h0 : ¬ v < 0) (hby : v.toNatClampNeg * 4 ≤ 536870912) (h1 : cn + 1 ≤ mC y) (h2 : sn + v.toNatClampNeg ≤ mS y) (h : J p l e R s m args below meth c D tA B y Z (pc + 3) L (.ref (zs w) :: r) (nw w 24 v.toNatClampNeg) (cn + 1) (sn + v.toNatClampNeg)) : J p l e R s m args below meth c D tA B y Z pc L (.int v :: r) w cn sn := by
  obtain ⟨hx, hb, hml, hown, hts, hnm, hK, ⟨r1, r2, r3, r4⟩, hB⟩ := X
  intro H locs ls hr hS hl hL hcn hsn
  obtain ⟨rr, hc, k1, -, -⟩ := nT_ok hf
  have hrr : rr.1 = "LineMonitor$User" := by
    rw [(cn_ok hc).1, show ci = 7 - 1 by omega]
    rfl
  rw [hrr] at k1
  refine W.anew hx hb hown (hts _ k1) (va_AO.use hK.2.2.2.1) rfl hd rfl h0 hby (by rw [r3]; exact h1) (by rw [r4]; exact h2) fun cA kA comp f1 f2 f3 f4 => ?_
  have hcA : cA = tA 24 := Option.some.inj (f1.symm.trans (va_RA_nm (hK.2.1 24 _ rfl).2))
  subst hcA
  generalize hH1 : H.push ({ cls := tA 24, slots := Array.replicate v.toNatClampNeg .null, vm := .none } : Cell) = H1
  have z1 : H1.size = H.size + 1 := by rw [← hH1, Array.size_push]
  have e1 : H1[H.size]? = some (arrV (tA 24) v.toNatClampNeg (fun _ => .null)) := by rw [← hH1, Array.getElem?_push_size, ← arrV_new]
  have o1 : ∀ q : Nat, q < H.size → H1[q]? = H[q]? := fun q hq => by rw [← hH1, Array.getElem?_push, if_neg (Nat.ne_of_lt hq)]
  have hrn : rp D tA B (nw w 24 v.toNatClampNeg) s H1 := by
    refine hr.born (by decide) z1 o1 (fun ci' r' hci hr' => ?_) (fun hI => ?_) (fun hI => ?_) (fun hI => ?_)
    · have := vwCl_lt hr'; omega
    · have := isI_ne hI; omega
    · omega
    · exact e1
  have hz : H.size = zs w := hr.2.2.1
  rw [← hz] at h
  exact h H1 locs ls hrn (S_grow hS z1 o1) hl hL h1 h2
/-- a call's room -/
theorem alc_le {z : Nat} {K : Nat → Nat → Prop} (hcn : cn ≤ mC y) (hsn : sn ≤ mS y) (h : alc y z cn sn K) : cn + mC z ≤ mC y ∧ sn + mS z ≤ mS y ∧ K (cn + mC z) (sn + mS z) := by
  unfold alc at h
  split at h
  · rename_i hz
    rw [hz.1, hz.2]
    exact ⟨hcn, hsn, h⟩
  · exact h
theorem monitorRoom0 (m : MethodId) (pc : Nat) (ls : Array Slot) (st : List Value) : (F0 m pc ls st).monitorRoom = 0 := rfl
theorem roomS {rest : List Value} (h : catS rest ≤ 8) : 2 * (F0 m pc (#[] : Array Slot) []).monitorRoom + (rest.map fun v => v.category).sum ≤ 8 := by
  rw [monitorRoom0]; simpa [catS] using h
theorem j_invokevirtual (X : cx p R s m args meth c D tA B y d) (hC : sndC l D tA B d C) {z b : Nat} {As : List Value} (hd : decode (mB y) pc = .ok (.invokevirtual k, 3)) (hf : cT (mO y) k = some (0, z)) (hA : As.length = mA z) (hk : kd w b = mO z + 1) (hv : clk (mO z) = true) (h : wcall C y z pc (.ref b :: As) r L w cn sn (J p l e R s m args below meth c D tA B y Z)) : J p l e R s m args below meth c D tA B y Z pc L (As.reverse ++ .ref b :: r) w cn sn := by
  obtain ⟨z0, zm, w1, w2, w3, w4⟩ := cT_0 hf
  have CB := callB_go X z0 zm w3 w1
  obtain ⟨hx, hb, hml, hown, hts, hnm, hK, hR, hB⟩ := X
  intro H locs ls hr hS hl hL hcn hsn
  obtain ⟨hcat, h⟩ := h
  obtain ⟨h1, h2, h⟩ := alc_le hcn hsn h
  have hM := hC z (.ref b :: As) w _ z0 zm h
  have hrv : ∃ cellB : Cell, H[b]? = some cellB ∧ cellB.vm.isStatics = false ∧ s.vm.findClass (mN z).cls = some cellB.cls := by
    unfold clk at hv
    rw [Bool.or_eq_true, beq_iff_eq] at hv
    rcases hv with hv | hv
    · obtain ⟨rr, hc⟩ := Option.isSome_iff_exists.mp hv
      have hrv := recv_go hr hK hk hc
      rw [(cn_ok hc).1, (mO_ok zm).1] at hrv
      exact hrv
    · rw [hv] at hk
      obtain ⟨av, f1, f2, ⟨cell, g1, g2, g3, -⟩, f4, f5⟩ := hr.2.2.2.2.2.1.2.2 b hk
      refine ⟨cell, g1, g2, ?_⟩
      rw [← (mO_ok zm).1, hv]
      exact g3
  have hrun := va_runV (H := H) (locs := locs) (cells := cn) (slots := sn) (e := e) (below := below) (meth := meth) (g := F0 m pc ls (As.reverse ++ .ref b :: r)) (rest := r) (As := As) (b := b) ⟨hx, hb, hml, hown, hts⟩ hM ⟨CB, hts _ w2, hts _ w4⟩ ⟨(pre_go hr hK).1, hrv, (pre_go hr hK).2⟩ rfl hA (by rw [← hL]; exact hl.1) rfl (roomS (m := m) (pc := pc) hcat) hd ⟨by rw [hR.2.2.1]; exact h1, by rw [hR.2.2.2]; exact h2⟩
  exact call_go hrun hS hl hL h1 h2 (fun v w' hq => hq)
theorem j_invokestatic (X : cx p R s m args meth c D tA B y d) (hC : sndC l D tA B d C) {z : Nat} {As : List Value} (hd : decode (mB y) pc = .ok (.invokestatic k, 3)) (hf : cT (mO y) k = some (2, z)) (hA : As.length = mA z) (h : wcall C y z pc As r L w cn sn (J p l e R s m args below meth c D tA B y Z)) : J p l e R s m args below meth c D tA B y Z pc L (As.reverse ++ r) w cn sn := by
  obtain ⟨z0, zm, w1, w2, w3⟩ := cT_2 hf
  have CB := callB_go X z0 zm w3 w1
  obtain ⟨hx, hb, hml, hown, hts, hnm, hK, hR, hB⟩ := X
  intro H locs ls hr hS hl hL hcn hsn
  obtain ⟨hcat, h⟩ := h
  obtain ⟨h1, h2, h⟩ := alc_le hcn hsn h
  have hM := hC z As w _ z0 zm h
  have hrun := va_runS (H := H) (locs := locs) (cells := cn) (slots := sn) (e := e) (below := below) (meth := meth) (g := F0 m pc ls (As.reverse ++ r)) (rest := r) (As := As) ⟨hx, hb, hml, hown, hts⟩ hM ⟨CB, hts _ w2⟩ (pre_go hr hK) rfl hA (by rw [← hL]; exact hl.1) rfl (roomS (m := m) (pc := pc) hcat) hd ⟨by rw [hR.2.2.1]; exact h1, by rw [hR.2.2.2]; exact h2⟩
  exact call_go hrun hS hl hL h1 h2 (fun v w' hq => hq)
theorem j_invokespecial (X : cx p R s m args meth c D tA B y d) (hC : sndC l D tA B d C) {z b : Nat} {As : List Value} (hd : decode (mB y) pc = .ok (.invokespecial k, 3)) (hf : cT (mO y) k = some (1, z)) (hA : As.length = mA z) (h : wcall C y z pc (.ref b :: As) r L w cn sn (J p l e R s m args below meth c D tA B y Z)) : J p l e R s m args below meth c D tA B y Z pc L (As.reverse ++ .ref b :: r) w cn sn := by
  obtain ⟨z0, zm, w1, w2, w3, w4, w5⟩ := cT_1 hf
  have CB := callB_go X z0 zm w3 w1
  rw [w5] at CB
  obtain ⟨hx, hb, hml, hown, hts, hnm, hK, hR, hB⟩ := X
  intro H locs ls hr hS hl hL hcn hsn
  obtain ⟨hcat, h⟩ := h
  obtain ⟨h1, h2, h⟩ := alc_le hcn hsn h
  have hM := hC z (.ref b :: As) w _ z0 zm h
  have hrun := va_runI (H := H) (locs := locs) (cells := cn) (slots := sn) (e := e) (below := below) (meth := meth) (g := F0 m pc ls (As.reverse ++ .ref b :: r)) (rest := r) (As := As) (b := b) ⟨hx, hb, hml, hown, hts⟩ hM ⟨CB, w4, hts _ w2⟩ (pre_go hr hK) rfl hA (by rw [← hL]; exact hl.1) rfl (roomS (m := m) (pc := pc) hcat) hd ⟨by rw [hR.2.2.1]; exact h1, by rw [hR.2.2.2]; exact h2⟩
  exact call_go hrun hS hl hL h1 h2 (fun v w' hq => hq)
theorem j_invokenest (X : cx p R s m args meth c D tA B y d) (hC : sndC l D tA B d C) {z b : Nat} {As : List Value} (hd : decode (mB y) pc = .ok (.invokespecial k, 3)) (hf : cT (mO y) k = some (4, z)) (hA : As.length = mA z) (h : wcall C y z pc (.ref b :: As) r L w cn sn (J p l e R s m args below meth c D tA B y Z)) : J p l e R s m args below meth c D tA B y Z pc L (As.reverse ++ .ref b :: r) w cn sn := by
  obtain ⟨z0, zm, w1, w2, w3, w4, w5⟩ := cT_4 hf
  obtain ⟨hx, hb, hml, hown, hts, hnm, hK, hR, hB⟩ := X
  obtain ⟨o1, o2, o3, o4, o5, o6⟩ := mO_ok zm
  have hlk : va_Nw (.methodLinkNest (oN (mO y)) k (mN z) "LineMonitor") s := hK.2.2.1 (mO y, k, z) w1
  have CB : va_CN R s args (oN (mO y)) k (mN z) "LineMonitor" (mB z) (mL z) (mR z) (wM z) (rmD d z) (mC z) (mS z) (mA z) :=
    va_cnB (ws' := wsG) (mA z) hts (wM_good z0 zm) rfl rfl rfl hlk (hts _ w3) ⟨o3, o4, o2⟩ ⟨hR.1, by show 8 + (mL z + 11) + 32 * d ≤ R.locals; have := hR.2.1; omega⟩
  rw [w5] at CB
  intro H locs ls hr hS hl hL hcn hsn
  obtain ⟨hcat, h⟩ := h
  obtain ⟨h1, h2, h⟩ := alc_le hcn hsn h
  have hM := hC z (.ref b :: As) w _ z0 zm h
  have hrun := va_runIN (H := H) (locs := locs) (cells := cn) (slots := sn) (e := e) (below := below) (meth := meth) (g := F0 m pc ls (As.reverse ++ .ref b :: r)) (rest := r) (As := As) (b := b) ⟨hx, hb, hml, hown, hts⟩ hM ⟨CB, w4, hts _ w2⟩ (pre_go hr hK) rfl hA (by rw [← hL]; exact hl.1) rfl (roomS (m := m) (pc := pc) hcat) hd ⟨by rw [hR.2.2.1]; exact h1, by rw [hR.2.2.2]; exact h2⟩
  exact call_go hrun hS hl hL h1 h2 (fun v w' hq => hq)
theorem j_staticnest (X : cx p R s m args meth c D tA B y d) (hC : sndC l D tA B d C) {z : Nat} {As : List Value} (hd : decode (mB y) pc = .ok (.invokestatic k, 3)) (hf : cT (mO y) k = some (5, z)) (hA : As.length = mA z) (h : wcall C y z pc As r L w cn sn (J p l e R s m args below meth c D tA B y Z)) : J p l e R s m args below meth c D tA B y Z pc L (As.reverse ++ r) w cn sn := by
  obtain ⟨z0, zm, w1, w2, w3⟩ := cT_5 hf
  obtain ⟨hx, hb, hml, hown, hts, hnm, hK, hR, hB⟩ := X
  obtain ⟨o1, o2, o3, o4, o5, o6⟩ := mO_ok zm
  have hlk : va_Nw (.methodLinkNest (oN (mO y)) k (mN z) "LineMonitor") s := hK.2.2.1 (mO y, k, z) w1
  have CB : va_CN R s args (oN (mO y)) k (mN z) "LineMonitor" (mB z) (mL z) (mR z) (wM z) (rmD d z) (mC z) (mS z) (mA z) :=
    va_cnB (ws' := wsG) (mA z) hts (wM_good z0 zm) rfl rfl rfl hlk (hts _ w3) ⟨o3, o4, o2⟩ ⟨hR.1, by show 8 + (mL z + 11) + 32 * d ≤ R.locals; have := hR.2.1; omega⟩
  intro H locs ls hr hS hl hL hcn hsn
  obtain ⟨hcat, h⟩ := h
  obtain ⟨h1, h2, h⟩ := alc_le hcn hsn h
  have hM := hC z As w _ z0 zm h
  have hrun := va_runSN (H := H) (locs := locs) (cells := cn) (slots := sn) (e := e) (below := below) (meth := meth) (g := F0 m pc ls (As.reverse ++ r)) (rest := r) (As := As) ⟨hx, hb, hml, hown, hts⟩ hM ⟨CB, hts _ w2, trivial⟩ (pre_go hr hK) rfl hA (by rw [← hL]; exact hl.1) rfl (roomS (m := m) (pc := pc) hcat) hd ⟨by rw [hR.2.2.1]; exact h1, by rw [hR.2.2.2]; exact h2⟩
  exact call_go hrun hS hl hL h1 h2 (fun v w' hq => hq)
theorem j_objinit (X : cx p R s m args meth c D tA B y d) {z b : Nat} (hd : decode (mB y) pc = .ok (.invokespecial k, 3)) (hf : cT (mO y) k = some (3, z)) (hcat : catS r ≤ 8) (h : J p l e R s m args below meth c D tA B y Z (pc + 3) L r w cn sn) : J p l e R s m args below meth c D tA B y Z pc L (.ref b :: r) w cn sn := by
  have w1 := cT_3 hf
  obtain ⟨hx, hb, hml, hown, hts, hnm, hK, hR, hB⟩ := X
  intro H locs ls hr hS hl hL hcn hsn
  refine W.objInit hx hb hown (hts _ w1) (hts _ oi_in) (hts _ (inG oi_code rfl)) rfl (by rw [hml, ← hL]; exact hl.1) rfl hd (by have := hR.1; omega) ?_ (h H locs ls hr hS hl hL hcn hsn)
  rw [monitorRoom0]
  have := hR.2.1
  have h8 : (r.map fun v => v.category).sum ≤ 8 := hcat
  omega
end Cls
