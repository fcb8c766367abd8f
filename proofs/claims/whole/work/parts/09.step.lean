def cnB (ci : Nat) : Bool := decide ((clA ci).1 = oN ci) && (List.range (clA ci).2.2).all (fun k => decide (((clA ci).2.1 k).1 = (clA ci).1))
set_option maxRecDepth 100000 in
theorem cn_ok0 : (List.range vwCl.length).all cnB = true := by decide +kernel
theorem cn_ok {ci : Nat} {r : vw_C} (h : vwCl[ci]? = some r) : r.1 = oN ci ∧ ∀ k, k < r.2.2 → (r.2.1 k).1 = r.1 := by
  have h1 := List.all_eq_true.mp cn_ok0 ci (List.mem_range.mpr (lt_of_vw h))
  unfold cnB at h1
  rw [clA_of h] at h1
  simp only [Bool.and_eq_true, decide_eq_true_eq] at h1
  exact ⟨h1.1, fun k hk => of_decide_eq_true (List.all_eq_true.mp h1.2 k (List.mem_range.mpr hk))⟩
theorem fin_of {ci k : Nat} {r : vw_C} (h : vwCl[ci]? = some r) : fin ci k = (r.2.1 k).2.2.2 := by unfold fin; rw [h]
theorem clF_of {ci : Nat} {r : vw_C} (h : vwCl[ci]? = some r) : clF ci = r.2.2 := by unfold clF; rw [h]
section Stp
variable {p : Program} {l : Launch} {e : Env} {R : Room} {s : State} {m : MethodId} {args : Array Value} {below : List Frame} {meth : Method} {c : Code} {D : va_G} {tA : Nat → ClassId} {B y d : Nat} {Z : State → Prop} {C : wC} {Q : wQ}
variable {k pc n : Nat} {L : List (Option Value)} {st r : List Value} {w : aw} {cn sn a ci f : Nat}
theorem j_getfield (X : cx p R s m args meth c D tA B y d) (hd : decode (mB y) pc = .ok (.getfield k, 3)) (hf : fT (mO y) k = some (ci, f)) (hk : kd w a = ci + 1) (h : J p l e R s m args below meth c D tA B y Z (pc + 3) L (fd w (64 * ci + f) a :: r) w cn sn) : J p l e R s m args below meth c D tA B y Z pc L (.ref a :: r) w cn sn := by
  obtain ⟨hx, hb, hml, hown, hts, hnm, hK, hR, hB⟩ := X
  intro H locs ls hr hS hl hL hcn hsn
  rcases fT_ok hf with ⟨hci, hf2, hlk⟩ | ⟨rr, hc, hfN, hlk⟩
  · subst hci
    obtain ⟨av, f1, f2, f3, f4, f5⟩ := hr.2.2.2.2.2.1.2.2 a hk
    have hcase : f = 0 ∨ f = 1 := by omega
    rcases hcase with hf0 | hf0
    · subst hf0
      obtain ⟨cf, kf, fi, fl, cell, g1, g2, g3, g4, g5, -⟩ := f5
      have h := h H locs ls hr hS hl hL hcn hsn
      rw [show 64 * 10 + 0 = 64 * 10 from rfl, f1] at h
      exact W.getf hx hb hown (hts _ hlk) g1 g2 g3 g4 (v := .ref av) g5 rfl rfl hd h
    · subst hf0
      obtain ⟨cf, kf, fi, fl, cell, g1, g2, g3, g4, g5, -⟩ := f4
      have h := h H locs ls hr hS hl hL hcn hsn
      rw [f2] at h
      exact W.getf hx hb hown (hts _ hlk) g1 g2 g3 g4 (v := .int 0) g5 rfl rfl hd h
  obtain ⟨cell, q1, q2, q3, q4⟩ := hr.1.1 a ci rr hk hc
  obtain ⟨hSl, hfc, kC, hkC, hkind⟩ := hK.1.1 ci rr hc
  obtain ⟨cf, kf, fi, fl, hi, hsl⟩ := hSl f hfN
  refine W.getf hx hb hown (hts _ hlk) hi (u_facts hfc hkC (u_lays hts (ly_in hc) hfN) hi).1 q1 (by rw [q3]; exact fun h => by cases h) (v := fd w (64 * ci + f) a) ?_ rfl rfl hd (h H locs ls hr hS hl hL hcn hsn)
  rw [hsl]
  exact q4 f hfN
theorem va_apartX {ci : Nat} {rr : vw_C} (hts : ∀ w ∈ wsG, w.before args s = true) (hK : kk D tA s) (hc : vwCl[ci]? = some rr) : ∀ x y, x < rr.2.2 → y < rr.2.2 → x ≠ y → (D.2 ci) x ≠ (D.2 ci) y :=
  va_apart (own := "") hts (ly_in hc) (tyOf ci) (ly_ty hc) (nm_ok hc) hK.1 hc
theorem j_putfield (X : cx p R s m args meth c D tA B y d) {v : Value} (hd : decode (mB y) pc = .ok (.putfield k, 3)) (hf : fT (mO y) k = some (ci, f)) (hk : kd w a = ci + 1) (hfin : fin ci f = true → (mN y).name = "<init>" ∧ ci = mO y ∧ ci < vwCl.length) (hv : okv (tyOf ci f) v) (h : J p l e R s m args below meth c D tA B y Z (pc + 3) L r (uF w (64 * ci + f) a v) cn sn) : J p l e R s m args below meth c D tA B y Z pc L (v :: .ref a :: r) w cn sn := by
  obtain ⟨hx, hb, hml, hown, hts, hnm, hK, hR, hB⟩ := X
  intro H locs ls hr hS hl hL hcn hsn
  rcases fT_ok hf with ⟨hci, hf2, hlk⟩ | ⟨rr, hc, hfN, hlk⟩
  · subst hci
    exact absurd (hfin (by unfold fin; rfl)).2.2 (by decide)
  have hap := va_apartX hts hK hc
  obtain ⟨cell, q1, q2, q3, q4⟩ := hr.1.1 a ci rr hk hc
  obtain ⟨hSl, hfc, kC, hkC, hkind⟩ := hK.1.1 ci rr hc
  obtain ⟨cf, kf, fi, fl, hi, hsl⟩ := hSl f hfN
  have hlay := hts _ (ly_in hc _ (u_in_lay hfN))
  unfold u_lay at hlay
  have hst := (u_facts hfc hkC (u_lays hts (ly_in hc) hfN) hi).1
  have hBa : B ≤ a := hr.2.1 a (by omega) (by have := vwCl_lt hc; omega) (by have := vwCl_lt hc; omega)
  cases hfi : (rr.2.1 f).2.2.2 with
  | false =>
    rw [if_neg (by rw [hfi]; decide)] at hlay
    have h6 := u_store hfc hkC hkind hlay hi (ly_ty hc f hfN) hv.1 hv.2
    refine W.putK hx hb (f := fl) ⟨hown, hts _ hlk, ⟨_, _, _, hi⟩, hst⟩ (by rw [q2]; exact h6) q1 q3 (by rw [hsl]; exact k2_hasslot (q4 f hfN)) rfl rfl hd fun H' e1 e2 e3 => ?_
    rw [hsl] at e1 ⊢
    exact h H' _ ls (hr.setF hk hc hfN ⟨_, e1, q2, q3, t_set q4 hap hfN v⟩ e3 e2) (hS.put e2 e3 hBa) hl hL hcn hsn
  | true =>
    rw [if_pos hfi] at hlay
    obtain ⟨hn, hci, -⟩ := hfin (by rw [fin_of hc]; exact hfi)
    have hdecl : (rr.2.1 f).1 = oN (mO y) := by rw [(cn_ok hc).2 f hfN, (cn_ok hc).1, hci]
    have hcf : m.cls = cf := by
      obtain ⟨_, _, c', _, _, _, -, -, hf', -, -, -, hown2, -⟩ := Cond.laysFinal_spec hlay
      have e1 : c' = cf := by have := hi.symm.trans hf'; simp at this; exact this.1.symm
      rw [hdecl] at hown2
      rw [← e1]; exact Option.some.inj (hown.symm.trans hown2)
    have h6 := u_fits hfc hkC hkind (Or.inr hlay) hi (ly_ty hc f hfN) hv.1 hv.2
    refine W.putFinK hx hb hown (hts _ hlk) hi hst hcf (hnm.trans hn) (by rw [q2]; exact h6) q1 q3 (by rw [hsl]; exact k2_hasslot (q4 f hfN)) rfl rfl hd fun H' e1 e2 e3 => ?_
    rw [hsl] at e1 ⊢
    exact h H' _ ls (hr.setF hk hc hfN ⟨_, e1, q2, q3, t_set q4 hap hfN v⟩ e3 e2) (hS.put e2 e3 hBa) hl hL hcn hsn
theorem j_getstatic (X : cx p R s m args meth c D tA B y d) {j : Nat} (hd : decode (mB y) pc = .ok (.getstatic k, 3)) (hf : sT (mO y) k = some j) (h : J p l e R s m args below meth c D tA B y Z (pc + 3) L (fd w (10000 + j) 0 :: st) w cn sn) : J p l e R s m args below meth c D tA B y Z pc L st w cn sn := by
  obtain ⟨hx, hb, hml, hown, hts, hnm, hK, hR, hB⟩ := X
  intro H locs ls hr hS hl hL hcn hsn
  obtain ⟨x, hx1, hlk⟩ := sT_ok hf
  obtain ⟨cf, kf, fi, f, a, cell, h1, h2, h3, h4, h5, h6, h7, h8⟩ := hr.2.2.2.2.1 j x hx1
  exact W.gets hx hb hown (hts _ hlk) h1 h2 h3 h4 h5 (fun e => by rw [e] at h6; cases h6) h7 rfl hd (h H locs ls hr hS hl hL hcn hsn)
theorem tyA_some {t : Nat} (h : (tyA t).isSome = true) : isI t ∨ t = 22 ∨ t = 24 ∨ t = 30 ∨ t = 31 := by
  unfold tyA at h
  unfold isI
  split at h <;> simp_all
theorem tyA_isI {t : Nat} (h : isI t) : ∃ ty, tyN t = some ty := by
  rcases h with rfl | rfl | rfl <;> exact ⟨_, rfl⟩
theorem j_alen (X : cx p R s m args meth c D tA B y d) (hd : decode (mB y) pc = .ok (.arraylength, 1)) (hk : (tyA (kd w a)).isSome = true) (h : J p l e R s m args below meth c D tA B y Z (pc + 1) L (.int (nI (ln w a)) :: r) w cn sn) : J p l e R s m args below meth c D tA B y Z pc L (.ref a :: r) w cn sn := by
  obtain ⟨hx, hb, hml, hown, hts, hnm, hK, hR, hB⟩ := X
  intro H locs ls hr hS hl hL hcn hsn
  have h := h H locs ls hr hS hl hL hcn hsn
  rcases tyA_some hk with hi | hi | hi | hi | hi
  · obtain ⟨ty, ht⟩ := tyA_isI hi
    exact W.alen (n := nI (ln w a)) hx hb (hr.1.2.1 a hi) ((hK.2.1 _ _ ht).1 _ _) (by rw [arrV_size] <;> rfl) rfl rfl hd h
  · exact W.alen (n := nI (ln w a)) hx hb (hr.1.2.2.1 a hi) ((hK.2.1 22 .long rfl).1 _ _) (by rw [arrV_size] <;> rfl) rfl rfl hd h
  · exact W.alen (n := nI (ln w a)) hx hb (hr.1.2.2.2 a hi) ((hK.2.1 24 _ rfl).1 _ _) (by rw [arrV_size] <;> rfl) rfl rfl hd h
  · obtain ⟨cell, g1, g2, g3, g4, g5, g6, -⟩ := hr.2.2.2.2.2.1.1 a hi
    exact W.alen (n := nI (ln w a)) hx hb g1 g2 g5 rfl rfl hd h
  · obtain ⟨cell, g1, g2, g3, g4, g5, g6, -⟩ := hr.2.2.2.2.2.1.2.1 a hi
    exact W.alen (n := nI (ln w a)) hx hb g1 g2 g5 rfl rfl hd h
theorem in_lt {i : Int32} {n : Nat} (h : inR i n) : i.toNatClampNeg < n := Nat.not_le.mp fun q => h (Or.inr q)
theorem j_iaload (X : cx p R s m args meth c D tA B y d) {i : Int32} (hd : decode (mB y) pc = .ok (.iaload, 1)) (hk : kd w a = 20 ∨ kd w a = 30) (hin : inR i (ln w a)) (h : J p l e R s m args below meth c D tA B y Z (pc + 1) L (.int (ai w a i.toNatClampNeg) :: r) w cn sn) : J p l e R s m args below meth c D tA B y Z pc L (.int i :: .ref a :: r) w cn sn := by
  obtain ⟨hx, hb, hml, hown, hts, hnm, hK, hR, hB⟩ := X
  intro H locs ls hr hS hl hL hcn hsn
  have h := h H locs ls hr hS hl hL hcn hsn
  have hlt := in_lt hin
  rcases hk with hk | hk
  · exact W.iald (v := .int (ai w a i.toNatClampNeg)) hx hb (hr.1.2.1 a (by simp [isI, hk])) ((hK.2.1 _ .int (by rw [hk]; rfl)).1 _ _) (fun q => by cases q) (by rw [arrV_size]; exact hin) (by rw [arrV_read _ _ hlt]) rfl rfl hd h
  · obtain ⟨cell, g1, g2, g3, g4, g5, g6, -⟩ := hr.2.2.2.2.2.1.1 a hk
    exact W.iald (v := .int (ai w a i.toNatClampNeg)) hx hb g1 g2 g3 (fun q => hin (q.imp id (fun z => Nat.le_trans g4 z))) (g6 _ hlt) rfl rfl hd h
theorem j_baload (X : cx p R s m args meth c D tA B y d) {i : Int32} (hd : decode (mB y) pc = .ok (.baload, 1)) (hk : kd w a = 21 ∨ kd w a = 23 ∨ kd w a = 31) (hin : inR i (ln w a)) (h : J p l e R s m args below meth c D tA B y Z (pc + 1) L (.int (ai w a i.toNatClampNeg) :: r) w cn sn) : J p l e R s m args below meth c D tA B y Z pc L (.int i :: .ref a :: r) w cn sn := by
  obtain ⟨hx, hb, hml, hown, hts, hnm, hK, hR, hB⟩ := X
  intro H locs ls hr hS hl hL hcn hsn
  have h := h H locs ls hr hS hl hL hcn hsn
  have hlt := in_lt hin
  rcases hk with hk | hk | hk
  · exact W.bald (v := .int (ai w a i.toNatClampNeg)) hx hb (hr.1.2.1 a (by simp [isI, hk])) ((hK.2.1 _ .byte (by rw [hk]; rfl)).1 _ _) (fun q => by cases q) (by rw [arrV_size]; exact hin) (by rw [arrV_read _ _ hlt]) rfl rfl hd h
  · exact W.zald (v := .int (ai w a i.toNatClampNeg)) hx hb (hr.1.2.1 a (by simp [isI, hk])) ((hK.2.1 _ .boolean (by rw [hk]; rfl)).1 _ _) (fun q => by cases q) (by rw [arrV_size]; exact hin) (by rw [arrV_read _ _ hlt]) rfl rfl hd h
  · obtain ⟨cell, g1, g2, g3, g4, g5, g6, -⟩ := hr.2.2.2.2.2.1.2.1 a hk
    exact W.bald (v := .int (ai w a i.toNatClampNeg)) hx hb g1 g2 g3 (fun q => hin (q.imp id (fun z => Nat.le_trans g4 z))) (g6 _ hlt) rfl rfl hd h
theorem j_laload (X : cx p R s m args meth c D tA B y d) {i : Int32} (hd : decode (mB y) pc = .ok (.laload, 1)) (hk : kd w a = 22) (hin : inR i (ln w a)) (h : J p l e R s m args below meth c D tA B y Z (pc + 1) L (.long (al w a i.toNatClampNeg) :: r) w cn sn) : J p l e R s m args below meth c D tA B y Z pc L (.int i :: .ref a :: r) w cn sn := by
  obtain ⟨hx, hb, hml, hown, hts, hnm, hK, hR, hB⟩ := X
  intro H locs ls hr hS hl hL hcn hsn
  exact W.lald (v := .long (al w a i.toNatClampNeg)) hx hb (hr.1.2.2.1 a hk) ((hK.2.1 22 .long rfl).1 _ _) (fun q => by cases q) (by rw [arrV_size]; exact hin) (by rw [arrV_read _ _ (in_lt hin)]) rfl rfl hd (h H locs ls hr hS hl hL hcn hsn)
theorem j_aaload (X : cx p R s m args meth c D tA B y d) {i : Int32} (hd : decode (mB y) pc = .ok (.aaload, 1)) (hk : kd w a = 24) (hin : inR i (ln w a)) (h : J p l e R s m args below meth c D tA B y Z (pc + 1) L (va_rf (ar w a i.toNatClampNeg) :: r) w cn sn) : J p l e R s m args below meth c D tA B y Z pc L (.int i :: .ref a :: r) w cn sn := by
  obtain ⟨hx, hb, hml, hown, hts, hnm, hK, hR, hB⟩ := X
  intro H locs ls hr hS hl hL hcn hsn
  exact W.aald (v := va_rf (ar w a i.toNatClampNeg)) (ty := .object "LineMonitor$User") hx hb (hr.1.2.2.2 a hk) ((hK.2.1 24 _ rfl).1 _ _) rfl (fun q => by cases q) (by rw [arrV_size]; exact hin) (by rw [arrV_read _ _ (in_lt hin)]) rfl rfl hd (h H locs ls hr hS hl hL hcn hsn)
theorem j_iastore (X : cx p R s m args meth c D tA B y d) {i x : Int32} (hd : decode (mB y) pc = .ok (.iastore, 1)) (hk : kd w a = 20) (hin : inR i (ln w a)) (h : J p l e R s m args below meth c D tA B y Z (pc + 1) L r (uA w a i.toNatClampNeg x) cn sn) : J p l e R s m args below meth c D tA B y Z pc L (.int x :: .int i :: .ref a :: r) w cn sn := by
  obtain ⟨hx, hb, hml, hown, hts, hnm, hK, hR, hB⟩ := X
  intro H locs ls hr hS hl hL hcn hsn
  have hI : isI (kd w a) := by simp [isI, hk]
  have hBa : B ≤ a := hr.2.1 a (by omega) (by omega) (by omega)
  refine W.iast hx hb (hr.1.2.1 a hI) ((hK.2.1 _ .int (by rw [hk]; rfl)).1 _ _) (fun q => by cases q) (by rw [arrV_size]; exact hin) rfl rfl hd fun H1 e z oq => ?_
  exact h H1 _ ls (hr.setA hI (by omega) (by rw [e, arrV_store]) oq z) (hS.put z oq hBa) hl hL hcn hsn
theorem j_bastore (X : cx p R s m args meth c D tA B y d) {i x : Int32} (hd : decode (mB y) pc = .ok (.bastore, 1)) (hk : kd w a = 21) (hin : inR i (ln w a)) (h : J p l e R s m args below meth c D tA B y Z (pc + 1) L r (uA w a i.toNatClampNeg (vp_nar .byte x)) cn sn) : J p l e R s m args below meth c D tA B y Z pc L (.int x :: .int i :: .ref a :: r) w cn sn := by
  obtain ⟨hx, hb, hml, hown, hts, hnm, hK, hR, hB⟩ := X
  intro H locs ls hr hS hl hL hcn hsn
  have hI : isI (kd w a) := by simp [isI, hk]
  have hBa : B ≤ a := hr.2.1 a (by omega) (by omega) (by omega)
  refine W.bast hx hb (hr.1.2.1 a hI) ((hK.2.1 _ .byte (by rw [hk]; rfl)).1 _ _) (fun q => by cases q) (by rw [arrV_size]; exact hin) rfl rfl hd fun H1 e z oq => ?_
  exact h H1 _ ls (hr.setA hI (by omega) (by rw [e, arrV_store]; rfl) oq z) (hS.put z oq hBa) hl hL hcn hsn
theorem j_zastore (X : cx p R s m args meth c D tA B y d) {i x : Int32} (hd : decode (mB y) pc = .ok (.bastore, 1)) (hk : kd w a = 23) (hin : inR i (ln w a)) (h : J p l e R s m args below meth c D tA B y Z (pc + 1) L r (uA w a i.toNatClampNeg (vp_nar .boolean x)) cn sn) : J p l e R s m args below meth c D tA B y Z pc L (.int x :: .int i :: .ref a :: r) w cn sn := by
  obtain ⟨hx, hb, hml, hown, hts, hnm, hK, hR, hB⟩ := X
  intro H locs ls hr hS hl hL hcn hsn
  have hI : isI (kd w a) := by simp [isI, hk]
  have hBa : B ≤ a := hr.2.1 a (by omega) (by omega) (by omega)
  refine W.zast hx hb (hr.1.2.1 a hI) ((hK.2.1 _ .boolean (by rw [hk]; rfl)).1 _ _) (fun q => by cases q) (by rw [arrV_size]; exact hin) rfl rfl hd fun H1 e z oq => ?_
  exact h H1 _ ls (hr.setA hI (by omega) (by rw [e, arrV_store]; rfl) oq z) (hS.put z oq hBa) hl hL hcn hsn
theorem j_lastore (X : cx p R s m args meth c D tA B y d) {i : Int32} {x : Int64} (hd : decode (mB y) pc = .ok (.lastore, 1)) (hk : kd w a = 22) (hin : inR i (ln w a)) (h : J p l e R s m args below meth c D tA B y Z (pc + 1) L r (uL w a i.toNatClampNeg x) cn sn) : J p l e R s m args below meth c D tA B y Z pc L (.long x :: .int i :: .ref a :: r) w cn sn := by
  obtain ⟨hx, hb, hml, hown, hts, hnm, hK, hR, hB⟩ := X
  intro H locs ls hr hS hl hL hcn hsn
  have hBa : B ≤ a := hr.2.1 a (by omega) (by omega) (by omega)
  refine W.last hx hb (hr.1.2.2.1 a hk) ((hK.2.1 22 .long rfl).1 _ _) (fun q => by cases q) (by rw [arrV_size]; exact hin) rfl rfl hd fun H1 e z oq => ?_
  exact h H1 _ ls (hr.setL hk (by rw [e, arrV_store]) oq z) (hS.put z oq hBa) hl hL hcn hsn
theorem j_aastore (X : cx p R s m args meth c D tA B y d) {i : Int32} {x : Option Nat} (hd : decode (mB y) pc = .ok (.aastore, 1)) (hk : kd w a = 24) (hin : inR i (ln w a)) (hxk : ∀ q, x = some q → kd w q = 7) (h : J p l e R s m args below meth c D tA B y Z (pc + 1) L r (uR w a i.toNatClampNeg x) cn sn) : J p l e R s m args below meth c D tA B y Z pc L (va_rf x :: .int i :: .ref a :: r) w cn sn := by
  obtain ⟨hx, hb, hml, hown, hts, hnm, hK, hR, hB⟩ := X
  intro H locs ls hr hS hl hL hcn hsn
  have hBa : B ≤ a := hr.2.1 a (by omega) (by omega) (by omega)
  cases x with
  | none =>
    refine va_WaastN (C := "LineMonitor$User") hx hb (hr.1.2.2.2 a hk) ((hK.2.1 24 _ rfl).1 _ _) (fun h => by cases h) (by rw [arrV_size]; exact hin) rfl rfl hd fun H1 e z oq => ?_
    exact h H1 _ ls (hr.setR hk (by rw [e, arrV_store]; rfl) oq z) (hS.put z oq hBa) hl hL hcn hsn
  | some q =>
    have hq := hxk q rfl
    have hc : vwCl[7 - 1]? = some (clA (7 - 1)) := rfl
    obtain ⟨cellV, g1, g2, g3, -⟩ := hr.1.1 q (7 - 1) _ (hq.trans (by decide)) hc
    have hcls := (hK.1.1 (7 - 1) _ hc).2
    obtain ⟨kA, comp, k1, k2, k3, -⟩ := (hK.2.1 24 _ rfl).2
    have hcomp : comp = D.1 (7 - 1) := Option.some.inj (k3.symm.trans hcls.1)
    subst hcomp
    obtain ⟨kC, hkC, -⟩ := hcls.2
    refine W.aast hx hb (hr.1.2.2.2 a hk) (fun q h => by cases h) (fun h => by cases h) k1 k2 rfl hkC ⟨fun h0 => hin (Or.inl h0), by rw [arrV_size]; exact in_lt hin⟩ g1 (fun q h => by rw [g3] at h; cases h) (by rw [g2]; exact hkC) (by rw [g2]; exact va_assign hcls) rfl rfl hd fun H1 e z oq => ?_
    exact h H1 _ ls (hr.setR hk (by rw [e, arrV_store]; rfl) oq z) (hS.put z oq hBa) hl hL hcn hsn
end Stp
