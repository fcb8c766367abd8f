/-! one instruction, as an equation -/
section Rw
variable {d y : Nat} {Q : wQ} {pc : Nat} {L L' : List (Option Value)} {st : List Value} {w : aw} {cn sn : Nat}
theorem w_iconst {n : Int} {x : Int32} (hd : decode (mB y) pc = .ok (.iconst n, 1)) (hv : Int32.ofInt n = x) : wp d y Q pc L st w cn sn = wp d y Q (pc + 1) L (.int x :: st) w cn sn := by rw [wp_row hd, ← hv]; rfl
theorem w_bipush {n : Int} {x : Int32} (hd : decode (mB y) pc = .ok (.bipush n, 2)) (hv : (Int8.ofInt n).toInt32 = x) : wp d y Q pc L st w cn sn = wp d y Q (pc + 2) L (.int x :: st) w cn sn := by rw [wp_row hd, ← hv]; rfl
theorem w_sipush {n : Int} {x : Int32} (hd : decode (mB y) pc = .ok (.sipush n, 3)) (hv : (Int16.ofInt n).toInt32 = x) : wp d y Q pc L st w cn sn = wp d y Q (pc + 3) L (.int x :: st) w cn sn := by rw [wp_row hd, ← hv]; rfl
theorem w_lconst {n : Fin 2} {x : Int64} (hd : decode (mB y) pc = .ok (.lconst n, 1)) (hv : Int64.ofNat (n : Nat) = x) : wp d y Q pc L st w cn sn = wp d y Q (pc + 1) L (.long x :: st) w cn sn := by rw [wp_row hd, ← hv]; rfl
theorem w_null (hd : decode (mB y) pc = .ok (.aconst_null, 1)) : wp d y Q pc L st w cn sn = wp d y Q (pc + 1) L (.null :: st) w cn sn := by rw [wp_row hd]; rfl
theorem w_ldc {k : Nat} {x : Int32} (hd : decode (mB y) pc = .ok (.ldc k, 2)) (hk : kT (mO y) k = some (.int x)) : wp d y Q pc L st w cn sn = wp d y Q (pc + 2) L (.int x :: st) w cn sn := by rw [wp_row hd]; show n2 2 (on (kT (mO y) k) _) = _; rw [hk]; rfl
theorem w_ldcS {k i : Nat} (hd : decode (mB y) pc = .ok (.ldc k, 2)) (hk : kT (mO y) k = some (.ref i)) : wp d y Q pc L st w cn sn = wp d y Q (pc + 2) L (fd w (20000 + i) 0 :: st) w cn sn := by rw [wp_row hd]; show n2 2 (on (kT (mO y) k) _) = _; rw [hk]; rfl
theorem w_ldc2 {k : Nat} {x : Int64} (hd : decode (mB y) pc = .ok (.ldc2_w k, 3)) (hk : kT (mO y) k = some (.long x)) : wp d y Q pc L st w cn sn = wp d y Q (pc + 3) L (.long x :: st) w cn sn := by rw [wp_row hd]; show n3 3 (on (kT (mO y) k) _) = _; rw [hk]; rfl
theorem w_iload_n {k : Fin 4} {v : Int32} (hd : decode (mB y) pc = .ok (.iload_n k, 1)) (hn : nth L k = some (.int v)) : wp d y Q pc L st w cn sn = wp d y Q (pc + 1) L (.int v :: st) w cn sn := by rw [wp_row hd]; show n1 1 (li (nth L k) _) = _; rw [hn]; rfl
theorem w_iload {k : Nat} {v : Int32} (hd : decode (mB y) pc = .ok (.iload k, 2)) (hn : nth L k = some (.int v)) : wp d y Q pc L st w cn sn = wp d y Q (pc + 2) L (.int v :: st) w cn sn := by rw [wp_row hd]; show n2 2 (li (nth L k) _) = _; rw [hn]; rfl
theorem w_lload_n {k : Fin 4} {v : Int64} (hd : decode (mB y) pc = .ok (.lload_n k, 1)) (hn : nth L k = some (.long v)) : wp d y Q pc L st w cn sn = wp d y Q (pc + 1) L (.long v :: st) w cn sn := by rw [wp_row hd]; show n1 1 (ll (nth L k) _) = _; rw [hn]; rfl
theorem w_lload {k : Nat} {v : Int64} (hd : decode (mB y) pc = .ok (.lload k, 2)) (hn : nth L k = some (.long v)) : wp d y Q pc L st w cn sn = wp d y Q (pc + 2) L (.long v :: st) w cn sn := by rw [wp_row hd]; show n2 2 (ll (nth L k) _) = _; rw [hn]; rfl
theorem w_aload_n {k : Fin 4} {v : Nat} (hd : decode (mB y) pc = .ok (.aload_n k, 1)) (hn : nth L k = some (.ref v)) : wp d y Q pc L st w cn sn = wp d y Q (pc + 1) L (.ref v :: st) w cn sn := by rw [wp_row hd]; dsimp only [wp1]; rw [hn]; rfl
theorem w_aload {k : Nat} {v : Nat} (hd : decode (mB y) pc = .ok (.aload k, 2)) (hn : nth L k = some (.ref v)) : wp d y Q pc L st w cn sn = wp d y Q (pc + 2) L (.ref v :: st) w cn sn := by rw [wp_row hd]; dsimp only [wp1]; rw [hn]; rfl
theorem w_aload_nN {k : Fin 4} (hd : decode (mB y) pc = .ok (.aload_n k, 1)) (hn : nth L k = some .null) : wp d y Q pc L st w cn sn = wp d y Q (pc + 1) L (.null :: st) w cn sn := by rw [wp_row hd]; dsimp only [wp1]; rw [hn]; rfl
theorem w_aloadN {k : Nat} (hd : decode (mB y) pc = .ok (.aload k, 2)) (hn : nth L k = some .null) : wp d y Q pc L st w cn sn = wp d y Q (pc + 2) L (.null :: st) w cn sn := by rw [wp_row hd]; dsimp only [wp1]; rw [hn]; rfl
theorem tr_and {A B : Prop} (h : A) : (A ∧ B) = B := propext ⟨fun q => q.2, fun q => ⟨h, q⟩⟩
theorem w_istore_n {k : Fin 4} {v : Int32} (hd : decode (mB y) pc = .ok (.istore_n k, 1)) (hk : (k : Nat) < L.length) (hs : st1 L k (.int v) = L') : wp d y Q pc L (.int v :: st) w cn sn = wp d y Q (pc + 1) L' st w cn sn := by rw [wp_row hd, ← hs]; exact tr_and hk
theorem w_istore {k : Nat} {v : Int32} (hd : decode (mB y) pc = .ok (.istore k, 2)) (hk : k < L.length) (hs : st1 L k (.int v) = L') : wp d y Q pc L (.int v :: st) w cn sn = wp d y Q (pc + 2) L' st w cn sn := by rw [wp_row hd, ← hs]; exact tr_and hk
theorem w_lstore_n {k : Fin 4} {v : Int64} (hd : decode (mB y) pc = .ok (.lstore_n k, 1)) (hk : (k : Nat) + 1 < L.length) (hs : st2 L k (.long v) = L') : wp d y Q pc L (.long v :: st) w cn sn = wp d y Q (pc + 1) L' st w cn sn := by rw [wp_row hd, ← hs]; exact tr_and hk
theorem w_lstore {k : Nat} {v : Int64} (hd : decode (mB y) pc = .ok (.lstore k, 2)) (hk : k + 1 < L.length) (hs : st2 L k (.long v) = L') : wp d y Q pc L (.long v :: st) w cn sn = wp d y Q (pc + 2) L' st w cn sn := by rw [wp_row hd, ← hs]; exact tr_and hk
theorem w_astore_n {k : Fin 4} {v : Nat} (hd : decode (mB y) pc = .ok (.astore_n k, 1)) (hk : (k : Nat) < L.length) (hs : st1 L k (.ref v) = L') : wp d y Q pc L (.ref v :: st) w cn sn = wp d y Q (pc + 1) L' st w cn sn := by rw [wp_row hd, ← hs]; exact tr_and hk
theorem w_astore {k : Nat} {v : Nat} (hd : decode (mB y) pc = .ok (.astore k, 2)) (hk : k < L.length) (hs : st1 L k (.ref v) = L') : wp d y Q pc L (.ref v :: st) w cn sn = wp d y Q (pc + 2) L' st w cn sn := by rw [wp_row hd, ← hs]; exact tr_and hk
theorem w_astore_nN {k : Fin 4} (hd : decode (mB y) pc = .ok (.astore_n k, 1)) (hk : (k : Nat) < L.length) (hs : st1 L k .null = L') : wp d y Q pc L (.null :: st) w cn sn = wp d y Q (pc + 1) L' st w cn sn := by rw [wp_row hd, ← hs]; exact tr_and hk
theorem w_astoreN {k : Nat} (hd : decode (mB y) pc = .ok (.astore k, 2)) (hk : k < L.length) (hs : st1 L k .null = L') : wp d y Q pc L (.null :: st) w cn sn = wp d y Q (pc + 2) L' st w cn sn := by rw [wp_row hd, ← hs]; exact tr_and hk
theorem w_iinc {k : Nat} {n : Int} {v x : Int32} (hd : decode (mB y) pc = .ok (.iinc k n, 3)) (hn : nth L k = some (.int v)) (hx : Int32.ofInt n = x) (hs : st1 L k (.int (v + x)) = L') : wp d y Q pc L st w cn sn = wp d y Q (pc + 3) L' st w cn sn := by rw [wp_row hd, ← hs, ← hx]; show n3 3 (li (nth L k) _) = _; rw [hn]; rfl
theorem w_br {P : Prop} {off : Int} {t : Nat} {K : Nat → Prop} (ht : (pc : Int) + off = (t : Int)) (h : K t = P) : br pc off K = P := by
  rw [← h]
  refine propext ⟨fun ⟨t', e, q⟩ => ?_, fun q => ⟨t, ht, q⟩⟩
  have : t' = t := by omega
  rw [← this]; exact q
theorem w_goto {off : Int} {t : Nat} (hd : decode (mB y) pc = .ok (.goto off, 3)) (ht : (pc : Int) + off = (t : Int)) : wp d y Q pc L st w cn sn = wp d y Q t L st w cn sn := by rw [wp_row hd]; exact w_br ht rfl
theorem w_ifeq {x : Int32} {off : Int} {t : Nat} (hd : decode (mB y) pc = .ok (.ifCond .eq off, 3)) (ht : (pc : Int) + off = (t : Int)) : wp d y Q pc L (.int x :: st) w cn sn = ((x = 0 → wp d y Q t L st w cn sn) ∧ (¬ x = 0 → wp d y Q (pc + 3) L st w cn sn)) := by rw [wp_row hd]; exact w_br ht rfl
theorem w_ifne {x : Int32} {off : Int} {t : Nat} (hd : decode (mB y) pc = .ok (.ifCond .ne off, 3)) (ht : (pc : Int) + off = (t : Int)) : wp d y Q pc L (.int x :: st) w cn sn = ((¬ x = 0 → wp d y Q t L st w cn sn) ∧ (x = 0 → wp d y Q (pc + 3) L st w cn sn)) := by rw [wp_row hd]; exact w_br ht rfl
theorem w_iflt {x : Int32} {off : Int} {t : Nat} (hd : decode (mB y) pc = .ok (.ifCond .lt off, 3)) (ht : (pc : Int) + off = (t : Int)) : wp d y Q pc L (.int x :: st) w cn sn = ((x < 0 → wp d y Q t L st w cn sn) ∧ (¬ x < 0 → wp d y Q (pc + 3) L st w cn sn)) := by rw [wp_row hd]; exact w_br ht rfl
theorem w_ifge {x : Int32} {off : Int} {t : Nat} (hd : decode (mB y) pc = .ok (.ifCond .ge off, 3)) (ht : (pc : Int) + off = (t : Int)) : wp d y Q pc L (.int x :: st) w cn sn = ((0 ≤ x → wp d y Q t L st w cn sn) ∧ (¬ 0 ≤ x → wp d y Q (pc + 3) L st w cn sn)) := by rw [wp_row hd]; exact w_br ht rfl
theorem w_ifgt {x : Int32} {off : Int} {t : Nat} (hd : decode (mB y) pc = .ok (.ifCond .gt off, 3)) (ht : (pc : Int) + off = (t : Int)) : wp d y Q pc L (.int x :: st) w cn sn = ((0 < x → wp d y Q t L st w cn sn) ∧ (¬ 0 < x → wp d y Q (pc + 3) L st w cn sn)) := by rw [wp_row hd]; exact w_br ht rfl
theorem w_ifle {x : Int32} {off : Int} {t : Nat} (hd : decode (mB y) pc = .ok (.ifCond .le off, 3)) (ht : (pc : Int) + off = (t : Int)) : wp d y Q pc L (.int x :: st) w cn sn = ((x ≤ 0 → wp d y Q t L st w cn sn) ∧ (¬ x ≤ 0 → wp d y Q (pc + 3) L st w cn sn)) := by rw [wp_row hd]; exact w_br ht rfl
theorem w_iceq {a b : Int32} {off : Int} {t : Nat} (hd : decode (mB y) pc = .ok (.if_icmp .eq off, 3)) (ht : (pc : Int) + off = (t : Int)) : wp d y Q pc L (.int b :: .int a :: st) w cn sn = ((a = b → wp d y Q t L st w cn sn) ∧ (¬ a = b → wp d y Q (pc + 3) L st w cn sn)) := by rw [wp_row hd]; exact w_br ht rfl
theorem w_icne {a b : Int32} {off : Int} {t : Nat} (hd : decode (mB y) pc = .ok (.if_icmp .ne off, 3)) (ht : (pc : Int) + off = (t : Int)) : wp d y Q pc L (.int b :: .int a :: st) w cn sn = ((¬ a = b → wp d y Q t L st w cn sn) ∧ (a = b → wp d y Q (pc + 3) L st w cn sn)) := by rw [wp_row hd]; exact w_br ht rfl
theorem w_iclt {a b : Int32} {off : Int} {t : Nat} (hd : decode (mB y) pc = .ok (.if_icmp .lt off, 3)) (ht : (pc : Int) + off = (t : Int)) : wp d y Q pc L (.int b :: .int a :: st) w cn sn = ((a < b → wp d y Q t L st w cn sn) ∧ (¬ a < b → wp d y Q (pc + 3) L st w cn sn)) := by rw [wp_row hd]; exact w_br ht rfl
theorem w_icge {a b : Int32} {off : Int} {t : Nat} (hd : decode (mB y) pc = .ok (.if_icmp .ge off, 3)) (ht : (pc : Int) + off = (t : Int)) : wp d y Q pc L (.int b :: .int a :: st) w cn sn = ((b ≤ a → wp d y Q t L st w cn sn) ∧ (¬ b ≤ a → wp d y Q (pc + 3) L st w cn sn)) := by rw [wp_row hd]; exact w_br ht rfl
theorem w_icgt {a b : Int32} {off : Int} {t : Nat} (hd : decode (mB y) pc = .ok (.if_icmp .gt off, 3)) (ht : (pc : Int) + off = (t : Int)) : wp d y Q pc L (.int b :: .int a :: st) w cn sn = ((b < a → wp d y Q t L st w cn sn) ∧ (¬ b < a → wp d y Q (pc + 3) L st w cn sn)) := by rw [wp_row hd]; exact w_br ht rfl
theorem w_icle {a b : Int32} {off : Int} {t : Nat} (hd : decode (mB y) pc = .ok (.if_icmp .le off, 3)) (ht : (pc : Int) + off = (t : Int)) : wp d y Q pc L (.int b :: .int a :: st) w cn sn = ((a ≤ b → wp d y Q t L st w cn sn) ∧ (¬ a ≤ b → wp d y Q (pc + 3) L st w cn sn)) := by rw [wp_row hd]; exact w_br ht rfl
theorem w_ifnull {q : Nat} {off : Int} {t : Nat} (hd : decode (mB y) pc = .ok (.ifnull off, 3)) (ht : (pc : Int) + off = (t : Int)) : wp d y Q pc L (.ref q :: st) w cn sn = wp d y Q (pc + 3) L st w cn sn := by
  rw [wp_row hd]; dsimp only [wp1, n3, pn]; refine w_br (t := t) ht ?_; first | simp | exact propext ⟨fun h => h.2 (by simp), fun h => ⟨fun e => by cases e, fun _ => h⟩⟩
theorem w_ifnullN {off : Int} {t : Nat} (hd : decode (mB y) pc = .ok (.ifnull off, 3)) (ht : (pc : Int) + off = (t : Int)) : wp d y Q pc L (.null :: st) w cn sn = wp d y Q t L st w cn sn := by
  rw [wp_row hd]; dsimp only [wp1, n3, pn]; refine w_br (t := t) ht ?_; first | simp | exact propext ⟨fun h => h.1 rfl, fun h => ⟨fun _ => h, fun e => absurd rfl e⟩⟩
theorem w_ifnn {q : Nat} {off : Int} {t : Nat} (hd : decode (mB y) pc = .ok (.ifnonnull off, 3)) (ht : (pc : Int) + off = (t : Int)) : wp d y Q pc L (.ref q :: st) w cn sn = wp d y Q t L st w cn sn := by
  rw [wp_row hd]; dsimp only [wp1, n3, pn]; refine w_br (t := t) ht ?_; first | simp | exact propext ⟨fun h => h.1 (by simp), fun h => ⟨fun _ => h, fun e => by cases e⟩⟩
theorem w_ifnnN {off : Int} {t : Nat} (hd : decode (mB y) pc = .ok (.ifnonnull off, 3)) (ht : (pc : Int) + off = (t : Int)) : wp d y Q pc L (.null :: st) w cn sn = wp d y Q (pc + 3) L st w cn sn := by
  rw [wp_row hd]; dsimp only [wp1, n3, pn]; refine w_br (t := t) ht ?_; first | simp | exact propext ⟨fun h => h.2 rfl, fun h => ⟨fun e => absurd rfl e, fun _ => h⟩⟩
theorem w_table {x : Int32} {dflt lo hi : Int} {offs : Array Int} {n : Nat} {ts : List Nat} {td : Nat} (hd : decode (mB y) pc = .ok (.tableswitch dflt lo hi offs, n)) (h1 : (pc : Int) + dflt = (td : Int)) (h2 : hi - lo + 1 = ts.length) (h3 : offs.toList.map (fun o => (pc : Int) + o) = ts.map Int.ofNat) :
    wp d y Q pc L (.int x :: st) w cn sn = ((x.toInt < lo ∨ hi < x.toInt → wp d y Q td L st w cn sn) ∧ ∀ (i t : Nat), ts[i]? = some t → x.toInt = lo + i → wp d y Q t L st w cn sn) := by
  have hl : offs.toList.length = ts.length := by have := congrArg List.length h3; simpa using this
  have key : ∀ (i t : Nat), ts[i]? = some t → ∃ o, offs[i]? = some o ∧ (pc : Int) + o = (t : Int) := by
    intro i t ht
    have h4 : (offs.toList.map (fun o => (pc : Int) + o))[i]? = (ts.map Int.ofNat)[i]? := by rw [h3]
    rw [List.getElem?_map, List.getElem?_map, ht] at h4
    cases ho : offs.toList[i]? with
    | none => rw [ho] at h4; cases h4
    | some o =>
      rw [ho] at h4
      refine ⟨o, ?_, ?_⟩
      · rw [← Array.getElem?_toList]; exact ho
      · exact Option.some.inj h4
  rw [wp_row hd]
  dsimp only [wp1, p1]
  refine propext ⟨fun h => ?_, fun h => ?_⟩
  · obtain ⟨k1, k2⟩ := h
    refine ⟨fun q => ?_, fun i t hi' hx => ?_⟩
    · obtain ⟨t, e, k⟩ := k1 q
      have : t = td := by omega
      rw [← this]; exact k
    · have hlt : i < ts.length := (List.getElem?_eq_some_iff.mp hi').1
      obtain ⟨o, ho, e⟩ := key i t hi'
      obtain ⟨o', ho', t', e', k⟩ := e_ot (k2 (by omega) (by omega))
      rw [show (x.toInt - lo).toNat = i by omega, ho] at ho'
      cases ho'
      have : t' = t := by omega
      rw [← this]; exact k
  · refine ⟨fun q => ⟨td, h1, h.1 q⟩, fun q1 q2 => ?_⟩
    have hlt : (x.toInt - lo).toNat < ts.length := by omega
    obtain ⟨o, ho, e⟩ := key _ _ (List.getElem?_eq_getElem hlt)
    rw [ho]
    exact ⟨_, e, h.2 _ _ (List.getElem?_eq_getElem hlt) (by omega)⟩
theorem w_getfield {k ci f a : Nat} (hd : decode (mB y) pc = .ok (.getfield k, 3)) (hf : fT (mO y) k = some (ci, f)) : wp d y Q pc L (.ref a :: st) w cn sn = (kd w a = ci + 1 ∧ wp d y Q (pc + 3) L (fd w (64 * ci + f) a :: st) w cn sn) := by
  rw [wp_row hd]; dsimp only [wp1, n3, pr]; rw [hf]; rfl
theorem w_putfield {k ci f a : Nat} {v : Value} (hd : decode (mB y) pc = .ok (.putfield k, 3)) (hf : fT (mO y) k = some (ci, f)) (hn : fin ci f = true → (mN y).name = "<init>" ∧ ci = mO y ∧ ci < vwCl.length) (hv : okv (tyOf ci f) v) : wp d y Q pc L (v :: .ref a :: st) w cn sn = (kd w a = ci + 1 ∧ wp d y Q (pc + 3) L st (uF w (64 * ci + f) a v) cn sn) := by
  rw [wp_row hd]; dsimp only [wp1, n3, pvr]; rw [hf]; dsimp only [oc]
  exact propext ⟨fun h => ⟨h.1, h.2.2.2⟩, fun h => ⟨h.1, hn, hv, h.2⟩⟩
theorem w_putfieldC {k ci f a : Nat} {v : Value} (hd : decode (mB y) pc = .ok (.putfield k, 3)) (hf : fT (mO y) k = some (ci, f)) (hn : fin ci f = true → (mN y).name = "<init>" ∧ ci = mO y ∧ ci < vwCl.length) : wp d y Q pc L (v :: .ref a :: st) w cn sn = (kd w a = ci + 1 ∧ okv (tyOf ci f) v ∧ wp d y Q (pc + 3) L st (uF w (64 * ci + f) a v) cn sn) := by
  rw [wp_row hd]; dsimp only [wp1, n3, pvr]; rw [hf]; dsimp only [oc]
  exact propext ⟨fun h => ⟨h.1, h.2.2⟩, fun h => ⟨h.1, hn, h.2⟩⟩
theorem w_getstatic {k j : Nat} (hd : decode (mB y) pc = .ok (.getstatic k, 3)) (hf : sT (mO y) k = some j) : wp d y Q pc L st w cn sn = wp d y Q (pc + 3) L (fd w (10000 + j) 0 :: st) w cn sn := by
  rw [wp_row hd]; dsimp only [wp1, n3]; rw [hf]; rfl
theorem w_new {k ci c s : Nat} (hd : decode (mB y) pc = .ok (.new k, 3)) (hf : nT (mO y) k = some ci) (hc : mC y = c) (hs : mS y = s) {n : Nat} (hn : clF ci = n) : wp d y Q pc L st w cn sn = (cn + 1 ≤ c ∧ sn + n ≤ s ∧ wp d y Q (pc + 3) L (.ref (zs w) :: st) (nw w (ci + 1) 0) (cn + 1) (sn + n)) := by
  rw [wp_row hd, ← hc, ← hs, ← hn]; dsimp only [wp1, n3]; rw [hf]; rfl
theorem w_newarray {t : ArrayType} {kn sz c s : Nat} {v : Int32} (hd : decode (mB y) pc = .ok (.newarray t, 2)) (hf : aTy t = some (kn, sz)) (hc : mC y = c) (hs : mS y = s) : wp d y Q pc L (.int v :: st) w cn sn = (¬ v < 0 ∧ v.toNatClampNeg * sz ≤ 536870912 ∧ cn + 1 ≤ c ∧ sn + v.toNatClampNeg ≤ s ∧ wp d y Q (pc + 2) L (.ref (zs w) :: st) (nw w kn v.toNatClampNeg) (cn + 1) (sn + v.toNatClampNeg)) := by
  rw [wp_row hd, ← hc, ← hs]; dsimp only [wp1, n2, p1]; rw [hf]; rfl
theorem w_anewarray {k ci c s : Nat} {v : Int32} (hd : decode (mB y) pc = .ok (.anewarray k, 3)) (hf : nT (mO y) k = some ci) (hu : ci + 1 = 7) (hc : mC y = c) (hs : mS y = s) : wp d y Q pc L (.int v :: st) w cn sn = (¬ v < 0 ∧ v.toNatClampNeg * 4 ≤ 536870912 ∧ cn + 1 ≤ c ∧ sn + v.toNatClampNeg ≤ s ∧ wp d y Q (pc + 3) L (.ref (zs w) :: st) (nw w 24 v.toNatClampNeg) (cn + 1) (sn + v.toNatClampNeg)) := by
  rw [wp_row hd, ← hc, ← hs]; dsimp only [wp1, n3, p1]; rw [hf]; exact tr_and hu
theorem spl_eq {n : Nat} {As r : List Value} {K : List Value → List Value → Prop} (hA : As.length = n) : spl n (As.reverse ++ r) K = K As r := by
  unfold spl
  rw [if_pos (by simp [hA])]
  have h1 : (As.reverse ++ r).take n = As.reverse := by rw [← hA, ← List.length_reverse, List.take_left']; rfl
  have h2 : (As.reverse ++ r).drop n = r := by rw [← hA, ← List.length_reverse, List.drop_left']; rfl
  rw [h1, h2, List.reverse_reverse]
theorem alc_0 {z : Nat} {K : Nat → Nat → Prop} (h : mC z = 0 ∧ mS z = 0) : alc y z cn sn K = K cn sn := by unfold alc; rw [if_pos h]
theorem w_virtual {k z kz : Nat} {b : Nat} {As r' : List Value} (hd : decode (mB y) pc = .ok (.invokevirtual k, 3)) (hf : cT (mO y) k = some (0, z)) (hA : As.length = mA z) (hv : clk (mO z) = true) (hk : mO z + 1 = kz) (h0 : mC z = 0 ∧ mS z = 0) (hst : st = As.reverse ++ .ref b :: r') : wp d y Q pc L st w cn sn = (kd w b = kz ∧ catS r' ≤ 8 ∧ wpD d z (.ref b :: As) w (fun v w' => wp d y Q (pc + 3) L (v.toList ++ r') w' cn sn)) := by
  rw [wp_row hd, hst]; dsimp only [wp1, n3]; rw [hf]; dsimp only [oc]
  rw [spl_eq hA, tr_and rfl, ← hk]
  dsimp only [pr, wcall]
  rw [alc_0 h0, tr_and hv]
  rfl
theorem w_static {k z kn : Nat} {As r' : List Value} (hd : decode (mB y) pc = .ok (.invokestatic k, 3)) (hf : cT (mO y) k = some (kn, z)) (hkn : kn = 2 ∨ kn = 5) (hA : As.length = mA z) (h0 : mC z = 0 ∧ mS z = 0) (hst : st = As.reverse ++ r') : wp d y Q pc L st w cn sn = (catS r' ≤ 8 ∧ wpD d z As w (fun v w' => wp d y Q (pc + 3) L (v.toList ++ r') w' cn sn)) := by
  rw [wp_row hd, hst]; dsimp only [wp1, n3]; rw [hf]; dsimp only [oc]
  rw [spl_eq hA, tr_and hkn]
  dsimp only [wcall]
  rw [alc_0 h0]
  rfl
theorem w_objinit {k z b : Nat} (hd : decode (mB y) pc = .ok (.invokespecial k, 3)) (hf : cT (mO y) k = some (3, z)) : wp d y Q pc L (.ref b :: st) w cn sn = (catS st ≤ 8 ∧ wp d y Q (pc + 3) L st w cn sn) := by
  rw [wp_row hd]; dsimp only [wp1, n3]; rw [hf]; dsimp only [oc]
  refine propext ⟨fun h => ?_, fun h => Or.inl ⟨rfl, h⟩⟩
  rcases h with ⟨-, h⟩ | ⟨h, -⟩
  · exact h
  · omega
theorem w_special {k z kn : Nat} {b : Nat} {As r' : List Value} (hd : decode (mB y) pc = .ok (.invokespecial k, 3)) (hf : cT (mO y) k = some (kn, z)) (hkn : kn = 1 ∨ kn = 4) (hA : As.length = mA z) (hst : st = As.reverse ++ .ref b :: r') : wp d y Q pc L st w cn sn = (catS r' ≤ 8 ∧ alc y z cn sn (fun c2 s2 => wpD d z (.ref b :: As) w (fun v w' => wp d y Q (pc + 3) L (v.toList ++ r') w' c2 s2))) := by
  rw [wp_row hd, hst]; dsimp only [wp1, n3]; rw [hf]; dsimp only [oc]
  have e : spl (mA z) (As.reverse ++ .ref b :: r') (fun As r => pr r fun b r => wcall (wpD d) y z pc (.ref b :: As) r L w cn sn (wp d y Q)) = wcall (wpD d) y z pc (.ref b :: As) r' L w cn sn (wp d y Q) := spl_eq hA
  refine propext ⟨fun h => ?_, fun h => Or.inr ⟨hkn, by rw [e]; exact h⟩⟩
  rcases h with ⟨h, -⟩ | ⟨-, h⟩
  · omega
  · rw [e] at h; exact h
theorem w_ireturn {v : Int32} (hd : decode (mB y) pc = .ok (.ireturn, 1)) (hr : mR y = some .int) : wp d y Q pc L [.int v] w cn sn = Q (some (.int v)) w := by
  rw [wp_row hd]; dsimp only [wp1, n1]; rw [hr]; rfl
theorem w_zreturn {v : Int32} (hd : decode (mB y) pc = .ok (.ireturn, 1)) (hr : mR y = some .boolean) : wp d y Q pc L [.int v] w cn sn = (narrow .boolean (.int v) = .int v ∧ Q (some (.int v)) w) := by
  rw [wp_row hd]; dsimp only [wp1, n1]; rw [hr]; rfl
theorem w_creturn {v : Int32} (hd : decode (mB y) pc = .ok (.ireturn, 1)) (hr : mR y = some .char) : wp d y Q pc L [.int v] w cn sn = (narrow .char (.int v) = .int v ∧ Q (some (.int v)) w) := by
  rw [wp_row hd]; dsimp only [wp1, n1]; rw [hr]; rfl
theorem w_breturn {v : Int32} (hd : decode (mB y) pc = .ok (.ireturn, 1)) (hr : mR y = some .byte) : wp d y Q pc L [.int v] w cn sn = (narrow .byte (.int v) = .int v ∧ Q (some (.int v)) w) := by
  rw [wp_row hd]; dsimp only [wp1, n1]; rw [hr]; rfl
theorem w_lreturn {v : Int64} (hd : decode (mB y) pc = .ok (.lreturn, 1)) (hr : mR y = some .long) : wp d y Q pc L [.long v] w cn sn = Q (some (.long v)) w := by
  rw [wp_row hd]; exact tr_and hr
theorem w_areturn {v : Nat} {C : String} (hd : decode (mB y) pc = .ok (.areturn, 1)) (hr : mR y = some (.object C)) : wp d y Q pc L [.ref v] w cn sn = Q (some (.ref v)) w := by
  rw [wp_row hd]; dsimp only [wp1, n1]; rw [hr]; rfl
theorem w_areturnN {C : String} (hd : decode (mB y) pc = .ok (.areturn, 1)) (hr : mR y = some (.object C)) : wp d y Q pc L [.null] w cn sn = Q (some .null) w := by
  rw [wp_row hd]; dsimp only [wp1, n1]; rw [hr]; rfl
theorem w_return (hd : decode (mB y) pc = .ok (.return_, 1)) (hr : mR y = none) : wp d y Q pc L [] w cn sn = Q none w := by
  rw [wp_row hd]; exact tr_and hr
theorem ok_int {x : Int32} : okv .int (.int x) := ⟨rfl, rfl⟩
theorem ok_long {x : Int64} : okv .long (.long x) := ⟨rfl, rfl⟩
theorem ok_ref {C : String} {q : Nat} : okv (.object C) (.ref q) := ⟨rfl, rfl⟩
theorem ok_null {C : String} : okv (.object C) .null := ⟨rfl, rfl⟩
theorem ok_arr {t : FieldType} {q : Nat} : okv (.array t) (.ref q) := ⟨rfl, rfl⟩
theorem ok_z0 : okv .boolean (.int 0) := ⟨rfl, rfl⟩
theorem ok_z1 : okv .boolean (.int 1) := ⟨rfl, rfl⟩
end Rw
