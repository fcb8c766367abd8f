/-! the calculus gives contracts -/
theorem lo0_len (As : List Value) : (lo0 As).length = (lg_sl As).length := by
  induction As with
  | nil => rfl
  | cons v r ih =>
    unfold lo0 lg_sl at ih ⊢
    rw [List.flatMap_cons, List.flatMap_cons, List.length_append, List.length_append, ih]
    split <;> rfl
theorem lo0_get : ∀ (As : List Value) (i : Nat) (v : Value), (lo0 As)[i]? = some (some v) → (lg_sl As)[i]? = some (.val v) := by
  intro As
  induction As with
  | nil => intro i v h; simp [lo0] at h
  | cons u r ih =>
    intro i v h
    unfold lo0 at h
    unfold lg_sl
    rw [List.flatMap_cons] at h ⊢
    split at h
    · rename_i hc
      rw [if_pos hc]
      match i, h with
      | 0, h => simp at h; simp [h]
      | 1, h => simp at h
      | i + 2, h => simp at h ⊢; exact ih i v h
    · rename_i hc
      rw [if_neg hc]
      match i, h with
      | 0, h => simp at h; simp [h]
      | i + 1, h => simp at h ⊢; exact ih i v h
theorem lh_entry {As : List Value} {n : Nat} (h : (lo0 As).length ≤ n) : lh ((lg_sl As ++ List.replicate (n - (lg_sl As).length) Slot.unset).toArray) (loE n As) := by
  have e := lv_entry As (n := n) (by rw [← lo0_len]; exact h)
  refine ⟨?_, e.2.1, fun i v hv => ?_⟩
  · rw [e.1]; unfold loE; rw [List.length_append, List.length_replicate]; omega
  · unfold loE at hv
    by_cases hi : i < (lo0 As).length
    · rw [List.getElem?_append_left hi] at hv
      have h1 := lo0_get As i v hv
      rw [List.getElem?_toArray, List.getElem?_append_left (by rw [← lo0_len]; exact hi)]
      exact h1
    · rw [List.getElem?_append_right (by omega)] at hv
      have := List.mem_of_getElem? hv
      simp at this
theorem loE_len {As : List Value} {n : Nat} (h : (lo0 As).length ≤ n) : (loE n As).length = n := by
  unfold loE; rw [List.length_append, List.length_replicate]; omega
section Mt
variable {p : Program} {l : Launch} {e : Env} {s : State} {m : MethodId} {args : Array Value} {below : List Frame} {meth : Method} {c : Code} {D : va_G} {tA : Nat → ClassId} {B y d : Nat} {Q : wQ}
theorem ends_met {R : Room} (hx : p.tables.exec = Jvm.exec) (hb : c.code = mB y) (hr : meth.sig.returnType = mR y) (hlocks : meth.locks = false) : ends p l e R s m args below meth c D tA B y (MQ below (PostX D tA B Q) args s (mC y) (mS y) (fun q => B ≤ q)) Q := by
  intro H locs ls w pc cn sn hrp hS hcn hsn
  have post : ∀ (v : Option Value), Q v w → ∀ t : State, t.heap = H → s.WarmedH t.vm → PostX D tA B Q args s (.returned v) t := fun v hq t ht hW =>
    ⟨⟨v, w, rfl, hq, by rw [ht]; exact hrp.moved hW.alike⟩, hS.F ht⟩
  refine ⟨fun v ty hm hn hd hq => ?_, fun v hm hd hq => ?_, fun x ty hm hty hd hq => ?_, fun hm hd hq => ?_⟩
  · exact W.widen hcn hsn (W.zret hx hb (hr.trans hm) hn (post _ hq) hS.2.2 hd)
  · exact W.widen hcn hsn (W.lret hx hb (hr.trans hm) (post _ hq) hS.2.2 hd)
  · refine W.widen hcn hsn (W.aret hx hb (hr.trans hm) hty ?_ (post _ hq) hS.2.2 hd)
    cases x with
    | none => exact Or.inl rfl
    | some a => exact Or.inr ⟨a, rfl⟩
  · exact W.widen hcn hsn (W.vret hx hb (hr.trans hm) (post _ hq) hS.2.2 hd)
end Mt
theorem snd_step {l : Launch} {D : va_G} {tA : Nat → ClassId} {B d : Nat} (hC : sndC l D tA B d (wpD d)) : sndC l D tA B (d + 1) (wpD (d + 1)) := by
  intro z As w Q z0 zm h
  obtain ⟨hlen, h⟩ := h
  obtain ⟨o1, o2, o3, o4, o5, o6⟩ := mO_ok zm
  refine Met.ofW (cc := mB z) (maxL := mL z) (ret := mR z) o5 rfl ?_
  intro p e s m args below meth c s₁ Bd hml hv
  obtain ⟨rfl, hrp, hK⟩ := hv
  have hx := Bd.exec
  have hb := Bd.bytes
  have hr := Bd.returns
  have hts := atoms_spec (ws := wM z) Bd.pre
  have hown : s.vm.findClass (mN z).cls = some m.cls := findClass_of_methodNamed Bd.named
  have hlocks := Bd.notSynchronized
  have hnm : meth.name = (mN z).name := (name_of_methodNamed Bd.named Bd.method).1
  have X : cx p (rmD (d + 1) z) s m As.toArray meth c D tA B z d := ⟨hx, hb, hml, by rw [o1]; exact hown, fun w hw => hts w (List.mem_cons_of_mem _ hw), hnm, hK, ⟨Nat.le_refl _, Nat.le_refl _, rfl, rfl⟩, by have := hrp.2.2.1; have := hrp.2.2.2.1; omega⟩
  rw [lg_entry_eq]
  exact h _ (J_closed X hC (ends_met hx hb hr hlocks)) s.heap [] _ hrp va_S.rf (lh_entry hlen) (loE_len hlen) (Nat.zero_le _) (Nat.zero_le _)
theorem snd_all (l : Launch) (D : va_G) (tA : Nat → ClassId) (B : Nat) : ∀ d, sndC l D tA B d (wpD d)
  | 0 => fun _ _ _ _ _ _ h => h.elim
  | d + 1 => snd_step (snd_all l D tA B d)
