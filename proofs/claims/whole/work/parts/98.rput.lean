def isLA (S : ps) (a : Nat) : Bool := decide (127 - a % 128 < (S.2.2.2 (a / 128)).length)
def PI (S : ps) : Prop := S.1 < 4096 ∧ S.2.2.1.Nodup ∧ (∀ a, a ∈ S.2.2.1 ↔ (S.2.1 a).isSome = true) ∧ (∀ a x, S.2.1 a = some x → a < 4096 ∧ x < 4096) ∧ (∀ g, (S.2.2.2 g).Nodup ∧ (S.2.2.2 g).length ≤ 128) ∧ ∀ g i, g < 32 → ∀ h : i < (S.2.2.2 g).length, S.2.1 (g * 128 + 127 - i) = some (S.2.2.2 g)[i]
def oW : Option Nat → Int32
  | some x => nI x
  | none => -1
def RWd (w : aw) (m : Nat) (S : ps) : Prop := fd w 553 m = .int (nI S.2.2.1.length) ∧ (∀ a, a < 4096 → ai w (m + 22) a = oW (S.2.1 a)) ∧ (∀ a x, S.2.1 a = some x → ai w (m + 23) a = if isLA S a = true then 1 else 0) ∧ ∀ g, g < 32 → ai w (m + 24) g = nI 127 - nI (S.2.2.2 g).length
theorem PI.len {S : ps} (h : PI S) : S.2.2.1.length ≤ 4096 := nodup_len 4096 _ h.2.1 (fun a ha => by
  obtain ⟨x, hx⟩ := Option.isSome_iff_exists.mp ((h.2.2.1 a).mp ha)
  exact (h.2.2.2.1 a x hx).1)
theorem PI.room {S : ps} {a : Nat} (h : PI S) (ha : a < 4096) (hn : S.2.1 a = none) : S.2.2.1.length < 4096 := by
  have hm : a ∉ S.2.2.1 := fun q => by have := (h.2.2.1 a).mp q; rw [hn] at this; cases this
  have := nodup_len 4096 (a :: S.2.2.1) (List.nodup_cons.mpr ⟨hm, h.2.1⟩) (fun b hb => by
    rcases List.mem_cons.mp hb with q | q
    · omega
    · obtain ⟨x, hx⟩ := Option.isSome_iff_exists.mp ((h.2.2.1 b).mp q)
      exact (h.2.2.2.1 b x hx).1)
  simp at this
  omega
theorem PI.noLA {S : ps} {a : Nat} (h : PI S) (ha : a < 4096) (hn : S.2.1 a = none) : isLA S a = false := by
  cases c : isLA S a with
  | false => rfl
  | true =>
    have c' : 127 - a % 128 < (S.2.2.2 (a / 128)).length := of_decide_eq_true c
    have := h.2.2.2.2.2 (a / 128) (127 - a % 128) (by omega) c'
    rw [show a / 128 * 128 + 127 - (127 - a % 128) = a by omega, hn] at this
    cases this
theorem PI.put {S : ps} {a x d : Nat} (h : PI S) (ha : a < 4096) (hx : x < 4096) (hd : d < 4096) (hn : S.2.1 a = none) : PI (d, va_up S.2.1 a (some x), S.2.2.1 ++ [a], S.2.2.2) := by
  obtain ⟨b1, b2, b3, b4, b5, b6⟩ := h
  have hm : a ∉ S.2.2.1 := fun q => by have := (b3 a).mp q; rw [hn] at this; cases this
  refine ⟨hd, ?_, fun b => ?_, fun b y hb => ?_, b5, fun g i hg hi => ?_⟩
  · show (S.2.2.1 ++ [a]).Nodup
    rw [List.nodup_append]
    exact ⟨b2, by simp, fun y hy z hz e => hm (by rw [List.mem_singleton.mp hz] at e; rw [← e]; exact hy)⟩
  · show b ∈ S.2.2.1 ++ [a] ↔ (va_up S.2.1 a (some x) b).isSome = true
    unfold va_up
    rw [List.mem_append, List.mem_singleton]
    by_cases c : b = a
    · rw [if_pos c]; simp [c]
    · rw [if_neg c, b3]; simp [c]
  · have hb' : va_up S.2.1 a (some x) b = some y := hb
    unfold va_up at hb'
    split at hb'
    · rename_i c; cases hb'; exact ⟨by omega, hx⟩
    · exact b4 b y hb'
  · show va_up S.2.1 a (some x) _ = _
    have := b6 g i hg hi
    unfold va_up
    rw [if_neg (fun q => by rw [q, hn] at this; cases this)]
    exact this
theorem PI.dot {S : ps} {v : Nat} (h : PI S) (hv : v < 4096) : PI (v, S.2) := ⟨hv, h.2⟩
theorem fidx_some {L : List Nat} {v i : Nat} (hn : L.Nodup) (hi : i < L.length) (hv : L[i] = v) : L.findIdx? (fun y => y == v) = some i := by
  rw [List.findIdx?_eq_some_iff_getElem]
  refine ⟨hi, by simp [hv], fun j hj => ?_⟩
  simp
  intro e
  have hjl : j < L.length := by omega
  have : j = i := (List.getElem?_inj hjl hn).mp (by rw [List.getElem?_eq_getElem hjl, List.getElem?_eq_getElem hi, e, hv])
  omega
theorem fidx_in {L : List Nat} {v i : Nat} (h : L.findIdx? (fun y => y == v) = some i) : ∃ hi : i < L.length, L[i] = v := by
  rw [List.findIdx?_eq_some_iff_getElem] at h
  obtain ⟨hi, hv, _⟩ := h
  exact ⟨hi, by simpa using hv⟩
theorem fidx_none {L : List Nat} {v : Nat} (h : ∀ i (hi : i < L.length), L[i] ≠ v) : L.findIdx? (fun y => y == v) = none := by
  cases c : L.findIdx? (fun y => y == v) with
  | none => rfl
  | some i => obtain ⟨hi, e⟩ := fidx_in c; exact absurd e (h i hi)
theorem fidx_no {L : List Nat} {v : Nat} (h : L.findIdx? (fun y => y == v) = none) : v ∉ L := by
  intro hm
  obtain ⟨i, hi, e⟩ := List.getElem_of_mem hm
  rw [List.findIdx?_eq_none_iff] at h
  have := h v hm
  simp at this
theorem PI.lit {S : ps} {v : Nat} (h : PI S) (hv : v < 4096) (hf : (S.2.2.2 (S.1 / 128)).findIdx? (fun y => y == v) = none) (hl : (S.2.2.2 (S.1 / 128)).length < 128) (hn : S.2.1 (S.1 / 128 * 128 + 127 - (S.2.2.2 (S.1 / 128)).length) = none) : PI (S.1, va_up S.2.1 (S.1 / 128 * 128 + 127 - (S.2.2.2 (S.1 / 128)).length) (some v), S.2.2.1 ++ [S.1 / 128 * 128 + 127 - (S.2.2.2 (S.1 / 128)).length], va_up S.2.2.2 (S.1 / 128) (S.2.2.2 (S.1 / 128) ++ [v])) := by
  have hd := h.1
  have h1 := h.put (a := S.1 / 128 * 128 + 127 - (S.2.2.2 (S.1 / 128)).length) (x := v) (d := S.1) (by omega) hv hd hn
  obtain ⟨b1, b2, b3, b4, b5, b6⟩ := h1
  refine ⟨b1, b2, b3, b4, fun g => ?_, fun g i hg hi => ?_⟩
  · show (va_up S.2.2.2 (S.1 / 128) (S.2.2.2 (S.1 / 128) ++ [v]) g).Nodup ∧ (va_up S.2.2.2 (S.1 / 128) (S.2.2.2 (S.1 / 128) ++ [v]) g).length ≤ 128
    unfold va_up
    by_cases c : g = S.1 / 128
    · rw [if_pos c]
      refine ⟨?_, by rw [List.length_append]; simp; omega⟩
      rw [List.nodup_append]
      exact ⟨(b5 _).1, by simp, fun y hy z hz e => fidx_no hf (by rw [List.mem_singleton.mp hz] at e; rw [← e]; exact hy)⟩
    · rw [if_neg c]; exact b5 g
  · have ho := h.2.2.2.2.2
    by_cases c : g = S.1 / 128
    · subst c
      have e : (va_up S.2.2.2 (S.1 / 128) (S.2.2.2 (S.1 / 128) ++ [v])) (S.1 / 128) = S.2.2.2 (S.1 / 128) ++ [v] := by unfold va_up; rw [if_pos rfl]
      show va_up S.2.1 (S.1 / 128 * 128 + 127 - (S.2.2.2 (S.1 / 128)).length) (some v) (S.1 / 128 * 128 + 127 - i) = some ((va_up S.2.2.2 (S.1 / 128) (S.2.2.2 (S.1 / 128) ++ [v])) (S.1 / 128))[i]
      have hi' : i < (S.2.2.2 (S.1 / 128) ++ [v]).length := by
        have : i < ((va_up S.2.2.2 (S.1 / 128) (S.2.2.2 (S.1 / 128) ++ [v])) (S.1 / 128)).length := hi
        rw [e] at this; exact this
      have e2 : ((va_up S.2.2.2 (S.1 / 128) (S.2.2.2 (S.1 / 128) ++ [v])) (S.1 / 128))[i] = (S.2.2.2 (S.1 / 128) ++ [v])[i] := by simp only [e]
      rw [e2]
      rw [List.length_append] at hi'
      simp at hi'
      by_cases c2 : i = (S.2.2.2 (S.1 / 128)).length
      · subst c2
        unfold va_up
        rw [if_pos rfl]; simp
      · have hil : i < (S.2.2.2 (S.1 / 128)).length := by omega
        rw [List.getElem_append_left hil]
        have := ho (S.1 / 128) i (by omega) hil
        unfold va_up
        rw [if_neg (by omega)]; exact this
    · have e : (va_up S.2.2.2 (S.1 / 128) (S.2.2.2 (S.1 / 128) ++ [v])) g = S.2.2.2 g := by unfold va_up; rw [if_neg c]
      show va_up S.2.1 (S.1 / 128 * 128 + 127 - (S.2.2.2 (S.1 / 128)).length) (some v) (g * 128 + 127 - i) = some ((va_up S.2.2.2 (S.1 / 128) (S.2.2.2 (S.1 / 128) ++ [v])) g)[i]
      have hi' : i < (S.2.2.2 g).length := by
        have : i < ((va_up S.2.2.2 (S.1 / 128) (S.2.2.2 (S.1 / 128) ++ [v])) g).length := hi
        rw [e] at this; exact this
      have e2 : ((va_up S.2.2.2 (S.1 / 128) (S.2.2.2 (S.1 / 128) ++ [v])) g)[i] = (S.2.2.2 g)[i] := by simp only [e]
      rw [e2]
      have := ho g i hg hi'
      unfold va_up
      rw [if_neg (fun q => by rw [q, hn] at this; cases this)]; exact this
