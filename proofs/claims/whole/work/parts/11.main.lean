section Mn
variable {p : Program} {l : Launch} {e : Env} {R : Room} {s : State} {m : MethodId} {args : Array Value} {below : List Frame} {meth : Method} {c : Code} {D : va_G} {tA : Nat → ClassId} {B y d : Nat} {Z : State → Prop} {C : wC} {Q : wQ}
set_option maxHeartbeats 4000000 in
set_option maxRecDepth 100000 in
theorem J_closed (X : cx p R s m args meth c D tA B y d) (hC : sndC l D tA B d C) (hE : ends p l e R s m args below meth c D tA B y Z Q) : ∀ pc L st w cn sn, wpF C y Q (J p l e R s m args below meth c D tA B y Z) pc L st w cn sn → J p l e R s m args below meth c D tA B y Z pc L st w cn sn := by
  have X0 := X
  obtain ⟨hx, hb, hml, hown, hts, hnm, hK, hR, hB⟩ := X
  intro pc L st w cn sn h
  unfold wpF at h
  split at h
  case h_2 => exact h.elim
  rename_i i n hd
  unfold wp1 at h
  split at h
  · replace h := e_n1 h; obtain ⟨rfl, h⟩ := h; intro H locs ls hr hS hl hL hcn hsn; exact lv_iconst hx hb hd rfl (h H locs ls hr hS hl hL hcn hsn)
  · replace h := e_n2 h; obtain ⟨rfl, h⟩ := h; intro H locs ls hr hS hl hL hcn hsn; exact lv_bipush hx hb hd rfl (h H locs ls hr hS hl hL hcn hsn)
  · replace h := e_n3 h; obtain ⟨rfl, h⟩ := h; intro H locs ls hr hS hl hL hcn hsn; exact lv_sipush hx hb hd rfl (h H locs ls hr hS hl hL hcn hsn)
  · replace h := e_n1 h; obtain ⟨rfl, h⟩ := h; intro H locs ls hr hS hl hL hcn hsn; exact lv_lconst hx hb hd rfl (h H locs ls hr hS hl hL hcn hsn)
  · replace h := e_n1 h; obtain ⟨rfl, h⟩ := h; intro H locs ls hr hS hl hL hcn hsn; exact lv_null hx hb hd (h H locs ls hr hS hl hL hcn hsn)
  · replace h := e_n1 h; obtain ⟨rfl, h⟩ := h; replace h := e_li h; obtain ⟨v, hv, h⟩ := h; intro H locs ls hr hS hl hL hcn hsn; exact lv_iload_n hx hb hd rfl (hl.at hv) (h H locs ls hr hS hl hL hcn hsn)
  · replace h := e_n2 h; obtain ⟨rfl, h⟩ := h; replace h := e_li h; obtain ⟨v, hv, h⟩ := h; intro H locs ls hr hS hl hL hcn hsn; exact lv_iload hx hb hd (hl.at hv) (h H locs ls hr hS hl hL hcn hsn)
  · replace h := e_n1 h; obtain ⟨rfl, h⟩ := h; replace h := e_ll h; obtain ⟨v, hv, h⟩ := h; intro H locs ls hr hS hl hL hcn hsn; exact lv_lload_n hx hb hd rfl (hl.at hv) (h H locs ls hr hS hl hL hcn hsn)
  · replace h := e_n2 h; obtain ⟨rfl, h⟩ := h; replace h := e_ll h; obtain ⟨v, hv, h⟩ := h; intro H locs ls hr hS hl hL hcn hsn; exact lv_lload hx hb hd (hl.at hv) (h H locs ls hr hS hl hL hcn hsn)
  · replace h := e_n1 h; obtain ⟨rfl, h⟩ := h; replace h := e_lr h; obtain ⟨v, hv, h⟩ := h; intro H locs ls hr hS hl hL hcn hsn
    cases v with
    | some q => exact lv_aload_n hx hb hd rfl (hl.at hv) (h H locs ls hr hS hl hL hcn hsn)
    | none => exact lv_aload_nN hx hb hd rfl (hl.at hv) (h H locs ls hr hS hl hL hcn hsn)
  · replace h := e_n2 h; obtain ⟨rfl, h⟩ := h; replace h := e_lr h; obtain ⟨v, hv, h⟩ := h; intro H locs ls hr hS hl hL hcn hsn
    cases v with
    | some q => exact lv_aload hx hb hd (hl.at hv) (h H locs ls hr hS hl hL hcn hsn)
    | none => exact lv_aloadN hx hb hd (hl.at hv) (h H locs ls hr hS hl hL hcn hsn)
  · replace h := e_n1 h; obtain ⟨rfl, h⟩ := h; replace h := e_p1 h; obtain ⟨v, r, rfl, hk, h⟩ := h; intro H locs ls hr hS hl hL hcn hsn; exact lv_istore_n hx hb hd rfl hl.has hk rfl (fun ls' h' => h H locs ls' hr hS (lh.st1 h') (by rw [st1_len]; exact hL) hcn hsn)
  · replace h := e_n2 h; obtain ⟨rfl, h⟩ := h; replace h := e_p1 h; obtain ⟨v, r, rfl, hk, h⟩ := h; intro H locs ls hr hS hl hL hcn hsn; exact lv_istore hx hb hd hl.has hk rfl (fun ls' h' => h H locs ls' hr hS (lh.st1 h') (by rw [st1_len]; exact hL) hcn hsn)
  · replace h := e_n1 h; obtain ⟨rfl, h⟩ := h; replace h := e_q1 h; obtain ⟨v, r, rfl, hk, h⟩ := h; intro H locs ls hr hS hl hL hcn hsn; exact lv_lstore_n hx hb hd rfl hl.has hk rfl (fun ls' h' => h H locs ls' hr hS (lh.st2 hk h') (by rw [st2_len _ _ _ hk]; exact hL) hcn hsn)
  · replace h := e_n2 h; obtain ⟨rfl, h⟩ := h; replace h := e_q1 h; obtain ⟨v, r, rfl, hk, h⟩ := h; intro H locs ls hr hS hl hL hcn hsn; exact lv_lstore hx hb hd hl.has hk rfl (fun ls' h' => h H locs ls' hr hS (lh.st2 hk h') (by rw [st2_len _ _ _ hk]; exact hL) hcn hsn)
  · replace h := e_n1 h; obtain ⟨rfl, h⟩ := h; replace h := e_pn h; obtain ⟨v, r, rfl, hk, h⟩ := h; intro H locs ls hr hS hl hL hcn hsn
    cases v with
    | some q => exact lv_astore_n hx hb hd rfl hl.has hk rfl (fun ls' h' => h H locs ls' hr hS (lh.st1 h') (by rw [st1_len]; exact hL) hcn hsn)
    | none => exact lv_astore_nN hx hb hd rfl hl.has hk rfl (fun ls' h' => h H locs ls' hr hS (lh.st1 h') (by rw [st1_len]; exact hL) hcn hsn)
  · replace h := e_n2 h; obtain ⟨rfl, h⟩ := h; replace h := e_pn h; obtain ⟨v, r, rfl, hk, h⟩ := h; intro H locs ls hr hS hl hL hcn hsn
    cases v with
    | some q => exact lv_astore hx hb hd hl.has hk rfl (fun ls' h' => h H locs ls' hr hS (lh.st1 h') (by rw [st1_len]; exact hL) hcn hsn)
    | none => exact lv_astoreN hx hb hd hl.has hk rfl (fun ls' h' => h H locs ls' hr hS (lh.st1 h') (by rw [st1_len]; exact hL) hcn hsn)
  · replace h := e_n3 h; obtain ⟨rfl, h⟩ := h; replace h := e_li h; obtain ⟨v, hv, h⟩ := h; intro H locs ls hr hS hl hL hcn hsn
    have hv' := nth_some hv
    obtain ⟨kk0, hk0⟩ := List.getElem?_of_mem (lo_mem.mpr hv')
    exact lv_iinc hx hb hd hl.has hk0 rfl (List.getElem?_eq_some_iff.mp hv').1 rfl (fun ls' h' => h H locs ls' hr hS (lh.st1 h') (by rw [st1_len]; exact hL) hcn hsn)
  · replace h := e_n1 h; obtain ⟨rfl, h⟩ := h; replace h := e_p2 h; obtain ⟨a, b, r, rfl, h⟩ := h; intro H locs ls hr hS hl hL hcn hsn; exact lv_iadd hx hb hd (h H locs ls hr hS hl hL hcn hsn)
  · replace h := e_n1 h; obtain ⟨rfl, h⟩ := h; replace h := e_p2 h; obtain ⟨a, b, r, rfl, h⟩ := h; intro H locs ls hr hS hl hL hcn hsn; exact lv_isub hx hb hd (h H locs ls hr hS hl hL hcn hsn)
  · replace h := e_n1 h; obtain ⟨rfl, h⟩ := h; replace h := e_p2 h; obtain ⟨a, b, r, rfl, h⟩ := h; intro H locs ls hr hS hl hL hcn hsn; exact lv_imul hx hb hd (h H locs ls hr hS hl hL hcn hsn)
  · replace h := e_n1 h; obtain ⟨rfl, h⟩ := h; replace h := e_p2 h; obtain ⟨a, b, r, rfl, h⟩ := h; intro H locs ls hr hS hl hL hcn hsn; exact lv_iand hx hb hd (h H locs ls hr hS hl hL hcn hsn)
  · replace h := e_n1 h; obtain ⟨rfl, h⟩ := h; replace h := e_p2 h; obtain ⟨a, b, r, rfl, h⟩ := h; intro H locs ls hr hS hl hL hcn hsn; exact lv_ior hx hb hd (h H locs ls hr hS hl hL hcn hsn)
  · replace h := e_n1 h; obtain ⟨rfl, h⟩ := h; replace h := e_p2 h; obtain ⟨a, b, r, rfl, h⟩ := h; intro H locs ls hr hS hl hL hcn hsn; exact lv_ixor hx hb hd (h H locs ls hr hS hl hL hcn hsn)
  · replace h := e_n1 h; obtain ⟨rfl, h⟩ := h; replace h := e_p2 h; obtain ⟨a, b, r, rfl, h⟩ := h; intro H locs ls hr hS hl hL hcn hsn; exact lv_ishl hx hb hd (h H locs ls hr hS hl hL hcn hsn)
  · replace h := e_n1 h; obtain ⟨rfl, h⟩ := h; replace h := e_p2 h; obtain ⟨a, b, r, rfl, h⟩ := h; intro H locs ls hr hS hl hL hcn hsn; exact lv_ishr hx hb hd (h H locs ls hr hS hl hL hcn hsn)
  · replace h := e_n1 h; obtain ⟨rfl, h⟩ := h; replace h := e_p2 h; obtain ⟨a, b, r, rfl, h0, h⟩ := h; intro H locs ls hr hS hl hL hcn hsn; exact lv_idiv hx hb hd h0 (h H locs ls hr hS hl hL hcn hsn)
  · replace h := e_n1 h; obtain ⟨rfl, h⟩ := h; replace h := e_p2 h; obtain ⟨a, b, r, rfl, h0, h⟩ := h; intro H locs ls hr hS hl hL hcn hsn; exact lv_irem hx hb hd h0 (h H locs ls hr hS hl hL hcn hsn)
  · replace h := e_n1 h; obtain ⟨rfl, h⟩ := h; replace h := e_q2 h; obtain ⟨a, b, r, rfl, h⟩ := h; intro H locs ls hr hS hl hL hcn hsn; exact lv_ladd hx hb hd (h H locs ls hr hS hl hL hcn hsn)
  · replace h := e_n1 h; obtain ⟨rfl, h⟩ := h; replace h := e_q2 h; obtain ⟨a, b, r, rfl, h⟩ := h; intro H locs ls hr hS hl hL hcn hsn; exact lv_lmul hx hb hd (h H locs ls hr hS hl hL hcn hsn)
  · replace h := e_n1 h; obtain ⟨rfl, h⟩ := h; replace h := e_q2 h; obtain ⟨a, b, r, rfl, h⟩ := h; intro H locs ls hr hS hl hL hcn hsn; exact lv_lor hx hb hd (h H locs ls hr hS hl hL hcn hsn)
  · replace h := e_n1 h; obtain ⟨rfl, h⟩ := h; replace h := e_p1 h; obtain ⟨b, r, rfl, h⟩ := h; replace h := e_q1 h; obtain ⟨a, r, rfl, h⟩ := h; intro H locs ls hr hS hl hL hcn hsn; exact lv_lshl hx hb hd rfl (h H locs ls hr hS hl hL hcn hsn)
  · replace h := e_n1 h; obtain ⟨rfl, h⟩ := h; replace h := e_q2 h; obtain ⟨a, b, r, rfl, h⟩ := h; intro H locs ls hr hS hl hL hcn hsn; exact W.lcmp hx hb hd (h H locs ls hr hS hl hL hcn hsn)
  · replace h := e_n1 h; obtain ⟨rfl, h⟩ := h; replace h := e_p1 h; obtain ⟨a, r, rfl, h⟩ := h; intro H locs ls hr hS hl hL hcn hsn; exact lv_i2l hx hb hd rfl (h H locs ls hr hS hl hL hcn hsn)
  · replace h := e_n1 h; obtain ⟨rfl, h⟩ := h; replace h := e_p1 h; obtain ⟨a, r, rfl, h⟩ := h; intro H locs ls hr hS hl hL hcn hsn; exact lv_i2b hx hb hd rfl (h H locs ls hr hS hl hL hcn hsn)
  · replace h := e_n1 h; obtain ⟨rfl, h⟩ := h; replace h := e_p1 h; obtain ⟨a, r, rfl, h⟩ := h; intro H locs ls hr hS hl hL hcn hsn; exact lv_i2c hx hb hd rfl (h H locs ls hr hS hl hL hcn hsn)
  · replace h := e_n1 h; obtain ⟨rfl, h⟩ := h; split at h
    · obtain ⟨h0, h⟩ := h; intro H locs ls hr hS hl hL hcn hsn; exact lv_dup hx hb hd h0 (h H locs ls hr hS hl hL hcn hsn)
    · exact h.elim
  · replace h := e_n1 h; obtain ⟨rfl, h⟩ := h; split at h
    · obtain ⟨h0, h⟩ := h; intro H locs ls hr hS hl hL hcn hsn; exact lv_pop hx hb hd h0 (h H locs ls hr hS hl hL hcn hsn)
    · exact h.elim
  · replace h := e_n1 h; obtain ⟨rfl, h⟩ := h; split at h
    · obtain ⟨h0, h1, h⟩ := h; intro H locs ls hr hS hl hL hcn hsn; exact lv_dup2_11 hx hb hd h0 h1 (h H locs ls hr hS hl hL hcn hsn)
    · exact h.elim
  · replace h := e_n3 h; obtain ⟨rfl, h⟩ := h; obtain ⟨t, ht, h⟩ := h; intro H locs ls hr hS hl hL hcn hsn; exact lv_goto hx hb hd ht (h H locs ls hr hS hl hL hcn hsn)
  · replace h := e_n3 h; obtain ⟨rfl, h⟩ := h; replace h := e_p1 h; obtain ⟨x, r, rfl, t, ht, h1, h2⟩ := h; intro H locs ls hr hS hl hL hcn hsn; exact lv_if_eq hx hb hd ht (fun q => h1 q H locs ls hr hS hl hL hcn hsn) (fun q => h2 q H locs ls hr hS hl hL hcn hsn)
  · replace h := e_n3 h; obtain ⟨rfl, h⟩ := h; replace h := e_p1 h; obtain ⟨x, r, rfl, t, ht, h1, h2⟩ := h; intro H locs ls hr hS hl hL hcn hsn; exact lv_if_ne hx hb hd ht (fun q => h1 q H locs ls hr hS hl hL hcn hsn) (fun q => h2 q H locs ls hr hS hl hL hcn hsn)
  · replace h := e_n3 h; obtain ⟨rfl, h⟩ := h; replace h := e_p1 h; obtain ⟨x, r, rfl, t, ht, h1, h2⟩ := h; intro H locs ls hr hS hl hL hcn hsn; exact lv_if_lt hx hb hd ht (fun q => h1 q H locs ls hr hS hl hL hcn hsn) (fun q => h2 q H locs ls hr hS hl hL hcn hsn)
  · replace h := e_n3 h; obtain ⟨rfl, h⟩ := h; replace h := e_p1 h; obtain ⟨x, r, rfl, t, ht, h1, h2⟩ := h; intro H locs ls hr hS hl hL hcn hsn; exact lv_if_ge hx hb hd ht (fun q => h1 q H locs ls hr hS hl hL hcn hsn) (fun q => h2 q H locs ls hr hS hl hL hcn hsn)
  · replace h := e_n3 h; obtain ⟨rfl, h⟩ := h; replace h := e_p1 h; obtain ⟨x, r, rfl, t, ht, h1, h2⟩ := h; intro H locs ls hr hS hl hL hcn hsn; exact lv_if_gt hx hb hd ht (fun q => h1 q H locs ls hr hS hl hL hcn hsn) (fun q => h2 q H locs ls hr hS hl hL hcn hsn)
  · replace h := e_n3 h; obtain ⟨rfl, h⟩ := h; replace h := e_p1 h; obtain ⟨x, r, rfl, t, ht, h1, h2⟩ := h; intro H locs ls hr hS hl hL hcn hsn; exact lv_if_le hx hb hd ht (fun q => h1 q H locs ls hr hS hl hL hcn hsn) (fun q => h2 q H locs ls hr hS hl hL hcn hsn)
  · replace h := e_n3 h; obtain ⟨rfl, h⟩ := h; replace h := e_p2 h; obtain ⟨x, v, r, rfl, t, ht, h1, h2⟩ := h; intro H locs ls hr hS hl hL hcn hsn; exact lv_icmp_eq hx hb hd ht (fun q => h1 q H locs ls hr hS hl hL hcn hsn) (fun q => h2 q H locs ls hr hS hl hL hcn hsn)
  · replace h := e_n3 h; obtain ⟨rfl, h⟩ := h; replace h := e_p2 h; obtain ⟨x, v, r, rfl, t, ht, h1, h2⟩ := h; intro H locs ls hr hS hl hL hcn hsn; exact lv_icmp_ne hx hb hd ht (fun q => h1 q H locs ls hr hS hl hL hcn hsn) (fun q => h2 q H locs ls hr hS hl hL hcn hsn)
  · replace h := e_n3 h; obtain ⟨rfl, h⟩ := h; replace h := e_p2 h; obtain ⟨x, v, r, rfl, t, ht, h1, h2⟩ := h; intro H locs ls hr hS hl hL hcn hsn; exact lv_icmp_lt hx hb hd ht (fun q => h1 q H locs ls hr hS hl hL hcn hsn) (fun q => h2 q H locs ls hr hS hl hL hcn hsn)
  · replace h := e_n3 h; obtain ⟨rfl, h⟩ := h; replace h := e_p2 h; obtain ⟨x, v, r, rfl, t, ht, h1, h2⟩ := h; intro H locs ls hr hS hl hL hcn hsn; exact lv_icmp_ge hx hb hd ht (fun q => h1 q H locs ls hr hS hl hL hcn hsn) (fun q => h2 q H locs ls hr hS hl hL hcn hsn)
  · replace h := e_n3 h; obtain ⟨rfl, h⟩ := h; replace h := e_p2 h; obtain ⟨x, v, r, rfl, t, ht, h1, h2⟩ := h; intro H locs ls hr hS hl hL hcn hsn; exact lv_icmp_gt hx hb hd ht (fun q => h1 q H locs ls hr hS hl hL hcn hsn) (fun q => h2 q H locs ls hr hS hl hL hcn hsn)
  · replace h := e_n3 h; obtain ⟨rfl, h⟩ := h; replace h := e_p2 h; obtain ⟨x, v, r, rfl, t, ht, h1, h2⟩ := h; intro H locs ls hr hS hl hL hcn hsn; exact lv_icmp_le hx hb hd ht (fun q => h1 q H locs ls hr hS hl hL hcn hsn) (fun q => h2 q H locs ls hr hS hl hL hcn hsn)
  · replace h := e_n3 h; obtain ⟨rfl, h⟩ := h; replace h := e_pn h; obtain ⟨x, r, rfl, t, ht, h1, h2⟩ := h; intro H locs ls hr hS hl hL hcn hsn
    cases x with
    | some q => exact lv_ifnull hx hb hd (h2 (by simp) H locs ls hr hS hl hL hcn hsn)
    | none => exact lv_ifnullN hx hb hd ht (h1 rfl H locs ls hr hS hl hL hcn hsn)
  · replace h := e_n3 h; obtain ⟨rfl, h⟩ := h; replace h := e_pn h; obtain ⟨x, r, rfl, t, ht, h1, h2⟩ := h; intro H locs ls hr hS hl hL hcn hsn
    cases x with
    | some q => exact lv_ifnonnull hx hb hd ht (h1 (by simp) H locs ls hr hS hl hL hcn hsn)
    | none => exact lv_ifnonnullN hx hb hd (h2 rfl H locs ls hr hS hl hL hcn hsn)
  · replace h := e_p1 h; obtain ⟨x, r, rfl, h1, h2⟩ := h; intro H locs ls hr hS hl hL hcn hsn
    rename_i dflt lo hi offs
    by_cases hq : x.toInt < lo ∨ hi < x.toInt
    · obtain ⟨t, ht, h⟩ := h1 hq
      exact lv_tableOut hx hb hd hq ht (h H locs ls hr hS hl hL hcn hsn)
    · obtain ⟨off, ho, t, ht, h⟩ := e_ot (h2 (fun z => hq (Or.inl z)) (fun z => hq (Or.inr z)))
      exact lv_tableIn hx hb hd (fun z => hq (Or.inl z)) (fun z => hq (Or.inr z)) ho ht (h H locs ls hr hS hl hL hcn hsn)
  · replace h := e_n2 h; obtain ⟨rfl, h⟩ := h; replace h := e_on h; obtain ⟨v, hv, h⟩ := h; intro H locs ls hr hS hl hL hcn hsn
    rcases e_ldv h with ⟨x, rfl, h⟩ | ⟨i, rfl, h⟩
    · exact lv_ldc hx hb hown (hts _ (kT_int hv)) hd (h H locs ls hr hS hl hL hcn hsn)
    · obtain ⟨xx, g1, g2, g3⟩ := kT_str hv
      have hR := hK.2.2.2.2 i xx g1
      rw [g2, g3] at hR
      have hg := hr.2.2.2.2.2.2 i (List.getElem?_eq_some_iff.mp g1).1
      have h2 := h H locs ls hr hS hl hL hcn hsn
      rw [hg] at h2
      exact va_ldcS hx hb hown hR hd h2
  · replace h := e_n3 h; obtain ⟨rfl, h⟩ := h; replace h := e_on h; obtain ⟨v, hv, h⟩ := h; replace h := e_q1 h; obtain ⟨x, r, he, h⟩ := h; cases he; intro H locs ls hr hS hl hL hcn hsn; exact lv_ldc2 hx hb hown (hts _ (kT_long hv)) hd (h H locs ls hr hS hl hL hcn hsn)
  · replace h := e_n3 h; obtain ⟨rfl, h⟩ := h; replace h := e_pr h; obtain ⟨a, r, rfl, h⟩ := h; replace h := e_oc h; obtain ⟨ci, f, hf, hk, h⟩ := h; exact j_getfield X0 hd hf hk h
  · replace h := e_n3 h; obtain ⟨rfl, h⟩ := h; replace h := e_pvr h; obtain ⟨a, v, r, rfl, h⟩ := h; replace h := e_oc h; obtain ⟨ci, f, hf, hk, hfi, hv, h⟩ := h; exact j_putfield X0 hd hf hk hfi hv h
  · replace h := e_n3 h; obtain ⟨rfl, h⟩ := h; replace h := e_on h; obtain ⟨j, hf, h⟩ := h; exact j_getstatic X0 hd hf h
  · replace h := e_n1 h; obtain ⟨rfl, h⟩ := h; replace h := e_pr h; obtain ⟨a, r, rfl, hk, h⟩ := h; exact j_alen X0 hd hk h
  · replace h := e_n1 h; obtain ⟨rfl, h⟩ := h; replace h := e_pir h; obtain ⟨a, i, r, rfl, hk, hin, h⟩ := h; exact j_iaload X0 hd hk hin h
  · replace h := e_n1 h; obtain ⟨rfl, h⟩ := h; replace h := e_pir h; obtain ⟨a, i, r, rfl, hk, hin, h⟩ := h; exact j_baload X0 hd hk hin h
  · replace h := e_n1 h; obtain ⟨rfl, h⟩ := h; replace h := e_pir h; obtain ⟨a, i, r, rfl, hk, hin, h⟩ := h; exact j_laload X0 hd hk hin h
  · replace h := e_n1 h; obtain ⟨rfl, h⟩ := h; replace h := e_pir h; obtain ⟨a, i, r, rfl, hk, hin, h⟩ := h; exact j_aaload X0 hd hk hin h
  · replace h := e_n1 h; obtain ⟨rfl, h⟩ := h; replace h := e_piir h; obtain ⟨a, i, x, r, rfl, hk, hin, h⟩ := h; exact j_iastore X0 hd hk hin h
  · replace h := e_n1 h; obtain ⟨rfl, h⟩ := h; replace h := e_piir h; obtain ⟨a, i, x, r, rfl, hin, h⟩ := h
    rcases h with ⟨hk, h⟩ | ⟨hk, h⟩
    · exact j_bastore X0 hd hk hin h
    · exact j_zastore X0 hd hk hin h
  · replace h := e_n1 h; obtain ⟨rfl, h⟩ := h; replace h := e_plir h; obtain ⟨a, i, x, r, rfl, hk, hin, h⟩ := h; exact j_lastore X0 hd hk hin h
  · replace h := e_n1 h; obtain ⟨rfl, h⟩ := h; replace h := e_prir h; obtain ⟨a, i, x, r, rfl, hk, hin, hq, h⟩ := h; exact j_aastore X0 hd hk hin hq h
  · replace h := e_n3 h; obtain ⟨rfl, h⟩ := h; replace h := e_on h; obtain ⟨ci, hf, h1, h2, h⟩ := h; exact j_new X0 hd hf h1 h2 h
  · replace h := e_n2 h; obtain ⟨rfl, h⟩ := h; replace h := e_p1 h; obtain ⟨v, r, rfl, h⟩ := h; replace h := e_oc h; obtain ⟨kn, sz, hf, h0, hby, h1, h2, h⟩ := h; exact j_newarray X0 hd hf h0 hby h1 h2 h
  · replace h := e_n3 h; obtain ⟨rfl, h⟩ := h; replace h := e_p1 h; obtain ⟨v, r, rfl, h⟩ := h; replace h := e_on h; obtain ⟨ci, hf, hu, h0, hby, h1, h2, h⟩ := h; exact j_anewarray X0 hd hf hu h0 hby h1 h2 h
  · replace h := e_n3 h; obtain ⟨rfl, h⟩ := h; replace h := e_oc h; obtain ⟨kn, z, hf, rfl, h⟩ := h; replace h := e_spl h; obtain ⟨As, r, rfl, hA, h⟩ := h; replace h := e_pr h; obtain ⟨b, r, rfl, hk, hv, h⟩ := h; exact j_invokevirtual X0 hC hd hf hA hk hv h
  · replace h := e_n3 h; obtain ⟨rfl, h⟩ := h; replace h := e_oc h; obtain ⟨kn, z, hf, hkn, h⟩ := h; replace h := e_spl h; obtain ⟨As, r, rfl, hA, h⟩ := h
    rcases hkn with rfl | rfl
    · exact j_invokestatic X0 hC hd hf hA h
    · exact j_staticnest X0 hC hd hf hA h
  · replace h := e_n3 h; obtain ⟨rfl, h⟩ := h; replace h := e_oc h; obtain ⟨kn, z, hf, h⟩ := h
    rcases h with ⟨rfl, h⟩ | ⟨hk, h⟩
    · replace h := e_pr h; obtain ⟨b, r, rfl, hcat, h⟩ := h
      exact j_objinit X0 hd hf hcat h
    · replace h := e_spl h; obtain ⟨As, r, rfl, hA, h⟩ := h
      replace h := e_pr h; obtain ⟨b, r, rfl, h⟩ := h
      rcases hk with rfl | rfl
      · exact j_invokespecial X0 hC hd hf hA h
      · exact j_invokenest X0 hC hd hf hA h
  · replace h := e_n1 h; obtain ⟨rfl, h⟩ := h; split at h
    · intro H locs ls hr hS hl hL hcn hsn
      unfold rtI at h
      split at h
      · rename_i hm; exact (hE H locs ls w pc cn sn hr hS hcn hsn).1 _ _ hm rfl hd h
      · rename_i hm; exact (hE H locs ls w pc cn sn hr hS hcn hsn).1 _ _ hm h.1 hd h.2
      · rename_i hm; exact (hE H locs ls w pc cn sn hr hS hcn hsn).1 _ _ hm h.1 hd h.2
      · rename_i hm; exact (hE H locs ls w pc cn sn hr hS hcn hsn).1 _ _ hm h.1 hd h.2
      · exact h.elim
    · exact h.elim
  · replace h := e_n1 h; obtain ⟨rfl, h⟩ := h; split at h
    · intro H locs ls hr hS hl hL hcn hsn
      exact (hE H locs ls w pc cn sn hr hS hcn hsn).2.1 _ h.1 hd h.2
    · exact h.elim
  · replace h := e_n1 h; obtain ⟨rfl, h⟩ := h; split at h
    · intro H locs ls hr hS hl hL hcn hsn
      unfold rtR at h
      split at h
      · rename_i hm; exact (hE H locs ls w pc cn sn hr hS hcn hsn).2.2.1 (some _) _ hm (Or.inl ⟨_, rfl⟩) hd h
      · rename_i hm; exact (hE H locs ls w pc cn sn hr hS hcn hsn).2.2.1 (some _) _ hm (Or.inr ⟨_, rfl⟩) hd h
      · exact h.elim
    · intro H locs ls hr hS hl hL hcn hsn
      unfold rtR at h
      split at h
      · rename_i hm; exact (hE H locs ls w pc cn sn hr hS hcn hsn).2.2.1 none _ hm (Or.inl ⟨_, rfl⟩) hd h
      · rename_i hm; exact (hE H locs ls w pc cn sn hr hS hcn hsn).2.2.1 none _ hm (Or.inr ⟨_, rfl⟩) hd h
      · exact h.elim
    · exact h.elim
  · replace h := e_n1 h; obtain ⟨rfl, h⟩ := h; split at h
    · intro H locs ls hr hS hl hL hcn hsn
      exact (hE H locs ls w pc cn sn hr hS hcn hsn).2.2.2 h.1 hd h.2
    · exact h.elim
  · exact h.elim
end Mn
