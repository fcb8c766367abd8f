def gWd (i : Nat) : nt := match i with
  | 0 => (R35.drop 28).take 6
  | 1 => R35.take 10
  | 2 => (R35.drop 10).take 10
  | _ => (R35.drop 20).take 8
def gVs (i : Nat) : Nat := match i with
  | 0 => 10000
  | 1 => 10006
  | 2 => 10007
  | _ => 10008
def flat (W : nt) : List Nat := W.flatMap (fun y => y.1 ++ [32])
def TxA (w : aw) (z a : Nat) (bs : List Nat) : Prop := a < z ∧ kd w a = 10 + 1 ∧ ∃ v, v < z ∧ fd w (64 * 10) a = .ref v ∧ fd w (64 * 10 + 1) a = .int 0 ∧ kd w v = 31 ∧ ln w v = bs.length ∧ ∀ k, k < bs.length → ai w v k = nI (bs.getD k 0)
def VlA (w : aw) (z a : Nat) (W : nt) : Prop := a < z ∧ kd w a = 30 ∧ ln w a = W.length ∧ ∀ k y, W[k]? = some y → ai w a k = rn y.2
def SEc (w : aw) : Prop := fd w 10001 0 = .int 1 ∧ ∃ y, fd w 10002 0 = va_rf y
def SE (w : aw) (z : Nat) : Prop := 0 < z ∧ SEc w ∧ ∀ i, i < 4 → (∃ a, fd w (20000 + i) 0 = .ref a ∧ TxA w z a (flat (gWd i))) ∧ ∃ a, fd w (gVs i) 0 = .ref a ∧ VlA w z a (gWd i)
theorem TxA.od {w w' : aw} {z a : Nat} {bs : List Nat} (h : TxA w z a bs) (o : Od w w' z) : TxA w' z a bs := by
  obtain ⟨h1, h2, v, h3, h4, h5, h6, h7, h8⟩ := h
  have oa := o a h1
  have ov := o v h3
  exact ⟨h1, oa.1.trans h2, v, h3, (oa.2.2.1 _).trans h4, (oa.2.2.1 _).trans h5, ov.1.trans h6, ov.2.1.trans h7, fun k hk => (ov.2.2.2.1 _).trans (h8 k hk)⟩
theorem VlA.od {w w' : aw} {z a : Nat} {W : nt} (h : VlA w z a W) (o : Od w w' z) : VlA w' z a W := by
  obtain ⟨h1, h2, h3, h4⟩ := h
  have oa := o a h1
  exact ⟨h1, oa.1.trans h2, oa.2.1.trans h3, fun k y hk => (oa.2.2.2.1 _).trans (h4 k y hk)⟩
theorem SE.od {w w' : aw} {z : Nat} (h : SE w z) (o : Od w w' z) : SE w' z := by
  obtain ⟨h0, ⟨h1, y, h2⟩, h3⟩ := h
  have o0 := (o 0 h0).2.2.1
  refine ⟨h0, ⟨(o0 _).trans h1, y, (o0 _).trans h2⟩, fun i hi => ?_⟩
  obtain ⟨⟨a, a1, a2⟩, b, b1, b2⟩ := h3 i hi
  exact ⟨⟨a, (o0 _).trans a1, a2.od o⟩, b, (o0 _).trans b1, b2.od o⟩
theorem sp_S_coder {d : Nat} {w : aw} {z a : Nat} {bs : List Nat} {Q : wQ} (hE : SEc w) (hT : TxA w z a bs) (h : Q (some (.int 0)) w) : wpD (d + 1) 176 [.ref a] w Q := by
  refine ⟨Nat.le_of_ble_eq_true rfl, ?_⟩
  show wp d 176 Q 0 [some (.ref a)] [] w 0 0
  obtain ⟨h1, h2, v, h3, h4, h5, h6, h7, h8⟩ := hT
  have h5' : fd w (64 * 10 + 1) a = .int 0 := h5
  have e : 64 * 10 + 1 = 641 := rfl
  rw [e] at h5'
  simp only [↓s_176_0, ↓s_176_3, ↓s_176_6, ↓s_176_7, ↓s_176_10, ↓s_176_13, ↓s_176_14, kd_uF, ln_uF, ai_uF, al_uF, ar_uF, zs_uF, fd_uF, kd_uA, ln_uA, fd_uA, al_uA, ar_uA, zs_uA, ai_uA, kd_uL, ln_uL, fd_uL, ai_uL, ar_uL, zs_uL, al_uL, kd_uR, ln_uR, fd_uR, ai_uR, al_uR, zs_uR, ar_uR, true_and, and_true, Option.toList_some, Option.toList_none, List.cons_append, List.nil_append, catS_nil, catS_int, catS_ref, catS_null, catS_long, cat_int, cat_ref, cat_null, Nat.reduceEqDiff, Nat.reduceLeDiff, Nat.reduceAdd, false_and, and_false, if_false, if_true, ite_true, ite_false, true_or, or_true, false_or, or_false, and_self, forall_const, true_implies, reduceCtorEq, clr_int, clr_ref, clr_null, clr_none, clr_long, va_rf_some, va_rf_none, hE.1, h2, h5']
  exact ⟨fun q => absurd q (by decide), fun _ => ⟨rfl, h⟩⟩
theorem sp_S_lat {d : Nat} {w : aw} {z a : Nat} {bs : List Nat} {Q : wQ} (hE : SEc w) (hT : TxA w z a bs) (h : Q (some (.int 1)) w) : wpD (d + 1) 177 [.ref a] w Q := by
  refine ⟨Nat.le_of_ble_eq_true rfl, ?_⟩
  show wp d 177 Q 0 [some (.ref a)] [] w 0 0
  obtain ⟨h1, h2, v, h3, h4, h5, h6, h7, h8⟩ := hT
  have h5' : fd w (64 * 10 + 1) a = .int 0 := h5
  have e : 64 * 10 + 1 = 641 := rfl
  rw [e] at h5'
  simp only [↓s_177_0, ↓s_177_3, ↓s_177_6, ↓s_177_7, ↓s_177_10, ↓s_177_13, ↓s_177_14, ↓s_177_17, ↓s_177_18, kd_uF, ln_uF, ai_uF, al_uF, ar_uF, zs_uF, fd_uF, kd_uA, ln_uA, fd_uA, al_uA, ar_uA, zs_uA, ai_uA, kd_uL, ln_uL, fd_uL, ai_uL, ar_uL, zs_uL, al_uL, kd_uR, ln_uR, fd_uR, ai_uR, al_uR, zs_uR, ar_uR, true_and, and_true, Option.toList_some, Option.toList_none, List.cons_append, List.nil_append, catS_nil, catS_int, catS_ref, catS_null, catS_long, cat_int, cat_ref, cat_null, Nat.reduceEqDiff, Nat.reduceLeDiff, Nat.reduceAdd, false_and, and_false, if_false, if_true, ite_true, ite_false, true_or, or_true, false_or, or_false, and_self, forall_const, true_implies, reduceCtorEq, clr_int, clr_ref, clr_null, clr_none, clr_long, va_rf_some, va_rf_none, hE.1, h2, h5']
  exact ⟨fun q => absurd q (by decide), fun _ => ⟨fun q => absurd trivial q, ⟨rfl, h⟩⟩⟩
theorem sp_S_len {d : Nat} {w : aw} {z a : Nat} {bs : List Nat} {Q : wQ} (hE : SEc w) (hT : TxA w z a bs) (hb : bs.length < 2147483648) (h : Q (some (.int (nI bs.length))) w) : wpD (d + 2) 174 [.ref a] w Q := by
  refine ⟨Nat.le_of_ble_eq_true rfl, ?_⟩
  show wp (d + 1) 174 Q 0 [some (.ref a)] [] w 0 0
  have hT0 := hT
  obtain ⟨h1, h2, v, h3, h4, h5, h6, h7, h8⟩ := hT
  have h4' : fd w (64 * 10) a = .ref v := h4
  have e : 64 * 10 = 640 := rfl
  rw [e] at h4'
  simp only [↓s_174_0, ↓s_174_1, ↓s_174_4, ↓s_174_5, ↓s_174_6, kd_uF, ln_uF, ai_uF, al_uF, ar_uF, zs_uF, fd_uF, kd_uA, ln_uA, fd_uA, al_uA, ar_uA, zs_uA, ai_uA, kd_uL, ln_uL, fd_uL, ai_uL, ar_uL, zs_uL, al_uL, kd_uR, ln_uR, fd_uR, ai_uR, al_uR, zs_uR, ar_uR, true_and, and_true, Option.toList_some, Option.toList_none, List.cons_append, List.nil_append, catS_nil, catS_int, catS_ref, catS_null, catS_long, cat_int, cat_ref, cat_null, Nat.reduceEqDiff, Nat.reduceLeDiff, Nat.reduceAdd, false_and, and_false, if_false, if_true, ite_true, ite_false, true_or, or_true, false_or, or_false, and_self, forall_const, true_implies, reduceCtorEq, clr_int, clr_ref, clr_null, clr_none, clr_long, va_rf_some, va_rf_none, h2, h4', h6, h7]
  refine ⟨rfl, sp_S_coder hE hT0 ?_⟩
  simp only [↓s_174_9, ↓s_174_10, kd_uF, ln_uF, ai_uF, al_uF, ar_uF, zs_uF, fd_uF, kd_uA, ln_uA, fd_uA, al_uA, ar_uA, zs_uA, ai_uA, kd_uL, ln_uL, fd_uL, ai_uL, ar_uL, zs_uL, al_uL, kd_uR, ln_uR, fd_uR, ai_uR, al_uR, zs_uR, ar_uR, true_and, and_true, Option.toList_some, Option.toList_none, List.cons_append, List.nil_append, catS_nil, catS_int, catS_ref, catS_null, catS_long, cat_int, cat_ref, cat_null, Nat.reduceEqDiff, Nat.reduceLeDiff, Nat.reduceAdd, false_and, and_false, if_false, if_true, ite_true, ite_false, true_or, or_true, false_or, or_false, and_self, forall_const, true_implies, reduceCtorEq, clr_int, clr_ref, clr_null, clr_none, clr_long, va_rf_some, va_rf_none]
  rw [pk_shrN hb _ 0 (by decide), Nat.pow_zero, Nat.div_one]
  exact h
theorem chr_ok : ∀ c, c < 128 → ((nI c &&& 255).toUInt32 % 65536).toInt32 = nI c ∧ narrow .char (.int (nI c)) = .int (nI c) := by decide +kernel
theorem sp_S_at {d : Nat} {w : aw} {z a k : Nat} {bs : List Nat} {Q : wQ} (hE : SEc w) (hT : TxA w z a bs) (hb : bs.length < 2147483648) (hk : k < bs.length) (hc : bs.getD k 0 < 128) (h : Q (some (.int (nI (bs.getD k 0)))) w) : wpD (d + 4) 175 [.ref a, .int (nI k)] w Q := by
  refine ⟨Nat.le_of_ble_eq_true rfl, ?_⟩
  show wp (d + 3) 175 Q 0 [some (.ref a), some (.int (nI k))] [] w 0 0
  have hT0 := hT
  obtain ⟨h1, h2, v, h3, h4, h5, h6, h7, h8⟩ := hT
  have h4' : fd w (64 * 10) a = .ref v := h4
  have e : 64 * 10 = 640 := rfl
  rw [e] at h4'
  obtain ⟨c1, c2⟩ := chr_ok _ hc
  obtain ⟨y, hy⟩ := hE.2
  simp only [↓s_175_0, ↓s_175_1, kd_uF, ln_uF, ai_uF, al_uF, ar_uF, zs_uF, fd_uF, kd_uA, ln_uA, fd_uA, al_uA, ar_uA, zs_uA, ai_uA, kd_uL, ln_uL, fd_uL, ai_uL, ar_uL, zs_uL, al_uL, kd_uR, ln_uR, fd_uR, ai_uR, al_uR, zs_uR, ar_uR, true_and, and_true, Option.toList_some, Option.toList_none, List.cons_append, List.nil_append, catS_nil, catS_int, catS_ref, catS_null, catS_long, cat_int, cat_ref, cat_null, Nat.reduceEqDiff, Nat.reduceLeDiff, Nat.reduceAdd, false_and, and_false, if_false, if_true, ite_true, ite_false, true_or, or_true, false_or, or_false, and_self, forall_const, true_implies, reduceCtorEq, clr_int, clr_ref, clr_null, clr_none, clr_long, va_rf_some, va_rf_none, h2]
  refine sp_S_lat hE hT0 ?_
  simp only [↓s_175_4, ↓s_175_7, ↓s_175_8, ↓s_175_11, ↓s_175_12, ↓s_175_16, ↓s_175_17, ↓s_175_20, ↓s_175_21, kd_uF, ln_uF, ai_uF, al_uF, ar_uF, zs_uF, fd_uF, kd_uA, ln_uA, fd_uA, al_uA, ar_uA, zs_uA, ai_uA, kd_uL, ln_uL, fd_uL, ai_uL, ar_uL, zs_uL, al_uL, kd_uR, ln_uR, fd_uR, ai_uR, al_uR, zs_uR, ar_uR, true_and, and_true, Option.toList_some, Option.toList_none, List.cons_append, List.nil_append, catS_nil, catS_int, catS_ref, catS_null, catS_long, cat_int, cat_ref, cat_null, Nat.reduceEqDiff, Nat.reduceLeDiff, Nat.reduceAdd, false_and, and_false, if_false, if_true, ite_true, ite_false, true_or, or_true, false_or, or_false, and_self, forall_const, true_implies, reduceCtorEq, clr_int, clr_ref, clr_null, clr_none, clr_long, va_rf_some, va_rf_none, h2, h4']
  refine ⟨fun q => absurd q (by decide), fun _ => ?_⟩
  refine ⟨Nat.le_of_ble_eq_true rfl, ?_⟩
  show wp (d + 2) 179 _ 0 [some (.ref v), some (.int (nI k))] [] w 0 0
  simp only [↓s_179_0, ↓s_179_1, ↓s_179_1n, ↓s_179_2, ↓s_179_3, kd_uF, ln_uF, ai_uF, al_uF, ar_uF, zs_uF, fd_uF, kd_uA, ln_uA, fd_uA, al_uA, ar_uA, zs_uA, ai_uA, kd_uL, ln_uL, fd_uL, ai_uL, ar_uL, zs_uL, al_uL, kd_uR, ln_uR, fd_uR, ai_uR, al_uR, zs_uR, ar_uR, true_and, and_true, Option.toList_some, Option.toList_none, List.cons_append, List.nil_append, catS_nil, catS_int, catS_ref, catS_null, catS_long, cat_int, cat_ref, cat_null, Nat.reduceEqDiff, Nat.reduceLeDiff, Nat.reduceAdd, false_and, and_false, if_false, if_true, ite_true, ite_false, true_or, or_true, false_or, or_false, and_self, forall_const, true_implies, reduceCtorEq, clr_int, clr_ref, clr_null, clr_none, clr_long, va_rf_some, va_rf_none, h6, h7]
  refine ⟨rfl, Nat.le_of_ble_eq_true rfl, ?_⟩
  show wp (d + 1) 178 _ 0 [some (.int (nI k)), some (.int (nI bs.length))] [] w 0 0
  have cv : ∀ Q2 : wQ, Q2 (some (.int (nI k))) w → wpD (d + 1) 185 [.int (nI k), .int (nI bs.length), va_rf y] w Q2 := by
    intro Q2 hq
    cases y with
    | none =>
      refine ⟨Nat.le_of_ble_eq_true rfl, ?_⟩
      show wp d 185 _ 0 [some (.int (nI k)), some (.int (nI bs.length)), some .null] [] w 0 0
      simp only [↓s_185_0, ↓s_185_1, ↓s_185_4, ↓s_185_5, ↓s_185_6, ↓s_185_16, ↓s_185_17, kd_uF, ln_uF, ai_uF, al_uF, ar_uF, zs_uF, fd_uF, kd_uA, ln_uA, fd_uA, al_uA, ar_uA, zs_uA, ai_uA, kd_uL, ln_uL, fd_uL, ai_uL, ar_uL, zs_uL, al_uL, kd_uR, ln_uR, fd_uR, ai_uR, al_uR, zs_uR, ar_uR, true_and, and_true, Option.toList_some, Option.toList_none, List.cons_append, List.nil_append, catS_nil, catS_int, catS_ref, catS_null, catS_long, cat_int, cat_ref, cat_null, Nat.reduceEqDiff, Nat.reduceLeDiff, Nat.reduceAdd, false_and, and_false, if_false, if_true, ite_true, ite_false, true_or, or_true, false_or, or_false, and_self, forall_const, true_implies, reduceCtorEq, clr_int, clr_ref, clr_null, clr_none, clr_long, va_rf_some, va_rf_none]
      exact ⟨fun q => absurd q (nI_pos (by omega)), fun _ => ⟨fun _ => hq, fun q => absurd (nI_lt hk hb) q⟩⟩
    | some r =>
      refine ⟨Nat.le_of_ble_eq_true rfl, ?_⟩
      show wp d 185 _ 0 [some (.int (nI k)), some (.int (nI bs.length)), some (.ref r)] [] w 0 0
      simp only [↓s_185_0, ↓s_185_1, ↓s_185_4, ↓s_185_5, ↓s_185_6, ↓s_185_16, ↓s_185_17, kd_uF, ln_uF, ai_uF, al_uF, ar_uF, zs_uF, fd_uF, kd_uA, ln_uA, fd_uA, al_uA, ar_uA, zs_uA, ai_uA, kd_uL, ln_uL, fd_uL, ai_uL, ar_uL, zs_uL, al_uL, kd_uR, ln_uR, fd_uR, ai_uR, al_uR, zs_uR, ar_uR, true_and, and_true, Option.toList_some, Option.toList_none, List.cons_append, List.nil_append, catS_nil, catS_int, catS_ref, catS_null, catS_long, cat_int, cat_ref, cat_null, Nat.reduceEqDiff, Nat.reduceLeDiff, Nat.reduceAdd, false_and, and_false, if_false, if_true, ite_true, ite_false, true_or, or_true, false_or, or_false, and_self, forall_const, true_implies, reduceCtorEq, clr_int, clr_ref, clr_null, clr_none, clr_long, va_rf_some, va_rf_none]
      exact ⟨fun q => absurd q (nI_pos (by omega)), fun _ => ⟨fun _ => hq, fun q => absurd (nI_lt hk hb) q⟩⟩
  simp only [↓s_178_0, ↓s_178_1, ↓s_178_2, ↓s_178_5, kd_uF, ln_uF, ai_uF, al_uF, ar_uF, zs_uF, fd_uF, kd_uA, ln_uA, fd_uA, al_uA, ar_uA, zs_uA, ai_uA, kd_uL, ln_uL, fd_uL, ai_uL, ar_uL, zs_uL, al_uL, kd_uR, ln_uR, fd_uR, ai_uR, al_uR, zs_uR, ar_uR, true_and, and_true, Option.toList_some, Option.toList_none, List.cons_append, List.nil_append, catS_nil, catS_int, catS_ref, catS_null, catS_long, cat_int, cat_ref, cat_null, Nat.reduceEqDiff, Nat.reduceLeDiff, Nat.reduceAdd, false_and, and_false, if_false, if_true, ite_true, ite_false, true_or, or_true, false_or, or_false, and_self, forall_const, true_implies, reduceCtorEq, clr_int, clr_ref, clr_null, clr_none, clr_long, va_rf_some, va_rf_none, hy]
  refine cv _ ?_
  simp only [↓s_178_8, ↓s_178_9, kd_uF, ln_uF, ai_uF, al_uF, ar_uF, zs_uF, fd_uF, kd_uA, ln_uA, fd_uA, al_uA, ar_uA, zs_uA, ai_uA, kd_uL, ln_uL, fd_uL, ai_uL, ar_uL, zs_uL, al_uL, kd_uR, ln_uR, fd_uR, ai_uR, al_uR, zs_uR, ar_uR, true_and, and_true, Option.toList_some, Option.toList_none, List.cons_append, List.nil_append, catS_nil, catS_int, catS_ref, catS_null, catS_long, cat_int, cat_ref, cat_null, Nat.reduceEqDiff, Nat.reduceLeDiff, Nat.reduceAdd, false_and, and_false, if_false, if_true, ite_true, ite_false, true_or, or_true, false_or, or_false, and_self, forall_const, true_implies, reduceCtorEq, clr_int, clr_ref, clr_null, clr_none, clr_long, va_rf_some, va_rf_none]
  simp only [↓s_179_6, ↓s_179_6n, ↓s_179_7, ↓s_179_8, ↓s_179_9, ↓s_179_12, ↓s_179_13, ↓s_179_14, kd_uF, ln_uF, ai_uF, al_uF, ar_uF, zs_uF, fd_uF, kd_uA, ln_uA, fd_uA, al_uA, ar_uA, zs_uA, ai_uA, kd_uL, ln_uL, fd_uL, ai_uL, ar_uL, zs_uL, al_uL, kd_uR, ln_uR, fd_uR, ai_uR, al_uR, zs_uR, ar_uR, true_and, and_true, Option.toList_some, Option.toList_none, List.cons_append, List.nil_append, catS_nil, catS_int, catS_ref, catS_null, catS_long, cat_int, cat_ref, cat_null, Nat.reduceEqDiff, Nat.reduceLeDiff, Nat.reduceAdd, false_and, and_false, if_false, if_true, ite_true, ite_false, true_or, or_true, false_or, or_false, and_self, forall_const, true_implies, reduceCtorEq, clr_int, clr_ref, clr_null, clr_none, clr_long, va_rf_some, va_rf_none, h6, h7, clN (show k < 2147483648 by omega), h8 k hk]
  refine ⟨inR_nI hk (by omega), ?_⟩
  rw [c1]
  refine ⟨c2, ?_⟩
  simp only [↓s_175_15, kd_uF, ln_uF, ai_uF, al_uF, ar_uF, zs_uF, fd_uF, kd_uA, ln_uA, fd_uA, al_uA, ar_uA, zs_uA, ai_uA, kd_uL, ln_uL, fd_uL, ai_uL, ar_uL, zs_uL, al_uL, kd_uR, ln_uR, fd_uR, ai_uR, al_uR, zs_uR, ar_uR, true_and, and_true, Option.toList_some, Option.toList_none, List.cons_append, List.nil_append, catS_nil, catS_int, catS_ref, catS_null, catS_long, cat_int, cat_ref, cat_null, Nat.reduceEqDiff, Nat.reduceLeDiff, Nat.reduceAdd, false_and, and_false, if_false, if_true, ite_true, ite_false, true_or, or_true, false_or, or_false, and_self, forall_const, true_implies, reduceCtorEq, clr_int, clr_ref, clr_null, clr_none, clr_long, va_rf_some, va_rf_none]
  exact ⟨c2, h⟩
