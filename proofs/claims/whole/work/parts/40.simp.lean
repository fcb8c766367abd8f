theorem catS_nil : catS [] = 0 := rfl
theorem catS_int (x : Int32) (r : List Value) : catS (.int x :: r) = catS r + 1 := by unfold catS; simp [Value.category]; omega
theorem catS_ref (x : Nat) (r : List Value) : catS (.ref x :: r) = catS r + 1 := by unfold catS; simp [Value.category]; omega
theorem catS_null (r : List Value) : catS (.null :: r) = catS r + 1 := by unfold catS; simp [Value.category]; omega
theorem catS_long (x : Int64) (r : List Value) : catS (.long x :: r) = catS r + 2 := by unfold catS; simp [Value.category]; omega
theorem cat_int (x : Int32) : (Value.int x).category = 1 := rfl
theorem cat_ref (x : Nat) : (Value.ref x).category = 1 := rfl
theorem cat_null : (Value.null).category = 1 := rfl
theorem clr_int (x : Int32) : clr (some (.int x)) = some (.int x) := rfl
theorem clr_ref (x : Nat) : clr (some (.ref x)) = some (.ref x) := rfl
theorem clr_null : clr (some .null) = some .null := rfl
theorem clr_none : clr none = none := rfl
theorem clr_long (x : Int64) : clr (some (.long x)) = none := rfl
theorem va_rf_some (q : Nat) : va_rf (some q) = .ref q := rfl
theorem va_rf_none : va_rf none = .null := rfl
theorem inR_nI {n N : Nat} (h : n < N) (hN : N < 2147483648) : inR (nI n) N := vp_in_nI h (by omega)
theorem m12 {n : Nat} (h : n < 4294967296) : nI n &&& 4095 = nI (n % 4096) := pk_andN (m := 4095) h 12 (by decide)
theorem clN {n : Nat} (h : n < 2147483648) : (nI n).toNatClampNeg = n := nI_clamp (by omega)
theorem nI_lit (n : Nat) : (OfNat.ofNat n : Int32) = nI n := rfl
theorem nI_add' (a b : Nat) : nI a + nI b = nI (a + b) := nI_add a b
theorem and2 (a b : Nat) : nI a &&& nI b = nI (a &&& b) := by
  apply Int32.toBitVec_inj.mp
  show (BitVec.ofNat 32 a) &&& (BitVec.ofNat 32 b) = BitVec.ofNat 32 (a &&& b)
  rw [BitVec.ofNat_and]
theorem or2 (a b : Nat) : nI a ||| nI b = nI (a ||| b) := by
  apply Int32.toBitVec_inj.mp
  show (BitVec.ofNat 32 a) ||| (BitVec.ofNat 32 b) = BitVec.ofNat 32 (a ||| b)
  rw [BitVec.ofNat_or]
theorem xor2 (a b : Nat) : nI a ^^^ nI b = nI (a ^^^ b) := by
  apply Int32.toBitVec_inj.mp
  show (BitVec.ofNat 32 a) ^^^ (BitVec.ofNat 32 b) = BitVec.ofNat 32 (a ^^^ b)
  rw [BitVec.ofNat_xor]
/-- a bit of a word -/
theorem and_pow (n k : Nat) : n &&& 2 ^ k = if n.testBit k then 2 ^ k else 0 := by
  apply Nat.eq_of_testBit_eq
  intro i
  rw [Nat.testBit_and, Nat.testBit_two_pow]
  by_cases h : k = i
  · subst h
    cases hb : n.testBit k <;> simp [Nat.testBit_two_pow]
  · cases hb : n.testBit k <;> simp [Nat.testBit_two_pow, h]
theorem bit_eq0 {n : Nat} (k : Nat) (hk : k < 31) : (nI n &&& nI (2 ^ k) = 0) ↔ n.testBit k = false := by
  rw [and2, show (0 : Int32) = nI 0 from rfl, and_pow]
  have h1 : 2 ^ k < 2 ^ 31 := Nat.pow_lt_pow_right (by decide) hk
  have h2 : 0 < 2 ^ k := Nat.two_pow_pos k
  cases n.testBit k with
  | false => simp
  | true =>
    rw [if_pos rfl, nI_eq h1 (by decide)]
    simp
theorem bit_gt0 {n : Nat} (k : Nat) (hk : k < 31) : (0 < nI n &&& nI (2 ^ k)) ↔ n.testBit k = true := by
  rw [and2, show (0 : Int32) = nI 0 from rfl, and_pow]
  have h1 : 2 ^ k < 2 ^ 31 := Nat.pow_lt_pow_right (by decide) hk
  have h2 : 0 < 2 ^ k := Nat.two_pow_pos k
  cases n.testBit k with
  | false => simp [nI_ltI]
  | true =>
    rw [if_pos rfl, nI_ltI (by decide) h1]
    simp [h2]
/-! frames of worlds -/
def Fr (w w' : aw) (lo hi : Nat) : Prop := (∀ q, kd w' q = kd w q) ∧ (∀ q, ln w' q = ln w q) ∧ zs w' = zs w ∧ ∀ q, (q < lo ∨ hi ≤ q) → (∀ g, fd w' g q = fd w g q) ∧ (∀ i, ai w' q i = ai w q i) ∧ (∀ i, al w' q i = al w q i) ∧ (∀ i, ar w' q i = ar w q i)
theorem Fr.rf {w : aw} {lo hi : Nat} : Fr w w lo hi := ⟨fun _ => rfl, fun _ => rfl, rfl, fun _ _ => ⟨fun _ => rfl, fun _ => rfl, fun _ => rfl, fun _ => rfl⟩⟩
theorem Fr.tr {w w1 w2 : aw} {lo hi : Nat} (h1 : Fr w w1 lo hi) (h2 : Fr w1 w2 lo hi) : Fr w w2 lo hi :=
  ⟨fun q => (h2.1 q).trans (h1.1 q), fun q => (h2.2.1 q).trans (h1.2.1 q), h2.2.2.1.trans h1.2.2.1, fun q hq => ⟨fun g => ((h2.2.2.2 q hq).1 g).trans ((h1.2.2.2 q hq).1 g), fun i => ((h2.2.2.2 q hq).2.1 i).trans ((h1.2.2.2 q hq).2.1 i), fun i => ((h2.2.2.2 q hq).2.2.1 i).trans ((h1.2.2.2 q hq).2.2.1 i), fun i => ((h2.2.2.2 q hq).2.2.2 i).trans ((h1.2.2.2 q hq).2.2.2 i)⟩⟩
theorem Fr.wide {w w' : aw} {lo hi lo' hi' : Nat} (h : Fr w w' lo hi) (h1 : lo' ≤ lo) (h2 : hi ≤ hi') : Fr w w' lo' hi' :=
  ⟨h.1, h.2.1, h.2.2.1, fun q hq => h.2.2.2 q (by omega)⟩
theorem Fr.F {w w' : aw} {lo hi g a : Nat} {v : Value} (h : Fr w w' lo hi) (h1 : lo ≤ a) (h2 : a < hi) : Fr w (uF w' g a v) lo hi :=
  ⟨h.1, h.2.1, h.2.2.1, fun q hq => ⟨fun g' => by rw [fd_uF, if_neg (by omega)]; exact (h.2.2.2 q hq).1 g', (h.2.2.2 q hq).2⟩⟩
theorem Fr.A {w w' : aw} {lo hi a i : Nat} {x : Int32} (h : Fr w w' lo hi) (h1 : lo ≤ a) (h2 : a < hi) : Fr w (uA w' a i x) lo hi :=
  ⟨h.1, h.2.1, h.2.2.1, fun q hq => ⟨(h.2.2.2 q hq).1, fun i' => by rw [ai_uA, if_neg (by omega)]; exact (h.2.2.2 q hq).2.1 i', (h.2.2.2 q hq).2.2⟩⟩
theorem Fr.L {w w' : aw} {lo hi a i : Nat} {x : Int64} (h : Fr w w' lo hi) (h1 : lo ≤ a) (h2 : a < hi) : Fr w (uL w' a i x) lo hi :=
  ⟨h.1, h.2.1, h.2.2.1, fun q hq => ⟨(h.2.2.2 q hq).1, (h.2.2.2 q hq).2.1, fun i' => by rw [al_uL, if_neg (by omega)]; exact (h.2.2.2 q hq).2.2.1 i', (h.2.2.2 q hq).2.2.2⟩⟩
theorem Fr.R {w w' : aw} {lo hi a i : Nat} {x : Option Nat} (h : Fr w w' lo hi) (h1 : lo ≤ a) (h2 : a < hi) : Fr w (uR w' a i x) lo hi :=
  ⟨h.1, h.2.1, h.2.2.1, fun q hq => ⟨(h.2.2.2 q hq).1, (h.2.2.2 q hq).2.1, (h.2.2.2 q hq).2.2.1, fun i' => by rw [ar_uR, if_neg (by omega)]; exact (h.2.2.2 q hq).2.2.2 i'⟩⟩
