/-! abstract worlds: kinds and lengths, fields by number, rows of ints, of longs, of references, how many cells there are -/
abbrev aw : Type := (Nat → Nat × Nat) × (Nat → Nat → Value) × (Nat → Nat → Int32) × (Nat → Nat → Int64) × (Nat → Nat → Option Nat) × Nat
def kd (w : aw) (a : Nat) : Nat := (w.1 a).1
def ln (w : aw) (a : Nat) : Nat := (w.1 a).2
def fd (w : aw) (g a : Nat) : Value := w.2.1 g a
def ai (w : aw) (a i : Nat) : Int32 := w.2.2.1 a i
def al (w : aw) (a i : Nat) : Int64 := w.2.2.2.1 a i
def ar (w : aw) (a i : Nat) : Option Nat := w.2.2.2.2.1 a i
def zs (w : aw) : Nat := w.2.2.2.2.2
def dfV (g : Nat) : Value := defaultValue (tyOf (g / 64) (g % 64))
def uF (w : aw) (g a : Nat) (v : Value) : aw := (w.1, fun g' a' => if g' = g ∧ a' = a then v else w.2.1 g' a', w.2.2)
def uA (w : aw) (a i : Nat) (x : Int32) : aw := (w.1, w.2.1, fun a' i' => if a' = a ∧ i' = i then x else w.2.2.1 a' i', w.2.2.2)
def uL (w : aw) (a i : Nat) (x : Int64) : aw := (w.1, w.2.1, w.2.2.1, fun a' i' => if a' = a ∧ i' = i then x else w.2.2.2.1 a' i', w.2.2.2.2)
def uR (w : aw) (a i : Nat) (x : Option Nat) : aw := (w.1, w.2.1, w.2.2.1, w.2.2.2.1, fun a' i' => if a' = a ∧ i' = i then x else w.2.2.2.2.1 a' i', w.2.2.2.2.2)
def nw (w : aw) (k n : Nat) : aw := (fun a => if a = zs w then (k, n) else w.1 a, fun g a => if a = zs w ∧ g < 10000 then dfV g else w.2.1 g a, fun a i => if a = zs w then 0 else w.2.2.1 a i, fun a i => if a = zs w then 0 else w.2.2.2.1 a i, fun a i => if a = zs w then none else w.2.2.2.2.1 a i, zs w + 1)
theorem kd_uF (w : aw) (g a : Nat) (v : Value) (q : Nat) : kd (uF w g a v) q = kd w q := rfl
theorem ln_uF (w : aw) (g a : Nat) (v : Value) (q : Nat) : ln (uF w g a v) q = ln w q := rfl
theorem ai_uF (w : aw) (g a : Nat) (v : Value) (q i : Nat) : ai (uF w g a v) q i = ai w q i := rfl
theorem al_uF (w : aw) (g a : Nat) (v : Value) (q i : Nat) : al (uF w g a v) q i = al w q i := rfl
theorem ar_uF (w : aw) (g a : Nat) (v : Value) (q i : Nat) : ar (uF w g a v) q i = ar w q i := rfl
theorem zs_uF (w : aw) (g a : Nat) (v : Value) : zs (uF w g a v) = zs w := rfl
theorem fd_uF (w : aw) (g a : Nat) (v : Value) (g' a' : Nat) : fd (uF w g a v) g' a' = if g' = g ∧ a' = a then v else fd w g' a' := rfl
theorem kd_uA (w : aw) (a i : Nat) (x : Int32) (q : Nat) : kd (uA w a i x) q = kd w q := rfl
theorem ln_uA (w : aw) (a i : Nat) (x : Int32) (q : Nat) : ln (uA w a i x) q = ln w q := rfl
theorem fd_uA (w : aw) (a i : Nat) (x : Int32) (g q : Nat) : fd (uA w a i x) g q = fd w g q := rfl
theorem al_uA (w : aw) (a i : Nat) (x : Int32) (q j : Nat) : al (uA w a i x) q j = al w q j := rfl
theorem ar_uA (w : aw) (a i : Nat) (x : Int32) (q j : Nat) : ar (uA w a i x) q j = ar w q j := rfl
theorem zs_uA (w : aw) (a i : Nat) (x : Int32) : zs (uA w a i x) = zs w := rfl
theorem ai_uA (w : aw) (a i : Nat) (x : Int32) (q j : Nat) : ai (uA w a i x) q j = if q = a ∧ j = i then x else ai w q j := rfl
theorem kd_uL (w : aw) (a i : Nat) (x : Int64) (q : Nat) : kd (uL w a i x) q = kd w q := rfl
theorem ln_uL (w : aw) (a i : Nat) (x : Int64) (q : Nat) : ln (uL w a i x) q = ln w q := rfl
theorem fd_uL (w : aw) (a i : Nat) (x : Int64) (g q : Nat) : fd (uL w a i x) g q = fd w g q := rfl
theorem ai_uL (w : aw) (a i : Nat) (x : Int64) (q j : Nat) : ai (uL w a i x) q j = ai w q j := rfl
theorem ar_uL (w : aw) (a i : Nat) (x : Int64) (q j : Nat) : ar (uL w a i x) q j = ar w q j := rfl
theorem zs_uL (w : aw) (a i : Nat) (x : Int64) : zs (uL w a i x) = zs w := rfl
theorem al_uL (w : aw) (a i : Nat) (x : Int64) (q j : Nat) : al (uL w a i x) q j = if q = a ∧ j = i then x else al w q j := rfl
theorem kd_uR (w : aw) (a i : Nat) (x : Option Nat) (q : Nat) : kd (uR w a i x) q = kd w q := rfl
theorem ln_uR (w : aw) (a i : Nat) (x : Option Nat) (q : Nat) : ln (uR w a i x) q = ln w q := rfl
theorem fd_uR (w : aw) (a i : Nat) (x : Option Nat) (g q : Nat) : fd (uR w a i x) g q = fd w g q := rfl
theorem ai_uR (w : aw) (a i : Nat) (x : Option Nat) (q j : Nat) : ai (uR w a i x) q j = ai w q j := rfl
theorem al_uR (w : aw) (a i : Nat) (x : Option Nat) (q j : Nat) : al (uR w a i x) q j = al w q j := rfl
theorem zs_uR (w : aw) (a i : Nat) (x : Option Nat) : zs (uR w a i x) = zs w := rfl
theorem ar_uR (w : aw) (a i : Nat) (x : Option Nat) (q j : Nat) : ar (uR w a i x) q j = if q = a ∧ j = i then x else ar w q j := rfl
theorem kd_nw (w : aw) (k n q : Nat) : kd (nw w k n) q = if q = zs w then k else kd w q := by
  show ((if q = zs w then (k, n) else w.1 q) : Nat × Nat).1 = _
  split <;> rfl
theorem ln_nw (w : aw) (k n q : Nat) : ln (nw w k n) q = if q = zs w then n else ln w q := by
  show ((if q = zs w then (k, n) else w.1 q) : Nat × Nat).2 = _
  split <;> rfl
theorem fd_nw (w : aw) (k n g q : Nat) : fd (nw w k n) g q = if q = zs w ∧ g < 10000 then dfV g else fd w g q := rfl
theorem ai_nw (w : aw) (k n q i : Nat) : ai (nw w k n) q i = if q = zs w then 0 else ai w q i := rfl
theorem al_nw (w : aw) (k n q i : Nat) : al (nw w k n) q i = if q = zs w then 0 else al w q i := rfl
theorem ar_nw (w : aw) (k n q i : Nat) : ar (nw w k n) q i = if q = zs w then none else ar w q i := rfl
theorem zs_nw (w : aw) (k n : Nat) : zs (nw w k n) = zs w + 1 := rfl
/-! what the heap holds of a world -/
def tyA (t : Nat) : Option FieldType := match t with
  | 20 => some .int
  | 21 => some .byte
  | 22 => some .long
  | 23 => some .boolean
  | 24 => some (.object "LineMonitor$User")
  | 30 => some .int
  | 31 => some .byte
  | _ => none
def tyN (t : Nat) : Option FieldType := match t with
  | 20 => some .int
  | 21 => some .byte
  | 22 => some .long
  | 23 => some .boolean
  | 24 => some (.object "LineMonitor$User")
  | _ => none
def rO (D : va_G) (w : aw) (H : Heap) : Prop := ∀ (q ci : Nat) (r : vw_C), kd w q = ci + 1 → vwCl[ci]? = some r → t_OB q (D.1 ci) r.2.2 (D.2 ci) H (fun j => fd w (64 * ci + j) q)
def isI (k : Nat) : Prop := k = 20 ∨ k = 21 ∨ k = 23
def rI (tA : Nat → ClassId) (w : aw) (H : Heap) : Prop := ∀ q : Nat, isI (kd w q) → H[q]? = some (arrV (tA (kd w q)) (ln w q) (fun j => .int (ai w q j)))
def rJ (tA : Nat → ClassId) (w : aw) (H : Heap) : Prop := ∀ q : Nat, kd w q = 22 → H[q]? = some (arrV (tA 22) (ln w q) (fun j => .long (al w q j)))
def rR (tA : Nat → ClassId) (w : aw) (H : Heap) : Prop := ∀ q : Nat, kd w q = 24 → H[q]? = some (arrV (tA 24) (ln w q) (fun j => va_rf (ar w q j)))
def rW (B : Nat) (w : aw) : Prop := ∀ q : Nat, kd w q ≠ 0 → kd w q < 30 → kd w q ≠ 10 + 1 → B ≤ q
def rZ (B : Nat) (w : aw) (U : State) (H : Heap) : Prop := ∀ (j : Nat) (x : String × String × String), stL[j]? = some x → va_Z x.1 x.2.1 x.2.2 (fd w (10000 + j) 0) (fun q => B ≤ q) U H
/-- what the start had: rows that nobody writes, texts -/
def rFz (B : Nat) (w : aw) (U : State) (H : Heap) : Prop := (∀ q : Nat, kd w q = 30 → va_T .int q (ln w q) (fun j => .int (ai w q j)) (fun q => B ≤ q) U H) ∧ (∀ q : Nat, kd w q = 31 → va_T .byte q (ln w q) (fun j => .int (ai w q j)) (fun q => B ≤ q) U H) ∧ ∀ q : Nat, kd w q = 10 + 1 → ∃ a : Nat, fd w (64 * 10) q = .ref a ∧ fd w (64 * 10 + 1) q = .int 0 ∧ va_O "java/lang/String" q (fun q => B ≤ q) U H ∧ va_OF "java/lang/String" "coder" "B" (.int 0) q (fun q => B ≤ q) U H ∧ va_OF "java/lang/String" "value" "[B" (.ref a) q (fun q => B ≤ q) U H
def rG (tA : Nat → ClassId) (w : aw) : Prop := ∀ i : Nat, i < gL.length → fd w (20000 + i) 0 = .ref (tA (100 + i))
def rC (D : va_G) (tA : Nat → ClassId) (w : aw) (H : Heap) : Prop := rO D w H ∧ rI tA w H ∧ rJ tA w H ∧ rR tA w H
def rp (D : va_G) (tA : Nat → ClassId) (B : Nat) (w : aw) (U : State) (H : Heap) : Prop := rC D tA w H ∧ rW B w ∧ H.size = zs w ∧ B ≤ zs w ∧ rZ B w U H ∧ rFz B w U H ∧ rG tA w
def cNest : List (Nat × Nat × Nat) := (cL.filter (fun x => x.2.2.1 == 4 || x.2.2.1 == 5)).map (fun x => (x.1, x.2.1, x.2.2.2.1))
def kk (D : va_G) (tA : Nat → ClassId) (U : State) : Prop := va_K D vwCl [] U ∧ (∀ (t : Nat) (ty : FieldType), tyN t = some ty → ArrOfT U (tA t) ty ∧ va_RA U (tA t) ty) ∧ (∀ x ∈ cNest, va_Nw (.methodLinkNest (oN x.1) x.2.1 (mN x.2.2) "LineMonitor") U) ∧ va_AO "LineMonitor$User" U ∧ ∀ (i : Nat) (x : Nat × Nat × String × Nat), gL[i]? = some x → vk_R (oN x.1) x.2.1 x.2.2.1 (tA (100 + i)) U
theorem kk.warm {D : va_G} {tA : Nat → ClassId} {s U : State} (hW : s.WarmedH U.vm) (h : kk D tA s) : kk D tA U :=
  ⟨va_K.moved hW.alike h.1, fun t ty ht => ⟨arrOfT_moved hW.alike (h.2.1 t ty ht).1, (h.2.1 t ty ht).2.moved hW.alike⟩, fun x hx => va_Nw.warmM hW (h.2.2.1 x hx), va_AO.moved hW.alike h.2.2.2.1, fun i x hx => vk_R.warm hW (h.2.2.2.2 i x hx)⟩
theorem kk.call {D : va_G} {tA : Nat → ClassId} {U : State} {g : JFrame} {mk : MethodId} {a : Array Value} (h : kk D tA U) : kk D tA (U.calling g mk a) :=
  ⟨va_K.moved (u := U) (U := U.calling g mk a) (Vm.Alike.refl U.vm) h.1, fun t ty ht => ⟨arrOfT_moved (u := U) (E := U.calling g mk a) (Vm.Alike.refl U.vm) (h.2.1 t ty ht).1, va_RA.moved (u := U) (U := U.calling g mk a) (Vm.Alike.refl U.vm) (h.2.1 t ty ht).2⟩, fun x hx => va_tabs (A := #[]) (u := U) (U := U.calling g mk a) rfl rfl (h.2.2.1 x hx), va_AO.moved (u := U) (U := U.calling g mk a) (Vm.Alike.refl U.vm) h.2.2.2.1, fun i x hx => vk_R.same (u := U) (U := U.calling g mk a) rfl (h.2.2.2.2 i x hx)⟩
