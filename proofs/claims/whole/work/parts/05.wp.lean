/-! a calculus over worlds: what must hold at an instruction so that the method ends with Q -/
def nth : List (Option Value) → Nat → Option Value
  | [], _ => none
  | a :: _, 0 => a
  | _ :: r, k + 1 => nth r k
def clr (a : Option Value) : Option Value := match a with
  | some (.long _) => none
  | some (.double _) => none
  | x => x
def st1 : List (Option Value) → Nat → Value → List (Option Value)
  | [], _, _ => []
  | _ :: r, 0, v => some v :: r
  | a :: r, 1, v => clr a :: st1 r 0 v
  | a :: r, k + 2, v => a :: st1 r (k + 1) v
def st2 : List (Option Value) → Nat → Value → List (Option Value)
  | [], _, _ => []
  | [_], _, _ => []
  | _ :: _ :: r, 0, v => some v :: none :: r
  | a :: b :: r, 1, v => clr a :: st2 (b :: r) 0 v
  | a :: b :: r, k + 2, v => a :: st2 (b :: r) (k + 1) v
abbrev wI : Type := Nat → List (Option Value) → List Value → aw → Nat → Nat → Prop
abbrev wQ : Type := Option Value → aw → Prop
abbrev wC : Type := Nat → List Value → aw → wQ → Prop
def n1 (n : Nat) (P : Prop) : Prop := match n with | 1 => P | _ => False
def n2 (n : Nat) (P : Prop) : Prop := match n with | 2 => P | _ => False
def n3 (n : Nat) (P : Prop) : Prop := match n with | 3 => P | _ => False
def p1 (st : List Value) (K : Int32 → List Value → Prop) : Prop := match st with | .int a :: r => K a r | _ => False
def p2 (st : List Value) (K : Int32 → Int32 → List Value → Prop) : Prop := match st with | .int b :: .int a :: r => K a b r | _ => False
def q1 (st : List Value) (K : Int64 → List Value → Prop) : Prop := match st with | .long a :: r => K a r | _ => False
def q2 (st : List Value) (K : Int64 → Int64 → List Value → Prop) : Prop := match st with | .long b :: .long a :: r => K a b r | _ => False
def pr (st : List Value) (K : Nat → List Value → Prop) : Prop := match st with | .ref a :: r => K a r | _ => False
def pir (st : List Value) (K : Nat → Int32 → List Value → Prop) : Prop := match st with | .int i :: .ref a :: r => K a i r | _ => False
def piir (st : List Value) (K : Nat → Int32 → Int32 → List Value → Prop) : Prop := match st with | .int x :: .int i :: .ref a :: r => K a i x r | _ => False
def plir (st : List Value) (K : Nat → Int32 → Int64 → List Value → Prop) : Prop := match st with | .long x :: .int i :: .ref a :: r => K a i x r | _ => False
def prir (st : List Value) (K : Nat → Int32 → Option Nat → List Value → Prop) : Prop := match st with
  | .ref x :: .int i :: .ref a :: r => K a i (some x) r
  | .null :: .int i :: .ref a :: r => K a i none r
  | _ => False
def pvr (st : List Value) (K : Nat → Value → List Value → Prop) : Prop := match st with | v :: .ref a :: r => K a v r | _ => False
def pn (st : List Value) (K : Option Nat → List Value → Prop) : Prop := match st with
  | .ref a :: r => K (some a) r
  | .null :: r => K none r
  | _ => False
def li (a : Option Value) (K : Int32 → Prop) : Prop := match a with | some (.int v) => K v | _ => False
def ll (a : Option Value) (K : Int64 → Prop) : Prop := match a with | some (.long v) => K v | _ => False
def lr (a : Option Value) (K : Value → Prop) : Prop := match a with
  | some (.ref q) => K (.ref q)
  | some .null => K .null
  | _ => False
def br (pc : Nat) (off : Int) (K : Nat → Prop) : Prop := ∃ t : Nat, (pc : Int) + off = (t : Int) ∧ K t
def oc (o : Option (Nat × Nat)) (K : Nat → Nat → Prop) : Prop := match o with | some (a, b) => K a b | none => False
def on {α : Type} (o : Option α) (K : α → Prop) : Prop := match o with | some a => K a | none => False
def ot (o : Option Int) (K : Int → Prop) : Prop := match o with | some a => K a | none => False
def ldv (v : Value) (w : aw) (K : Value → Prop) : Prop := match v with
  | .int x => K (.int x)
  | .ref i => K (fd w (20000 + i) 0)
  | _ => False
def clk (o : Nat) : Bool := (vwCl[o]?).isSome || o == 10
def catS (r : List Value) : Nat := (r.map fun v => v.category).sum
def fT (o i : Nat) : Option (Nat × Nat) := (fL.find? (fun x => x.1 == o && x.2.1 == i)).map (fun x => (x.2.2.1, x.2.2.2.1))
def cT (o i : Nat) : Option (Nat × Nat) := (cL.find? (fun x => x.1 == o && x.2.1 == i)).map (fun x => (x.2.2.1, x.2.2.2.1))
def nT (o i : Nat) : Option Nat := (nL.find? (fun x => x.1 == o && x.2.1 == i)).map (fun x => x.2.2.1)
def sT (o i : Nat) : Option Nat := (sL.find? (fun x => x.1 == o && x.2.1 == i)).map (fun x => x.2.2.1)
def kT (o i : Nat) : Option Value := (kL.find? (fun x => x.1 == o && x.2.1 == i)).map (fun x => x.2.2.1)
def clF (ci : Nat) : Nat := match vwCl[ci]? with | some r => r.2.2 | none => 0
def okv (ty : FieldType) (v : Value) : Prop := narrow ty v = v ∧ fits ty v = true
def fin (ci k : Nat) : Bool := match vwCl[ci]? with | some r => (r.2.1 k).2.2.2 | none => true
def spl (n : Nat) (st : List Value) (K : List Value → List Value → Prop) : Prop := if n ≤ st.length then K (st.take n).reverse (st.drop n) else False
def alc (y z cn sn : Nat) (K : Nat → Nat → Prop) : Prop := if mC z = 0 ∧ mS z = 0 then K cn sn else cn + mC z ≤ mC y ∧ sn + mS z ≤ mS y ∧ K (cn + mC z) (sn + mS z)
def rtI (r : Option FieldType) (v : Int32) (P : Prop) : Prop := match r with
  | some .int => P
  | some .boolean => narrow .boolean (.int v) = .int v ∧ P
  | some .char => narrow .char (.int v) = .int v ∧ P
  | some .byte => narrow .byte (.int v) = .int v ∧ P
  | _ => False
def rtR (r : Option FieldType) (P : Prop) : Prop := match r with
  | some (.object _) => P
  | some (.array _) => P
  | _ => False
def aTy (t : ArrayType) : Option (Nat × Nat) := match t with
  | .int => some (20, 4)
  | .byte => some (21, 1)
  | .long => some (22, 8)
  | .boolean => some (23, 1)
  | _ => none
def inR (i : Int32) (n : Nat) : Prop := vp_in i n
def wcall (C : wC) (y z pc : Nat) (As rest : List Value) (L : List (Option Value)) (w : aw) (cn sn : Nat) (I : wI) : Prop :=
  catS rest ≤ 8 ∧ alc y z cn sn (fun c2 s2 => C z As w (fun v w' => I (pc + 3) L (v.toList ++ rest) w' c2 s2))
def wp1 (C : wC) (y : Nat) (Q : wQ) (I : wI) (i : Instr) (n pc : Nat) (L : List (Option Value)) (st : List Value) (w : aw) (cn sn : Nat) : Prop :=
  match i with
  | .iconst v => n1 n (I (pc + 1) L (.int (Int32.ofInt v) :: st) w cn sn)
  | .bipush v => n2 n (I (pc + 2) L (.int (Int8.ofInt v).toInt32 :: st) w cn sn)
  | .sipush v => n3 n (I (pc + 3) L (.int (Int16.ofInt v).toInt32 :: st) w cn sn)
  | .lconst v => n1 n (I (pc + 1) L (.long (Int64.ofNat (v : Nat)) :: st) w cn sn)
  | .aconst_null => n1 n (I (pc + 1) L (.null :: st) w cn sn)
  | .iload_n k => n1 n (li (nth L k) fun v => I (pc + 1) L (.int v :: st) w cn sn)
  | .iload k => n2 n (li (nth L k) fun v => I (pc + 2) L (.int v :: st) w cn sn)
  | .lload_n k => n1 n (ll (nth L k) fun v => I (pc + 1) L (.long v :: st) w cn sn)
  | .lload k => n2 n (ll (nth L k) fun v => I (pc + 2) L (.long v :: st) w cn sn)
  | .aload_n k => n1 n (lr (nth L k) fun v => I (pc + 1) L (v :: st) w cn sn)
  | .aload k => n2 n (lr (nth L k) fun v => I (pc + 2) L (v :: st) w cn sn)
  | .istore_n k => n1 n (p1 st fun v r => (k : Nat) < L.length ∧ I (pc + 1) (st1 L k (.int v)) r w cn sn)
  | .istore k => n2 n (p1 st fun v r => k < L.length ∧ I (pc + 2) (st1 L k (.int v)) r w cn sn)
  | .lstore_n k => n1 n (q1 st fun v r => (k : Nat) + 1 < L.length ∧ I (pc + 1) (st2 L k (.long v)) r w cn sn)
  | .lstore k => n2 n (q1 st fun v r => k + 1 < L.length ∧ I (pc + 2) (st2 L k (.long v)) r w cn sn)
  | .astore_n k => n1 n (pn st fun v r => (k : Nat) < L.length ∧ I (pc + 1) (st1 L k (va_rf v)) r w cn sn)
  | .astore k => n2 n (pn st fun v r => k < L.length ∧ I (pc + 2) (st1 L k (va_rf v)) r w cn sn)
  | .iinc k c => n3 n (li (nth L k) fun v => I (pc + 3) (st1 L k (.int (v + Int32.ofInt c))) st w cn sn)
  | .iadd => n1 n (p2 st fun a b r => I (pc + 1) L (.int (a + b) :: r) w cn sn)
  | .isub => n1 n (p2 st fun a b r => I (pc + 1) L (.int (a - b) :: r) w cn sn)
  | .imul => n1 n (p2 st fun a b r => I (pc + 1) L (.int (a * b) :: r) w cn sn)
  | .iand => n1 n (p2 st fun a b r => I (pc + 1) L (.int (a &&& b) :: r) w cn sn)
  | .ior => n1 n (p2 st fun a b r => I (pc + 1) L (.int (a ||| b) :: r) w cn sn)
  | .ixor => n1 n (p2 st fun a b r => I (pc + 1) L (.int (a ^^^ b) :: r) w cn sn)
  | .ishl => n1 n (p2 st fun a b r => I (pc + 1) L (.int (a <<< (b &&& 31)) :: r) w cn sn)
  | .ishr => n1 n (p2 st fun a b r => I (pc + 1) L (.int (a >>> (b &&& 31)) :: r) w cn sn)
  | .idiv => n1 n (p2 st fun a b r => ¬ b = 0 ∧ I (pc + 1) L (.int (a / b) :: r) w cn sn)
  | .irem => n1 n (p2 st fun a b r => ¬ b = 0 ∧ I (pc + 1) L (.int (a - a / b * b) :: r) w cn sn)
  | .ladd => n1 n (q2 st fun a b r => I (pc + 1) L (.long (a + b) :: r) w cn sn)
  | .lmul => n1 n (q2 st fun a b r => I (pc + 1) L (.long (a * b) :: r) w cn sn)
  | .lor => n1 n (q2 st fun a b r => I (pc + 1) L (.long (a ||| b) :: r) w cn sn)
  | .lshl => n1 n (p1 st fun b r => q1 r fun a r => I (pc + 1) L (.long (a <<< (b.toInt64 &&& 63)) :: r) w cn sn)
  | .lcmp => n1 n (q2 st fun a b r => I (pc + 1) L (.int (lg_cmp a b) :: r) w cn sn)
  | .i2l => n1 n (p1 st fun a r => I (pc + 1) L (.long a.toInt64 :: r) w cn sn)
  | .i2b => n1 n (p1 st fun a r => I (pc + 1) L (.int a.toInt8.toInt32 :: r) w cn sn)
  | .i2c => n1 n (p1 st fun a r => I (pc + 1) L (.int (a.toUInt32 % 65536).toInt32 :: r) w cn sn)
  | .dup => n1 n (match st with | v :: r => v.category = 1 ∧ I (pc + 1) L (v :: v :: r) w cn sn | _ => False)
  | .pop => n1 n (match st with | v :: r => v.category = 1 ∧ I (pc + 1) L r w cn sn | _ => False)
  | .dup2 => n1 n (match st with | a :: b :: r => a.category = 1 ∧ b.category = 1 ∧ I (pc + 1) L (a :: b :: a :: b :: r) w cn sn | _ => False)
  | .goto off => n3 n (br pc off fun t => I t L st w cn sn)
  | .ifCond .eq off => n3 n (p1 st fun x r => br pc off fun t => (x = 0 → I t L r w cn sn) ∧ (¬ x = 0 → I (pc + 3) L r w cn sn))
  | .ifCond .ne off => n3 n (p1 st fun x r => br pc off fun t => (¬ x = 0 → I t L r w cn sn) ∧ (x = 0 → I (pc + 3) L r w cn sn))
  | .ifCond .lt off => n3 n (p1 st fun x r => br pc off fun t => (x < 0 → I t L r w cn sn) ∧ (¬ x < 0 → I (pc + 3) L r w cn sn))
  | .ifCond .ge off => n3 n (p1 st fun x r => br pc off fun t => (0 ≤ x → I t L r w cn sn) ∧ (¬ 0 ≤ x → I (pc + 3) L r w cn sn))
  | .ifCond .gt off => n3 n (p1 st fun x r => br pc off fun t => (0 < x → I t L r w cn sn) ∧ (¬ 0 < x → I (pc + 3) L r w cn sn))
  | .ifCond .le off => n3 n (p1 st fun x r => br pc off fun t => (x ≤ 0 → I t L r w cn sn) ∧ (¬ x ≤ 0 → I (pc + 3) L r w cn sn))
  | .if_icmp .eq off => n3 n (p2 st fun x y r => br pc off fun t => (x = y → I t L r w cn sn) ∧ (¬ x = y → I (pc + 3) L r w cn sn))
  | .if_icmp .ne off => n3 n (p2 st fun x y r => br pc off fun t => (¬ x = y → I t L r w cn sn) ∧ (x = y → I (pc + 3) L r w cn sn))
  | .if_icmp .lt off => n3 n (p2 st fun x y r => br pc off fun t => (x < y → I t L r w cn sn) ∧ (¬ x < y → I (pc + 3) L r w cn sn))
  | .if_icmp .ge off => n3 n (p2 st fun x y r => br pc off fun t => (y ≤ x → I t L r w cn sn) ∧ (¬ y ≤ x → I (pc + 3) L r w cn sn))
  | .if_icmp .gt off => n3 n (p2 st fun x y r => br pc off fun t => (y < x → I t L r w cn sn) ∧ (¬ y < x → I (pc + 3) L r w cn sn))
  | .if_icmp .le off => n3 n (p2 st fun x y r => br pc off fun t => (x ≤ y → I t L r w cn sn) ∧ (¬ x ≤ y → I (pc + 3) L r w cn sn))
  | .ifnull off => n3 n (pn st fun x r => br pc off fun t => (x = none → I t L r w cn sn) ∧ (¬ x = none → I (pc + 3) L r w cn sn))
  | .ifnonnull off => n3 n (pn st fun x r => br pc off fun t => (¬ x = none → I t L r w cn sn) ∧ (x = none → I (pc + 3) L r w cn sn))
  | .tableswitch dflt lo hi offs => p1 st fun x r => (x.toInt < lo ∨ hi < x.toInt → br pc dflt fun t => I t L r w cn sn) ∧ (¬ x.toInt < lo → ¬ hi < x.toInt → ot (offs[(x.toInt - lo).toNat]?) fun off => br pc off fun t => I t L r w cn sn)
  | .ldc k => n2 n (on (kT (mO y) k) fun v => ldv v w fun x => I (pc + 2) L (x :: st) w cn sn)
  | .ldc2_w k => n3 n (on (kT (mO y) k) fun v => q1 [v] fun x _ => I (pc + 3) L (.long x :: st) w cn sn)
  | .getfield k => n3 n (pr st fun a r => oc (fT (mO y) k) fun ci f => kd w a = ci + 1 ∧ I (pc + 3) L (fd w (64 * ci + f) a :: r) w cn sn)
  | .putfield k => n3 n (pvr st fun a v r => oc (fT (mO y) k) fun ci f => kd w a = ci + 1 ∧ (fin ci f = true → (mN y).name = "<init>" ∧ ci = mO y ∧ ci < vwCl.length) ∧ okv (tyOf ci f) v ∧ I (pc + 3) L r (uF w (64 * ci + f) a v) cn sn)
  | .getstatic k => n3 n (on (sT (mO y) k) fun j => I (pc + 3) L (fd w (10000 + j) 0 :: st) w cn sn)
  | .arraylength => n1 n (pr st fun a r => (tyA (kd w a)).isSome = true ∧ I (pc + 1) L (.int (nI (ln w a)) :: r) w cn sn)
  | .iaload => n1 n (pir st fun a i r => (kd w a = 20 ∨ kd w a = 30) ∧ inR i (ln w a) ∧ I (pc + 1) L (.int (ai w a i.toNatClampNeg) :: r) w cn sn)
  | .baload => n1 n (pir st fun a i r => (kd w a = 21 ∨ kd w a = 23 ∨ kd w a = 31) ∧ inR i (ln w a) ∧ I (pc + 1) L (.int (ai w a i.toNatClampNeg) :: r) w cn sn)
  | .laload => n1 n (pir st fun a i r => kd w a = 22 ∧ inR i (ln w a) ∧ I (pc + 1) L (.long (al w a i.toNatClampNeg) :: r) w cn sn)
  | .aaload => n1 n (pir st fun a i r => kd w a = 24 ∧ inR i (ln w a) ∧ I (pc + 1) L (va_rf (ar w a i.toNatClampNeg) :: r) w cn sn)
  | .iastore => n1 n (piir st fun a i x r => kd w a = 20 ∧ inR i (ln w a) ∧ I (pc + 1) L r (uA w a i.toNatClampNeg x) cn sn)
  | .bastore => n1 n (piir st fun a i x r => inR i (ln w a) ∧ ((kd w a = 21 ∧ I (pc + 1) L r (uA w a i.toNatClampNeg (vp_nar .byte x)) cn sn) ∨ (kd w a = 23 ∧ I (pc + 1) L r (uA w a i.toNatClampNeg (vp_nar .boolean x)) cn sn)))
  | .lastore => n1 n (plir st fun a i x r => kd w a = 22 ∧ inR i (ln w a) ∧ I (pc + 1) L r (uL w a i.toNatClampNeg x) cn sn)
  | .aastore => n1 n (prir st fun a i x r => kd w a = 24 ∧ inR i (ln w a) ∧ (∀ q, x = some q → kd w q = 7) ∧ I (pc + 1) L r (uR w a i.toNatClampNeg x) cn sn)
  | .new k => n3 n (on (nT (mO y) k) fun ci => cn + 1 ≤ mC y ∧ sn + clF ci ≤ mS y ∧ I (pc + 3) L (.ref (zs w) :: st) (nw w (ci + 1) 0) (cn + 1) (sn + clF ci))
  | .newarray t => n2 n (p1 st fun m r => oc (aTy t) fun kn sz => ¬ m < 0 ∧ m.toNatClampNeg * sz ≤ 536870912 ∧ cn + 1 ≤ mC y ∧ sn + m.toNatClampNeg ≤ mS y ∧ I (pc + 2) L (.ref (zs w) :: r) (nw w kn m.toNatClampNeg) (cn + 1) (sn + m.toNatClampNeg))
  | .anewarray k => n3 n (p1 st fun m r => on (nT (mO y) k) fun ci => ci + 1 = 7 ∧ ¬ m < 0 ∧ m.toNatClampNeg * 4 ≤ 536870912 ∧ cn + 1 ≤ mC y ∧ sn + m.toNatClampNeg ≤ mS y ∧ I (pc + 3) L (.ref (zs w) :: r) (nw w 24 m.toNatClampNeg) (cn + 1) (sn + m.toNatClampNeg))
  | .invokevirtual k => n3 n (oc (cT (mO y) k) fun kn z => kn = 0 ∧ spl (mA z) st fun As r => pr r fun b r => kd w b = mO z + 1 ∧ clk (mO z) = true ∧ wcall C y z pc (.ref b :: As) r L w cn sn I)
  | .invokestatic k => n3 n (oc (cT (mO y) k) fun kn z => (kn = 2 ∨ kn = 5) ∧ spl (mA z) st fun As r => wcall C y z pc As r L w cn sn I)
  | .invokespecial k => n3 n (oc (cT (mO y) k) fun kn z => (kn = 3 ∧ pr st fun _ r => catS r ≤ 8 ∧ I (pc + 3) L r w cn sn) ∨ ((kn = 1 ∨ kn = 4) ∧ spl (mA z) st fun As r => pr r fun b r => wcall C y z pc (.ref b :: As) r L w cn sn I))
  | .ireturn => n1 n (match st with | [.int v] => rtI (mR y) v (Q (some (.int v)) w) | _ => False)
  | .lreturn => n1 n (match st with | [.long v] => mR y = some .long ∧ Q (some (.long v)) w | _ => False)
  | .areturn => n1 n (match st with | [.ref v] => rtR (mR y) (Q (some (.ref v)) w) | [.null] => rtR (mR y) (Q (some .null) w) | _ => False)
  | .return_ => n1 n (match st with | [] => mR y = none ∧ Q none w | _ => False)
  | _ => False
def wpF (C : wC) (y : Nat) (Q : wQ) (I : wI) : wI := fun pc L st w cn sn => match decode (mB y) pc with
  | .ok (i, n) => wp1 C y Q I i n pc L st w cn sn
  | _ => False
/-- the least such predicate -/
def wpx (C : wC) (y : Nat) (Q : wQ) : wI := fun pc L st w cn sn => ∀ I : wI, (∀ pc L st w cn sn, wpF C y Q I pc L st w cn sn → I pc L st w cn sn) → I pc L st w cn sn
