def pfl : List Cond := flatC (Jvm.Cond.and given_1 narrow_1)
def aN (i : Nat) : String := match i with
  | 0 => "MEMORY_VALUES"
  | 1 => "OPERATION_VALUES"
  | 2 => "TEST_VALUES"
  | _ => "DEVICE_VALUES"
def aTm (i : Nat) : Jvm.Term := .static "LineMonitor$Names" (aN i) "[I"
def aBs (i : Nat) : Nat := match i with
  | 0 => 5
  | 1 => 19
  | 2 => 32
  | _ => 45
def gLx (i : Nat) : Nat × Nat × String × Nat := gL.getD i (0, 0, "", 0)
def sTm (i : Nat) : Jvm.Term := .string (oN (gLx i).1) (gLx i).2.1
def sVm (i : Nat) : Jvm.Term := .field (sTm i) "java/lang/String" "value" "[B"
def sBs (i : Nat) : Nat := match i with
  | 0 => 55
  | 1 => 83
  | 2 => 128
  | _ => 174
set_option maxRecDepth 100000 in
theorem pr_arr : ∀ i, i < 4 → pfl[aBs i]? = some (.arrayOf (aTm i) .int) ∧ pfl[aBs i + 1]? = some (.eq (.length (aTm i)) (.int (Int32.ofNat (gWd i).length))) ∧ ∀ j, j < (gWd i).length → pfl[aBs i + 2 + j]? = some (.eq (.elem (aTm i) (.int (Int32.ofNat j))) (.int (rn ((gWd i).getD j ([], 0)).2))) := by decide +kernel
set_option maxRecDepth 100000 in
theorem pr_str : ∀ i, i < 4 → pfl[sBs i]? = some (.exactly (sTm i) "java/lang/String") ∧ pfl[sBs i + 1]? = some (.eq (.field (sTm i) "java/lang/String" "coder" "B") (.int 0)) ∧ pfl[sBs i + 2]? = some (.arrayOf (sVm i) .byte) ∧ pfl[sBs i + 3]? = some (.eq (.length (sVm i)) (.int (Int32.ofNat (flat (gWd i)).length))) ∧ ∀ j, j < (flat (gWd i)).length → pfl[sBs i + 4 + j]? = some (.eq (.elem (sVm i) (.int (Int32.ofNat j))) (.int (nI ((flat (gWd i)).getD j 0)))) := by decide +kernel
def sJ (j : Nat) : String × String × String := stL.getD j ("", "", "")
def sjT (j : Nat) : Jvm.Term := .static (sJ j).1 (sJ j).2.1 (sJ j).2.2
set_option maxRecDepth 100000 in
theorem pr_int : pfl[13]? = some (.eq (sjT 1) (.int 1)) ∧ pfl[14]? = some (.isRef (sjT 2)) ∧ pfl[15]? = some (.eq (sjT 3) (.int 1)) ∧ pfl[16]? = some (.eq (sjT 4) (.int 0)) ∧ pfl[17]? = some (.eq (sjT 5) (.int 8)) := by decide +kernel
def aJ (i : Nat) : Nat := gVs i - 10000
set_option maxRecDepth 100000 in
theorem aJ_ok : ∀ i, i < 4 → aTm i = sjT (aJ i) ∧ gVs i = 10000 + aJ i := by decide +kernel
set_option maxRecDepth 100000 in
theorem st_ok : ∀ x ∈ stL, Cond.laysStatic x.1 x.2.1 x.2.2 ∈ lw_tbl ∧ Cond.initialized x.1 ∈ lw_tbl := by decide +kernel
set_option maxRecDepth 100000 in
theorem gL_ok : ∀ x ∈ gL, Cond.stringRef (oN x.1) x.2.1 x.2.2.1 ∈ lw_tbl := by decide +kernel
set_option maxRecDepth 100000 in
theorem cN_ok : ∀ x ∈ cNest, Cond.methodLinkNest (oN x.1) x.2.1 (mN x.2.2) "LineMonitor" ∈ lw_tbl := by decide +kernel
set_option maxRecDepth 100000 in
theorem ac_ok0 : Cond.arrayClass .int ∈ lw_tbl ∧ Cond.arrayClass .byte ∈ lw_tbl ∧ Cond.arrayClass .long ∈ lw_tbl ∧ Cond.arrayClass .boolean ∈ lw_tbl ∧ Cond.arrayOver (.object "LineMonitor$User") ∈ lw_tbl := by decide +kernel
set_option maxRecDepth 100000 in
theorem inst_ok0 : (List.range vwCl.length).all (fun ci => nL.any (fun x => decide (nT x.1 x.2.1 = some ci))) = true := by decide +kernel
