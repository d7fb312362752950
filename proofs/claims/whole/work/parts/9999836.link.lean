/-! ===== calls: the tables are right ===== -/
def spName (y : Nat) : Option MethodName := match y with
  | 900 => some yJ0_length_8abf5
  | 901 => some yJ0_charAt_5068e
  | 902 => some arraycopyName
  | 903 => some objectInit
  | 904 => some Lib.Math.max.name
  | 905 => some Lib.Math.min.name
  | _ => none
def thP (y : Nat) : Bool := match PP y with
  | some (_, _, _, th) => th
  | none => false
def isML (o idx : Nat) (y : MethodName) (w : Option Cond) : Bool := match w with
  | some (.methodLink a i z) => a == cn o && i == idx && decide (z = y)
  | _ => false
def isMN (o idx : Nat) (y : MethodName) (w : Option Cond) : Bool := match w with
  | some (.methodLinkNest a i z _) => a == cn o && i == idx && decide (z = y)
  | _ => false
/-- the word of a method's code bears the table that the contracts name -/
def cwB (w : Option Cond) : Bool := match w with
  | some (.code y _ n _) => y.cls != RL && y.cls != "java/lang/invoke/MethodHandle" && y.cls != "java/lang/invoke/VarHandle" && decide (n ≤ 45)
  | some (.codeWith y _ n _ hh) => decide (hhOf y = some hh) && y.cls != "java/lang/invoke/MethodHandle" && y.cls != "java/lang/invoke/VarHandle" && decide (n ≤ 45)
  | _ => false
def mOK (q : Nat × Nat × Nat × Nat × Nat × Nat) : Bool := match q with
  | (wc, wk, ws, wi, o, np) => cwB lw_tbl[wc]? && (match ciOf lw_tbl[wc]? with
    | some qi => decide (lw_tbl[wi]? = some (.initialized qi.1.cls)) && decide ((parseMethodDescriptor qi.1.desc).map (fun d => d.parameters.length) = some np) && qi.1.cls == cn o &&
        (decide (lw_tbl[wk]? = some (.static qi.1)) || (decide (lw_tbl[wk]? = some (.instanceMethod qi.1)) && ((qi.1.name == "<init>" && decide (qi.2.2.2 = none)) || decide (lw_tbl[ws]? = some (.selects qi.1.cls qi.1 qi.1)))))
    | none => false)
theorem mWL_ok0 : mWL_0.all mOK = true := by decide +kernel
theorem mWL_ok1 : mWL_1.all mOK = true := by decide +kernel
theorem mWL_ok2 : mWL_2.all mOK = true := by decide +kernel
theorem mWL_ok3 : mWL_3.all mOK = true := by decide +kernel
theorem mWL_ok4 : mWL_4.all mOK = true := by decide +kernel
theorem mWL_ok5 : mWL_5.all mOK = true := by decide +kernel
theorem mWL_ok : mWL.all mOK = true := by
  unfold mWL
  simp only [List.all_append, Bool.and_eq_true]
  exact ⟨⟨⟨⟨⟨mWL_ok0, mWL_ok1⟩, mWL_ok2⟩, mWL_ok3⟩, mWL_ok4⟩, mWL_ok5⟩
def cKind (kind y ci w o idx : Nat) (qi : CI) (st : Bool) : Bool := match kind with
  | 0 => (match vwCl[ci]? with
    | some (C, _, _) => qi.1.cls == C
    | none => false) && !st && qi.1.cls != RL && qi.1.name != "<init>" && (!thP y || isML o idx qi.1 lw_tbl[w]?)
  | 1 => st && (qi.1.cls != RL || isML o idx qi.1 lw_tbl[w]?) && (!thP y || isML o idx qi.1 lw_tbl[w]?)
  | 2 => !st && qi.1.name == "<init>" && qi.1.cls != RL && !thP y && decide (qi.2.2.2 = none)
  | _ => false
def isStat (w : Option Cond) : Bool := match w with
  | some (.static _) => true
  | _ => false
def cOK (q : Nat × Nat × Nat × Nat × Nat × Nat × Nat) : Bool := match q with
  | (o, idx, kind, y, n, ci, w) => if kind = 9 then (match spName y with
      | some nm => isML o idx nm lw_tbl[w]?
      | none => false) else (match mWL[y]? with
      | some (wc, wk, _, _, _, np) => decide (np = n) && (match ciOf lw_tbl[wc]? with
        | some qi => (isML o idx qi.1 lw_tbl[w]? || isMN o idx qi.1 lw_tbl[w]?) && cKind kind y ci w o idx qi (isStat lw_tbl[wk]?)
        | none => false)
      | _ => false)
theorem cTab_ok0 : cTab_0.all cOK = true := by decide +kernel
theorem cTab_ok1 : cTab_1.all cOK = true := by decide +kernel
theorem cTab_ok2 : cTab_2.all cOK = true := by decide +kernel
theorem cTab_ok3 : cTab_3.all cOK = true := by decide +kernel
theorem cTab_ok4 : cTab_4.all cOK = true := by decide +kernel
theorem cTab_ok5 : cTab_5.all cOK = true := by decide +kernel
theorem cTab_ok6 : cTab_6.all cOK = true := by decide +kernel
theorem cTab_ok : cTab.all cOK = true := by
  unfold cTab
  simp only [List.all_append, Bool.and_eq_true]
  exact ⟨⟨⟨⟨⟨⟨cTab_ok0, cTab_ok1⟩, cTab_ok2⟩, cTab_ok3⟩, cTab_ok4⟩, cTab_ok5⟩, cTab_ok6⟩
