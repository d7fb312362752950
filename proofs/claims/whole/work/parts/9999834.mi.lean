/-- a method's name, bytes, number of locals, answer: by its word -/
def ciOf (w : Option Cond) : Option CI := match w with
  | some (.code y b n r) => some (y, b, n, r)
  | some (.codeWith y b n r _) => some (y, b, n, r)
  | _ => none
def mI : Nat → Option CI := fun y => match mWL[y]? with
  | some (wc, _) => ciOf lw_tbl[wc]?
  | none => none
