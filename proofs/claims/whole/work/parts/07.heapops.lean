/-! ===== instructions that touch the heap ===== -/
def oAt (h : AH) (a : Nat) : Option (Nat × List Value) := if a < h.2.1 then (match h.1 a with
  | .inr o => some o
  | .inl _ => none) else none
def rAt (h : AH) (a : Nat) : Option (Nat × vp_A) := if a < h.2.1 then (match h.1 a with
  | .inl x => some x
  | .inr _ => none) else none
def scAt (h : AH) (a : Nat) : Option (Nat × (Nat → Int32)) := if a = 2000000 then (match h.1 a with
  | .inl (77, n, .inl f) => some (n, f)
  | _ => none) else none
def iAt (t : Nat) (h : AH) (a : Nat) : Option (Nat × (Nat → Int32)) := match rAt h a with
  | some (t', n, .inl f) => if t' = t then some (n, f) else none
  | _ => none
def lAt (h : AH) (a : Nat) : Option (Nat × (Nat → Int64)) := match rAt h a with
  | some (t', n, .inr (.inl f)) => if t' = 1 then some (n, f) else none
  | _ => none
def qAt (h : AH) (a : Nat) : Option (Nat × Nat × (Nat → Option Nat)) := match rAt h a with
  | some (t', n, .inr (.inr (.inr (.inr f)))) => if t' = 3 ∨ t' = 4 then some (t', n, f) else none
  | _ => none
theorem oAt_inv {h : AH} {a : Nat} {o : Nat × List Value} (q : oAt h a = some o) : a < h.2.1 ∧ h.1 a = .inr o := by
  unfold oAt at q
  split at q
  · rename_i ha
    refine ⟨ha, ?_⟩
    split at q
    · rename_i o' e; cases q; exact e
    · cases q
  · cases q
theorem rAt_inv {h : AH} {a : Nat} {x : Nat × vp_A} (q : rAt h a = some x) : a < h.2.1 ∧ h.1 a = .inl x := by
  unfold rAt at q
  split at q
  · rename_i ha
    refine ⟨ha, ?_⟩
    split at q
    · rename_i o' e; cases q; exact e
    · cases q
  · cases q
theorem scAt_inv {h : AH} {a n : Nat} {f : Nat → Int32} (q : scAt h a = some (n, f)) : a = 2000000 ∧ h.1 a = .inl (77, n, .inl f) := by
  unfold scAt at q
  split at q
  · rename_i ha
    refine ⟨ha, ?_⟩
    split at q
    · rename_i n' f' e; cases q; exact e
    · cases q
  · cases q
theorem iAt_inv {t : Nat} {h : AH} {a n : Nat} {f : Nat → Int32} (q : iAt t h a = some (n, f)) : a < h.2.1 ∧ h.1 a = .inl (t, n, .inl f) := by
  unfold iAt at q
  split at q
  · rename_i t' n' f' e
    split at q
    · rename_i e2; cases q; subst e2; exact rAt_inv e
    · cases q
  · cases q
theorem lAt_inv {h : AH} {a n : Nat} {f : Nat → Int64} (q : lAt h a = some (n, f)) : a < h.2.1 ∧ h.1 a = .inl (1, n, .inr (.inl f)) := by
  unfold lAt at q
  split at q
  · rename_i t' n' f' e
    split at q
    · rename_i e2; cases q; subst e2; exact rAt_inv e
    · cases q
  · cases q
theorem qAt_inv {h : AH} {a t n : Nat} {f : Nat → Option Nat} (q : qAt h a = some (t, n, f)) : (t = 3 ∨ t = 4) ∧ a < h.2.1 ∧ h.1 a = .inl (t, n, .inr (.inr (.inr (.inr f)))) := by
  unfold qAt at q
  split at q
  · rename_i t' n' f' e
    split at q
    · rename_i e2; cases q; exact ⟨e2, rAt_inv e⟩
    · cases q
  · cases q
theorem isOpq_obj {c : Nat} {fs : List Value} (h : c < 99) : isOpq (.inr (c, fs)) = false := by
  unfold isOpq
  split
  · rename_i e; cases e; omega
  · rfl
def okF (ty : FieldType) (v : Value) : Bool := match ty, v with
  | .int, .int _ => true
  | .object _, .ref _ => true
  | .object _, .null => true
  | .array _, .ref _ => true
  | .array _, .null => true
  | _, _ => false
theorem okF_fits {G : GG} {ty : FieldType} {v : Value} (h : okF ty v = true) : fits ty (tv G v) = true ∧ narrow ty (tv G v) = tv G v := by
  cases ty <;> cases v <;> first | (cases h; done) | exact ⟨rfl, rfl⟩
def clN (ci : Nat) : Nat := match ci with
  | 0 => 11
  | 1 => 5
  | 2 => 3
  | 3 => 12
  | 4 => 4
  | 5 => 7
  | 6 => 4
  | 7 => 7
  | 8 => 17
  | _ => 47
def dfl (ci : Nat) : List Value := (List.range (clN ci)).map (fun k => defaultValue (clTy ci k))
def gfO (ds : List Nat) (stk : AL) (h : AH) : Option (AL × AH) := match ds, stk with
  | [ci, k], .ref a :: r => (match oAt h a with
    | some (c, fs) => if c = ci then (match fs[k]? with
      | some v => some (v :: r, h)
      | none => none) else none
    | none => none)
  | _, _ => none
def pfO (ds : List Nat) (stk : AL) (h : AH) : Option (AL × AH) := match ds, stk with
  | [ci, k], v :: .ref a :: r => (match oAt h a with
    | some (c, fs) => if c = ci ∧ k < fs.length ∧ okF (clTy ci k) v = true then some (r, hput h a (.inr (ci, fs.set k v))) else none
    | none => none)
  | _, _ => none
def ialO (stk : AL) (h : AH) : Option (AL × AH) := match stk with
  | .int i :: .ref a :: r => (match scAt h a with
    | some (n, f) => if i < 0 ∨ n ≤ i.toNatClampNeg then none else some (.int (f i.toNatClampNeg) :: r, h)
    | none => (match iAt 0 h a with
      | some (n, f) => if i < 0 ∨ n ≤ i.toNatClampNeg then none else some (.int (f i.toNatClampNeg) :: r, h)
      | none => none))
  | _ => none
def iasO (stk : AL) (h : AH) : Option (AL × AH) := match stk with
  | .int x :: .int i :: .ref a :: r => (match iAt 0 h a with
    | some (n, f) => if i < 0 ∨ n ≤ i.toNatClampNeg then none else some (r, hput h a (.inl (0, n, .inl (upd f i.toNatClampNeg x))))
    | none => none)
  | _ => none
def balO (stk : AL) (h : AH) : Option (AL × AH) := match stk with
  | .int i :: .ref a :: r => (match iAt 2 h a with
    | some (n, f) => if i < 0 ∨ n ≤ i.toNatClampNeg then none else some (.int (f i.toNatClampNeg) :: r, h)
    | none => none)
  | _ => none
def basO (stk : AL) (h : AH) : Option (AL × AH) := match stk with
  | .int x :: .int i :: .ref a :: r => (match iAt 2 h a with
    | some (n, f) => if i < 0 ∨ n ≤ i.toNatClampNeg then none else some (r, hput h a (.inl (2, n, .inl (upd f i.toNatClampNeg x.toInt8.toInt32))))
    | none => none)
  | _ => none
def lalO (stk : AL) (h : AH) : Option (AL × AH) := match stk with
  | .int i :: .ref a :: r => (match lAt h a with
    | some (n, f) => if i < 0 ∨ n ≤ i.toNatClampNeg then none else some (.long (f i.toNatClampNeg) :: r, h)
    | none => none)
  | _ => none
def lasO (stk : AL) (h : AH) : Option (AL × AH) := match stk with
  | .long x :: .int i :: .ref a :: r => (match lAt h a with
    | some (n, f) => if i < 0 ∨ n ≤ i.toNatClampNeg then none else some (r, hput h a (.inl (1, n, .inr (.inl (vp_updL f i.toNatClampNeg x)))))
    | none => none)
  | _ => none
def aalO (stk : AL) (h : AH) : Option (AL × AH) := match stk with
  | .int i :: .ref a :: r => (match qAt h a with
    | some (_, n, f) => if i < 0 ∨ n ≤ i.toNatClampNeg then none else some (va_rf (f i.toNatClampNeg) :: r, h)
    | none => none)
  | _ => none
def aasO (stk : AL) (h : AH) : Option (AL × AH) := match stk with
  | .ref v :: .int i :: .ref a :: r => (match qAt h a, oAt h v with
    | some (4, n, f), some (3, _) => if i < 0 ∨ n ≤ i.toNatClampNeg then none else some (r, hput h a (.inl (4, n, .inr (.inr (.inr (.inr (va_up f i.toNatClampNeg (some v))))))))
    | _, _ => none)
  | .null :: .int i :: .ref a :: r => (match qAt h a with
    | some (4, n, f) => if i < 0 ∨ n ≤ i.toNatClampNeg then none else some (r, hput h a (.inl (4, n, .inr (.inr (.inr (.inr (va_up f i.toNatClampNeg none)))))))
    | _ => none)
  | _ => none
def alnO (stk : AL) (h : AH) : Option (AL × AH) := match stk with
  | .ref a :: r => (match scAt h a with
    | some (n, _) => some (.int (Int32.ofNat n) :: r, h)
    | none => (match rAt h a with
      | some (t, n, _) => if t < 5 then some (.int (Int32.ofNat n) :: r, h) else none
      | none => none))
  | _ => none
/-- what a new array of a kind of numbers holds -/
def nwA (at_ : ArrayType) (n : Nat) : Option va_E := match at_ with
  | .int => some (.inl (0, n, .inl (fun _ => 0)))
  | .long => some (.inl (1, n, .inr (.inl (fun _ => 0))))
  | .byte => some (.inl (2, n, .inl (fun _ => 0)))
  | _ => none
def nwaO (at_ : ArrayType) (stk : AL) (h : AH) : Option (AL × AH) := match stk with
  | .int n :: r => if n < 0 ∨ 100000 < n.toNatClampNeg ∨ 1000000 ≤ h.2.1 then none else (match nwA at_ n.toNatClampNeg with
    | some e => some (.ref h.2.1 :: r, hnew h e n.toNatClampNeg)
    | none => none)
  | _ => none
def nwqO (stk : AL) (h : AH) : Option (AL × AH) := match stk with
  | .int n :: r => if n < 0 ∨ 100000 < n.toNatClampNeg ∨ 1000000 ≤ h.2.1 then none else some (.ref h.2.1 :: r, hnew h (.inl (4, n.toNatClampNeg, .inr (.inr (.inr (.inr (fun _ => none)))))) n.toNatClampNeg)
  | _ => none
def hmna (h : AH) (N K : Nat) : AH := (fun j => if j = h.2.1 then .inl (3, N, .inr (.inr (.inr (.inr (fun i => if i < N then some (h.2.1 + 1 + i) else none))))) else if h.2.1 < j ∧ j ≤ h.2.1 + N then .inl (0, K, .inl (fun _ => 0)) else h.1 j, h.2.1 + (1 + N), h.2.2 + (N + N * K))
def mnaO (stk : AL) (h : AH) : Option (AL × AH) := match stk with
  | .int k :: .int n :: r => if n < 0 ∨ k < 0 ∨ 100000 < n.toNatClampNeg ∨ 100000 < k.toNatClampNeg ∨ 1000000 < h.2.1 + (1 + n.toNatClampNeg) then none else some (.ref h.2.1 :: r, hmna h n.toNatClampNeg k.toNatClampNeg)
  | _ => none
def newO (ds : List Nat) (stk : AL) (h : AH) : Option (AL × AH) := match ds with
  | [ci] => if ci < 10 ∧ h.2.1 < 1000000 then some (.ref h.2.1 :: stk, hnew h (.inr (ci, dfl ci)) (clN ci)) else none
  | _ => none
def hop (i : Instr) (ds : List Nat) (stk : AL) (h : AH) : Option (AL × AH) := match i with
  | .getfield _ => gfO ds stk h
  | .putfield _ => pfO ds stk h
  | .iaload => ialO stk h
  | .iastore => iasO stk h
  | .baload => balO stk h
  | .bastore => basO stk h
  | .laload => lalO stk h
  | .lastore => lasO stk h
  | .aaload => aalO stk h
  | .aastore => aasO stk h
  | .arraylength => alnO stk h
  | .newarray t => nwaO t stk h
  | .anewarray _ => nwqO stk h
  | .multianewarray _ _ => mnaO stk h
  | .new _ => newO ds stk h
  | _ => none
