/-! ===== programs run ===== -/
def cnd (c : Jvm.ClassFile.Cond) (x y : Int32) : Bool := match c with
  | .eq => decide (x = y)
  | .ne => decide (¬ x = y)
  | .lt => decide (x < y)
  | .ge => decide (y ≤ x)
  | .gt => decide (y < x)
  | .le => decide (x ≤ y)
def brO (b : Bool) (k : Nat) (st : AS) : Option (AO × AS) := if b = true then some (.inl (k + 1), st) else some (.inl 0, st)
def callR (r : Option ((Option Value ⊕ Nat) × AH)) (loc rest : AL) : Option (AO × AS) := match r with
  | some (.inl v, h') => some (.inl 0, loc, v.toList ++ rest, h')
  | some (.inr E, h') => some (.inr (.inr E), loc, rest, h')
  | none => none
abbrev CF : Type := Nat → List Value → AH → Option ((Option Value ⊕ Nat) × AH)
/-- methods of the JDK that are taken whole: 900 String.length, 901 String.charAt, 902 System.arraycopy; 903 Object.<init>; 904 Math.max, 905 Math.min -/
def jdkO (y : Nat) (stk : AL) (h : AH) : Option (AL × AH) := match y with
  | 900 => (match stk with
    | .ref a :: r => if 1500000 ≤ a ∧ a < 1500024 ∧ r.length ≤ 4 then some (.int (Int32.ofNat (sLen.getD (a - 1500000) 0)) :: r, h) else none
    | _ => none)
  | 901 => (match stk with
    | .int i :: .ref a :: r => if 1500000 ≤ a ∧ a < 1500024 ∧ r.length ≤ 4 ∧ ¬ (i < 0 ∨ sLen.getD (a - 1500000) 0 ≤ i.toNatClampNeg) then some (.int ((sBy.getD (a - 1500000) []).getD i.toNatClampNeg 0) :: r, h) else none
    | _ => none)
  | 902 => (match stk with
    | .int n :: .int dp :: .ref d :: .int sp :: .ref a :: r => (match iAt 0 h a, iAt 0 h d with
      | some (n0, f), some (n1, g) => if sp < 0 ∨ dp < 0 ∨ n < 0 ∨ n0 < sp.toNatClampNeg + n.toNatClampNeg ∨ n1 < dp.toNatClampNeg + n.toNatClampNeg ∨ 4 < r.length then none else some (r, hput h d (.inl (0, n1, .inl (va_cpy f g sp.toNatClampNeg dp.toNatClampNeg n.toNatClampNeg))))
      | _, _ => none)
    | _ => none)
  | 903 => (match stk with
    | .ref _ :: r => if r.length ≤ 4 then some (r, h) else none
    | _ => none)
  | 904 => (match stk with
    | .int y :: .int x :: r => if r.length ≤ 4 then some (.int (if x < y then y else x) :: r, h) else none
    | _ => none)
  | 905 => (match stk with
    | .int y :: .int x :: r => if r.length ≤ 4 then some (.int (if y < x then y else x) :: r, h) else none
    | _ => none)
  | _ => none
def ctlR (call : CF) (i : Instr) (ds : List Nat) (st : AS) : Option (AO × AS) := match i with
  | .goto _ => (match ds with
    | [k] => some (.inl (k + 1), st)
    | _ => none)
  | .ifCond c _ => (match ds, st with
    | [k], (loc, .int x :: r, h) => brO (cnd c x 0) k (loc, r, h)
    | _, _ => none)
  | .if_icmp c _ => (match ds, st with
    | [k], (loc, .int y :: .int x :: r, h) => brO (cnd c x y) k (loc, r, h)
    | _, _ => none)
  | .ifnull _ => (match ds, st with
    | [k], (loc, .null :: r, h) => some (.inl (k + 1), loc, r, h)
    | [_], (loc, .ref _ :: r, h) => some (.inl 0, loc, r, h)
    | _, _ => none)
  | .ifnonnull _ => (match ds, st with
    | [_], (loc, .null :: r, h) => some (.inl 0, loc, r, h)
    | [k], (loc, .ref _ :: r, h) => some (.inl (k + 1), loc, r, h)
    | _, _ => none)
  | .tableswitch _ lo hi _ => (match ds, st with
    | kd :: ks, (loc, .int x :: r, h) => if x.toInt < lo ∨ hi < x.toInt then some (.inl (kd + 1), loc, r, h) else (match ks[(x.toInt - lo).toNat]? with
      | some k => some (.inl (k + 1), loc, r, h)
      | none => none)
    | _, _ => none)
  | .lookupswitch _ ps => (match ds, st with
    | kd :: ks, (loc, .int x :: r, h) => (match (ps.toList.map (fun q => q.1)).findIdx? (fun q => q == x.toInt) with
      | none => some (.inl (kd + 1), loc, r, h)
      | some j => (match ks[j]? with
        | some k => some (.inl (k + 1), loc, r, h)
        | none => none))
    | _, _ => none)
  | .ireturn => (match ds, st with
    | [1], (loc, [.int x], h) => some (.inr (.inl (some (.int x))), loc, [], h)
    | [2], (loc, [.int x], h) => if x = 0 ∨ x = 1 then some (.inr (.inl (some (.int x))), loc, [], h) else none
    | _, _ => none)
  | .lreturn => (match st with
    | (loc, [.long x], h) => some (.inr (.inl (some (.long x))), loc, [], h)
    | _ => none)
  | .return_ => (match st with
    | (loc, [], h) => some (.inr (.inl none), loc, [], h)
    | _ => none)
  | .ldc _ => (match ds, st with
    | [0, v], (loc, r, h) => some (.inl 0, loc, .int (Int32.ofNat v) :: r, h)
    | [1, j], (loc, r, h) => some (.inl 0, loc, .ref (1500000 + j) :: r, h)
    | _, _ => none)
  | .ldc_w _ => (match ds, st with
    | [0, v], (loc, r, h) => some (.inl 0, loc, .int (Int32.ofNat v) :: r, h)
    | _, _ => none)
  | .ldc2_w _ => (match ds, st with
    | [v], (loc, r, h) => some (.inl 0, loc, .long (Int64.ofNat v) :: r, h)
    | _, _ => none)
  | .athrow => (match ds, st with
    | [E], (loc, [], h) => if h.2.1 < 1000000 then some (.inr (.inr E), loc, [], hnew h (.inr (99, [])) 6) else none
    | _, _ => none)
  | .invokevirtual _ => (match ds, st with
    | [y, n, ci], (loc, stk, h) => (match stk.drop n with
      | .ref b :: rest => (match oAt h b with
        | some (c, _) => if c = ci ∧ rest.length ≤ 4 then callR (call y (.ref b :: (stk.take n).reverse) h) loc rest else none
        | none => none)
      | _ => none)
    | [y], (loc, stk, h) => (match jdkO y stk h with
      | some q => some (.inl 0, loc, q.1, q.2)
      | none => none)
    | _, _ => none)
  | .invokespecial _ => (match ds, st with
    | [y, n], (loc, stk, h) => (match stk.drop n with
      | .ref b :: rest => if rest.length ≤ 4 then callR (call y (.ref b :: (stk.take n).reverse) h) loc rest else none
      | _ => none)
    | [y], (loc, stk, h) => (match jdkO y stk h with
      | some q => some (.inl 0, loc, q.1, q.2)
      | none => none)
    | _, _ => none)
  | .invokestatic _ => (match ds, st with
    | [y, n], (loc, stk, h) => if n ≤ stk.length ∧ (stk.drop n).length ≤ 4 then callR (call y (stk.take n).reverse h) loc (stk.drop n) else none
    | [y], (loc, stk, h) => (match jdkO y stk h with
      | some q => some (.inl 0, loc, q.1, q.2)
      | none => none)
    | _, _ => none)
  | _ => none
def leafR (call : CF) (i : Instr) (ds : List Nat) (st : AS) : Option (AO × AS) := match sop i st.1 st.2.1 with
  | some q => some (.inl 0, q.1, q.2, st.2.2)
  | none => (match hop i ds st.2.1 st.2.2 with
    | some q => some (.inl 0, st.1, q.1, q.2)
    | none => ctlR call i ds st)
/-- the locals at a method's start -/
def mkS (args : List Value) : AL := args.flatMap (fun v => if v.category = 2 then [v, jk] else [v])
def mkL (args : List Value) (n : Nat) : AL := mkS args ++ List.replicate (n - (mkS args).length) jk
abbrev MT : Type := Nat → Option (Nat × AT × List (Nat × Nat) × Bool)
/-- what a method catches: a thrown kind, the int that is answered then -/
def ctch (cs : List (Nat × Nat)) (r : Option Value ⊕ Nat) : Option Value ⊕ Nat := match r with
  | .inl v => .inl v
  | .inr E => (match cs.lookup E with
    | some k => .inl (some (.int (Int32.ofNat k)))
    | none => .inr E)
/-- only a method that may throw does -/
def thrB (th : Bool) (r : Option Value ⊕ Nat) (h' : AH) : Option ((Option Value ⊕ Nat) × AH) := match r with
  | .inl v => some (.inl v, h')
  | .inr E => if th = true then some (.inr E, h') else none
def callB (P : MT) (rn : Nat → AT → AS → Option (AO × AS)) (d : Nat) : CF := fun y args h => if d < 9 then none else (match P y with
    | none => none
    | some (n, body, cs, th) => if (mkS args).length ≤ n then (match rn (d - 1) body (mkL args n, [], h) with
      | some (.inr r, (_, _, h')) => thrB th (ctch cs r) h'
      | _ => none) else none)
def seqR (b : AS → Option (AO × AS)) (r : Option (AO × AS)) : Option (AO × AS) := match r with
  | some (.inl 0, st) => b st
  | r => r
def blkR (r : Option (AO × AS)) : Option (AO × AS) := match r with
  | some (.inl (k + 1), st) => some (.inl k, st)
  | r => r
def lopR (b : AS → Option (AO × AS)) (r : Option (AO × AS)) : Option (AO × AS) := match r with
  | some (.inl 1, st) => b st
  | some (.inl (k + 2), st) => some (.inl (k + 1), st)
  | r => r
/-- fuel, depth of calls, program, state: what comes out. A node 0: one behind the other; 2e+1: a block that ends at e; 2e+2: a loop that begins at e -/
def run (P : MT) : Nat → Nat → AT → AS → Option (AO × AS)
  | 0 => fun _ _ _ => none
  | n + 1 => fun d t st => match t with
    | .leaf q => leafR (callB P (run P n) d) q.1 q.2 st
    | .branch k a b => if k = 0 then seqR (run P n d b) (run P n d a st) else if k % 2 = 1 then blkR (run P n d a st) else lopR (run P n d t) (run P n d a st)
theorem run_leaf (P : MT) (n d : Nat) (i : Instr) (ds : List Nat) (st : AS) : run P (n + 1) d (.leaf (i, ds)) st = leafR (callB P (run P n) d) i ds st := rfl
theorem run_branch (P : MT) (n d k : Nat) (a b : AT) (st : AS) : run P (n + 1) d (.branch k a b) st = if k = 0 then seqR (run P n d b) (run P n d a st) else if k % 2 = 1 then blkR (run P n d a st) else lopR (run P n d (.branch k a b)) (run P n d a st) := rfl
theorem run_seq (P : MT) (n d : Nat) (a b : AT) (st : AS) : run P (n + 1) d (.branch 0 a b) st = seqR (run P n d b) (run P n d a st) := rfl
theorem run_blk (P : MT) (n d k : Nat) (a b : AT) (st : AS) : run P (n + 1) d (.branch (2 * k + 1) a b) st = blkR (run P n d a st) := by
  rw [run_branch, if_neg (by omega), if_pos (by omega)]
theorem run_lop (P : MT) (n d k : Nat) (a b : AT) (st : AS) : run P (n + 1) d (.branch (2 * k + 2) a b) st = lopR (run P n d (.branch (2 * k + 2) a b)) (run P n d a st) := by
  rw [run_branch, if_neg (by omega), if_neg (by omega)]
