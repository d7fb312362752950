/-! ===== the small machine: cells by number, programs as trees over instructions ===== -/
abbrev AH : Type := (Nat → va_E) × Nat × Nat
abbrev AL : Type := List Value
abbrev AS : Type := AL × AL × AH
abbrev AT : Type := Lean.RArray (Instr × List Nat)
abbrev AO : Type := Nat ⊕ (Option Value ⊕ Nat)
/-- a place of the locals of which nothing is known -/
abbrev jk : Value := .retAddr 0
def lclr (loc : AL) (i : Nat) : AL := if 0 < i ∧ ((loc[i - 1]?).map Value.category) = some 2 then loc.set (i - 1) jk else loc
def lset1 (loc : AL) (i : Nat) (v : Value) : AL := (lclr loc i).set i v
def lset2 (loc : AL) (i : Nat) (v : Value) : AL := ((lclr loc i).set i v).set (i + 1) jk
def ldI (k : Nat) (loc stk : AL) : Option (AL × AL) := match loc[k]? with
  | some (.int x) => some (loc, .int x :: stk)
  | _ => none
def ldL (k : Nat) (loc stk : AL) : Option (AL × AL) := match loc[k]? with
  | some (.long x) => some (loc, .long x :: stk)
  | _ => none
def ldA (k : Nat) (loc stk : AL) : Option (AL × AL) := match loc[k]? with
  | some (.ref x) => some (loc, .ref x :: stk)
  | some .null => some (loc, .null :: stk)
  | _ => none
def stI (k : Nat) (loc stk : AL) : Option (AL × AL) := match stk with
  | .int x :: r => if k < loc.length then some (lset1 loc k (.int x), r) else none
  | _ => none
def stL (k : Nat) (loc stk : AL) : Option (AL × AL) := match stk with
  | .long x :: r => if k + 1 < loc.length then some (lset2 loc k (.long x), r) else none
  | _ => none
def stA (k : Nat) (loc stk : AL) : Option (AL × AL) := match stk with
  | .ref x :: r => if k < loc.length then some (lset1 loc k (.ref x), r) else none
  | .null :: r => if k < loc.length then some (lset1 loc k .null, r) else none
  | _ => none
def incI (k : Nat) (n : Int) (loc stk : AL) : Option (AL × AL) := match loc[k]? with
  | some (.int x) => some (lset1 loc k (.int (x + Int32.ofInt n)), stk)
  | _ => none
def binI (f : Int32 → Int32 → Int32) (loc stk : AL) : Option (AL × AL) := match stk with
  | .int y :: .int x :: r => some (loc, .int (f x y) :: r)
  | _ => none
def dvI (f : Int32 → Int32 → Int32) (loc stk : AL) : Option (AL × AL) := match stk with
  | .int y :: .int x :: r => if y = 0 then none else some (loc, .int (f x y) :: r)
  | _ => none
def binL (f : Int64 → Int64 → Int64) (loc stk : AL) : Option (AL × AL) := match stk with
  | .long y :: .long x :: r => some (loc, .long (f x y) :: r)
  | _ => none
def dvL (f : Int64 → Int64 → Int64) (loc stk : AL) : Option (AL × AL) := match stk with
  | .long y :: .long x :: r => if y = 0 then none else some (loc, .long (f x y) :: r)
  | _ => none
def unI (f : Int32 → Value) (loc stk : AL) : Option (AL × AL) := match stk with
  | .int x :: r => some (loc, f x :: r)
  | _ => none
def cmpL (loc stk : AL) : Option (AL × AL) := match stk with
  | .long y :: .long x :: r => some (loc, .int (lg_cmp x y) :: r)
  | _ => none
def dupO (loc stk : AL) : Option (AL × AL) := match stk with
  | v :: r => if v.category = 1 then some (loc, v :: v :: r) else none
  | _ => none
def dup2O (loc stk : AL) : Option (AL × AL) := match stk with
  | v :: u :: r => if v.category = 1 ∧ u.category = 1 then some (loc, v :: u :: v :: u :: r) else none
  | _ => none
def popO (loc stk : AL) : Option (AL × AL) := match stk with
  | v :: r => if v.category = 1 then some (loc, r) else none
  | _ => none
/-- instructions that touch locals and stack alone -/
def sop (i : Instr) (loc stk : AL) : Option (AL × AL) := match i with
  | .iconst n => some (loc, .int (Int32.ofInt n) :: stk)
  | .bipush n => some (loc, .int (Int8.ofInt n).toInt32 :: stk)
  | .sipush n => some (loc, .int (Int16.ofInt n).toInt32 :: stk)
  | .lconst n => some (loc, .long (Int64.ofNat (n : Nat)) :: stk)
  | .aconst_null => some (loc, .null :: stk)
  | .iload_n k => ldI k loc stk
  | .iload k => ldI k loc stk
  | .lload_n k => ldL k loc stk
  | .lload k => ldL k loc stk
  | .aload_n k => ldA k loc stk
  | .aload k => ldA k loc stk
  | .istore_n k => stI k loc stk
  | .istore k => stI k loc stk
  | .lstore_n k => stL k loc stk
  | .lstore k => stL k loc stk
  | .astore_n k => stA k loc stk
  | .astore k => stA k loc stk
  | .iinc k n => incI k n loc stk
  | .iadd => binI (fun x y => x + y) loc stk
  | .isub => binI (fun x y => x - y) loc stk
  | .imul => binI (fun x y => x * y) loc stk
  | .iand => binI (fun x y => x &&& y) loc stk
  | .ior => binI (fun x y => x ||| y) loc stk
  | .ixor => binI (fun x y => x ^^^ y) loc stk
  | .ishl => binI (fun x y => x <<< (y &&& 31)) loc stk
  | .ishr => binI (fun x y => x >>> (y &&& 31)) loc stk
  | .iushr => binI (fun x y => (x.toUInt32 >>> (y.toUInt32 &&& Int32.toUInt32 31)).toInt32) loc stk
  | .idiv => dvI (fun x y => x / y) loc stk
  | .irem => dvI (fun x y => x - x / y * y) loc stk
  | .ineg => unI (fun x => .int (-x)) loc stk
  | .i2l => unI (fun x => .long x.toInt64) loc stk
  | .i2b => unI (fun x => .int x.toInt8.toInt32) loc stk
  | .ladd => binL (fun x y => x + y) loc stk
  | .lsub => binL (fun x y => x - y) loc stk
  | .lmul => binL (fun x y => x * y) loc stk
  | .ldiv => dvL (fun x y => x / y) loc stk
  | .lrem => dvL (fun x y => x - x / y * y) loc stk
  | .lcmp => cmpL loc stk
  | .dup => dupO loc stk
  | .dup2 => dup2O loc stk
  | .pop => popO loc stk
  | _ => none
/-- the lengths of the instructions that are used -/
def ilen (i : Instr) : Nat := match i with
  | .bipush _ => 2
  | .sipush _ => 3
  | .iload _ => 2
  | .lload _ => 2
  | .aload _ => 2
  | .istore _ => 2
  | .lstore _ => 2
  | .astore _ => 2
  | .iinc _ _ => 3
  | .goto _ => 3
  | .if_icmp _ _ => 3
  | .ifCond _ _ => 3
  | .ifnull _ => 3
  | .ifnonnull _ => 3
  | .getfield _ => 3
  | .putfield _ => 3
  | .invokevirtual _ => 3
  | .invokestatic _ => 3
  | .invokespecial _ => 3
  | .new _ => 3
  | .anewarray _ => 3
  | .newarray _ => 2
  | .multianewarray _ _ => 4
  | .ldc _ => 2
  | .ldc_w _ => 3
  | .ldc2_w _ => 3
  | _ => 1
/-! ===== the real machine behind it ===== -/
/-- classes and slots, array classes, real addresses, where our cells begin, the heap at the start, the bytes of the texts, the script's length and ints -/
abbrev GG : Type := va_G × (Nat → ClassId) × (Nat → Nat) × Nat × Heap × (Nat → Nat) × Nat × (Nat → Int32)
abbrev gD (G : GG) : va_G := G.1
abbrev gA (G : GG) : Nat → ClassId := G.2.1
abbrev gr (G : GG) : Nat → Nat := G.2.2.1
abbrev gb (G : GG) : Nat := G.2.2.2.1
abbrev gH (G : GG) : Heap := G.2.2.2.2.1
abbrev gV (G : GG) : Nat → Nat := G.2.2.2.2.2.1
abbrev gL (G : GG) : Nat := G.2.2.2.2.2.2.1
abbrev gX (G : GG) : Nat → Int32 := G.2.2.2.2.2.2.2
def tv (G : GG) (v : Value) : Value := match v with
  | .ref a => .ref (gr G a)
  | v => v
theorem tv_cat (G : GG) (v : Value) : (tv G v).category = v.category := by cases v <;> rfl
def LR (G : GG) (ls : Array Slot) (n : Nat) (loc : AL) : Prop := loc.length = n ∧ lv_has ls n (loc.zipIdx.filterMap (fun q => if q.1 = jk then none else some (q.2, tv G q.1)))
theorem LR.mem {G : GG} {loc : AL} {i : Nat} {u : Value} : (i, u) ∈ loc.zipIdx.filterMap (fun q => if q.1 = jk then none else some (q.2, tv G q.1)) ↔ ∃ v, loc[i]? = some v ∧ v ≠ jk ∧ u = tv G v := by
  rw [List.mem_filterMap]
  constructor
  · rintro ⟨⟨v, j⟩, h1, h2⟩
    have h3 := List.mem_zipIdx_iff_getElem?.mp h1
    by_cases hj : v = jk
    · rw [if_pos hj] at h2; cases h2
    · rw [if_neg hj] at h2
      cases h2
      exact ⟨v, h3, hj, rfl⟩
  · rintro ⟨v, h1, h2, rfl⟩
    exact ⟨(v, i), List.mem_zipIdx_iff_getElem?.mpr h1, by rw [if_neg h2]⟩
theorem LR.at {G : GG} {ls : Array Slot} {n : Nat} {loc : AL} (h : LR G ls n loc) {i : Nat} {v : Value} (hi : loc[i]? = some v) (hv : v ≠ jk) : ls[i]? = some (.val (tv G v)) := h.2.2.2 (i, tv G v) (LR.mem.mpr ⟨v, hi, hv, rfl⟩)
theorem lclr_len (loc : AL) (i : Nat) : (lclr loc i).length = loc.length := by unfold lclr; split <;> simp
theorem lset1_len (loc : AL) (i : Nat) (v : Value) : (lset1 loc i v).length = loc.length := by simp [lset1, lclr_len]
theorem lset2_len (loc : AL) (i : Nat) (v : Value) : (lset2 loc i v).length = loc.length := by simp [lset2, lclr_len]
/-- what is known behind a store was known ahead of it, and doesn't lie under it -/
theorem lclr_old {loc : AL} {i j : Nat} {u : Value} (hj : j ≠ i) (h : (lclr loc i)[j]? = some u) (hu : u ≠ jk) : loc[j]? = some u ∧ ¬ (j + 1 = i ∧ u.category = 2) := by
  unfold lclr at h
  split at h
  · rename_i hc
    by_cases e : j = i - 1
    · subst e
      have hlt : i - 1 < loc.length := by
        have := hc.2
        cases hq : loc[i - 1]? with
        | none => rw [hq] at this; cases this
        | some x => exact (List.getElem?_eq_some_iff.mp hq).1
      rw [List.getElem?_set_self hlt] at h
      exact absurd (Option.some.inj h).symm hu
    · rw [List.getElem?_set_ne (fun q => e q.symm)] at h
      exact ⟨h, fun q => e (by omega)⟩
  · rename_i hc
    refine ⟨h, fun q => hc ⟨by omega, ?_⟩⟩
    rw [show i - 1 = j by omega, h]
    exact congrArg some q.2
theorem LR.st1 {G : GG} {ls' : Array Slot} {n : Nat} {loc : AL} {i : Nat} {v : Value} (hn : loc.length = n) (hi : i < loc.length)
    (h : lv_has ls' n ((i, tv G v) :: (loc.zipIdx.filterMap (fun q => if q.1 = jk then none else some (q.2, tv G q.1))).filter (fun q => !(q.1 == i) && !(q.1 + 1 == i && q.2.category == 2)))) : LR G ls' n (lset1 loc i v) := by
  refine ⟨by rw [lset1_len]; exact hn, h.1, h.2.1, fun q hq => h.2.2 q ?_⟩
  obtain ⟨j, u⟩ := q
  obtain ⟨w, h1, h2, rfl⟩ := LR.mem.mp hq
  unfold lset1 at h1
  by_cases e : j = i
  · subst e
    rw [List.getElem?_set_self (by rw [lclr_len]; exact hi)] at h1
    cases h1
    exact List.mem_cons_self
  · rw [List.getElem?_set_ne (fun q => e q.symm)] at h1
    obtain ⟨h3, h4⟩ := lclr_old e h1 h2
    refine List.mem_cons_of_mem _ (List.mem_filter.mpr ⟨LR.mem.mpr ⟨w, h3, h2, rfl⟩, ?_⟩)
    simp only [tv_cat, Bool.and_eq_true, Bool.not_eq_true', beq_eq_false_iff_ne, ne_eq, Bool.and_eq_false_iff]
    refine ⟨e, ?_⟩
    by_cases e2 : j + 1 = i
    · exact Or.inr (fun q => h4 ⟨e2, q⟩)
    · exact Or.inl e2
theorem LR.st2 {G : GG} {ls' : Array Slot} {n : Nat} {loc : AL} {i : Nat} {v : Value} (hn : loc.length = n) (hi : i + 1 < loc.length)
    (h : lv_has ls' n ((i, tv G v) :: (loc.zipIdx.filterMap (fun q => if q.1 = jk then none else some (q.2, tv G q.1))).filter (fun q => !(q.1 == i) && (!(q.1 == i + 1) && !(q.1 + 1 == i && q.2.category == 2))))) : LR G ls' n (lset2 loc i v) := by
  refine ⟨by rw [lset2_len]; exact hn, h.1, h.2.1, fun q hq => h.2.2 q ?_⟩
  obtain ⟨j, u⟩ := q
  obtain ⟨w, h1, h2, rfl⟩ := LR.mem.mp hq
  unfold lset2 at h1
  by_cases e1 : j = i + 1
  · subst e1
    rw [List.getElem?_set_self (by rw [List.length_set, lclr_len]; exact hi)] at h1
    exact absurd (Option.some.inj h1).symm h2
  · rw [List.getElem?_set_ne (fun q => e1 q.symm)] at h1
    by_cases e : j = i
    · subst e
      rw [List.getElem?_set_self (by rw [lclr_len]; omega)] at h1
      cases h1
      exact List.mem_cons_self
    · rw [List.getElem?_set_ne (fun q => e q.symm)] at h1
      obtain ⟨h3, h4⟩ := lclr_old e h1 h2
      refine List.mem_cons_of_mem _ (List.mem_filter.mpr ⟨LR.mem.mpr ⟨w, h3, h2, rfl⟩, ?_⟩)
      simp only [tv_cat, Bool.and_eq_true, Bool.not_eq_true', beq_eq_false_iff_ne, ne_eq, Bool.and_eq_false_iff]
      refine ⟨e, e1, ?_⟩
      by_cases e2 : j + 1 = i
      · exact Or.inr (fun q => h4 ⟨e2, q⟩)
      · exact Or.inl e2
