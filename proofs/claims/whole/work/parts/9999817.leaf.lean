/-! ===== one instruction of the small machine, by the real one ===== -/
def BT (Ls : List Nat) (pc : Nat) (off : Int) (k : Nat) : Prop := ∃ t : Nat, Ls[k]? = some t ∧ (pc : Int) + off = (t : Int)
/-- what the tables must say of a branching, calling, ending instruction -/
def LXb (s : State) (mI : Nat → Option CI) (th : Nat → Bool) (o : Nat) (rt : Option FieldType) (Ls : List Nat) (pc : Nat) (i : Instr) (ds : List Nat) : Prop := match i with
  | .goto off => ∀ k, ds = [k] → BT Ls pc off k
  | .ifCond _ off => ∀ k, ds = [k] → BT Ls pc off k
  | .if_icmp _ off => ∀ k, ds = [k] → BT Ls pc off k
  | .ifnull off => ∀ k, ds = [k] → BT Ls pc off k
  | .ifnonnull off => ∀ k, ds = [k] → BT Ls pc off k
  | .ireturn => (ds = [1] → rt = some .int) ∧ (ds = [2] → rt = some .boolean)
  | .lreturn => rt = some .long
  | .return_ => rt = none
  | .ldc idx => (∀ v, ds = [0, v] → Cond.constant (cn o) idx (Int32.ofNat v) ∈ gw) ∧ (∀ j, ds = [1, j] → (o, idx, j) ∈ sAt)
  | .ldc_w idx => ∀ v, ds = [0, v] → Cond.constant (cn o) idx (Int32.ofNat v) ∈ gw
  | .ldc2_w idx => ∀ v, ds = [v] → Cond.constantLong (cn o) idx (Int64.ofNat v) ∈ gw
  | .invokevirtual idx => (∀ y n ci, ds = [y, n, ci] → ∃ q Cn T N, mI y = some q ∧ CK s o idx q n ∧ vwCl[ci]? = some (Cn, T, N) ∧ q.1.cls = Cn ∧ Cond.instanceMethod q.1 ∈ gw ∧ Cond.selects Cn q.1 q.1 ∈ gw ∧ hhOf q.1 = none ∧ (th y = false ∨ Cond.methodLink (cn o) idx q.1 ∈ gw)) ∧
      (∀ y, ds = [y] → (y = 900 ∧ Cond.methodLink (cn o) idx yJ0_length_8abf5 ∈ gw) ∨ (y = 901 ∧ Cond.methodLink (cn o) idx yJ0_charAt_5068e ∈ gw))
  | .invokespecial idx => (∀ y n, ds = [y, n] → ∃ q, mI y = some q ∧ CK s o idx q n ∧ Cond.instanceMethod q.1 ∈ gw ∧ q.1.name = "<init>" ∧ q.2.2.2 = none ∧ hhOf q.1 = none ∧ th y = false) ∧ (∀ y, ds = [y] → y = 903 ∧ Cond.methodLink (cn o) idx objectInit ∈ gw)
  | .invokestatic idx => (∀ y n, ds = [y, n] → ∃ q, mI y = some q ∧ CK s o idx q n ∧ Cond.static q.1 ∈ gw ∧ (∀ hh, hhOf q.1 = some hh → Cond.methodLink (cn o) idx q.1 ∈ gw) ∧ (th y = false ∨ Cond.methodLink (cn o) idx q.1 ∈ gw)) ∧
      (∀ y, ds = [y] → (y = 902 ∧ Cond.methodLink (cn o) idx arraycopyName ∈ gw) ∨ (y = 904 ∧ Cond.methodLink (cn o) idx Lib.Math.max.name ∈ gw) ∨ (y = 905 ∧ Cond.methodLink (cn o) idx Lib.Math.min.name ∈ gw))
  | _ => True
/-- the throws: class, entries of the thrown class, of its text, of its constructor; the kind -/
def thT : List (Nat × Nat × Nat × Nat × Nat) := [(9, 374, 376, 378, 1), (9, 381, 383, 385, 0), (9, 381, 386, 385, 0)]
/-- a throw, spelt out: new; dup; ldc; invokespecial; athrow -/
def LXt (cc : ByteArray) (o pc : Nat) (ds : List Nat) : Prop := ∀ E, ds = [E] → ∃ ik is ic, decode cc pc = .ok (.new ik, 3) ∧ decode cc (pc + 3) = .ok (.dup, 1) ∧ decode cc (pc + 4) = .ok (.ldc_w is, 3) ∧ decode cc (pc + 7) = .ok (.invokespecial ic, 3) ∧ decode cc (pc + 10) = .ok (.athrow, 1) ∧ (o, ik, is, ic, E) ∈ thT
/-- a throw makes one cell and leaves the method -/
def ThrowR (l : Launch) (G : GG) : Prop := ∀ (p : Program) (e : Env) (R : Room) (s : State) (m : MethodId) (args : Array Value) (below : List Frame) (meth : Method) (c : Code) (H : Heap) (locs : List Loc) (cells slots : Nat) (cc : ByteArray) (pc : Nat) (ls : Array Slot) (o ik is ic E mc ms : Nat) (Qc : Array Value → State → Outcome → State → Prop) (XC : String → State → State → Prop),
  CX G p s m args c cc o → (o, ik, is, ic, E) ∈ thT → va_S (gF G) s.heap H locs → (∀ a : Nat, a < (gH G).size → ¬ gF G a → s.heap[a]? = (gH G)[a]?) → ls.size = c.maxLocals →
  decode cc pc = .ok (.new ik, 3) → decode cc (pc + 3) = .ok (.dup, 1) → decode cc (pc + 4) = .ok (.ldc_w is, 3) → decode cc (pc + 7) = .ok (.invokespecial ic, 3) → decode cc (pc + 10) = .ok (.athrow, 1) → (∀ x ∈ c.exceptionTable.toList, False) →
  7 ≤ R.frames → 100 ≤ R.locals → cells + 1 ≤ R.cells → slots + 6 ≤ R.slots → meth.locks = false → (∀ t : State, t.heap.size = H.size + 1 → (∀ q : Nat, q < H.size → t.heap[q]? = H[q]?) → XC (exn E) s t) →
  (∀ z ∈ locs, gb G ≤ z.base) → cells + 1 ≤ mc → slots + 6 ≤ ms → W p l e R s m args below meth c H locs cells slots (vx_MQ below Qc XC args s mc ms (gF G)) (F0 m pc ls [])
def LXs (cc : ByteArray) (Ls : List Nat) (pc : Nat) (i : Instr) (ds : List Nat) (nx : Nat) : Prop := match i with
  | .tableswitch dflt _ _ offs => ∃ len kd ks, decode cc pc = .ok (i, len) ∧ nx = pc + len ∧ ds = kd :: ks ∧ BT Ls pc dflt kd ∧ ∀ (j k : Nat), ks[j]? = some k → ∃ off, offs[j]? = some off ∧ BT Ls pc off k
  | .lookupswitch dflt ps => ∃ len kd ks, decode cc pc = .ok (i, len) ∧ nx = pc + len ∧ ds = kd :: ks ∧ BT Ls pc dflt kd ∧ (ps.toList.zip (ps.toList.drop 1)).all (fun (a, next) => a.1 < next.1) = true ∧
      (∀ x : Int32, (ps.toList.map (fun q => q.1)).findIdx? (fun q => q == x.toInt) = none → Op.lookupswitch.offset ps.toList dflt x.toInt = dflt) ∧
      ∀ (x : Int32) (j k : Nat), (ps.toList.map (fun q => q.1)).findIdx? (fun q => q == x.toInt) = some j → ks[j]? = some k → BT Ls pc (Op.lookupswitch.offset ps.toList dflt x.toInt) k
  | _ => False
def isCallI (i : Instr) : Bool := match i with
  | .invokevirtual _ => true
  | .invokespecial _ => true
  | .invokestatic _ => true
  | _ => false
def plainI (i : Instr) : Bool := match i with
  | .athrow => false
  | .tableswitch .. => false
  | .lookupswitch .. => false
  | _ => true
def LX (s : State) (args : Array Value) (meth : Method) (cc : ByteArray) (mI : Nat → Option CI) (th : Nat → Bool) (o : Nat) (rt : Option FieldType) (wr : Bool) (Ls : List Nat) (pc : Nat) (i : Instr) (ds : List Nat) (nx : Nat) : Prop :=
  (plainI i = true ∧ decode cc pc = .ok (i, ilen i) ∧ nx = pc + ilen i ∧ LK s args meth o i ds ∧ LXb s mI th o rt Ls pc i ds) ∨ (i = .athrow ∧ wr = false ∧ nx = pc + 11 ∧ LXt cc o pc ds) ∨ LXs cc Ls pc i ds nx
/-- the contracts of the texts' methods -/
def JS (l : Launch) (G : GG) : Prop := ThrowR l G ∧ ∀ d, 6 ≤ d →
  (∀ j h, j < 24 → MC l G (yJ0_length_8abf5, cJ0_length_8abf5, 1, some .int) d [.ref (1500000 + j)] h (.inl (some (.int (Int32.ofNat (sLen.getD j 0))))) h) ∧
  (∀ j i h, j < 24 → ¬ (i < 0 ∨ sLen.getD j 0 ≤ i.toNatClampNeg) → MC l G (yJ0_charAt_5068e, cJ0_charAt_5068e, 2, some .char) d [.ref (1500000 + j), .int i] h (.inl (some (.int ((sBy.getD j []).getD i.toNatClampNeg 0)))) h)
theorem sop_plain {i : Instr} {loc stk : AL} {q : AL × AL} (h : sop i loc stk = some q) : plainI i = true := by
  cases i <;> first | rfl | (cases h)
theorem hop_plain {i : Instr} {ds : List Nat} {stk : AL} {h : AH} {q : AL × AH} (e : hop i ds stk h = some q) : plainI i = true := by
  cases i <;> first | rfl | (cases e)
theorem LX.plain {s : State} {args : Array Value} {meth : Method} {cc : ByteArray} {mI : Nat → Option CI} {th : Nat → Bool} {o : Nat} {rt : Option FieldType} {wr : Bool} {Ls : List Nat} {pc : Nat} {i : Instr} {ds : List Nat} {nx : Nat} (h : LX s args meth cc mI th o rt wr Ls pc i ds nx) (hp : plainI i = true) :
    decode cc pc = .ok (i, ilen i) ∧ nx = pc + ilen i ∧ LK s args meth o i ds ∧ LXb s mI th o rt Ls pc i ds := by
  rcases h with ⟨-, h⟩ | ⟨rfl, -⟩ | h
  · exact h
  · cases hp
  · unfold LXs at h
    split at h
    · cases hp
    · cases hp
    · exact h.elim
section LEAF
variable {p : Program} {l : Launch} {e : Env} {s : State} {m : MethodId} {args : Array Value} {below : List Frame} {meth : Method} {c : Code}
variable {G : GG} {cc : ByteArray} {o nL d : Nat} {h0 hf : AH} {rf : Option Value ⊕ Nat} {rt : Option FieldType} {cs : List (Nat × Nat)}
def QF (below : List Frame) (args : Array Value) (s : State) (G : GG) (h0 hf : AH) (rf : Option Value ⊕ Nat) : State → Prop := vx_MQ below (Qcs G rf hf) (Xcs G rf hf) args s (hf.2.1 - h0.2.1) (hf.2.2 - h0.2.2) (gF G)
def WS (p : Program) (l : Launch) (e : Env) (s : State) (m : MethodId) (args : Array Value) (below : List Frame) (meth : Method) (c : Code) (G : GG) (nL d : Nat) (h0 hf : AH) (rf : Option Value ⊕ Nat) (pc : Nat) (st : AS) : Prop :=
  hle h0 st.2.2 → hle st.2.2 hf → ∀ (ls : Array Slot) (H : Heap) (locs : List Loc), LR G ls nL st.1 → HR G st.2.2 H → (∀ z ∈ locs, gb G ≤ z.base) →
    W p l e (rm d (hf.2.1 - h0.2.1) (hf.2.2 - h0.2.2)) s m args below meth c H locs (st.2.2.2.1 - h0.2.1) (st.2.2.2.2 - h0.2.2) (QF below args s G h0 hf rf) (F0 m pc ls (st.2.1.map (tv G)))
/-- a thrown thing, over the frame of this method -/
def TH (p : Program) (l : Launch) (e : Env) (s : State) (m : MethodId) (args : Array Value) (below : List Frame) (meth : Method) (c : Code) (G : GG) (nL d : Nat) (h0 hf : AH) (rf : Option Value ⊕ Nat) (cs : List (Nat × Nat)) (cc : ByteArray) (Lt : Nat → Prop) : Prop :=
  ∀ (E : Nat) (loc rest : AL) (pc : Nat) (ls : Array Slot) (H : Heap) (locs : List Loc) (a : Addr) (ce : Cell), Lt pc → rf = ctch cs (.inr E) → hle h0 hf → LR G ls nL loc → HR G hf H → (∀ z ∈ locs, gb G ≤ z.base) → H[a]? = some ce → ce.vm = .none → s.vm.findClass (exn E) = some ce.cls →
    vx_W p l e (rm d (hf.2.1 - h0.2.1) (hf.2.2 - h0.2.2)) s m args below meth c H locs (hf.2.1 - h0.2.1) (hf.2.2 - h0.2.2) (QF below args s G h0 hf rf) (F0 m pc ls (rest.map (tv G))) a
def KT (p : Program) (l : Launch) (e : Env) (s : State) (m : MethodId) (args : Array Value) (below : List Frame) (meth : Method) (c : Code) (G : GG) (nL d : Nat) (h0 hf : AH) (rf : Option Value ⊕ Nat) (cs : List (Nat × Nat)) (Ls : List Nat) (nx : Nat) (q : AO × AS) : Prop := hle q.2.2.2 hf ∧
  (q.1 = .inl 0 → WS p l e s m args below meth c G nL d h0 hf rf nx q.2) ∧ (∀ k t, q.1 = .inl (k + 1) → Ls[k]? = some t → WS p l e s m args below meth c G nL d h0 hf rf t q.2) ∧
  (∀ r, q.1 = .inr r → rf = ctch cs r ∧ hf = q.2.2.2)
theorem sub_tr {a b c : Nat} (h1 : a ≤ b) (h2 : b ≤ c) : (b - a) + (c - b) = c - a := by omega
theorem KT.call {Ls : List Nat} {nx pc : Nat} {loc rest : AL} {h h' : AH} {r : Option Value ⊕ Nat} {q : AO × AS} {ls : Array Slot} {Lt : Nat → Prop} (hL : LR G ls nL loc) (h1 : hle h0 h) (h2 : hle h h') (hnx : nx = pc + 3) (hTH : TH p l e s m args below meth c G nL d h0 hf rf cs cc Lt) (hLt : Lt pc) (hK : KT p l e s m args below meth c G nL d h0 hf rf cs Ls nx q)
    (hq : (∃ v, r = .inl v ∧ q = (.inl 0, loc, v.toList ++ rest, h')) ∨ (∃ E, r = .inr E ∧ q = (.inr (.inr E), loc, rest, h'))) :
    KO p l e (rm d (hf.2.1 - h0.2.1) (hf.2.2 - h0.2.2)) s m args below meth c (h.2.1 - h0.2.1) (h.2.2 - h0.2.2) (QF below args s G h0 hf rf) G pc ls h h' rest r := by
  subst hnx
  rcases hq with ⟨v, rfl, rfl⟩ | ⟨E, rfl, rfl⟩
  · refine ⟨fun v' hv H' locs' hr hl => ?_, fun E hE => by cases hE⟩
    cases hv
    have := hK.2.1 rfl (h1.tr h2) hK.1 ls H' locs' hL hr hl
    rw [sub_tr h1.1 h2.1, sub_tr h1.2 h2.2]
    exact this
  · refine ⟨fun v' hv => (by cases hv), fun E' hE H' locs' a ce hr hl hce hcv hcl => ?_⟩
    cases hE
    obtain ⟨k1, k2⟩ := hK.2.2.2 _ rfl
    have k2 : hf = h' := k2
    subst k2
    rw [sub_tr h1.1 h2.1, sub_tr h1.2 h2.2]
    exact hTH E loc rest pc ls H' locs' a ce hLt k1 (h1.tr h2) hL hr hl hce hcv hcl
end LEAF
