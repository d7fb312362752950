/-! ===== what the tables say ===== -/
/-- what the tables say of a method -/
theorem mI_spec {y : Nat} {qi : CI} (h : mI y = some qi) : ∃ (wc wk ws wi o np : Nat), mWL[y]? = some (wc, wk, ws, wi, o, np) ∧ ciOf lw_tbl[wc]? = some qi ∧ cwd qi ∈ gw ∧ Cond.initialized qi.1.cls ∈ gw ∧ (qi.1.cls ≠ "java/lang/invoke/MethodHandle" ∧ qi.1.cls ≠ "java/lang/invoke/VarHandle" ∧ (parseMethodDescriptor qi.1.desc).map (fun d => d.parameters.length) = some np) ∧ qi.2.2.1 ≤ 45 ∧ qi.1.cls = cn o ∧
    (lw_tbl[wk]? = some (Cond.static qi.1) ∨ (lw_tbl[wk]? = some (Cond.instanceMethod qi.1) ∧ ((qi.1.name = "<init>" ∧ qi.2.2.2 = none) ∨ Cond.selects qi.1.cls qi.1 qi.1 ∈ gw))) ∧ (qi.1.cls ≠ RL → hhOf qi.1 = none) := by
  unfold mI at h
  split at h
  · rename_i wc r e
    obtain ⟨wk, ws, wi, o, np⟩ := r
    have h2 := List.all_eq_true.mp mWL_ok _ (List.mem_of_getElem? e)
    unfold mOK at h2
    simp only [h, Bool.and_eq_true, decide_eq_true_eq, beq_iff_eq, Bool.or_eq_true] at h2
    obtain ⟨h3, ⟨⟨h4, h5⟩, h6⟩, h7⟩ := h2
    have h8 : cwd qi ∈ gw ∧ qi.1.cls ≠ "java/lang/invoke/MethodHandle" ∧ qi.1.cls ≠ "java/lang/invoke/VarHandle" ∧ qi.2.2.1 ≤ 45 := by
      unfold cwB at h3
      split at h3
      · rename_i y b n r e2
        simp only [Bool.and_eq_true, bne_iff_ne, decide_eq_true_eq] at h3
        rw [e2] at h
        cases h
        refine ⟨?_, h3.1.1.2, h3.1.2, h3.2⟩
        rw [cwd_none (hh_none h3.1.1.1)]
        exact lw_gw e2 rfl
      · rename_i y b n r hh e2
        simp only [Bool.and_eq_true, bne_iff_ne, decide_eq_true_eq] at h3
        rw [e2] at h
        cases h
        refine ⟨?_, h3.1.1.2, h3.1.2, h3.2⟩
        rw [cwd_some h3.1.1.1]
        exact lw_gw e2 rfl
      · cases h3
    exact ⟨wc, wk, ws, wi, o, np, e, h, h8.1, lw_gw h4 rfl, ⟨h8.2.1, h8.2.2.1, h5⟩, h8.2.2.2, h6, h7.imp id (fun z => ⟨z.1, z.2.imp id (fun z2 => lw_gw z2 rfl)⟩), hh_none⟩
  · cases h
def hasC (o idx kind y n ci : Nat) : Bool := cTab.any (fun q => q.1 == o && q.2.1 == idx && q.2.2.1 == kind && q.2.2.2.1 == y && q.2.2.2.2.1 == n && q.2.2.2.2.2.1 == ci)
theorem isML_spec {o idx w : Nat} {y : MethodName} (h : isML o idx y lw_tbl[w]? = true) : Cond.methodLink (cn o) idx y ∈ gw := by
  unfold isML at h
  split at h
  · rename_i a i z e
    simp only [Bool.and_eq_true, beq_iff_eq, decide_eq_true_eq] at h
    obtain ⟨⟨rfl, rfl⟩, rfl⟩ := h
    exact lw_gw e rfl
  · cases h
theorem isMN_spec {G : GG} {s : State} {o idx w : Nat} {y : MethodName} (hB : Bas G s) (h : isMN o idx y lw_tbl[w]? = true) : ∃ host, va_Nw (.methodLinkNest (cn o) idx y host) s := by
  unfold isMN at h
  split at h
  · rename_i a i z host e
    simp only [Bool.and_eq_true, beq_iff_eq, decide_eq_true_eq] at h
    obtain ⟨⟨rfl, rfl⟩, rfl⟩ := h
    exact ⟨host, hB.2.2.2.2.1 _ (lw_nest e rfl)⟩
  · cases h
theorem hasC_spec {G : GG} {s : State} {o idx kind y n ci : Nat} (hB : Bas G s) (hk : kind ≠ 9) (h : hasC o idx kind y n ci = true) : ∃ (qi : CI) (w wk : Nat), mI y = some qi ∧ CK s o idx qi n ∧ cKind kind y ci w o idx qi (isStat lw_tbl[wk]?) = true ∧ (lw_tbl[wk]? = some (Cond.static qi.1) ∨ (lw_tbl[wk]? = some (Cond.instanceMethod qi.1) ∧ ((qi.1.name = "<init>" ∧ qi.2.2.2 = none) ∨ Cond.selects qi.1.cls qi.1 qi.1 ∈ gw))) ∧ (qi.1.cls ≠ RL → hhOf qi.1 = none) := by
  obtain ⟨q, hq, h1⟩ := List.any_eq_true.mp h
  obtain ⟨a, b, c, d, e, f, w⟩ := q
  simp only [Bool.and_eq_true, beq_iff_eq] at h1
  obtain ⟨⟨⟨⟨⟨rfl, rfl⟩, rfl⟩, rfl⟩, rfl⟩, rfl⟩ := h1
  have h2 := List.all_eq_true.mp cTab_ok _ hq
  unfold cOK at h2
  simp only [if_neg hk] at h2
  split at h2
  · rename_i wc wk x1 x2 x3 np e1
    simp only [Bool.and_eq_true, decide_eq_true_eq] at h2
    obtain ⟨h3, h4⟩ := h2
    split at h4
    · rename_i qi e2
      simp only [Bool.and_eq_true, Bool.or_eq_true] at h4
      have hm : mI d = some qi := by unfold mI; rw [e1]; exact e2
      obtain ⟨wc', wk', ws', wi', o', np', g0, g1, g2, g3, g4, g5, g6, g7, g8⟩ := mI_spec hm
      cases Option.some.inj (g0.symm.trans e1)
      subst h3
      refine ⟨qi, w, wk, hm, ⟨g2, g3, g4, g5, ?_⟩, h4.2, g7, g8⟩
      rcases h4.1 with z | z
      · exact Or.inl (isML_spec z)
      · exact Or.inr (isMN_spec hB z)
    · cases h4
  · cases h2
theorem hasC9_spec {o idx y n ci : Nat} (h : hasC o idx 9 y n ci = true) : ∃ nm, spName y = some nm ∧ Cond.methodLink (cn o) idx nm ∈ gw := by
  obtain ⟨q, hq, h1⟩ := List.any_eq_true.mp h
  obtain ⟨a, b, c, d, e, f, w⟩ := q
  simp only [Bool.and_eq_true, beq_iff_eq] at h1
  obtain ⟨⟨⟨⟨⟨rfl, rfl⟩, rfl⟩, rfl⟩, rfl⟩, rfl⟩ := h1
  have h2 := List.all_eq_true.mp cTab_ok _ hq
  unfold cOK at h2
  simp only [if_pos] at h2
  split at h2
  · rename_i nm e1
    exact ⟨nm, e1, isML_spec h2⟩
  · cases h2
/-! the check of an instruction -/
def btB (Ls : List Nat) (pc : Nat) (off : Int) (k : Nat) : Bool := match Ls[k]? with
  | some t => decide ((pc : Int) + off = (t : Int))
  | none => false
theorem btB_spec {Ls : List Nat} {pc : Nat} {off : Int} {k : Nat} (h : btB Ls pc off k = true) : BT Ls pc off k := by
  unfold btB at h
  split at h
  · rename_i t e; exact ⟨t, e, of_decide_eq_true h⟩
  · cases h
def bt1 (Ls : List Nat) (pc : Nat) (off : Int) (ds : List Nat) : Bool := match ds with
  | [k] => btB Ls pc off k
  | _ => true
theorem bt1_spec {Ls : List Nat} {pc : Nat} {off : Int} {ds : List Nat} (h : bt1 Ls pc off ds = true) : ∀ k, ds = [k] → BT Ls pc off k := by
  intro k hk
  subst hk
  exact btB_spec h
def lkB (ini : Bool) (o : Nat) (i : Instr) (ds : List Nat) : Bool := match i with
  | .getfield idx => (match ds with
    | [ci, k] => hasF o idx ci k
    | _ => true)
  | .putfield idx => (match ds with
    | [ci, k] => hasF o idx ci k && finB ini o idx ci k
    | _ => true)
  | .new idx => (match ds with
    | [ci] => decide (ci < 10) && hasCl o idx ci
    | _ => true)
  | .anewarray idx => hasCl o idx 100
  | .multianewarray idx k => decide (k = 2) && hasCl o idx 101
  | _ => true
theorem lkB_spec {G : GG} {s : State} {args : Array Value} {meth : Method} {ini : Bool} {o : Nat} {i : Instr} {ds : List Nat} (hts : ∀ w ∈ gw, w.before args s = true) (hB : Bas G s) (hm : ini = true → meth.name = "<init>") (h : lkB ini o i ds = true) : LK s args meth o i ds := by
  unfold LK
  unfold lkB at h
  split at h
  · intro ci k hd
    subst hd
    exact hasF_spec hts hB h
  · intro ci k hd
    subst hd
    simp only [Bool.and_eq_true] at h
    exact ⟨hasF_spec hts hB h.1, finB_spec hts hm h.2⟩
  · intro ci hd
    subst hd
    simp only [Bool.and_eq_true, decide_eq_true_eq] at h
    obtain ⟨C, h1, -, -, h2⟩ := hasCl_spec h.2
    obtain ⟨T, h3⟩ := h2 (by omega) (by omega)
    exact ⟨C, T, h3, hts _ h1⟩
  · obtain ⟨C, h1, h2, -, -⟩ := hasCl_spec h
    rw [h2 rfl] at h1
    exact hts _ h1
  · simp only [Bool.and_eq_true, decide_eq_true_eq] at h
    obtain ⟨C, h1, -, h2, -⟩ := hasCl_spec h.2
    rw [h2 rfl] at h1
    exact ⟨h.1, hts _ h1⟩
  · rename_i h1 h2 h3 h4 h5
    split
    · exact absurd rfl (h1 _)
    · exact absurd rfl (h2 _)
    · exact absurd rfl (h3 _)
    · exact absurd rfl (h4 _)
    · exact absurd rfl (h5 _ _)
    · trivial
