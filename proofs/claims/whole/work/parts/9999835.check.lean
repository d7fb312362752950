/-! ===== the tables are right; a program that passes the check is sound ===== -/
def fWord (o idx : Nat) (t : String × String × String × Bool) (w : Cond) : Bool := match w with
  | .fieldLink a i b n d => a == cn o && i == idx && b == t.1 && n == t.2.1 && d == t.2.2.1
  | .fieldLinkNest a i b n d _ => a == cn o && i == idx && b == t.1 && n == t.2.1 && d == t.2.2.1
  | _ => false
def fOK (q : Nat × Nat × Nat × Nat × Nat) : Bool := match vwCl[q.2.2.1]?, lw_tbl[q.2.2.2.2]? with
  | some (_, T, N), some w => decide (q.2.2.2.1 < N) && fWord q.1 q.2.1 (T q.2.2.2.1) w
  | _, _ => false
theorem fTab_ok : fTab.all fOK = true := by decide +kernel
def hasF (o idx ci k : Nat) : Bool := fTab.any (fun q => q.1 == o && q.2.1 == idx && q.2.2.1 == ci && q.2.2.2.1 == k)
/-- a final field is written in its own class's constructor alone -/
def finB (ini : Bool) (o idx ci k : Nat) : Bool := match vwCl[ci]? with
  | some (_, T, _) => !(T k).2.2.2 || (ini && (T k).1 == cn o && fTab.any (fun q => q.1 == o && q.2.1 == idx && q.2.2.1 == ci && q.2.2.2.1 == k && (match lw_tbl[q.2.2.2.2]? with
    | some (.fieldLink a i b n d) => a == cn o && i == idx && b == (T k).1 && n == (T k).2.1 && d == (T k).2.2.1
    | _ => false)))
  | none => false
theorem lw_gw {i : Nat} {w : Cond} (h : lw_tbl[i]? = some w) (hg : goodWord w = true) : w ∈ gw := gw_at i h hg
theorem lw_nest {i : Nat} {w : Cond} (h : lw_tbl[i]? = some w) (hg : isNest w = true) : w ∈ nestW := List.mem_filter.mpr ⟨List.mem_of_getElem? h, hg⟩
theorem hasF_spec {G : GG} {s : State} {args : Array Value} {o idx ci k : Nat} (hts : ∀ w ∈ gw, w.before args s = true) (hB : Bas G s) (h : hasF o idx ci k = true) : FLk s args o idx ci k := by
  obtain ⟨q, hq, h1⟩ := List.any_eq_true.mp h
  obtain ⟨a, b, c, d, w⟩ := q
  simp only [Bool.and_eq_true, beq_iff_eq] at h1
  obtain ⟨⟨⟨rfl, rfl⟩, rfl⟩, rfl⟩ := h1
  have h2 := List.all_eq_true.mp fTab_ok _ hq
  unfold fOK at h2
  split at h2
  · rename_i C T N w' e1 e2
    simp only [Bool.and_eq_true, decide_eq_true_eq] at h2
    obtain ⟨h3, h4⟩ := h2
    refine ⟨C, T, N, e1, h3, ?_⟩
    unfold fWord at h4
    split at h4
    · simp only [Bool.and_eq_true, beq_iff_eq] at h4
      obtain ⟨⟨⟨⟨rfl, rfl⟩, rfl⟩, rfl⟩, rfl⟩ := h4
      exact Or.inl (hts _ (lw_gw e2 rfl))
    · simp only [Bool.and_eq_true, beq_iff_eq] at h4
      obtain ⟨⟨⟨⟨rfl, rfl⟩, rfl⟩, rfl⟩, rfl⟩ := h4
      exact Or.inr ⟨_, va_Nw.use rfl (hB.2.2.2.2.1 _ (lw_nest e2 rfl))⟩
    · cases h4
  · cases h2
theorem finB_spec {s : State} {args : Array Value} {meth : Method} {ini : Bool} {o idx ci k : Nat} (hts : ∀ w ∈ gw, w.before args s = true) (hm : ini = true → meth.name = "<init>") (h : finB ini o idx ci k = true) : ∀ Cn T N, vwCl[ci]? = some (Cn, T, N) → (T k).2.2.2 = false ∨ (meth.name = "<init>" ∧ (T k).1 = cn o ∧ (Cond.fieldLink (cn o) idx (T k).1 (T k).2.1 (T k).2.2.1).before args s = true) := by
  intro Cn T N hc
  unfold finB at h
  rw [hc] at h
  simp only [Bool.or_eq_true, Bool.not_eq_true', Bool.and_eq_true, beq_iff_eq] at h
  rcases h with h | ⟨⟨h1, h2⟩, h3⟩
  · exact Or.inl h
  · refine Or.inr ⟨hm h1, h2, ?_⟩
    obtain ⟨q, hq, h4⟩ := List.any_eq_true.mp h3
    simp only [Bool.and_eq_true, beq_iff_eq] at h4
    obtain ⟨-, h5⟩ := h4
    split at h5
    · rename_i a i b n d e
      simp only [Bool.and_eq_true, beq_iff_eq] at h5
      obtain ⟨⟨⟨⟨rfl, rfl⟩, rfl⟩, rfl⟩, rfl⟩ := h5
      exact hts _ (lw_gw e rfl)
    · cases h5
/-! classes, constants -/
def clOKB (q : Nat × Nat × Nat × Nat) : Bool := match lw_tbl[q.2.2.2]? with
  | some (.classLink a i C) => a == cn q.1 && i == q.2.1 && (if q.2.2.1 = 100 then C == RX3 else if q.2.2.1 = 101 then C == "[[I" else (match vwCl[q.2.2.1]? with
    | some (C', _, N) => C == C' && N == clN q.2.2.1
    | none => false))
  | _ => false
theorem clTab_ok : clTab.all clOKB = true := by decide +kernel
def hasCl (o idx ci : Nat) : Bool := clTab.any (fun q => q.1 == o && q.2.1 == idx && q.2.2.1 == ci)
theorem hasCl_spec {o idx ci : Nat} (h : hasCl o idx ci = true) : ∃ C, Cond.classLink (cn o) idx C ∈ gw ∧ (ci = 100 → C = RX3) ∧ (ci = 101 → C = "[[I") ∧ (ci ≠ 100 → ci ≠ 101 → ∃ T, vwCl[ci]? = some (C, T, clN ci)) := by
  obtain ⟨q, hq, h1⟩ := List.any_eq_true.mp h
  obtain ⟨a, b, c, w⟩ := q
  simp only [Bool.and_eq_true, beq_iff_eq] at h1
  obtain ⟨⟨rfl, rfl⟩, rfl⟩ := h1
  have h2 := List.all_eq_true.mp clTab_ok _ hq
  unfold clOKB at h2
  split at h2
  · rename_i a i C e
    simp only [Bool.and_eq_true, beq_iff_eq] at h2
    obtain ⟨⟨rfl, rfl⟩, h3⟩ := h2
    refine ⟨C, lw_gw e rfl, fun z => ?_, fun z => ?_, fun z1 z2 => ?_⟩
    · rw [if_pos z] at h3; exact beq_iff_eq.mp h3
    · rw [if_neg (by rw [z]; decide), if_pos z] at h3; exact beq_iff_eq.mp h3
    · rw [if_neg z1, if_neg z2] at h3
      split at h3
      · rename_i C' T N e2
        simp only [Bool.and_eq_true, beq_iff_eq] at h3
        obtain ⟨rfl, rfl⟩ := h3
        exact ⟨T, e2⟩
      · cases h3
  · cases h2
def conOK (q : Nat × Nat × Nat × Nat) : Bool := match lw_tbl[q.2.2.2]? with
  | some (.constant a i v) => a == cn q.1 && i == q.2.1 && v == Int32.ofNat q.2.2.1
  | _ => false
theorem conTab_ok : conTab.all conOK = true := by decide +kernel
def hasCon (o idx v : Nat) : Bool := conTab.any (fun q => q.1 == o && q.2.1 == idx && q.2.2.1 == v)
theorem hasCon_spec {o idx v : Nat} (h : hasCon o idx v = true) : Cond.constant (cn o) idx (Int32.ofNat v) ∈ gw := by
  obtain ⟨q, hq, h1⟩ := List.any_eq_true.mp h
  obtain ⟨a, b, c, w⟩ := q
  simp only [Bool.and_eq_true, beq_iff_eq] at h1
  obtain ⟨⟨rfl, rfl⟩, rfl⟩ := h1
  have h2 := List.all_eq_true.mp conTab_ok _ hq
  unfold conOK at h2
  split at h2
  · rename_i a i v e
    simp only [Bool.and_eq_true, beq_iff_eq] at h2
    obtain ⟨⟨rfl, rfl⟩, rfl⟩ := h2
    exact lw_gw e rfl
  · cases h2
def conlOK (q : Nat × Nat × Nat × Nat) : Bool := match lw_tbl[q.2.2.2]? with
  | some (.constantLong a i v) => a == cn q.1 && i == q.2.1 && v == Int64.ofNat q.2.2.1
  | _ => false
theorem conlTab_ok : conlTab.all conlOK = true := by decide +kernel
def hasConl (o idx v : Nat) : Bool := conlTab.any (fun q => q.1 == o && q.2.1 == idx && q.2.2.1 == v)
theorem hasConl_spec {o idx v : Nat} (h : hasConl o idx v = true) : Cond.constantLong (cn o) idx (Int64.ofNat v) ∈ gw := by
  obtain ⟨q, hq, h1⟩ := List.any_eq_true.mp h
  obtain ⟨a, b, c, w⟩ := q
  simp only [Bool.and_eq_true, beq_iff_eq] at h1
  obtain ⟨⟨rfl, rfl⟩, rfl⟩ := h1
  have h2 := List.all_eq_true.mp conlTab_ok _ hq
  unfold conlOK at h2
  split at h2
  · rename_i a i v e
    simp only [Bool.and_eq_true, beq_iff_eq] at h2
    obtain ⟨⟨rfl, rfl⟩, rfl⟩ := h2
    exact lw_gw e rfl
  · cases h2
