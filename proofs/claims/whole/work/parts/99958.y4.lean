/-! ===== the reference reads steps: what stands between ===== -/
def SWe (M : MM) (i : Nat) (t : Nat × Nat × Nat) : Prop := ai M (441 + i) 0 = nI t.1 ∧ (t.1 < 4 ∨ t.1 = 6 → ai M (441 + i) 1 = nI t.2.1) ∧ (t.2.2 = 0 ∨ ai M (441 + i) 2 = nI t.2.2)
def SW (M : MM) (w : WK) : Prop := fi M 53 26 = nI w.1 ∧ ∀ i, i < w.1 → SWe M i (w.2 i)
def skA : Nat → Prop := fun b => 441 ≤ b ∧ b < 521
def skF : Nat → Prop := fun k => pI k ∨ k = 8 ∨ k = 26
def wkR (M N : MM) (tx : Nat → Nat) (len o : Nat) (x : PR WK) : Prop := Frm skA skF M N ∧ RSt N tx len (stO x) ∧ (∀ w e, x = .inr (w, e) → SW N w ∧ fi N 53 8 = nI o) ∧ ∃ m, m ≤ 80 ∧ fi N 53 26 = nI m
theorem RSt.S {M : MM} {tx : Nat → Nat} {len : Nat} {s : ST} (h : RSt M tx len s) : SH M := by
  cases s with
  | inl q =>
    have h : MF M tx len q.1 q.2 := h
    exact h.1
  | inr a =>
    have h : MR M tx len a := h
    exact h.1
theorem SW.t {M N : MM} {w : WK} (h : SW M w) (F : Frm nA pI M N) : SW N w := by
  have e : ∀ b, ai N b = ai M b := fun b => F.2.2.1 b (fun z => z)
  refine ⟨by rw [F.2.2.2 53 26 (fun z => by unfold pI at z; omega)]; exact h.1, fun i hi => ?_⟩
  unfold SWe
  rw [e (441 + i)]
  exact h.2 i hi
theorem jr_sgn {d len o c : Nat} {M N : MM} {tx : Nat → Nat} {x : PR WK} (h : wkR M N tx len o x) (hc : c < 256) (hd : 14 ≤ d) : ∃ N', evC d 174 [.ref 53, .int (nI c)] (toH N) = some (.inl none, toH N') ∧ wkR M N' tx len o (bnd x (fun w e => bnd (pSgn tx len c e) (fun _ e2 => .inr (w, e2)))) := by
  obtain ⟨F, C, R, m⟩ := h
  obtain ⟨N', e1, F1, C1⟩ := r_sgnS (d := d) (c := c) C hd hc
  have g8 : fi N' 53 8 = fi N 53 8 := F1.2.2.2 53 8 (fun z => by unfold pI at z; omega)
  have g26 : fi N' 53 26 = fi N 53 26 := F1.2.2.2 53 26 (fun z => by unfold pI at z; omega)
  refine ⟨N', e1, F.tr (F1.mono (fun b z => z.elim) (fun k z => Or.inl z)), ?_, fun w' e z => ?_, ?_⟩
  · cases x with
    | inl q => exact C1
    | inr q =>
      show RSt N' tx len (stO (bnd (pSgn tx len c q.2) (fun _ e2 => (.inr (q.1, e2) : PR WK))))
      have C1 : RSt N' tx len (stO (pSgn tx len c q.2)) := C1
      cases hp : pSgn tx len c q.2 with
      | inl w => rw [hp] at C1; exact C1
      | inr w => rw [hp] at C1; exact C1
  · obtain ⟨w1, e1', h1, h2⟩ := bnd_i z
    obtain ⟨u, e2, h3, h4⟩ := bnd_i h2
    cases h4
    obtain ⟨r1, r2⟩ := R _ _ h1
    exact ⟨r1.t F1, by rw [g8]; exact r2⟩
  · obtain ⟨m, h1, h2⟩ := m
    exact ⟨m, h1, by rw [g26]; exact h2⟩
theorem SW.d {M : MM} {w : WK} {n : Nat} (h : SW M w) (h37 : w.1 ≤ 37) (hO : ∀ i, i < w.1 → OKe n w.1 i (w.2 i)) : StD M n w.1 (fun i => (w.2 i).1) (fun i => (w.2 i).2.1) (fun i => (w.2 i).2.2) := by
  refine ⟨by omega, fun i hi => ?_⟩
  obtain ⟨a1, a2, a3⟩ := h.2 i hi
  obtain ⟨o1, o2, o3, o4, o5, o6⟩ := hO i hi
  exact ⟨a1, a3.elim (fun y => by omega) id, o4, o5, o1, fun z => ⟨a2 (Or.inl z), o2 z⟩, fun z => ⟨a2 (Or.inr z), o3 z⟩⟩
