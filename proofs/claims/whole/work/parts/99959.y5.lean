/-! ===== the reference: blanks under one status ===== -/
theorem r_blkS {d len : Nat} {M : MM} {tx : Nat → Nat} {s : ST} (h : RSt M tx len s) (hd : 12 ≤ d) : ∃ N, evC d 164 [.ref 53] (toH M) = some (.inl none, toH N) ∧ Frm nA pI M N ∧ RSt N tx len (skS tx len s) := by
  cases s with
  | inl q =>
    have h : MF M tx len q.1 q.2 := h
    obtain ⟨a, ha, h4⟩ := h.2.2.1
    exact ⟨_, m_blanks h.1 h.2.1 hd h4 ha, Frm.I (Or.inl rfl), h.at (sp_le ha)⟩
  | inr a =>
    have h : MR M tx len a := h
    exact ⟨_, m_blanks h.1 h.2.1 hd h.2.2.1 h.2.2.2.1, Frm.I (Or.inl rfl), h.at (sp_le h.2.2.2.1)⟩
theorem jr_blk {d len o : Nat} {M N : MM} {tx : Nat → Nat} {x : PR WK} (h : wkR M N tx len o x) (hd : 12 ≤ d) : ∃ N', evC d 164 [.ref 53] (toH N) = some (.inl none, toH N') ∧ wkR M N' tx len o (bnd x (fun w e => .inr (w, sp (blP tx) len e))) := by
  obtain ⟨F, C, R, m⟩ := h
  obtain ⟨N', e1, F1, C1⟩ := r_blkS (d := d) C hd
  have g8 : fi N' 53 8 = fi N 53 8 := F1.2.2.2 53 8 (fun z => by unfold pI at z; omega)
  have g26 : fi N' 53 26 = fi N 53 26 := F1.2.2.2 53 26 (fun z => by unfold pI at z; omega)
  refine ⟨N', e1, F.tr (F1.mono (fun b z => z.elim) (fun k z => Or.inl z)), ?_, fun w' e z => ?_, ?_⟩
  · cases x with
    | inl q => exact C1
    | inr q => exact C1
  · obtain ⟨w1, e1', h1, h2⟩ := bnd_i z
    cases h2
    obtain ⟨r1, r2⟩ := R _ _ h1
    exact ⟨r1.t F1, by rw [g8]; exact r2⟩
  · obtain ⟨m, h1, h2⟩ := m
    exact ⟨m, h1, by rw [g26]; exact h2⟩
