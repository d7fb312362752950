/-! ===== the end: the law answers 1 on every script ===== -/
theorem toH_M00 (L : Nat) (xs : Nat → Int32) : toH (M00 L xs) = h00 L xs := by
  have e : cel (M00 L xs) = fun k => if k = 2000000 then .inl (77, L, .inl xs) else .inr (99, []) := by
    funext k
    unfold cel
    by_cases h : k = 2000000
    · rw [if_pos h, if_pos h]; rfl
    · rw [if_neg h, if_neg h]; rfl
  show (cel (M00 L xs), 0, 0) = _
  rw [e]; rfl
theorem law_runs : LawRuns := by
  intro L xs hL
  obtain ⟨K, ⟨a, s, he⟩, h1, h2⟩ := law_ev (L := L) (xs := xs) hL
  rw [toH_M00] at he
  obtain ⟨n, hn⟩ := ev_iff.mp he
  exact ⟨n, a, s, toH K, hn, h1, h2⟩
theorem i_vc : Claimed_1_1 ∧ Claimed_1_2 := claim_of law_runs
