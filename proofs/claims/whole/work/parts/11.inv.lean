/-! ===== what comes out, read backwards ===== -/
theorem callB_inv {P : MT} {rn : Nat → AT → AS → Option (AO × AS)} {d y : Nat} {args : List Value} {h h' : AH} {r : Option Value ⊕ Nat} (e : callB P rn d y args h = some (r, h')) :
    ∃ n body cs th r0 loc stk, 9 ≤ d ∧ P y = some (n, body, cs, th) ∧ (mkS args).length ≤ n ∧ rn (d - 1) body (mkL args n, [], h) = some (.inr r0, (loc, stk, h')) ∧ r = ctch cs r0 ∧ (th = true ∨ ∃ v, r = .inl v) := by
  unfold callB at e
  split at e
  · cases e
  · rename_i hd
    split at e
    · cases e
    · rename_i n body cs th hP
      split at e
      · rename_i hn
        split at e
        · rename_i r0 loc stk h1 hr
          refine ⟨n, body, cs, th, r0, loc, stk, by omega, hP, hn, ?_⟩
          unfold thrB at e
          split at e
          · rename_i v ev
            cases e
            exact ⟨hr, ev.symm, Or.inr ⟨v, rfl⟩⟩
          · rename_i E ev
            split at e
            · rename_i ht
              cases e
              exact ⟨hr, ev.symm, Or.inl ht⟩
            · cases e
        · cases e
      · cases e
theorem callR_inv {x : Option ((Option Value ⊕ Nat) × AH)} {loc rest : AL} {q : AO × AS} (e : callR x loc rest = some q) : ∃ r h', x = some (r, h') ∧ ((∃ v, r = .inl v ∧ q = (.inl 0, loc, v.toList ++ rest, h')) ∨ (∃ E, r = .inr E ∧ q = (.inr (.inr E), loc, rest, h'))) := by
  unfold callR at e
  split at e
  · rename_i v h'; cases e; exact ⟨_, h', rfl, Or.inl ⟨v, rfl, rfl⟩⟩
  · rename_i E h'; cases e; exact ⟨_, h', rfl, Or.inr ⟨E, rfl, rfl⟩⟩
  · cases e
theorem seqR_inv {b : AS → Option (AO × AS)} {r : Option (AO × AS)} {q : AO × AS} (e : seqR b r = some q) : (∃ st, r = some (.inl 0, st) ∧ b st = some q) ∨ (r = some q ∧ q.1 ≠ .inl 0) := by
  unfold seqR at e
  split at e
  · rename_i st; exact Or.inl ⟨st, rfl, e⟩
  · rename_i hne; exact Or.inr ⟨e, fun z => hne q.2 (by rw [e, ← z])⟩
theorem blkR_inv {r : Option (AO × AS)} {q : AO × AS} (e : blkR r = some q) : (∃ k st, r = some (.inl (k + 1), st) ∧ q = (.inl k, st)) ∨ (r = some q ∧ ∀ k, q.1 ≠ .inl (k + 1)) := by
  unfold blkR at e
  split at e
  · rename_i k st; cases e; exact Or.inl ⟨k, st, rfl, rfl⟩
  · rename_i hne; exact Or.inr ⟨e, fun k z => hne k q.2 (by rw [e, ← z])⟩
theorem lopR_inv {b : AS → Option (AO × AS)} {r : Option (AO × AS)} {q : AO × AS} (e : lopR b r = some q) : (∃ st, r = some (.inl 1, st) ∧ b st = some q) ∨ (∃ k st, r = some (.inl (k + 2), st) ∧ q = (.inl (k + 1), st)) ∨ (r = some q ∧ ∀ k, q.1 ≠ .inl (k + 1)) := by
  unfold lopR at e
  split at e
  · rename_i st; exact Or.inl ⟨st, rfl, e⟩
  · rename_i k st; cases e; exact Or.inr (Or.inl ⟨k, st, rfl, rfl⟩)
  · rename_i h1 h2
    refine Or.inr (Or.inr ⟨e, fun k z => ?_⟩)
    match k, z with
    | 0, z => exact h1 q.2 (by rw [e, ← z])
    | k + 1, z => exact h2 k q.2 (by rw [e, ← z])
