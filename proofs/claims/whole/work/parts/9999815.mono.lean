/-! ===== the heap only grows ===== -/
theorem ctl_le {call : CF} (hcall : ∀ y as h r h', call y as h = some (r, h') → hle h h') {i : Instr} {ds : List Nat} {st : AS} {q : AO × AS} (e : CTL call i ds st q) : hle st.2.2 q.2.2.2 := by
  have cl : ∀ {y as h loc rest q}, callR (call y as h) loc rest = some q → hle h q.2.2.2 := fun {y as h loc rest q} z => by
    obtain ⟨r, h', h1, ⟨v, -, rfl⟩ | ⟨E, -, rfl⟩⟩ := callR_inv z <;> exact hcall _ _ _ _ _ h1
  unfold CTL at e
  split at e
  · obtain ⟨k, -, rfl⟩ := e; exact hle.rf _
  · obtain ⟨k, loc, x, r, h, -, rfl, ⟨-, rfl⟩ | ⟨-, rfl⟩⟩ := e <;> exact hle.rf _
  · obtain ⟨k, loc, y, x, r, h, -, rfl, ⟨-, rfl⟩ | ⟨-, rfl⟩⟩ := e <;> exact hle.rf _
  · obtain ⟨k, loc, r, h, -, ⟨rfl, rfl⟩ | ⟨a, rfl, rfl⟩⟩ := e <;> exact hle.rf _
  · obtain ⟨k, loc, r, h, -, ⟨rfl, rfl⟩ | ⟨a, rfl, rfl⟩⟩ := e <;> exact hle.rf _
  · obtain ⟨kd, ks, loc, x, r, h, -, rfl, ⟨-, rfl⟩ | ⟨-, k, -, rfl⟩⟩ := e <;> exact hle.rf _
  · obtain ⟨kd, ks, loc, x, r, h, -, rfl, ⟨-, rfl⟩ | ⟨j, k, -, -, rfl⟩⟩ := e <;> exact hle.rf _
  · obtain ⟨loc, x, h, rfl, rfl, -⟩ := e; exact hle.rf _
  · obtain ⟨loc, x, h, rfl, rfl⟩ := e; exact hle.rf _
  · obtain ⟨loc, h, rfl, rfl⟩ := e; exact hle.rf _
  · obtain ⟨loc, r, h, rfl, ⟨v, -, rfl⟩ | ⟨j, -, rfl⟩⟩ := e <;> exact hle.rf _
  · obtain ⟨loc, r, h, v, rfl, -, rfl⟩ := e; exact hle.rf _
  · obtain ⟨loc, r, h, v, rfl, -, rfl⟩ := e; exact hle.rf _
  · obtain ⟨E, loc, h, -, rfl, -, rfl⟩ := e; exact ⟨Nat.le_succ _, Nat.le_add_right _ _⟩
  · rcases e with ⟨y, n, ci, loc, As, b, fs, rest, h, -, rfl, -, -, -, z⟩ | ⟨y, loc, stk, h, x, -, rfl, hx, rfl⟩
    · exact cl z
    · exact jdkO_le hx
  · rcases e with ⟨y, n, loc, As, b, rest, h, -, rfl, -, -, z⟩ | ⟨y, loc, stk, h, x, -, rfl, hx, rfl⟩
    · exact cl z
    · exact jdkO_le hx
  · rcases e with ⟨y, n, loc, As, rest, h, -, rfl, -, -, z⟩ | ⟨y, loc, stk, h, x, -, rfl, hx, rfl⟩
    · exact cl z
    · exact jdkO_le hx
  · exact absurd e id
theorem leafR_inv {call : CF} {i : Instr} {ds : List Nat} {st : AS} {q : AO × AS} (e : leafR call i ds st = some q) : (∃ x, sop i st.1 st.2.1 = some x ∧ q = (.inl 0, x.1, x.2, st.2.2)) ∨ (∃ x, hop i ds st.2.1 st.2.2 = some x ∧ q = (.inl 0, st.1, x.1, x.2)) ∨ CTL call i ds st q := by
  unfold leafR at e
  split at e
  · rename_i x hx; cases e; exact Or.inl ⟨x, hx, rfl⟩
  · split at e
    · rename_i x hx; cases e; exact Or.inr (Or.inl ⟨x, hx, rfl⟩)
    · exact Or.inr (Or.inr (ctl_inv e))
theorem leaf_le {call : CF} (hcall : ∀ y as h r h', call y as h = some (r, h') → hle h h') {i : Instr} {ds : List Nat} {st : AS} {q : AO × AS} (e : leafR call i ds st = some q) : hle st.2.2 q.2.2.2 := by
  rcases leafR_inv e with ⟨x, -, rfl⟩ | ⟨x, hx, rfl⟩ | z
  · exact hle.rf _
  · exact hop_le hx
  · exact ctl_le hcall z
theorem run_le {P : MT} : ∀ (n d : Nat) (t : AT) (st : AS) (q : AO × AS), run P n d t st = some q → hle st.2.2 q.2.2.2
  | 0, _, _, _, _, e => by cases e
  | n + 1, d, .leaf (i, ds), st, q, e => by
    rw [run_leaf] at e
    refine leaf_le (fun y as h r h' z => ?_) e
    obtain ⟨nn, body, cs, th, r0, loc, stk, -, -, -, hz, -, -⟩ := callB_inv z
    exact run_le n _ _ _ _ hz
  | n + 1, d, .branch k a b, st, q, e => by
    rw [run_branch] at e
    split at e
    · rcases seqR_inv e with ⟨st1, h1, h2⟩ | ⟨h1, -⟩
      · exact (run_le n d a _ _ h1).tr (run_le n d b _ _ h2)
      · exact run_le n d a _ _ h1
    · split at e
      · rcases blkR_inv e with ⟨k, st1, h1, rfl⟩ | ⟨h1, -⟩
        · have z := run_le n d a st _ h1
          exact z
        · exact run_le n d a _ _ h1
      · rcases lopR_inv e with ⟨st1, h1, h2⟩ | ⟨k, st1, h1, rfl⟩ | ⟨h1, -⟩
        · exact (run_le n d a _ _ h1).tr (run_le n d _ _ _ h2)
        · have z := run_le n d a st _ h1
          exact z
        · exact run_le n d a _ _ h1
