/-! ===== law: a text read, refused, or a length out of range ===== -/
/-- the law, whole: a sum, blanks, and nothing behind -/
noncomputable def pLaw (tx : Nat → Nat) (len : Nat) : PR TK := bnd (lwP tx len 604 0 0 (0, fun _ => (0, 0)) (sp (blP tx) len 0)) (fun l e => if sp (blP tx) len e < len then .inl (1, sp (blP tx) len e) else .inr (l, sp (blP tx) len e))
theorem pLaw_ok {tx : Nat → Nat} {len : Nat} (hl : len ≤ 150) : okx (pLaw tx len) := by
  have h0 : sp (blP tx) len 0 ≤ len := sp_le (Nat.zero_le _)
  refine okx_i (lw_ok 604 0 0 _ _ h0 (by show 4 * (len - _) + 3 ≤ 604; omega)) (fun l e h => ?_)
  split
  · exact okx_k (by omega)
  · exact okx_r _
def lawI : Nat → Prop := fun k => k = 0 ∨ k = 1 ∨ k = 2 ∨ k = 3 ∨ rdI k ∨ k = 17 ∨ k = 18
def law0 : Nat → Prop := fun k => k = 0 ∨ k = 1 ∨ k = 2 ∨ k = 3 ∨ rdI k ∨ k = 18
theorem law_pre {d n : Nat} {M : MM} {tx : Nat → Nat} (hS : SH M) (hd : 24 ≤ d) (hb : TPb M tx) (hn : n ≤ 600) : ∃ M0 N, evC d 176 [.ref 53, .int (nI n)] (toH (setI M 53 0 (nI 0))) = some (.inl none, toH M0) ∧ SH M0 ∧ N = setI M0 53 18 (nI 0) ∧ MR N tx n (sp (blP tx) n 0) ∧ Frm lwA law0 M N ∧ LW N (0, fun _ => (0, 0)) ∧ fi N 53 8 = nI 0 ∧ fi N 53 0 = nI 0 ∧ fi N 53 1 = nI 0 := by
  obtain ⟨s1, s2⟩ := m_starts (d := d) (n := n) (M := setI M 53 0 (nI 0)) (tx := tx) (by rw [SH_setI]; exact hS) (fun i hi => by rw [ai_setI]; exact hb i hi) hn (by omega)
  have hst : Frm lwA law0 M (setI (stM (setI M 53 0 (nI 0)) n 0) 53 4 (nI (sp (blP tx) n 0))) := (Frm.I (Or.inl rfl)).tr (st_Frm.mono (fun _ z => z) (fun k z => z.elim (fun z => Or.inr (Or.inl z)) (fun z => z.elim (fun z => Or.inr (Or.inr (Or.inl z))) (fun z => Or.inr (Or.inr (Or.inr (Or.inr (Or.inl z))))))))
  have g0 : fi (setI (stM (setI M 53 0 (nI 0)) n 0) 53 4 (nI (sp (blP tx) n 0))) 53 0 = nI 0 := by
    unfold stM
    rw [fi_nk (by decide), fi_nk (by decide), fi_nk (by decide), fi_nk (by decide), fi_nk (by decide), fi_nk (by decide), fi_nk (by decide), fi_nk (by decide), fi_eq]
  have g1 : fi (setI (stM (setI M 53 0 (nI 0)) n 0) 53 4 (nI (sp (blP tx) n 0))) 53 1 = nI 0 := by
    unfold stM
    rw [fi_nk (by decide), fi_nk (by decide), fi_nk (by decide), fi_nk (by decide), fi_nk (by decide), fi_nk (by decide), fi_nk (by decide), fi_eq]
  have g8 : fi (setI (stM (setI M 53 0 (nI 0)) n 0) 53 4 (nI (sp (blP tx) n 0))) 53 8 = nI 0 := by
    unfold stM
    rw [fi_nk (by decide), fi_eq]
  generalize setI (stM (setI M 53 0 (nI 0)) n 0) 53 4 (nI (sp (blP tx) n 0)) = M0 at *
  refine ⟨M0, _, s1, s2.1, rfl, s2.fr (A := lwA) (I := fun k => k = 18) (Frm.I rfl) (by rintro ⟨z, -⟩; omega) (by decide) (by decide) (by decide), hst.tr (Frm.I (Or.inr (Or.inr (Or.inr (Or.inr (Or.inr rfl)))))), ⟨fi_eq _ _ _ _, fun k hk => absurd hk (Nat.not_lt_zero k)⟩, ?_, ?_, ?_⟩
  · rw [fi_nk (by decide)]; exact g8
  · rw [fi_nk (by decide)]; exact g0
  · rw [fi_nk (by decide)]; exact g1
