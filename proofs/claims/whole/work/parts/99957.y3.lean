/-! ===== the reference reads: one status, sound or faulty ===== -/
def RSt (M : MM) (tx : Nat → Nat) (len : Nat) (s : ST) : Prop := match s with
  | .inr a => MR M tx len a
  | .inl q => MF M tx len q.1 q.2
def pI : Nat → Prop := fun k => k = 4 ∨ k = 5 ∨ k = 6
def nA : Nat → Prop := fun _ => False
theorem ps_Frm {M : MM} {a : Nat} {x y : Int32} : Frm nA pI M (psU M a x y) := by
  unfold psU
  exact ((Frm.I (Or.inl rfl)).tr (Frm.I (Or.inr (Or.inl rfl)))).tr (Frm.I (Or.inr (Or.inr rfl)))
theorem r_sgnS {d len c : Nat} {M : MM} {tx : Nat → Nat} {s : ST} (h : RSt M tx len s) (hd : 14 ≤ d) (hc : c < 256) : ∃ N, evC d 174 [.ref 53, .int (nI c)] (toH M) = some (.inl none, toH N) ∧ Frm nA pI M N ∧ RSt N tx len (stO (stB s (pSgn tx len c))) := by
  cases s with
  | inl q =>
    have h : MF M tx len q.1 q.2 := h
    exact ⟨M, m_sign_n h.1 (by omega) h.n, Frm.rf M, h⟩
  | inr a =>
    have h : MR M tx len a := h
    have hle : sp (blP tx) len a ≤ len := sp_le h.2.2.2.1
    have eB : stB (.inr a) (pSgn tx len c) = pSgn tx len c a := rfl
    rw [eB]
    by_cases h1 : sp (blP tx) len a < len ∧ tx (sp (blP tx) len a) = c
    · have ep : pSgn tx len c a = .inr ((), sp (blP tx) len a + 1) := if_pos h1
      rw [ep]
      exact ⟨_, m_sign_t h.1 h.2.1 hd h.2.2.1 h.2.2.2.1 h.2.2.2.2 hc h1, Frm.I (Or.inl rfl), h.at h1.1⟩
    · have ep : pSgn tx len c a = .inl (1, sp (blP tx) len a) := if_neg h1
      rw [ep]
      exact ⟨_, m_sign_f h.1 h.2.1 hd h.2.2.1 h.2.2.2.1 h.2.2.2.2 hc h1, ps_Frm, h.bad hle (by decide) (by decide)⟩
theorem r_numS {d len lo hi : Nat} {M : MM} {tx : Nat → Nat} {s : ST} (h : RSt M tx len s) (hd : 14 ≤ d) (hlo : lo ≤ 1) (hhi : hi < 1000) : ∃ N v, evC d 168 [.ref 53, .int (nI lo), .int (nI hi)] (toH M) = some (.inl (some (.int v)), toH N) ∧ Frm nA pI M N ∧ RSt N tx len (stO (stB s (pNum tx len lo hi))) ∧ (∀ u e, stB s (pNum tx len lo hi) = .inr (u, e) → v = nI u) := by
  cases s with
  | inl q =>
    have h : MF M tx len q.1 q.2 := h
    exact ⟨M, _, m_number_n h.1 (by omega) h.n, Frm.rf M, h, fun u e z => (by cases z)⟩
  | inr a =>
    have h : MR M tx len a := h
    have hA : nuA tx len a ≤ len := sp_le h.2.2.2.1
    have hE : nuE tx len a ≤ len := sp_le hA
    have eB : stB (.inr a) (pNum tx len lo hi) = pNum tx len lo hi a := rfl
    rw [eB]
    by_cases h1 : nuA tx len a < len ∧ dgP tx (nuA tx len a)
    · by_cases h2 : lo ≤ nuV tx len a ∧ nuV tx len a ≤ hi
      · have ep : pNum tx len lo hi a = .inr (nuV tx len a, nuE tx len a) := by
          unfold pNum
          rw [if_pos h1, if_pos h2]
        rw [ep]
        exact ⟨_, _, m_number_t h.1 h.2.1 hd h.2.2.1 h.2.2.2.1 h.2.2.2.2 hhi h1 h2, Frm.I (Or.inl rfl), h.at hE, fun u e z => (by cases z; rfl)⟩
      · have ep : pNum tx len lo hi a = .inl (2, nuA tx len a) := by
          unfold pNum
          rw [if_pos h1, if_neg h2]
        rw [ep]
        exact ⟨_, _, m_number_2 h.1 h.2.1 hd h.2.2.1 h.2.2.2.1 h.2.2.2.2 hlo hhi h1 h2, ps_Frm, h.bad hE (by decide) (by decide), fun u e z => (by cases z)⟩
    · have ep : pNum tx len lo hi a = .inl (1, nuA tx len a) := by
        unfold pNum
        rw [if_neg h1]
      rw [ep]
      exact ⟨_, _, m_number_1 h.1 h.2.1 hd h.2.2.1 h.2.2.2.1 h.2.2.2.2 h1, ps_Frm, h.bad hA (by decide) (by decide), fun u e z => (by cases z)⟩
theorem r_numP {d len n : Nat} {M : MM} {tx : Nat → Nat} {s : ST} (h : RSt M tx len s) (hd : 14 ≤ d) (h16 : n ≤ 16) : ∃ N v, evC d 168 [.ref 53, .int (nI 0), .int (nI n - nI 1)] (toH M) = some (.inl (some (.int v)), toH N) ∧ Frm nA pI M N ∧ RSt N tx len (stO (stB s (pNp tx len n))) ∧ (∀ u e, stB s (pNp tx len n) = .inr (u, e) → v = nI u) := by
  by_cases h0 : n = 0
  · have e : pNp tx len n = pNum tx len 1 0 := by
      funext a; unfold pNp; rw [if_pos h0]
    have e1 : nI n - nI 1 = -1 := by rw [h0]; rfl
    rw [e, e1]
    cases s with
    | inl q =>
      have h : MF M tx len q.1 q.2 := h
      exact ⟨M, _, m_number_n h.1 (by omega) h.n, Frm.rf M, h, fun u e z => (by cases z)⟩
    | inr a =>
      have h : MR M tx len a := h
      have hA : nuA tx len a ≤ len := sp_le h.2.2.2.1
      have hE : nuE tx len a ≤ len := sp_le hA
      have eB : stB (.inr a) (pNum tx len 1 0) = pNum tx len 1 0 a := rfl
      rw [eB]
      by_cases h1 : nuA tx len a < len ∧ dgP tx (nuA tx len a)
      · have ep : pNum tx len 1 0 a = .inl (2, nuA tx len a) := by
          unfold pNum
          rw [if_pos h1, if_neg (by omega)]
        rw [ep]
        exact ⟨_, _, m_number_z h.1 h.2.1 hd h.2.2.1 h.2.2.2.1 h.2.2.2.2 h1, ps_Frm, h.bad hE (by decide) (by decide), fun u e z => (by cases z)⟩
      · have ep : pNum tx len 1 0 a = .inl (1, nuA tx len a) := by
          unfold pNum
          rw [if_neg h1]
        rw [ep]
        exact ⟨_, _, m_number_1 h.1 h.2.1 hd h.2.2.1 h.2.2.2.1 h.2.2.2.2 h1, ps_Frm, h.bad hA (by decide) (by decide), fun u e z => (by cases z)⟩
  · have e : pNp tx len n = pNum tx len 0 (n - 1) := by
      funext a; unfold pNp; rw [if_neg h0]
    have e1 : nI n - nI 1 = nI (n - 1) := by
      have key : ∀ k, k < 17 → ¬ k = 0 → nI k - nI 1 = nI (k - 1) := by decide
      exact key n (by omega) h0
    rw [e, e1]
    exact r_numS h hd (by decide) (by omega)
