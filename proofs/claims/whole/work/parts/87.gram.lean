/-! ===== what a text says: a fault (its kind, its place), or what was read and where one is ===== -/
abbrev PR (α : Type) : Type := (Nat × Nat) ⊕ (α × Nat)
def bnd {α β : Type} (x : PR α) (f : α → Nat → PR β) : PR β := match x with
  | .inl e => .inl e
  | .inr q => f q.1 q.2
theorem bnd_l {α β : Type} (e : Nat × Nat) (f : α → Nat → PR β) : bnd (.inl e) f = .inl e := rfl
theorem bnd_r {α β : Type} (x : α) (a : Nat) (f : α → Nat → PR β) : bnd (.inr (x, a)) f = f x a := rfl
noncomputable def pNum (tx : Nat → Nat) (len lo hi a : Nat) : PR Nat := @ite _ (nuA tx len a < len ∧ dgP tx (nuA tx len a)) (Classical.propDecidable _) (if lo ≤ nuV tx len a ∧ nuV tx len a ≤ hi then .inr (nuV tx len a, nuE tx len a) else .inl (2, nuA tx len a)) (.inl (1, nuA tx len a))
noncomputable def pSgn (tx : Nat → Nat) (len c a : Nat) : PR Unit := if sp (blP tx) len a < len ∧ tx (sp (blP tx) len a) = c then .inr ((), sp (blP tx) len a + 1) else .inl (1, sp (blP tx) len a)
theorem pNum_le {tx : Nat → Nat} {len lo hi a v e : Nat} (h : pNum tx len lo hi a = .inr (v, e)) (ha : a ≤ len) : a < e ∧ e ≤ len ∧ lo ≤ v ∧ v ≤ hi := by
  unfold pNum at h
  split at h
  · rename_i h1
    split at h
    · rename_i h2
      cases h
      have hA : a ≤ nuA tx len a := sp_ge a
      have h3 : nuE tx len a = sp (dgP tx) len (nuA tx len a + 1) := sp_S h1
      have h4 := sp_ge (P := dgP tx) (len := len) (nuA tx len a + 1)
      exact ⟨by omega, sp_le (sp_le ha), h2.1, h2.2⟩
    · cases h
  · cases h
theorem pSgn_le {tx : Nat → Nat} {len c a e : Nat} {u : Unit} (h : pSgn tx len c a = .inr (u, e)) : a < e ∧ e ≤ len := by
  unfold pSgn at h
  split at h
  · rename_i h1
    cases h
    have := sp_ge (P := blP tx) (len := len) a
    omega
  · cases h
theorem pNum_pl {tx : Nat → Nat} {len lo hi a : Nat} {k p : Nat} (h : pNum tx len lo hi a = .inl (k, p)) (ha : a ≤ len) : (k = 1 ∨ k = 2) ∧ p ≤ len := by
  unfold pNum at h
  split at h
  · split at h
    · cases h
    · cases h; exact ⟨Or.inr rfl, sp_le ha⟩
  · cases h; exact ⟨Or.inl rfl, sp_le ha⟩
theorem pSgn_pl {tx : Nat → Nat} {len c a : Nat} {k p : Nat} (h : pSgn tx len c a = .inl (k, p)) (ha : a ≤ len) : k = 1 ∧ p ≤ len := by
  unfold pSgn at h
  split at h
  · cases h
  · cases h; exact ⟨rfl, sp_le ha⟩
/-- the reference reads on, at a -/
def MR (M : MM) (tx : Nat → Nat) (len a : Nat) : Prop := SH M ∧ TXt M tx len ∧ fi M 53 4 = nI a ∧ a ≤ len ∧ fi M 53 5 = nI 0
/-- it has found a fault -/
def MF (M : MM) (tx : Nat → Nat) (len k p : Nat) : Prop := SH M ∧ TXt M tx len ∧ (∃ a, a ≤ len ∧ fi M 53 4 = nI a) ∧ fi M 53 5 = nI k ∧ 1 ≤ k ∧ k ≤ 3 ∧ fi M 53 6 = nI p
theorem MF.n {M : MM} {tx : Nat → Nat} {len k p : Nat} (h : MF M tx len k p) : ¬ fi M 53 5 = 0 := by
  obtain ⟨_, _, _, h4, h5, h6, _⟩ := h
  rw [h4]
  exact nI_ne0 (by omega) (by omega)
/-- nothing but the place changes -/
theorem MR.at {M : MM} {tx : Nat → Nat} {len a e : Nat} (h : MR M tx len a) (he : e ≤ len) : MR (setI M 53 4 (nI e)) tx len e := by
  obtain ⟨h1, h2, h3, h4, h5⟩ := h
  exact ⟨by rw [SH_setI]; exact h1, by rw [TX_4]; exact h2, fi_eq _ _ _ _, he, by rw [fi_nk (by decide)]; exact h5⟩
theorem MR.bad {M : MM} {tx : Nat → Nat} {len a e k p : Nat} (h : MR M tx len a) (he : e ≤ len) (hk : 1 ≤ k) (hk3 : k ≤ 3) : MF (psU M e (nI k) (nI p)) tx len k p := by
  obtain ⟨h1, h2, h3, h4, h5⟩ := h
  unfold psU
  exact ⟨by rw [SH_setI, SH_setI, SH_setI]; exact h1, by rw [TX_6, TX_5, TX_4]; exact h2, ⟨e, he, by rw [fi_nk (by decide), fi_nk (by decide), fi_eq]⟩, by rw [fi_nk (by decide), fi_eq], hk, hk3, fi_eq _ _ _ _⟩
/-- what a reading method does to the memory: all but the places stay -/
def psF (M M' : MM) : Prop := ∃ a fl fp, M' = setI (setI (setI M 53 4 a) 53 5 fl) 53 6 fp
theorem psF.rf (M : MM) : psF M M := ⟨fi M 53 4, fi M 53 5, fi M 53 6, by rw [setI_self, setI_self, setI_self]⟩
theorem psF.at {M : MM} {x : Int32} : psF M (setI M 53 4 x) := ⟨x, fi M 53 5, fi M 53 6, by
  have e1 : fi M 53 5 = fi (setI M 53 4 x) 53 5 := (fi_nk (by decide)).symm
  have e2 : fi M 53 6 = fi (setI M 53 4 x) 53 6 := (fi_nk (by decide)).symm
  rw [e1, setI_self, e2, setI_self]⟩
theorem psF.U {M : MM} {a : Nat} {fl fp : Int32} : psF M (psU M a fl fp) := ⟨_, _, _, rfl⟩
theorem psF.tr {M M' M'' : MM} (h : psF M M') (g : psF M' M'') : psF M M'' := by
  obtain ⟨a, fl, fp, rfl⟩ := h
  obtain ⟨b, gl, gp, rfl⟩ := g
  refine ⟨b, gl, gp, ?_⟩
  rw [setI_comm (M := setI (setI M 53 4 a) 53 5 fl) (a := 53) (k := 6) (b := 53) (j := 4) (by decide), setI_comm (M := setI M 53 4 a) (a := 53) (k := 5) (b := 53) (j := 4) (by decide), setI_setI]
  rw [setI_comm (M := setI (setI M 53 4 b) 53 5 fl) (a := 53) (k := 6) (b := 53) (j := 5) (by decide), setI_setI, setI_setI]
/-- a number, in both ways -/
theorem r_num {d a len lo hi : Nat} {M : MM} {tx : Nat → Nat} (hR : MR M tx len a) (hd : 14 ≤ d) (hlo : lo ≤ 1) (hhi : hi < 1000) :
    (∀ v e, pNum tx len lo hi a = .inr (v, e) → evC d 168 [.ref 53, .int (nI lo), .int (nI hi)] (toH M) = some (.inl (some (.int (nI v))), toH (setI M 53 4 (nI e)))) ∧
    (∀ k p, pNum tx len lo hi a = .inl (k, p) → ∃ e, e ≤ len ∧ evC d 168 [.ref 53, .int (nI lo), .int (nI hi)] (toH M) = some (.inl (some (.int (nI 0))), toH (psU M e (nI k) (nI p)))) := by
  obtain ⟨h1, h2, h3, h4, h5⟩ := hR
  constructor
  · intro v e h
    unfold pNum at h
    split at h
    · rename_i g1
      split at h
      · rename_i g2
        cases h
        exact m_number_t h1 h2 hd h3 h4 h5 hhi g1 g2
      · cases h
    · cases h
  · intro k p h
    unfold pNum at h
    split at h
    · rename_i g1
      split at h
      · cases h
      · rename_i g2
        cases h
        exact ⟨_, sp_le (sp_le h4), m_number_2 h1 h2 hd h3 h4 h5 hlo hhi g1 g2⟩
    · rename_i g1
      cases h
      exact ⟨_, sp_le h4, m_number_1 h1 h2 hd h3 h4 h5 g1⟩
/-- as r_num, where nothing is known of the highest: the range is empty or small -/
theorem r_sgn {d a len c : Nat} {M : MM} {tx : Nat → Nat} (hR : MR M tx len a) (hd : 14 ≤ d) (hc : c < 256) :
    (∀ u e, pSgn tx len c a = .inr (u, e) → evC d 174 [.ref 53, .int (nI c)] (toH M) = some (.inl none, toH (setI M 53 4 (nI e)))) ∧
    (∀ k p, pSgn tx len c a = .inl (k, p) → ∃ e, e ≤ len ∧ evC d 174 [.ref 53, .int (nI c)] (toH M) = some (.inl none, toH (psU M e (nI k) (nI p)))) := by
  obtain ⟨h1, h2, h3, h4, h5⟩ := hR
  constructor
  · intro u e h
    unfold pSgn at h
    split at h
    · rename_i g1
      cases h
      exact m_sign_t h1 h2 hd h3 h4 h5 hc g1
    · cases h
  · intro k p h
    unfold pSgn at h
    split at h
    · cases h
    · rename_i g1
      cases h
      exact ⟨_, sp_le h4, m_sign_f h1 h2 hd h3 h4 h5 hc g1⟩
theorem r_bl {d a len : Nat} {M : MM} {tx : Nat → Nat} (hR : MR M tx len a) (hd : 12 ≤ d) : evC d 164 [.ref 53] (toH M) = some (.inl none, toH (setI M 53 4 (nI (sp (blP tx) len a)))) := m_blanks hR.1 hR.2.1 hd hR.2.2.1 hR.2.2.2.1
theorem r_blF {d len k p : Nat} {M : MM} {tx : Nat → Nat} (hF : MF M tx len k p) (hd : 12 ≤ d) : ∃ e, e ≤ len ∧ evC d 164 [.ref 53] (toH M) = some (.inl none, toH (setI M 53 4 (nI e))) := by
  obtain ⟨h1, h2, ⟨a, h3, h4⟩, _⟩ := hF
  exact ⟨_, sp_le h3, m_blanks h1 h2 hd h4 h3⟩
theorem MF.at {M : MM} {tx : Nat → Nat} {len k p e : Nat} (h : MF M tx len k p) (he : e ≤ len) : MF (setI M 53 4 (nI e)) tx len k p := by
  obtain ⟨h1, h2, h3, h4, h5, h6, h7⟩ := h
  exact ⟨by rw [SH_setI]; exact h1, by rw [TX_4]; exact h2, ⟨e, he, fi_eq _ _ _ _⟩, by rw [fi_nk (by decide)]; exact h4, h5, h6, by rw [fi_nk (by decide)]; exact h7⟩
/-! starts, ends, feed -/
def stM (M : MM) (n : Nat) (a : Nat) : MM := setI (setI (setI (setI (setI (setI (setI M 53 1 (nI 0)) 53 2 (nI n)) 53 4 (nI a)) 53 5 (nI 0)) 53 6 (-1)) 53 7 (nI 0)) 53 8 (nI 0)
theorem m_ends {d : Nat} {M : MM} (hS : SH M) (hd : 9 ≤ d) : evC d 177 [.ref 53] (toH M) = some (.inl (some (.int (fi M 53 5 - nI 10))), toH (setI M 53 3 (fi M 53 6))) := by
  rw [E_X10_ends hd]
  simp (disch := first | assumption | (simp (disch := first | assumption | omega) only [sh_setI', ln_setI', fr_setI', ai_setI', al_setI', aq_setI', nx_setI', sl_setI', sL_setI', sX_setI', cl_setI', sh_setR', ln_setR', fi_setR', ai_setR', al_setR', aq_setR', nx_setR', sl_setR', sL_setR', sX_setR', cl_setR', sh_setA', ln_setA', fi_setA', fr_setA', al_setA', aq_setA', nx_setA', sl_setA', sL_setA', sX_setA', cl_setA', sh_setL', ln_setL', fi_setL', fr_setL', ai_setL', aq_setL', nx_setL', sl_setL', sL_setL', sX_setL', cl_setL', sh_setQ', ln_setQ', fi_setQ', fr_setQ', ai_setQ', al_setQ', nx_setQ', sl_setQ', sL_setQ', sX_setQ', cl_setQ', ai_eq, ai_ne, al_eq, al_ne, aq_eq, aq_ne, fi_eq, fi_nk, fi_na, fr_eq, fr_nk, fr_na, up_eq, up_ne, SH_setI', SH_setA', SH_setL', TX_4, TX_5, TX_6, TX_8, List.length_cons, List.length_nil, C_53, C_54, C_55, C_56, C_57, C_58, C_59, C_60, C_77, C_94, C_255, C_416, C_427, C_438, C_439, C_440, C_521, C_522, C_523, C_540, C_544, C_545, C_546, C_547, N_54, N_55, N_56, N_57, N_58, N_59, N_60, N_77, N_94, N_255, N_416, N_427, N_438, N_439, N_440, N_521, N_522, N_523, N_540, N_544, N_545, N_546, N_547, F_53_9, F_53_10, F_53_11, F_53_12, F_53_13, F_53_14, F_53_15, F_53_16, F_53_19, F_53_20, F_53_21, F_53_22, F_53_23, F_53_24, F_53_25, F_53_27, F_53_28, F_53_29, F_53_30, F_53_41, F_53_42, F_53_43, Q_60, QC_60, QN_60, Q_77, QC_77, QN_77, Q_94, QC_94, QN_94, Q_255, QC_255, QN_255, Q_416, QC_416, QN_416, Q_427, QC_427, QN_427, Q_440, QC_440, QN_440, Q_523, QC_523, QN_523, Q_540, QC_540, QN_540] <;> first | omega | assumption) | omega) only [Ev, ev_sqb, t_X10_ends, x_aload_n0, y_aload_n0, x_gf_9_6, y_gf_9_6, x_pf_9_3, y_pf_9_3, x_gf_9_5, y_gf_9_5, x_bipush_10, y_bipush_10, x_isub, y_isub, y_iret, ev_bk, sq0, sq1, sq2, bk0, bk1, bk2, sq_if, bk_if, rt_if, cr_if, cr0, cr1, crE, rt1, rtE, va_rf_s, va_rf_n, nI_add, nI_ltI, nI_eq, nI_eq0, nI_lt0, nI_0lt, nI_n1, n1_nI, n1_lt, lt_n1, n1_0, n1_n1, n1_l0, if_true, if_false, ite_true, ite_false, bI_0, bI_1, not_true_eq_false, not_false_eq_true, Ew_i, Er_i, Lq_c, Lq_j, Lq_n, Nat.reduceAdd, Nat.zero_add, Nat.add_zero, Nat.lt_irrefl, Bool.false_eq_true, Nat.reduceEqDiff, Nat.reduceLT, Nat.reduceSub, Nat.reduceMul, Nat.one_ne_zero, C_53, C_54, C_55, C_56, C_57, C_58, C_59, C_60, C_77, C_94, C_255, C_416, C_427, C_438, C_439, C_440, C_521, C_522, C_523, C_540, C_544, C_545, C_546, C_547, N_54, N_55, N_56, N_57, N_58, N_59, N_60, N_77, N_94, N_255, N_416, N_427, N_438, N_439, N_440, N_521, N_522, N_523, N_540, N_544, N_545, N_546, N_547, F_53_9, F_53_10, F_53_11, F_53_12, F_53_13, F_53_14, F_53_15, F_53_16, F_53_19, F_53_20, F_53_21, F_53_22, F_53_23, F_53_24, F_53_25, F_53_27, F_53_28, F_53_29, F_53_30, F_53_41, F_53_42, F_53_43, Q_60, QC_60, QN_60, Q_77, QC_77, QN_77, Q_94, QC_94, QN_94, Q_255, QC_255, QN_255, Q_416, QC_416, QN_416, Q_427, QC_427, QN_427, Q_440, QC_440, QN_440, Q_523, QC_523, QN_523, Q_540, QC_540, QN_540, sh_setI', ln_setI', fr_setI', ai_setI', al_setI', aq_setI', nx_setI', sl_setI', sL_setI', sX_setI', cl_setI', sh_setR', ln_setR', fi_setR', ai_setR', al_setR', aq_setR', nx_setR', sl_setR', sL_setR', sX_setR', cl_setR', sh_setA', ln_setA', fi_setA', fr_setA', al_setA', aq_setA', nx_setA', sl_setA', sL_setA', sX_setA', cl_setA', sh_setL', ln_setL', fi_setL', fr_setL', ai_setL', aq_setL', nx_setL', sl_setL', sL_setL', sX_setL', cl_setL', sh_setQ', ln_setQ', fi_setQ', fr_setQ', ai_setQ', al_setQ', nx_setQ', sl_setQ', sL_setQ', sX_setQ', cl_setQ', ai_eq, ai_ne, al_eq, al_ne, aq_eq, aq_ne, fi_eq, fi_nk, fi_na, fr_eq, fr_nk, fr_na, up_eq, up_ne]
