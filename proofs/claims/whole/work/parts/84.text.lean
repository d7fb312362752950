/-! ===== texts: bytes, blanks, numbers, words ===== -/
/-- on from a, as long as P holds within the text -/
noncomputable def spn (P : Nat → Prop) (len : Nat) : Nat → Nat → Nat
  | 0, a => a
  | f + 1, a => @ite _ (a < len ∧ P a) (Classical.propDecidable _) (spn P len f (a + 1)) a
noncomputable def sp (P : Nat → Prop) (len a : Nat) : Nat := spn P len len a
theorem spn_spec {P : Nat → Prop} {len : Nat} : ∀ (f a : Nat), len ≤ a + f → a ≤ spn P len f a ∧ (∀ j, a ≤ j → j < spn P len f a → j < len ∧ P j) ∧ ¬ (spn P len f a < len ∧ P (spn P len f a))
  | 0, a, h => ⟨Nat.le_refl a, fun j h1 h2 => by have h2 : j < a := h2; omega, fun z => by have h2 : a < len := z.1; omega⟩
  | f + 1, a, h => by
    by_cases hc : a < len ∧ P a
    · have e : spn P len (f + 1) a = spn P len f (a + 1) := if_pos hc
      obtain ⟨h1, h2, h3⟩ := spn_spec (P := P) (len := len) f (a + 1) (by omega)
      rw [e]
      refine ⟨by omega, fun j hj1 hj2 => ?_, h3⟩
      by_cases ej : j = a
      · rw [ej]; exact hc
      · exact h2 j (by omega) hj2
    · have e : spn P len (f + 1) a = a := if_neg hc
      rw [e]
      exact ⟨Nat.le_refl a, fun j h1 h2 => by omega, hc⟩
theorem sp_ge {P : Nat → Prop} {len : Nat} (a : Nat) : a ≤ sp P len a := (spn_spec len a (by omega)).1
theorem sp_in {P : Nat → Prop} {len a j : Nat} (h1 : a ≤ j) (h2 : j < sp P len a) : j < len ∧ P j := (spn_spec len a (by omega)).2.1 j h1 h2
theorem sp_end {P : Nat → Prop} {len a : Nat} : ¬ (sp P len a < len ∧ P (sp P len a)) := (spn_spec len a (by omega)).2.2
theorem sp_le {P : Nat → Prop} {len a : Nat} (h : a ≤ len) : sp P len a ≤ len := by
  rcases Nat.lt_or_ge len (sp P len a) with q | q
  · have := (sp_in (P := P) (len := len) (a := a) (j := len) h q).1; omega
  · exact q
theorem sp_uniq {P : Nat → Prop} {len a e : Nat} (h1 : a ≤ e) (h2 : ∀ j, a ≤ j → j < e → j < len ∧ P j) (h3 : ¬ (e < len ∧ P e)) : sp P len a = e := by
  rcases Nat.lt_trichotomy (sp P len a) e with q | q | q
  · exact absurd (h2 _ (sp_ge a) q) sp_end
  · exact q
  · exact absurd (sp_in h1 q) h3
theorem sp_fix {P : Nat → Prop} {len a : Nat} (h : ¬ (a < len ∧ P a)) : sp P len a = a := sp_uniq (Nat.le_refl a) (fun j h1 h2 => by omega) h
theorem sp_S {P : Nat → Prop} {len a : Nat} (h : a < len ∧ P a) : sp P len a = sp P len (a + 1) := sp_uniq (by have := sp_ge (P := P) (len := len) (a + 1); omega) (fun j h1 h2 => by
  by_cases e : j = a
  · rw [e]; exact h
  · exact sp_in (by omega) h2) sp_end
def blP (tx : Nat → Nat) : Nat → Prop := fun j => tx j = 32
def dgP (tx : Nat → Nat) : Nat → Prop := fun j => 48 ≤ tx j ∧ tx j ≤ 57
def ltP (tx : Nat → Nat) : Nat → Prop := fun j => 97 ≤ tx j ∧ tx j ≤ 122
/-- the number that stands from a on, k digits -/
def dgV (tx : Nat → Nat) (a : Nat) : Nat → Nat
  | 0 => 0
  | k + 1 => 10 * dgV tx a k + (tx (a + k) - 48)
/-- letters as digits from 1 to 26 -/
def wdV (tx : Nat → Nat) (a : Nat) : Nat → Nat
  | 0 => 0
  | k + 1 => 27 * wdV tx a k + (tx (a + k) - 96)
def cdV : List Nat → Nat := List.foldl (fun v d => 27 * v + d) 0
theorem cdV_app (l : List Nat) (d : Nat) : cdV (l ++ [d]) = 27 * cdV l + d := by unfold cdV; rw [List.foldl_append]; rfl
/-- a word stands at a, just so -/
def isW (tx : Nat → Nat) (len a : Nat) (w : List Nat) : Prop := sp (ltP tx) len a = a + w.length ∧ ∀ i, i < w.length → tx (a + i) = 96 + w.getD i 0
theorem wd_cd {tx : Nat → Nat} {a : Nat} : ∀ (k : Nat) (w : List Nat), (∀ d ∈ w, 1 ≤ d ∧ d ≤ 26) → (∀ i, i < k → 97 ≤ tx (a + i) ∧ tx (a + i) ≤ 122) → (wdV tx a k = cdV w ↔ w.length = k ∧ ∀ i, i < k → tx (a + i) = 96 + w.getD i 0)
  | 0, w, hw, ht => by
    constructor
    · intro h
      have h : 0 = cdV w := h
      have : w = [] := by
        rcases List.eq_nil_or_concat w with e | ⟨l, d, e⟩
        · exact e
        · rw [List.concat_eq_append] at e
          subst e
          rw [cdV_app] at h
          have := (hw d (List.mem_append.mpr (Or.inr List.mem_cons_self))).1
          omega
      subst this
      exact ⟨rfl, fun i hi => absurd hi (Nat.not_lt_zero i)⟩
    · rintro ⟨h1, -⟩
      rw [List.length_eq_zero_iff.mp h1]; rfl
  | k + 1, w, hw, ht => by
    have hk := ht k (by omega)
    rcases List.eq_nil_or_concat w with e | ⟨l, d, e⟩
    · subst e
      constructor
      · intro h
        have h : 27 * wdV tx a k + (tx (a + k) - 96) = 0 := h
        omega
      · rintro ⟨h1, -⟩; cases h1
    · rw [List.concat_eq_append] at e
      subst e
      have hd := hw d (List.mem_append.mpr (Or.inr List.mem_cons_self))
      have ih := wd_cd (tx := tx) (a := a) k l (fun x hx => hw x (List.mem_append.mpr (Or.inl hx))) (fun i hi => ht i (by omega))
      rw [cdV_app]
      show 27 * wdV tx a k + (tx (a + k) - 96) = 27 * cdV l + d ↔ _
      rw [List.length_append]
      constructor
      · intro h
        have h1 : wdV tx a k = cdV l := by omega
        have h2 : tx (a + k) - 96 = d := by omega
        obtain ⟨g1, g2⟩ := ih.mp h1
        refine ⟨by show l.length + 1 = k + 1; omega, fun i hi => ?_⟩
        by_cases ei : i = k
        · subst ei
          rw [← g1, getD_app]
          have := g1 ▸ hk
          have := g1 ▸ h2
          omega
        · rw [getD_pre (by omega)]; exact g2 i (by omega)
      · rintro ⟨g1, g2⟩
        have g1 : l.length + 1 = k + 1 := g1
        have g3 : l.length = k := by omega
        have h1 := ih.mpr ⟨g3, fun i hi => by have := g2 i (by omega); rwa [getD_pre (by omega)] at this⟩
        have h2 := g2 k (by omega)
        rw [← g3, getD_app] at h2
        rw [h1, ← g3]
        omega
/-- the reference's text: its bytes, its length -/
def TXt (M : MM) (tx : Nat → Nat) (len : Nat) : Prop := fi M 53 2 = nI len ∧ len ≤ 600 ∧ ∀ i, i < 600 → ai M 54 i = nI (tx i) ∧ tx i < 256
noncomputable def chI (tx : Nat → Nat) (len k : Nat) : Int32 := if len ≤ k then -1 else nI (tx k)
theorem m_byteAt {d k len : Nat} {M : MM} {tx : Nat → Nat} (hS : SH M) (hT : TXt M tx len) (hd : 9 ≤ d) (hk : k < 100000) : evC d 163 [.ref 53, .int (nI k)] (toH M) = some (.inl (some (.int (chI tx len k))), toH M) := by
  obtain ⟨h1, h2, h3⟩ := hT
  rw [E_X10_byteAt hd]
  unfold chI
  by_cases h : k < len
  · rw [if_neg (by omega)]
    simp (disch := first | assumption | (simp (disch := first | assumption | omega) only [sh_setI', ln_setI', fr_setI', ai_setI', al_setI', aq_setI', nx_setI', sl_setI', sL_setI', sX_setI', cl_setI', sh_setR', ln_setR', fi_setR', ai_setR', al_setR', aq_setR', nx_setR', sl_setR', sL_setR', sX_setR', cl_setR', sh_setA', ln_setA', fi_setA', fr_setA', al_setA', aq_setA', nx_setA', sl_setA', sL_setA', sX_setA', cl_setA', sh_setL', ln_setL', fi_setL', fr_setL', ai_setL', aq_setL', nx_setL', sl_setL', sL_setL', sX_setL', cl_setL', sh_setQ', ln_setQ', fi_setQ', fr_setQ', ai_setQ', al_setQ', nx_setQ', sl_setQ', sL_setQ', sX_setQ', cl_setQ', ai_eq, ai_ne, al_eq, al_ne, aq_eq, aq_ne, fi_eq, fi_nk, fi_na, fr_eq, fr_nk, fr_na, up_eq, up_ne, SH_setI', SH_setA', SH_setL', List.length_cons, List.length_nil, C_53, C_54, C_55, C_56, C_57, C_58, C_59, C_60, C_77, C_94, C_255, C_416, C_427, C_438, C_439, C_440, C_521, C_522, C_523, C_540, C_544, C_545, C_546, C_547, N_54, N_55, N_56, N_57, N_58, N_59, N_60, N_77, N_94, N_255, N_416, N_427, N_438, N_439, N_440, N_521, N_522, N_523, N_540, N_544, N_545, N_546, N_547, F_53_9, F_53_10, F_53_11, F_53_12, F_53_13, F_53_14, F_53_15, F_53_16, F_53_19, F_53_20, F_53_21, F_53_22, F_53_23, F_53_24, F_53_25, F_53_27, F_53_28, F_53_29, F_53_30, F_53_41, F_53_42, F_53_43, Q_60, QC_60, QN_60, Q_77, QC_77, QN_77, Q_94, QC_94, QN_94, Q_255, QC_255, QN_255, Q_416, QC_416, QN_416, Q_427, QC_427, QN_427, Q_440, QC_440, QN_440, Q_523, QC_523, QN_523, Q_540, QC_540, QN_540] <;> first | omega | assumption) | omega) only [Ev, ev_sqb, t_X10_byteAt_k18, y_iret, t_X10_byteAt, x_iload_n1, y_iload_n1, x_aload_n0, y_aload_n0, x_gf_9_2, y_gf_9_2, x_if_icmp_lt, y_if_icmp_lt, x_iconst_m1, y_iconst_m1, x_goto, y_goto, x_gf_9_9, y_gf_9_9, x_iaload, y_iaload, x_iaload_s, y_iaload_s, ev_bk, sq0, sq1, sq2, bk0, bk1, bk2, sq_if, bk_if, rt_if, cr_if, cr0, cr1, crE, rt1, rtE, va_rf_s, va_rf_n, nI_add, nI_ltI, nI_eq, nI_eq0, nI_lt0, nI_0lt, nI_n1, n1_nI, n1_lt, lt_n1, n1_0, n1_n1, n1_l0, if_true, if_false, ite_true, ite_false, bI_0, bI_1, not_true_eq_false, not_false_eq_true, Ew_i, Er_i, Lq_c, Lq_j, Lq_n, Nat.reduceAdd, Nat.zero_add, Nat.add_zero, Nat.lt_irrefl, Bool.false_eq_true, Nat.reduceEqDiff, Nat.reduceLT, Nat.reduceSub, Nat.reduceMul, Nat.one_ne_zero, C_53, C_54, C_55, C_56, C_57, C_58, C_59, C_60, C_77, C_94, C_255, C_416, C_427, C_438, C_439, C_440, C_521, C_522, C_523, C_540, C_544, C_545, C_546, C_547, N_54, N_55, N_56, N_57, N_58, N_59, N_60, N_77, N_94, N_255, N_416, N_427, N_438, N_439, N_440, N_521, N_522, N_523, N_540, N_544, N_545, N_546, N_547, F_53_9, F_53_10, F_53_11, F_53_12, F_53_13, F_53_14, F_53_15, F_53_16, F_53_19, F_53_20, F_53_21, F_53_22, F_53_23, F_53_24, F_53_25, F_53_27, F_53_28, F_53_29, F_53_30, F_53_41, F_53_42, F_53_43, Q_60, QC_60, QN_60, Q_77, QC_77, QN_77, Q_94, QC_94, QN_94, Q_255, QC_255, QN_255, Q_416, QC_416, QN_416, Q_427, QC_427, QN_427, Q_440, QC_440, QN_440, Q_523, QC_523, QN_523, Q_540, QC_540, QN_540, sh_setI', ln_setI', fr_setI', ai_setI', al_setI', aq_setI', nx_setI', sl_setI', sL_setI', sX_setI', cl_setI', sh_setR', ln_setR', fi_setR', ai_setR', al_setR', aq_setR', nx_setR', sl_setR', sL_setR', sX_setR', cl_setR', sh_setA', ln_setA', fi_setA', fr_setA', al_setA', aq_setA', nx_setA', sl_setA', sL_setA', sX_setA', cl_setA', sh_setL', ln_setL', fi_setL', fr_setL', ai_setL', aq_setL', nx_setL', sl_setL', sL_setL', sX_setL', cl_setL', sh_setQ', ln_setQ', fi_setQ', fr_setQ', ai_setQ', al_setQ', nx_setQ', sl_setQ', sL_setQ', sX_setQ', cl_setQ', ai_eq, ai_ne, al_eq, al_ne, aq_eq, aq_ne, fi_eq, fi_nk, fi_na, fr_eq, fr_nk, fr_na, up_eq, up_ne, h1, h, (h3 k (by omega)).1]
  · rw [if_pos (by omega)]
    simp (disch := first | assumption | (simp (disch := first | assumption | omega) only [sh_setI', ln_setI', fr_setI', ai_setI', al_setI', aq_setI', nx_setI', sl_setI', sL_setI', sX_setI', cl_setI', sh_setR', ln_setR', fi_setR', ai_setR', al_setR', aq_setR', nx_setR', sl_setR', sL_setR', sX_setR', cl_setR', sh_setA', ln_setA', fi_setA', fr_setA', al_setA', aq_setA', nx_setA', sl_setA', sL_setA', sX_setA', cl_setA', sh_setL', ln_setL', fi_setL', fr_setL', ai_setL', aq_setL', nx_setL', sl_setL', sL_setL', sX_setL', cl_setL', sh_setQ', ln_setQ', fi_setQ', fr_setQ', ai_setQ', al_setQ', nx_setQ', sl_setQ', sL_setQ', sX_setQ', cl_setQ', ai_eq, ai_ne, al_eq, al_ne, aq_eq, aq_ne, fi_eq, fi_nk, fi_na, fr_eq, fr_nk, fr_na, up_eq, up_ne, SH_setI', SH_setA', SH_setL', List.length_cons, List.length_nil, C_53, C_54, C_55, C_56, C_57, C_58, C_59, C_60, C_77, C_94, C_255, C_416, C_427, C_438, C_439, C_440, C_521, C_522, C_523, C_540, C_544, C_545, C_546, C_547, N_54, N_55, N_56, N_57, N_58, N_59, N_60, N_77, N_94, N_255, N_416, N_427, N_438, N_439, N_440, N_521, N_522, N_523, N_540, N_544, N_545, N_546, N_547, F_53_9, F_53_10, F_53_11, F_53_12, F_53_13, F_53_14, F_53_15, F_53_16, F_53_19, F_53_20, F_53_21, F_53_22, F_53_23, F_53_24, F_53_25, F_53_27, F_53_28, F_53_29, F_53_30, F_53_41, F_53_42, F_53_43, Q_60, QC_60, QN_60, Q_77, QC_77, QN_77, Q_94, QC_94, QN_94, Q_255, QC_255, QN_255, Q_416, QC_416, QN_416, Q_427, QC_427, QN_427, Q_440, QC_440, QN_440, Q_523, QC_523, QN_523, Q_540, QC_540, QN_540] <;> first | omega | assumption) | omega) only [Ev, ev_sqb, t_X10_byteAt_k18, y_iret, t_X10_byteAt, x_iload_n1, y_iload_n1, x_aload_n0, y_aload_n0, x_gf_9_2, y_gf_9_2, x_if_icmp_lt, y_if_icmp_lt, x_iconst_m1, y_iconst_m1, x_goto, y_goto, x_gf_9_9, y_gf_9_9, x_iaload, y_iaload, x_iaload_s, y_iaload_s, ev_bk, sq0, sq1, sq2, bk0, bk1, bk2, sq_if, bk_if, rt_if, cr_if, cr0, cr1, crE, rt1, rtE, va_rf_s, va_rf_n, nI_add, nI_ltI, nI_eq, nI_eq0, nI_lt0, nI_0lt, nI_n1, n1_nI, n1_lt, lt_n1, n1_0, n1_n1, n1_l0, if_true, if_false, ite_true, ite_false, bI_0, bI_1, not_true_eq_false, not_false_eq_true, Ew_i, Er_i, Lq_c, Lq_j, Lq_n, Nat.reduceAdd, Nat.zero_add, Nat.add_zero, Nat.lt_irrefl, Bool.false_eq_true, Nat.reduceEqDiff, Nat.reduceLT, Nat.reduceSub, Nat.reduceMul, Nat.one_ne_zero, C_53, C_54, C_55, C_56, C_57, C_58, C_59, C_60, C_77, C_94, C_255, C_416, C_427, C_438, C_439, C_440, C_521, C_522, C_523, C_540, C_544, C_545, C_546, C_547, N_54, N_55, N_56, N_57, N_58, N_59, N_60, N_77, N_94, N_255, N_416, N_427, N_438, N_439, N_440, N_521, N_522, N_523, N_540, N_544, N_545, N_546, N_547, F_53_9, F_53_10, F_53_11, F_53_12, F_53_13, F_53_14, F_53_15, F_53_16, F_53_19, F_53_20, F_53_21, F_53_22, F_53_23, F_53_24, F_53_25, F_53_27, F_53_28, F_53_29, F_53_30, F_53_41, F_53_42, F_53_43, Q_60, QC_60, QN_60, Q_77, QC_77, QN_77, Q_94, QC_94, QN_94, Q_255, QC_255, QN_255, Q_416, QC_416, QN_416, Q_427, QC_427, QN_427, Q_440, QC_440, QN_440, Q_523, QC_523, QN_523, Q_540, QC_540, QN_540, sh_setI', ln_setI', fr_setI', ai_setI', al_setI', aq_setI', nx_setI', sl_setI', sL_setI', sX_setI', cl_setI', sh_setR', ln_setR', fi_setR', ai_setR', al_setR', aq_setR', nx_setR', sl_setR', sL_setR', sX_setR', cl_setR', sh_setA', ln_setA', fi_setA', fr_setA', al_setA', aq_setA', nx_setA', sl_setA', sL_setA', sX_setA', cl_setA', sh_setL', ln_setL', fi_setL', fr_setL', ai_setL', aq_setL', nx_setL', sl_setL', sL_setL', sX_setL', cl_setL', sh_setQ', ln_setQ', fi_setQ', fr_setQ', ai_setQ', al_setQ', nx_setQ', sl_setQ', sL_setQ', sX_setQ', cl_setQ', ai_eq, ai_ne, al_eq, al_ne, aq_eq, aq_ne, fi_eq, fi_nk, fi_na, fr_eq, fr_nk, fr_na, up_eq, up_ne, h1, h]
theorem ch_eq {tx : Nat → Nat} {len k c : Nat} (hx : ∀ i, i < 600 → tx i < 256) (hl : len ≤ 600) (hc : c < 256) : chI tx len k = nI c ↔ k < len ∧ tx k = c := by
  unfold chI
  by_cases h : len ≤ k
  · rw [if_pos h]
    exact ⟨fun z => ((n1_nI (by omega)).mp z).elim, fun z => by omega⟩
  · have := hx k (by omega)
    rw [if_neg h, nI_eq (by omega) (by omega)]
    exact ⟨fun z => ⟨by omega, z⟩, fun z => z.2⟩
theorem ch_in {tx : Nat → Nat} {len k lo hi : Nat} (hx : ∀ i, i < 600 → tx i < 256) (hl : len ≤ 600) (h1 : lo < 256) (h2 : hi < 256) : (¬ chI tx len k < nI lo ∧ ¬ nI hi < chI tx len k) ↔ k < len ∧ lo ≤ tx k ∧ tx k ≤ hi := by
  unfold chI
  by_cases h : len ≤ k
  · rw [if_pos h]
    exact ⟨fun z => absurd ((n1_lt (a := lo) (by omega)).mpr trivial) z.1, fun z => by omega⟩
  · have := hx k (by omega)
    rw [if_neg h, nI_ltI (by omega) (by omega), nI_ltI (by omega) (by omega)]
    omega
theorem m_isDigit {d : Nat} {c : Int32} {h : AH} (hd : 9 ≤ d) : evC d 166 [.int c] h = some (.inl (some (.int (bI (¬ c < nI 48 ∧ ¬ nI 57 < c)))), h) := by
  rw [E_X10_isDigit hd]
  by_cases h1 : c < nI 48
  · rw [bI_f (fun z => z.1 h1)]
    simp (disch := first | assumption | (simp only [List.length_cons, List.length_nil] <;> omega) | omega) only [Ev, ev_sqb, t_X10_isDigit_k16, x_iconst_0, y_iconst_0, t_X10_isDigit_k17, y_b0, y_b1, y_bb, t_X10_isDigit, x_iload_n0, y_iload_n0, x_bipush_48, y_bipush_48, x_if_icmp_lt, y_if_icmp_lt, x_bipush_57, y_bipush_57, x_if_icmp_gt, y_if_icmp_gt, x_iconst_1, y_iconst_1, x_goto, y_goto, ev_bk, sq0, sq1, sq2, bk0, bk1, bk2, sq_if, bk_if, rt_if, cr_if, cr0, cr1, crE, rt1, rtE, va_rf_s, va_rf_n, nI_add, nI_ltI, nI_eq, nI_eq0, nI_lt0, nI_0lt, nI_n1, n1_nI, n1_lt, lt_n1, n1_0, n1_n1, n1_l0, if_true, if_false, ite_true, ite_false, bI_0, bI_1, not_true_eq_false, not_false_eq_true, Ew_i, Er_i, Lq_c, Lq_j, Lq_n, Nat.reduceAdd, Nat.zero_add, Nat.add_zero, Nat.lt_irrefl, Bool.false_eq_true, Nat.reduceEqDiff, Nat.reduceLT, Nat.reduceSub, Nat.reduceMul, Nat.one_ne_zero, sh_setI', ln_setI', fr_setI', ai_setI', al_setI', aq_setI', nx_setI', sl_setI', sL_setI', sX_setI', cl_setI', sh_setR', ln_setR', fi_setR', ai_setR', al_setR', aq_setR', nx_setR', sl_setR', sL_setR', sX_setR', cl_setR', sh_setA', ln_setA', fi_setA', fr_setA', al_setA', aq_setA', nx_setA', sl_setA', sL_setA', sX_setA', cl_setA', sh_setL', ln_setL', fi_setL', fr_setL', ai_setL', aq_setL', nx_setL', sl_setL', sL_setL', sX_setL', cl_setL', sh_setQ', ln_setQ', fi_setQ', fr_setQ', ai_setQ', al_setQ', nx_setQ', sl_setQ', sL_setQ', sX_setQ', cl_setQ', ai_eq, ai_ne, al_eq, al_ne, aq_eq, aq_ne, fi_eq, fi_nk, fi_na, fr_eq, fr_nk, fr_na, up_eq, up_ne, h1]
  · by_cases h2 : nI 57 < c
    · rw [bI_f (fun z => z.2 h2)]
      simp (disch := first | assumption | (simp only [List.length_cons, List.length_nil] <;> omega) | omega) only [Ev, ev_sqb, t_X10_isDigit_k16, x_iconst_0, y_iconst_0, t_X10_isDigit_k17, y_b0, y_b1, y_bb, t_X10_isDigit, x_iload_n0, y_iload_n0, x_bipush_48, y_bipush_48, x_if_icmp_lt, y_if_icmp_lt, x_bipush_57, y_bipush_57, x_if_icmp_gt, y_if_icmp_gt, x_iconst_1, y_iconst_1, x_goto, y_goto, ev_bk, sq0, sq1, sq2, bk0, bk1, bk2, sq_if, bk_if, rt_if, cr_if, cr0, cr1, crE, rt1, rtE, va_rf_s, va_rf_n, nI_add, nI_ltI, nI_eq, nI_eq0, nI_lt0, nI_0lt, nI_n1, n1_nI, n1_lt, lt_n1, n1_0, n1_n1, n1_l0, if_true, if_false, ite_true, ite_false, bI_0, bI_1, not_true_eq_false, not_false_eq_true, Ew_i, Er_i, Lq_c, Lq_j, Lq_n, Nat.reduceAdd, Nat.zero_add, Nat.add_zero, Nat.lt_irrefl, Bool.false_eq_true, Nat.reduceEqDiff, Nat.reduceLT, Nat.reduceSub, Nat.reduceMul, Nat.one_ne_zero, sh_setI', ln_setI', fr_setI', ai_setI', al_setI', aq_setI', nx_setI', sl_setI', sL_setI', sX_setI', cl_setI', sh_setR', ln_setR', fi_setR', ai_setR', al_setR', aq_setR', nx_setR', sl_setR', sL_setR', sX_setR', cl_setR', sh_setA', ln_setA', fi_setA', fr_setA', al_setA', aq_setA', nx_setA', sl_setA', sL_setA', sX_setA', cl_setA', sh_setL', ln_setL', fi_setL', fr_setL', ai_setL', aq_setL', nx_setL', sl_setL', sL_setL', sX_setL', cl_setL', sh_setQ', ln_setQ', fi_setQ', fr_setQ', ai_setQ', al_setQ', nx_setQ', sl_setQ', sL_setQ', sX_setQ', cl_setQ', ai_eq, ai_ne, al_eq, al_ne, aq_eq, aq_ne, fi_eq, fi_nk, fi_na, fr_eq, fr_nk, fr_na, up_eq, up_ne, h1, h2]
    · rw [bI_t ⟨h1, h2⟩]
      simp (disch := first | assumption | (simp only [List.length_cons, List.length_nil] <;> omega) | omega) only [Ev, ev_sqb, t_X10_isDigit_k16, x_iconst_0, y_iconst_0, t_X10_isDigit_k17, y_b0, y_b1, y_bb, t_X10_isDigit, x_iload_n0, y_iload_n0, x_bipush_48, y_bipush_48, x_if_icmp_lt, y_if_icmp_lt, x_bipush_57, y_bipush_57, x_if_icmp_gt, y_if_icmp_gt, x_iconst_1, y_iconst_1, x_goto, y_goto, ev_bk, sq0, sq1, sq2, bk0, bk1, bk2, sq_if, bk_if, rt_if, cr_if, cr0, cr1, crE, rt1, rtE, va_rf_s, va_rf_n, nI_add, nI_ltI, nI_eq, nI_eq0, nI_lt0, nI_0lt, nI_n1, n1_nI, n1_lt, lt_n1, n1_0, n1_n1, n1_l0, if_true, if_false, ite_true, ite_false, bI_0, bI_1, not_true_eq_false, not_false_eq_true, Ew_i, Er_i, Lq_c, Lq_j, Lq_n, Nat.reduceAdd, Nat.zero_add, Nat.add_zero, Nat.lt_irrefl, Bool.false_eq_true, Nat.reduceEqDiff, Nat.reduceLT, Nat.reduceSub, Nat.reduceMul, Nat.one_ne_zero, sh_setI', ln_setI', fr_setI', ai_setI', al_setI', aq_setI', nx_setI', sl_setI', sL_setI', sX_setI', cl_setI', sh_setR', ln_setR', fi_setR', ai_setR', al_setR', aq_setR', nx_setR', sl_setR', sL_setR', sX_setR', cl_setR', sh_setA', ln_setA', fi_setA', fr_setA', al_setA', aq_setA', nx_setA', sl_setA', sL_setA', sX_setA', cl_setA', sh_setL', ln_setL', fi_setL', fr_setL', ai_setL', aq_setL', nx_setL', sl_setL', sL_setL', sX_setL', cl_setL', sh_setQ', ln_setQ', fi_setQ', fr_setQ', ai_setQ', al_setQ', nx_setQ', sl_setQ', sL_setQ', sX_setQ', cl_setQ', ai_eq, ai_ne, al_eq, al_ne, aq_eq, aq_ne, fi_eq, fi_nk, fi_na, fr_eq, fr_nk, fr_na, up_eq, up_ne, h1, h2]
theorem m_isSmall {d : Nat} {c : Int32} {h : AH} (hd : 9 ≤ d) : evC d 167 [.int c] h = some (.inl (some (.int (bI (¬ c < nI 97 ∧ ¬ nI 122 < c)))), h) := by
  rw [E_X10_isSmall hd]
  by_cases h1 : c < nI 97
  · rw [bI_f (fun z => z.1 h1)]
    simp (disch := first | assumption | (simp only [List.length_cons, List.length_nil] <;> omega) | omega) only [Ev, ev_sqb, t_X10_isSmall_k16, x_iconst_0, y_iconst_0, t_X10_isSmall_k17, y_b0, y_b1, y_bb, t_X10_isSmall, x_iload_n0, y_iload_n0, x_bipush_97, y_bipush_97, x_if_icmp_lt, y_if_icmp_lt, x_bipush_122, y_bipush_122, x_if_icmp_gt, y_if_icmp_gt, x_iconst_1, y_iconst_1, x_goto, y_goto, ev_bk, sq0, sq1, sq2, bk0, bk1, bk2, sq_if, bk_if, rt_if, cr_if, cr0, cr1, crE, rt1, rtE, va_rf_s, va_rf_n, nI_add, nI_ltI, nI_eq, nI_eq0, nI_lt0, nI_0lt, nI_n1, n1_nI, n1_lt, lt_n1, n1_0, n1_n1, n1_l0, if_true, if_false, ite_true, ite_false, bI_0, bI_1, not_true_eq_false, not_false_eq_true, Ew_i, Er_i, Lq_c, Lq_j, Lq_n, Nat.reduceAdd, Nat.zero_add, Nat.add_zero, Nat.lt_irrefl, Bool.false_eq_true, Nat.reduceEqDiff, Nat.reduceLT, Nat.reduceSub, Nat.reduceMul, Nat.one_ne_zero, sh_setI', ln_setI', fr_setI', ai_setI', al_setI', aq_setI', nx_setI', sl_setI', sL_setI', sX_setI', cl_setI', sh_setR', ln_setR', fi_setR', ai_setR', al_setR', aq_setR', nx_setR', sl_setR', sL_setR', sX_setR', cl_setR', sh_setA', ln_setA', fi_setA', fr_setA', al_setA', aq_setA', nx_setA', sl_setA', sL_setA', sX_setA', cl_setA', sh_setL', ln_setL', fi_setL', fr_setL', ai_setL', aq_setL', nx_setL', sl_setL', sL_setL', sX_setL', cl_setL', sh_setQ', ln_setQ', fi_setQ', fr_setQ', ai_setQ', al_setQ', nx_setQ', sl_setQ', sL_setQ', sX_setQ', cl_setQ', ai_eq, ai_ne, al_eq, al_ne, aq_eq, aq_ne, fi_eq, fi_nk, fi_na, fr_eq, fr_nk, fr_na, up_eq, up_ne, h1]
  · by_cases h2 : nI 122 < c
    · rw [bI_f (fun z => z.2 h2)]
      simp (disch := first | assumption | (simp only [List.length_cons, List.length_nil] <;> omega) | omega) only [Ev, ev_sqb, t_X10_isSmall_k16, x_iconst_0, y_iconst_0, t_X10_isSmall_k17, y_b0, y_b1, y_bb, t_X10_isSmall, x_iload_n0, y_iload_n0, x_bipush_97, y_bipush_97, x_if_icmp_lt, y_if_icmp_lt, x_bipush_122, y_bipush_122, x_if_icmp_gt, y_if_icmp_gt, x_iconst_1, y_iconst_1, x_goto, y_goto, ev_bk, sq0, sq1, sq2, bk0, bk1, bk2, sq_if, bk_if, rt_if, cr_if, cr0, cr1, crE, rt1, rtE, va_rf_s, va_rf_n, nI_add, nI_ltI, nI_eq, nI_eq0, nI_lt0, nI_0lt, nI_n1, n1_nI, n1_lt, lt_n1, n1_0, n1_n1, n1_l0, if_true, if_false, ite_true, ite_false, bI_0, bI_1, not_true_eq_false, not_false_eq_true, Ew_i, Er_i, Lq_c, Lq_j, Lq_n, Nat.reduceAdd, Nat.zero_add, Nat.add_zero, Nat.lt_irrefl, Bool.false_eq_true, Nat.reduceEqDiff, Nat.reduceLT, Nat.reduceSub, Nat.reduceMul, Nat.one_ne_zero, sh_setI', ln_setI', fr_setI', ai_setI', al_setI', aq_setI', nx_setI', sl_setI', sL_setI', sX_setI', cl_setI', sh_setR', ln_setR', fi_setR', ai_setR', al_setR', aq_setR', nx_setR', sl_setR', sL_setR', sX_setR', cl_setR', sh_setA', ln_setA', fi_setA', fr_setA', al_setA', aq_setA', nx_setA', sl_setA', sL_setA', sX_setA', cl_setA', sh_setL', ln_setL', fi_setL', fr_setL', ai_setL', aq_setL', nx_setL', sl_setL', sL_setL', sX_setL', cl_setL', sh_setQ', ln_setQ', fi_setQ', fr_setQ', ai_setQ', al_setQ', nx_setQ', sl_setQ', sL_setQ', sX_setQ', cl_setQ', ai_eq, ai_ne, al_eq, al_ne, aq_eq, aq_ne, fi_eq, fi_nk, fi_na, fr_eq, fr_nk, fr_na, up_eq, up_ne, h1, h2]
    · rw [bI_t ⟨h1, h2⟩]
      simp (disch := first | assumption | (simp only [List.length_cons, List.length_nil] <;> omega) | omega) only [Ev, ev_sqb, t_X10_isSmall_k16, x_iconst_0, y_iconst_0, t_X10_isSmall_k17, y_b0, y_b1, y_bb, t_X10_isSmall, x_iload_n0, y_iload_n0, x_bipush_97, y_bipush_97, x_if_icmp_lt, y_if_icmp_lt, x_bipush_122, y_bipush_122, x_if_icmp_gt, y_if_icmp_gt, x_iconst_1, y_iconst_1, x_goto, y_goto, ev_bk, sq0, sq1, sq2, bk0, bk1, bk2, sq_if, bk_if, rt_if, cr_if, cr0, cr1, crE, rt1, rtE, va_rf_s, va_rf_n, nI_add, nI_ltI, nI_eq, nI_eq0, nI_lt0, nI_0lt, nI_n1, n1_nI, n1_lt, lt_n1, n1_0, n1_n1, n1_l0, if_true, if_false, ite_true, ite_false, bI_0, bI_1, not_true_eq_false, not_false_eq_true, Ew_i, Er_i, Lq_c, Lq_j, Lq_n, Nat.reduceAdd, Nat.zero_add, Nat.add_zero, Nat.lt_irrefl, Bool.false_eq_true, Nat.reduceEqDiff, Nat.reduceLT, Nat.reduceSub, Nat.reduceMul, Nat.one_ne_zero, sh_setI', ln_setI', fr_setI', ai_setI', al_setI', aq_setI', nx_setI', sl_setI', sL_setI', sX_setI', cl_setI', sh_setR', ln_setR', fi_setR', ai_setR', al_setR', aq_setR', nx_setR', sl_setR', sL_setR', sX_setR', cl_setR', sh_setA', ln_setA', fi_setA', fr_setA', al_setA', aq_setA', nx_setA', sl_setA', sL_setA', sX_setA', cl_setA', sh_setL', ln_setL', fi_setL', fr_setL', ai_setL', aq_setL', nx_setL', sl_setL', sL_setL', sX_setL', cl_setL', sh_setQ', ln_setQ', fi_setQ', fr_setQ', ai_setQ', al_setQ', nx_setQ', sl_setQ', sL_setQ', sX_setQ', cl_setQ', ai_eq, ai_ne, al_eq, al_ne, aq_eq, aq_ne, fi_eq, fi_nk, fi_na, fr_eq, fr_nk, fr_na, up_eq, up_ne, h1, h2]
