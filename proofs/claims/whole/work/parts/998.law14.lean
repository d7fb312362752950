/-! ===== law ===== -/
def lawA : Nat → Prop := fun b => 95 ≤ b ∧ b < 416
theorem m_law_t {d n T e : Nat} {M : MM} {tx : Nat → Nat} {l : TK} (hS : SH M) (hd : 60 ≤ d) (hT : fi M 53 1 = nI T) (hT6 : T ≤ 600) (hb : TPb M tx) (hn : n ≤ T) (hn1 : n ≤ 150) (hp : pLaw tx n = .inr (l, e)) : ∃ N, evC d 191 [.ref 53, .int (nI n)] (toH M) = some (.inl (some (.int (nI 1))), toH N) ∧ Frm lawA lawI M N ∧ fi N 53 0 = nI 0 ∧ fi N 53 1 = nI 0 ∧ fi N 53 3 = -1 ∧ LWt N l.1 l.2 ∧ LOK l.2 l.1 := by
  obtain ⟨M0, N0, s1, s2, s3, s4, s5, s6, s7, s8, s9⟩ := law_pre (d := d - 1) hS (by omega) hb (by omega : n ≤ 600)
  have h0 : sp (blP tx) n 0 ≤ n := sp_le (Nat.zero_le _)
  obtain ⟨l1, e1, hq, hq2⟩ := bnd_i hp
  by_cases hlt : sp (blP tx) n e1 < n
  · rw [if_pos hlt] at hq2; cases hq2
  rw [if_neg hlt] at hq2
  cases hq2
  obtain ⟨N, q1, q2, q3, q4, q5, q6, q7⟩ := ((lgr_all hn1 604 0 (by omega) (0, fun _ => (0, 0)) (sp (blP tx) n 0) N0 s4 s6 (Nat.zero_le _) s7).1 (d - 1) (by omega)).1 l e1 hq
  have q4 : l.1 + sp (blP tx) n 0 ≤ 0 + e1 := q4
  have hel := q2.2.2.2.1
  have hbl := r_bl (d := d - 1) q2 (by omega)
  have R2 := q2.at (e := sp (blP tx) n e1) (sp_le hel)
  have W2 : LW (setI N 53 4 (nI (sp (blP tx) n e1))) l := q3.I (by decide)
  have F2 : Frm lwA lwI N0 (setI N 53 4 (nI (sp (blP tx) n e1))) := q7.tr (Frm.I (Or.inl (Or.inl rfl)))
  have SN := q2.1
  generalize setI N 53 4 (nI (sp (blP tx) n e1)) = N2 at *
  obtain ⟨rS, rT, rat, -, rf⟩ := R2
  have rsz := rT.1
  have hN0 : fi N2 53 0 = nI 0 := by rw [F2.2.2.2 53 0 (by rintro ⟨-, z⟩; unfold lwI rdI at z; omega)]; exact s8
  have hN1 : fi N2 53 1 = nI 0 := by rw [F2.2.2.2 53 1 (by rintro ⟨-, z⟩; unfold lwI rdI at z; omega)]; exact s9
  have hm := W2.1
  have hl5 : l.1 ≤ 150 := by omega
  have hly := m_lays (d := d - 1) (fo := 255) (tO := 94) (fb := 256) (tb := 95) (K := 2) (N := 160) (n := l.1) (M := setI (setI N2 53 3 (-1)) 53 17 (nI l.1)) (by omega) (by decide) (by decide) (by omega) (by decide) (C_255 rS) (N_255 rS) (fun i hi => Q_255 rS hi) (fun i hi => QC_255 rS hi) (fun i hi => QN_255 rS hi) (C_94 rS) (N_94 rS) (fun i hi => Q_94 rS hi) (fun i hi => QC_94 rS hi) (fun i hi => QN_94 rS hi)
  rw [ai_setI, ai_setI] at hly
  have hi1 : inR (nI n) 0 (T + 1) := ⟨n, by omega, by omega, rfl⟩
  have hF0 : Frm lawA lawI M N2 := (s5.mono (fun b z => ⟨by have := z.1; omega, z.2⟩) (fun k z => by rcases z with z | z | z | z | z | z; exact Or.inl z; exact Or.inr (Or.inl z); exact Or.inr (Or.inr (Or.inl z)); exact Or.inr (Or.inr (Or.inr (Or.inl z))); exact Or.inr (Or.inr (Or.inr (Or.inr (Or.inl z)))); exact Or.inr (Or.inr (Or.inr (Or.inr (Or.inr (Or.inr z))))))).tr (F2.mono (fun b z => ⟨by have := z.1; omega, z.2⟩) (fun k z => z.elim (fun z => Or.inr (Or.inr (Or.inr (Or.inr (Or.inl z))))) (fun z => Or.inr (Or.inr (Or.inr (Or.inr (Or.inr (Or.inr z))))))))
  have hfin : Frm lawA lawI N2 (setAF (setI (setI N2 53 3 (-1)) 53 17 (nI l.1)) (lyF (ai N2) 256 95 2 l.1 0)) := by
    have h1 : Frm lawA lawI N2 (setI (setI N2 53 3 (-1)) 53 17 (nI l.1)) := (Frm.I (Or.inr (Or.inr (Or.inr (Or.inl rfl))))).tr (Frm.I (Or.inr (Or.inr (Or.inr (Or.inr (Or.inr (Or.inl rfl)))))))
    refine h1.tr ⟨⟨rfl, rfl, rfl, rfl, rfl⟩, ⟨rfl, rfl, rfl, rfl⟩, fun b hb => ?_, fun _ _ _ => rfl⟩
    rw [af_ai, ai_setI, ai_setI]
    unfold lyF
    have q1 : ¬ (95 ≤ b ∧ b < 95 + l.1) := fun z => hb ⟨z.1, by omega⟩
    have q2 : ¬ b = 95 + l.1 := fun z => hb ⟨by omega, by omega⟩
    rw [if_neg q1, if_neg q2]
  have htk := (lw_tok 604 0 0 (0, fun _ => (0, 0)) (sp (blP tx) n 0) 0 h0 ⟨fun k hk => absurd hk (Nat.not_lt_zero k), rfl⟩ l e1 hq).1 (by omega)
  refine ⟨_, ?_, hF0.tr hfin, ?_, ?_, ?_, ⟨?_, fun i hi => ?_⟩, ⟨hl5, htk.1⟩⟩
  · rw [E_X10_law (by omega)]
    have h100 : ¬ 150 < n := by omega
    have hN := s3.symm
    have SN0 := s4.1
    have q1 : evC (d - 1) 187 [.ref 53] (toH N0) = some (.inl none, toH N) := q1
    simp (disch := first | assumption | (simp (disch := first | assumption | omega) only [sh_setI', ln_setI', fr_setI', ai_setI', al_setI', aq_setI', nx_setI', sl_setI', sL_setI', sX_setI', cl_setI', sh_setR', ln_setR', fi_setR', ai_setR', al_setR', aq_setR', nx_setR', sl_setR', sL_setR', sX_setR', cl_setR', sh_setA', ln_setA', fi_setA', fr_setA', al_setA', aq_setA', nx_setA', sl_setA', sL_setA', sX_setA', cl_setA', sh_setL', ln_setL', fi_setL', fr_setL', ai_setL', aq_setL', nx_setL', sl_setL', sL_setL', sX_setL', cl_setL', sh_setQ', ln_setQ', fi_setQ', fr_setQ', ai_setQ', al_setQ', nx_setQ', sl_setQ', sL_setQ', sX_setQ', cl_setQ', ai_eq, ai_ne, al_eq, al_ne, aq_eq, aq_ne, fi_eq, fi_nk, fi_na, fr_eq, fr_nk, fr_na, up_eq, up_ne, SH_setI', SH_setA', SH_setL', af_cl, af_ln, af_S, af_fr, af_aq, List.length_cons, List.length_nil, C_53, C_54, C_55, C_56, C_57, C_58, C_59, C_60, C_77, C_94, C_255, C_416, C_427, C_438, C_439, C_440, C_521, C_522, C_523, C_540, C_544, C_545, C_546, C_547, N_54, N_55, N_56, N_57, N_58, N_59, N_60, N_77, N_94, N_255, N_416, N_427, N_438, N_439, N_440, N_521, N_522, N_523, N_540, N_544, N_545, N_546, N_547, F_53_9, F_53_10, F_53_11, F_53_12, F_53_13, F_53_14, F_53_15, F_53_16, F_53_19, F_53_20, F_53_21, F_53_22, F_53_23, F_53_24, F_53_25, F_53_27, F_53_28, F_53_29, F_53_30, F_53_41, F_53_42, F_53_43, Q_60, QC_60, QN_60, Q_77, QC_77, QN_77, Q_94, QC_94, QN_94, Q_255, QC_255, QN_255, Q_416, QC_416, QN_416, Q_427, QC_427, QN_427, Q_440, QC_440, QN_440, Q_523, QC_523, QN_523, Q_540, QC_540, QN_540] <;> first | omega | assumption) | omega) only [Ev, ev_sqb, t_X10_law_k25, x_iconst_1, y_iconst_1, x_goto, y_goto, t_X10_law_k85, x_aload_n0, y_aload_n0, x_gf_9_5, y_gf_9_5, x_ifCond_eq, y_ifCond_eq, x_iv0, y_iv0, y_iret, x_iconst_m1, y_iconst_m1, x_pf_9_3, y_pf_9_3, x_gf_9_18, y_gf_9_18, x_pf_9_17, y_pf_9_17, x_gf_9_20, y_gf_9_20, x_gf_9_19, y_gf_9_19, x_gf_9_17, y_gf_9_17, x_is3, y_is3, t_X10_law_k30, x_iv3, y_iv3, x_iconst_0, y_iconst_0, x_iload_n1, y_iload_n1, x_iv1, y_iv1, x_pf_9_18, y_pf_9_18, x_ifCond_ne, y_ifCond_ne, x_gf_9_4, y_gf_9_4, x_gf_9_2, y_gf_9_2, x_if_icmp_ge, y_if_icmp_ge, x_iv2, y_iv2, t_X10_law, x_pf_9_0, y_pf_9_0, x_gf_9_1, y_gf_9_1, x_sipush_150, y_sipush_150, x_if_icmp_le, y_if_icmp_le, ev_bk, sq0, sq1, sq2, bk0, bk1, bk2, sq_if, bk_if, rt_if, cr_if, cr0, cr1, crE, rt1, rtE, va_rf_s, va_rf_n, nI_add, nI_ltI, nI_eq, nI_eq0, nI_lt0, nI_0lt, nI_n1, n1_nI, n1_lt, lt_n1, n1_0, n1_n1, n1_l0, if_true, if_false, ite_true, ite_false, bI_0, bI_1, not_true_eq_false, not_false_eq_true, Ew_i, Er_i, Lq_c, Lq_j, Lq_n, Nat.reduceAdd, Nat.zero_add, Nat.add_zero, Nat.lt_irrefl, Bool.false_eq_true, Nat.reduceEqDiff, Nat.reduceLT, Nat.reduceSub, Nat.reduceMul, Nat.one_ne_zero, C_53, C_54, C_55, C_56, C_57, C_58, C_59, C_60, C_77, C_94, C_255, C_416, C_427, C_438, C_439, C_440, C_521, C_522, C_523, C_540, C_544, C_545, C_546, C_547, N_54, N_55, N_56, N_57, N_58, N_59, N_60, N_77, N_94, N_255, N_416, N_427, N_438, N_439, N_440, N_521, N_522, N_523, N_540, N_544, N_545, N_546, N_547, F_53_9, F_53_10, F_53_11, F_53_12, F_53_13, F_53_14, F_53_15, F_53_16, F_53_19, F_53_20, F_53_21, F_53_22, F_53_23, F_53_24, F_53_25, F_53_27, F_53_28, F_53_29, F_53_30, F_53_41, F_53_42, F_53_43, Q_60, QC_60, QN_60, Q_77, QC_77, QN_77, Q_94, QC_94, QN_94, Q_255, QC_255, QN_255, Q_416, QC_416, QN_416, Q_427, QC_427, QN_427, Q_440, QC_440, QN_440, Q_523, QC_523, QN_523, Q_540, QC_540, QN_540, sh_setI', ln_setI', fr_setI', ai_setI', al_setI', aq_setI', nx_setI', sl_setI', sL_setI', sX_setI', cl_setI', sh_setR', ln_setR', fi_setR', ai_setR', al_setR', aq_setR', nx_setR', sl_setR', sL_setR', sX_setR', cl_setR', sh_setA', ln_setA', fi_setA', fr_setA', al_setA', aq_setA', nx_setA', sl_setA', sL_setA', sX_setA', cl_setA', sh_setL', ln_setL', fi_setL', fr_setL', ai_setL', aq_setL', nx_setL', sl_setL', sL_setL', sX_setL', cl_setL', sh_setQ', ln_setQ', fi_setQ', fr_setQ', ai_setQ', al_setQ', nx_setQ', sl_setQ', sL_setQ', sX_setQ', cl_setQ', ai_eq, ai_ne, al_eq, al_ne, aq_eq, aq_ne, fi_eq, fi_nk, fi_na, fr_eq, fr_nk, fr_na, up_eq, up_ne, hT, m_inB, hi1, h100, m_bad_0, s1, hN, q1, hbl, rf, rat, rsz, hlt, hm, hly]
  · show fi (setI (setI N2 53 3 (-1)) 53 17 (nI l.1)) 53 0 = nI 0
    rw [fi_nk (by decide), fi_nk (by decide)]; exact hN0
  · show fi (setI (setI N2 53 3 (-1)) 53 17 (nI l.1)) 53 1 = nI 0
    rw [fi_nk (by decide), fi_nk (by decide)]; exact hN1
  · show fi (setI (setI N2 53 3 (-1)) 53 17 (nI l.1)) 53 3 = -1
    rw [fi_nk (by decide), fi_eq]
  · show fi (setI (setI N2 53 3 (-1)) 53 17 (nI l.1)) 53 17 = nI l.1
    rw [fi_eq]
  · rw [af_ai]
    unfold lyF
    have q1 : 95 ≤ 95 + i ∧ 95 + i < 95 + l.1 := ⟨by omega, by omega⟩
    rw [if_pos q1, Nat.add_sub_cancel_left]
    exact W2.2 i hi
