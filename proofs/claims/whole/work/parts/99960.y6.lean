/-! ===== the reference: one step, no loop in it ===== -/
theorem RSt.fr {A I : Nat → Prop} {M N : MM} {tx : Nat → Nat} {len : Nat} {s : ST} (h : RSt M tx len s) (g : Frm A I M N) (hA : ¬ A 54) (h2 : ¬ I 2) (h4 : ¬ I 4) (h5 : ¬ I 5) (h6 : ¬ I 6) : RSt N tx len s := by
  have q : ∀ k, ¬ I k → fi N 53 k = fi M 53 k := fun k z => g.2.2.2 53 k (fun y => z y.2)
  have qT : TXt M tx len → TXt N tx len := fun z => ⟨by rw [q 2 h2]; exact z.1, z.2.1, fun i hi => by rw [g.2.2.1 54 hA]; exact z.2.2 i hi⟩
  cases s with
  | inl p =>
    have h : MF M tx len p.1 p.2 := h
    obtain ⟨a1, a2, a3, a4, a5, a6, a7⟩ := h
    exact ⟨g.S a1, qT a2, by rw [q 4 h4]; exact a3, by rw [q 5 h5]; exact a4, a5, a6, by rw [q 6 h6]; exact a7⟩
  | inr a =>
    have h : MR M tx len a := h
    exact h.fr g hA h2 h4 h5
noncomputable def sgW (tx : Nat → Nat) (len c : Nat) (x : PR WK) : PR WK := bnd x (fun w e => bnd (pSgn tx len c e) (fun _ e2 => .inr (w, e2)))
theorem mr_none {d len o a : Nat} {M : MM} {tx : Nat → Nat} {w : WK} (hR : MR M tx len a) (hW : SW M w) (hw : w.1 ≤ 80) (hd : 24 ≤ d) (hk : skH tx len (sp (blP tx) len a) = none) : ∃ N, evC d 194 [.ref 53] (toH M) = some (.inl none, toH N) ∧ wkR M N tx len o (.inl (1, sp (blP tx) len a)) := by
  have hS := hR.1
  have hble : sp (blP tx) len a ≤ len := sp_le hR.2.2.2.1
  have hkh := m_stepHere (d := d - 1) hR (by omega)
  rw [hk] at hkh
  have R1 := hR.at (e := sp (blP tx) len a) hble
  have m1 : fi (setI M 53 4 (nI (sp (blP tx) len a))) 53 26 = nI w.1 := by rw [fi_nk (by decide)]; exact hW.1
  have F1 : Frm skA skF M (setI M 53 4 (nI (sp (blP tx) len a))) := Frm.I (Or.inl (Or.inl rfl))
  generalize sp (blP tx) len a = b at *
  generalize setI M 53 4 (nI b) = M1 at *
  have S1 := R1.1
  have at1 := R1.2.2.1
  have f1 := R1.2.2.2.2
  have hw1 := m_wrong (d := d - 1) (w := nI 1) (h := nI b) S1 (by omega) f1
  have hF : MF (setI (setI M1 53 5 (nI 1)) 53 6 (nI b)) tx len 1 b := by
    have := R1.bad (e := b) (k := 1) (p := b) hble (by omega) (by omega)
    unfold psU at this
    rwa [setI_at at1] at this
  have FF : Frm skA skF M (setI (setI M1 53 5 (nI 1)) 53 6 (nI b)) := (F1.tr (Frm.I (Or.inl (Or.inr (Or.inl rfl))))).tr (Frm.I (Or.inl (Or.inr (Or.inr rfl))))
  have m2 : fi (setI (setI M1 53 5 (nI 1)) 53 6 (nI b)) 53 26 = nI w.1 := by rw [fi_nk (by decide), fi_nk (by decide)]; exact m1
  generalize setI (setI M1 53 5 (nI 1)) 53 6 (nI b) = P at *
  have SP := hF.1
  have nP := hF.n
  have c6 : ¬ (-1 : Int32) = nI 6 := by decide
  refine ⟨P, ?_, FF, hF, fun w e z => (by cases z), w.1, hw, m2⟩
  rw [E_X10_readsStep (by omega)]
  simp (disch := first | assumption | (simp (disch := first | assumption | omega) only [sh_setI', ln_setI', fr_setI', ai_setI', al_setI', aq_setI', nx_setI', sl_setI', sL_setI', sX_setI', cl_setI', sh_setR', ln_setR', fi_setR', ai_setR', al_setR', aq_setR', nx_setR', sl_setR', sL_setR', sX_setR', cl_setR', sh_setA', ln_setA', fi_setA', fr_setA', al_setA', aq_setA', nx_setA', sl_setA', sL_setA', sX_setA', cl_setA', sh_setL', ln_setL', fi_setL', fr_setL', ai_setL', aq_setL', nx_setL', sl_setL', sL_setL', sX_setL', cl_setL', sh_setQ', ln_setQ', fi_setQ', fr_setQ', ai_setQ', al_setQ', nx_setQ', sl_setQ', sL_setQ', sX_setQ', cl_setQ', ai_eq, ai_ne, al_eq, al_ne, aq_eq, aq_ne, fi_eq, fi_nk, fi_na, fr_eq, fr_nk, fr_na, up_eq, up_ne, SH_setI', SH_setA', SH_setL', TX_4, TX_5, TX_6, TX_8, List.length_cons, List.length_nil, C_53, C_54, C_55, C_56, C_57, C_58, C_59, C_60, C_77, C_94, C_255, C_416, C_427, C_438, C_439, C_440, C_521, C_522, C_523, C_540, C_544, C_545, C_546, C_547, N_54, N_55, N_56, N_57, N_58, N_59, N_60, N_77, N_94, N_255, N_416, N_427, N_438, N_439, N_440, N_521, N_522, N_523, N_540, N_544, N_545, N_546, N_547, F_53_9, F_53_10, F_53_11, F_53_12, F_53_13, F_53_14, F_53_15, F_53_16, F_53_19, F_53_20, F_53_21, F_53_22, F_53_23, F_53_24, F_53_25, F_53_27, F_53_28, F_53_29, F_53_30, F_53_41, F_53_42, F_53_43, Q_60, QC_60, QN_60, Q_77, QC_77, QN_77, Q_94, QC_94, QN_94, Q_255, QC_255, QN_255, Q_416, QC_416, QN_416, Q_427, QC_427, QN_427, Q_440, QC_440, QN_440, Q_523, QC_523, QN_523, Q_540, QC_540, QN_540] <;> first | omega | assumption) | omega) only [Ev, ev_sqb, t_X10_readsStep_l116b, x_aload_n0, y_aload_n0, x_gf_9_5, y_gf_9_5, x_ifCond_ne, y_ifCond_ne, x_gf_9_4, y_gf_9_4, x_iv1, y_iv1, x_bipush_93, y_bipush_93, x_if_icmp_eq, y_if_icmp_eq, x_iv0, y_iv0, x_goto, y_goto, t_X10_readsStep_k147, x_dup_i, y_dup_i, x_dup_r, y_dup_r, x_gf_9_8, y_gf_9_8, x_iconst_1, y_iconst_1, x_isub, y_isub, x_pf_9_8, y_pf_9_8, t_X10_readsStep_k163, x_aload_n2, y_aload_n2, x_iconst_2, y_iconst_2, x_gf_9_26, y_gf_9_26, x_iastore, y_iastore, x_bipush_59, y_bipush_59, y_ret, t_X10_readsStep_k90, x_iload_n1, y_iload_n1, x_bipush_6, y_bipush_6, x_if_icmp_ne, y_if_icmp_ne, x_iconst_0, y_iconst_0, x_bipush_20, y_bipush_20, x_iv2, y_iv2, x_bipush_91, y_bipush_91, t_X10_readsStep_k33, x_ifCond_eq, y_ifCond_eq, x_gf_9_25, y_gf_9_25, x_aaload3, y_aaload3, x_aaload4, y_aaload4, x_astore_n2, y_astore_n2, x_iadd, y_iadd, x_pf_9_26, y_pf_9_26, x_iconst_4, y_iconst_4, x_if_icmp_ge, y_if_icmp_ge, x_gf_9_12, y_gf_9_12, x_iaload, y_iaload, x_iaload_s, y_iaload_s, t_X10_readsStep_k19, t_X10_readsStep, x_istore_n1, y_istore_n1, x_iconst_m1, y_iconst_m1, ev_bk, sq0, sq1, sq2, bk0, bk1, bk2, sq_if, bk_if, rt_if, cr_if, cr0, cr1, crE, rt1, rtE, va_rf_s, va_rf_n, ls_0, ls_1i, ls_1r, ls_1n, ls_1j, ls_1l, ls_2, ls_3, ls_4, ls_5, ls_6, ls_7, ls_8, ls_9, ls_10, ls_11, ls_12, nI_add, nI_ltI, nI_eq, nI_eq0, nI_lt0, nI_0lt, nI_n1, n1_nI, n1_lt, lt_n1, n1_0, n1_n1, n1_l0, if_true, if_false, ite_true, ite_false, bI_0, bI_1, not_true_eq_false, not_false_eq_true, Ew_i, Er_i, Lq_c, Lq_j, Lq_n, Nat.reduceAdd, Nat.zero_add, Nat.add_zero, Nat.lt_irrefl, Bool.false_eq_true, Nat.reduceEqDiff, Nat.reduceLT, Nat.reduceSub, Nat.reduceMul, Nat.one_ne_zero, C_53, C_54, C_55, C_56, C_57, C_58, C_59, C_60, C_77, C_94, C_255, C_416, C_427, C_438, C_439, C_440, C_521, C_522, C_523, C_540, C_544, C_545, C_546, C_547, N_54, N_55, N_56, N_57, N_58, N_59, N_60, N_77, N_94, N_255, N_416, N_427, N_438, N_439, N_440, N_521, N_522, N_523, N_540, N_544, N_545, N_546, N_547, F_53_9, F_53_10, F_53_11, F_53_12, F_53_13, F_53_14, F_53_15, F_53_16, F_53_19, F_53_20, F_53_21, F_53_22, F_53_23, F_53_24, F_53_25, F_53_27, F_53_28, F_53_29, F_53_30, F_53_41, F_53_42, F_53_43, Q_60, QC_60, QN_60, Q_77, QC_77, QN_77, Q_94, QC_94, QN_94, Q_255, QC_255, QN_255, Q_416, QC_416, QN_416, Q_427, QC_427, QN_427, Q_440, QC_440, QN_440, Q_523, QC_523, QN_523, Q_540, QC_540, QN_540, sh_setI', ln_setI', fr_setI', ai_setI', al_setI', aq_setI', nx_setI', sl_setI', sL_setI', sX_setI', cl_setI', sh_setR', ln_setR', fi_setR', ai_setR', al_setR', aq_setR', nx_setR', sl_setR', sL_setR', sX_setR', cl_setR', sh_setA', ln_setA', fi_setA', fr_setA', al_setA', aq_setA', nx_setA', sl_setA', sL_setA', sX_setA', cl_setA', sh_setL', ln_setL', fi_setL', fr_setL', ai_setL', aq_setL', nx_setL', sl_setL', sL_setL', sX_setL', cl_setL', sh_setQ', ln_setQ', fi_setQ', fr_setQ', ai_setQ', al_setQ', nx_setQ', sl_setQ', sL_setQ', sX_setQ', cl_setQ', ai_eq, ai_ne, al_eq, al_ne, aq_eq, aq_ne, fi_eq, fi_nk, fi_na, fr_eq, fr_nk, fr_na, up_eq, up_ne, hkh, oI_n, at1, hw1, nP, c6]
/-- a word was read: what the row then has -/
theorem mr_pre {d len a k n : Nat} {M : MM} {tx : Nat → Nat} {w : WK} (hR : MR M tx len a) (hW : SW M w) (hw : w.1 < 80) (hd : 14 ≤ d) (h57 : ai M 57 0 = nI n) : ∃ P N, evC d 172 [.ref 53] (toH M) = some (.inl none, toH P) ∧ SH P ∧ fi P 53 26 = nI w.1 ∧ setA (setI P 53 26 (nI (w.1 + 1))) (441 + w.1) (upd (ai P (441 + w.1)) 0 (nI k)) = N ∧ MR N tx len (sp (ltP tx) len a) ∧ Frm skA skF M N ∧ fi N 53 26 = nI (w.1 + 1) ∧ ai N 57 0 = nI n ∧ ai N (441 + w.1) 0 = nI k ∧ (∀ i, i < w.1 → SWe N i (w.2 i)) ∧ fi N 53 8 = fi M 53 8 := by
  have hsk := m_skipWord (d := d) hR.1 hR.2.1 (by omega) hR.2.2.1 hR.2.2.2.1
  have R1 := hR.at (e := sp (ltP tx) len a) (sp_le hR.2.2.2.1)
  have F1 : Frm skA skF M (setI M 53 4 (nI (sp (ltP tx) len a))) := Frm.I (Or.inl (Or.inl rfl))
  have m1 : fi (setI M 53 4 (nI (sp (ltP tx) len a))) 53 26 = nI w.1 := by rw [fi_nk (by decide)]; exact hW.1
  have o1 : fi (setI M 53 4 (nI (sp (ltP tx) len a))) 53 8 = fi M 53 8 := by rw [fi_nk (by decide)]
  have a1 : ai (setI M 53 4 (nI (sp (ltP tx) len a))) = ai M := ai_setI _ _ _ _
  generalize setI M 53 4 (nI (sp (ltP tx) len a)) = P at *
  have F2 : Frm (fun b => b = 441 + w.1) (fun k => k = 26) P (setA (setI P 53 26 (nI (w.1 + 1))) (441 + w.1) (upd (ai P (441 + w.1)) 0 (nI k))) := (Frm.I (A := fun b => b = 441 + w.1) (I := fun k => k = 26) rfl).tr (Frm.A rfl)
  refine ⟨P, _, hsk, R1.1, m1, rfl, R1.fr F2 (by omega) (by decide) (by decide) (by decide), F1.tr (F2.mono (fun b z => ⟨by omega, by omega⟩) (fun k z => Or.inr (Or.inr z))), ?_, ?_, ?_, fun i hi => ?_, ?_⟩
  · rw [fi_setA, fi_eq]
  · rw [ai_ne (by omega), ai_setI, a1]; exact h57
  · rw [ai_eq, up_eq]
  · have e : ai (setA (setI P 53 26 (nI (w.1 + 1))) (441 + w.1) (upd (ai P (441 + w.1)) 0 (nI k))) (441 + i) = ai M (441 + i) := by rw [ai_ne (by omega), ai_setI, a1]
    unfold SWe
    rw [e]
    exact hW.2 i hi
  · rw [fi_setA, fi_nk (by decide)]; exact o1
theorem mr_one {d len o a k n : Nat} {M : MM} {tx : Nat → Nat} {w : WK} (hR : MR M tx len a) (hW : SW M w) (hw : w.1 < 80) (hd : 24 ≤ d) (h57 : ai M 57 0 = nI n) (h16 : n ≤ 16) (ho : fi M 53 8 = nI o) (hk : skH tx len (sp (blP tx) len a) = some k) (h6 : ¬ k = 6) : ∃ N, evC d 194 [.ref 53] (toH M) = some (.inl none, toH N) ∧ wkR M N tx len o (sgW tx len 59 (if k < 4 then bnd (pNp tx len n (sp (ltP tx) len (sp (blP tx) len a))) (fun v e => .inr (wkU w (k, v, w.1 + 1), e)) else .inr (wkU w (k, 0, w.1 + 1), sp (ltP tx) len (sp (blP tx) len a)))) := by
  have hS := hR.1
  have hble : sp (blP tx) len a ≤ len := sp_le hR.2.2.2.1
  have hkh := m_stepHere (d := d - 1) hR (by omega)
  obtain ⟨-, hk7⟩ := skH_gt hk
  rw [hk] at hkh
  have R1 := hR.at (e := sp (blP tx) len a) hble
  have W1 : SW (setI M 53 4 (nI (sp (blP tx) len a))) w := hW.t (Frm.I (Or.inl rfl))
  have F1 : Frm skA skF M (setI M 53 4 (nI (sp (blP tx) len a))) := Frm.I (Or.inl (Or.inl rfl))
  have o1 : fi (setI M 53 4 (nI (sp (blP tx) len a))) 53 8 = nI o := by rw [fi_nk (by decide)]; exact ho
  have t1 : ai (setI M 53 4 (nI (sp (blP tx) len a))) 57 0 = nI n := by rw [ai_setI]; exact h57
  generalize sp (blP tx) len a = b at *
  generalize setI M 53 4 (nI b) = M1 at *
  have S1 := R1.1
  have f1 := R1.2.2.2.2
  obtain ⟨P, N2, e2, SP, mP, hN2, R2, F2, m2, t2, r2, E2, o2⟩ := mr_pre (d := d - 1) (k := k) R1 W1 hw (by omega) t1
  have hle : sp (ltP tx) len b ≤ len := R2.2.2.2.1
  have fP : fi M1 53 5 = nI 0 := f1
  have S2 := R2.1
  by_cases h4 : k < 4
  · rw [if_pos h4]
    obtain ⟨N3, v, e3, F3, C3, V3⟩ := r_numP (d := d - 1) (n := n) (s := .inr (sp (ltP tx) len b)) R2 (by omega) h16
    have S3 := C3.S
    have m3 : fi N3 53 26 = nI (w.1 + 1) := by rw [F3.2.2.2 53 26 (fun z => by unfold pI at z; omega)]; exact m2
    have a3 : ∀ b, ai N3 b = ai N2 b := fun b => F3.2.2.1 b (fun z => z)
    have F4 : Frm (fun b => b = 441 + w.1) (fun _ => False) N3 (setA N3 (441 + w.1) (upd (upd (ai N3 (441 + w.1)) 1 v) 2 (nI (w.1 + 1)))) := Frm.A rfl
    have q4 : wkR M (setA N3 (441 + w.1) (upd (upd (ai N3 (441 + w.1)) 1 v) 2 (nI (w.1 + 1)))) tx len o (bnd (pNp tx len n (sp (ltP tx) len b)) (fun v e => .inr (wkU w (k, v, w.1 + 1), e))) := by
      refine ⟨((F1.tr F2).tr (F3.mono (fun b z => z.elim) (fun k z => Or.inl z))).tr (F4.mono (fun b z => ⟨by omega, by omega⟩) (fun k z => z.elim)), ?_, fun w' e z => ?_, w.1 + 1, by omega, by rw [fi_setA]; exact m3⟩
      · have C4 := C3.fr F4 (by omega) id id id id
        have C4 : RSt _ tx len (stO (pNp tx len n (sp (ltP tx) len b))) := C4
        cases hp : pNp tx len n (sp (ltP tx) len b) with
        | inl q => rw [hp] at C4; exact C4
        | inr q => rw [hp] at C4; exact C4
      · obtain ⟨u, e', g1, g2⟩ := bnd_i z
        cases g2
        have hv : v = nI u := V3 u _ g1
        refine ⟨⟨by rw [fi_setA]; exact m3, fun i hi => ?_⟩, ?_⟩
        · have hi : i < w.1 + 1 := hi
          show SWe _ i (upW w.2 w.1 (k, u, w.1 + 1) i)
          unfold SWe
          by_cases hiw : i = w.1
          · subst hiw
            rw [upW_eq, ai_eq, up_ne (by decide), up_ne (by decide), up_ne (by decide), up_eq, up_eq, a3]
            exact ⟨r2, fun _ => hv, Or.inr rfl⟩
          · rw [upW_ne hiw, ai_ne (by omega), a3]
            exact E2 i (by omega)
        · rw [fi_setA, F3.2.2.2 53 8 (fun z => by unfold pI at z; omega), o2]; exact o1
    have S4 := q4.2.1.S
    generalize hN4 : setA N3 (441 + w.1) (upd (upd (ai N3 (441 + w.1)) 1 v) 2 (nI (w.1 + 1))) = N4 at *
    obtain ⟨N5, e5, q5⟩ := jr_sgn (d := d - 1) (c := 59) q4 (by decide) (by omega)
    refine ⟨N5, ?_, q5⟩
    rw [E_X10_readsStep (by omega)]
    simp (disch := first | assumption | (simp (disch := first | assumption | omega) only [sh_setI', ln_setI', fr_setI', ai_setI', al_setI', aq_setI', nx_setI', sl_setI', sL_setI', sX_setI', cl_setI', sh_setR', ln_setR', fi_setR', ai_setR', al_setR', aq_setR', nx_setR', sl_setR', sL_setR', sX_setR', cl_setR', sh_setA', ln_setA', fi_setA', fr_setA', al_setA', aq_setA', nx_setA', sl_setA', sL_setA', sX_setA', cl_setA', sh_setL', ln_setL', fi_setL', fr_setL', ai_setL', aq_setL', nx_setL', sl_setL', sL_setL', sX_setL', cl_setL', sh_setQ', ln_setQ', fi_setQ', fr_setQ', ai_setQ', al_setQ', nx_setQ', sl_setQ', sL_setQ', sX_setQ', cl_setQ', ai_eq, ai_ne, al_eq, al_ne, aq_eq, aq_ne, fi_eq, fi_nk, fi_na, fr_eq, fr_nk, fr_na, up_eq, up_ne, SH_setI', SH_setA', SH_setL', TX_4, TX_5, TX_6, TX_8, List.length_cons, List.length_nil, C_53, C_54, C_55, C_56, C_57, C_58, C_59, C_60, C_77, C_94, C_255, C_416, C_427, C_438, C_439, C_440, C_521, C_522, C_523, C_540, C_544, C_545, C_546, C_547, N_54, N_55, N_56, N_57, N_58, N_59, N_60, N_77, N_94, N_255, N_416, N_427, N_438, N_439, N_440, N_521, N_522, N_523, N_540, N_544, N_545, N_546, N_547, F_53_9, F_53_10, F_53_11, F_53_12, F_53_13, F_53_14, F_53_15, F_53_16, F_53_19, F_53_20, F_53_21, F_53_22, F_53_23, F_53_24, F_53_25, F_53_27, F_53_28, F_53_29, F_53_30, F_53_41, F_53_42, F_53_43, Q_60, QC_60, QN_60, Q_77, QC_77, QN_77, Q_94, QC_94, QN_94, Q_255, QC_255, QN_255, Q_416, QC_416, QN_416, Q_427, QC_427, QN_427, Q_440, QC_440, QN_440, Q_523, QC_523, QN_523, Q_540, QC_540, QN_540] <;> first | omega | assumption) | omega) only [Ev, ev_sqb, t_X10_readsStep_l116b, x_aload_n0, y_aload_n0, x_gf_9_5, y_gf_9_5, x_ifCond_ne, y_ifCond_ne, x_gf_9_4, y_gf_9_4, x_iv1, y_iv1, x_bipush_93, y_bipush_93, x_if_icmp_eq, y_if_icmp_eq, x_iv0, y_iv0, x_goto, y_goto, t_X10_readsStep_k147, x_dup_i, y_dup_i, x_dup_r, y_dup_r, x_gf_9_8, y_gf_9_8, x_iconst_1, y_iconst_1, x_isub, y_isub, x_pf_9_8, y_pf_9_8, t_X10_readsStep_k163, x_aload_n2, y_aload_n2, x_iconst_2, y_iconst_2, x_gf_9_26, y_gf_9_26, x_iastore, y_iastore, x_bipush_59, y_bipush_59, y_ret, t_X10_readsStep_k90, x_iload_n1, y_iload_n1, x_bipush_6, y_bipush_6, x_if_icmp_ne, y_if_icmp_ne, x_iconst_0, y_iconst_0, x_bipush_20, y_bipush_20, x_iv2, y_iv2, x_bipush_91, y_bipush_91, t_X10_readsStep_k33, x_ifCond_eq, y_ifCond_eq, x_gf_9_25, y_gf_9_25, x_aaload3, y_aaload3, x_aaload4, y_aaload4, x_astore_n2, y_astore_n2, x_iadd, y_iadd, x_pf_9_26, y_pf_9_26, x_iconst_4, y_iconst_4, x_if_icmp_ge, y_if_icmp_ge, x_gf_9_12, y_gf_9_12, x_iaload, y_iaload, x_iaload_s, y_iaload_s, t_X10_readsStep_k19, t_X10_readsStep, x_istore_n1, y_istore_n1, x_iconst_m1, y_iconst_m1, ev_bk, sq0, sq1, sq2, bk0, bk1, bk2, sq_if, bk_if, rt_if, cr_if, cr0, cr1, crE, rt1, rtE, va_rf_s, va_rf_n, ls_0, ls_1i, ls_1r, ls_1n, ls_1j, ls_1l, ls_2, ls_3, ls_4, ls_5, ls_6, ls_7, ls_8, ls_9, ls_10, ls_11, ls_12, nI_add, nI_ltI, nI_eq, nI_eq0, nI_lt0, nI_0lt, nI_n1, n1_nI, n1_lt, lt_n1, n1_0, n1_n1, n1_l0, if_true, if_false, ite_true, ite_false, bI_0, bI_1, not_true_eq_false, not_false_eq_true, Ew_i, Er_i, Lq_c, Lq_j, Lq_n, Nat.reduceAdd, Nat.zero_add, Nat.add_zero, Nat.lt_irrefl, Bool.false_eq_true, Nat.reduceEqDiff, Nat.reduceLT, Nat.reduceSub, Nat.reduceMul, Nat.one_ne_zero, C_53, C_54, C_55, C_56, C_57, C_58, C_59, C_60, C_77, C_94, C_255, C_416, C_427, C_438, C_439, C_440, C_521, C_522, C_523, C_540, C_544, C_545, C_546, C_547, N_54, N_55, N_56, N_57, N_58, N_59, N_60, N_77, N_94, N_255, N_416, N_427, N_438, N_439, N_440, N_521, N_522, N_523, N_540, N_544, N_545, N_546, N_547, F_53_9, F_53_10, F_53_11, F_53_12, F_53_13, F_53_14, F_53_15, F_53_16, F_53_19, F_53_20, F_53_21, F_53_22, F_53_23, F_53_24, F_53_25, F_53_27, F_53_28, F_53_29, F_53_30, F_53_41, F_53_42, F_53_43, Q_60, QC_60, QN_60, Q_77, QC_77, QN_77, Q_94, QC_94, QN_94, Q_255, QC_255, QN_255, Q_416, QC_416, QN_416, Q_427, QC_427, QN_427, Q_440, QC_440, QN_440, Q_523, QC_523, QN_523, Q_540, QC_540, QN_540, sh_setI', ln_setI', fr_setI', ai_setI', al_setI', aq_setI', nx_setI', sl_setI', sL_setI', sX_setI', cl_setI', sh_setR', ln_setR', fi_setR', ai_setR', al_setR', aq_setR', nx_setR', sl_setR', sL_setR', sX_setR', cl_setR', sh_setA', ln_setA', fi_setA', fr_setA', al_setA', aq_setA', nx_setA', sl_setA', sL_setA', sX_setA', cl_setA', sh_setL', ln_setL', fi_setL', fr_setL', ai_setL', aq_setL', nx_setL', sl_setL', sL_setL', sX_setL', cl_setL', sh_setQ', ln_setQ', fi_setQ', fr_setQ', ai_setQ', al_setQ', nx_setQ', sl_setQ', sL_setQ', sX_setQ', cl_setQ', ai_eq, ai_ne, al_eq, al_ne, aq_eq, aq_ne, fi_eq, fi_nk, fi_na, fr_eq, fr_nk, fr_na, up_eq, up_ne, hkh, oI_s, h6, f1, e2, mP, h4, hN2, t2, e3, m3, setA_setA, hN4, e5]
  · rw [if_neg h4]
    have F4 : Frm (fun b => b = 441 + w.1) (fun _ => False) N2 (setA N2 (441 + w.1) (upd (ai N2 (441 + w.1)) 2 (nI (w.1 + 1)))) := Frm.A rfl
    have q4 : wkR M (setA N2 (441 + w.1) (upd (ai N2 (441 + w.1)) 2 (nI (w.1 + 1)))) tx len o (.inr (wkU w (k, 0, w.1 + 1), sp (ltP tx) len b)) := by
      refine ⟨(F1.tr F2).tr (F4.mono (fun b z => ⟨by omega, by omega⟩) (fun k z => z.elim)), R2.fr F4 (by omega) id id id, fun w' e z => ?_, w.1 + 1, by omega, by rw [fi_setA]; exact m2⟩
      cases z
      refine ⟨⟨by rw [fi_setA]; exact m2, fun i hi => ?_⟩, ?_⟩
      · have hi : i < w.1 + 1 := hi
        show SWe _ i (upW w.2 w.1 (k, 0, w.1 + 1) i)
        unfold SWe
        by_cases hiw : i = w.1
        · subst hiw
          rw [upW_eq, ai_eq, up_ne (by decide), up_ne (by decide), up_eq]
          exact ⟨r2, fun z => absurd z (by show ¬ (k < 4 ∨ k = 6); omega), Or.inr rfl⟩
        · rw [upW_ne hiw, ai_ne (by omega)]
          exact E2 i (by omega)
      · rw [fi_setA, o2]; exact o1
    have S4 := q4.2.1.S
    generalize hN4 : setA N2 (441 + w.1) (upd (ai N2 (441 + w.1)) 2 (nI (w.1 + 1))) = N4 at *
    obtain ⟨N5, e5, q5⟩ := jr_sgn (d := d - 1) (c := 59) q4 (by decide) (by omega)
    refine ⟨N5, ?_, q5⟩
    rw [E_X10_readsStep (by omega)]
    simp (disch := first | assumption | (simp (disch := first | assumption | omega) only [sh_setI', ln_setI', fr_setI', ai_setI', al_setI', aq_setI', nx_setI', sl_setI', sL_setI', sX_setI', cl_setI', sh_setR', ln_setR', fi_setR', ai_setR', al_setR', aq_setR', nx_setR', sl_setR', sL_setR', sX_setR', cl_setR', sh_setA', ln_setA', fi_setA', fr_setA', al_setA', aq_setA', nx_setA', sl_setA', sL_setA', sX_setA', cl_setA', sh_setL', ln_setL', fi_setL', fr_setL', ai_setL', aq_setL', nx_setL', sl_setL', sL_setL', sX_setL', cl_setL', sh_setQ', ln_setQ', fi_setQ', fr_setQ', ai_setQ', al_setQ', nx_setQ', sl_setQ', sL_setQ', sX_setQ', cl_setQ', ai_eq, ai_ne, al_eq, al_ne, aq_eq, aq_ne, fi_eq, fi_nk, fi_na, fr_eq, fr_nk, fr_na, up_eq, up_ne, SH_setI', SH_setA', SH_setL', TX_4, TX_5, TX_6, TX_8, List.length_cons, List.length_nil, C_53, C_54, C_55, C_56, C_57, C_58, C_59, C_60, C_77, C_94, C_255, C_416, C_427, C_438, C_439, C_440, C_521, C_522, C_523, C_540, C_544, C_545, C_546, C_547, N_54, N_55, N_56, N_57, N_58, N_59, N_60, N_77, N_94, N_255, N_416, N_427, N_438, N_439, N_440, N_521, N_522, N_523, N_540, N_544, N_545, N_546, N_547, F_53_9, F_53_10, F_53_11, F_53_12, F_53_13, F_53_14, F_53_15, F_53_16, F_53_19, F_53_20, F_53_21, F_53_22, F_53_23, F_53_24, F_53_25, F_53_27, F_53_28, F_53_29, F_53_30, F_53_41, F_53_42, F_53_43, Q_60, QC_60, QN_60, Q_77, QC_77, QN_77, Q_94, QC_94, QN_94, Q_255, QC_255, QN_255, Q_416, QC_416, QN_416, Q_427, QC_427, QN_427, Q_440, QC_440, QN_440, Q_523, QC_523, QN_523, Q_540, QC_540, QN_540] <;> first | omega | assumption) | omega) only [Ev, ev_sqb, t_X10_readsStep_l116b, x_aload_n0, y_aload_n0, x_gf_9_5, y_gf_9_5, x_ifCond_ne, y_ifCond_ne, x_gf_9_4, y_gf_9_4, x_iv1, y_iv1, x_bipush_93, y_bipush_93, x_if_icmp_eq, y_if_icmp_eq, x_iv0, y_iv0, x_goto, y_goto, t_X10_readsStep_k147, x_dup_i, y_dup_i, x_dup_r, y_dup_r, x_gf_9_8, y_gf_9_8, x_iconst_1, y_iconst_1, x_isub, y_isub, x_pf_9_8, y_pf_9_8, t_X10_readsStep_k163, x_aload_n2, y_aload_n2, x_iconst_2, y_iconst_2, x_gf_9_26, y_gf_9_26, x_iastore, y_iastore, x_bipush_59, y_bipush_59, y_ret, t_X10_readsStep_k90, x_iload_n1, y_iload_n1, x_bipush_6, y_bipush_6, x_if_icmp_ne, y_if_icmp_ne, x_iconst_0, y_iconst_0, x_bipush_20, y_bipush_20, x_iv2, y_iv2, x_bipush_91, y_bipush_91, t_X10_readsStep_k33, x_ifCond_eq, y_ifCond_eq, x_gf_9_25, y_gf_9_25, x_aaload3, y_aaload3, x_aaload4, y_aaload4, x_astore_n2, y_astore_n2, x_iadd, y_iadd, x_pf_9_26, y_pf_9_26, x_iconst_4, y_iconst_4, x_if_icmp_ge, y_if_icmp_ge, x_gf_9_12, y_gf_9_12, x_iaload, y_iaload, x_iaload_s, y_iaload_s, t_X10_readsStep_k19, t_X10_readsStep, x_istore_n1, y_istore_n1, x_iconst_m1, y_iconst_m1, ev_bk, sq0, sq1, sq2, bk0, bk1, bk2, sq_if, bk_if, rt_if, cr_if, cr0, cr1, crE, rt1, rtE, va_rf_s, va_rf_n, ls_0, ls_1i, ls_1r, ls_1n, ls_1j, ls_1l, ls_2, ls_3, ls_4, ls_5, ls_6, ls_7, ls_8, ls_9, ls_10, ls_11, ls_12, nI_add, nI_ltI, nI_eq, nI_eq0, nI_lt0, nI_0lt, nI_n1, n1_nI, n1_lt, lt_n1, n1_0, n1_n1, n1_l0, if_true, if_false, ite_true, ite_false, bI_0, bI_1, not_true_eq_false, not_false_eq_true, Ew_i, Er_i, Lq_c, Lq_j, Lq_n, Nat.reduceAdd, Nat.zero_add, Nat.add_zero, Nat.lt_irrefl, Bool.false_eq_true, Nat.reduceEqDiff, Nat.reduceLT, Nat.reduceSub, Nat.reduceMul, Nat.one_ne_zero, C_53, C_54, C_55, C_56, C_57, C_58, C_59, C_60, C_77, C_94, C_255, C_416, C_427, C_438, C_439, C_440, C_521, C_522, C_523, C_540, C_544, C_545, C_546, C_547, N_54, N_55, N_56, N_57, N_58, N_59, N_60, N_77, N_94, N_255, N_416, N_427, N_438, N_439, N_440, N_521, N_522, N_523, N_540, N_544, N_545, N_546, N_547, F_53_9, F_53_10, F_53_11, F_53_12, F_53_13, F_53_14, F_53_15, F_53_16, F_53_19, F_53_20, F_53_21, F_53_22, F_53_23, F_53_24, F_53_25, F_53_27, F_53_28, F_53_29, F_53_30, F_53_41, F_53_42, F_53_43, Q_60, QC_60, QN_60, Q_77, QC_77, QN_77, Q_94, QC_94, QN_94, Q_255, QC_255, QN_255, Q_416, QC_416, QN_416, Q_427, QC_427, QN_427, Q_440, QC_440, QN_440, Q_523, QC_523, QN_523, Q_540, QC_540, QN_540, sh_setI', ln_setI', fr_setI', ai_setI', al_setI', aq_setI', nx_setI', sl_setI', sL_setI', sX_setI', cl_setI', sh_setR', ln_setR', fi_setR', ai_setR', al_setR', aq_setR', nx_setR', sl_setR', sL_setR', sX_setR', cl_setR', sh_setA', ln_setA', fi_setA', fr_setA', al_setA', aq_setA', nx_setA', sl_setA', sL_setA', sX_setA', cl_setA', sh_setL', ln_setL', fi_setL', fr_setL', ai_setL', aq_setL', nx_setL', sl_setL', sL_setL', sX_setL', cl_setL', sh_setQ', ln_setQ', fi_setQ', fr_setQ', ai_setQ', al_setQ', nx_setQ', sl_setQ', sL_setQ', sX_setQ', cl_setQ', ai_eq, ai_ne, al_eq, al_ne, aq_eq, aq_ne, fi_eq, fi_nk, fi_na, fr_eq, fr_nk, fr_na, up_eq, up_ne, hkh, oI_s, h6, f1, e2, mP, h4, hN2, m2, hN4, e5]
