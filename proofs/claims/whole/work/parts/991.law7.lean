/-! ===== one of the law: brackets, known things, numbers ===== -/
theorem ch_sg {tx : Nat → Nat} {len b c : Nat} (hc : c < 256) (ht : tx b < 256) : (chI tx len b = nI c) = sgH tx len b c := by
  unfold chI
  apply propext
  by_cases h : len ≤ b
  · rw [if_pos h]
    constructor
    · intro z
      exact absurd z.symm (fun y => (nI_n1 (by omega)).mp y)
    · rintro ⟨z, -⟩; omega
  · rw [if_neg h]
    constructor
    · intro z
      exact ⟨by omega, (nI_eq (by omega) (by omega)).mp z⟩
    · rintro ⟨-, z⟩; rw [z]
theorem isW_gt {tx : Nat → Nat} {len b : Nat} {w : List Nat} (h : isW tx len b w) (hw : 0 < w.length) : b < sp (ltP tx) len b := by
  rw [h.1]; omega
theorem knH_gt {tx : Nat → Nat} {len b k : Nat} (h : knH tx len b = some k) : b < sp (ltP tx) len b ∧ k < 8 := by
  unfold knH knW at h
  by_cases h0 : isW tx len b w_k0
  · rw [fstW_t h0] at h; cases h; exact ⟨isW_gt h0 (by decide), by decide⟩
  rw [fstW_f h0] at h
  by_cases h1 : isW tx len b w_k1
  · rw [fstW_t h1] at h; cases h; exact ⟨isW_gt h1 (by decide), by decide⟩
  rw [fstW_f h1] at h
  by_cases h2 : isW tx len b w_k2
  · rw [fstW_t h2] at h; cases h; exact ⟨isW_gt h2 (by decide), by decide⟩
  rw [fstW_f h2] at h
  by_cases h3 : isW tx len b w_k3
  · rw [fstW_t h3] at h; cases h; exact ⟨isW_gt h3 (by decide), by decide⟩
  rw [fstW_f h3] at h
  by_cases h4 : isW tx len b w_k4
  · rw [fstW_t h4] at h; cases h; exact ⟨isW_gt h4 (by decide), by decide⟩
  rw [fstW_f h4] at h
  by_cases h5 : isW tx len b w_k5
  · rw [fstW_t h5] at h; cases h; exact ⟨isW_gt h5 (by decide), by decide⟩
  rw [fstW_f h5] at h
  by_cases h6 : isW tx len b w_k6
  · rw [fstW_t h6] at h; cases h; exact ⟨isW_gt h6 (by decide), by decide⟩
  rw [fstW_f h6] at h
  by_cases h7 : isW tx len b w_k7
  · rw [fstW_t h7] at h; cases h; exact ⟨isW_gt h7 (by decide), by decide⟩
  rw [fstW_f h7] at h
  cases h
theorem on_par {f d len a b o : Nat} {M M1 : MM} {tx : Nat → Nat} {l : TK} (hR : MR M1 tx len b) (hab : a ≤ b) (hF : Frm lwA lwI M M1) (hW : LW M1 l) (hla : l.1 ≤ a) (ho : fi M1 53 8 = nI o) (ho6 : o ≤ 6) (hd : 24 ≤ d) (hs : sgH tx len b 40)
    (ih : o < 6 → ∀ l a M, MR M tx len a → LW M l → l.1 ≤ a → fi M 53 8 = nI (o + 1) → lwC d 186 M tx len (o + 1) l a (lwP tx len f 0 (o + 1) l a)) :
    lwG (fun N => Er (ev d t_X10_one_k58 ([.ref 53, .retAddr 0, .retAddr 0], [.int (-1)], toH M1)) (.inl none) (toH N)) M tx len o l a (if o = 6 then .inl (3, b) else bnd (lwP tx len f 0 (o + 1) l (b + 1)) (fun l e => bnd (pSgn tx len 41 e) (fun _ e => .inr (l, e)))) := by
  have hS := hR.1
  have hat := hR.2.2.1
  have hl6 := hR.2.1.2.1
  have hbl := hR.2.2.2.1
  have qb := m_byteAt (d := d) (k := b) hR.1 hR.2.1 (by omega) (by omega)
  have hc : chI tx len b = nI 40 := (ch_sg (by omega) (hR.2.1.2.2 b (by have := hs.1; omega)).2).mpr hs
  rw [hc] at qb
  refine lwG_of (s := 0) (fun hok => ?_)
  by_cases h6 : o = 6
  · rw [if_pos h6]
    subst h6
    have q := m_opens_f (d := d) hR (by omega) ho
    have hF1 : MF (psU M1 b (nI 3) (nI b)) tx len 3 b := hR.bad hR.2.2.2.1 (by omega) (by omega)
    refine ⟨_, ?_, Or.inr ⟨3, b, rfl, hF1⟩, hF.tr (Frm.U (fun _ z => Or.inl z))⟩
    generalize psU M1 b (nI 3) (nI b) = P at *
    simp (disch := first | assumption | (simp (disch := first | assumption | omega) only [sh_setI', ln_setI', fr_setI', ai_setI', al_setI', aq_setI', nx_setI', sl_setI', sL_setI', sX_setI', cl_setI', sh_setR', ln_setR', fi_setR', ai_setR', al_setR', aq_setR', nx_setR', sl_setR', sL_setR', sX_setR', cl_setR', sh_setA', ln_setA', fi_setA', fr_setA', al_setA', aq_setA', nx_setA', sl_setA', sL_setA', sX_setA', cl_setA', sh_setL', ln_setL', fi_setL', fr_setL', ai_setL', aq_setL', nx_setL', sl_setL', sL_setL', sX_setL', cl_setL', sh_setQ', ln_setQ', fi_setQ', fr_setQ', ai_setQ', al_setQ', nx_setQ', sl_setQ', sL_setQ', sX_setQ', cl_setQ', ai_eq, ai_ne, al_eq, al_ne, aq_eq, aq_ne, fi_eq, fi_nk, fi_na, fr_eq, fr_nk, fr_na, up_eq, up_ne, SH_setI', SH_setA', SH_setL', TX_4, TX_5, TX_6, TX_8, List.length_cons, List.length_nil, C_53, C_54, C_55, C_56, C_57, C_58, C_59, C_60, C_77, C_94, C_255, C_416, C_427, C_438, C_439, C_440, C_521, C_522, C_523, C_540, C_544, C_545, C_546, C_547, N_54, N_55, N_56, N_57, N_58, N_59, N_60, N_77, N_94, N_255, N_416, N_427, N_438, N_439, N_440, N_521, N_522, N_523, N_540, N_544, N_545, N_546, N_547, F_53_9, F_53_10, F_53_11, F_53_12, F_53_13, F_53_14, F_53_15, F_53_16, F_53_19, F_53_20, F_53_21, F_53_22, F_53_23, F_53_24, F_53_25, F_53_27, F_53_28, F_53_29, F_53_30, F_53_41, F_53_42, F_53_43, Q_60, QC_60, QN_60, Q_77, QC_77, QN_77, Q_94, QC_94, QN_94, Q_255, QC_255, QN_255, Q_416, QC_416, QN_416, Q_427, QC_427, QN_427, Q_440, QC_440, QN_440, Q_523, QC_523, QN_523, Q_540, QC_540, QN_540] <;> first | omega | assumption) | omega) only [Ev, ev_sqb, t_X10_one_k203, y_ret, t_X10_one_k58, x_istore_n1, y_istore_n1, x_iload_n1, y_iload_n1, x_iconst_m1, y_iconst_m1, x_if_icmp_eq, y_if_icmp_eq, x_aload_n0, y_aload_n0, x_iv0, y_iv0, x_ifCond_ne, y_ifCond_ne, x_bipush_91, y_bipush_91, x_iv1, y_iv1, x_bipush_44, y_bipush_44, x_bipush_93, y_bipush_93, x_iconst_0, y_iconst_0, x_iv2, y_iv2, x_dup_i, y_dup_i, x_dup_r, y_dup_r, x_gf_9_8, y_gf_9_8, x_iconst_1, y_iconst_1, x_isub, y_isub, x_pf_9_8, y_pf_9_8, x_gf_9_4, y_gf_9_4, x_bipush_40, y_bipush_40, x_if_icmp_ne, y_if_icmp_ne, x_iadd, y_iadd, x_pf_9_4, y_pf_9_4, x_bipush_41, y_bipush_41, x_istore_n2, y_istore_n2, x_iload_n2, y_iload_n2, x_goto, y_goto, x_sipush_999, y_sipush_999, t_X10_one, x_gf_9_5, y_gf_9_5, x_ifCond_eq, y_ifCond_eq, x_bipush_12, y_bipush_12, x_iconst_5, y_iconst_5, x_bipush_19, y_bipush_19, x_bipush_20, y_bipush_20, x_iv7, y_iv7, x_bipush_6, y_bipush_6, x_bipush_13, y_bipush_13, x_bipush_15, y_bipush_15, x_bipush_7, y_bipush_7, ev_bk, sq0, sq1, sq2, bk0, bk1, bk2, sq_if, bk_if, rt_if, cr_if, cr0, cr1, crE, rt1, rtE, va_rf_s, va_rf_n, ls_0, ls_1i, ls_1r, ls_1n, ls_1j, ls_1l, ls_2, ls_3, ls_4, ls_5, ls_6, ls_7, ls_8, ls_9, ls_10, ls_11, ls_12, nI_add, nI_ltI, nI_eq, nI_eq0, nI_lt0, nI_0lt, nI_n1, n1_nI, n1_lt, lt_n1, n1_0, n1_n1, n1_l0, if_true, if_false, ite_true, ite_false, bI_0, bI_1, not_true_eq_false, not_false_eq_true, Ew_i, Er_i, Lq_c, Lq_j, Lq_n, Nat.reduceAdd, Nat.zero_add, Nat.add_zero, Nat.lt_irrefl, Bool.false_eq_true, Nat.reduceEqDiff, Nat.reduceLT, Nat.reduceSub, Nat.reduceMul, Nat.one_ne_zero, C_53, C_54, C_55, C_56, C_57, C_58, C_59, C_60, C_77, C_94, C_255, C_416, C_427, C_438, C_439, C_440, C_521, C_522, C_523, C_540, C_544, C_545, C_546, C_547, N_54, N_55, N_56, N_57, N_58, N_59, N_60, N_77, N_94, N_255, N_416, N_427, N_438, N_439, N_440, N_521, N_522, N_523, N_540, N_544, N_545, N_546, N_547, F_53_9, F_53_10, F_53_11, F_53_12, F_53_13, F_53_14, F_53_15, F_53_16, F_53_19, F_53_20, F_53_21, F_53_22, F_53_23, F_53_24, F_53_25, F_53_27, F_53_28, F_53_29, F_53_30, F_53_41, F_53_42, F_53_43, Q_60, QC_60, QN_60, Q_77, QC_77, QN_77, Q_94, QC_94, QN_94, Q_255, QC_255, QN_255, Q_416, QC_416, QN_416, Q_427, QC_427, QN_427, Q_440, QC_440, QN_440, Q_523, QC_523, QN_523, Q_540, QC_540, QN_540, sh_setI', ln_setI', fr_setI', ai_setI', al_setI', aq_setI', nx_setI', sl_setI', sL_setI', sX_setI', cl_setI', sh_setR', ln_setR', fi_setR', ai_setR', al_setR', aq_setR', nx_setR', sl_setR', sL_setR', sX_setR', cl_setR', sh_setA', ln_setA', fi_setA', fr_setA', al_setA', aq_setA', nx_setA', sl_setA', sL_setA', sX_setA', cl_setA', sh_setL', ln_setL', fi_setL', fr_setL', ai_setL', aq_setL', nx_setL', sl_setL', sL_setL', sX_setL', cl_setL', sh_setQ', ln_setQ', fi_setQ', fr_setQ', ai_setQ', al_setQ', nx_setQ', sl_setQ', sL_setQ', sX_setQ', cl_setQ', ai_eq, ai_ne, al_eq, al_ne, aq_eq, aq_ne, fi_eq, fi_nk, fi_na, fr_eq, fr_nk, fr_na, up_eq, up_ne, hat, qb, q]
  · rw [if_neg h6] at hok ⊢
    have hlt : o < 6 := by omega
    have q := m_opens_t (d := d) hR (by omega) ho hlt
    have R1 : MR (setI M1 53 8 (nI (o + 1))) tx len b := hR.fr (A := lwA) (I := fun k => k = 8) (Frm.I rfl) (by rintro ⟨z, -⟩; omega) (by decide) (by decide) (by decide)
    have W1 : LW (setI M1 53 8 (nI (o + 1))) l := hW.I (by decide)
    have F1 : Frm lwA lwI M (setI M1 53 8 (nI (o + 1))) := hF.tr (Frm.I (Or.inl (Or.inr (Or.inr (Or.inr (Or.inr rfl))))))
    have o1 : fi (setI M1 53 8 (nI (o + 1))) 53 8 = nI (o + 1) := fi_eq _ _ _ _
    generalize setI M1 53 8 (nI (o + 1)) = P1 at *
    have hat1 := R1.2.2.1
    have S1 := R1.1
    have L0 : lwS M (setI P1 53 4 (nI (b + 1))) tx len (o + 1) 0 l a (.inr (l, b + 1)) := ⟨Or.inl ⟨l, _, rfl, R1.at hs.1, W1.I (by decide), by omega, by omega, by rw [fi8]; exact o1⟩, F1.tr (Frm.I (Or.inl (Or.inl rfl)))⟩
    have SP2 := L0.S
    have e6 : bnd (lwP tx len f 0 (o + 1) l (b + 1)) (fun l e => bnd (pSgn tx len 41 e) (fun _ e => .inr (l, e))) = bnd (bnd (.inr (l, b + 1)) (fun l e => lwP tx len f 0 (o + 1) l e)) (fun l e => bnd (pSgn tx len 41 e) (fun _ e => (.inr (l, e) : PR TK))) := by
      simp only [bnd_r]
    rw [e6] at hok ⊢
    obtain ⟨N2, q2, L2⟩ := S_sum (d := d) (f := f) L0 (by omega) hla (okx_b hok) (ih hlt)
    obtain ⟨N3, q3, L3⟩ := S_sgn (d := d) (c := 41) L2 (by omega) (by omega)
    have L7 := S_open L3 hlt
    have SN2 := L2.S
    have SN3 := L3.S
    refine ⟨_, ?_, ⟨?_, L7.2⟩⟩
    · simp (disch := first | assumption | (simp (disch := first | assumption | omega) only [sh_setI', ln_setI', fr_setI', ai_setI', al_setI', aq_setI', nx_setI', sl_setI', sL_setI', sX_setI', cl_setI', sh_setR', ln_setR', fi_setR', ai_setR', al_setR', aq_setR', nx_setR', sl_setR', sL_setR', sX_setR', cl_setR', sh_setA', ln_setA', fi_setA', fr_setA', al_setA', aq_setA', nx_setA', sl_setA', sL_setA', sX_setA', cl_setA', sh_setL', ln_setL', fi_setL', fr_setL', ai_setL', aq_setL', nx_setL', sl_setL', sL_setL', sX_setL', cl_setL', sh_setQ', ln_setQ', fi_setQ', fr_setQ', ai_setQ', al_setQ', nx_setQ', sl_setQ', sL_setQ', sX_setQ', cl_setQ', ai_eq, ai_ne, al_eq, al_ne, aq_eq, aq_ne, fi_eq, fi_nk, fi_na, fr_eq, fr_nk, fr_na, up_eq, up_ne, SH_setI', SH_setA', SH_setL', TX_4, TX_5, TX_6, TX_8, List.length_cons, List.length_nil, C_53, C_54, C_55, C_56, C_57, C_58, C_59, C_60, C_77, C_94, C_255, C_416, C_427, C_438, C_439, C_440, C_521, C_522, C_523, C_540, C_544, C_545, C_546, C_547, N_54, N_55, N_56, N_57, N_58, N_59, N_60, N_77, N_94, N_255, N_416, N_427, N_438, N_439, N_440, N_521, N_522, N_523, N_540, N_544, N_545, N_546, N_547, F_53_9, F_53_10, F_53_11, F_53_12, F_53_13, F_53_14, F_53_15, F_53_16, F_53_19, F_53_20, F_53_21, F_53_22, F_53_23, F_53_24, F_53_25, F_53_27, F_53_28, F_53_29, F_53_30, F_53_41, F_53_42, F_53_43, Q_60, QC_60, QN_60, Q_77, QC_77, QN_77, Q_94, QC_94, QN_94, Q_255, QC_255, QN_255, Q_416, QC_416, QN_416, Q_427, QC_427, QN_427, Q_440, QC_440, QN_440, Q_523, QC_523, QN_523, Q_540, QC_540, QN_540] <;> first | omega | assumption) | omega) only [Ev, ev_sqb, t_X10_one_k203, y_ret, t_X10_one_k58, x_istore_n1, y_istore_n1, x_iload_n1, y_iload_n1, x_iconst_m1, y_iconst_m1, x_if_icmp_eq, y_if_icmp_eq, x_aload_n0, y_aload_n0, x_iv0, y_iv0, x_ifCond_ne, y_ifCond_ne, x_bipush_91, y_bipush_91, x_iv1, y_iv1, x_bipush_44, y_bipush_44, x_bipush_93, y_bipush_93, x_iconst_0, y_iconst_0, x_iv2, y_iv2, x_dup_i, y_dup_i, x_dup_r, y_dup_r, x_gf_9_8, y_gf_9_8, x_iconst_1, y_iconst_1, x_isub, y_isub, x_pf_9_8, y_pf_9_8, x_gf_9_4, y_gf_9_4, x_bipush_40, y_bipush_40, x_if_icmp_ne, y_if_icmp_ne, x_iadd, y_iadd, x_pf_9_4, y_pf_9_4, x_bipush_41, y_bipush_41, x_istore_n2, y_istore_n2, x_iload_n2, y_iload_n2, x_goto, y_goto, x_sipush_999, y_sipush_999, t_X10_one, x_gf_9_5, y_gf_9_5, x_ifCond_eq, y_ifCond_eq, x_bipush_12, y_bipush_12, x_iconst_5, y_iconst_5, x_bipush_19, y_bipush_19, x_bipush_20, y_bipush_20, x_iv7, y_iv7, x_bipush_6, y_bipush_6, x_bipush_13, y_bipush_13, x_bipush_15, y_bipush_15, x_bipush_7, y_bipush_7, ev_bk, sq0, sq1, sq2, bk0, bk1, bk2, sq_if, bk_if, rt_if, cr_if, cr0, cr1, crE, rt1, rtE, va_rf_s, va_rf_n, ls_0, ls_1i, ls_1r, ls_1n, ls_1j, ls_1l, ls_2, ls_3, ls_4, ls_5, ls_6, ls_7, ls_8, ls_9, ls_10, ls_11, ls_12, nI_add, nI_ltI, nI_eq, nI_eq0, nI_lt0, nI_0lt, nI_n1, n1_nI, n1_lt, lt_n1, n1_0, n1_n1, n1_l0, if_true, if_false, ite_true, ite_false, bI_0, bI_1, not_true_eq_false, not_false_eq_true, Ew_i, Er_i, Lq_c, Lq_j, Lq_n, Nat.reduceAdd, Nat.zero_add, Nat.add_zero, Nat.lt_irrefl, Bool.false_eq_true, Nat.reduceEqDiff, Nat.reduceLT, Nat.reduceSub, Nat.reduceMul, Nat.one_ne_zero, C_53, C_54, C_55, C_56, C_57, C_58, C_59, C_60, C_77, C_94, C_255, C_416, C_427, C_438, C_439, C_440, C_521, C_522, C_523, C_540, C_544, C_545, C_546, C_547, N_54, N_55, N_56, N_57, N_58, N_59, N_60, N_77, N_94, N_255, N_416, N_427, N_438, N_439, N_440, N_521, N_522, N_523, N_540, N_544, N_545, N_546, N_547, F_53_9, F_53_10, F_53_11, F_53_12, F_53_13, F_53_14, F_53_15, F_53_16, F_53_19, F_53_20, F_53_21, F_53_22, F_53_23, F_53_24, F_53_25, F_53_27, F_53_28, F_53_29, F_53_30, F_53_41, F_53_42, F_53_43, Q_60, QC_60, QN_60, Q_77, QC_77, QN_77, Q_94, QC_94, QN_94, Q_255, QC_255, QN_255, Q_416, QC_416, QN_416, Q_427, QC_427, QN_427, Q_440, QC_440, QN_440, Q_523, QC_523, QN_523, Q_540, QC_540, QN_540, sh_setI', ln_setI', fr_setI', ai_setI', al_setI', aq_setI', nx_setI', sl_setI', sL_setI', sX_setI', cl_setI', sh_setR', ln_setR', fi_setR', ai_setR', al_setR', aq_setR', nx_setR', sl_setR', sL_setR', sX_setR', cl_setR', sh_setA', ln_setA', fi_setA', fr_setA', al_setA', aq_setA', nx_setA', sl_setA', sL_setA', sX_setA', cl_setA', sh_setL', ln_setL', fi_setL', fr_setL', ai_setL', aq_setL', nx_setL', sl_setL', sL_setL', sX_setL', cl_setL', sh_setQ', ln_setQ', fi_setQ', fr_setQ', ai_setQ', al_setQ', nx_setQ', sl_setQ', sL_setQ', sX_setQ', cl_setQ', ai_eq, ai_ne, al_eq, al_ne, aq_eq, aq_ne, fi_eq, fi_nk, fi_na, fr_eq, fr_nk, fr_na, up_eq, up_ne, hat, qb, q, hat1, q2, q3]
    · rcases L7.1 with ⟨l9, e9, z1, z2, z3, z4, z5, z6⟩ | z
      · exact Or.inl ⟨l9, e9, z1, z2, z3, by omega, z5, z6⟩
      · exact Or.inr z
