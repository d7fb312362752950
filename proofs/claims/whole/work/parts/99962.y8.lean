/-! ===== the reference: the text of work, whole ===== -/
theorem skH_L {tx : Nat → Nat} {len b k : Nat} (h : skH tx len b = some k) : atL tx len b := by
  obtain ⟨hg, -⟩ := skH_gt h
  refine Classical.byContradiction (fun hn => ?_)
  have hf : sp (ltP tx) len b = b := sp_fix hn
  omega
theorem mr_all {len n : Nat} {tx : Nat → Nat} (hl5 : len ≤ 150) (h16 : n ≤ 16) : ∀ (f o : Nat), o ≤ 6 → ∀ (w : WK) (a : Nat) (M : MM), MR M tx len a → SW M w → 4 * w.1 ≤ a → fi M 53 8 = nI o → ai M 57 0 = nI n →
    (∀ (d e0 : Nat) (Q : Nat → Prop) (L : AL) (b : AT), LpC d tx len Q L b → (∀ a, Q a → ¬ atL tx len a) → 31 ≤ d + o → sp (blP tx) len a = a → okx (wkP tx len n f 0 o w a) → ∃ N, Ev d (lp e0 b) (L, [], toH M) (.inl 1) (L, [], toH N) ∧ wkR M N tx len o (stW Q (wkP tx len n f 0 o w a))) ∧
    (∀ d, 31 ≤ d + o → okx (wkP tx len n f 1 o w a) → ∃ N, evC d 194 [.ref 53] (toH M) = some (.inl none, toH N) ∧ wkR M N tx len o (sgW tx len 59 (wkP tx len n f 1 o w a))) := by
  intro f
  induction f with
  | zero =>
    intro o ho w a M hR hW hw h8 h57
    have no : ∀ k, okx (wkP tx len n 0 k o w a) → False := fun k z => absurd (z 9 9 (by unfold wkP; rfl)) (by decide)
    exact ⟨fun d e0 Q L b _ _ _ _ z => absurd z (no _), fun d _ z => absurd z (no _)⟩
  | succ f ih =>
    intro o ho w a M hR hW hw h8 h57
    have hal : a ≤ len := hR.2.2.2.1
    refine ⟨fun d e0 Q L b hLC hQ hd hsa hok => ?_, fun d hd hok => ?_⟩
    · have eP : wkP tx len n (f + 1) 0 o w a = if atL tx len (sp (blP tx) len a) then bnd (wkP tx len n f 1 o w a) (fun w e => bnd (pSgn tx len 59 e) (fun _ e => wkP tx len n f 0 o w e)) else .inr (w, sp (blP tx) len a) := rfl
      rw [eP] at hok ⊢
      rw [hsa] at hok ⊢
      by_cases hL : atL tx len a
      · rw [if_pos hL] at hok ⊢
        have ex : bnd (wkP tx len n f 1 o w a) (fun w e => bnd (pSgn tx len 59 e) (fun _ e => wkP tx len n f 0 o w e)) = bnd (sgW tx len 59 (wkP tx len n f 1 o w a)) (fun w e => wkP tx len n f 0 o w e) := by
          unfold sgW
          simp only [bnd_as, bnd_r]
        rw [ex] at hok ⊢
        have hok1 : okx (wkP tx len n f 1 o w a) := okx_l (okx_l hok)
        obtain ⟨N1, e1, q1⟩ := (ih o ho w a M hR hW hw h8 h57).2 d hd hok1
        obtain ⟨N2, e2, q2⟩ := jr_blk (d := d) q1 (by omega)
        have hst := hLC.1 M N1 N2 a hR (fun z => hQ a z hL) q1.2.1.S q2.2.1.S e1 e2
        have hn : ∀ w' e, sgW tx len 59 (wkP tx len n f 1 o w a) = .inr (w', e) → 4 * w'.1 ≤ e ∧ e ≤ len := fun w' e z => by
          obtain ⟨w1, e', g1, g2⟩ := bnd_i z
          obtain ⟨u, e'', g3, g4⟩ := bnd_i g2
          cases g4
          obtain ⟨b1, b2, b3, b4, -, -⟩ := wk_wf f 1 o w _ hal w' e' g1
          obtain ⟨r1, r2⟩ := pSgn_le g3
          exact ⟨by omega, r2⟩
        obtain ⟨N3, e3, q3⟩ := jr_loop (e0 := e0) (f := f) (n := n) q2 hn hok hLC h57 (fun w a N h1 h2 h3 h4 h5 h6 h7 => (ih o ho w a N h1 h2 h3 h4 h5).1 d e0 Q L b hLC hQ hd h6 h7)
        rw [stW_b]
        exact ⟨N3, Ev_step hst e3, q3⟩
      · rw [if_neg hL]
        by_cases hq : Q a
        · rw [stW_t hq]
          exact ⟨M, Ev_exit (k := 0) (hLC.2 M (.inr a) hR (fun a' z => (by cases z; exact hq))), Frm.rf M, hR, fun w' e z => (by cases z; exact ⟨hW, h8⟩), w.1, by omega, hW.1⟩
        · rw [stW_f hq]
          have hk : skH tx len (sp (blP tx) len a) = none := by
            rw [hsa]
            cases hz : skH tx len a with
            | none => rfl
            | some k => exact absurd (skH_L hz) hL
          obtain ⟨N1, e1, q1⟩ := mr_none (d := d) (o := o) hR hW (by omega) (by omega) hk
          obtain ⟨N2, e2, q2⟩ := jr_blk (d := d) q1 (by omega)
          have hst := hLC.1 M N1 N2 a hR hq q1.2.1.S q2.2.1.S e1 e2
          rw [hsa] at q2
          have q2 : wkR M N2 tx len o (.inl (1, a)) := q2
          exact ⟨N2, Ev_step hst (Ev_exit (k := 0) (hLC.2 N2 _ q2.2.1 (fun a' z => (by cases z)))), q2⟩
    · have eP : wkP tx len n (f + 1) 1 o w a = (match skH tx len (sp (blP tx) len a) with
        | none => .inl (1, sp (blP tx) len a)
        | some k => if k = 6 then (if o = 6 then .inl (3, sp (blP tx) len a) else bnd (pNum tx len 0 20 (sp (ltP tx) len (sp (blP tx) len a))) (fun v e => bnd (pSgn tx len 91 e) (fun _ e => bnd (wkP tx len n f 0 (o + 1) (wkU w (6, v, 0)) e) (fun w2 e => bnd (pSgn tx len 93 e) (fun _ e => .inr (wkA w2 w.1 (w2.2 w.1).2.1, e))))))
          else if k < 4 then bnd (pNp tx len n (sp (ltP tx) len (sp (blP tx) len a))) (fun v e => .inr (wkU w (k, v, w.1 + 1), e))
          else .inr (wkU w (k, 0, w.1 + 1), sp (ltP tx) len (sp (blP tx) len a))) := rfl
      rw [eP] at hok ⊢
      cases hk : skH tx len (sp (blP tx) len a) with
      | none =>
        exact mr_none (d := d) (o := o) hR hW (by omega) (by omega) hk
      | some k =>
        rw [hk] at hok
        have hok : okx (if k = 6 then (if o = 6 then (.inl (3, sp (blP tx) len a) : PR WK) else bnd (pNum tx len 0 20 (sp (ltP tx) len (sp (blP tx) len a))) (fun v e => bnd (pSgn tx len 91 e) (fun _ e => bnd (wkP tx len n f 0 (o + 1) (wkU w (6, v, 0)) e) (fun w2 e => bnd (pSgn tx len 93 e) (fun _ e => .inr (wkA w2 w.1 (w2.2 w.1).2.1, e)))))) else if k < 4 then bnd (pNp tx len n (sp (ltP tx) len (sp (blP tx) len a))) (fun v e => .inr (wkU w (k, v, w.1 + 1), e)) else .inr (wkU w (k, 0, w.1 + 1), sp (ltP tx) len (sp (blP tx) len a))) := hok
        show ∃ N, _ ∧ wkR M N tx len o (sgW tx len 59 (if k = 6 then (if o = 6 then (.inl (3, sp (blP tx) len a) : PR WK) else bnd (pNum tx len 0 20 (sp (ltP tx) len (sp (blP tx) len a))) (fun v e => bnd (pSgn tx len 91 e) (fun _ e => bnd (wkP tx len n f 0 (o + 1) (wkU w (6, v, 0)) e) (fun w2 e => bnd (pSgn tx len 93 e) (fun _ e => .inr (wkA w2 w.1 (w2.2 w.1).2.1, e)))))) else if k < 4 then bnd (pNp tx len n (sp (ltP tx) len (sp (blP tx) len a))) (fun v e => .inr (wkU w (k, v, w.1 + 1), e)) else .inr (wkU w (k, 0, w.1 + 1), sp (ltP tx) len (sp (blP tx) len a))))
        by_cases h6 : k = 6
        · rw [if_pos h6] at hok ⊢
          rw [h6] at hk
          by_cases ho6 : o = 6
          · rw [if_pos ho6]
            exact mr_six (d := d) (o := o) hR hW (by omega) (by omega) (by rw [h8, ho6]) hk
          · rw [if_neg ho6] at hok ⊢
            exact mr_again (d := d) hl5 hR hW hw (by omega) h57 h8 (by omega) hk hok (fun L hLC w a N h1 h2 h3 h4 h5 h6 h7 => (ih (o + 1) (by omega) w a N h1 h2 h3 h4 h5).1 (d - 1) 116 _ L _ hLC (fun a z y => by omega) (by omega) h6 h7)
        · rw [if_neg h6]
          exact mr_one (d := d) hR hW (by omega) (by omega) h57 h16 h8 hk h6
theorem stW_pWk {tx : Nat → Nat} {len n : Nat} : stW (fun e => ¬ e < len) (wkP tx len n 604 0 0 (0, fun _ => (0, 0, 0)) (sp (blP tx) len 0)) = pWk tx len n := by
  unfold pWk
  cases hx : wkP tx len n 604 0 0 (0, fun _ => (0, 0, 0)) (sp (blP tx) len 0) with
  | inl q => rfl
  | inr q =>
    obtain ⟨w, e⟩ := q
    have hs := wk0_sp 604 0 _ _ w e hx
    rw [bnd_r, hs]
    by_cases h : e < len
    · rw [stW_f (fun z => z h), if_pos h]
    · rw [stW_t h, if_neg h]
def wk0 : Nat → Prop := fun k => k = 0 ∨ k = 1 ∨ k = 2 ∨ k = 3 ∨ rdI k ∨ k = 26
theorem wk_pre {d n : Nat} {M : MM} {tx : Nat → Nat} (hS : SH M) (hd : 24 ≤ d) (hb : TPb M tx) (hn : n ≤ 600) : ∃ M0 N, evC d 176 [.ref 53, .int (nI n)] (toH (setI M 53 0 (nI 0))) = some (.inl none, toH M0) ∧ SH M0 ∧ N = setI M0 53 26 (nI 0) ∧ MR N tx n (sp (blP tx) n 0) ∧ Frm skA wk0 M N ∧ SW N (0, fun _ => (0, 0, 0)) ∧ fi N 53 8 = nI 0 ∧ fi N 53 0 = nI 0 ∧ fi N 53 1 = nI 0 := by
  obtain ⟨s1, s2⟩ := m_starts (d := d) (n := n) (M := setI M 53 0 (nI 0)) (tx := tx) (by rw [SH_setI]; exact hS) (fun i hi => by rw [ai_setI]; exact hb i hi) hn (by omega)
  have hst : Frm skA wk0 M (setI (stM (setI M 53 0 (nI 0)) n 0) 53 4 (nI (sp (blP tx) n 0))) := (Frm.I (Or.inl rfl)).tr (st_Frm.mono (fun _ z => z) (fun k z => z.elim (fun z => Or.inr (Or.inl z)) (fun z => z.elim (fun z => Or.inr (Or.inr (Or.inl z))) (fun z => Or.inr (Or.inr (Or.inr (Or.inr (Or.inl z))))))))
  have g0 : fi (setI (stM (setI M 53 0 (nI 0)) n 0) 53 4 (nI (sp (blP tx) n 0))) 53 0 = nI 0 := by
    unfold stM
    rw [fi_nk (by decide), fi_nk (by decide), fi_nk (by decide), fi_nk (by decide), fi_nk (by decide), fi_nk (by decide), fi_nk (by decide), fi_nk (by decide), fi_eq]
  have g1 : fi (setI (stM (setI M 53 0 (nI 0)) n 0) 53 4 (nI (sp (blP tx) n 0))) 53 1 = nI 0 := by
    unfold stM
    rw [fi_nk (by decide), fi_nk (by decide), fi_nk (by decide), fi_nk (by decide), fi_nk (by decide), fi_nk (by decide), fi_nk (by decide), fi_eq]
  have g8 : fi (setI (stM (setI M 53 0 (nI 0)) n 0) 53 4 (nI (sp (blP tx) n 0))) 53 8 = nI 0 := by
    unfold stM
    rw [fi_nk (by decide), fi_eq]
  generalize setI (stM (setI M 53 0 (nI 0)) n 0) 53 4 (nI (sp (blP tx) n 0)) = M0 at *
  refine ⟨M0, _, s1, s2.1, rfl, s2.fr (A := skA) (I := fun k => k = 26) (Frm.I rfl) (by rintro ⟨z, -⟩; omega) (by decide) (by decide) (by decide), hst.tr (Frm.I (Or.inr (Or.inr (Or.inr (Or.inr (Or.inr rfl)))))), ⟨fi_eq _ _ _ _, fun k hk => absurd hk (Nat.not_lt_zero k)⟩, ?_, ?_, ?_⟩
  · rw [fi_nk (by decide)]; exact g8
  · rw [fi_nk (by decide)]; exact g0
  · rw [fi_nk (by decide)]; exact g1
theorem wk_LpC {d len : Nat} {tx : Nat → Nat} {x : Int32} (hd : 9 ≤ d) : LpC d tx len (fun e => ¬ e < len) [.ref 53, .int x] t_X10_work_l72b := by
  refine ⟨fun M N N' a h1 h2 s1 s2 c1 c2 => ?_, fun M s h1 h2 => ?_⟩
  · have s0 := h1.1
    have at1 := h1.2.2.1
    have f1 := h1.2.2.2.2
    have sz := h1.2.1.1
    have hl6 := h1.2.1.2.1
    have hlt : a < len := Classical.byContradiction h2
    simp (disch := first | assumption | (simp (disch := first | assumption | omega) only [sh_setI', ln_setI', fr_setI', ai_setI', al_setI', aq_setI', nx_setI', sl_setI', sL_setI', sX_setI', cl_setI', sh_setR', ln_setR', fi_setR', ai_setR', al_setR', aq_setR', nx_setR', sl_setR', sL_setR', sX_setR', cl_setR', sh_setA', ln_setA', fi_setA', fr_setA', al_setA', aq_setA', nx_setA', sl_setA', sL_setA', sX_setA', cl_setA', sh_setL', ln_setL', fi_setL', fr_setL', ai_setL', aq_setL', nx_setL', sl_setL', sL_setL', sX_setL', cl_setL', sh_setQ', ln_setQ', fi_setQ', fr_setQ', ai_setQ', al_setQ', nx_setQ', sl_setQ', sL_setQ', sX_setQ', cl_setQ', ai_eq, ai_ne, al_eq, al_ne, aq_eq, aq_ne, fi_eq, fi_nk, fi_na, fr_eq, fr_nk, fr_na, up_eq, up_ne, SH_setI', SH_setA', SH_setL', TX_4, TX_5, TX_6, TX_8, List.length_cons, List.length_nil, C_53, C_54, C_55, C_56, C_57, C_58, C_59, C_60, C_77, C_94, C_255, C_416, C_427, C_438, C_439, C_440, C_521, C_522, C_523, C_540, C_544, C_545, C_546, C_547, N_54, N_55, N_56, N_57, N_58, N_59, N_60, N_77, N_94, N_255, N_416, N_427, N_438, N_439, N_440, N_521, N_522, N_523, N_540, N_544, N_545, N_546, N_547, F_53_9, F_53_10, F_53_11, F_53_12, F_53_13, F_53_14, F_53_15, F_53_16, F_53_19, F_53_20, F_53_21, F_53_22, F_53_23, F_53_24, F_53_25, F_53_27, F_53_28, F_53_29, F_53_30, F_53_41, F_53_42, F_53_43, Q_60, QC_60, QN_60, Q_77, QC_77, QN_77, Q_94, QC_94, QN_94, Q_255, QC_255, QN_255, Q_416, QC_416, QN_416, Q_427, QC_427, QN_427, Q_440, QC_440, QN_440, Q_523, QC_523, QN_523, Q_540, QC_540, QN_540] <;> first | omega | assumption) | omega) only [Ev, ev_sqb, t_X10_work_k25, x_iconst_1, y_iconst_1, x_goto, y_goto, t_X10_work_l72b, x_aload_n0, y_aload_n0, x_gf_9_5, y_gf_9_5, x_ifCond_ne, y_ifCond_ne, x_gf_9_4, y_gf_9_4, x_gf_9_2, y_gf_9_2, x_if_icmp_ge, y_if_icmp_ge, x_iv0, y_iv0, t_X10_work_k101, x_ifCond_eq, y_ifCond_eq, y_iret, x_iconst_m1, y_iconst_m1, x_pf_9_3, y_pf_9_3, x_gf_9_27, y_gf_9_27, x_gf_9_29, y_gf_9_29, x_gf_9_32, y_gf_9_32, x_aaload3, y_aaload3, x_aaload4, y_aaload4, x_is2, y_is2, x_dup_i, y_dup_i, x_dup_r, y_dup_r, x_iadd, y_iadd, x_pf_9_32, y_pf_9_32, x_iconst_0, y_iconst_0, x_pf_9_36, y_pf_9_36, x_pf_9_37, y_pf_9_37, x_pf_9_33, y_pf_9_33, x_gf_9_26, y_gf_9_26, x_iv2, y_iv2, x_gf_9_37, y_gf_9_37, t_X10_work_k30, x_iv3, y_iv3, x_bipush_16, y_bipush_16, x_if_icmp_ne, y_if_icmp_ne, x_pf_9_1, y_pf_9_1, x_bipush_m20, y_bipush_m20, x_iload_n1, y_iload_n1, x_iv1, y_iv1, x_pf_9_26, y_pf_9_26, t_X10_work, x_pf_9_0, y_pf_9_0, x_gf_9_1, y_gf_9_1, x_is3, y_is3, x_sipush_150, y_sipush_150, x_if_icmp_le, y_if_icmp_le, ev_bk, sq0, sq1, sq2, bk0, bk1, bk2, sq_if, bk_if, rt_if, cr_if, cr0, cr1, crE, rt1, rtE, va_rf_s, va_rf_n, nI_add, nI_ltI, nI_eq, nI_eq0, nI_lt0, nI_0lt, nI_n1, n1_nI, n1_lt, lt_n1, n1_0, n1_n1, n1_l0, if_true, if_false, ite_true, ite_false, bI_0, bI_1, not_true_eq_false, not_false_eq_true, Ew_i, Er_i, Lq_c, Lq_j, Lq_n, Nat.reduceAdd, Nat.zero_add, Nat.add_zero, Nat.lt_irrefl, Bool.false_eq_true, Nat.reduceEqDiff, Nat.reduceLT, Nat.reduceSub, Nat.reduceMul, Nat.one_ne_zero, C_53, C_54, C_55, C_56, C_57, C_58, C_59, C_60, C_77, C_94, C_255, C_416, C_427, C_438, C_439, C_440, C_521, C_522, C_523, C_540, C_544, C_545, C_546, C_547, N_54, N_55, N_56, N_57, N_58, N_59, N_60, N_77, N_94, N_255, N_416, N_427, N_438, N_439, N_440, N_521, N_522, N_523, N_540, N_544, N_545, N_546, N_547, F_53_9, F_53_10, F_53_11, F_53_12, F_53_13, F_53_14, F_53_15, F_53_16, F_53_19, F_53_20, F_53_21, F_53_22, F_53_23, F_53_24, F_53_25, F_53_27, F_53_28, F_53_29, F_53_30, F_53_41, F_53_42, F_53_43, Q_60, QC_60, QN_60, Q_77, QC_77, QN_77, Q_94, QC_94, QN_94, Q_255, QC_255, QN_255, Q_416, QC_416, QN_416, Q_427, QC_427, QN_427, Q_440, QC_440, QN_440, Q_523, QC_523, QN_523, Q_540, QC_540, QN_540, sh_setI', ln_setI', fr_setI', ai_setI', al_setI', aq_setI', nx_setI', sl_setI', sL_setI', sX_setI', cl_setI', sh_setR', ln_setR', fi_setR', ai_setR', al_setR', aq_setR', nx_setR', sl_setR', sL_setR', sX_setR', cl_setR', sh_setA', ln_setA', fi_setA', fr_setA', al_setA', aq_setA', nx_setA', sl_setA', sL_setA', sX_setA', cl_setA', sh_setL', ln_setL', fi_setL', fr_setL', ai_setL', aq_setL', nx_setL', sl_setL', sL_setL', sX_setL', cl_setL', sh_setQ', ln_setQ', fi_setQ', fr_setQ', ai_setQ', al_setQ', nx_setQ', sl_setQ', sL_setQ', sX_setQ', cl_setQ', ai_eq, ai_ne, al_eq, al_ne, aq_eq, aq_ne, fi_eq, fi_nk, fi_na, fr_eq, fr_nk, fr_na, up_eq, up_ne, f1, at1, sz, hlt, c1, c2]
  · cases s with
    | inl q =>
      have h1 : MF M tx len q.1 q.2 := h1
      have s0 := h1.1
      have nP := h1.n
      simp (disch := first | assumption | (simp (disch := first | assumption | omega) only [sh_setI', ln_setI', fr_setI', ai_setI', al_setI', aq_setI', nx_setI', sl_setI', sL_setI', sX_setI', cl_setI', sh_setR', ln_setR', fi_setR', ai_setR', al_setR', aq_setR', nx_setR', sl_setR', sL_setR', sX_setR', cl_setR', sh_setA', ln_setA', fi_setA', fr_setA', al_setA', aq_setA', nx_setA', sl_setA', sL_setA', sX_setA', cl_setA', sh_setL', ln_setL', fi_setL', fr_setL', ai_setL', aq_setL', nx_setL', sl_setL', sL_setL', sX_setL', cl_setL', sh_setQ', ln_setQ', fi_setQ', fr_setQ', ai_setQ', al_setQ', nx_setQ', sl_setQ', sL_setQ', sX_setQ', cl_setQ', ai_eq, ai_ne, al_eq, al_ne, aq_eq, aq_ne, fi_eq, fi_nk, fi_na, fr_eq, fr_nk, fr_na, up_eq, up_ne, SH_setI', SH_setA', SH_setL', TX_4, TX_5, TX_6, TX_8, List.length_cons, List.length_nil, C_53, C_54, C_55, C_56, C_57, C_58, C_59, C_60, C_77, C_94, C_255, C_416, C_427, C_438, C_439, C_440, C_521, C_522, C_523, C_540, C_544, C_545, C_546, C_547, N_54, N_55, N_56, N_57, N_58, N_59, N_60, N_77, N_94, N_255, N_416, N_427, N_438, N_439, N_440, N_521, N_522, N_523, N_540, N_544, N_545, N_546, N_547, F_53_9, F_53_10, F_53_11, F_53_12, F_53_13, F_53_14, F_53_15, F_53_16, F_53_19, F_53_20, F_53_21, F_53_22, F_53_23, F_53_24, F_53_25, F_53_27, F_53_28, F_53_29, F_53_30, F_53_41, F_53_42, F_53_43, Q_60, QC_60, QN_60, Q_77, QC_77, QN_77, Q_94, QC_94, QN_94, Q_255, QC_255, QN_255, Q_416, QC_416, QN_416, Q_427, QC_427, QN_427, Q_440, QC_440, QN_440, Q_523, QC_523, QN_523, Q_540, QC_540, QN_540] <;> first | omega | assumption) | omega) only [Ev, ev_sqb, t_X10_work_k25, x_iconst_1, y_iconst_1, x_goto, y_goto, t_X10_work_l72b, x_aload_n0, y_aload_n0, x_gf_9_5, y_gf_9_5, x_ifCond_ne, y_ifCond_ne, x_gf_9_4, y_gf_9_4, x_gf_9_2, y_gf_9_2, x_if_icmp_ge, y_if_icmp_ge, x_iv0, y_iv0, t_X10_work_k101, x_ifCond_eq, y_ifCond_eq, y_iret, x_iconst_m1, y_iconst_m1, x_pf_9_3, y_pf_9_3, x_gf_9_27, y_gf_9_27, x_gf_9_29, y_gf_9_29, x_gf_9_32, y_gf_9_32, x_aaload3, y_aaload3, x_aaload4, y_aaload4, x_is2, y_is2, x_dup_i, y_dup_i, x_dup_r, y_dup_r, x_iadd, y_iadd, x_pf_9_32, y_pf_9_32, x_iconst_0, y_iconst_0, x_pf_9_36, y_pf_9_36, x_pf_9_37, y_pf_9_37, x_pf_9_33, y_pf_9_33, x_gf_9_26, y_gf_9_26, x_iv2, y_iv2, x_gf_9_37, y_gf_9_37, t_X10_work_k30, x_iv3, y_iv3, x_bipush_16, y_bipush_16, x_if_icmp_ne, y_if_icmp_ne, x_pf_9_1, y_pf_9_1, x_bipush_m20, y_bipush_m20, x_iload_n1, y_iload_n1, x_iv1, y_iv1, x_pf_9_26, y_pf_9_26, t_X10_work, x_pf_9_0, y_pf_9_0, x_gf_9_1, y_gf_9_1, x_is3, y_is3, x_sipush_150, y_sipush_150, x_if_icmp_le, y_if_icmp_le, ev_bk, sq0, sq1, sq2, bk0, bk1, bk2, sq_if, bk_if, rt_if, cr_if, cr0, cr1, crE, rt1, rtE, va_rf_s, va_rf_n, nI_add, nI_ltI, nI_eq, nI_eq0, nI_lt0, nI_0lt, nI_n1, n1_nI, n1_lt, lt_n1, n1_0, n1_n1, n1_l0, if_true, if_false, ite_true, ite_false, bI_0, bI_1, not_true_eq_false, not_false_eq_true, Ew_i, Er_i, Lq_c, Lq_j, Lq_n, Nat.reduceAdd, Nat.zero_add, Nat.add_zero, Nat.lt_irrefl, Bool.false_eq_true, Nat.reduceEqDiff, Nat.reduceLT, Nat.reduceSub, Nat.reduceMul, Nat.one_ne_zero, C_53, C_54, C_55, C_56, C_57, C_58, C_59, C_60, C_77, C_94, C_255, C_416, C_427, C_438, C_439, C_440, C_521, C_522, C_523, C_540, C_544, C_545, C_546, C_547, N_54, N_55, N_56, N_57, N_58, N_59, N_60, N_77, N_94, N_255, N_416, N_427, N_438, N_439, N_440, N_521, N_522, N_523, N_540, N_544, N_545, N_546, N_547, F_53_9, F_53_10, F_53_11, F_53_12, F_53_13, F_53_14, F_53_15, F_53_16, F_53_19, F_53_20, F_53_21, F_53_22, F_53_23, F_53_24, F_53_25, F_53_27, F_53_28, F_53_29, F_53_30, F_53_41, F_53_42, F_53_43, Q_60, QC_60, QN_60, Q_77, QC_77, QN_77, Q_94, QC_94, QN_94, Q_255, QC_255, QN_255, Q_416, QC_416, QN_416, Q_427, QC_427, QN_427, Q_440, QC_440, QN_440, Q_523, QC_523, QN_523, Q_540, QC_540, QN_540, sh_setI', ln_setI', fr_setI', ai_setI', al_setI', aq_setI', nx_setI', sl_setI', sL_setI', sX_setI', cl_setI', sh_setR', ln_setR', fi_setR', ai_setR', al_setR', aq_setR', nx_setR', sl_setR', sL_setR', sX_setR', cl_setR', sh_setA', ln_setA', fi_setA', fr_setA', al_setA', aq_setA', nx_setA', sl_setA', sL_setA', sX_setA', cl_setA', sh_setL', ln_setL', fi_setL', fr_setL', ai_setL', aq_setL', nx_setL', sl_setL', sL_setL', sX_setL', cl_setL', sh_setQ', ln_setQ', fi_setQ', fr_setQ', ai_setQ', al_setQ', nx_setQ', sl_setQ', sL_setQ', sX_setQ', cl_setQ', ai_eq, ai_ne, al_eq, al_ne, aq_eq, aq_ne, fi_eq, fi_nk, fi_na, fr_eq, fr_nk, fr_na, up_eq, up_ne, nP]
    | inr a =>
      have h1 : MR M tx len a := h1
      have s0 := h1.1
      have at1 := h1.2.2.1
      have f1 := h1.2.2.2.2
      have sz := h1.2.1.1
      have hl6 := h1.2.1.2.1
      have hle := h1.2.2.2.1
      have hlt : ¬ a < len := h2 a rfl
      simp (disch := first | assumption | (simp (disch := first | assumption | omega) only [sh_setI', ln_setI', fr_setI', ai_setI', al_setI', aq_setI', nx_setI', sl_setI', sL_setI', sX_setI', cl_setI', sh_setR', ln_setR', fi_setR', ai_setR', al_setR', aq_setR', nx_setR', sl_setR', sL_setR', sX_setR', cl_setR', sh_setA', ln_setA', fi_setA', fr_setA', al_setA', aq_setA', nx_setA', sl_setA', sL_setA', sX_setA', cl_setA', sh_setL', ln_setL', fi_setL', fr_setL', ai_setL', aq_setL', nx_setL', sl_setL', sL_setL', sX_setL', cl_setL', sh_setQ', ln_setQ', fi_setQ', fr_setQ', ai_setQ', al_setQ', nx_setQ', sl_setQ', sL_setQ', sX_setQ', cl_setQ', ai_eq, ai_ne, al_eq, al_ne, aq_eq, aq_ne, fi_eq, fi_nk, fi_na, fr_eq, fr_nk, fr_na, up_eq, up_ne, SH_setI', SH_setA', SH_setL', TX_4, TX_5, TX_6, TX_8, List.length_cons, List.length_nil, C_53, C_54, C_55, C_56, C_57, C_58, C_59, C_60, C_77, C_94, C_255, C_416, C_427, C_438, C_439, C_440, C_521, C_522, C_523, C_540, C_544, C_545, C_546, C_547, N_54, N_55, N_56, N_57, N_58, N_59, N_60, N_77, N_94, N_255, N_416, N_427, N_438, N_439, N_440, N_521, N_522, N_523, N_540, N_544, N_545, N_546, N_547, F_53_9, F_53_10, F_53_11, F_53_12, F_53_13, F_53_14, F_53_15, F_53_16, F_53_19, F_53_20, F_53_21, F_53_22, F_53_23, F_53_24, F_53_25, F_53_27, F_53_28, F_53_29, F_53_30, F_53_41, F_53_42, F_53_43, Q_60, QC_60, QN_60, Q_77, QC_77, QN_77, Q_94, QC_94, QN_94, Q_255, QC_255, QN_255, Q_416, QC_416, QN_416, Q_427, QC_427, QN_427, Q_440, QC_440, QN_440, Q_523, QC_523, QN_523, Q_540, QC_540, QN_540] <;> first | omega | assumption) | omega) only [Ev, ev_sqb, t_X10_work_k25, x_iconst_1, y_iconst_1, x_goto, y_goto, t_X10_work_l72b, x_aload_n0, y_aload_n0, x_gf_9_5, y_gf_9_5, x_ifCond_ne, y_ifCond_ne, x_gf_9_4, y_gf_9_4, x_gf_9_2, y_gf_9_2, x_if_icmp_ge, y_if_icmp_ge, x_iv0, y_iv0, t_X10_work_k101, x_ifCond_eq, y_ifCond_eq, y_iret, x_iconst_m1, y_iconst_m1, x_pf_9_3, y_pf_9_3, x_gf_9_27, y_gf_9_27, x_gf_9_29, y_gf_9_29, x_gf_9_32, y_gf_9_32, x_aaload3, y_aaload3, x_aaload4, y_aaload4, x_is2, y_is2, x_dup_i, y_dup_i, x_dup_r, y_dup_r, x_iadd, y_iadd, x_pf_9_32, y_pf_9_32, x_iconst_0, y_iconst_0, x_pf_9_36, y_pf_9_36, x_pf_9_37, y_pf_9_37, x_pf_9_33, y_pf_9_33, x_gf_9_26, y_gf_9_26, x_iv2, y_iv2, x_gf_9_37, y_gf_9_37, t_X10_work_k30, x_iv3, y_iv3, x_bipush_16, y_bipush_16, x_if_icmp_ne, y_if_icmp_ne, x_pf_9_1, y_pf_9_1, x_bipush_m20, y_bipush_m20, x_iload_n1, y_iload_n1, x_iv1, y_iv1, x_pf_9_26, y_pf_9_26, t_X10_work, x_pf_9_0, y_pf_9_0, x_gf_9_1, y_gf_9_1, x_is3, y_is3, x_sipush_150, y_sipush_150, x_if_icmp_le, y_if_icmp_le, ev_bk, sq0, sq1, sq2, bk0, bk1, bk2, sq_if, bk_if, rt_if, cr_if, cr0, cr1, crE, rt1, rtE, va_rf_s, va_rf_n, nI_add, nI_ltI, nI_eq, nI_eq0, nI_lt0, nI_0lt, nI_n1, n1_nI, n1_lt, lt_n1, n1_0, n1_n1, n1_l0, if_true, if_false, ite_true, ite_false, bI_0, bI_1, not_true_eq_false, not_false_eq_true, Ew_i, Er_i, Lq_c, Lq_j, Lq_n, Nat.reduceAdd, Nat.zero_add, Nat.add_zero, Nat.lt_irrefl, Bool.false_eq_true, Nat.reduceEqDiff, Nat.reduceLT, Nat.reduceSub, Nat.reduceMul, Nat.one_ne_zero, C_53, C_54, C_55, C_56, C_57, C_58, C_59, C_60, C_77, C_94, C_255, C_416, C_427, C_438, C_439, C_440, C_521, C_522, C_523, C_540, C_544, C_545, C_546, C_547, N_54, N_55, N_56, N_57, N_58, N_59, N_60, N_77, N_94, N_255, N_416, N_427, N_438, N_439, N_440, N_521, N_522, N_523, N_540, N_544, N_545, N_546, N_547, F_53_9, F_53_10, F_53_11, F_53_12, F_53_13, F_53_14, F_53_15, F_53_16, F_53_19, F_53_20, F_53_21, F_53_22, F_53_23, F_53_24, F_53_25, F_53_27, F_53_28, F_53_29, F_53_30, F_53_41, F_53_42, F_53_43, Q_60, QC_60, QN_60, Q_77, QC_77, QN_77, Q_94, QC_94, QN_94, Q_255, QC_255, QN_255, Q_416, QC_416, QN_416, Q_427, QC_427, QN_427, Q_440, QC_440, QN_440, Q_523, QC_523, QN_523, Q_540, QC_540, QN_540, sh_setI', ln_setI', fr_setI', ai_setI', al_setI', aq_setI', nx_setI', sl_setI', sL_setI', sX_setI', cl_setI', sh_setR', ln_setR', fi_setR', ai_setR', al_setR', aq_setR', nx_setR', sl_setR', sL_setR', sX_setR', cl_setR', sh_setA', ln_setA', fi_setA', fr_setA', al_setA', aq_setA', nx_setA', sl_setA', sL_setA', sX_setA', cl_setA', sh_setL', ln_setL', fi_setL', fr_setL', ai_setL', aq_setL', nx_setL', sl_setL', sL_setL', sX_setL', cl_setL', sh_setQ', ln_setQ', fi_setQ', fr_setQ', ai_setQ', al_setQ', nx_setQ', sl_setQ', sL_setQ', sX_setQ', cl_setQ', ai_eq, ai_ne, al_eq, al_ne, aq_eq, aq_ne, fi_eq, fi_nk, fi_na, fr_eq, fr_nk, fr_na, up_eq, up_ne, f1, at1, sz, hlt]
