/-! ===== the reference: steps, one behind the other ===== -/
noncomputable def stW (Q : Nat → Prop) (x : PR WK) : PR WK := bnd x (fun w e => @ite _ (Q e) (Classical.propDecidable _) (.inr (w, e)) (.inl (1, e)))
theorem stW_l (Q : Nat → Prop) (q : Nat × Nat) : stW Q (.inl q) = .inl q := rfl
theorem stW_t {Q : Nat → Prop} {w : WK} {e : Nat} (h : Q e) : stW Q (.inr (w, e)) = .inr (w, e) := if_pos h
theorem stW_f {Q : Nat → Prop} {w : WK} {e : Nat} (h : ¬ Q e) : stW Q (.inr (w, e)) = .inl (1, e) := if_neg h
theorem stW_b {α : Type} {Q : Nat → Prop} (x : PR α) (g : α → Nat → PR WK) : stW Q (bnd x g) = bnd x (fun v e => stW Q (g v e)) := by
  unfold stW
  rw [bnd_as]
/-- a loop that reads steps -/
def LpC (d : Nat) (tx : Nat → Nat) (len : Nat) (Q : Nat → Prop) (L : AL) (b : AT) : Prop := (∀ M N N' a, MR M tx len a → ¬ Q a → SH N → SH N' → evC d 194 [.ref 53] (toH M) = some (.inl none, toH N) → evC d 164 [.ref 53] (toH N) = some (.inl none, toH N') → Ev d b (L, [], toH M) (.inl 1) (L, [], toH N')) ∧ (∀ M s, RSt M tx len s → (∀ a, s = .inr a → Q a) → Ev d b (L, [], toH M) (.inl 2) (L, [], toH M))
theorem wkR.tr {M N N' : MM} {tx : Nat → Nat} {len o : Nat} {x y : PR WK} (h : wkR M N tx len o x) (g : wkR N N' tx len o y) : wkR M N' tx len o y := ⟨h.1.tr g.1, g.2⟩
theorem skF57 {M N : MM} {n : Nat} (F : Frm skA skF M N) (h : ai M 57 0 = nI n) : ai N 57 0 = nI n := by
  rw [F.2.2.1 57 (by rintro ⟨z, -⟩; omega)]; exact h
theorem jr_loop {d f o len n e0 : Nat} {M N : MM} {tx : Nat → Nat} {x : PR WK} {Q : Nat → Prop} {L : AL} {b : AT} (h : wkR M N tx len o (bnd x (fun w e => .inr (w, sp (blP tx) len e)))) (hn : ∀ w e, x = .inr (w, e) → 4 * w.1 ≤ e ∧ e ≤ len) (hok : okx (bnd x (fun w e => wkP tx len n f 0 o w e))) (hLC : LpC d tx len Q L b) (h57 : ai M 57 0 = nI n)
    (ih : ∀ w a N, MR N tx len a → SW N w → 4 * w.1 ≤ a → fi N 53 8 = nI o → ai N 57 0 = nI n → sp (blP tx) len a = a → okx (wkP tx len n f 0 o w a) → ∃ N', Ev d (lp e0 b) (L, [], toH N) (.inl 1) (L, [], toH N') ∧ wkR N N' tx len o (stW Q (wkP tx len n f 0 o w a))) : ∃ N', Ev d (lp e0 b) (L, [], toH N) (.inl 1) (L, [], toH N') ∧ wkR M N' tx len o (bnd x (fun w e => stW Q (wkP tx len n f 0 o w e))) := by
  cases hx : x with
  | inl q =>
    rw [hx] at h
    exact ⟨N, Ev_exit (k := 0) (hLC.2 N _ h.2.1 (fun a z => (by cases z))), h⟩
  | inr q =>
    obtain ⟨w, e⟩ := q
    obtain ⟨h1, h2⟩ := hn w e hx
    have hok2 := okx_g hok hx
    rw [hx] at h
    obtain ⟨s1, s2⟩ := h.2.2.1 w _ rfl
    have hg : e ≤ sp (blP tx) len e := sp_ge e
    rw [← wkP_sp] at hok2
    obtain ⟨N', g1, g2⟩ := ih w (sp (blP tx) len e) N h.2.1 s1 (by omega) s2 (skF57 h.1 h57) (sp_fix sp_end) hok2
    rw [wkP_sp] at g2
    exact ⟨N', g1, h.tr g2⟩
theorem wk0_sp {tx : Nat → Nat} {len n : Nat} : ∀ (f o : Nat) (w : WK) (a : Nat) (w' : WK) (e : Nat), wkP tx len n f 0 o w a = .inr (w', e) → sp (blP tx) len e = e := by
  intro f
  induction f with
  | zero => intro o w a w' e h; cases h
  | succ f ih =>
    intro o w a w' e h
    unfold wkP at h
    by_cases hL : atL tx len (sp (blP tx) len a)
    · rw [if_pos hL] at h
      obtain ⟨w1, e1, h1, h⟩ := bnd_i h
      obtain ⟨u, e2, h2, h⟩ := bnd_i h
      exact ih _ _ _ _ _ h
    · rw [if_neg hL] at h
      cases h
      exact sp_fix sp_end
theorem stW_93 {tx : Nat → Nat} {len n f o a : Nat} {w : WK} : sgW tx len 93 (stW (fun e => e < len ∧ tx e = 93) (wkP tx len n f 0 o w a)) = sgW tx len 93 (wkP tx len n f 0 o w a) := by
  cases hx : wkP tx len n f 0 o w a with
  | inl q => rfl
  | inr q =>
    obtain ⟨w', e⟩ := q
    have hs := wk0_sp f o w a w' e hx
    by_cases h : e < len ∧ tx e = 93
    · rw [stW_t h]
    · rw [stW_f h]
      unfold sgW
      rw [bnd_l, bnd_r]
      unfold pSgn
      rw [hs, if_neg h]; rfl
theorem Lq_all {a b : AL} (h : Lq a b) (hn : ∀ (i : Nat) (v : Value), a[i]? = some v → v ≠ jk) : b = a := by
  apply List.ext_getElem?
  intro i
  cases hi : a[i]? with
  | some v => exact h.2 i v hi (hn i v hi)
  | none =>
    rw [List.getElem?_eq_none_iff] at hi ⊢
    rw [← h.1]; exact hi
theorem mr_six {d len o a : Nat} {M : MM} {tx : Nat → Nat} {w : WK} (hR : MR M tx len a) (hW : SW M w) (hw : w.1 ≤ 80) (hd : 24 ≤ d) (ho : fi M 53 8 = nI 6) (hk : skH tx len (sp (blP tx) len a) = some 6) : ∃ N, evC d 194 [.ref 53] (toH M) = some (.inl none, toH N) ∧ wkR M N tx len o (.inl (3, sp (blP tx) len a)) := by
  have hS := hR.1
  have hble : sp (blP tx) len a ≤ len := sp_le hR.2.2.2.1
  have hkh := m_stepHere (d := d - 1) hR (by omega)
  rw [hk] at hkh
  have R1 := hR.at (e := sp (blP tx) len a) hble
  have m1 : fi (setI M 53 4 (nI (sp (blP tx) len a))) 53 26 = nI w.1 := by rw [fi_nk (by decide)]; exact hW.1
  have o1 : fi (setI M 53 4 (nI (sp (blP tx) len a))) 53 8 = nI 6 := by rw [fi_nk (by decide)]; exact ho
  have F1 : Frm skA skF M (setI M 53 4 (nI (sp (blP tx) len a))) := Frm.I (Or.inl (Or.inl rfl))
  generalize sp (blP tx) len a = b at *
  generalize setI M 53 4 (nI b) = M1 at *
  have S1 := R1.1
  have hop := m_opens_f (d := d - 1) R1 (by omega) o1
  have hF : MF (psU M1 b (nI 3) (nI b)) tx len 3 b := R1.bad hble (by omega) (by omega)
  have FF : Frm skA skF M (psU M1 b (nI 3) (nI b)) := F1.tr (ps_Frm.mono (fun b z => z.elim) (fun k z => Or.inl z))
  have m2 : fi (psU M1 b (nI 3) (nI b)) 53 26 = nI w.1 := by
    rw [(ps_Frm (M := M1) (a := b) (x := nI 3) (y := nI b)).2.2.2 53 26 (fun z => by unfold pI at z; omega)]; exact m1
  generalize psU M1 b (nI 3) (nI b) = P at *
  have SP := hF.1
  have nP := hF.n
  refine ⟨P, ?_, FF, hF, fun w e z => (by cases z), w.1, hw, m2⟩
  rw [E_X10_readsStep (by omega)]
  simp (disch := first | assumption | (simp (disch := first | assumption | omega) only [sh_setI', ln_setI', fr_setI', ai_setI', al_setI', aq_setI', nx_setI', sl_setI', sL_setI', sX_setI', cl_setI', sh_setR', ln_setR', fi_setR', ai_setR', al_setR', aq_setR', nx_setR', sl_setR', sL_setR', sX_setR', cl_setR', sh_setA', ln_setA', fi_setA', fr_setA', al_setA', aq_setA', nx_setA', sl_setA', sL_setA', sX_setA', cl_setA', sh_setL', ln_setL', fi_setL', fr_setL', ai_setL', aq_setL', nx_setL', sl_setL', sL_setL', sX_setL', cl_setL', sh_setQ', ln_setQ', fi_setQ', fr_setQ', ai_setQ', al_setQ', nx_setQ', sl_setQ', sL_setQ', sX_setQ', cl_setQ', ai_eq, ai_ne, al_eq, al_ne, aq_eq, aq_ne, fi_eq, fi_nk, fi_na, fr_eq, fr_nk, fr_na, up_eq, up_ne, SH_setI', SH_setA', SH_setL', TX_4, TX_5, TX_6, TX_8, List.length_cons, List.length_nil, C_53, C_54, C_55, C_56, C_57, C_58, C_59, C_60, C_77, C_94, C_255, C_416, C_427, C_438, C_439, C_440, C_521, C_522, C_523, C_540, C_544, C_545, C_546, C_547, N_54, N_55, N_56, N_57, N_58, N_59, N_60, N_77, N_94, N_255, N_416, N_427, N_438, N_439, N_440, N_521, N_522, N_523, N_540, N_544, N_545, N_546, N_547, F_53_9, F_53_10, F_53_11, F_53_12, F_53_13, F_53_14, F_53_15, F_53_16, F_53_19, F_53_20, F_53_21, F_53_22, F_53_23, F_53_24, F_53_25, F_53_27, F_53_28, F_53_29, F_53_30, F_53_41, F_53_42, F_53_43, Q_60, QC_60, QN_60, Q_77, QC_77, QN_77, Q_94, QC_94, QN_94, Q_255, QC_255, QN_255, Q_416, QC_416, QN_416, Q_427, QC_427, QN_427, Q_440, QC_440, QN_440, Q_523, QC_523, QN_523, Q_540, QC_540, QN_540] <;> first | omega | assumption) | omega) only [Ev, ev_sqb, t_X10_readsStep_l116b, x_aload_n0, y_aload_n0, x_gf_9_5, y_gf_9_5, x_ifCond_ne, y_ifCond_ne, x_gf_9_4, y_gf_9_4, x_iv1, y_iv1, x_bipush_93, y_bipush_93, x_if_icmp_eq, y_if_icmp_eq, x_iv0, y_iv0, x_goto, y_goto, t_X10_readsStep_k147, x_dup_i, y_dup_i, x_dup_r, y_dup_r, x_gf_9_8, y_gf_9_8, x_iconst_1, y_iconst_1, x_isub, y_isub, x_pf_9_8, y_pf_9_8, t_X10_readsStep_k163, x_aload_n2, y_aload_n2, x_iconst_2, y_iconst_2, x_gf_9_26, y_gf_9_26, x_iastore, y_iastore, x_bipush_59, y_bipush_59, y_ret, t_X10_readsStep_k90, x_iload_n1, y_iload_n1, x_bipush_6, y_bipush_6, x_if_icmp_ne, y_if_icmp_ne, x_iconst_0, y_iconst_0, x_bipush_20, y_bipush_20, x_iv2, y_iv2, x_bipush_91, y_bipush_91, t_X10_readsStep_k33, x_ifCond_eq, y_ifCond_eq, x_gf_9_25, y_gf_9_25, x_aaload3, y_aaload3, x_aaload4, y_aaload4, x_astore_n2, y_astore_n2, x_iadd, y_iadd, x_pf_9_26, y_pf_9_26, x_iconst_4, y_iconst_4, x_if_icmp_ge, y_if_icmp_ge, x_gf_9_12, y_gf_9_12, x_iaload, y_iaload, x_iaload_s, y_iaload_s, t_X10_readsStep_k19, t_X10_readsStep, x_istore_n1, y_istore_n1, x_iconst_m1, y_iconst_m1, ev_bk, sq0, sq1, sq2, bk0, bk1, bk2, sq_if, bk_if, rt_if, cr_if, cr0, cr1, crE, rt1, rtE, va_rf_s, va_rf_n, ls_0, ls_1i, ls_1r, ls_1n, ls_1j, ls_1l, ls_2, ls_3, ls_4, ls_5, ls_6, ls_7, ls_8, ls_9, ls_10, ls_11, ls_12, nI_add, nI_ltI, nI_eq, nI_eq0, nI_lt0, nI_0lt, nI_n1, n1_nI, n1_lt, lt_n1, n1_0, n1_n1, n1_l0, if_true, if_false, ite_true, ite_false, bI_0, bI_1, not_true_eq_false, not_false_eq_true, Ew_i, Er_i, Lq_c, Lq_j, Lq_n, Nat.reduceAdd, Nat.zero_add, Nat.add_zero, Nat.lt_irrefl, Bool.false_eq_true, Nat.reduceEqDiff, Nat.reduceLT, Nat.reduceSub, Nat.reduceMul, Nat.one_ne_zero, C_53, C_54, C_55, C_56, C_57, C_58, C_59, C_60, C_77, C_94, C_255, C_416, C_427, C_438, C_439, C_440, C_521, C_522, C_523, C_540, C_544, C_545, C_546, C_547, N_54, N_55, N_56, N_57, N_58, N_59, N_60, N_77, N_94, N_255, N_416, N_427, N_438, N_439, N_440, N_521, N_522, N_523, N_540, N_544, N_545, N_546, N_547, F_53_9, F_53_10, F_53_11, F_53_12, F_53_13, F_53_14, F_53_15, F_53_16, F_53_19, F_53_20, F_53_21, F_53_22, F_53_23, F_53_24, F_53_25, F_53_27, F_53_28, F_53_29, F_53_30, F_53_41, F_53_42, F_53_43, Q_60, QC_60, QN_60, Q_77, QC_77, QN_77, Q_94, QC_94, QN_94, Q_255, QC_255, QN_255, Q_416, QC_416, QN_416, Q_427, QC_427, QN_427, Q_440, QC_440, QN_440, Q_523, QC_523, QN_523, Q_540, QC_540, QN_540, sh_setI', ln_setI', fr_setI', ai_setI', al_setI', aq_setI', nx_setI', sl_setI', sL_setI', sX_setI', cl_setI', sh_setR', ln_setR', fi_setR', ai_setR', al_setR', aq_setR', nx_setR', sl_setR', sL_setR', sX_setR', cl_setR', sh_setA', ln_setA', fi_setA', fr_setA', al_setA', aq_setA', nx_setA', sl_setA', sL_setA', sX_setA', cl_setA', sh_setL', ln_setL', fi_setL', fr_setL', ai_setL', aq_setL', nx_setL', sl_setL', sL_setL', sX_setL', cl_setL', sh_setQ', ln_setQ', fi_setQ', fr_setQ', ai_setQ', al_setQ', nx_setQ', sl_setQ', sL_setQ', sX_setQ', cl_setQ', ai_eq, ai_ne, al_eq, al_ne, aq_eq, aq_ne, fi_eq, fi_nk, fi_na, fr_eq, fr_nk, fr_na, up_eq, up_ne, hkh, oI_s, hop]
theorem mr_again {d f len o a n : Nat} {M : MM} {tx : Nat → Nat} {w : WK} (hl5 : len ≤ 150) (hR : MR M tx len a) (hW : SW M w) (hw : 4 * w.1 ≤ a) (hd : 24 ≤ d) (h57 : ai M 57 0 = nI n) (ho : fi M 53 8 = nI o) (ho6 : o < 6) (hk : skH tx len (sp (blP tx) len a) = some 6)
    (hok : okx (bnd (pNum tx len 0 20 (sp (ltP tx) len (sp (blP tx) len a))) (fun v e => bnd (pSgn tx len 91 e) (fun _ e => bnd (wkP tx len n f 0 (o + 1) (wkU w (6, v, 0)) e) (fun w2 e => bnd (pSgn tx len 93 e) (fun _ e => (.inr (wkA w2 w.1 (w2.2 w.1).2.1, e) : PR WK)))))))
    (ih : ∀ L, LpC (d - 1) tx len (fun e => e < len ∧ tx e = 93) L t_X10_readsStep_l116b → ∀ w a N, MR N tx len a → SW N w → 4 * w.1 ≤ a → fi N 53 8 = nI (o + 1) → ai N 57 0 = nI n → sp (blP tx) len a = a → okx (wkP tx len n f 0 (o + 1) w a) → ∃ N', Ev (d - 1) t_X10_readsStep_l116 (L, [], toH N) (.inl 1) (L, [], toH N') ∧ wkR N N' tx len (o + 1) (stW (fun e => e < len ∧ tx e = 93) (wkP tx len n f 0 (o + 1) w a))) :
    ∃ N, evC d 194 [.ref 53] (toH M) = some (.inl none, toH N) ∧ wkR M N tx len o (sgW tx len 59 (bnd (pNum tx len 0 20 (sp (ltP tx) len (sp (blP tx) len a))) (fun v e => bnd (pSgn tx len 91 e) (fun _ e => bnd (wkP tx len n f 0 (o + 1) (wkU w (6, v, 0)) e) (fun w2 e => bnd (pSgn tx len 93 e) (fun _ e => .inr (wkA w2 w.1 (w2.2 w.1).2.1, e))))))) := by
  have hS := hR.1
  have hal : a ≤ len := hR.2.2.2.1
  have hab : a ≤ sp (blP tx) len a := sp_ge a
  have hble : sp (blP tx) len a ≤ len := sp_le hal
  have hkh := m_stepHere (d := d - 1) hR (by omega)
  obtain ⟨hg, -⟩ := skH_gt hk
  rw [hk] at hkh
  have R1 := hR.at (e := sp (blP tx) len a) hble
  have W1 : SW (setI M 53 4 (nI (sp (blP tx) len a))) w := hW.t (Frm.I (Or.inl rfl))
  have F1 : Frm skA skF M (setI M 53 4 (nI (sp (blP tx) len a))) := Frm.I (Or.inl (Or.inl rfl))
  have o1 : fi (setI M 53 4 (nI (sp (blP tx) len a))) 53 8 = nI o := by rw [fi_nk (by decide)]; exact ho
  generalize sp (blP tx) len a = b at *
  generalize setI M 53 4 (nI b) = M1 at *
  have S1 := R1.1
  have hop := m_opens_t (d := d - 1) R1 (by omega) o1 ho6
  have Fo : Frm (fun _ => False) (fun k => k = 8) M1 (setI M1 53 8 (nI (o + 1))) := Frm.I rfl
  have R2 : MR (setI M1 53 8 (nI (o + 1))) tx len b := R1.fr Fo (fun z => z) (by decide) (by decide) (by decide)
  have W2 : SW (setI M1 53 8 (nI (o + 1))) w := by
    refine ⟨by rw [fi_nk (by decide)]; exact W1.1, fun i hi => ?_⟩
    unfold SWe
    rw [ai_setI]
    exact W1.2 i hi
  have o2 : fi (setI M1 53 8 (nI (o + 1))) 53 8 = nI (o + 1) := fi_eq _ _ _ _
  have F2 : Frm skA skF M (setI M1 53 8 (nI (o + 1))) := F1.tr (Fo.mono (fun b z => z.elim) (fun k z => Or.inr (Or.inl z)))
  generalize setI M1 53 8 (nI (o + 1)) = M2 at *
  have S2 := R2.1
  have f2 := R2.2.2.2.2
  obtain ⟨P, N2, e2, SP, mP, hN2, R3, F3, m3, t3, r3, E3, o3⟩ := mr_pre (d := d - 1) (k := 6) R2 W2 (by omega) (by omega) (skF57 F2 h57)
  have hle : sp (ltP tx) len b ≤ len := R3.2.2.2.1
  have S3 := R3.1
  obtain ⟨N3, v, e3, F4, C4, V4⟩ := r_numS (d := d - 1) (lo := 0) (hi := 20) (s := .inr (sp (ltP tx) len b)) R3 (by omega) (by decide) (by decide)
  have S4 := C4.S
  have m4 : fi N3 53 26 = nI (w.1 + 1) := by rw [F4.2.2.2 53 26 (fun z => by unfold pI at z; omega)]; exact m3
  have a4 : ∀ b, ai N3 b = ai N2 b := fun b => F4.2.2.1 b (fun z => z)
  have F5 : Frm (fun b => b = 441 + w.1) (fun _ => False) N3 (setA N3 (441 + w.1) (upd (ai N3 (441 + w.1)) 1 v)) := Frm.A rfl
  have q5 : wkR M (setA N3 (441 + w.1) (upd (ai N3 (441 + w.1)) 1 v)) tx len (o + 1) (bnd (pNum tx len 0 20 (sp (ltP tx) len b)) (fun v e => .inr (wkU w (6, v, 0), e))) := by
    refine ⟨((F2.tr F3).tr (F4.mono (fun b z => z.elim) (fun k z => Or.inl z))).tr (F5.mono (fun b z => ⟨by omega, by omega⟩) (fun k z => z.elim)), ?_, fun w' e z => ?_, w.1 + 1, by omega, by rw [fi_setA]; exact m4⟩
    · have C5 := C4.fr F5 (by omega) id id id id
      have C5 : RSt _ tx len (stO (pNum tx len 0 20 (sp (ltP tx) len b))) := C5
      cases hp : pNum tx len 0 20 (sp (ltP tx) len b) with
      | inl q => rw [hp] at C5; exact C5
      | inr q => rw [hp] at C5; exact C5
    · obtain ⟨u, e', g1, g2⟩ := bnd_i z
      cases g2
      have hv : v = nI u := V4 u _ g1
      refine ⟨⟨by rw [fi_setA]; exact m4, fun i hi => ?_⟩, ?_⟩
      · have hi : i < w.1 + 1 := hi
        show SWe _ i (upW w.2 w.1 (6, u, 0) i)
        unfold SWe
        by_cases hiw : i = w.1
        · subst hiw
          rw [upW_eq, ai_eq, up_ne (by decide), up_eq, a4]
          exact ⟨r3, fun _ => hv, Or.inl rfl⟩
        · rw [upW_ne hiw, ai_ne (by omega), a4]
          exact E3 i (by omega)
      · rw [fi_setA, F4.2.2.2 53 8 (fun z => by unfold pI at z; omega), o3]; exact o2
  have S5 := q5.2.1.S
  generalize hN5 : setA N3 (441 + w.1) (upd (ai N3 (441 + w.1)) 1 v) = N5 at *
  obtain ⟨N6, e6, q6⟩ := jr_sgn (d := d - 1) (c := 91) q5 (by decide) (by omega)
  obtain ⟨N7, e7, q7⟩ := jr_blk (d := d - 1) q6 (by omega)
  have ex : bnd (pNum tx len 0 20 (sp (ltP tx) len b)) (fun v e => bnd (pSgn tx len 91 e) (fun _ e => bnd (wkP tx len n f 0 (o + 1) (wkU w (6, v, 0)) e) (fun w2 e => bnd (pSgn tx len 93 e) (fun _ e => (.inr (wkA w2 w.1 (w2.2 w.1).2.1, e) : PR WK))))) = bnd (bnd (bnd (bnd (bnd (pNum tx len 0 20 (sp (ltP tx) len b)) (fun v e => (.inr (wkU w (6, v, 0), e) : PR WK))) (fun w e => bnd (pSgn tx len 91 e) (fun _ e2 => .inr (w, e2)))) (fun w e => wkP tx len n f 0 (o + 1) w e)) (fun w e => bnd (pSgn tx len 93 e) (fun _ e2 => .inr (w, e2)))) (fun w2 e => .inr (wkA w2 w.1 (w2.2 w.1).2.1, e)) := by
    simp only [bnd_as, bnd_r]
  rw [ex] at hok ⊢
  have hcn : ∀ w' e, bnd (bnd (pNum tx len 0 20 (sp (ltP tx) len b)) (fun v e => (.inr (wkU w (6, v, 0), e) : PR WK))) (fun w e => bnd (pSgn tx len 91 e) (fun _ e2 => .inr (w, e2))) = .inr (w', e) → (∃ v, w' = wkU w (6, v, 0)) ∧ 4 * w'.1 ≤ e ∧ e ≤ len := fun w' e z => by
    obtain ⟨w1, e', g1, g2⟩ := bnd_i z
    obtain ⟨v, e'', g3, g4⟩ := bnd_i g1
    cases g4
    obtain ⟨u, e3', g5, g6⟩ := bnd_i g2
    cases g6
    obtain ⟨p1, p2, -, -⟩ := pNum_le g3 hle
    obtain ⟨r1, r2⟩ := pSgn_le g5
    exact ⟨⟨v, rfl⟩, by show 4 * (w.1 + 1) ≤ _; omega, r2⟩
  have S6 := q6.2.1.S
  generalize bnd (bnd (pNum tx len 0 20 (sp (ltP tx) len b)) (fun v e => (.inr (wkU w (6, v, 0), e) : PR WK))) (fun w e => bnd (pSgn tx len 91 e) (fun _ e2 => .inr (w, e2))) = x6 at *
  have hLC : LpC (d - 1) tx len (fun e => e < len ∧ tx e = 93) [.ref 53, .int (nI 6), .ref (441 + w.1)] t_X10_readsStep_l116b := by
    refine ⟨fun M N N' a h1 h2 s1 s2 c1 c2 => ?_, fun M s h1 h2 => ?_⟩
    · have hb := m_byteAt (d := d - 1) (k := a) h1.1 h1.2.1 (by omega) (by have := h1.2.2.2.1; omega)
      have hne : ¬ chI tx len a = nI 93 := fun z => h2 ((ch_eq (TX_x h1.2.1) h1.2.1.2.1 (by decide)).mp z)
      have s0 := h1.1
      have at1 := h1.2.2.1
      have f1 := h1.2.2.2.2
      simp (disch := first | assumption | (simp (disch := first | assumption | omega) only [sh_setI', ln_setI', fr_setI', ai_setI', al_setI', aq_setI', nx_setI', sl_setI', sL_setI', sX_setI', cl_setI', sh_setR', ln_setR', fi_setR', ai_setR', al_setR', aq_setR', nx_setR', sl_setR', sL_setR', sX_setR', cl_setR', sh_setA', ln_setA', fi_setA', fr_setA', al_setA', aq_setA', nx_setA', sl_setA', sL_setA', sX_setA', cl_setA', sh_setL', ln_setL', fi_setL', fr_setL', ai_setL', aq_setL', nx_setL', sl_setL', sL_setL', sX_setL', cl_setL', sh_setQ', ln_setQ', fi_setQ', fr_setQ', ai_setQ', al_setQ', nx_setQ', sl_setQ', sL_setQ', sX_setQ', cl_setQ', ai_eq, ai_ne, al_eq, al_ne, aq_eq, aq_ne, fi_eq, fi_nk, fi_na, fr_eq, fr_nk, fr_na, up_eq, up_ne, SH_setI', SH_setA', SH_setL', TX_4, TX_5, TX_6, TX_8, List.length_cons, List.length_nil, C_53, C_54, C_55, C_56, C_57, C_58, C_59, C_60, C_77, C_94, C_255, C_416, C_427, C_438, C_439, C_440, C_521, C_522, C_523, C_540, C_544, C_545, C_546, C_547, N_54, N_55, N_56, N_57, N_58, N_59, N_60, N_77, N_94, N_255, N_416, N_427, N_438, N_439, N_440, N_521, N_522, N_523, N_540, N_544, N_545, N_546, N_547, F_53_9, F_53_10, F_53_11, F_53_12, F_53_13, F_53_14, F_53_15, F_53_16, F_53_19, F_53_20, F_53_21, F_53_22, F_53_23, F_53_24, F_53_25, F_53_27, F_53_28, F_53_29, F_53_30, F_53_41, F_53_42, F_53_43, Q_60, QC_60, QN_60, Q_77, QC_77, QN_77, Q_94, QC_94, QN_94, Q_255, QC_255, QN_255, Q_416, QC_416, QN_416, Q_427, QC_427, QN_427, Q_440, QC_440, QN_440, Q_523, QC_523, QN_523, Q_540, QC_540, QN_540] <;> first | omega | assumption) | omega) only [Ev, ev_sqb, t_X10_readsStep_l116b, x_aload_n0, y_aload_n0, x_gf_9_5, y_gf_9_5, x_ifCond_ne, y_ifCond_ne, x_gf_9_4, y_gf_9_4, x_iv1, y_iv1, x_bipush_93, y_bipush_93, x_if_icmp_eq, y_if_icmp_eq, x_iv0, y_iv0, x_goto, y_goto, t_X10_readsStep_k147, x_dup_i, y_dup_i, x_dup_r, y_dup_r, x_gf_9_8, y_gf_9_8, x_iconst_1, y_iconst_1, x_isub, y_isub, x_pf_9_8, y_pf_9_8, t_X10_readsStep_k163, x_aload_n2, y_aload_n2, x_iconst_2, y_iconst_2, x_gf_9_26, y_gf_9_26, x_iastore, y_iastore, x_bipush_59, y_bipush_59, y_ret, t_X10_readsStep_k90, x_iload_n1, y_iload_n1, x_bipush_6, y_bipush_6, x_if_icmp_ne, y_if_icmp_ne, x_iconst_0, y_iconst_0, x_bipush_20, y_bipush_20, x_iv2, y_iv2, x_bipush_91, y_bipush_91, t_X10_readsStep_k33, x_ifCond_eq, y_ifCond_eq, x_gf_9_25, y_gf_9_25, x_aaload3, y_aaload3, x_aaload4, y_aaload4, x_astore_n2, y_astore_n2, x_iadd, y_iadd, x_pf_9_26, y_pf_9_26, x_iconst_4, y_iconst_4, x_if_icmp_ge, y_if_icmp_ge, x_gf_9_12, y_gf_9_12, x_iaload, y_iaload, x_iaload_s, y_iaload_s, t_X10_readsStep_k19, t_X10_readsStep, x_istore_n1, y_istore_n1, x_iconst_m1, y_iconst_m1, ev_bk, sq0, sq1, sq2, bk0, bk1, bk2, sq_if, bk_if, rt_if, cr_if, cr0, cr1, crE, rt1, rtE, va_rf_s, va_rf_n, ls_0, ls_1i, ls_1r, ls_1n, ls_1j, ls_1l, ls_2, ls_3, ls_4, ls_5, ls_6, ls_7, ls_8, ls_9, ls_10, ls_11, ls_12, nI_add, nI_ltI, nI_eq, nI_eq0, nI_lt0, nI_0lt, nI_n1, n1_nI, n1_lt, lt_n1, n1_0, n1_n1, n1_l0, if_true, if_false, ite_true, ite_false, bI_0, bI_1, not_true_eq_false, not_false_eq_true, Ew_i, Er_i, Lq_c, Lq_j, Lq_n, Nat.reduceAdd, Nat.zero_add, Nat.add_zero, Nat.lt_irrefl, Bool.false_eq_true, Nat.reduceEqDiff, Nat.reduceLT, Nat.reduceSub, Nat.reduceMul, Nat.one_ne_zero, C_53, C_54, C_55, C_56, C_57, C_58, C_59, C_60, C_77, C_94, C_255, C_416, C_427, C_438, C_439, C_440, C_521, C_522, C_523, C_540, C_544, C_545, C_546, C_547, N_54, N_55, N_56, N_57, N_58, N_59, N_60, N_77, N_94, N_255, N_416, N_427, N_438, N_439, N_440, N_521, N_522, N_523, N_540, N_544, N_545, N_546, N_547, F_53_9, F_53_10, F_53_11, F_53_12, F_53_13, F_53_14, F_53_15, F_53_16, F_53_19, F_53_20, F_53_21, F_53_22, F_53_23, F_53_24, F_53_25, F_53_27, F_53_28, F_53_29, F_53_30, F_53_41, F_53_42, F_53_43, Q_60, QC_60, QN_60, Q_77, QC_77, QN_77, Q_94, QC_94, QN_94, Q_255, QC_255, QN_255, Q_416, QC_416, QN_416, Q_427, QC_427, QN_427, Q_440, QC_440, QN_440, Q_523, QC_523, QN_523, Q_540, QC_540, QN_540, sh_setI', ln_setI', fr_setI', ai_setI', al_setI', aq_setI', nx_setI', sl_setI', sL_setI', sX_setI', cl_setI', sh_setR', ln_setR', fi_setR', ai_setR', al_setR', aq_setR', nx_setR', sl_setR', sL_setR', sX_setR', cl_setR', sh_setA', ln_setA', fi_setA', fr_setA', al_setA', aq_setA', nx_setA', sl_setA', sL_setA', sX_setA', cl_setA', sh_setL', ln_setL', fi_setL', fr_setL', ai_setL', aq_setL', nx_setL', sl_setL', sL_setL', sX_setL', cl_setL', sh_setQ', ln_setQ', fi_setQ', fr_setQ', ai_setQ', al_setQ', nx_setQ', sl_setQ', sL_setQ', sX_setQ', cl_setQ', ai_eq, ai_ne, al_eq, al_ne, aq_eq, aq_ne, fi_eq, fi_nk, fi_na, fr_eq, fr_nk, fr_na, up_eq, up_ne, f1, at1, hb, hne, c1, c2]
    · cases s with
      | inl q =>
        have h1 : MF M tx len q.1 q.2 := h1
        have s0 := h1.1
        have nP := h1.n
        simp (disch := first | assumption | (simp (disch := first | assumption | omega) only [sh_setI', ln_setI', fr_setI', ai_setI', al_setI', aq_setI', nx_setI', sl_setI', sL_setI', sX_setI', cl_setI', sh_setR', ln_setR', fi_setR', ai_setR', al_setR', aq_setR', nx_setR', sl_setR', sL_setR', sX_setR', cl_setR', sh_setA', ln_setA', fi_setA', fr_setA', al_setA', aq_setA', nx_setA', sl_setA', sL_setA', sX_setA', cl_setA', sh_setL', ln_setL', fi_setL', fr_setL', ai_setL', aq_setL', nx_setL', sl_setL', sL_setL', sX_setL', cl_setL', sh_setQ', ln_setQ', fi_setQ', fr_setQ', ai_setQ', al_setQ', nx_setQ', sl_setQ', sL_setQ', sX_setQ', cl_setQ', ai_eq, ai_ne, al_eq, al_ne, aq_eq, aq_ne, fi_eq, fi_nk, fi_na, fr_eq, fr_nk, fr_na, up_eq, up_ne, SH_setI', SH_setA', SH_setL', TX_4, TX_5, TX_6, TX_8, List.length_cons, List.length_nil, C_53, C_54, C_55, C_56, C_57, C_58, C_59, C_60, C_77, C_94, C_255, C_416, C_427, C_438, C_439, C_440, C_521, C_522, C_523, C_540, C_544, C_545, C_546, C_547, N_54, N_55, N_56, N_57, N_58, N_59, N_60, N_77, N_94, N_255, N_416, N_427, N_438, N_439, N_440, N_521, N_522, N_523, N_540, N_544, N_545, N_546, N_547, F_53_9, F_53_10, F_53_11, F_53_12, F_53_13, F_53_14, F_53_15, F_53_16, F_53_19, F_53_20, F_53_21, F_53_22, F_53_23, F_53_24, F_53_25, F_53_27, F_53_28, F_53_29, F_53_30, F_53_41, F_53_42, F_53_43, Q_60, QC_60, QN_60, Q_77, QC_77, QN_77, Q_94, QC_94, QN_94, Q_255, QC_255, QN_255, Q_416, QC_416, QN_416, Q_427, QC_427, QN_427, Q_440, QC_440, QN_440, Q_523, QC_523, QN_523, Q_540, QC_540, QN_540] <;> first | omega | assumption) | omega) only [Ev, ev_sqb, t_X10_readsStep_l116b, x_aload_n0, y_aload_n0, x_gf_9_5, y_gf_9_5, x_ifCond_ne, y_ifCond_ne, x_gf_9_4, y_gf_9_4, x_iv1, y_iv1, x_bipush_93, y_bipush_93, x_if_icmp_eq, y_if_icmp_eq, x_iv0, y_iv0, x_goto, y_goto, t_X10_readsStep_k147, x_dup_i, y_dup_i, x_dup_r, y_dup_r, x_gf_9_8, y_gf_9_8, x_iconst_1, y_iconst_1, x_isub, y_isub, x_pf_9_8, y_pf_9_8, t_X10_readsStep_k163, x_aload_n2, y_aload_n2, x_iconst_2, y_iconst_2, x_gf_9_26, y_gf_9_26, x_iastore, y_iastore, x_bipush_59, y_bipush_59, y_ret, t_X10_readsStep_k90, x_iload_n1, y_iload_n1, x_bipush_6, y_bipush_6, x_if_icmp_ne, y_if_icmp_ne, x_iconst_0, y_iconst_0, x_bipush_20, y_bipush_20, x_iv2, y_iv2, x_bipush_91, y_bipush_91, t_X10_readsStep_k33, x_ifCond_eq, y_ifCond_eq, x_gf_9_25, y_gf_9_25, x_aaload3, y_aaload3, x_aaload4, y_aaload4, x_astore_n2, y_astore_n2, x_iadd, y_iadd, x_pf_9_26, y_pf_9_26, x_iconst_4, y_iconst_4, x_if_icmp_ge, y_if_icmp_ge, x_gf_9_12, y_gf_9_12, x_iaload, y_iaload, x_iaload_s, y_iaload_s, t_X10_readsStep_k19, t_X10_readsStep, x_istore_n1, y_istore_n1, x_iconst_m1, y_iconst_m1, ev_bk, sq0, sq1, sq2, bk0, bk1, bk2, sq_if, bk_if, rt_if, cr_if, cr0, cr1, crE, rt1, rtE, va_rf_s, va_rf_n, ls_0, ls_1i, ls_1r, ls_1n, ls_1j, ls_1l, ls_2, ls_3, ls_4, ls_5, ls_6, ls_7, ls_8, ls_9, ls_10, ls_11, ls_12, nI_add, nI_ltI, nI_eq, nI_eq0, nI_lt0, nI_0lt, nI_n1, n1_nI, n1_lt, lt_n1, n1_0, n1_n1, n1_l0, if_true, if_false, ite_true, ite_false, bI_0, bI_1, not_true_eq_false, not_false_eq_true, Ew_i, Er_i, Lq_c, Lq_j, Lq_n, Nat.reduceAdd, Nat.zero_add, Nat.add_zero, Nat.lt_irrefl, Bool.false_eq_true, Nat.reduceEqDiff, Nat.reduceLT, Nat.reduceSub, Nat.reduceMul, Nat.one_ne_zero, C_53, C_54, C_55, C_56, C_57, C_58, C_59, C_60, C_77, C_94, C_255, C_416, C_427, C_438, C_439, C_440, C_521, C_522, C_523, C_540, C_544, C_545, C_546, C_547, N_54, N_55, N_56, N_57, N_58, N_59, N_60, N_77, N_94, N_255, N_416, N_427, N_438, N_439, N_440, N_521, N_522, N_523, N_540, N_544, N_545, N_546, N_547, F_53_9, F_53_10, F_53_11, F_53_12, F_53_13, F_53_14, F_53_15, F_53_16, F_53_19, F_53_20, F_53_21, F_53_22, F_53_23, F_53_24, F_53_25, F_53_27, F_53_28, F_53_29, F_53_30, F_53_41, F_53_42, F_53_43, Q_60, QC_60, QN_60, Q_77, QC_77, QN_77, Q_94, QC_94, QN_94, Q_255, QC_255, QN_255, Q_416, QC_416, QN_416, Q_427, QC_427, QN_427, Q_440, QC_440, QN_440, Q_523, QC_523, QN_523, Q_540, QC_540, QN_540, sh_setI', ln_setI', fr_setI', ai_setI', al_setI', aq_setI', nx_setI', sl_setI', sL_setI', sX_setI', cl_setI', sh_setR', ln_setR', fi_setR', ai_setR', al_setR', aq_setR', nx_setR', sl_setR', sL_setR', sX_setR', cl_setR', sh_setA', ln_setA', fi_setA', fr_setA', al_setA', aq_setA', nx_setA', sl_setA', sL_setA', sX_setA', cl_setA', sh_setL', ln_setL', fi_setL', fr_setL', ai_setL', aq_setL', nx_setL', sl_setL', sL_setL', sX_setL', cl_setL', sh_setQ', ln_setQ', fi_setQ', fr_setQ', ai_setQ', al_setQ', nx_setQ', sl_setQ', sL_setQ', sX_setQ', cl_setQ', ai_eq, ai_ne, al_eq, al_ne, aq_eq, aq_ne, fi_eq, fi_nk, fi_na, fr_eq, fr_nk, fr_na, up_eq, up_ne, nP]
      | inr a =>
        have h1 : MR M tx len a := h1
        have hb := m_byteAt (d := d - 1) (k := a) h1.1 h1.2.1 (by omega) (by have := h1.2.2.2.1; omega)
        have he : chI tx len a = nI 93 := (ch_eq (TX_x h1.2.1) h1.2.1.2.1 (by decide)).mpr (h2 a rfl)
        rw [he] at hb
        have s0 := h1.1
        have at1 := h1.2.2.1
        have f1 := h1.2.2.2.2
        simp (disch := first | assumption | (simp (disch := first | assumption | omega) only [sh_setI', ln_setI', fr_setI', ai_setI', al_setI', aq_setI', nx_setI', sl_setI', sL_setI', sX_setI', cl_setI', sh_setR', ln_setR', fi_setR', ai_setR', al_setR', aq_setR', nx_setR', sl_setR', sL_setR', sX_setR', cl_setR', sh_setA', ln_setA', fi_setA', fr_setA', al_setA', aq_setA', nx_setA', sl_setA', sL_setA', sX_setA', cl_setA', sh_setL', ln_setL', fi_setL', fr_setL', ai_setL', aq_setL', nx_setL', sl_setL', sL_setL', sX_setL', cl_setL', sh_setQ', ln_setQ', fi_setQ', fr_setQ', ai_setQ', al_setQ', nx_setQ', sl_setQ', sL_setQ', sX_setQ', cl_setQ', ai_eq, ai_ne, al_eq, al_ne, aq_eq, aq_ne, fi_eq, fi_nk, fi_na, fr_eq, fr_nk, fr_na, up_eq, up_ne, SH_setI', SH_setA', SH_setL', TX_4, TX_5, TX_6, TX_8, List.length_cons, List.length_nil, C_53, C_54, C_55, C_56, C_57, C_58, C_59, C_60, C_77, C_94, C_255, C_416, C_427, C_438, C_439, C_440, C_521, C_522, C_523, C_540, C_544, C_545, C_546, C_547, N_54, N_55, N_56, N_57, N_58, N_59, N_60, N_77, N_94, N_255, N_416, N_427, N_438, N_439, N_440, N_521, N_522, N_523, N_540, N_544, N_545, N_546, N_547, F_53_9, F_53_10, F_53_11, F_53_12, F_53_13, F_53_14, F_53_15, F_53_16, F_53_19, F_53_20, F_53_21, F_53_22, F_53_23, F_53_24, F_53_25, F_53_27, F_53_28, F_53_29, F_53_30, F_53_41, F_53_42, F_53_43, Q_60, QC_60, QN_60, Q_77, QC_77, QN_77, Q_94, QC_94, QN_94, Q_255, QC_255, QN_255, Q_416, QC_416, QN_416, Q_427, QC_427, QN_427, Q_440, QC_440, QN_440, Q_523, QC_523, QN_523, Q_540, QC_540, QN_540] <;> first | omega | assumption) | omega) only [Ev, ev_sqb, t_X10_readsStep_l116b, x_aload_n0, y_aload_n0, x_gf_9_5, y_gf_9_5, x_ifCond_ne, y_ifCond_ne, x_gf_9_4, y_gf_9_4, x_iv1, y_iv1, x_bipush_93, y_bipush_93, x_if_icmp_eq, y_if_icmp_eq, x_iv0, y_iv0, x_goto, y_goto, t_X10_readsStep_k147, x_dup_i, y_dup_i, x_dup_r, y_dup_r, x_gf_9_8, y_gf_9_8, x_iconst_1, y_iconst_1, x_isub, y_isub, x_pf_9_8, y_pf_9_8, t_X10_readsStep_k163, x_aload_n2, y_aload_n2, x_iconst_2, y_iconst_2, x_gf_9_26, y_gf_9_26, x_iastore, y_iastore, x_bipush_59, y_bipush_59, y_ret, t_X10_readsStep_k90, x_iload_n1, y_iload_n1, x_bipush_6, y_bipush_6, x_if_icmp_ne, y_if_icmp_ne, x_iconst_0, y_iconst_0, x_bipush_20, y_bipush_20, x_iv2, y_iv2, x_bipush_91, y_bipush_91, t_X10_readsStep_k33, x_ifCond_eq, y_ifCond_eq, x_gf_9_25, y_gf_9_25, x_aaload3, y_aaload3, x_aaload4, y_aaload4, x_astore_n2, y_astore_n2, x_iadd, y_iadd, x_pf_9_26, y_pf_9_26, x_iconst_4, y_iconst_4, x_if_icmp_ge, y_if_icmp_ge, x_gf_9_12, y_gf_9_12, x_iaload, y_iaload, x_iaload_s, y_iaload_s, t_X10_readsStep_k19, t_X10_readsStep, x_istore_n1, y_istore_n1, x_iconst_m1, y_iconst_m1, ev_bk, sq0, sq1, sq2, bk0, bk1, bk2, sq_if, bk_if, rt_if, cr_if, cr0, cr1, crE, rt1, rtE, va_rf_s, va_rf_n, ls_0, ls_1i, ls_1r, ls_1n, ls_1j, ls_1l, ls_2, ls_3, ls_4, ls_5, ls_6, ls_7, ls_8, ls_9, ls_10, ls_11, ls_12, nI_add, nI_ltI, nI_eq, nI_eq0, nI_lt0, nI_0lt, nI_n1, n1_nI, n1_lt, lt_n1, n1_0, n1_n1, n1_l0, if_true, if_false, ite_true, ite_false, bI_0, bI_1, not_true_eq_false, not_false_eq_true, Ew_i, Er_i, Lq_c, Lq_j, Lq_n, Nat.reduceAdd, Nat.zero_add, Nat.add_zero, Nat.lt_irrefl, Bool.false_eq_true, Nat.reduceEqDiff, Nat.reduceLT, Nat.reduceSub, Nat.reduceMul, Nat.one_ne_zero, C_53, C_54, C_55, C_56, C_57, C_58, C_59, C_60, C_77, C_94, C_255, C_416, C_427, C_438, C_439, C_440, C_521, C_522, C_523, C_540, C_544, C_545, C_546, C_547, N_54, N_55, N_56, N_57, N_58, N_59, N_60, N_77, N_94, N_255, N_416, N_427, N_438, N_439, N_440, N_521, N_522, N_523, N_540, N_544, N_545, N_546, N_547, F_53_9, F_53_10, F_53_11, F_53_12, F_53_13, F_53_14, F_53_15, F_53_16, F_53_19, F_53_20, F_53_21, F_53_22, F_53_23, F_53_24, F_53_25, F_53_27, F_53_28, F_53_29, F_53_30, F_53_41, F_53_42, F_53_43, Q_60, QC_60, QN_60, Q_77, QC_77, QN_77, Q_94, QC_94, QN_94, Q_255, QC_255, QN_255, Q_416, QC_416, QN_416, Q_427, QC_427, QN_427, Q_440, QC_440, QN_440, Q_523, QC_523, QN_523, Q_540, QC_540, QN_540, sh_setI', ln_setI', fr_setI', ai_setI', al_setI', aq_setI', nx_setI', sl_setI', sL_setI', sX_setI', cl_setI', sh_setR', ln_setR', fi_setR', ai_setR', al_setR', aq_setR', nx_setR', sl_setR', sL_setR', sX_setR', cl_setR', sh_setA', ln_setA', fi_setA', fr_setA', al_setA', aq_setA', nx_setA', sl_setA', sL_setA', sX_setA', cl_setA', sh_setL', ln_setL', fi_setL', fr_setL', ai_setL', aq_setL', nx_setL', sl_setL', sL_setL', sX_setL', cl_setL', sh_setQ', ln_setQ', fi_setQ', fr_setQ', ai_setQ', al_setQ', nx_setQ', sl_setQ', sL_setQ', sX_setQ', cl_setQ', ai_eq, ai_ne, al_eq, al_ne, aq_eq, aq_ne, fi_eq, fi_nk, fi_na, fr_eq, fr_nk, fr_na, up_eq, up_ne, f1, at1, hb]
  obtain ⟨N8, e8, q8⟩ := jr_loop (e0 := 116) (f := f) (n := n) q7 (fun w e z => (hcn w e z).2) (okx_l (okx_l hok)) hLC h57 (ih _ hLC)
  have e8 : Ev (d - 1) t_X10_readsStep_l116 ([.ref 53, .int (nI 6), .ref (441 + w.1)], [], toH N7) (.inl 1) ([.ref 53, .int (nI 6), .ref (441 + w.1)], [], toH N8) := e8
  obtain ⟨N9, e9, q9⟩ := jr_sgn (d := d - 1) (c := 93) q8 (by decide) (by omega)
  have S7 := q7.2.1.S
  have S8 := q8.2.1.S
  have S9 := q9.2.1.S
  have ey : bnd (bnd x6 (fun w e => stW (fun e => e < len ∧ tx e = 93) (wkP tx len n f 0 (o + 1) w e))) (fun w e => bnd (pSgn tx len 93 e) (fun _ e2 => .inr (w, e2))) = bnd (bnd x6 (fun w e => wkP tx len n f 0 (o + 1) w e)) (fun w e => bnd (pSgn tx len 93 e) (fun _ e2 => (.inr (w, e2) : PR WK))) := by
    rw [bnd_as, bnd_as]
    exact congrArg (bnd x6) (funext fun w => funext fun e => stW_93)
  rw [ey] at q9
  obtain ⟨F9, C9, R9, m9, hm9, hm10⟩ := q9
  have F10 : Frm (fun b => b = 441 + w.1) (fun k => k = 8) N9 (setA (setI N9 53 8 (fi N9 53 8 - nI 1)) (441 + w.1) (upd (ai N9 (441 + w.1)) 2 (nI m9))) := (Frm.I (A := fun b => b = 441 + w.1) (I := fun k => k = 8) rfl).tr (Frm.A rfl)
  have q10 : wkR M (setA (setI N9 53 8 (fi N9 53 8 - nI 1)) (441 + w.1) (upd (ai N9 (441 + w.1)) 2 (nI m9))) tx len o (bnd (bnd (bnd x6 (fun w e => wkP tx len n f 0 (o + 1) w e)) (fun w e => bnd (pSgn tx len 93 e) (fun _ e2 => (.inr (w, e2) : PR WK)))) (fun w2 e => .inr (wkA w2 w.1 (w2.2 w.1).2.1, e))) := by
    refine ⟨F9.tr (F10.mono (fun b z => ⟨by omega, by omega⟩) (fun k z => Or.inr (Or.inl z))), ?_, fun w' e z => ?_, m9, hm9, by rw [fi_setA, fi_nk (by decide)]; exact hm10⟩
    · have C10 := C9.fr F10 (by omega) (by decide) (by decide) (by decide) (by decide)
      cases hp : bnd (bnd x6 (fun w e => wkP tx len n f 0 (o + 1) w e)) (fun w e => bnd (pSgn tx len 93 e) (fun _ e2 => (.inr (w, e2) : PR WK))) with
      | inl q => rw [hp] at C10; exact C10
      | inr q => rw [hp] at C10; exact C10
    · obtain ⟨w2, e', g1, g2⟩ := bnd_i z
      cases g2
      obtain ⟨P9, O9⟩ := R9 w2 _ g1
      obtain ⟨w2', e2', g3, g4⟩ := bnd_i g1
      obtain ⟨u, e3', g5, g6⟩ := bnd_i g4
      cases g6
      obtain ⟨w1, e1', g7, g8⟩ := bnd_i g3
      obtain ⟨⟨v, rfl⟩, k1, k2⟩ := hcn w1 e1' g7
      obtain ⟨b1, b2, b3, b4, b5, b6⟩ := wk_wf f 0 (o + 1) _ e1' k2 w2 e2' g8
      have bv : w2.2 w.1 = (6, v, 0) := (b5 w.1 (by show w.1 < w.1 + 1; omega)).trans (upW_eq _ _ _)
      have hlt2 : w.1 < w2.1 := b2
      have em : nI m9 = nI w2.1 := hm10.symm.trans P9.1
      refine ⟨⟨by rw [fi_setA, fi_nk (by decide)]; exact P9.1, fun i hi => ?_⟩, ?_⟩
      · have hi : i < w2.1 := hi
        show SWe _ i (upW w2.2 w.1 (6, (w2.2 w.1).2.1, w2.1) i)
        unfold SWe
        by_cases hiw : i = w.1
        · rw [hiw, upW_eq]
          obtain ⟨t1, t2, t3⟩ := P9.2 w.1 hlt2
          rw [bv] at t1 t2
          rw [bv, ai_eq, up_ne (by decide), up_ne (by decide), up_eq]
          exact ⟨t1, fun _ => t2 (Or.inr rfl), Or.inr em⟩
        · rw [upW_ne hiw, ai_ne (by omega), ai_setI]
          exact P9.2 i hi
      · rw [fi_setA, fi_eq, O9]
        have key : ∀ o, o < 6 → nI (o + 1) - nI 1 = nI o := by decide
        exact key o ho6
  have S10 := q10.2.1.S
  generalize hN10 : setA (setI N9 53 8 (fi N9 53 8 - nI 1)) (441 + w.1) (upd (ai N9 (441 + w.1)) 2 (nI m9)) = N10 at *
  obtain ⟨N11, e11, q11⟩ := jr_sgn (d := d - 1) (c := 59) q10 (by decide) (by omega)
  refine ⟨N11, ?_, q11⟩
  have hw80 : w.1 < 80 := by omega
  rw [E_X10_readsStep (by omega)]
  refine Er.ret ?_
  obtain ⟨l8, p8, k8⟩ := e8
  have p8 : ev (d - 1) t_X10_readsStep_l116 ([.ref 53, .int (nI 6), .ref (441 + w.1)], [], toH N7) = some (.inl 1, l8, [], toH N8) := p8
  have k8 : Lq [.ref 53, .int (nI 6), .ref (441 + w.1)] l8 := k8
  have el := Lq_all k8 (fun i v hv => by
    match i, hv with
    | 0, hv => cases hv; exact fun z => by cases z
    | 1, hv => cases hv; exact fun z => by cases z
    | 2, hv => cases hv; exact fun z => by cases z
    | i + 3, hv => cases hv)
  rw [el] at p8
  simp (disch := first | assumption | (simp (disch := first | assumption | omega) only [sh_setI', ln_setI', fr_setI', ai_setI', al_setI', aq_setI', nx_setI', sl_setI', sL_setI', sX_setI', cl_setI', sh_setR', ln_setR', fi_setR', ai_setR', al_setR', aq_setR', nx_setR', sl_setR', sL_setR', sX_setR', cl_setR', sh_setA', ln_setA', fi_setA', fr_setA', al_setA', aq_setA', nx_setA', sl_setA', sL_setA', sX_setA', cl_setA', sh_setL', ln_setL', fi_setL', fr_setL', ai_setL', aq_setL', nx_setL', sl_setL', sL_setL', sX_setL', cl_setL', sh_setQ', ln_setQ', fi_setQ', fr_setQ', ai_setQ', al_setQ', nx_setQ', sl_setQ', sL_setQ', sX_setQ', cl_setQ', ai_eq, ai_ne, al_eq, al_ne, aq_eq, aq_ne, fi_eq, fi_nk, fi_na, fr_eq, fr_nk, fr_na, up_eq, up_ne, SH_setI', SH_setA', SH_setL', TX_4, TX_5, TX_6, TX_8, List.length_cons, List.length_nil, C_53, C_54, C_55, C_56, C_57, C_58, C_59, C_60, C_77, C_94, C_255, C_416, C_427, C_438, C_439, C_440, C_521, C_522, C_523, C_540, C_544, C_545, C_546, C_547, N_54, N_55, N_56, N_57, N_58, N_59, N_60, N_77, N_94, N_255, N_416, N_427, N_438, N_439, N_440, N_521, N_522, N_523, N_540, N_544, N_545, N_546, N_547, F_53_9, F_53_10, F_53_11, F_53_12, F_53_13, F_53_14, F_53_15, F_53_16, F_53_19, F_53_20, F_53_21, F_53_22, F_53_23, F_53_24, F_53_25, F_53_27, F_53_28, F_53_29, F_53_30, F_53_41, F_53_42, F_53_43, Q_60, QC_60, QN_60, Q_77, QC_77, QN_77, Q_94, QC_94, QN_94, Q_255, QC_255, QN_255, Q_416, QC_416, QN_416, Q_427, QC_427, QN_427, Q_440, QC_440, QN_440, Q_523, QC_523, QN_523, Q_540, QC_540, QN_540] <;> first | omega | assumption) | omega) only [Ev, ev_sqb, t_X10_readsStep_l116b, x_aload_n0, y_aload_n0, x_gf_9_5, y_gf_9_5, x_ifCond_ne, y_ifCond_ne, x_gf_9_4, y_gf_9_4, x_iv1, y_iv1, x_bipush_93, y_bipush_93, x_if_icmp_eq, y_if_icmp_eq, x_iv0, y_iv0, x_goto, y_goto, t_X10_readsStep_k147, x_dup_i, y_dup_i, x_dup_r, y_dup_r, x_gf_9_8, y_gf_9_8, x_iconst_1, y_iconst_1, x_isub, y_isub, x_pf_9_8, y_pf_9_8, t_X10_readsStep_k163, x_aload_n2, y_aload_n2, x_iconst_2, y_iconst_2, x_gf_9_26, y_gf_9_26, x_iastore, y_iastore, x_bipush_59, y_bipush_59, y_ret, t_X10_readsStep_k90, x_iload_n1, y_iload_n1, x_bipush_6, y_bipush_6, x_if_icmp_ne, y_if_icmp_ne, x_iconst_0, y_iconst_0, x_bipush_20, y_bipush_20, x_iv2, y_iv2, x_bipush_91, y_bipush_91, t_X10_readsStep_k33, x_ifCond_eq, y_ifCond_eq, x_gf_9_25, y_gf_9_25, x_aaload3, y_aaload3, x_aaload4, y_aaload4, x_astore_n2, y_astore_n2, x_iadd, y_iadd, x_pf_9_26, y_pf_9_26, x_iconst_4, y_iconst_4, x_if_icmp_ge, y_if_icmp_ge, x_gf_9_12, y_gf_9_12, x_iaload, y_iaload, x_iaload_s, y_iaload_s, t_X10_readsStep_k19, t_X10_readsStep, x_istore_n1, y_istore_n1, x_iconst_m1, y_iconst_m1, ev_bk, sq0, sq1, sq2, bk0, bk1, bk2, sq_if, bk_if, rt_if, cr_if, cr0, cr1, crE, rt1, rtE, va_rf_s, va_rf_n, ls_0, ls_1i, ls_1r, ls_1n, ls_1j, ls_1l, ls_2, ls_3, ls_4, ls_5, ls_6, ls_7, ls_8, ls_9, ls_10, ls_11, ls_12, nI_add, nI_ltI, nI_eq, nI_eq0, nI_lt0, nI_0lt, nI_n1, n1_nI, n1_lt, lt_n1, n1_0, n1_n1, n1_l0, if_true, if_false, ite_true, ite_false, bI_0, bI_1, not_true_eq_false, not_false_eq_true, Ew_i, Er_i, Lq_c, Lq_j, Lq_n, Nat.reduceAdd, Nat.zero_add, Nat.add_zero, Nat.lt_irrefl, Bool.false_eq_true, Nat.reduceEqDiff, Nat.reduceLT, Nat.reduceSub, Nat.reduceMul, Nat.one_ne_zero, C_53, C_54, C_55, C_56, C_57, C_58, C_59, C_60, C_77, C_94, C_255, C_416, C_427, C_438, C_439, C_440, C_521, C_522, C_523, C_540, C_544, C_545, C_546, C_547, N_54, N_55, N_56, N_57, N_58, N_59, N_60, N_77, N_94, N_255, N_416, N_427, N_438, N_439, N_440, N_521, N_522, N_523, N_540, N_544, N_545, N_546, N_547, F_53_9, F_53_10, F_53_11, F_53_12, F_53_13, F_53_14, F_53_15, F_53_16, F_53_19, F_53_20, F_53_21, F_53_22, F_53_23, F_53_24, F_53_25, F_53_27, F_53_28, F_53_29, F_53_30, F_53_41, F_53_42, F_53_43, Q_60, QC_60, QN_60, Q_77, QC_77, QN_77, Q_94, QC_94, QN_94, Q_255, QC_255, QN_255, Q_416, QC_416, QN_416, Q_427, QC_427, QN_427, Q_440, QC_440, QN_440, Q_523, QC_523, QN_523, Q_540, QC_540, QN_540, sh_setI', ln_setI', fr_setI', ai_setI', al_setI', aq_setI', nx_setI', sl_setI', sL_setI', sX_setI', cl_setI', sh_setR', ln_setR', fi_setR', ai_setR', al_setR', aq_setR', nx_setR', sl_setR', sL_setR', sX_setR', cl_setR', sh_setA', ln_setA', fi_setA', fr_setA', al_setA', aq_setA', nx_setA', sl_setA', sL_setA', sX_setA', cl_setA', sh_setL', ln_setL', fi_setL', fr_setL', ai_setL', aq_setL', nx_setL', sl_setL', sL_setL', sX_setL', cl_setL', sh_setQ', ln_setQ', fi_setQ', fr_setQ', ai_setQ', al_setQ', nx_setQ', sl_setQ', sL_setQ', sX_setQ', cl_setQ', ai_eq, ai_ne, al_eq, al_ne, aq_eq, aq_ne, fi_eq, fi_nk, fi_na, fr_eq, fr_nk, fr_na, up_eq, up_ne, hkh, oI_s, hop, f2, e2, mP, hN2, e3, hN5, e6, e7, p8, e9, hm10, hN10, e11]
