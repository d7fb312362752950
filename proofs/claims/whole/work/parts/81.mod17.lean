/-! ===== the row by which least is lost, in the reference ===== -/
theorem clamp_N (s : Int32) : ∃ t : Nat, t < 100 ∧ clampI s = nI t := by
  unfold clampI
  by_cases h1 : s < nI 0
  · exact ⟨0, by decide, if_pos h1⟩
  · rw [if_neg h1]
    by_cases h2 : nI 99 < s
    · exact ⟨99, by decide, if_pos h2⟩
    · rw [if_neg h2]
      obtain ⟨j, h3, h4, h5⟩ := (inR_i (v := s) (lo := 0) (c := 99) (by decide) (by decide)).mp ⟨h1, h2⟩
      exact ⟨j, h4, h5⟩
def thN (kn : Nat → Int32) (tk : Nat → Nat × Nat) (m : Nat) : Nat := (thkV kn tk m).toNatClampNeg
theorem thN_eq (kn : Nat → Int32) (tk : Nat → Nat × Nat) (m : Nat) : thkV kn tk m = nI (thN kn tk m) ∧ thN kn tk m < 100 := by
  unfold thN
  obtain ⟨t, h1, h2⟩ := clamp_N (if m = 0 then kn 0 - kn 4 else (stq kn tk (fun _ => nI 0) m).2 0)
  have h3 : thkV kn tk m = nI t := h2
  rw [h3, nI_clamp (by omega)]
  exact ⟨rfl, h1⟩
/-- what is lost by a picture -/
noncomputable def lossN (pv : Nat → Nat → Nat) (n : Nat) (tk : Nat → Nat × Nat) (m : Nat) (r : Nat → Int32) (p : Nat) : Nat := pv p 2 - thN (knF pv n r p) tk m
noncomputable def lookF (tire : Int32) (pv : Nat → Nat → Nat) (n : Nat) (tk : Nat → Nat × Nat) (m : Nat) (r : Nat → Int32) (p : Nat) : Nat → Int32 := lookR tire (thkV (knF pv n r p) tk m) p r
/-- a row of pictures: what is lost -/
noncomputable def lostL (tire : Int32) (pv : Nat → Nat → Nat) (n : Nat) (tk : Nat → Nat × Nat) (m : Nat) : (Nat → Int32) → List Nat → Nat
  | _, [] => 0
  | r, p :: l => lossN pv n tk m r p + lostL tire pv n tk m (lookF tire pv n tk m r p) l
noncomputable def rowL (tire : Int32) (pv : Nat → Nat → Nat) (n : Nat) (tk : Nat → Nat × Nat) (m : Nat) (r : Nat → Int32) (l : List Nat) : Nat → Int32 := l.foldl (lookF tire pv n tk m) r
theorem lost_app {tire : Int32} {pv : Nat → Nat → Nat} {n : Nat} {tk : Nat → Nat × Nat} {m : Nat} : ∀ (l : List Nat) (r : Nat → Int32) (p : Nat), lostL tire pv n tk m r (l ++ [p]) = lostL tire pv n tk m r l + lossN pv n tk m (rowL tire pv n tk m r l) p
  | [], r, p => by show lossN pv n tk m r p + 0 = 0 + lossN pv n tk m r p; omega
  | q :: l, r, p => by
    show lossN pv n tk m r q + lostL tire pv n tk m (lookF tire pv n tk m r q) (l ++ [p]) = lossN pv n tk m r q + lostL tire pv n tk m (lookF tire pv n tk m r q) l + _
    rw [lost_app l]
    show _ + (_ + lossN pv n tk m (rowL tire pv n tk m (lookF tire pv n tk m r q) l) p) = _ + _ + lossN pv n tk m (rowL tire pv n tk m (lookF tire pv n tk m r q) l) p
    omega
theorem row_app {tire : Int32} {pv : Nat → Nat → Nat} {n : Nat} {tk : Nat → Nat × Nat} {m : Nat} (l : List Nat) (r : Nat → Int32) (p : Nat) : rowL tire pv n tk m r (l ++ [p]) = lookF tire pv n tk m (rowL tire pv n tk m r l) p := by
  unfold rowL
  rw [List.foldl_append]; rfl
theorem lost_le {tire : Int32} {pv : Nat → Nat → Nat} {n : Nat} {tk : Nat → Nat × Nat} {m : Nat} : ∀ (l : List Nat) (r : Nat → Int32), (∀ p ∈ l, pv p 2 < 41) → lostL tire pv n tk m r l ≤ 40 * l.length
  | [], _, _ => Nat.le_refl 0
  | p :: l, r, h => by
    have h1 := lost_le (tire := tire) (n := n) (tk := tk) (m := m) l (lookF tire pv n tk m r p) (fun q hq => h q (List.mem_cons_of_mem _ hq))
    have h2 := h p List.mem_cons_self
    have h3 : lossN pv n tk m r p ≤ pv p 2 := Nat.sub_le _ _
    show lossN pv n tk m r p + lostL tire pv n tk m _ l ≤ 40 * (l.length + 1)
    omega
theorem gd_at {l : List Nat} {k : Nat} (hk : k < l.length) : l.getD k 0 = l[k] := by
  rw [List.getD_eq_getElem?_getD, List.getElem?_eq_getElem hk]; rfl
theorem sm_mk2 (M : MM) (r : Nat → Int32) : setA M 522 r = smM M r (fi M 53 45) (fi M 53 46) (ai M 439) (ai M 438) := by
  rw [← sm_mk]
  have e1 : fi M 53 45 = fi (setA M 522 r) 53 45 := by rw [fi_setA]
  rw [e1, setI_self]
  have e2 : fi M 53 46 = fi (setA M 522 r) 53 46 := by rw [fi_setA]
  rw [e2, setI_self]
theorem m_lostBy {d n m : Nat} {M : MM} {pv : Nat → Nat → Nat} {tk : Nat → Nat × Nat} {l : List Nat} (hM : MW M n pv) (hW : LWt M m tk) (hL : LOK tk m) (hd : 22 ≤ d) (hl6 : l.length ≤ 6) (hl : ∀ k, k < l.length → ai M 545 k = nI (l.getD k 0) ∧ l.getD k 0 < n) : ∃ r f g, evC d 246 [.ref 53, .int (nI l.length)] (toH M) = some (.inl (some (.int (nI (lostL (ai M 57 2) pv n tk m (ai M 521) l)))), toH (smM M r (fi M 53 45) (fi M 53 46) f g)) := by
  have hMs : ∀ r f g, MW (smM M r (fi M 53 45) (fi M 53 46) f g) n pv := fun r f g => by
    obtain ⟨hS, hn, h16, hpv, hrg⟩ := hM
    exact ⟨by rw [sm_S]; exact hS, by rw [sm_ai (by decide) (by decide) (by decide)]; exact hn, h16, fun p k hp hk => by rw [sm_ai (by omega) (by omega) (by omega)]; exact hpv p k hp hk, hrg⟩
  have hWs : ∀ r f g, LWt (smM M r (fi M 53 45) (fi M 53 46) f g) m tk := fun r f g => ⟨by rw [sm_17]; exact hW.1, fun k hk => by
    have := hL.1
    rw [sm_ai (by omega) (by omega) (by omega)]; exact hW.2 k hk⟩
  obtain ⟨hS, hn, h16, hpv, hrg⟩ := hM
  have hmem : ∀ p ∈ l, p < n := fun p hp => by
    obtain ⟨k, hk, e⟩ := List.mem_iff_getElem.mp hp
    have := (hl k hk).2
    rw [gd_at hk, e] at this
    exact this
  have hag0 : Ag (cpR (ai M 521) (ai M 522)) (ai M 521) := fun j hj => if_pos hj
  -- the rows agree below 83
  have hLp := Ev_inv (d := d - 1) (e := 15) (b := t_X10_lostBy_l15b) (fun k st => ∃ r f g, Ag r (rowL (ai M 57 2) pv n tk m (ai M 521) (l.take k)) ∧ st = ([.ref 53, .int (nI l.length), .int (nI (lostL (ai M 57 2) pv n tk m (ai M 521) (l.take k))), .int (nI k)], [], toH (smM M r (fi M 53 45) (fi M 53 46) f g))) (fun o X => o = .inl 1 ∧ ∃ r f g, X = ([.ref 53, .int (nI l.length), .int (nI (lostL (ai M 57 2) pv n tk m (ai M 521) l)), .retAddr 0], [], toH (smM M r (fi M 53 45) (fi M 53 46) f g))) l.length (by
      rintro k st hk ⟨r, f, g, hag, rfl⟩
      obtain ⟨hl1, hl2⟩ := hl k hk
      rw [gd_at hk] at hl1 hl2
      generalize hpk : l[k] = p at hl1 hl2
      have htk : l.take (k + 1) = l.take k ++ [p] := by rw [List.take_succ_eq_append_getElem hk, hpk]
      obtain ⟨f1, g1, e1⟩ := m_looks (d := d - 1) (M := smM M r (fi M 53 45) (fi M 53 46) f g) (a := 522) (p := p) (hMs _ _ _) (hWs _ _ _) hL (by omega) (Or.inr rfl) hl2
      rw [sm_A, sm_r, sm_ai (by decide) (by decide) (by decide)] at e1
      have hag2 : Ag (lookR (ai M 57 2) (thkV (knF pv n r p) tk m) p r) (rowL (ai M 57 2) pv n tk m (ai M 521) (l.take (k + 1))) := by
        rw [htk, row_app]
        exact hag.look (by omega) (hag.thk hL h16 (by omega))
      refine ⟨_, ?_, lookR (ai M 57 2) (thkV (knF pv n r p) tk m) p r, f1, g1, hag2, rfl⟩
      rw [htk, lost_app]
      obtain ⟨t1, t2⟩ := thN_eq (knF pv n r p) tk m
      have et : thkV (knF pv n r p) tk m = thkV (knF pv n (rowL (ai M 57 2) pv n tk m (ai M 521) (l.take k)) p) tk m := hag.thk hL h16 (by omega)
      have elo : lossN pv n tk m (rowL (ai M 57 2) pv n tk m (ai M 521) (l.take k)) p = pv p 2 - thN (knF pv n r p) tk m := by
        unfold lossN thN
        rw [et]
      rw [elo]
      have e32 : lookR (ai M 57 2) (thkV (knF pv n r p) tk m) p r (32 + p) = nI (thN (knF pv n r p) tk m) := by
        unfold lookR
        rw [up_ne (by omega), up_ne (by omega), up_ne (by omega), up_eq, t1]
      generalize hrr : lookR (ai M 57 2) (thkV (knF pv n r p) tk m) p r = rr at *
      generalize thN (knF pv n r p) tk m = t at *
      have hw := (hrg p hl2).2.2.1
      have hmo : (if nI (pv p 2) - nI t < nI 0 then nI 0 else nI (pv p 2) - nI t) = nI (pv p 2 - t) := by
        by_cases h : pv p 2 < t
        · rw [if_pos (show nI (pv p 2) - nI t < nI 0 from pk_sneg (by omega) h), show pv p 2 - t = 0 by omega]
        · have h9 : ¬ nI (pv p 2 - t) < nI 0 := fun z => nI_pos (n := pv p 2 - t) (by omega) z
          rw [pk_sub (by omega), if_neg h9]
      have hpn : p < 16 := by omega
      have hS2 : ∀ r f g, SH (smM M r (fi M 53 45) (fi M 53 46) f g) := fun r f g => by rw [sm_S]; exact hS
      have h545 : ∀ r f g, ai (smM M r (fi M 53 45) (fi M 53 46) f g) 545 = ai M 545 := fun r f g => sm_ai (by decide) (by decide) (by decide)
      have h78 : ∀ r f g, ai (smM M r (fi M 53 45) (fi M 53 46) f g) (78 + p) = ai M (78 + p) := fun r f g => sm_ai (by omega) (by omega) (by omega)
      have h522 : ∀ r f g, ai (smM M r (fi M 53 45) (fi M 53 46) f g) 522 = r := fun r f g => sm_r _ _ _ _ _ _
      have hS3 := hS2 r f g
      have hS4 := hS2 rr f1 g1
      have a1 := h545 r f g
      have a2 := h545 rr f1 g1
      have a3 := h78 rr f1 g1
      have a4 := h522 rr f1 g1
      generalize smM M r (fi M 53 45) (fi M 53 46) f g = N0 at *
      generalize smM M rr (fi M 53 45) (fi M 53 46) f1 g1 = N1 at *
      simp (disch := first | assumption | (simp (disch := first | assumption | omega) only [List.length_cons, List.length_nil, C_53, C_54, C_55, C_56, C_57, C_58, C_59, C_60, C_77, C_94, C_255, C_416, C_427, C_438, C_439, C_440, C_521, C_522, C_523, C_540, C_544, C_545, C_546, C_547, N_54, N_55, N_56, N_57, N_58, N_59, N_60, N_77, N_94, N_255, N_416, N_427, N_438, N_439, N_440, N_521, N_522, N_523, N_540, N_544, N_545, N_546, N_547, F_53_9, F_53_10, F_53_11, F_53_12, F_53_13, F_53_14, F_53_15, F_53_16, F_53_19, F_53_20, F_53_21, F_53_22, F_53_23, F_53_24, F_53_25, F_53_27, F_53_28, F_53_29, F_53_30, F_53_41, F_53_42, F_53_43, Q_60, QC_60, QN_60, Q_77, QC_77, QN_77, Q_94, QC_94, QN_94, Q_255, QC_255, QN_255, Q_416, QC_416, QN_416, Q_427, QC_427, QN_427, Q_440, QC_440, QN_440, Q_523, QC_523, QN_523, Q_540, QC_540, QN_540] <;> first | omega | assumption) | omega) only [Ev, ev_sqb, t_X10_lostBy_l15b, x_iload_n3, y_iload_n3, x_iload_n1, y_iload_n1, x_if_icmp_ge, y_if_icmp_ge, x_aload_n0, y_aload_n0, x_gf_9_28, y_gf_9_28, x_gf_9_42, y_gf_9_42, x_iaload, y_iaload, x_iaload_s, y_iaload_s, x_iv2, y_iv2, x_iload_n2, y_iload_n2, x_iconst_0, y_iconst_0, x_gf_9_16, y_gf_9_16, x_aaload3, y_aaload3, x_aaload4, y_aaload4, x_iconst_2, y_iconst_2, x_bipush_32, y_bipush_32, x_iadd, y_iadd, x_isub, y_isub, x_is2, y_is2, x_istore_n2, y_istore_n2, x_iinc3_1, y_iinc3_1, x_goto, y_goto, t_X10_lostBy, x_gf_9_27, y_gf_9_27, x_istore_n3, y_istore_n3, y_iret, ev_bk, sq0, sq1, sq2, bk0, bk1, bk2, sq_if, bk_if, rt_if, cr_if, cr0, cr1, crE, rt1, rtE, va_rf_s, va_rf_n, ls_0, ls_1i, ls_1r, ls_1n, ls_1j, ls_1l, ls_2, ls_3, ls_4, ls_5, ls_6, ls_7, ls_8, ls_9, ls_10, ls_11, ls_12, nI_add, nI_ltI, nI_eq, nI_eq0, nI_lt0, nI_0lt, nI_n1, n1_nI, n1_lt, lt_n1, n1_0, n1_n1, n1_l0, if_true, if_false, ite_true, ite_false, bI_0, bI_1, not_true_eq_false, not_false_eq_true, Ew_i, Er_i, Lq_c, Lq_j, Lq_n, Nat.reduceAdd, Nat.zero_add, Nat.add_zero, Nat.lt_irrefl, Bool.false_eq_true, Nat.reduceEqDiff, Nat.reduceLT, Nat.reduceSub, Nat.reduceMul, Nat.one_ne_zero, C_53, C_54, C_55, C_56, C_57, C_58, C_59, C_60, C_77, C_94, C_255, C_416, C_427, C_438, C_439, C_440, C_521, C_522, C_523, C_540, C_544, C_545, C_546, C_547, N_54, N_55, N_56, N_57, N_58, N_59, N_60, N_77, N_94, N_255, N_416, N_427, N_438, N_439, N_440, N_521, N_522, N_523, N_540, N_544, N_545, N_546, N_547, F_53_9, F_53_10, F_53_11, F_53_12, F_53_13, F_53_14, F_53_15, F_53_16, F_53_19, F_53_20, F_53_21, F_53_22, F_53_23, F_53_24, F_53_25, F_53_27, F_53_28, F_53_29, F_53_30, F_53_41, F_53_42, F_53_43, Q_60, QC_60, QN_60, Q_77, QC_77, QN_77, Q_94, QC_94, QN_94, Q_255, QC_255, QN_255, Q_416, QC_416, QN_416, Q_427, QC_427, QN_427, Q_440, QC_440, QN_440, Q_523, QC_523, QN_523, Q_540, QC_540, QN_540, hk, a1, a2, a3, a4, hl1, e1, e32, hpv p 2 hl2 (by omega), m_more, hmo]) (by
      rintro st ⟨r, f, g, hag, rfl⟩
      refine ⟨.inl 2, _, ?_, (fun z => by cases z), rfl, r, f, g, rfl⟩
      rw [List.take_length]
      simp (disch := first | assumption | (simp only [List.length_cons, List.length_nil] <;> omega) | omega) only [Ev, ev_sqb, t_X10_lostBy_l15b, x_iload_n3, y_iload_n3, x_iload_n1, y_iload_n1, x_if_icmp_ge, y_if_icmp_ge, x_aload_n0, y_aload_n0, x_gf_9_28, y_gf_9_28, x_gf_9_42, y_gf_9_42, x_iaload, y_iaload, x_iaload_s, y_iaload_s, x_iv2, y_iv2, x_iload_n2, y_iload_n2, x_iconst_0, y_iconst_0, x_gf_9_16, y_gf_9_16, x_aaload3, y_aaload3, x_aaload4, y_aaload4, x_iconst_2, y_iconst_2, x_bipush_32, y_bipush_32, x_iadd, y_iadd, x_isub, y_isub, x_is2, y_is2, x_istore_n2, y_istore_n2, x_iinc3_1, y_iinc3_1, x_goto, y_goto, t_X10_lostBy, x_gf_9_27, y_gf_9_27, x_istore_n3, y_istore_n3, y_iret, ev_bk, sq0, sq1, sq2, bk0, bk1, bk2, sq_if, bk_if, rt_if, cr_if, cr0, cr1, crE, rt1, rtE, va_rf_s, va_rf_n, ls_0, ls_1i, ls_1r, ls_1n, ls_1j, ls_1l, ls_2, ls_3, ls_4, ls_5, ls_6, ls_7, ls_8, ls_9, ls_10, ls_11, ls_12, nI_add, nI_ltI, nI_eq, nI_eq0, nI_lt0, nI_0lt, nI_n1, n1_nI, n1_lt, lt_n1, n1_0, n1_n1, n1_l0, if_true, if_false, ite_true, ite_false, bI_0, bI_1, not_true_eq_false, not_false_eq_true, Ew_i, Er_i, Lq_c, Lq_j, Lq_n, Nat.reduceAdd, Nat.zero_add, Nat.add_zero, Nat.lt_irrefl, Bool.false_eq_true, Nat.reduceEqDiff, Nat.reduceLT, Nat.reduceSub, Nat.reduceMul, Nat.one_ne_zero, sh_setI', ln_setI', fr_setI', ai_setI', al_setI', aq_setI', nx_setI', sl_setI', sL_setI', sX_setI', cl_setI', sh_setR', ln_setR', fi_setR', ai_setR', al_setR', aq_setR', nx_setR', sl_setR', sL_setR', sX_setR', cl_setR', sh_setA', ln_setA', fi_setA', fr_setA', al_setA', aq_setA', nx_setA', sl_setA', sL_setA', sX_setA', cl_setA', sh_setL', ln_setL', fi_setL', fr_setL', ai_setL', aq_setL', nx_setL', sl_setL', sL_setL', sX_setL', cl_setL', sh_setQ', ln_setQ', fi_setQ', fr_setQ', ai_setQ', al_setQ', nx_setQ', sl_setQ', sL_setQ', sX_setQ', cl_setQ', ai_eq, ai_ne, al_eq, al_ne, aq_eq, aq_ne, fi_eq, fi_nk, fi_na, fr_eq, fr_nk, fr_na, up_eq, up_ne]) ([.ref 53, .int (nI l.length), .int (nI 0), .int (nI 0)], [], toH (smM M (cpR (ai M 521) (ai M 522)) (fi M 53 45) (fi M 53 46) (ai M 439) (ai M 438))) ⟨_, _, _, hag0, rfl⟩
  obtain ⟨o, X, e1, rfl, r, f, g, rfl⟩ := hLp
  refine ⟨r, f, g, ?_⟩
  rw [E_X10_lostBy (by omega)]
  refine Er.ret ?_
  have hc := m_copies (d := d - 1) (a := 521) (b := 522) (M := M) (by omega) (C_521 hS) (N_521 hS) (C_522 hS) (N_522 hS) (by decide)
  rw [sm_mk2] at hc
  have hS5 : SH (smM M (cpR (ai M 521) (ai M 522)) (fi M 53 45) (fi M 53 46) (ai M 439) (ai M 438)) := by rw [sm_S]; exact hS
  generalize smM M (cpR (ai M 521) (ai M 522)) (fi M 53 45) (fi M 53 46) (ai M 439) (ai M 438) = N0 at *
  simp (disch := first | assumption | (simp (disch := first | assumption | omega) only [List.length_cons, List.length_nil, C_53, C_54, C_55, C_56, C_57, C_58, C_59, C_60, C_77, C_94, C_255, C_416, C_427, C_438, C_439, C_440, C_521, C_522, C_523, C_540, C_544, C_545, C_546, C_547, N_54, N_55, N_56, N_57, N_58, N_59, N_60, N_77, N_94, N_255, N_416, N_427, N_438, N_439, N_440, N_521, N_522, N_523, N_540, N_544, N_545, N_546, N_547, F_53_9, F_53_10, F_53_11, F_53_12, F_53_13, F_53_14, F_53_15, F_53_16, F_53_19, F_53_20, F_53_21, F_53_22, F_53_23, F_53_24, F_53_25, F_53_27, F_53_28, F_53_29, F_53_30, F_53_41, F_53_42, F_53_43, Q_60, QC_60, QN_60, Q_77, QC_77, QN_77, Q_94, QC_94, QN_94, Q_255, QC_255, QN_255, Q_416, QC_416, QN_416, Q_427, QC_427, QN_427, Q_440, QC_440, QN_440, Q_523, QC_523, QN_523, Q_540, QC_540, QN_540] <;> first | omega | assumption) | omega) only [Ev, ev_sqb, t_X10_lostBy_l15b, x_iload_n3, y_iload_n3, x_iload_n1, y_iload_n1, x_if_icmp_ge, y_if_icmp_ge, x_aload_n0, y_aload_n0, x_gf_9_28, y_gf_9_28, x_gf_9_42, y_gf_9_42, x_iaload, y_iaload, x_iaload_s, y_iaload_s, x_iv2, y_iv2, x_iload_n2, y_iload_n2, x_iconst_0, y_iconst_0, x_gf_9_16, y_gf_9_16, x_aaload3, y_aaload3, x_aaload4, y_aaload4, x_iconst_2, y_iconst_2, x_bipush_32, y_bipush_32, x_iadd, y_iadd, x_isub, y_isub, x_is2, y_is2, x_istore_n2, y_istore_n2, x_iinc3_1, y_iinc3_1, x_goto, y_goto, t_X10_lostBy, x_gf_9_27, y_gf_9_27, x_istore_n3, y_istore_n3, y_iret, ev_bk, sq0, sq1, sq2, bk0, bk1, bk2, sq_if, bk_if, rt_if, cr_if, cr0, cr1, crE, rt1, rtE, va_rf_s, va_rf_n, ls_0, ls_1i, ls_1r, ls_1n, ls_1j, ls_1l, ls_2, ls_3, ls_4, ls_5, ls_6, ls_7, ls_8, ls_9, ls_10, ls_11, ls_12, nI_add, nI_ltI, nI_eq, nI_eq0, nI_lt0, nI_0lt, nI_n1, n1_nI, n1_lt, lt_n1, n1_0, n1_n1, n1_l0, if_true, if_false, ite_true, ite_false, bI_0, bI_1, not_true_eq_false, not_false_eq_true, Ew_i, Er_i, Lq_c, Lq_j, Lq_n, Nat.reduceAdd, Nat.zero_add, Nat.add_zero, Nat.lt_irrefl, Bool.false_eq_true, Nat.reduceEqDiff, Nat.reduceLT, Nat.reduceSub, Nat.reduceMul, Nat.one_ne_zero, C_53, C_54, C_55, C_56, C_57, C_58, C_59, C_60, C_77, C_94, C_255, C_416, C_427, C_438, C_439, C_440, C_521, C_522, C_523, C_540, C_544, C_545, C_546, C_547, N_54, N_55, N_56, N_57, N_58, N_59, N_60, N_77, N_94, N_255, N_416, N_427, N_438, N_439, N_440, N_521, N_522, N_523, N_540, N_544, N_545, N_546, N_547, F_53_9, F_53_10, F_53_11, F_53_12, F_53_13, F_53_14, F_53_15, F_53_16, F_53_19, F_53_20, F_53_21, F_53_22, F_53_23, F_53_24, F_53_25, F_53_27, F_53_28, F_53_29, F_53_30, F_53_41, F_53_42, F_53_43, Q_60, QC_60, QN_60, Q_77, QC_77, QN_77, Q_94, QC_94, QN_94, Q_255, QC_255, QN_255, Q_416, QC_416, QN_416, Q_427, QC_427, QN_427, Q_440, QC_440, QN_440, Q_523, QC_523, QN_523, Q_540, QC_540, QN_540, hc]
  refine Er.lp e1 rfl ?_
  simp (disch := first | assumption | (simp only [List.length_cons, List.length_nil] <;> omega) | omega) only [Ev, ev_sqb, t_X10_lostBy_l15b, x_iload_n3, y_iload_n3, x_iload_n1, y_iload_n1, x_if_icmp_ge, y_if_icmp_ge, x_aload_n0, y_aload_n0, x_gf_9_28, y_gf_9_28, x_gf_9_42, y_gf_9_42, x_iaload, y_iaload, x_iaload_s, y_iaload_s, x_iv2, y_iv2, x_iload_n2, y_iload_n2, x_iconst_0, y_iconst_0, x_gf_9_16, y_gf_9_16, x_aaload3, y_aaload3, x_aaload4, y_aaload4, x_iconst_2, y_iconst_2, x_bipush_32, y_bipush_32, x_iadd, y_iadd, x_isub, y_isub, x_is2, y_is2, x_istore_n2, y_istore_n2, x_iinc3_1, y_iinc3_1, x_goto, y_goto, t_X10_lostBy, x_gf_9_27, y_gf_9_27, x_istore_n3, y_istore_n3, y_iret, ev_bk, sq0, sq1, sq2, bk0, bk1, bk2, sq_if, bk_if, rt_if, cr_if, cr0, cr1, crE, rt1, rtE, va_rf_s, va_rf_n, ls_0, ls_1i, ls_1r, ls_1n, ls_1j, ls_1l, ls_2, ls_3, ls_4, ls_5, ls_6, ls_7, ls_8, ls_9, ls_10, ls_11, ls_12, nI_add, nI_ltI, nI_eq, nI_eq0, nI_lt0, nI_0lt, nI_n1, n1_nI, n1_lt, lt_n1, n1_0, n1_n1, n1_l0, if_true, if_false, ite_true, ite_false, bI_0, bI_1, not_true_eq_false, not_false_eq_true, Ew_i, Er_i, Lq_c, Lq_j, Lq_n, Nat.reduceAdd, Nat.zero_add, Nat.add_zero, Nat.lt_irrefl, Bool.false_eq_true, Nat.reduceEqDiff, Nat.reduceLT, Nat.reduceSub, Nat.reduceMul, Nat.one_ne_zero, sh_setI', ln_setI', fr_setI', ai_setI', al_setI', aq_setI', nx_setI', sl_setI', sL_setI', sX_setI', cl_setI', sh_setR', ln_setR', fi_setR', ai_setR', al_setR', aq_setR', nx_setR', sl_setR', sL_setR', sX_setR', cl_setR', sh_setA', ln_setA', fi_setA', fr_setA', al_setA', aq_setA', nx_setA', sl_setA', sL_setA', sX_setA', cl_setA', sh_setL', ln_setL', fi_setL', fr_setL', ai_setL', aq_setL', nx_setL', sl_setL', sL_setL', sX_setL', cl_setL', sh_setQ', ln_setQ', fi_setQ', fr_setQ', ai_setQ', al_setQ', nx_setQ', sl_setQ', sL_setQ', sX_setQ', cl_setQ', ai_eq, ai_ne, al_eq, al_ne, aq_eq, aq_ne, fi_eq, fi_nk, fi_na, fr_eq, fr_nk, fr_na, up_eq, up_ne]
