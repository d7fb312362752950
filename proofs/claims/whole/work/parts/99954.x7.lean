/-! ===== the class: work ===== -/
theorem c_work_t {d n T e ab sa ru sr li sn dk W m f : Nat} {A : AB} {M : MM} {tx : Nat → Nat} {w : WK} {tk : Nat → Nat × Nat} {row : Nat → Int32} {st2 : GS} (hW : CW M ab sa ru sr li sn dk) (hroom : nx M + 5 < 900000) (hA : CAA M ab A) (hd : 130 ≤ d) (hT : fi M 1 1 = nI T) (hT6 : T ≤ 600) (hb : ∀ i, i < 600 → ai M 2 i = sbI (tx i) ∧ tx i < 256) (hn : n ≤ T) (hn1 : n ≤ 150) (hw : fi M dk 10 = nI W) (hw16 : W < 16) (hD : DS M dk A.1 A.2.1 row) (hR : RW A.1 row) (hU : RUs M ru m tk) (hL : LOK tk m) (hp : pWk tx n A.1 = .inr (w, e)) (hg : goF (fun i => (w.2 i).1) (fun i => (w.2 i).2.1) (fun i => (w.2 i).2.2) (fun i r => canA (w.2 i).1 (w.2 i).2.1 r) (fun i r => actR (nI A.2.2.2.2.1) (nI A.2.2.2.2.2) A.2.1 A.1 tk m (w.2 i).1 (w.2 i).2.1 r) f false 0 0 w.1 (row, 0, 0, 0) = some st2) :
    ∃ N, evC d 102 [.ref 0, .int (nI n)] (toH M) = some (.inl (some (.int (nI st2.2.2.1))), toH N) ∧ CW N ab sa ru sr li sn (nx M) ∧ (∀ b, b < nx M → ¬ (b = 0 ∨ plS b ∨ b = ru + 1 ∨ b = ru + 3) → Sm M N b) ∧ (sL N = sL M ∧ sX N = sX M) ∧ nx N = nx M + 5 ∧ sl N = sl M + clN 3 + 58 ∧ DS N (nx M) A.1 A.2.1 st2.1 ∧ RW A.1 st2.1 ∧ fr N (nx M) 11 = some dk ∧ fi N (nx M) 10 = nI (W + 1) ∧ fi N 1 1 = nI 0 ∧ fi N 1 6 = -1 ∧ fi N 0 14 = nI st2.2.2.2 ∧ ∀ k, ¬ k = 14 → fi N 0 k = fi M 0 k := by
  obtain ⟨hS, hab, hru, hli, ⟨f6, f7, f8, f9, f10, f11, f12⟩, hDK, hdk, hdn, hnx⟩ := hW
  have h548 := hS.1
  obtain ⟨N0, e0, F0, C0, -⟩ := c_open (d := d - 1) (n := n) hS hb (by omega) (by omega)
  obtain ⟨N1, e1, F1, C1, P1⟩ := c_pl_read (d := d - 1) (n := A.1) hn1 hA.2.1 C0 (by omega)
  obtain ⟨h37, hO⟩ := pWk_wf hn1 hp
  have Pc := P1 w e hp
  rw [hp] at C1 e1
  have C1 : CS N1 tx n (.inr e) := C1
  rw [bI_t (p := ∃ a, stO (.inr (w, e) : PR WK) = .inr a) ⟨e, rfl⟩] at e1
  have G1 : Fc plS M N1 := (F0.mono (fun b z => Or.inl z)).tr F1
  have S0 := C0.1
  have S1 := C1.1
  have fr1 : fr N1 = fr M := G1.1.2.2.1
  have nx1 : nx N1 = nx M := G1.2.1.1
  have sl1 : sl N1 = sl M := G1.2.1.2.1
  have fi10 : fi N1 0 = fi M 0 := (G1.2.2 0 (by unfold plS; omega)).1
  have fid : fi N1 dk = fi M dk := (G1.2.2 dk (by unfold plS; omega)).1
  obtain ⟨N2, N3, N4, N6, ⟨e2, S2, c2, g2⟩, ⟨e3, S3, c3, g3⟩, ⟨e4, S4, c4, c4d, g4, w4⟩, ⟨e6, S6, K6, D6, b6, w6, g6, k6, z6⟩, M6, x6, y6, l6, s6⟩ := c_wk_desk (d := d - 1) (n := A.1) (pv := A.2.1) (row := row) (W := W) S1 (G1.DK hDK) hdk (by omega) (by omega) (G1.DS (fun a h1 h2 => by unfold plS; omega) hD) hA.2.1 (by rw [fid]; exact hw) (by rw [fr1]; exact f12) (by omega)
  rw [nx1] at e2 c2 e3 c3 e4 c4 e6 K6 D6 b6 w6 g6 M6 x6
  rw [sl1] at y6
  have e2' : ∀ t l s, ev (d - 1) (sq (lf (.new 37) [3]) t) (l, s, toH N1) = ev (d - 1) t (l, .ref (nx M) :: s, toH (xO N1 3)) := fun t l s => by rw [← nx1]; exact x_new_3 (by omega)
  -- what the plan needs
  have m3 := M6 3 (by omega) (by decide)
  have m4 := M6 4 (by omega) (by decide)
  have m5 := M6 5 (by omega) (by decide)
  have m6 := M6 6 (by omega) (by decide)
  have Pc6 : PLc N6 w := ⟨by rw [m3.2.2.1]; exact Pc.1, fun i hi => (Pc.2 i hi).t (by rw [m4.2.2.2.2.1]) (by rw [m5.2.2.2.2.1]) (by rw [m6.2.2.2.2.1])⟩
  have A1 : CAA N1 ab A := G1.CA (fun b h1 h2 z => by unfold plS at z; omega) hA
  have U1 : RUs N1 ru m tk := G1.RU (by unfold plS; omega) (by unfold plS; omega) hU
  have GG : Gf (fun b => b = 0 ∨ nx M ≤ b) N1 N6 := ⟨by omega, ⟨l6, s6⟩, fun b h1 h2 => M6 b (by omega) (by omega)⟩
  have A6 : CAA N6 ab A := GG.ca (by omega) (fun b h1 h2 => by omega) A1
  have U6 : RUs N6 ru m tk := GG.ru (by omega) (by omega) (by omega) U1
  obtain ⟨N7, e7, F7, D7, R7, b7, d7, r7, w7⟩ := c_perform (d := d - 1) (dk := nx M) S6 (ABo_of S6 (show ab = 18 ∨ ab = 26 by omega)) (RB_of S6 (show ru = 34 ∨ ru = 38 by omega)) K6 A6 D6 hR U6 hL (by omega) (Pc6.s h37 hO) Pc6.1 (by omega) hg
  have S7 : SH N7 := F7.SH S6
  have fr7 : fr N7 = fr N6 := F7.1.2.2.1
  have nx7 : nx N7 = nx M + 5 := F7.2.1.1.trans x6
  have sl7 : sl N7 = sl M + clN 3 + 58 := F7.2.1.2.1.trans y6
  have fi7 : fi N7 0 = fi M 0 := by rw [(F7.2.2 0 (by unfold ppS dkS; omega)).1, z6, fi10]
  have F8 : Fc (fun b => b = 0) N7 (setI N7 0 14 (nI st2.2.2.2)) := Fc.I rfl
  have K7 : DK N7 (nx M) := F7.DK K6
  have k7 : ∀ k, ¬ k = 12 → fr N7 0 k = fr M 0 k := fun k hk => by rw [fr7, k6 k hk, fr1]
  have one7 : fi N7 1 = fi N1 1 := by rw [(F7.2.2 1 (by unfold ppS dkS; omega)).1]; exact (M6 1 (by omega) (by decide)).2.2.1
  refine ⟨setI N7 0 14 (nI st2.2.2.2), ?_, ⟨F8.SH S7, hab, hru, hli, ⟨?_, ?_, ?_, ?_, ?_, ?_, ?_⟩, F8.DK K7, Or.inr (by omega), by rw [nx_setI]; omega, by rw [nx_setI]; omega⟩, fun b h1 h2 => ?_, ⟨?_, ?_⟩, ?_, ?_, F8.DS (fun a h1 h2 => by omega) D7, R7, ?_, ?_, ?_, ?_, fi_eq _ _ _ _, fun k hk => by rw [fi_nk hk, fi7]⟩
  · have hq := c_reqA_1 (d := d - 1) (by omega) hS
    have h1 : ¬ 150 < n := by omega
    have h2 : ¬ T < n := by omega
    have dC := hDK.1
    have q6 : fr N0 0 6 = some ab := by rw [F0.1.2.2.1]; exact f6
    have bC0 := (F0.AB (ABo_of hS (show ab = 18 ∨ ab = 26 by omega))).2.1
    have a7 : fi N0 ab 7 = nI A.1 := by rw [(F0.2.2 ab (by unfold tpS; omega)).1]; exact hA.1
    have v6 : fr N6 0 6 = some ab := by rw [k6 6 (by decide), fr1]; exact f6
    have v8 : fr N6 0 8 = some ru := by rw [k6 8 (by decide), fr1]; exact f8
    have kC6 := K6.1
    rw [E_X9_work (by omega)]
    simp (disch := first | assumption | (simp (disch := first | assumption | omega) only [sh_setI', ln_setI', fr_setI', ai_setI', al_setI', aq_setI', nx_setI', sl_setI', sL_setI', sX_setI', cl_setI', sh_setR', ln_setR', fi_setR', ai_setR', al_setR', aq_setR', nx_setR', sl_setR', sL_setR', sX_setR', cl_setR', sh_setA', ln_setA', fi_setA', fr_setA', al_setA', aq_setA', nx_setA', sl_setA', sL_setA', sX_setA', cl_setA', sh_setL', ln_setL', fi_setL', fr_setL', ai_setL', aq_setL', nx_setL', sl_setL', sL_setL', sX_setL', cl_setL', sh_setQ', ln_setQ', fi_setQ', fr_setQ', ai_setQ', al_setQ', nx_setQ', sl_setQ', sL_setQ', sX_setQ', cl_setQ', ai_eq, ai_ne, al_eq, al_ne, aq_eq, aq_ne, fi_eq, fi_nk, fi_na, fr_eq, fr_nk, fr_na, up_eq, up_ne, SH_setI', SH_setA', SH_setL', List.length_cons, List.length_nil, C_0, C_1, C_2, C_3, C_4, C_5, C_6, C_7, C_8, C_9, C_10, C_11, C_12, C_13, C_14, C_15, C_16, C_17, C_18, C_19, C_20, C_21, C_22, C_23, C_24, C_25, C_26, C_27, C_28, C_29, C_30, C_31, C_32, C_33, C_34, C_35, C_36, C_37, C_38, C_39, C_40, C_41, C_42, C_43, C_44, C_45, C_46, C_47, C_48, C_49, C_50, C_51, C_52, N_2, N_4, N_5, N_6, N_9, N_10, N_11, N_13, N_14, N_15, N_16, N_17, N_19, N_20, N_21, N_22, N_23, N_24, N_25, N_27, N_28, N_29, N_30, N_31, N_32, N_33, N_35, N_36, N_37, N_39, N_40, N_41, N_43, N_44, N_46, N_47, N_49, N_50, N_51, N_52, F_1_0, F_0_0, F_3_0, F_3_1, F_3_2, F_0_1, F_0_2, F_8_0, F_8_1, F_8_2, F_0_3, F_12_0, F_12_1, F_12_2, F_12_3, F_0_4, F_0_5, F_18_0, F_18_1, F_18_2, F_18_3, F_18_4, F_18_5, F_18_6, F_26_0, F_26_1, F_26_2, F_26_3, F_26_4, F_26_5, F_26_6, F_34_0, F_34_1, F_34_2, F_38_0, F_38_1, F_38_2, F_42_0, F_42_1, F_45_0, F_45_1, F_48_0, F_48_1, F_48_2, F_48_3] <;> first | omega | assumption) | omega) only [Ev, ev_sqb, t_X9_work_k27, x_iconst_0, y_iconst_0, t_X9_work_k28, x_iv1, y_iv1, x_aload_n0, y_aload_n0, x_gf_8_12, y_gf_8_12, x_gf_3_10, y_gf_3_10, x_bipush_16, y_bipush_16, x_if_icmp_lt, y_if_icmp_lt, x_gf_8_0, y_gf_8_0, x_bipush_m20, y_bipush_m20, y_iret, x_iload_n1, y_iload_n1, x_gf_8_1, y_gf_8_1, x_gf_8_6, y_gf_8_6, x_gf_0_7, y_gf_0_7, x_iv2, y_iv2, x_ifCond_ne, y_ifCond_ne, x_gf_7_5, y_gf_7_5, x_bipush_10, y_bipush_10, x_isub, y_isub, x_new_3, y_new_3, x_dup_i, y_dup_i, x_dup_r, y_dup_r, x_ip0, y_ip0, x_astore_n2, y_astore_n2, x_aload_n2, y_aload_n2, x_pf_3_11, y_pf_3_11, x_iconst_1, y_iconst_1, x_iadd, y_iadd, x_pf_3_10, y_pf_3_10, x_pf_8_12, y_pf_8_12, x_gf_8_8, y_gf_8_8, x_iv3, y_iv3, x_gf_5_6, y_gf_5_6, x_pf_8_14, y_pf_8_14, x_gf_5_5, y_gf_5_5, t_X9_work, x_ifCond_lt, y_ifCond_lt, x_sipush_150, y_sipush_150, x_if_icmp_gt, y_if_icmp_gt, x_gf_7_1, y_gf_7_1, x_goto, y_goto, ev_bk, sq0, sq1, sq2, bk0, bk1, bk2, sq_if, bk_if, rt_if, cr_if, cr0, cr1, crE, rt1, rtE, va_rf_s, va_rf_n, ls_0, ls_1i, ls_1r, ls_1n, ls_1j, ls_1l, ls_2, ls_3, ls_4, ls_5, ls_6, ls_7, ls_8, ls_9, ls_10, ls_11, ls_12, nI_add, nI_ltI, nI_eq, nI_eq0, nI_lt0, nI_0lt, nI_n1, n1_nI, n1_lt, lt_n1, n1_0, n1_n1, n1_l0, if_true, if_false, ite_true, ite_false, bI_0, bI_1, not_true_eq_false, not_false_eq_true, Ew_i, Er_i, Lq_c, Lq_j, Lq_n, Nat.reduceAdd, Nat.zero_add, Nat.add_zero, Nat.lt_irrefl, Bool.false_eq_true, Nat.reduceEqDiff, Nat.reduceLT, Nat.reduceSub, Nat.reduceMul, Nat.one_ne_zero, C_0, C_1, C_2, C_3, C_4, C_5, C_6, C_7, C_8, C_9, C_10, C_11, C_12, C_13, C_14, C_15, C_16, C_17, C_18, C_19, C_20, C_21, C_22, C_23, C_24, C_25, C_26, C_27, C_28, C_29, C_30, C_31, C_32, C_33, C_34, C_35, C_36, C_37, C_38, C_39, C_40, C_41, C_42, C_43, C_44, C_45, C_46, C_47, C_48, C_49, C_50, C_51, C_52, N_2, N_4, N_5, N_6, N_9, N_10, N_11, N_13, N_14, N_15, N_16, N_17, N_19, N_20, N_21, N_22, N_23, N_24, N_25, N_27, N_28, N_29, N_30, N_31, N_32, N_33, N_35, N_36, N_37, N_39, N_40, N_41, N_43, N_44, N_46, N_47, N_49, N_50, N_51, N_52, F_1_0, F_0_0, F_3_0, F_3_1, F_3_2, F_0_1, F_0_2, F_8_0, F_8_1, F_8_2, F_0_3, F_12_0, F_12_1, F_12_2, F_12_3, F_0_4, F_0_5, F_18_0, F_18_1, F_18_2, F_18_3, F_18_4, F_18_5, F_18_6, F_26_0, F_26_1, F_26_2, F_26_3, F_26_4, F_26_5, F_26_6, F_34_0, F_34_1, F_34_2, F_38_0, F_38_1, F_38_2, F_42_0, F_42_1, F_45_0, F_45_1, F_48_0, F_48_1, F_48_2, F_48_3, sh_setI', ln_setI', fr_setI', ai_setI', al_setI', aq_setI', nx_setI', sl_setI', sL_setI', sX_setI', cl_setI', sh_setR', ln_setR', fi_setR', ai_setR', al_setR', aq_setR', nx_setR', sl_setR', sL_setR', sX_setR', cl_setR', sh_setA', ln_setA', fi_setA', fr_setA', al_setA', aq_setA', nx_setA', sl_setA', sL_setA', sX_setA', cl_setA', sh_setL', ln_setL', fi_setL', fr_setL', ai_setL', aq_setL', nx_setL', sl_setL', sL_setL', sX_setL', cl_setL', sh_setQ', ln_setQ', fi_setQ', fr_setQ', ai_setQ', al_setQ', nx_setQ', sl_setQ', sL_setQ', sX_setQ', cl_setQ', ai_eq, ai_ne, al_eq, al_ne, aq_eq, aq_ne, fi_eq, fi_nk, fi_na, fr_eq, fr_nk, fr_na, up_eq, up_ne, hT, h1, h2, hq, f12, hw, hw16, e0, q6, a7, e1, e2', e2, g2, e3, g3, e4, g4, w4, e6, g6, v6, v8, e7, r7, d7]
  · rw [fr_setI, k7 6 (by decide)]; exact f6
  · rw [fr_setI, k7 7 (by decide)]; exact f7
  · rw [fr_setI, k7 8 (by decide)]; exact f8
  · rw [fr_setI, k7 9 (by decide)]; exact f9
  · rw [fr_setI, k7 10 (by decide)]; exact f10
  · rw [fr_setI, k7 11 (by decide)]; exact f11
  · rw [fr_setI, fr7]; exact g6
  · have b0 : ¬ b = 0 := fun z => h2 (Or.inl z)
    have bp : ¬ plS b := fun z => h2 (Or.inr (Or.inl z))
    have q1 := G1.G.2.2 b h1 bp
    have q6 := M6 b h1 b0
    have q7 := F7.G.2.2 b (by omega) (fun z => by
      unfold ppS dkS at z
      unfold plS at bp
      rcases z with z | z | z | z
      · omega
      · omega
      · exact h2 (Or.inr (Or.inr (Or.inl z)))
      · exact h2 (Or.inr (Or.inr (Or.inr z))))
    have q8 := F8.G.2.2 b (by omega) b0
    exact ((q1.tr q6).tr q7).tr q8
  · rw [sL_setI, F7.2.1.2.2.1, l6, G1.2.1.2.2.1]
  · rw [sX_setI, F7.2.1.2.2.2, s6, G1.2.1.2.2.2]
  · rw [nx_setI]; exact nx7
  · rw [sl_setI]; exact sl7
  · rw [fr_setI, fr7]; exact b6
  · rw [fi_na (by omega), w7]; exact w6
  · rw [fi_na (by decide), one7]; exact C1.2.1.1.2
  · rw [fi_na (by decide), one7]; exact C1.2.2.2.2.2
