/-! ===== the reference begins ===== -/
def C10 (N : MM) : Prop := (isO N 53 9 (va_up (va_up (va_up (va_up (va_up (va_up (va_up (va_up (va_up (va_up (va_up (va_up (va_up (va_up (va_up (va_up (va_up (va_up (va_up (va_up (va_up (va_up (fun _ => none) 9 (some 54)) 10 (some 55)) 11 (some 56)) 12 (some 57)) 13 (some 58)) 14 (some 59)) 15 (some 60)) 16 (some 77)) 19 (some 94)) 20 (some 255)) 21 (some 416)) 22 (some 427)) 23 (some 438)) 24 (some 439)) 25 (some 440)) 27 (some 521)) 28 (some 522)) 29 (some 523)) 30 (some 540)) 41 (some 544)) 42 (some 545)) 43 (some 546)) (va_up (fun _ => 0) 3 (-1))) ∧ (isA N 54 20 600) ∧ (isA N 55 20 2) ∧ (isA N 56 20 4) ∧ (isA N 57 20 4) ∧ (isA N 58 20 6) ∧ (isA N 59 20 6) ∧ (isR N 60 16 5) ∧ (isR N 77 16 5) ∧ (isR N 94 160 2) ∧ (isR N 255 160 2) ∧ (isR N 416 10 2) ∧ (isR N 427 10 2) ∧ (isA N 438 20 160) ∧ (isA N 439 20 8) ∧ (isR N 440 80 3) ∧ (isA N 521 20 83) ∧ (isA N 522 20 83) ∧ (isR N 523 16 83) ∧ (isR N 540 3 1412) ∧ (isA N 544 21 11) ∧ (isA N 545 20 6) ∧ (isA N 546 20 6)
theorem m10_pre {d : Nat} {M : MM} (hO : isO M 53 9 (fun _ => none) (fun _ => 0)) (hn : nx M = 54) (hl : lnZ M) (hd : 30 ≤ d) : ∃ N, (∀ K1 K2, evC (d - 1) 155 [.ref 53] (toH N) = some (.inl none, toH K1) → cl K1 53 = 9 → evC (d - 1) 183 [.ref 53] (toH K1) = some (.inl none, toH K2) → evC d 154 [.ref 53] (toH M) = some (.inl none, toH K2)) ∧ Gf (fun b => b = 53) M N ∧ nx N = 547 ∧ sl N = sl M + (600 + 2 + 4 + 4 + 6 + 6 + (16 + 16 * 5) + (16 + 16 * 5) + (160 + 160 * 2) + (160 + 160 * 2) + (10 + 10 * 2) + (10 + 10 * 2) + 160 + 8 + (80 + 80 * 3) + 83 + 83 + (16 + 16 * 83) + (3 + 3 * 1412) + 11 + 6 + 6) ∧ lnZ N ∧ C10 N := by
  have c_M := hO.c (by omega)
  obtain ⟨P, p1, p2, p3, p4, p5, p6⟩ := mk_I (M := M) (j := 3) (x := -1) hO hl
  have c_P := p5.c (by omega)
  have hnP : nx P = 54 := by rw [p2]; exact hn
  obtain ⟨Q0, N0, q0, b0, r0, x0, s0, g0, O0, A0, l0, -⟩ := mk_A (M := P) (j := 9) (t := 20) (n := 600) (a := 54) p5 hnP (by omega) p6
  have x0 : nx N0 = 55 := x0
  have c0 := O0.c (by omega)
  obtain ⟨Q1, N1, q1, b1, r1, x1, s1, g1, O1, A1, l1, -⟩ := mk_A (M := N0) (j := 10) (t := 20) (n := 2) (a := 55) O0 x0 (by omega) l0
  have x1 : nx N1 = 56 := x1
  have c1 := O1.c (by omega)
  obtain ⟨Q2, N2, q2, b2, r2, x2, s2, g2, O2, A2, l2, -⟩ := mk_A (M := N1) (j := 11) (t := 20) (n := 4) (a := 56) O1 x1 (by omega) l1
  have x2 : nx N2 = 57 := x2
  have c2 := O2.c (by omega)
  obtain ⟨Q3, N3, q3, b3, r3, x3, s3, g3, O3, A3, l3, -⟩ := mk_A (M := N2) (j := 12) (t := 20) (n := 4) (a := 57) O2 x2 (by omega) l2
  have x3 : nx N3 = 58 := x3
  have c3 := O3.c (by omega)
  obtain ⟨Q4, N4, q4, b4, r4, x4, s4, g4, O4, A4, l4, -⟩ := mk_A (M := N3) (j := 13) (t := 20) (n := 6) (a := 58) O3 x3 (by omega) l3
  have x4 : nx N4 = 59 := x4
  have c4 := O4.c (by omega)
  obtain ⟨Q5, N5, q5, b5, r5, x5, s5, g5, O5, A5, l5, -⟩ := mk_A (M := N4) (j := 14) (t := 20) (n := 6) (a := 59) O4 x4 (by omega) l4
  have x5 : nx N5 = 60 := x5
  have c5 := O5.c (by omega)
  obtain ⟨Q6, N6, q6, b6, r6, x6, s6, g6, O6, A6, l6⟩ := mk_W (M := N5) (j := 15) (m := 16) (n := 5) (a := 60) O5 x5 (by omega) l5
  have x6 : nx N6 = 77 := x6
  have c6 := O6.c (by omega)
  obtain ⟨Q7, N7, q7, b7, r7, x7, s7, g7, O7, A7, l7⟩ := mk_W (M := N6) (j := 16) (m := 16) (n := 5) (a := 77) O6 x6 (by omega) l6
  have x7 : nx N7 = 94 := x7
  have c7 := O7.c (by omega)
  obtain ⟨Q8, N8, q8, b8, r8, x8, s8, g8, O8, A8, l8⟩ := mk_W (M := N7) (j := 19) (m := 160) (n := 2) (a := 94) O7 x7 (by omega) l7
  have x8 : nx N8 = 255 := x8
  have c8 := O8.c (by omega)
  obtain ⟨Q9, N9, q9, b9, r9, x9, s9, g9, O9, A9, l9⟩ := mk_W (M := N8) (j := 20) (m := 160) (n := 2) (a := 255) O8 x8 (by omega) l8
  have x9 : nx N9 = 416 := x9
  have c9 := O9.c (by omega)
  obtain ⟨Q10, N10, q10, b10, r10, x10, s10, g10, O10, A10, l10⟩ := mk_W (M := N9) (j := 21) (m := 10) (n := 2) (a := 416) O9 x9 (by omega) l9
  have x10 : nx N10 = 427 := x10
  have c10 := O10.c (by omega)
  obtain ⟨Q11, N11, q11, b11, r11, x11, s11, g11, O11, A11, l11⟩ := mk_W (M := N10) (j := 22) (m := 10) (n := 2) (a := 427) O10 x10 (by omega) l10
  have x11 : nx N11 = 438 := x11
  have c11 := O11.c (by omega)
  obtain ⟨Q12, N12, q12, b12, r12, x12, s12, g12, O12, A12, l12, -⟩ := mk_A (M := N11) (j := 23) (t := 20) (n := 160) (a := 438) O11 x11 (by omega) l11
  have x12 : nx N12 = 439 := x12
  have c12 := O12.c (by omega)
  obtain ⟨Q13, N13, q13, b13, r13, x13, s13, g13, O13, A13, l13, -⟩ := mk_A (M := N12) (j := 24) (t := 20) (n := 8) (a := 439) O12 x12 (by omega) l12
  have x13 : nx N13 = 440 := x13
  have c13 := O13.c (by omega)
  obtain ⟨Q14, N14, q14, b14, r14, x14, s14, g14, O14, A14, l14⟩ := mk_W (M := N13) (j := 25) (m := 80) (n := 3) (a := 440) O13 x13 (by omega) l13
  have x14 : nx N14 = 521 := x14
  have c14 := O14.c (by omega)
  obtain ⟨Q15, N15, q15, b15, r15, x15, s15, g15, O15, A15, l15, -⟩ := mk_A (M := N14) (j := 27) (t := 20) (n := 83) (a := 521) O14 x14 (by omega) l14
  have x15 : nx N15 = 522 := x15
  have c15 := O15.c (by omega)
  obtain ⟨Q16, N16, q16, b16, r16, x16, s16, g16, O16, A16, l16, -⟩ := mk_A (M := N15) (j := 28) (t := 20) (n := 83) (a := 522) O15 x15 (by omega) l15
  have x16 : nx N16 = 523 := x16
  have c16 := O16.c (by omega)
  obtain ⟨Q17, N17, q17, b17, r17, x17, s17, g17, O17, A17, l17⟩ := mk_W (M := N16) (j := 29) (m := 16) (n := 83) (a := 523) O16 x16 (by omega) l16
  have x17 : nx N17 = 540 := x17
  have c17 := O17.c (by omega)
  obtain ⟨Q18, N18, q18, b18, r18, x18, s18, g18, O18, A18, l18⟩ := mk_W (M := N17) (j := 30) (m := 3) (n := 1412) (a := 540) O17 x17 (by omega) l17
  have x18 : nx N18 = 544 := x18
  have c18 := O18.c (by omega)
  obtain ⟨Q19, N19, q19, b19, r19, x19, s19, g19, O19, A19, l19, -⟩ := mk_A (M := N18) (j := 41) (t := 21) (n := 11) (a := 544) O18 x18 (by omega) l18
  have x19 : nx N19 = 545 := x19
  have c19 := O19.c (by omega)
  obtain ⟨Q20, N20, q20, b20, r20, x20, s20, g20, O20, A20, l20, -⟩ := mk_A (M := N19) (j := 42) (t := 20) (n := 6) (a := 545) O19 x19 (by omega) l19
  have x20 : nx N20 = 546 := x20
  have c20 := O20.c (by omega)
  obtain ⟨Q21, N21, q21, b21, r21, x21, s21, g21, O21, A21, l21, -⟩ := mk_A (M := N20) (j := 43) (t := 20) (n := 6) (a := 546) O20 x20 (by omega) l20
  have x21 : nx N21 = 547 := x21
  have c21 := O21.c (by omega)
  have H21 : Gf (fun b => b = 53) N21 N21 := Gf.rf _
  have H20 := g21.tr H21
  have H19 := g20.tr H20
  have H18 := g19.tr H19
  have H17 := g18.tr H18
  have H16 := g17.tr H17
  have H15 := g16.tr H16
  have H14 := g15.tr H15
  have H13 := g14.tr H14
  have H12 := g13.tr H13
  have H11 := g12.tr H12
  have H10 := g11.tr H11
  have H9 := g10.tr H10
  have H8 := g9.tr H9
  have H7 := g8.tr H8
  have H6 := g7.tr H7
  have H5 := g6.tr H6
  have H4 := g5.tr H5
  have H3 := g4.tr H4
  have H2 := g3.tr H3
  have H1 := g2.tr H2
  have H0 := g1.tr H1
  have HM := (p4.tr g0).tr H0
  refine ⟨N21, fun K1 K2 h1 c_K h2 => ?_, HM, x21, by rw [s21, s20, s19, s18, s17, s16, s15, s14, s13, s12, s11, s10, s9, s8, s7, s6, s5, s4, s3, s2, s1, s0, p3], l21, ?_⟩
  · rw [E_X10_init (by omega)]
    simp (disch := first | assumption | (simp (disch := first | assumption | omega) only [sh_setI', ln_setI', fr_setI', ai_setI', al_setI', aq_setI', nx_setI', sl_setI', sL_setI', sX_setI', cl_setI', sh_setR', ln_setR', fi_setR', ai_setR', al_setR', aq_setR', nx_setR', sl_setR', sL_setR', sX_setR', cl_setR', sh_setA', ln_setA', fi_setA', fr_setA', al_setA', aq_setA', nx_setA', sl_setA', sL_setA', sX_setA', cl_setA', sh_setL', ln_setL', fi_setL', fr_setL', ai_setL', aq_setL', nx_setL', sl_setL', sL_setL', sX_setL', cl_setL', sh_setQ', ln_setQ', fi_setQ', fr_setQ', ai_setQ', al_setQ', nx_setQ', sl_setQ', sL_setQ', sX_setQ', cl_setQ', ai_eq, ai_ne, al_eq, al_ne, aq_eq, aq_ne, fi_eq, fi_nk, fi_na, fr_eq, fr_nk, fr_na, up_eq, up_ne, SH_setI', SH_setA', SH_setL', List.length_cons, List.length_nil, C_53, C_54, C_55, C_56, C_57, C_58, C_59, C_60, C_77, C_94, C_255, C_416, C_427, C_438, C_439, C_440, C_521, C_522, C_523, C_540, C_544, C_545, C_546, C_547, N_54, N_55, N_56, N_57, N_58, N_59, N_60, N_77, N_94, N_255, N_416, N_427, N_438, N_439, N_440, N_521, N_522, N_523, N_540, N_544, N_545, N_546, N_547, F_53_9, F_53_10, F_53_11, F_53_12, F_53_13, F_53_14, F_53_15, F_53_16, F_53_19, F_53_20, F_53_21, F_53_22, F_53_23, F_53_24, F_53_25, F_53_27, F_53_28, F_53_29, F_53_30, F_53_41, F_53_42, F_53_43, Q_60, QC_60, QN_60, Q_77, QC_77, QN_77, Q_94, QC_94, QN_94, Q_255, QC_255, QN_255, Q_416, QC_416, QN_416, Q_427, QC_427, QN_427, Q_440, QC_440, QN_440, Q_523, QC_523, QN_523, Q_540, QC_540, QN_540] <;> first | omega | assumption) | omega) only [Ev, ev_sqb, t_X10_init, x_aload_n0, y_aload_n0, x_oinit, y_oinit, x_iconst_m1, y_iconst_m1, x_pf_9_3, y_pf_9_3, x_sipush_600, y_sipush_600, x_newarray_20, y_newarray_20, x_pf_9_9, y_pf_9_9, x_iconst_2, y_iconst_2, x_pf_9_10, y_pf_9_10, x_iconst_4, y_iconst_4, x_pf_9_11, y_pf_9_11, x_pf_9_12, y_pf_9_12, x_bipush_6, y_bipush_6, x_pf_9_13, y_pf_9_13, x_pf_9_14, y_pf_9_14, x_bipush_16, y_bipush_16, x_iconst_5, y_iconst_5, x_mnew, y_mnew, x_pf_9_15, y_pf_9_15, x_pf_9_16, y_pf_9_16, x_sipush_160, y_sipush_160, x_pf_9_19, y_pf_9_19, x_pf_9_20, y_pf_9_20, x_bipush_10, y_bipush_10, x_pf_9_21, y_pf_9_21, x_pf_9_22, y_pf_9_22, x_pf_9_23, y_pf_9_23, x_bipush_8, y_bipush_8, x_pf_9_24, y_pf_9_24, x_bipush_80, y_bipush_80, x_iconst_3, y_iconst_3, x_pf_9_25, y_pf_9_25, x_bipush_83, y_bipush_83, x_pf_9_27, y_pf_9_27, x_pf_9_28, y_pf_9_28, x_pf_9_29, y_pf_9_29, x_sipush_1412, y_sipush_1412, x_pf_9_30, y_pf_9_30, x_bipush_11, y_bipush_11, x_newarray_21, y_newarray_21, x_pf_9_41, y_pf_9_41, x_pf_9_42, y_pf_9_42, x_pf_9_43, y_pf_9_43, x_iv0, y_iv0, y_ret, ev_bk, sq0, sq1, sq2, bk0, bk1, bk2, sq_if, bk_if, rt_if, cr_if, cr0, cr1, crE, rt1, rtE, va_rf_s, va_rf_n, nI_add, nI_ltI, nI_eq, nI_eq0, nI_lt0, nI_0lt, nI_n1, n1_nI, n1_lt, lt_n1, n1_0, n1_n1, n1_l0, if_true, if_false, ite_true, ite_false, bI_0, bI_1, not_true_eq_false, not_false_eq_true, Ew_i, Er_i, Lq_c, Lq_j, Lq_n, Nat.reduceAdd, Nat.zero_add, Nat.add_zero, Nat.lt_irrefl, Bool.false_eq_true, Nat.reduceEqDiff, Nat.reduceLT, Nat.reduceSub, Nat.reduceMul, Nat.one_ne_zero, C_53, C_54, C_55, C_56, C_57, C_58, C_59, C_60, C_77, C_94, C_255, C_416, C_427, C_438, C_439, C_440, C_521, C_522, C_523, C_540, C_544, C_545, C_546, C_547, N_54, N_55, N_56, N_57, N_58, N_59, N_60, N_77, N_94, N_255, N_416, N_427, N_438, N_439, N_440, N_521, N_522, N_523, N_540, N_544, N_545, N_546, N_547, F_53_9, F_53_10, F_53_11, F_53_12, F_53_13, F_53_14, F_53_15, F_53_16, F_53_19, F_53_20, F_53_21, F_53_22, F_53_23, F_53_24, F_53_25, F_53_27, F_53_28, F_53_29, F_53_30, F_53_41, F_53_42, F_53_43, Q_60, QC_60, QN_60, Q_77, QC_77, QN_77, Q_94, QC_94, QN_94, Q_255, QC_255, QN_255, Q_416, QC_416, QN_416, Q_427, QC_427, QN_427, Q_440, QC_440, QN_440, Q_523, QC_523, QN_523, Q_540, QC_540, QN_540, sh_setI', ln_setI', fr_setI', ai_setI', al_setI', aq_setI', nx_setI', sl_setI', sL_setI', sX_setI', cl_setI', sh_setR', ln_setR', fi_setR', ai_setR', al_setR', aq_setR', nx_setR', sl_setR', sL_setR', sX_setR', cl_setR', sh_setA', ln_setA', fi_setA', fr_setA', al_setA', aq_setA', nx_setA', sl_setA', sL_setA', sX_setA', cl_setA', sh_setL', ln_setL', fi_setL', fr_setL', ai_setL', aq_setL', nx_setL', sl_setL', sL_setL', sX_setL', cl_setL', sh_setQ', ln_setQ', fi_setQ', fr_setQ', ai_setQ', al_setQ', nx_setQ', sl_setQ', sL_setQ', sX_setQ', cl_setQ', ai_eq, ai_ne, al_eq, al_ne, aq_eq, aq_ne, fi_eq, fi_nk, fi_na, fr_eq, fr_nk, fr_na, up_eq, up_ne, p1, hnP, q0, r0, x0, q1, r1, x1, q2, r2, x2, q3, r3, x3, q4, r4, x4, q5, r5, x5, q6, r6, x6, q7, r7, x7, q8, r8, x8, q9, r9, x9, q10, r10, x10, q11, r11, x11, q12, r12, x12, q13, r13, x13, q14, r14, x14, q15, r15, x15, q16, r16, x16, q17, r17, x17, q18, r18, x18, q19, r19, x19, q20, r20, x20, q21, r21, h1, h2]
  · exact ⟨O21, A0.t H0 (by omega), A1.t H1 (by omega), A2.t H2 (by omega), A3.t H3 (by omega), A4.t H4 (by omega), A5.t H5 (by omega), A6.t H6 (fun k _ => by omega), A7.t H7 (fun k _ => by omega), A8.t H8 (fun k _ => by omega), A9.t H9 (fun k _ => by omega), A10.t H10 (fun k _ => by omega), A11.t H11 (fun k _ => by omega), A12.t H12 (by omega), A13.t H13 (by omega), A14.t H14 (fun k _ => by omega), A15.t H15 (by omega), A16.t H16 (by omega), A17.t H17 (fun k _ => by omega), A18.t H18 (fun k _ => by omega), A19.t H19 (by omega), A20.t H20 (by omega), A21.t H21 (by omega)⟩
