/-! ===== the class: cells that are new, frames over all of a cell ===== -/
def Sm (M N : MM) (b : Nat) : Prop := sh N b = sh M b ∧ ln N b = ln M b ∧ fi N b = fi M b ∧ fr N b = fr M b ∧ ai N b = ai M b ∧ al N b = al M b ∧ aq N b = aq M b
theorem Sm.tr {M N K : MM} {b : Nat} (h : Sm M N b) (g : Sm N K b) : Sm M K b := by
  obtain ⟨h1, h2, h3, h4, h5, h6, h7⟩ := h
  obtain ⟨g1, g2, g3, g4, g5, g6, g7⟩ := g
  exact ⟨g1.trans h1, g2.trans h2, g3.trans h3, g4.trans h4, g5.trans h5, g6.trans h6, g7.trans h7⟩
def Gf (S : Nat → Prop) (M N : MM) : Prop := nx M ≤ nx N ∧ (sL N = sL M ∧ sX N = sX M) ∧ ∀ b, b < nx M → ¬ S b → Sm M N b
theorem Gf.rf {S : Nat → Prop} (M : MM) : Gf S M M := ⟨Nat.le_refl _, ⟨rfl, rfl⟩, fun _ _ _ => ⟨rfl, rfl, rfl, rfl, rfl, rfl, rfl⟩⟩
theorem Gf.tr {S : Nat → Prop} {M N K : MM} (h : Gf S M N) (g : Gf S N K) : Gf S M K := ⟨Nat.le_trans h.1 g.1, ⟨g.2.1.1.trans h.2.1.1, g.2.1.2.trans h.2.1.2⟩, fun b hb hs => (h.2.2 b hb hs).tr (g.2.2 b (Nat.lt_of_lt_of_le hb h.1) hs)⟩
theorem Gf.mono {S S' : Nat → Prop} {M N : MM} (h : Gf S M N) (hS : ∀ b, S b → S' b) : Gf S' M N := ⟨h.1, h.2.1, fun b hb hs => h.2.2 b hb (fun z => hs (hS b z))⟩
theorem Fc.G {S : Nat → Prop} {M N : MM} (h : Fc S M N) : Gf S M N := by
  obtain ⟨⟨h1, h2, h3, h4, h5⟩, ⟨h6, h7, h8, h9⟩, ha⟩ := h
  exact ⟨Nat.le_of_eq h6.symm, ⟨h8, h9⟩, fun b _ hs => ⟨congrFun h1 b, congrFun h2 b, (ha b hs).1, congrFun h3 b, (ha b hs).2, congrFun h4 b, congrFun h5 b⟩⟩
theorem Gf.R {S : Nat → Prop} {M : MM} {a k : Nat} {x : Option Nat} (hs : S a) : Gf S M (setR M a k x) := ⟨Nat.le_refl _, ⟨rfl, rfl⟩, fun b _ hb => ⟨rfl, rfl, rfl, by
  funext j
  exact fr_na (fun z => hb (z ▸ hs)), rfl, rfl, rfl⟩⟩
theorem Gf.Q {S : Nat → Prop} {M : MM} {a : Nat} {f : Nat → Option Nat} (hs : S a) : Gf S M (setQ M a f) := ⟨Nat.le_refl _, ⟨rfl, rfl⟩, fun b _ hb => ⟨rfl, rfl, rfl, rfl, rfl, rfl, aq_ne (fun z => hb (z ▸ hs))⟩⟩
theorem Gf.cl {S : Nat → Prop} {M N : MM} {b : Nat} (h : Gf S M N) (hb : b < nx M) (hs : ¬ S b) : cl N b = cl M b := by
  show (if b < nx N ∧ b < 2000000 then sh N b else 99) = (if b < nx M ∧ b < 2000000 then sh M b else 99)
  rw [(h.2.2 b hb hs).1]
  have h1 := h.1
  by_cases z : b < 2000000
  · rw [if_pos ⟨by omega, z⟩, if_pos ⟨hb, z⟩]
  · rw [if_neg (fun y => z y.2), if_neg (fun y => z y.2)]
theorem Gf.dk {S : Nat → Prop} {M N : MM} {dk : Nat} (h : Gf S M N) (hb : dk + 4 < nx M) (hs : ∀ b, dk ≤ b → b ≤ dk + 4 → ¬ S b) (g : DK M dk) : DK N dk := by
  obtain ⟨dC, ⟨dF0, dF1, dF2, dF3⟩, ⟨dC1, dC2, dC3, dC4⟩, dN1, dN2, dN3, dN4⟩ := g
  have e0 := h.2.2 dk (by omega) (hs dk (by omega) (by omega))
  have e1 := h.2.2 (dk + 1) (by omega) (hs (dk + 1) (by omega) (by omega))
  have e2 := h.2.2 (dk + 2) (by omega) (hs (dk + 2) (by omega) (by omega))
  have e3 := h.2.2 (dk + 3) (by omega) (hs (dk + 3) (by omega) (by omega))
  have e4 := h.2.2 (dk + 4) (by omega) (hs (dk + 4) (by omega) (by omega))
  have c0 := h.cl (b := dk) (by omega) (hs dk (by omega) (by omega))
  have c1 := h.cl (b := dk + 1) (by omega) (hs (dk + 1) (by omega) (by omega))
  have c2 := h.cl (b := dk + 2) (by omega) (hs (dk + 2) (by omega) (by omega))
  have c3 := h.cl (b := dk + 3) (by omega) (hs (dk + 3) (by omega) (by omega))
  have c4 := h.cl (b := dk + 4) (by omega) (hs (dk + 4) (by omega) (by omega))
  unfold DK
  rw [c0, c1, c2, c3, c4, e0.2.2.2.1, e1.2.1, e2.2.1, e3.2.1, e4.2.1]
  exact ⟨dC, ⟨dF0, dF1, dF2, dF3⟩, ⟨dC1, dC2, dC3, dC4⟩, dN1, dN2, dN3, dN4⟩
theorem Gf.ds {S : Nat → Prop} {M N : MM} {dk n : Nat} {pv : Nat → Nat → Nat} {row : Nat → Int32} (h : Gf S M N) (hb : dk + 4 < nx M) (hs : ∀ b, dk ≤ b → b ≤ dk + 4 → ¬ S b) (g : DS M dk n pv row) : DS N dk n pv row := by
  have e0 := h.2.2 dk (by omega) (hs dk (by omega) (by omega))
  have e1 := h.2.2 (dk + 1) (by omega) (hs (dk + 1) (by omega) (by omega))
  have e2 := h.2.2 (dk + 2) (by omega) (hs (dk + 2) (by omega) (by omega))
  have e3 := h.2.2 (dk + 3) (by omega) (hs (dk + 3) (by omega) (by omega))
  have e4 := h.2.2 (dk + 4) (by omega) (hs (dk + 4) (by omega) (by omega))
  unfold DS at g ⊢
  rw [e0.2.2.1, e1.2.2.2.2.1, e2.2.2.2.2.1, e3.2.2.2.2.1, e4.2.2.2.2.1]
  exact g
theorem cellsL_lt : ∀ q ∈ cellsL, q.1 < 548 := by decide
theorem refsL_lt : ∀ q ∈ refsL, q.1 < 548 := by decide
theorem refsL_0 : ∀ q ∈ refsL, q.1 = 0 → q.2.1 < 6 := by decide
theorem refsL_c : ∀ q ∈ refsL, ¬ (48 ≤ q.1 ∧ q.2.1 = 11) ∨ q.1 = 53 := by decide
theorem rowsL_lt : ∀ q ∈ rowsL, 53 ≤ q.1 ∧ q.1 < 548 ∧ 53 ≤ q.2.1 ∧ q.2.1 + q.2.2.1 ≤ 548 := by decide
theorem SH_mono {M N : MM} (h : SH M) (hn : nx M ≤ nx N) (hs : ∀ b, b < 548 → sh N b = sh M b ∧ ln N b = ln M b) (hf : ∀ q ∈ refsL, fr N q.1 q.2.1 = fr M q.1 q.2.1) (hq : ∀ b, 53 ≤ b → b < 548 → aq N b = aq M b) : SH N := by
  obtain ⟨h1, h2, h3, h4⟩ := h
  refine ⟨Nat.le_trans h1 hn, fun q m => ?_, fun q m => ?_, fun q m i hi => ?_⟩
  · rw [(hs q.1 (cellsL_lt q m)).1, (hs q.1 (cellsL_lt q m)).2]; exact h2 q m
  · rw [hf q m]; exact h3 q m
  · obtain ⟨r1, r2, r3, r4⟩ := rowsL_lt q m
    rw [hq q.1 r1 r2, (hs (q.2.1 + i) (by omega)).1, (hs (q.2.1 + i) (by omega)).2]
    exact h4 q m i hi
theorem SH_R0 {M : MM} {k : Nat} {x : Option Nat} (h : SH M) (hk : 6 ≤ k) : SH (setR M 0 k x) := SH_mono h (Nat.le_refl _) (fun _ _ => ⟨rfl, rfl⟩) (fun q m => by
  by_cases e : q.1 = 0
  · rw [e]
    exact fr_nk (fun z => by have := refsL_0 q m e; omega)
  · exact fr_na e) (fun _ _ _ => rfl)
theorem SH_RN {M : MM} {a k : Nat} {x : Option Nat} (h : SH M) (ha : 548 ≤ a) : SH (setR M a k x) := SH_mono h (Nat.le_refl _) (fun _ _ => ⟨rfl, rfl⟩) (fun q m => fr_na (fun z => by have := refsL_lt q m; omega)) (fun _ _ _ => rfl)
theorem SH_Q17 {M : MM} {f : Nat → Option Nat} (h : SH M) : SH (setQ M 17 f) := SH_mono h (Nat.le_refl _) (fun _ _ => ⟨rfl, rfl⟩) (fun _ _ => rfl) (fun b hb _ => aq_ne (by omega))
theorem Gf.SHx {S : Nat → Prop} {M N : MM} (h : SH M) (g : Gf S M N) (hS : ∀ b, b < 548 → ¬ S b) : SH N := SH_mono h g.1 (fun b hb => by
    have := g.2.2 b (by have := h.1; omega) (hS b hb)
    exact ⟨this.1, this.2.1⟩) (fun q m => by
    have hl := refsL_lt q m
    rw [(g.2.2 q.1 (by have := h.1; omega) (hS _ hl)).2.2.2.1]) (fun b h1 h2 => (g.2.2 b (by have := h.1; omega) (hS b h2)).2.2.2.2.2.2)
/-! a new desk -/
def naD (M : MM) (a k n : Nat) : MM := setR (xA M 20 n) a k (some (nx M))
theorem naD_nx (M : MM) (a k n : Nat) : nx (naD M a k n) = nx M + 1 := rfl
theorem naD_sl (M : MM) (a k n : Nat) : sl (naD M a k n) = sl M + n := rfl
theorem naD_fi (M : MM) (a k n : Nat) : fi (naD M a k n) = fi M := rfl
theorem naD_old {M : MM} {a k n b : Nat} (hx : nx M < 1000000) (hb : b < nx M) : cl (naD M a k n) b = cl M b ∧ ln (naD M a k n) b = ln M b ∧ ai (naD M a k n) b = ai M b := by
  unfold naD
  refine ⟨?_, ?_, ?_⟩
  · rw [cl_setR, cl_xA _ _ _ _ (by omega), if_neg (by omega)]
  · rw [ln_setR, ln_xA, if_neg (by omega)]
  · rw [ai_setR, ai_xA, if_neg (by omega)]
theorem naD_new {M : MM} {a k n b : Nat} (hx : nx M < 1000000) (hb : b = nx M) : cl (naD M a k n) b = 20 ∧ ln (naD M a k n) b = n ∧ ai (naD M a k n) b = fun _ => 0 := by
  subst hb
  unfold naD
  refine ⟨?_, ?_, ?_⟩
  · rw [cl_setR, cl_xA _ _ _ _ (by omega), if_pos rfl]
  · rw [ln_setR, ln_xA, if_pos rfl]
  · rw [ai_setR, ai_xA, if_pos rfl]
theorem naD_fk {M : MM} {a k n : Nat} : fr (naD M a k n) a k = some (nx M) := fr_eq _ _ _ _
theorem naD_fn {M : MM} {a k n j : Nat} (h : ¬ j = k) : fr (naD M a k n) a j = fr M a j := fr_nk h
theorem naD_G {S : Nat → Prop} {M : MM} {a k n : Nat} (hs : S a) : Gf S M (naD M a k n) := ⟨Nat.le_succ _, ⟨rfl, rfl⟩, fun b hb hn => ⟨va_ne (by omega), va_ne (by omega), rfl, by
  funext j
  exact fr_na (M := xA M 20 n) (fun z => hn (z ▸ hs)), va_ne (by omega), va_ne (by omega), va_ne (by omega)⟩⟩
theorem xO_G {S : Nat → Prop} {M : MM} {ci : Nat} : Gf S M (xO M ci) := ⟨Nat.le_succ _, ⟨rfl, rfl⟩, fun b hb hn => ⟨va_ne (by omega), rfl, va_ne (by omega), va_ne (by omega), rfl, rfl, rfl⟩⟩
def nwD (M : MM) : MM := naD (naD (naD (naD (xO M 3) (nx M) 0 16) (nx M) 1 16) (nx M) 2 16) (nx M) 3 10
theorem c_dinit {d : Nat} {M : MM} (hx : nx M < 900000) (hd : 9 ≤ d) : evC d 27 [.ref (nx M)] (toH (xO M 3)) = some (.inl none, toH (nwD M)) := by
  have c0 : cl (xO M 3) (nx M) = 3 := by rw [cl_xO _ _ _ (by omega), if_pos rfl]
  have n0 : nx (xO M 3) = nx M + 1 := rfl
  have c1 : cl (xA (xO M 3) 20 16) (nx M) = 3 := by rw [cl_xA _ _ _ _ (by omega), if_neg (by omega)]; exact c0
  have n1 : nx (naD (xO M 3) (nx M) 0 16) = nx M + 2 := rfl
  have d1 : cl (naD (xO M 3) (nx M) 0 16) (nx M) = 3 := c1
  have c2 : cl (xA (naD (xO M 3) (nx M) 0 16) 20 16) (nx M) = 3 := by rw [cl_xA _ _ _ _ (by omega), if_neg (by omega)]; exact d1
  have n2 : nx (naD (naD (xO M 3) (nx M) 0 16) (nx M) 1 16) = nx M + 3 := rfl
  have d2 : cl (naD (naD (xO M 3) (nx M) 0 16) (nx M) 1 16) (nx M) = 3 := c2
  have c3 : cl (xA (naD (naD (xO M 3) (nx M) 0 16) (nx M) 1 16) 20 16) (nx M) = 3 := by rw [cl_xA _ _ _ _ (by omega), if_neg (by omega)]; exact d2
  have n3 : nx (naD (naD (naD (xO M 3) (nx M) 0 16) (nx M) 1 16) (nx M) 2 16) = nx M + 4 := rfl
  have d3 : cl (naD (naD (naD (xO M 3) (nx M) 0 16) (nx M) 1 16) (nx M) 2 16) (nx M) = 3 := c3
  have c4 : cl (xA (naD (naD (naD (xO M 3) (nx M) 0 16) (nx M) 1 16) (nx M) 2 16) 20 10) (nx M) = 3 := by rw [cl_xA _ _ _ _ (by omega), if_neg (by omega)]; exact d3
  have f0 : setR (xA (xO M 3) 20 16) (nx M) 0 (some (nx M + 1)) = naD (xO M 3) (nx M) 0 16 := rfl
  have f1 : setR (xA (naD (xO M 3) (nx M) 0 16) 20 16) (nx M) 1 (some (nx M + 2)) = naD (naD (xO M 3) (nx M) 0 16) (nx M) 1 16 := rfl
  have f2 : setR (xA (naD (naD (xO M 3) (nx M) 0 16) (nx M) 1 16) 20 16) (nx M) 2 (some (nx M + 3)) = naD (naD (naD (xO M 3) (nx M) 0 16) (nx M) 1 16) (nx M) 2 16 := rfl
  have f3 : setR (xA (naD (naD (naD (xO M 3) (nx M) 0 16) (nx M) 1 16) (nx M) 2 16) 20 10) (nx M) 3 (some (nx M + 4)) = nwD M := rfl
  rw [E_X3_init hd]
  simp (disch := first | assumption | (simp (disch := first | assumption | omega) only [sh_setI', ln_setI', fr_setI', ai_setI', al_setI', aq_setI', nx_setI', sl_setI', sL_setI', sX_setI', cl_setI', sh_setR', ln_setR', fi_setR', ai_setR', al_setR', aq_setR', nx_setR', sl_setR', sL_setR', sX_setR', cl_setR', sh_setA', ln_setA', fi_setA', fr_setA', al_setA', aq_setA', nx_setA', sl_setA', sL_setA', sX_setA', cl_setA', sh_setL', ln_setL', fi_setL', fr_setL', ai_setL', aq_setL', nx_setL', sl_setL', sL_setL', sX_setL', cl_setL', sh_setQ', ln_setQ', fi_setQ', fr_setQ', ai_setQ', al_setQ', nx_setQ', sl_setQ', sL_setQ', sX_setQ', cl_setQ', ai_eq, ai_ne, al_eq, al_ne, aq_eq, aq_ne, fi_eq, fi_nk, fi_na, fr_eq, fr_nk, fr_na, up_eq, up_ne, SH_setI', SH_setA', SH_setL', List.length_cons, List.length_nil, C_0, C_1, C_2, C_3, C_4, C_5, C_6, C_7, C_8, C_9, C_10, C_11, C_12, C_13, C_14, C_15, C_16, C_17, C_18, C_19, C_20, C_21, C_22, C_23, C_24, C_25, C_26, C_27, C_28, C_29, C_30, C_31, C_32, C_33, C_34, C_35, C_36, C_37, C_38, C_39, C_40, C_41, C_42, C_43, C_44, C_45, C_46, C_47, C_48, C_49, C_50, C_51, C_52, N_2, N_4, N_5, N_6, N_9, N_10, N_11, N_13, N_14, N_15, N_16, N_17, N_19, N_20, N_21, N_22, N_23, N_24, N_25, N_27, N_28, N_29, N_30, N_31, N_32, N_33, N_35, N_36, N_37, N_39, N_40, N_41, N_43, N_44, N_46, N_47, N_49, N_50, N_51, N_52, F_1_0, F_0_0, F_3_0, F_3_1, F_3_2, F_0_1, F_0_2, F_8_0, F_8_1, F_8_2, F_0_3, F_12_0, F_12_1, F_12_2, F_12_3, F_0_4, F_0_5, F_18_0, F_18_1, F_18_2, F_18_3, F_18_4, F_18_5, F_18_6, F_26_0, F_26_1, F_26_2, F_26_3, F_26_4, F_26_5, F_26_6, F_34_0, F_34_1, F_34_2, F_38_0, F_38_1, F_38_2, F_42_0, F_42_1, F_45_0, F_45_1, F_48_0, F_48_1, F_48_2, F_48_3] <;> first | omega | assumption) | omega) only [Ev, ev_sqb, t_X3_init, x_aload_n0, y_aload_n0, x_oinit, y_oinit, x_bipush_16, y_bipush_16, x_newarray_20, y_newarray_20, x_pf_3_0, y_pf_3_0, x_pf_3_1, y_pf_3_1, x_pf_3_2, y_pf_3_2, x_bipush_10, y_bipush_10, x_pf_3_3, y_pf_3_3, y_ret, ev_bk, sq0, sq1, sq2, bk0, bk1, bk2, sq_if, bk_if, rt_if, cr_if, cr0, cr1, crE, rt1, rtE, va_rf_s, va_rf_n, nI_add, nI_ltI, nI_eq, nI_eq0, nI_lt0, nI_0lt, nI_n1, n1_nI, n1_lt, lt_n1, n1_0, n1_n1, n1_l0, if_true, if_false, ite_true, ite_false, bI_0, bI_1, not_true_eq_false, not_false_eq_true, Ew_i, Er_i, Lq_c, Lq_j, Lq_n, Nat.reduceAdd, Nat.zero_add, Nat.add_zero, Nat.lt_irrefl, Bool.false_eq_true, Nat.reduceEqDiff, Nat.reduceLT, Nat.reduceSub, Nat.reduceMul, Nat.one_ne_zero, C_0, C_1, C_2, C_3, C_4, C_5, C_6, C_7, C_8, C_9, C_10, C_11, C_12, C_13, C_14, C_15, C_16, C_17, C_18, C_19, C_20, C_21, C_22, C_23, C_24, C_25, C_26, C_27, C_28, C_29, C_30, C_31, C_32, C_33, C_34, C_35, C_36, C_37, C_38, C_39, C_40, C_41, C_42, C_43, C_44, C_45, C_46, C_47, C_48, C_49, C_50, C_51, C_52, N_2, N_4, N_5, N_6, N_9, N_10, N_11, N_13, N_14, N_15, N_16, N_17, N_19, N_20, N_21, N_22, N_23, N_24, N_25, N_27, N_28, N_29, N_30, N_31, N_32, N_33, N_35, N_36, N_37, N_39, N_40, N_41, N_43, N_44, N_46, N_47, N_49, N_50, N_51, N_52, F_1_0, F_0_0, F_3_0, F_3_1, F_3_2, F_0_1, F_0_2, F_8_0, F_8_1, F_8_2, F_0_3, F_12_0, F_12_1, F_12_2, F_12_3, F_0_4, F_0_5, F_18_0, F_18_1, F_18_2, F_18_3, F_18_4, F_18_5, F_18_6, F_26_0, F_26_1, F_26_2, F_26_3, F_26_4, F_26_5, F_26_6, F_34_0, F_34_1, F_34_2, F_38_0, F_38_1, F_38_2, F_42_0, F_42_1, F_45_0, F_45_1, F_48_0, F_48_1, F_48_2, F_48_3, sh_setI', ln_setI', fr_setI', ai_setI', al_setI', aq_setI', nx_setI', sl_setI', sL_setI', sX_setI', cl_setI', sh_setR', ln_setR', fi_setR', ai_setR', al_setR', aq_setR', nx_setR', sl_setR', sL_setR', sX_setR', cl_setR', sh_setA', ln_setA', fi_setA', fr_setA', al_setA', aq_setA', nx_setA', sl_setA', sL_setA', sX_setA', cl_setA', sh_setL', ln_setL', fi_setL', fr_setL', ai_setL', aq_setL', nx_setL', sl_setL', sL_setL', sX_setL', cl_setL', sh_setQ', ln_setQ', fi_setQ', fr_setQ', ai_setQ', al_setQ', nx_setQ', sl_setQ', sL_setQ', sX_setQ', cl_setQ', ai_eq, ai_ne, al_eq, al_ne, aq_eq, aq_ne, fi_eq, fi_nk, fi_na, fr_eq, fr_nk, fr_na, up_eq, up_ne, n0, c1, f0, n1, c2, f1, n2, c3, f2, n3, c4, f3]
theorem nwD_G {S : Nat → Prop} {M : MM} (hs : S (nx M)) : Gf S M (nwD M) := (((xO_G.tr (naD_G hs)).tr (naD_G hs)).tr (naD_G hs)).tr (naD_G hs)
theorem nwD_nx (M : MM) : nx (nwD M) = nx M + 5 := rfl
theorem nwD_sl (M : MM) : sl (nwD M) = sl M + clN 3 + 58 := rfl
theorem nwD_fi (M : MM) : fi (nwD M) (nx M) = fun _ => 0 := va_eq
theorem nwD_DK {M : MM} (hx : nx M < 900000) : DK (nwD M) (nx M) ∧ fr (nwD M) (nx M) 11 = none ∧ (∀ j, j < 4 → ai (nwD M) (nx M + 1 + j) = fun _ => 0) := by
  have c0 : cl (xO M 3) (nx M) = 3 := by rw [cl_xO _ _ _ (by omega), if_pos rfl]
  have r0 : ∀ j, fr (xO M 3) (nx M) j = none := fun j => congrFun (va_eq (f := fr M) (a := nx M) (x := fun _ => none)) j
  generalize hA : xO M 3 = A at *
  have nA : nx A = nx M + 1 := by rw [← hA]; rfl
  generalize hB : naD A (nx M) 0 16 = B at *
  have nB : nx B = nx M + 2 := by rw [← hB, naD_nx, nA]
  generalize hC : naD B (nx M) 1 16 = C at *
  have nC : nx C = nx M + 3 := by rw [← hC, naD_nx, nB]
  generalize hD : naD C (nx M) 2 16 = D at *
  have nD : nx D = nx M + 4 := by rw [← hD, naD_nx, nC]
  have hE : nwD M = naD D (nx M) 3 10 := by unfold nwD; rw [hA, hB, hC, hD]
  rw [hE]
  have oB : ∀ b, b < nx M + 1 → cl B b = cl A b ∧ ln B b = ln A b ∧ ai B b = ai A b := fun b hb => by rw [← hB]; exact naD_old (by omega) (by omega)
  have oC : ∀ b, b < nx M + 2 → cl C b = cl B b ∧ ln C b = ln B b ∧ ai C b = ai B b := fun b hb => by rw [← hC]; exact naD_old (by omega) (by omega)
  have oD : ∀ b, b < nx M + 3 → cl D b = cl C b ∧ ln D b = ln C b ∧ ai D b = ai C b := fun b hb => by rw [← hD]; exact naD_old (by omega) (by omega)
  have oE : ∀ b, b < nx M + 4 → cl (naD D (nx M) 3 10) b = cl D b ∧ ln (naD D (nx M) 3 10) b = ln D b ∧ ai (naD D (nx M) 3 10) b = ai D b := fun b hb => naD_old (by omega) (by omega)
  obtain ⟨pB, qB, sB⟩ := naD_new (M := A) (a := nx M) (k := 0) (n := 16) (b := nx M + 1) (by omega) nA.symm
  obtain ⟨pC, qC, sC⟩ := naD_new (M := B) (a := nx M) (k := 1) (n := 16) (b := nx M + 2) (by omega) nB.symm
  obtain ⟨pD, qD, sD⟩ := naD_new (M := C) (a := nx M) (k := 2) (n := 16) (b := nx M + 3) (by omega) nC.symm
  obtain ⟨pE, qE, sE⟩ := naD_new (M := D) (a := nx M) (k := 3) (n := 10) (b := nx M + 4) (by omega) nD.symm
  rw [hB] at pB qB sB
  rw [hC] at pC qC sC
  rw [hD] at pD qD sD
  have fB : fr B (nx M) 0 = some (nx M + 1) := by rw [← hB, naD_fk, nA]
  have fC : fr C (nx M) 1 = some (nx M + 2) := by rw [← hC, naD_fk, nB]
  have fD : fr D (nx M) 2 = some (nx M + 3) := by rw [← hD, naD_fk, nC]
  refine ⟨⟨?_, ⟨?_, ?_, ?_, ?_⟩, ⟨?_, ?_, ?_, ?_⟩, ?_, ?_, ?_, ?_⟩, ?_, fun j hj => ?_⟩
  · rw [(oE _ (by omega)).1, (oD _ (by omega)).1, (oC _ (by omega)).1, (oB _ (by omega)).1]; exact c0
  · rw [naD_fn (by decide), ← hD, naD_fn (by decide), ← hC, naD_fn (by decide)]; exact fB
  · rw [naD_fn (by decide), ← hD, naD_fn (by decide)]; exact fC
  · rw [naD_fn (by decide)]; exact fD
  · rw [naD_fk, nD]
  · rw [(oE _ (by omega)).1, (oD _ (by omega)).1, (oC _ (by omega)).1]; exact pB
  · rw [(oE _ (by omega)).1, (oD _ (by omega)).1]; exact pC
  · rw [(oE _ (by omega)).1]; exact pD
  · exact pE
  · rw [(oE _ (by omega)).2.1, (oD _ (by omega)).2.1, (oC _ (by omega)).2.1]; exact qB
  · rw [(oE _ (by omega)).2.1, (oD _ (by omega)).2.1]; exact qC
  · rw [(oE _ (by omega)).2.1]; exact qD
  · exact qE
  · rw [naD_fn (by decide), ← hD, naD_fn (by decide), ← hC, naD_fn (by decide), ← hB, naD_fn (by decide)]; exact r0 11
  · have h4 : j = 0 ∨ j = 1 ∨ j = 2 ∨ j = 3 := by omega
    rcases h4 with rfl | rfl | rfl | rfl
    · rw [(oE _ (by omega)).2.2, (oD _ (by omega)).2.2, (oC _ (by omega)).2.2]; exact sB
    · rw [(oE _ (by omega)).2.2, (oD _ (by omega)).2.2]; exact sC
    · rw [(oE _ (by omega)).2.2]; exact sD
    · exact sE
