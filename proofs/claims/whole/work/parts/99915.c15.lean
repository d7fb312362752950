/-! ===== the best, set by set ===== -/
theorem fgr_none {P : Nat → Prop} {f : Nat → Int32} {N : Nat} (h : fgr P f N = none) : ∀ j, j < N → ¬ P j := by
  induction N with
  | zero => intro j hj; omega
  | succ N ih =>
    intro j hj hP
    cases hf : fgr P f N with
    | none =>
      by_cases hN : P N
      · rw [fgr_nt hf hN] at h; cases h
      · by_cases e : j = N
        · exact hN (e ▸ hP)
        · exact ih hf j (by omega) hP
    | some b =>
      by_cases hN : P N ∧ f b < f N
      · rw [fgr_st hf hN.1 hN.2] at h; cases h
      · have : fgr P f (N + 1) = some b := by
          show (match fgr P f N with
            | none => @ite _ (P N) (Classical.propDecidable _) (some N) none
            | some b => @ite _ (P N ∧ f b < f N) (Classical.propDecidable _) (some N) (some b)) = some b
          rw [hf]
          exact if_neg hN
        rw [this] at h; cases h
theorem fgr_spec {P : Nat → Prop} {f : Nat → Int32} {N i : Nat} (h : fgr P f N = some i) : i < N ∧ P i ∧ (∀ j, j < N → P j → ¬ f i < f j) ∧ (∀ j, j < i → P j → f j < f i) := by
  induction N generalizing i with
  | zero => cases h
  | succ N ih =>
    cases hf : fgr P f N with
    | none =>
      have hn := fgr_none hf
      by_cases hN : P N
      · rw [fgr_nt hf hN] at h
        cases h
        refine ⟨by omega, hN, fun j hj hP => ?_, fun j hj hP => absurd hP (hn j hj)⟩
        by_cases e : j = N
        · rw [e]; exact Int32.lt_irrefl
        · exact absurd hP (hn j (by omega))
      · rw [fgr_no hN, hf] at h; cases h
    | some b =>
      obtain ⟨h1, h2, h3, h4⟩ := ih hf
      by_cases hN : P N ∧ f b < f N
      · rw [fgr_st hf hN.1 hN.2] at h
        cases h
        refine ⟨by omega, hN.1, fun j hj hP z => ?_, fun j hj hP => ?_⟩
        · by_cases e : j = N
          · rw [e] at z; exact Int32.lt_irrefl z
          · exact h3 j (by omega) hP (Int32.lt_trans hN.2 z)
        · have h5 := h3 j hj hP
          have h6 := hN.2
          rw [Int32.lt_iff_toInt_lt] at h5 h6 ⊢
          omega
      · have e : fgr P f (N + 1) = some b := by
          show (match fgr P f N with
            | none => @ite _ (P N) (Classical.propDecidable _) (some N) none
            | some b => @ite _ (P N ∧ f b < f N) (Classical.propDecidable _) (some N) (some b)) = some b
          rw [hf]
          exact if_neg hN
        rw [e] at h
        cases h
        refine ⟨by omega, h2, fun j hj hP z => ?_, h4⟩
        by_cases e2 : j = N
        · subst e2; exact hN ⟨hP, z⟩
        · exact h3 j (by omega) hP z
theorem fgr_of {P : Nat → Prop} {f : Nat → Int32} {N i : Nat} (h1 : i < N) (h2 : P i) (h3 : ∀ j, j < N → P j → ¬ f i < f j) (h4 : ∀ j, j < i → P j → f j < f i) : fgr P f N = some i := by
  cases hf : fgr P f N with
  | none => exact absurd h2 (fgr_none hf i h1)
  | some k =>
    obtain ⟨g1, g2, g3, g4⟩ := fgr_spec hf
    rcases Nat.lt_trichotomy k i with q | q | q
    · exact absurd (h4 k q g2) (g3 i h1 h2)
    · rw [q]
    · exact absurd (g4 i q h2) (h3 k g1 g2)
theorem fgr_an {W : Nat → Prop} {f : Nat → Int32} {N b : Nat} (hb : b < N) (h : fgr W f N = none) : fgr (fun x => W x ∨ x = b) f N = some b := by
  have hn := fgr_none h
  refine fgr_of hb (Or.inr rfl) (fun j hj hP => ?_) (fun j hj hP => ?_)
  · rcases hP with z | z
    · exact absurd z (hn j hj)
    · rw [z]; exact Int32.lt_irrefl
  · rcases hP with z | z
    · exact absurd z (hn j (by omega))
    · omega
theorem fgr_at {W : Nat → Prop} {f : Nat → Int32} {N b k : Nat} (hb : b < N) (h : fgr W f N = some k) (hc : f k < f b ∨ (f b = f k ∧ b < k)) : fgr (fun x => W x ∨ x = b) f N = some b := by
  obtain ⟨g1, g2, g3, g4⟩ := fgr_spec h
  have hc2 : (f k).toInt < (f b).toInt ∨ ((f b).toInt = (f k).toInt ∧ b < k) := by
    rcases hc with z | z
    · exact Or.inl (Int32.lt_iff_toInt_lt.mp z)
    · exact Or.inr ⟨congrArg Int32.toInt z.1, z.2⟩
  refine fgr_of hb (Or.inr rfl) (fun j hj hP => ?_) (fun j hj hP => ?_)
  · rcases hP with z | z
    · have := g3 j hj z
      rw [Int32.lt_iff_toInt_lt] at this ⊢
      omega
    · rw [z]; exact Int32.lt_irrefl
  · rcases hP with z | z
    · have h5 := g3 j (by omega) z
      rw [Int32.lt_iff_toInt_lt] at h5 ⊢
      rcases hc2 with y | y
      · omega
      · have h6 := g4 j (by omega) z
        rw [Int32.lt_iff_toInt_lt] at h6
        omega
    · omega
theorem fgr_af {W : Nat → Prop} {f : Nat → Int32} {N b k : Nat} (hbW : ¬ W b) (h : fgr W f N = some k) (hc : ¬ (f k < f b ∨ (f b = f k ∧ b < k))) : fgr (fun x => W x ∨ x = b) f N = some k := by
  obtain ⟨g1, g2, g3, g4⟩ := fgr_spec h
  have hne : ¬ b = k := fun z => hbW (z ▸ g2)
  have n1 : ¬ f k < f b := fun z => hc (Or.inl z)
  refine fgr_of g1 (Or.inl g2) (fun j hj hP => ?_) (fun j hj hP => ?_)
  · rcases hP with z | z
    · exact g3 j hj z
    · rw [z]; exact n1
  · rcases hP with z | z
    · exact g4 j hj z
    · subst z
      have n2 : ¬ f j = f k := fun z => hc (Or.inr ⟨z, hj⟩)
      have n3 : ¬ (f j).toInt = (f k).toInt := fun z => n2 (Int32.toInt_inj.mp z)
      rw [Int32.lt_iff_toInt_lt] at n1 ⊢
      omega
theorem cnt_add1 {W : Nat → Prop} {N b : Nat} (hb : b < N) (hW : ¬ W b) : cnt N (fun x => W x ∨ x = b) = cnt N W + 1 := by
  induction N with
  | zero => omega
  | succ N ih =>
    by_cases e : b = N
    · subst e
      rw [cnt_t (P := fun x => W x ∨ x = b) (Or.inr rfl), cnt_f hW, cnt_congr (Q := W) (fun p hp => ⟨fun z => z.elim id (fun z => by omega), fun z => Or.inl z⟩)]
    · have h1 := ih (by omega)
      by_cases hN : W N
      · rw [cnt_t (P := fun x => W x ∨ x = b) (Or.inl hN), cnt_t hN, h1]
      · rw [cnt_f (P := fun x => W x ∨ x = b) (fun z => z.elim hN (fun z => e z.symm)), cnt_f hN, h1]
theorem cnt_lt' {n i0 : Nat} {P Q : Nat → Prop} (h : ∀ i, i < n → P i → Q i) (hi : i0 < n) (h1 : Q i0) (h2 : ¬ P i0) : cnt n P < cnt n Q := by
  induction n with
  | zero => omega
  | succ n ih =>
    have hle : ∀ m, (∀ i, i < m → P i → Q i) → cnt m P ≤ cnt m Q := by
      intro m
      induction m with
      | zero => intro _; exact Nat.le_refl 0
      | succ m ihm =>
        intro hm
        have := ihm (fun i hi => hm i (by omega))
        by_cases hp : P m
        · rw [cnt_t hp, cnt_t (hm m (by omega) hp)]; omega
        · rw [cnt_f hp]
          by_cases hq : Q m
          · rw [cnt_t hq]; omega
          · rw [cnt_f hq]; omega
    by_cases e : i0 = n
    · subst e
      rw [cnt_f h2, cnt_t h1]
      have := hle i0 (fun i hi => h i (by omega))
      omega
    · have := ih (fun i hi => h i (by omega)) (by omega)
      by_cases hp : P n
      · rw [cnt_t hp, cnt_t (h n (by omega) hp)]; omega
      · rw [cnt_f hp]
        by_cases hq : Q n
        · rw [cnt_t hq]; omega
        · rw [cnt_f hq]; omega
theorem valN_put {pv : Nat → Nat → Nat} {c b p : Nat} (hb : ¬ b.testBit p = true) : ∀ n, valN pv c (b ||| 2 ^ p) n = valN pv c b n + if p < n then pv p c else 0 := by
  intro n
  induction n with
  | zero => rw [if_neg (Nat.not_lt_zero p)]; rfl
  | succ n ih =>
    have hbit : ∀ i, (b ||| 2 ^ p).testBit i = true ↔ (b.testBit i = true ∨ p = i) := fun i => by rw [Nat.testBit_or, Bool.or_eq_true, Nat.testBit_two_pow, decide_eq_true_eq]
    by_cases e : p = n
    · subst e
      rw [valN_t ((hbit p).mpr (Or.inr rfl)), valN_f hb, ih, if_neg (Nat.lt_irrefl p), if_pos (by omega)]
      rfl
    · have e3 : (if p < n + 1 then pv p c else 0) = if p < n then pv p c else 0 := by
        by_cases q : p < n
        · rw [if_pos q, if_pos (by omega)]
        · rw [if_neg q, if_neg (by omega)]
      rw [e3]
      by_cases h : b.testBit n = true
      · rw [valN_t ((hbit n).mpr (Or.inl h)), valN_t h, ih]; omega
      · rw [valN_f (fun z => ((hbit n).mp z).elim h e), valN_f h, ih]
/-! ===== the class: books ===== -/
noncomputable def bsR (M : MM) (pv : Nat → Nat → Nat) (n : Nat) (W : Nat → Prop) : MM := setI (setI (setI M 7 2 (nI (cnt (2 ^ n) W))) 7 3 (vI (fun b => nI (valN pv 2 b n)) (fgr W (fun b => nI (valN pv 2 b n)) (2 ^ n)))) 7 4 (oI (fgr W (fun b => nI (valN pv 2 b n)) (2 ^ n)))
theorem bsR_congr {M : MM} {pv : Nat → Nat → Nat} {n : Nat} {W V : Nat → Prop} (h : ∀ b, b < 2 ^ n → (W b ↔ V b)) : bsR M pv n W = bsR M pv n V := by
  unfold bsR
  rw [cnt_congr h, fgr_congr h (fun _ _ => rfl)]
theorem Fc_bs {M : MM} {pv : Nat → Nat → Nat} {n : Nat} {W : Nat → Prop} : Fc (fun a => a = 7) M (bsR M pv n W) := ((Fc.I (S := fun a => a = 7) rfl).tr (Fc.I rfl)).tr (Fc.I rfl)
theorem bs_234 {M : MM} {pv : Nat → Nat → Nat} {n : Nat} {W : Nat → Prop} {x y z : Int32} : setI (setI (setI (bsR M pv n W) 7 2 x) 7 3 y) 7 4 z = setI (setI (setI M 7 2 x) 7 3 y) 7 4 z := by
  unfold bsR
  rw [setI_comm (M := setI (setI M 7 2 _) 7 3 _) (a := 7) (k := 4) (b := 7) (j := 2) (by decide), setI_comm (M := setI M 7 2 _) (a := 7) (k := 3) (b := 7) (j := 2) (by decide), setI_setI]
  rw [setI_comm (M := setI (setI M 7 2 _) 7 3 _) (a := 7) (k := 4) (b := 7) (j := 3) (by decide), setI_setI, setI_setI]
theorem bs_2 {M : MM} {pv : Nat → Nat → Nat} {n : Nat} {W : Nat → Prop} {x : Int32} : setI (bsR M pv n W) 7 2 x = setI (setI (setI M 7 2 x) 7 3 (vI (fun b => nI (valN pv 2 b n)) (fgr W (fun b => nI (valN pv 2 b n)) (2 ^ n)))) 7 4 (oI (fgr W (fun b => nI (valN pv 2 b n)) (2 ^ n))) := by
  unfold bsR
  rw [setI_comm (M := setI (setI M 7 2 _) 7 3 _) (a := 7) (k := 4) (b := 7) (j := 2) (by decide), setI_comm (M := setI M 7 2 _) (a := 7) (k := 3) (b := 7) (j := 2) (by decide), setI_setI]
theorem c_weigh_n {d n ab b : Nat} {but : Int32} {pv : Nat → Nat → Nat} {sz tr bn : Nat} {ws : Nat → Nat} {W : Nat → Prop} {M : MM} (hS : SH M) (hA : ABo M ab) (hC : CA M ab n pv sz ws tr bn) (hw : fi M 7 1 = but) (hd : 14 ≤ d) (hb : b < 2 ^ n) (hg : ¬ ∀ x, x < 6 → bgd2 pv n ws but b x) : evC d 18 [.ref 7, .ref ab, .int (nI b), .int (nI (valN pv 2 b n))] (toH (bsR M pv n W)) = some (.inl none, toH (bsR M pv n W)) := by
  have hab := hA.1
  have hF := Fc_bs (M := M) (pv := pv) (n := n) (W := W)
  have hSb := hF.SH hS
  have hwi := c_wishes (d := d - 1) (but := but) (b := b) (by omega) (hF.AB hA) (hF.CA (fun a h1 h2 z => by omega) hC) hb
  have aC : cl (bsR M pv n W) ab = 0 := (hF.AB hA).2.1
  have f1 : fi (bsR M pv n W) 7 1 = but := by unfold bsR; rw [fi_nk (by decide), fi_nk (by decide), fi_nk (by decide)]; exact hw
  rw [E_X1_weigh (by omega)]
  rw [bI_f hg] at hwi
  simp (disch := first | assumption | (simp (disch := first | assumption | omega) only [sh_setI', ln_setI', fr_setI', ai_setI', al_setI', aq_setI', nx_setI', sl_setI', sL_setI', sX_setI', cl_setI', sh_setR', ln_setR', fi_setR', ai_setR', al_setR', aq_setR', nx_setR', sl_setR', sL_setR', sX_setR', cl_setR', sh_setA', ln_setA', fi_setA', fr_setA', al_setA', aq_setA', nx_setA', sl_setA', sL_setA', sX_setA', cl_setA', sh_setL', ln_setL', fi_setL', fr_setL', ai_setL', aq_setL', nx_setL', sl_setL', sL_setL', sX_setL', cl_setL', sh_setQ', ln_setQ', fi_setQ', fr_setQ', ai_setQ', al_setQ', nx_setQ', sl_setQ', sL_setQ', sX_setQ', cl_setQ', ai_eq, ai_ne, al_eq, al_ne, aq_eq, aq_ne, fi_eq, fi_nk, fi_na, fr_eq, fr_nk, fr_na, up_eq, up_ne, SH_setI', SH_setA', SH_setL', List.length_cons, List.length_nil, C_0, C_1, C_2, C_3, C_4, C_5, C_6, C_7, C_8, C_9, C_10, C_11, C_12, C_13, C_14, C_15, C_16, C_17, C_18, C_19, C_20, C_21, C_22, C_23, C_24, C_25, C_26, C_27, C_28, C_29, C_30, C_31, C_32, C_33, C_34, C_35, C_36, C_37, C_38, C_39, C_40, C_41, C_42, C_43, C_44, C_45, C_46, C_47, C_48, C_49, C_50, C_51, C_52, N_2, N_4, N_5, N_6, N_9, N_10, N_11, N_13, N_14, N_15, N_16, N_17, N_19, N_20, N_21, N_22, N_23, N_24, N_25, N_27, N_28, N_29, N_30, N_31, N_32, N_33, N_35, N_36, N_37, N_39, N_40, N_41, N_43, N_44, N_46, N_47, N_49, N_50, N_51, N_52, F_1_0, F_0_0, F_3_0, F_3_1, F_3_2, F_0_1, F_0_2, F_8_0, F_8_1, F_8_2, F_0_3, F_12_0, F_12_1, F_12_2, F_12_3, F_0_4, F_0_5, F_18_0, F_18_1, F_18_2, F_18_3, F_18_4, F_18_5, F_18_6, F_26_0, F_26_1, F_26_2, F_26_3, F_26_4, F_26_5, F_26_6, F_34_0, F_34_1, F_34_2, F_38_0, F_38_1, F_38_2, F_42_0, F_42_1, F_45_0, F_45_1, F_48_0, F_48_1, F_48_2, F_48_3] <;> first | omega | assumption) | omega) only [Ev, ev_sqb, t_X1_weigh_k47, x_aload_n0, y_aload_n0, x_iload_n3, y_iload_n3, x_pf_1_3, y_pf_1_3, x_iload_n2, y_iload_n2, x_pf_1_4, y_pf_1_4, t_X1_weigh_k57, y_ret, t_X1_weigh, x_aload_n1, y_aload_n1, x_gf_1_1, y_gf_1_1, x_iv2, y_iv2, x_ifCond_ne, y_ifCond_ne, x_dup_i, y_dup_i, x_dup_r, y_dup_r, x_gf_1_2, y_gf_1_2, x_iconst_1, y_iconst_1, x_iadd, y_iadd, x_pf_1_2, y_pf_1_2, x_gf_1_3, y_gf_1_3, x_if_icmp_gt, y_if_icmp_gt, x_if_icmp_ne, y_if_icmp_ne, x_gf_1_4, y_gf_1_4, x_if_icmp_ge, y_if_icmp_ge, ev_bk, sq0, sq1, sq2, bk0, bk1, bk2, sq_if, bk_if, rt_if, cr_if, cr0, cr1, crE, rt1, rtE, va_rf_s, va_rf_n, nI_add, nI_ltI, nI_eq, nI_eq0, nI_lt0, nI_0lt, nI_n1, n1_nI, n1_lt, lt_n1, n1_0, n1_n1, n1_l0, if_true, if_false, ite_true, ite_false, bI_0, bI_1, not_true_eq_false, not_false_eq_true, Ew_i, Er_i, Lq_c, Lq_j, Lq_n, Nat.reduceAdd, Nat.zero_add, Nat.add_zero, Nat.lt_irrefl, Bool.false_eq_true, Nat.reduceEqDiff, Nat.reduceLT, Nat.reduceSub, Nat.reduceMul, Nat.one_ne_zero, C_0, C_1, C_2, C_3, C_4, C_5, C_6, C_7, C_8, C_9, C_10, C_11, C_12, C_13, C_14, C_15, C_16, C_17, C_18, C_19, C_20, C_21, C_22, C_23, C_24, C_25, C_26, C_27, C_28, C_29, C_30, C_31, C_32, C_33, C_34, C_35, C_36, C_37, C_38, C_39, C_40, C_41, C_42, C_43, C_44, C_45, C_46, C_47, C_48, C_49, C_50, C_51, C_52, N_2, N_4, N_5, N_6, N_9, N_10, N_11, N_13, N_14, N_15, N_16, N_17, N_19, N_20, N_21, N_22, N_23, N_24, N_25, N_27, N_28, N_29, N_30, N_31, N_32, N_33, N_35, N_36, N_37, N_39, N_40, N_41, N_43, N_44, N_46, N_47, N_49, N_50, N_51, N_52, F_1_0, F_0_0, F_3_0, F_3_1, F_3_2, F_0_1, F_0_2, F_8_0, F_8_1, F_8_2, F_0_3, F_12_0, F_12_1, F_12_2, F_12_3, F_0_4, F_0_5, F_18_0, F_18_1, F_18_2, F_18_3, F_18_4, F_18_5, F_18_6, F_26_0, F_26_1, F_26_2, F_26_3, F_26_4, F_26_5, F_26_6, F_34_0, F_34_1, F_34_2, F_38_0, F_38_1, F_38_2, F_42_0, F_42_1, F_45_0, F_45_1, F_48_0, F_48_1, F_48_2, F_48_3, sh_setI', ln_setI', fr_setI', ai_setI', al_setI', aq_setI', nx_setI', sl_setI', sL_setI', sX_setI', cl_setI', sh_setR', ln_setR', fi_setR', ai_setR', al_setR', aq_setR', nx_setR', sl_setR', sL_setR', sX_setR', cl_setR', sh_setA', ln_setA', fi_setA', fr_setA', al_setA', aq_setA', nx_setA', sl_setA', sL_setA', sX_setA', cl_setA', sh_setL', ln_setL', fi_setL', fr_setL', ai_setL', aq_setL', nx_setL', sl_setL', sL_setL', sX_setL', cl_setL', sh_setQ', ln_setQ', fi_setQ', fr_setQ', ai_setQ', al_setQ', nx_setQ', sl_setQ', sL_setQ', sX_setQ', cl_setQ', ai_eq, ai_ne, al_eq, al_ne, aq_eq, aq_ne, fi_eq, fi_nk, fi_na, fr_eq, fr_nk, fr_na, up_eq, up_ne, f1, hwi]
theorem c_weigh {d n ab b : Nat} {but : Int32} {pv : Nat → Nat → Nat} {sz tr bn : Nat} {ws : Nat → Nat} {W : Nat → Prop} {M : MM} (hS : SH M) (hA : ABo M ab) (hC : CA M ab n pv sz ws tr bn) (hw : fi M 7 1 = but) (hd : 14 ≤ d) (hb : b < 2 ^ n) (hW : ¬ W b) : ((∀ x, x < 6 → bgd2 pv n ws but b x) → evC d 18 [.ref 7, .ref ab, .int (nI b), .int (nI (valN pv 2 b n))] (toH (bsR M pv n W)) = some (.inl none, toH (bsR M pv n (fun x => W x ∨ x = b)))) ∧ ((¬ ∀ x, x < 6 → bgd2 pv n ws but b x) → evC d 18 [.ref 7, .ref ab, .int (nI b), .int (nI (valN pv 2 b n))] (toH (bsR M pv n W)) = some (.inl none, toH (bsR M pv n W))) := by
  have hab := hA.1
  have h16 := hC.2.1
  have hF := Fc_bs (M := M) (pv := pv) (n := n) (W := W)
  have hSb := hF.SH hS
  have hwi := c_wishes (d := d - 1) (but := but) (b := b) (by omega) (hF.AB hA) (hF.CA (fun a h1 h2 z => by omega) hC) hb
  have aC : cl (bsR M pv n W) ab = 0 := (hF.AB hA).2.1
  have f1 : fi (bsR M pv n W) 7 1 = but := by unfold bsR; rw [fi_nk (by decide), fi_nk (by decide), fi_nk (by decide)]; exact hw
  have f2 : fi (bsR M pv n W) 7 2 = nI (cnt (2 ^ n) W) := by unfold bsR; rw [fi_nk (by decide), fi_nk (by decide), fi_eq]
  have f3 : fi (bsR M pv n W) 7 3 = vI (fun b => nI (valN pv 2 b n)) (fgr W (fun b => nI (valN pv 2 b n)) (2 ^ n)) := by unfold bsR; rw [fi_nk (by decide), fi_eq]
  have f4 : fi (bsR M pv n W) 7 4 = oI (fgr W (fun b => nI (valN pv 2 b n)) (2 ^ n)) := by unfold bsR; rw [fi_eq]
  have hvl : ∀ b, valN pv 2 b n ≤ 640 := fun b => by
    have := valN_le (pv := pv) (c := 2) (b := b) (n := n) (fun p hp => by have := (hC.2.2.2.2.2.2.2.1 p hp).2.2.1; omega)
    omega
  have hpow : (2 : Nat) ^ n ≤ 65536 := (Nat.pow_le_pow_right (by decide) h16 : 2 ^ n ≤ 2 ^ 16)
  have hv1 := hvl b
  rw [E_X1_weigh (by omega)]
  constructor
  · intro hg
    rw [bI_t hg] at hwi
    cases hf : fgr W (fun b => nI (valN pv 2 b n)) (2 ^ n) with
    | none =>
      have e9 : bsR M pv n (fun x => W x ∨ x = b) = setI (setI (setI M 7 2 (nI (cnt (2 ^ n) W + 1))) 7 3 (nI (valN pv 2 b n))) 7 4 (nI b) := by
        unfold bsR
        rw [cnt_add1 hb hW, fgr_an hb hf]; rfl
      rw [e9, ← bs_234 (W := W) (pv := pv) (n := n)]
      rw [hf] at f3 f4
      simp (disch := first | assumption | (simp (disch := first | assumption | omega) only [sh_setI', ln_setI', fr_setI', ai_setI', al_setI', aq_setI', nx_setI', sl_setI', sL_setI', sX_setI', cl_setI', sh_setR', ln_setR', fi_setR', ai_setR', al_setR', aq_setR', nx_setR', sl_setR', sL_setR', sX_setR', cl_setR', sh_setA', ln_setA', fi_setA', fr_setA', al_setA', aq_setA', nx_setA', sl_setA', sL_setA', sX_setA', cl_setA', sh_setL', ln_setL', fi_setL', fr_setL', ai_setL', aq_setL', nx_setL', sl_setL', sL_setL', sX_setL', cl_setL', sh_setQ', ln_setQ', fi_setQ', fr_setQ', ai_setQ', al_setQ', nx_setQ', sl_setQ', sL_setQ', sX_setQ', cl_setQ', ai_eq, ai_ne, al_eq, al_ne, aq_eq, aq_ne, fi_eq, fi_nk, fi_na, fr_eq, fr_nk, fr_na, up_eq, up_ne, SH_setI', SH_setA', SH_setL', List.length_cons, List.length_nil, C_0, C_1, C_2, C_3, C_4, C_5, C_6, C_7, C_8, C_9, C_10, C_11, C_12, C_13, C_14, C_15, C_16, C_17, C_18, C_19, C_20, C_21, C_22, C_23, C_24, C_25, C_26, C_27, C_28, C_29, C_30, C_31, C_32, C_33, C_34, C_35, C_36, C_37, C_38, C_39, C_40, C_41, C_42, C_43, C_44, C_45, C_46, C_47, C_48, C_49, C_50, C_51, C_52, N_2, N_4, N_5, N_6, N_9, N_10, N_11, N_13, N_14, N_15, N_16, N_17, N_19, N_20, N_21, N_22, N_23, N_24, N_25, N_27, N_28, N_29, N_30, N_31, N_32, N_33, N_35, N_36, N_37, N_39, N_40, N_41, N_43, N_44, N_46, N_47, N_49, N_50, N_51, N_52, F_1_0, F_0_0, F_3_0, F_3_1, F_3_2, F_0_1, F_0_2, F_8_0, F_8_1, F_8_2, F_0_3, F_12_0, F_12_1, F_12_2, F_12_3, F_0_4, F_0_5, F_18_0, F_18_1, F_18_2, F_18_3, F_18_4, F_18_5, F_18_6, F_26_0, F_26_1, F_26_2, F_26_3, F_26_4, F_26_5, F_26_6, F_34_0, F_34_1, F_34_2, F_38_0, F_38_1, F_38_2, F_42_0, F_42_1, F_45_0, F_45_1, F_48_0, F_48_1, F_48_2, F_48_3] <;> first | omega | assumption) | omega) only [Ev, ev_sqb, t_X1_weigh_k47, x_aload_n0, y_aload_n0, x_iload_n3, y_iload_n3, x_pf_1_3, y_pf_1_3, x_iload_n2, y_iload_n2, x_pf_1_4, y_pf_1_4, t_X1_weigh_k57, y_ret, t_X1_weigh, x_aload_n1, y_aload_n1, x_gf_1_1, y_gf_1_1, x_iv2, y_iv2, x_ifCond_ne, y_ifCond_ne, x_dup_i, y_dup_i, x_dup_r, y_dup_r, x_gf_1_2, y_gf_1_2, x_iconst_1, y_iconst_1, x_iadd, y_iadd, x_pf_1_2, y_pf_1_2, x_gf_1_3, y_gf_1_3, x_if_icmp_gt, y_if_icmp_gt, x_if_icmp_ne, y_if_icmp_ne, x_gf_1_4, y_gf_1_4, x_if_icmp_ge, y_if_icmp_ge, ev_bk, sq0, sq1, sq2, bk0, bk1, bk2, sq_if, bk_if, rt_if, cr_if, cr0, cr1, crE, rt1, rtE, va_rf_s, va_rf_n, nI_add, nI_ltI, nI_eq, nI_eq0, nI_lt0, nI_0lt, nI_n1, n1_nI, n1_lt, lt_n1, n1_0, n1_n1, n1_l0, if_true, if_false, ite_true, ite_false, bI_0, bI_1, not_true_eq_false, not_false_eq_true, Ew_i, Er_i, Lq_c, Lq_j, Lq_n, Nat.reduceAdd, Nat.zero_add, Nat.add_zero, Nat.lt_irrefl, Bool.false_eq_true, Nat.reduceEqDiff, Nat.reduceLT, Nat.reduceSub, Nat.reduceMul, Nat.one_ne_zero, C_0, C_1, C_2, C_3, C_4, C_5, C_6, C_7, C_8, C_9, C_10, C_11, C_12, C_13, C_14, C_15, C_16, C_17, C_18, C_19, C_20, C_21, C_22, C_23, C_24, C_25, C_26, C_27, C_28, C_29, C_30, C_31, C_32, C_33, C_34, C_35, C_36, C_37, C_38, C_39, C_40, C_41, C_42, C_43, C_44, C_45, C_46, C_47, C_48, C_49, C_50, C_51, C_52, N_2, N_4, N_5, N_6, N_9, N_10, N_11, N_13, N_14, N_15, N_16, N_17, N_19, N_20, N_21, N_22, N_23, N_24, N_25, N_27, N_28, N_29, N_30, N_31, N_32, N_33, N_35, N_36, N_37, N_39, N_40, N_41, N_43, N_44, N_46, N_47, N_49, N_50, N_51, N_52, F_1_0, F_0_0, F_3_0, F_3_1, F_3_2, F_0_1, F_0_2, F_8_0, F_8_1, F_8_2, F_0_3, F_12_0, F_12_1, F_12_2, F_12_3, F_0_4, F_0_5, F_18_0, F_18_1, F_18_2, F_18_3, F_18_4, F_18_5, F_18_6, F_26_0, F_26_1, F_26_2, F_26_3, F_26_4, F_26_5, F_26_6, F_34_0, F_34_1, F_34_2, F_38_0, F_38_1, F_38_2, F_42_0, F_42_1, F_45_0, F_45_1, F_48_0, F_48_1, F_48_2, F_48_3, sh_setI', ln_setI', fr_setI', ai_setI', al_setI', aq_setI', nx_setI', sl_setI', sL_setI', sX_setI', cl_setI', sh_setR', ln_setR', fi_setR', ai_setR', al_setR', aq_setR', nx_setR', sl_setR', sL_setR', sX_setR', cl_setR', sh_setA', ln_setA', fi_setA', fr_setA', al_setA', aq_setA', nx_setA', sl_setA', sL_setA', sX_setA', cl_setA', sh_setL', ln_setL', fi_setL', fr_setL', ai_setL', aq_setL', nx_setL', sl_setL', sL_setL', sX_setL', cl_setL', sh_setQ', ln_setQ', fi_setQ', fr_setQ', ai_setQ', al_setQ', nx_setQ', sl_setQ', sL_setQ', sX_setQ', cl_setQ', ai_eq, ai_ne, al_eq, al_ne, aq_eq, aq_ne, fi_eq, fi_nk, fi_na, fr_eq, fr_nk, fr_na, up_eq, up_ne, f1, f2, f3, f4, hwi, vI_n, oI_n]
    | some k =>
      obtain ⟨g1, g2, -, -⟩ := fgr_spec hf
      have hv2 := hvl k
      rw [hf] at f3 f4
      by_cases hc : nI (valN pv 2 k n) < nI (valN pv 2 b n) ∨ (nI (valN pv 2 b n) = nI (valN pv 2 k n) ∧ b < k)
      · have e9 : bsR M pv n (fun x => W x ∨ x = b) = setI (setI (setI M 7 2 (nI (cnt (2 ^ n) W + 1))) 7 3 (nI (valN pv 2 b n))) 7 4 (nI b) := by
          unfold bsR
          rw [cnt_add1 hb hW, fgr_at hb hf hc]; rfl
        rw [e9, ← bs_234 (W := W) (pv := pv) (n := n)]
        by_cases h1 : valN pv 2 k n < valN pv 2 b n
        · simp (disch := first | assumption | (simp (disch := first | assumption | omega) only [sh_setI', ln_setI', fr_setI', ai_setI', al_setI', aq_setI', nx_setI', sl_setI', sL_setI', sX_setI', cl_setI', sh_setR', ln_setR', fi_setR', ai_setR', al_setR', aq_setR', nx_setR', sl_setR', sL_setR', sX_setR', cl_setR', sh_setA', ln_setA', fi_setA', fr_setA', al_setA', aq_setA', nx_setA', sl_setA', sL_setA', sX_setA', cl_setA', sh_setL', ln_setL', fi_setL', fr_setL', ai_setL', aq_setL', nx_setL', sl_setL', sL_setL', sX_setL', cl_setL', sh_setQ', ln_setQ', fi_setQ', fr_setQ', ai_setQ', al_setQ', nx_setQ', sl_setQ', sL_setQ', sX_setQ', cl_setQ', ai_eq, ai_ne, al_eq, al_ne, aq_eq, aq_ne, fi_eq, fi_nk, fi_na, fr_eq, fr_nk, fr_na, up_eq, up_ne, SH_setI', SH_setA', SH_setL', List.length_cons, List.length_nil, C_0, C_1, C_2, C_3, C_4, C_5, C_6, C_7, C_8, C_9, C_10, C_11, C_12, C_13, C_14, C_15, C_16, C_17, C_18, C_19, C_20, C_21, C_22, C_23, C_24, C_25, C_26, C_27, C_28, C_29, C_30, C_31, C_32, C_33, C_34, C_35, C_36, C_37, C_38, C_39, C_40, C_41, C_42, C_43, C_44, C_45, C_46, C_47, C_48, C_49, C_50, C_51, C_52, N_2, N_4, N_5, N_6, N_9, N_10, N_11, N_13, N_14, N_15, N_16, N_17, N_19, N_20, N_21, N_22, N_23, N_24, N_25, N_27, N_28, N_29, N_30, N_31, N_32, N_33, N_35, N_36, N_37, N_39, N_40, N_41, N_43, N_44, N_46, N_47, N_49, N_50, N_51, N_52, F_1_0, F_0_0, F_3_0, F_3_1, F_3_2, F_0_1, F_0_2, F_8_0, F_8_1, F_8_2, F_0_3, F_12_0, F_12_1, F_12_2, F_12_3, F_0_4, F_0_5, F_18_0, F_18_1, F_18_2, F_18_3, F_18_4, F_18_5, F_18_6, F_26_0, F_26_1, F_26_2, F_26_3, F_26_4, F_26_5, F_26_6, F_34_0, F_34_1, F_34_2, F_38_0, F_38_1, F_38_2, F_42_0, F_42_1, F_45_0, F_45_1, F_48_0, F_48_1, F_48_2, F_48_3] <;> first | omega | assumption) | omega) only [Ev, ev_sqb, t_X1_weigh_k47, x_aload_n0, y_aload_n0, x_iload_n3, y_iload_n3, x_pf_1_3, y_pf_1_3, x_iload_n2, y_iload_n2, x_pf_1_4, y_pf_1_4, t_X1_weigh_k57, y_ret, t_X1_weigh, x_aload_n1, y_aload_n1, x_gf_1_1, y_gf_1_1, x_iv2, y_iv2, x_ifCond_ne, y_ifCond_ne, x_dup_i, y_dup_i, x_dup_r, y_dup_r, x_gf_1_2, y_gf_1_2, x_iconst_1, y_iconst_1, x_iadd, y_iadd, x_pf_1_2, y_pf_1_2, x_gf_1_3, y_gf_1_3, x_if_icmp_gt, y_if_icmp_gt, x_if_icmp_ne, y_if_icmp_ne, x_gf_1_4, y_gf_1_4, x_if_icmp_ge, y_if_icmp_ge, ev_bk, sq0, sq1, sq2, bk0, bk1, bk2, sq_if, bk_if, rt_if, cr_if, cr0, cr1, crE, rt1, rtE, va_rf_s, va_rf_n, nI_add, nI_ltI, nI_eq, nI_eq0, nI_lt0, nI_0lt, nI_n1, n1_nI, n1_lt, lt_n1, n1_0, n1_n1, n1_l0, if_true, if_false, ite_true, ite_false, bI_0, bI_1, not_true_eq_false, not_false_eq_true, Ew_i, Er_i, Lq_c, Lq_j, Lq_n, Nat.reduceAdd, Nat.zero_add, Nat.add_zero, Nat.lt_irrefl, Bool.false_eq_true, Nat.reduceEqDiff, Nat.reduceLT, Nat.reduceSub, Nat.reduceMul, Nat.one_ne_zero, C_0, C_1, C_2, C_3, C_4, C_5, C_6, C_7, C_8, C_9, C_10, C_11, C_12, C_13, C_14, C_15, C_16, C_17, C_18, C_19, C_20, C_21, C_22, C_23, C_24, C_25, C_26, C_27, C_28, C_29, C_30, C_31, C_32, C_33, C_34, C_35, C_36, C_37, C_38, C_39, C_40, C_41, C_42, C_43, C_44, C_45, C_46, C_47, C_48, C_49, C_50, C_51, C_52, N_2, N_4, N_5, N_6, N_9, N_10, N_11, N_13, N_14, N_15, N_16, N_17, N_19, N_20, N_21, N_22, N_23, N_24, N_25, N_27, N_28, N_29, N_30, N_31, N_32, N_33, N_35, N_36, N_37, N_39, N_40, N_41, N_43, N_44, N_46, N_47, N_49, N_50, N_51, N_52, F_1_0, F_0_0, F_3_0, F_3_1, F_3_2, F_0_1, F_0_2, F_8_0, F_8_1, F_8_2, F_0_3, F_12_0, F_12_1, F_12_2, F_12_3, F_0_4, F_0_5, F_18_0, F_18_1, F_18_2, F_18_3, F_18_4, F_18_5, F_18_6, F_26_0, F_26_1, F_26_2, F_26_3, F_26_4, F_26_5, F_26_6, F_34_0, F_34_1, F_34_2, F_38_0, F_38_1, F_38_2, F_42_0, F_42_1, F_45_0, F_45_1, F_48_0, F_48_1, F_48_2, F_48_3, sh_setI', ln_setI', fr_setI', ai_setI', al_setI', aq_setI', nx_setI', sl_setI', sL_setI', sX_setI', cl_setI', sh_setR', ln_setR', fi_setR', ai_setR', al_setR', aq_setR', nx_setR', sl_setR', sL_setR', sX_setR', cl_setR', sh_setA', ln_setA', fi_setA', fr_setA', al_setA', aq_setA', nx_setA', sl_setA', sL_setA', sX_setA', cl_setA', sh_setL', ln_setL', fi_setL', fr_setL', ai_setL', aq_setL', nx_setL', sl_setL', sL_setL', sX_setL', cl_setL', sh_setQ', ln_setQ', fi_setQ', fr_setQ', ai_setQ', al_setQ', nx_setQ', sl_setQ', sL_setQ', sX_setQ', cl_setQ', ai_eq, ai_ne, al_eq, al_ne, aq_eq, aq_ne, fi_eq, fi_nk, fi_na, fr_eq, fr_nk, fr_na, up_eq, up_ne, f1, f2, f3, f4, hwi, vI_s, oI_s, eq_true h1]
        · have h2 : valN pv 2 b n = valN pv 2 k n ∧ b < k := by
            rcases hc with z | z
            · exact absurd ((nI_ltI (by omega) (by omega)).mp z) h1
            · exact ⟨(nI_eq (by omega) (by omega)).mp z.1, z.2⟩
          obtain ⟨h2, h3⟩ := h2
          simp (disch := first | assumption | (simp (disch := first | assumption | omega) only [sh_setI', ln_setI', fr_setI', ai_setI', al_setI', aq_setI', nx_setI', sl_setI', sL_setI', sX_setI', cl_setI', sh_setR', ln_setR', fi_setR', ai_setR', al_setR', aq_setR', nx_setR', sl_setR', sL_setR', sX_setR', cl_setR', sh_setA', ln_setA', fi_setA', fr_setA', al_setA', aq_setA', nx_setA', sl_setA', sL_setA', sX_setA', cl_setA', sh_setL', ln_setL', fi_setL', fr_setL', ai_setL', aq_setL', nx_setL', sl_setL', sL_setL', sX_setL', cl_setL', sh_setQ', ln_setQ', fi_setQ', fr_setQ', ai_setQ', al_setQ', nx_setQ', sl_setQ', sL_setQ', sX_setQ', cl_setQ', ai_eq, ai_ne, al_eq, al_ne, aq_eq, aq_ne, fi_eq, fi_nk, fi_na, fr_eq, fr_nk, fr_na, up_eq, up_ne, SH_setI', SH_setA', SH_setL', List.length_cons, List.length_nil, C_0, C_1, C_2, C_3, C_4, C_5, C_6, C_7, C_8, C_9, C_10, C_11, C_12, C_13, C_14, C_15, C_16, C_17, C_18, C_19, C_20, C_21, C_22, C_23, C_24, C_25, C_26, C_27, C_28, C_29, C_30, C_31, C_32, C_33, C_34, C_35, C_36, C_37, C_38, C_39, C_40, C_41, C_42, C_43, C_44, C_45, C_46, C_47, C_48, C_49, C_50, C_51, C_52, N_2, N_4, N_5, N_6, N_9, N_10, N_11, N_13, N_14, N_15, N_16, N_17, N_19, N_20, N_21, N_22, N_23, N_24, N_25, N_27, N_28, N_29, N_30, N_31, N_32, N_33, N_35, N_36, N_37, N_39, N_40, N_41, N_43, N_44, N_46, N_47, N_49, N_50, N_51, N_52, F_1_0, F_0_0, F_3_0, F_3_1, F_3_2, F_0_1, F_0_2, F_8_0, F_8_1, F_8_2, F_0_3, F_12_0, F_12_1, F_12_2, F_12_3, F_0_4, F_0_5, F_18_0, F_18_1, F_18_2, F_18_3, F_18_4, F_18_5, F_18_6, F_26_0, F_26_1, F_26_2, F_26_3, F_26_4, F_26_5, F_26_6, F_34_0, F_34_1, F_34_2, F_38_0, F_38_1, F_38_2, F_42_0, F_42_1, F_45_0, F_45_1, F_48_0, F_48_1, F_48_2, F_48_3] <;> first | omega | assumption) | omega) only [Ev, ev_sqb, t_X1_weigh_k47, x_aload_n0, y_aload_n0, x_iload_n3, y_iload_n3, x_pf_1_3, y_pf_1_3, x_iload_n2, y_iload_n2, x_pf_1_4, y_pf_1_4, t_X1_weigh_k57, y_ret, t_X1_weigh, x_aload_n1, y_aload_n1, x_gf_1_1, y_gf_1_1, x_iv2, y_iv2, x_ifCond_ne, y_ifCond_ne, x_dup_i, y_dup_i, x_dup_r, y_dup_r, x_gf_1_2, y_gf_1_2, x_iconst_1, y_iconst_1, x_iadd, y_iadd, x_pf_1_2, y_pf_1_2, x_gf_1_3, y_gf_1_3, x_if_icmp_gt, y_if_icmp_gt, x_if_icmp_ne, y_if_icmp_ne, x_gf_1_4, y_gf_1_4, x_if_icmp_ge, y_if_icmp_ge, ev_bk, sq0, sq1, sq2, bk0, bk1, bk2, sq_if, bk_if, rt_if, cr_if, cr0, cr1, crE, rt1, rtE, va_rf_s, va_rf_n, nI_add, nI_ltI, nI_eq, nI_eq0, nI_lt0, nI_0lt, nI_n1, n1_nI, n1_lt, lt_n1, n1_0, n1_n1, n1_l0, if_true, if_false, ite_true, ite_false, bI_0, bI_1, not_true_eq_false, not_false_eq_true, Ew_i, Er_i, Lq_c, Lq_j, Lq_n, Nat.reduceAdd, Nat.zero_add, Nat.add_zero, Nat.lt_irrefl, Bool.false_eq_true, Nat.reduceEqDiff, Nat.reduceLT, Nat.reduceSub, Nat.reduceMul, Nat.one_ne_zero, C_0, C_1, C_2, C_3, C_4, C_5, C_6, C_7, C_8, C_9, C_10, C_11, C_12, C_13, C_14, C_15, C_16, C_17, C_18, C_19, C_20, C_21, C_22, C_23, C_24, C_25, C_26, C_27, C_28, C_29, C_30, C_31, C_32, C_33, C_34, C_35, C_36, C_37, C_38, C_39, C_40, C_41, C_42, C_43, C_44, C_45, C_46, C_47, C_48, C_49, C_50, C_51, C_52, N_2, N_4, N_5, N_6, N_9, N_10, N_11, N_13, N_14, N_15, N_16, N_17, N_19, N_20, N_21, N_22, N_23, N_24, N_25, N_27, N_28, N_29, N_30, N_31, N_32, N_33, N_35, N_36, N_37, N_39, N_40, N_41, N_43, N_44, N_46, N_47, N_49, N_50, N_51, N_52, F_1_0, F_0_0, F_3_0, F_3_1, F_3_2, F_0_1, F_0_2, F_8_0, F_8_1, F_8_2, F_0_3, F_12_0, F_12_1, F_12_2, F_12_3, F_0_4, F_0_5, F_18_0, F_18_1, F_18_2, F_18_3, F_18_4, F_18_5, F_18_6, F_26_0, F_26_1, F_26_2, F_26_3, F_26_4, F_26_5, F_26_6, F_34_0, F_34_1, F_34_2, F_38_0, F_38_1, F_38_2, F_42_0, F_42_1, F_45_0, F_45_1, F_48_0, F_48_1, F_48_2, F_48_3, sh_setI', ln_setI', fr_setI', ai_setI', al_setI', aq_setI', nx_setI', sl_setI', sL_setI', sX_setI', cl_setI', sh_setR', ln_setR', fi_setR', ai_setR', al_setR', aq_setR', nx_setR', sl_setR', sL_setR', sX_setR', cl_setR', sh_setA', ln_setA', fi_setA', fr_setA', al_setA', aq_setA', nx_setA', sl_setA', sL_setA', sX_setA', cl_setA', sh_setL', ln_setL', fi_setL', fr_setL', ai_setL', aq_setL', nx_setL', sl_setL', sL_setL', sX_setL', cl_setL', sh_setQ', ln_setQ', fi_setQ', fr_setQ', ai_setQ', al_setQ', nx_setQ', sl_setQ', sL_setQ', sX_setQ', cl_setQ', ai_eq, ai_ne, al_eq, al_ne, aq_eq, aq_ne, fi_eq, fi_nk, fi_na, fr_eq, fr_nk, fr_na, up_eq, up_ne, f1, f2, f3, f4, hwi, vI_s, oI_s, h2, eq_true h3]
      · have e9 : bsR M pv n (fun x => W x ∨ x = b) = setI (bsR M pv n W) 7 2 (nI (cnt (2 ^ n) W + 1)) := by
          rw [bs_2]
          unfold bsR
          rw [cnt_add1 hb hW, fgr_af hW hf hc, hf]
        rw [e9]
        have h1 : ¬ valN pv 2 k n < valN pv 2 b n := fun z => hc (Or.inl ((nI_ltI (by omega) (by omega)).mpr z))
        by_cases h2 : valN pv 2 b n = valN pv 2 k n
        · have h3 : ¬ b < k := fun z => hc (Or.inr ⟨by rw [h2], z⟩)
          simp (disch := first | assumption | (simp (disch := first | assumption | omega) only [sh_setI', ln_setI', fr_setI', ai_setI', al_setI', aq_setI', nx_setI', sl_setI', sL_setI', sX_setI', cl_setI', sh_setR', ln_setR', fi_setR', ai_setR', al_setR', aq_setR', nx_setR', sl_setR', sL_setR', sX_setR', cl_setR', sh_setA', ln_setA', fi_setA', fr_setA', al_setA', aq_setA', nx_setA', sl_setA', sL_setA', sX_setA', cl_setA', sh_setL', ln_setL', fi_setL', fr_setL', ai_setL', aq_setL', nx_setL', sl_setL', sL_setL', sX_setL', cl_setL', sh_setQ', ln_setQ', fi_setQ', fr_setQ', ai_setQ', al_setQ', nx_setQ', sl_setQ', sL_setQ', sX_setQ', cl_setQ', ai_eq, ai_ne, al_eq, al_ne, aq_eq, aq_ne, fi_eq, fi_nk, fi_na, fr_eq, fr_nk, fr_na, up_eq, up_ne, SH_setI', SH_setA', SH_setL', List.length_cons, List.length_nil, C_0, C_1, C_2, C_3, C_4, C_5, C_6, C_7, C_8, C_9, C_10, C_11, C_12, C_13, C_14, C_15, C_16, C_17, C_18, C_19, C_20, C_21, C_22, C_23, C_24, C_25, C_26, C_27, C_28, C_29, C_30, C_31, C_32, C_33, C_34, C_35, C_36, C_37, C_38, C_39, C_40, C_41, C_42, C_43, C_44, C_45, C_46, C_47, C_48, C_49, C_50, C_51, C_52, N_2, N_4, N_5, N_6, N_9, N_10, N_11, N_13, N_14, N_15, N_16, N_17, N_19, N_20, N_21, N_22, N_23, N_24, N_25, N_27, N_28, N_29, N_30, N_31, N_32, N_33, N_35, N_36, N_37, N_39, N_40, N_41, N_43, N_44, N_46, N_47, N_49, N_50, N_51, N_52, F_1_0, F_0_0, F_3_0, F_3_1, F_3_2, F_0_1, F_0_2, F_8_0, F_8_1, F_8_2, F_0_3, F_12_0, F_12_1, F_12_2, F_12_3, F_0_4, F_0_5, F_18_0, F_18_1, F_18_2, F_18_3, F_18_4, F_18_5, F_18_6, F_26_0, F_26_1, F_26_2, F_26_3, F_26_4, F_26_5, F_26_6, F_34_0, F_34_1, F_34_2, F_38_0, F_38_1, F_38_2, F_42_0, F_42_1, F_45_0, F_45_1, F_48_0, F_48_1, F_48_2, F_48_3] <;> first | omega | assumption) | omega) only [Ev, ev_sqb, t_X1_weigh_k47, x_aload_n0, y_aload_n0, x_iload_n3, y_iload_n3, x_pf_1_3, y_pf_1_3, x_iload_n2, y_iload_n2, x_pf_1_4, y_pf_1_4, t_X1_weigh_k57, y_ret, t_X1_weigh, x_aload_n1, y_aload_n1, x_gf_1_1, y_gf_1_1, x_iv2, y_iv2, x_ifCond_ne, y_ifCond_ne, x_dup_i, y_dup_i, x_dup_r, y_dup_r, x_gf_1_2, y_gf_1_2, x_iconst_1, y_iconst_1, x_iadd, y_iadd, x_pf_1_2, y_pf_1_2, x_gf_1_3, y_gf_1_3, x_if_icmp_gt, y_if_icmp_gt, x_if_icmp_ne, y_if_icmp_ne, x_gf_1_4, y_gf_1_4, x_if_icmp_ge, y_if_icmp_ge, ev_bk, sq0, sq1, sq2, bk0, bk1, bk2, sq_if, bk_if, rt_if, cr_if, cr0, cr1, crE, rt1, rtE, va_rf_s, va_rf_n, nI_add, nI_ltI, nI_eq, nI_eq0, nI_lt0, nI_0lt, nI_n1, n1_nI, n1_lt, lt_n1, n1_0, n1_n1, n1_l0, if_true, if_false, ite_true, ite_false, bI_0, bI_1, not_true_eq_false, not_false_eq_true, Ew_i, Er_i, Lq_c, Lq_j, Lq_n, Nat.reduceAdd, Nat.zero_add, Nat.add_zero, Nat.lt_irrefl, Bool.false_eq_true, Nat.reduceEqDiff, Nat.reduceLT, Nat.reduceSub, Nat.reduceMul, Nat.one_ne_zero, C_0, C_1, C_2, C_3, C_4, C_5, C_6, C_7, C_8, C_9, C_10, C_11, C_12, C_13, C_14, C_15, C_16, C_17, C_18, C_19, C_20, C_21, C_22, C_23, C_24, C_25, C_26, C_27, C_28, C_29, C_30, C_31, C_32, C_33, C_34, C_35, C_36, C_37, C_38, C_39, C_40, C_41, C_42, C_43, C_44, C_45, C_46, C_47, C_48, C_49, C_50, C_51, C_52, N_2, N_4, N_5, N_6, N_9, N_10, N_11, N_13, N_14, N_15, N_16, N_17, N_19, N_20, N_21, N_22, N_23, N_24, N_25, N_27, N_28, N_29, N_30, N_31, N_32, N_33, N_35, N_36, N_37, N_39, N_40, N_41, N_43, N_44, N_46, N_47, N_49, N_50, N_51, N_52, F_1_0, F_0_0, F_3_0, F_3_1, F_3_2, F_0_1, F_0_2, F_8_0, F_8_1, F_8_2, F_0_3, F_12_0, F_12_1, F_12_2, F_12_3, F_0_4, F_0_5, F_18_0, F_18_1, F_18_2, F_18_3, F_18_4, F_18_5, F_18_6, F_26_0, F_26_1, F_26_2, F_26_3, F_26_4, F_26_5, F_26_6, F_34_0, F_34_1, F_34_2, F_38_0, F_38_1, F_38_2, F_42_0, F_42_1, F_45_0, F_45_1, F_48_0, F_48_1, F_48_2, F_48_3, sh_setI', ln_setI', fr_setI', ai_setI', al_setI', aq_setI', nx_setI', sl_setI', sL_setI', sX_setI', cl_setI', sh_setR', ln_setR', fi_setR', ai_setR', al_setR', aq_setR', nx_setR', sl_setR', sL_setR', sX_setR', cl_setR', sh_setA', ln_setA', fi_setA', fr_setA', al_setA', aq_setA', nx_setA', sl_setA', sL_setA', sX_setA', cl_setA', sh_setL', ln_setL', fi_setL', fr_setL', ai_setL', aq_setL', nx_setL', sl_setL', sL_setL', sX_setL', cl_setL', sh_setQ', ln_setQ', fi_setQ', fr_setQ', ai_setQ', al_setQ', nx_setQ', sl_setQ', sL_setQ', sX_setQ', cl_setQ', ai_eq, ai_ne, al_eq, al_ne, aq_eq, aq_ne, fi_eq, fi_nk, fi_na, fr_eq, fr_nk, fr_na, up_eq, up_ne, f1, f2, f3, f4, hwi, vI_s, oI_s, h1, eq_true h2, h3]
        · simp (disch := first | assumption | (simp (disch := first | assumption | omega) only [sh_setI', ln_setI', fr_setI', ai_setI', al_setI', aq_setI', nx_setI', sl_setI', sL_setI', sX_setI', cl_setI', sh_setR', ln_setR', fi_setR', ai_setR', al_setR', aq_setR', nx_setR', sl_setR', sL_setR', sX_setR', cl_setR', sh_setA', ln_setA', fi_setA', fr_setA', al_setA', aq_setA', nx_setA', sl_setA', sL_setA', sX_setA', cl_setA', sh_setL', ln_setL', fi_setL', fr_setL', ai_setL', aq_setL', nx_setL', sl_setL', sL_setL', sX_setL', cl_setL', sh_setQ', ln_setQ', fi_setQ', fr_setQ', ai_setQ', al_setQ', nx_setQ', sl_setQ', sL_setQ', sX_setQ', cl_setQ', ai_eq, ai_ne, al_eq, al_ne, aq_eq, aq_ne, fi_eq, fi_nk, fi_na, fr_eq, fr_nk, fr_na, up_eq, up_ne, SH_setI', SH_setA', SH_setL', List.length_cons, List.length_nil, C_0, C_1, C_2, C_3, C_4, C_5, C_6, C_7, C_8, C_9, C_10, C_11, C_12, C_13, C_14, C_15, C_16, C_17, C_18, C_19, C_20, C_21, C_22, C_23, C_24, C_25, C_26, C_27, C_28, C_29, C_30, C_31, C_32, C_33, C_34, C_35, C_36, C_37, C_38, C_39, C_40, C_41, C_42, C_43, C_44, C_45, C_46, C_47, C_48, C_49, C_50, C_51, C_52, N_2, N_4, N_5, N_6, N_9, N_10, N_11, N_13, N_14, N_15, N_16, N_17, N_19, N_20, N_21, N_22, N_23, N_24, N_25, N_27, N_28, N_29, N_30, N_31, N_32, N_33, N_35, N_36, N_37, N_39, N_40, N_41, N_43, N_44, N_46, N_47, N_49, N_50, N_51, N_52, F_1_0, F_0_0, F_3_0, F_3_1, F_3_2, F_0_1, F_0_2, F_8_0, F_8_1, F_8_2, F_0_3, F_12_0, F_12_1, F_12_2, F_12_3, F_0_4, F_0_5, F_18_0, F_18_1, F_18_2, F_18_3, F_18_4, F_18_5, F_18_6, F_26_0, F_26_1, F_26_2, F_26_3, F_26_4, F_26_5, F_26_6, F_34_0, F_34_1, F_34_2, F_38_0, F_38_1, F_38_2, F_42_0, F_42_1, F_45_0, F_45_1, F_48_0, F_48_1, F_48_2, F_48_3] <;> first | omega | assumption) | omega) only [Ev, ev_sqb, t_X1_weigh_k47, x_aload_n0, y_aload_n0, x_iload_n3, y_iload_n3, x_pf_1_3, y_pf_1_3, x_iload_n2, y_iload_n2, x_pf_1_4, y_pf_1_4, t_X1_weigh_k57, y_ret, t_X1_weigh, x_aload_n1, y_aload_n1, x_gf_1_1, y_gf_1_1, x_iv2, y_iv2, x_ifCond_ne, y_ifCond_ne, x_dup_i, y_dup_i, x_dup_r, y_dup_r, x_gf_1_2, y_gf_1_2, x_iconst_1, y_iconst_1, x_iadd, y_iadd, x_pf_1_2, y_pf_1_2, x_gf_1_3, y_gf_1_3, x_if_icmp_gt, y_if_icmp_gt, x_if_icmp_ne, y_if_icmp_ne, x_gf_1_4, y_gf_1_4, x_if_icmp_ge, y_if_icmp_ge, ev_bk, sq0, sq1, sq2, bk0, bk1, bk2, sq_if, bk_if, rt_if, cr_if, cr0, cr1, crE, rt1, rtE, va_rf_s, va_rf_n, nI_add, nI_ltI, nI_eq, nI_eq0, nI_lt0, nI_0lt, nI_n1, n1_nI, n1_lt, lt_n1, n1_0, n1_n1, n1_l0, if_true, if_false, ite_true, ite_false, bI_0, bI_1, not_true_eq_false, not_false_eq_true, Ew_i, Er_i, Lq_c, Lq_j, Lq_n, Nat.reduceAdd, Nat.zero_add, Nat.add_zero, Nat.lt_irrefl, Bool.false_eq_true, Nat.reduceEqDiff, Nat.reduceLT, Nat.reduceSub, Nat.reduceMul, Nat.one_ne_zero, C_0, C_1, C_2, C_3, C_4, C_5, C_6, C_7, C_8, C_9, C_10, C_11, C_12, C_13, C_14, C_15, C_16, C_17, C_18, C_19, C_20, C_21, C_22, C_23, C_24, C_25, C_26, C_27, C_28, C_29, C_30, C_31, C_32, C_33, C_34, C_35, C_36, C_37, C_38, C_39, C_40, C_41, C_42, C_43, C_44, C_45, C_46, C_47, C_48, C_49, C_50, C_51, C_52, N_2, N_4, N_5, N_6, N_9, N_10, N_11, N_13, N_14, N_15, N_16, N_17, N_19, N_20, N_21, N_22, N_23, N_24, N_25, N_27, N_28, N_29, N_30, N_31, N_32, N_33, N_35, N_36, N_37, N_39, N_40, N_41, N_43, N_44, N_46, N_47, N_49, N_50, N_51, N_52, F_1_0, F_0_0, F_3_0, F_3_1, F_3_2, F_0_1, F_0_2, F_8_0, F_8_1, F_8_2, F_0_3, F_12_0, F_12_1, F_12_2, F_12_3, F_0_4, F_0_5, F_18_0, F_18_1, F_18_2, F_18_3, F_18_4, F_18_5, F_18_6, F_26_0, F_26_1, F_26_2, F_26_3, F_26_4, F_26_5, F_26_6, F_34_0, F_34_1, F_34_2, F_38_0, F_38_1, F_38_2, F_42_0, F_42_1, F_45_0, F_45_1, F_48_0, F_48_1, F_48_2, F_48_3, sh_setI', ln_setI', fr_setI', ai_setI', al_setI', aq_setI', nx_setI', sl_setI', sL_setI', sX_setI', cl_setI', sh_setR', ln_setR', fi_setR', ai_setR', al_setR', aq_setR', nx_setR', sl_setR', sL_setR', sX_setR', cl_setR', sh_setA', ln_setA', fi_setA', fr_setA', al_setA', aq_setA', nx_setA', sl_setA', sL_setA', sX_setA', cl_setA', sh_setL', ln_setL', fi_setL', fr_setL', ai_setL', aq_setL', nx_setL', sl_setL', sL_setL', sX_setL', cl_setL', sh_setQ', ln_setQ', fi_setQ', fr_setQ', ai_setQ', al_setQ', nx_setQ', sl_setQ', sL_setQ', sX_setQ', cl_setQ', ai_eq, ai_ne, al_eq, al_ne, aq_eq, aq_ne, fi_eq, fi_nk, fi_na, fr_eq, fr_nk, fr_na, up_eq, up_ne, f1, f2, f3, f4, hwi, vI_s, oI_s, h1, h2]
  · intro hg
    rw [bI_f hg] at hwi
    simp (disch := first | assumption | (simp (disch := first | assumption | omega) only [sh_setI', ln_setI', fr_setI', ai_setI', al_setI', aq_setI', nx_setI', sl_setI', sL_setI', sX_setI', cl_setI', sh_setR', ln_setR', fi_setR', ai_setR', al_setR', aq_setR', nx_setR', sl_setR', sL_setR', sX_setR', cl_setR', sh_setA', ln_setA', fi_setA', fr_setA', al_setA', aq_setA', nx_setA', sl_setA', sL_setA', sX_setA', cl_setA', sh_setL', ln_setL', fi_setL', fr_setL', ai_setL', aq_setL', nx_setL', sl_setL', sL_setL', sX_setL', cl_setL', sh_setQ', ln_setQ', fi_setQ', fr_setQ', ai_setQ', al_setQ', nx_setQ', sl_setQ', sL_setQ', sX_setQ', cl_setQ', ai_eq, ai_ne, al_eq, al_ne, aq_eq, aq_ne, fi_eq, fi_nk, fi_na, fr_eq, fr_nk, fr_na, up_eq, up_ne, SH_setI', SH_setA', SH_setL', List.length_cons, List.length_nil, C_0, C_1, C_2, C_3, C_4, C_5, C_6, C_7, C_8, C_9, C_10, C_11, C_12, C_13, C_14, C_15, C_16, C_17, C_18, C_19, C_20, C_21, C_22, C_23, C_24, C_25, C_26, C_27, C_28, C_29, C_30, C_31, C_32, C_33, C_34, C_35, C_36, C_37, C_38, C_39, C_40, C_41, C_42, C_43, C_44, C_45, C_46, C_47, C_48, C_49, C_50, C_51, C_52, N_2, N_4, N_5, N_6, N_9, N_10, N_11, N_13, N_14, N_15, N_16, N_17, N_19, N_20, N_21, N_22, N_23, N_24, N_25, N_27, N_28, N_29, N_30, N_31, N_32, N_33, N_35, N_36, N_37, N_39, N_40, N_41, N_43, N_44, N_46, N_47, N_49, N_50, N_51, N_52, F_1_0, F_0_0, F_3_0, F_3_1, F_3_2, F_0_1, F_0_2, F_8_0, F_8_1, F_8_2, F_0_3, F_12_0, F_12_1, F_12_2, F_12_3, F_0_4, F_0_5, F_18_0, F_18_1, F_18_2, F_18_3, F_18_4, F_18_5, F_18_6, F_26_0, F_26_1, F_26_2, F_26_3, F_26_4, F_26_5, F_26_6, F_34_0, F_34_1, F_34_2, F_38_0, F_38_1, F_38_2, F_42_0, F_42_1, F_45_0, F_45_1, F_48_0, F_48_1, F_48_2, F_48_3] <;> first | omega | assumption) | omega) only [Ev, ev_sqb, t_X1_weigh_k47, x_aload_n0, y_aload_n0, x_iload_n3, y_iload_n3, x_pf_1_3, y_pf_1_3, x_iload_n2, y_iload_n2, x_pf_1_4, y_pf_1_4, t_X1_weigh_k57, y_ret, t_X1_weigh, x_aload_n1, y_aload_n1, x_gf_1_1, y_gf_1_1, x_iv2, y_iv2, x_ifCond_ne, y_ifCond_ne, x_dup_i, y_dup_i, x_dup_r, y_dup_r, x_gf_1_2, y_gf_1_2, x_iconst_1, y_iconst_1, x_iadd, y_iadd, x_pf_1_2, y_pf_1_2, x_gf_1_3, y_gf_1_3, x_if_icmp_gt, y_if_icmp_gt, x_if_icmp_ne, y_if_icmp_ne, x_gf_1_4, y_gf_1_4, x_if_icmp_ge, y_if_icmp_ge, ev_bk, sq0, sq1, sq2, bk0, bk1, bk2, sq_if, bk_if, rt_if, cr_if, cr0, cr1, crE, rt1, rtE, va_rf_s, va_rf_n, nI_add, nI_ltI, nI_eq, nI_eq0, nI_lt0, nI_0lt, nI_n1, n1_nI, n1_lt, lt_n1, n1_0, n1_n1, n1_l0, if_true, if_false, ite_true, ite_false, bI_0, bI_1, not_true_eq_false, not_false_eq_true, Ew_i, Er_i, Lq_c, Lq_j, Lq_n, Nat.reduceAdd, Nat.zero_add, Nat.add_zero, Nat.lt_irrefl, Bool.false_eq_true, Nat.reduceEqDiff, Nat.reduceLT, Nat.reduceSub, Nat.reduceMul, Nat.one_ne_zero, C_0, C_1, C_2, C_3, C_4, C_5, C_6, C_7, C_8, C_9, C_10, C_11, C_12, C_13, C_14, C_15, C_16, C_17, C_18, C_19, C_20, C_21, C_22, C_23, C_24, C_25, C_26, C_27, C_28, C_29, C_30, C_31, C_32, C_33, C_34, C_35, C_36, C_37, C_38, C_39, C_40, C_41, C_42, C_43, C_44, C_45, C_46, C_47, C_48, C_49, C_50, C_51, C_52, N_2, N_4, N_5, N_6, N_9, N_10, N_11, N_13, N_14, N_15, N_16, N_17, N_19, N_20, N_21, N_22, N_23, N_24, N_25, N_27, N_28, N_29, N_30, N_31, N_32, N_33, N_35, N_36, N_37, N_39, N_40, N_41, N_43, N_44, N_46, N_47, N_49, N_50, N_51, N_52, F_1_0, F_0_0, F_3_0, F_3_1, F_3_2, F_0_1, F_0_2, F_8_0, F_8_1, F_8_2, F_0_3, F_12_0, F_12_1, F_12_2, F_12_3, F_0_4, F_0_5, F_18_0, F_18_1, F_18_2, F_18_3, F_18_4, F_18_5, F_18_6, F_26_0, F_26_1, F_26_2, F_26_3, F_26_4, F_26_5, F_26_6, F_34_0, F_34_1, F_34_2, F_38_0, F_38_1, F_38_2, F_42_0, F_42_1, F_45_0, F_45_1, F_48_0, F_48_1, F_48_2, F_48_3, sh_setI', ln_setI', fr_setI', ai_setI', al_setI', aq_setI', nx_setI', sl_setI', sL_setI', sX_setI', cl_setI', sh_setR', ln_setR', fi_setR', ai_setR', al_setR', aq_setR', nx_setR', sl_setR', sL_setR', sX_setR', cl_setR', sh_setA', ln_setA', fi_setA', fr_setA', al_setA', aq_setA', nx_setA', sl_setA', sL_setA', sX_setA', cl_setA', sh_setL', ln_setL', fi_setL', fr_setL', ai_setL', aq_setL', nx_setL', sl_setL', sL_setL', sX_setL', cl_setL', sh_setQ', ln_setQ', fi_setQ', fr_setQ', ai_setQ', al_setQ', nx_setQ', sl_setQ', sL_setQ', sX_setQ', cl_setQ', ai_eq, ai_ne, al_eq, al_ne, aq_eq, aq_ne, fi_eq, fi_nk, fi_na, fr_eq, fr_nk, fr_na, up_eq, up_ne, f1, hwi]
