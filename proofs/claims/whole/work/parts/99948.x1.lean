/-! ===== the text of work: its grammar ===== -/
abbrev WK : Type := Nat × (Nat → Nat × Nat × Nat)
def upW (f : Nat → Nat × Nat × Nat) (k : Nat) (t : Nat × Nat × Nat) : Nat → Nat × Nat × Nat := fun i => if i = k then t else f i
theorem upW_eq (f : Nat → Nat × Nat × Nat) (k : Nat) (t : Nat × Nat × Nat) : upW f k t k = t := if_pos rfl
theorem upW_ne {f : Nat → Nat × Nat × Nat} {k i : Nat} {t : Nat × Nat × Nat} (h : ¬ i = k) : upW f k t i = f i := if_neg h
def wkU (w : WK) (t : Nat × Nat × Nat) : WK := (w.1 + 1, upW w.2 w.1 t)
def wkA (w : WK) (p v : Nat) : WK := (w.1, upW w.2 p (6, v, w.1))
def w_s0 : List Nat := [12, 15, 15, 11]
def w_s1 : List Nat := [19, 20, 1, 18]
def w_s2 : List Nat := [20, 8, 18, 15, 23]
def w_s3 : List Nat := [19, 1, 22, 5]
def w_s4 : List Nat := [18, 5, 19, 20]
def w_s5 : List Nat := [5, 22, 5, 14, 9, 14, 7]
def w_s6 : List Nat := [1, 7, 1, 9, 14]
def skW : List (List Nat × Nat) := [(w_s0, 0), (w_s1, 1), (w_s2, 2), (w_s3, 3), (w_s4, 4), (w_s5, 5), (w_s6, 6)]
noncomputable def skH (tx : Nat → Nat) (len b : Nat) : Option Nat := fstW tx len b skW
noncomputable def pNp (tx : Nat → Nat) (len n a : Nat) : PR Nat := if n = 0 then pNum tx len 1 0 a else pNum tx len 0 (n - 1) a
abbrev atL (tx : Nat → Nat) (len b : Nat) : Prop := b < len ∧ 97 ≤ tx b ∧ tx b ≤ 122
/-- kinds: 0 steps, as many as stand there; else one step, without its sign -/
noncomputable def wkP (tx : Nat → Nat) (len n : Nat) : Nat → Nat → Nat → WK → Nat → PR WK
  | 0, _, _, _, _ => .inl (9, 9)
  | f + 1, 0, o, w, a => if atL tx len (sp (blP tx) len a) then bnd (wkP tx len n f 1 o w a) (fun w e => bnd (pSgn tx len 59 e) (fun _ e => wkP tx len n f 0 o w e)) else .inr (w, sp (blP tx) len a)
  | f + 1, _ + 1, o, w, a => match skH tx len (sp (blP tx) len a) with
    | none => .inl (1, sp (blP tx) len a)
    | some k => if k = 6 then (if o = 6 then .inl (3, sp (blP tx) len a) else bnd (pNum tx len 0 20 (sp (ltP tx) len (sp (blP tx) len a))) (fun v e => bnd (pSgn tx len 91 e) (fun _ e => bnd (wkP tx len n f 0 (o + 1) (wkU w (6, v, 0)) e) (fun w2 e => bnd (pSgn tx len 93 e) (fun _ e => .inr (wkA w2 w.1 (w2.2 w.1).2.1, e))))))
      else if k < 4 then bnd (pNp tx len n (sp (ltP tx) len (sp (blP tx) len a))) (fun v e => .inr (wkU w (k, v, w.1 + 1), e))
      else .inr (wkU w (k, 0, w.1 + 1), sp (ltP tx) len (sp (blP tx) len a))
/-- the text, whole -/
noncomputable def pWk (tx : Nat → Nat) (len n : Nat) : PR WK := bnd (wkP tx len n 604 0 0 (0, fun _ => (0, 0, 0)) (sp (blP tx) len 0)) (fun w e => if sp (blP tx) len e < len then .inl (1, sp (blP tx) len e) else .inr (w, sp (blP tx) len e))
theorem skH_gt {tx : Nat → Nat} {len b k : Nat} (h : skH tx len b = some k) : b + 4 ≤ sp (ltP tx) len b ∧ k < 7 := by
  unfold skH skW at h
  have key : ∀ w, 4 ≤ w.length → isW tx len b w → b + 4 ≤ sp (ltP tx) len b := fun w hw g => by rw [g.1]; omega
  by_cases g0 : isW tx len b w_s0
  · rw [fstW_t g0] at h; cases h; exact ⟨key _ (by decide) g0, by decide⟩
  · rw [fstW_f g0] at h
    by_cases g1 : isW tx len b w_s1
    · rw [fstW_t g1] at h; cases h; exact ⟨key _ (by decide) g1, by decide⟩
    · rw [fstW_f g1] at h
      by_cases g2 : isW tx len b w_s2
      · rw [fstW_t g2] at h; cases h; exact ⟨key _ (by decide) g2, by decide⟩
      · rw [fstW_f g2] at h
        by_cases g3 : isW tx len b w_s3
        · rw [fstW_t g3] at h; cases h; exact ⟨key _ (by decide) g3, by decide⟩
        · rw [fstW_f g3] at h
          by_cases g4 : isW tx len b w_s4
          · rw [fstW_t g4] at h; cases h; exact ⟨key _ (by decide) g4, by decide⟩
          · rw [fstW_f g4] at h
            by_cases g5 : isW tx len b w_s5
            · rw [fstW_t g5] at h; cases h; exact ⟨key _ (by decide) g5, by decide⟩
            · rw [fstW_f g5] at h
              by_cases g6 : isW tx len b w_s6
              · rw [fstW_t g6] at h; cases h; exact ⟨key _ (by decide) g6, by decide⟩
              · rw [fstW_f g6] at h; cases h
theorem pNp_le {tx : Nat → Nat} {len n a v e : Nat} (h : pNp tx len n a = .inr (v, e)) (ha : a ≤ len) : a < e ∧ e ≤ len ∧ v < n := by
  unfold pNp at h
  by_cases hn : n = 0
  · rw [if_pos hn] at h
    obtain ⟨h1, h2, h3, h4⟩ := pNum_le h ha
    omega
  · rw [if_neg hn] at h
    obtain ⟨h1, h2, h3, h4⟩ := pNum_le h ha
    exact ⟨h1, h2, by omega⟩
/-- one entry that is sound -/
def OKe (n S i : Nat) (t : Nat × Nat × Nat) : Prop := t.1 < 7 ∧ (t.1 < 4 → t.2.1 < n) ∧ (t.1 = 6 → t.2.1 < 21) ∧ i < t.2.2 ∧ t.2.2 ≤ S ∧ (¬ t.1 = 6 → t.2.2 = i + 1)
theorem wk_wf {tx : Nat → Nat} {len n : Nat} : ∀ (f md o : Nat) (w : WK) (a : Nat), a ≤ len → ∀ w' e, wkP tx len n f md o w a = .inr (w', e) → e ≤ len ∧ w.1 ≤ w'.1 ∧ a + 4 * w'.1 ≤ e + 4 * w.1 ∧ (0 < md → w.1 < w'.1) ∧ (∀ i, i < w.1 → w'.2 i = w.2 i) ∧ ∀ i, w.1 ≤ i → i < w'.1 → OKe n w'.1 i (w'.2 i) := by
  intro f
  induction f with
  | zero => intro md o w a ha w' e h; cases h
  | succ f ih =>
    intro md o w a ha w' e h
    have hab : a ≤ sp (blP tx) len a := sp_ge a
    have hbl : sp (blP tx) len a ≤ len := sp_le ha
    match md, h with
    | 0, h =>
      unfold wkP at h
      by_cases hL : atL tx len (sp (blP tx) len a)
      · rw [if_pos hL] at h
        obtain ⟨w1, e1, h1, h⟩ := bnd_i h
        obtain ⟨u, e2, h2, h⟩ := bnd_i h
        obtain ⟨a1, a2, a3, a4, a5, a6⟩ := ih 1 o w a ha w1 e1 h1
        obtain ⟨p1, p2⟩ := pSgn_le h2
        obtain ⟨b1, b2, b3, b4, b5, b6⟩ := ih 0 o w1 e2 p2 w' e h
        refine ⟨b1, by omega, by omega, fun z => by omega, fun i hi => (b5 i (by omega)).trans (a5 i hi), fun i h3 h4 => ?_⟩
        by_cases hi : i < w1.1
        · rw [b5 i hi]
          obtain ⟨c1, c2, c3, c4, c5, c6⟩ := a6 i h3 hi
          exact ⟨c1, c2, c3, c4, by omega, c6⟩
        · exact b6 i (by omega) h4
      · rw [if_neg hL] at h
        cases h
        exact ⟨hbl, Nat.le_refl _, by omega, fun z => by omega, fun _ _ => rfl, fun i h1 h2 => by omega⟩
    | m + 1, h =>
      unfold wkP at h
      cases hk : skH tx len (sp (blP tx) len a) with
      | none => simp only [hk] at h; cases h
      | some k =>
        simp only [hk] at h
        obtain ⟨hg, hk7⟩ := skH_gt hk
        have hlt : sp (ltP tx) len (sp (blP tx) len a) ≤ len := sp_le hbl
        have one : ∀ v e1, sp (ltP tx) len (sp (blP tx) len a) ≤ e1 → e1 ≤ len → ¬ k = 6 → (k < 4 → v < n) → (wkU w (k, v, w.1 + 1), e1) = (w', e) → e ≤ len ∧ w.1 ≤ w'.1 ∧ a + 4 * w'.1 ≤ e + 4 * w.1 ∧ (0 < m + 1 → w.1 < w'.1) ∧ (∀ i, i < w.1 → w'.2 i = w.2 i) ∧ ∀ i, w.1 ≤ i → i < w'.1 → OKe n w'.1 i (w'.2 i) := fun v e1 h1 h2 h3 h4 h5 => by
          cases h5
          refine ⟨h2, Nat.le_succ _, by show a + 4 * (w.1 + 1) ≤ _ + 4 * w.1; omega, fun _ => Nat.lt_succ_self _, fun i hi => upW_ne (by omega), fun i h6 h7 => ?_⟩
          have h7 : i < w.1 + 1 := h7
          have hi : i = w.1 := by omega
          rw [hi]
          show OKe n (w.1 + 1) w.1 (upW w.2 w.1 (k, v, w.1 + 1) w.1)
          rw [upW_eq]
          exact ⟨hk7, h4, fun z => absurd z h3, Nat.lt_succ_self _, Nat.le_refl _, fun _ => rfl⟩
        by_cases h6 : k = 6
        · rw [if_pos h6] at h
          by_cases ho : o = 6
          · rw [if_pos ho] at h; cases h
          · rw [if_neg ho] at h
            obtain ⟨v, e1, h1, h⟩ := bnd_i h
            obtain ⟨u2, e2, h2, h⟩ := bnd_i h
            obtain ⟨w3, e3, h3, h⟩ := bnd_i h
            obtain ⟨u4, e4, h4, h⟩ := bnd_i h
            cases h
            obtain ⟨p1, p2, p3, p4⟩ := pNum_le h1 hlt
            obtain ⟨q1, q2⟩ := pSgn_le h2
            obtain ⟨b1, b2, b3, b4, b5, b6⟩ := ih 0 (o + 1) _ e2 q2 w3 e3 h3
            obtain ⟨r1, r2⟩ := pSgn_le h4
            have b2 : w.1 + 1 ≤ w3.1 := b2
            have bv : w3.2 w.1 = (6, v, 0) := (b5 w.1 (by show w.1 < w.1 + 1; omega)).trans (upW_eq _ _ _)
            have bv2 : (w3.2 w.1).2.1 = v := by rw [bv]
            have b3 : e2 + 4 * w3.1 ≤ e3 + 4 * (w.1 + 1) := b3
            refine ⟨r2, by show w.1 ≤ w3.1; omega, by show a + 4 * w3.1 ≤ _ + 4 * w.1; omega, fun _ => by show w.1 < w3.1; omega, fun i hi => ?_, fun i h7 h8 => ?_⟩
            · show upW w3.2 w.1 (6, (w3.2 w.1).2.1, w3.1) i = w.2 i
              rw [upW_ne (by omega), b5 i (by show i < w.1 + 1; omega)]
              exact upW_ne (by omega)
            · show OKe n w3.1 i (upW w3.2 w.1 (6, (w3.2 w.1).2.1, w3.1) i)
              rw [bv2]
              have h8 : i < w3.1 := h8
              by_cases hi : i = w.1
              · rw [hi, upW_eq]
                exact ⟨by show (6 : Nat) < 7; decide, fun z => absurd z (by show ¬ (6 : Nat) < 4; decide), fun _ => by show v < 21; omega, by show w.1 < w3.1; omega, Nat.le_refl _, fun z => absurd rfl z⟩
              · rw [upW_ne hi]
                exact b6 i (by show w.1 + 1 ≤ i; omega) h8
        · rw [if_neg h6] at h
          by_cases h4 : k < 4
          · rw [if_pos h4] at h
            obtain ⟨v, e1, h1, h⟩ := bnd_i h
            obtain ⟨p1, p2, p3⟩ := pNp_le h1 hlt
            exact one v e1 (by omega) p2 h6 (fun _ => p3) (Sum.inr.inj h)
          · rw [if_neg h4] at h
            exact one 0 _ (Nat.le_refl _) hlt h6 (fun z => absurd z h4) (Sum.inr.inj h)
theorem wk_ok {tx : Nat → Nat} {len n : Nat} : ∀ (f md o : Nat) (w : WK) (a : Nat), a ≤ len → 2 * (len - a) + (if md = 0 then 2 else 1) ≤ f → okx (wkP tx len n f md o w a) := by
  intro f
  induction f with
  | zero =>
    intro md o w a ha hf
    split at hf <;> omega
  | succ f ih =>
    intro md o w a ha hf
    have hab : a ≤ sp (blP tx) len a := sp_ge a
    have hbl : sp (blP tx) len a ≤ len := sp_le ha
    have oS : ∀ c e, okx (pSgn tx len c e) := fun c e k p h => by
      unfold pSgn at h
      split at h
      · cases h
      · cases h; omega
    have oN : ∀ lo hi e, okx (pNum tx len lo hi e) := fun lo hi e k p h => by
      unfold pNum at h
      split at h
      · split at h
        · cases h
        · cases h; omega
      · cases h; omega
    match md, hf with
    | 0, hf =>
      have hf : 2 * (len - a) + 2 ≤ f + 1 := hf
      unfold wkP
      by_cases hL : atL tx len (sp (blP tx) len a)
      · rw [if_pos hL]
        refine okx_i (ih 1 o w a ha (by show 2 * (len - a) + 1 ≤ f; omega)) (fun w1 e1 h1 => okx_i (oS _ _) (fun u e2 h2 => ?_))
        obtain ⟨a1, a2, a3, a4, -, -⟩ := wk_wf f 1 o w a ha w1 e1 h1
        obtain ⟨p1, p2⟩ := pSgn_le h2
        have := a4 (by decide)
        exact ih 0 o w1 e2 p2 (by show 2 * (len - e2) + 2 ≤ f; omega)
      · rw [if_neg hL]; exact okx_r _
    | m + 1, hf =>
      have hf : 2 * (len - a) + 1 ≤ f + 1 := hf
      unfold wkP
      cases hk : skH tx len (sp (blP tx) len a) with
      | none => exact okx_k (by omega)
      | some k =>
        obtain ⟨hg, hk7⟩ := skH_gt hk
        have hlt : sp (ltP tx) len (sp (blP tx) len a) ≤ len := sp_le hbl
        show okx (if k = 6 then _ else if k < 4 then _ else _)
        by_cases h6 : k = 6
        · rw [if_pos h6]
          by_cases ho : o = 6
          · rw [if_pos ho]; exact okx_k (by omega)
          · rw [if_neg ho]
            refine okx_i (oN _ _ _) (fun v e1 h1 => okx_i (oS _ _) (fun u e2 h2 => ?_))
            obtain ⟨p1, p2, -, -⟩ := pNum_le h1 hlt
            obtain ⟨q1, q2⟩ := pSgn_le h2
            exact okx_i (ih 0 (o + 1) _ e2 q2 (by show 2 * (len - e2) + 2 ≤ f; omega)) (fun w3 e3 h3 => okx_i (oS _ _) (fun u e4 h4 => okx_r _))
        · rw [if_neg h6]
          by_cases h4 : k < 4
          · rw [if_pos h4]
            refine okx_i ?_ (fun v e h => okx_r _)
            unfold pNp
            split
            · exact oN _ _ _
            · exact oN _ _ _
          · rw [if_neg h4]; exact okx_r _
theorem wkP_sp {tx : Nat → Nat} {len n : Nat} : ∀ (f md o : Nat) (w : WK) (a : Nat), wkP tx len n f md o w (sp (blP tx) len a) = wkP tx len n f md o w a := by
  intro f
  induction f with
  | zero => intro md o w a; rfl
  | succ f ih =>
    intro md o w a
    have hspp : sp (blP tx) len (sp (blP tx) len a) = sp (blP tx) len a := sp_fix sp_end
    match md with
    | 0 => unfold wkP; rw [hspp, ih]
    | m + 1 => unfold wkP; rw [hspp]
