/-! ===== the law's grammar: what it reads can be worked through ===== -/
def TOK (l : TK) (h : Nat) : Prop := (∀ k, k < l.1 → (l.2 k).1 < 8 ∧ (l.2 k).2 < 1000 ∧ ((l.2 k).1 = 1 → (l.2 k).2 < 8) ∧ (2 ≤ (l.2 k).1 → 2 ≤ hgt l.2 k)) ∧ hgt l.2 l.1 = h
theorem hgt_cg {tk tk' : Nat → Nat × Nat} : ∀ m, (∀ k, k < m → tk' k = tk k) → hgt tk' m = hgt tk m
  | 0, _ => rfl
  | m + 1, h => by
    show (if (tk' m).1 < 2 then hgt tk' m + 1 else hgt tk' m - 1) = if (tk m).1 < 2 then hgt tk m + 1 else hgt tk m - 1
    rw [h m (by omega), hgt_cg m (fun k hk => h k (by omega))]
theorem TOK.u {l : TK} {h : Nat} {t : Nat × Nat} (H : TOK l h) (h1 : t.1 < 8) (h2 : t.2 < 1000) (h3 : t.1 = 1 → t.2 < 8) (h4 : 2 ≤ t.1 → 2 ≤ h) : TOK (tkU l t) (if t.1 < 2 then h + 1 else h - 1) := by
  obtain ⟨H1, H2⟩ := H
  have hc : ∀ k, k ≤ l.1 → hgt (upA l.2 l.1 t) k = hgt l.2 k := fun k hk => hgt_cg k (fun j hj => upA_ne (by omega))
  refine ⟨fun k hk => ?_, ?_⟩
  · have hk : k < l.1 + 1 := hk
    show (upA l.2 l.1 t k).1 < 8 ∧ (upA l.2 l.1 t k).2 < 1000 ∧ ((upA l.2 l.1 t k).1 = 1 → (upA l.2 l.1 t k).2 < 8) ∧ (2 ≤ (upA l.2 l.1 t k).1 → 2 ≤ hgt (upA l.2 l.1 t) k)
    rw [hc k (by omega)]
    by_cases e : k = l.1
    · subst e
      rw [upA_eq, H2]
      exact ⟨h1, h2, h3, h4⟩
    · rw [upA_ne e]
      exact H1 k (by omega)
  · show (if (upA l.2 l.1 t l.1).1 < 2 then hgt (upA l.2 l.1 t) l.1 + 1 else hgt (upA l.2 l.1 t) l.1 - 1) = _
    rw [upA_eq, hc l.1 (Nat.le_refl _), H2]
theorem TOK.o {l : TK} {h w : Nat} (H : TOK l (h + 1)) (hw : 2 ≤ w) (hw8 : w < 8) (hh : 1 ≤ h) : TOK (tkU l (w, 0)) h := by
  have := H.u (t := (w, 0)) hw8 (by show 0 < 1000; omega) (fun z => by show 0 < 8; omega) (fun _ => by omega)
  rw [if_neg (by show ¬ w < 2; omega)] at this
  exact this
theorem lw_tok {tx : Nat → Nat} {len : Nat} : ∀ (f kind o : Nat) (l : TK) (a h : Nat), a ≤ len → TOK l h → ∀ l' e, lwP tx len f kind o l a = .inr (l', e) → (kind < 3 → TOK l' (h + 1)) ∧ (3 ≤ kind → 1 ≤ h → TOK l' h) := by
  intro f
  induction f with
  | zero => intro kind o l a hh ha H l' e h; cases h
  | succ f ih =>
    intro kind o l a hh ha H l' e h
    have hbl : sp (blP tx) len a ≤ len := sp_le ha
    match kind, h with
    | 0, h =>
      obtain ⟨l1, e1, h1, h2⟩ := bnd_i h
      have g1 := (ih 1 o l a hh ha H l1 e1 h1).1 (by omega)
      have g2 := (ih 3 o l1 e1 (hh + 1) (lw_eat f 1 o l a ha l1 e1 h1).1 g1 l' e h2).2 (by omega) (by omega)
      exact ⟨fun _ => g2, fun z => by omega⟩
    | 1, h =>
      obtain ⟨l1, e1, h1, h2⟩ := bnd_i h
      have g1 := (ih 2 o l a hh ha H l1 e1 h1).1 (by omega)
      have g2 := (ih 4 o l1 e1 (hh + 1) (lw_eat f 2 o l a ha l1 e1 h1).1 g1 l' e h2).2 (by omega) (by omega)
      exact ⟨fun _ => g2, fun z => by omega⟩
    | 2, h =>
      refine ⟨fun _ => ?_, fun z => by omega⟩
      unfold lwP at h
      cases hm : lmW tx len (sp (blP tx) len a) with
      | some how =>
        simp only [hm] at h
        obtain ⟨hg, hw⟩ := lmW_gt hm
        by_cases h6 : o = 6
        · rw [if_pos h6] at h; cases h
        · rw [if_neg h6] at h
          obtain ⟨u1, e1, h1, h⟩ := bnd_i h
          obtain ⟨l2, e2, h2, h⟩ := bnd_i h
          obtain ⟨u3, e3, h3, h⟩ := bnd_i h
          obtain ⟨l4, e4, h4, h⟩ := bnd_i h
          obtain ⟨u5, e5, h5, h⟩ := bnd_i h
          have g1 := (ih 0 (o + 1) l e1 hh (pSgn_le h1).2 H l2 e2 h2).1 (by omega)
          have g2 := (ih 0 (o + 1) l2 e3 (hh + 1) (pSgn_le h3).2 g1 l4 e4 h4).1 (by omega)
          cases h
          exact g2.o (by omega) (by omega) (by omega)
      | none =>
        simp only [hm] at h
        by_cases hs : sgH tx len (sp (blP tx) len a) 40
        · rw [if_pos hs] at h
          by_cases h6 : o = 6
          · rw [if_pos h6] at h; cases h
          · rw [if_neg h6] at h
            obtain ⟨l2, e2, h2, h⟩ := bnd_i h
            obtain ⟨u3, e3, h3, h⟩ := bnd_i h
            have g1 := (ih 0 (o + 1) l _ hh hs.1 H l2 e2 h2).1 (by omega)
            cases h
            exact g1
        · rw [if_neg hs] at h
          cases hk : knH tx len (sp (blP tx) len a) with
          | some k =>
            simp only [hk] at h
            obtain ⟨hg, hk8⟩ := knH_gt hk
            cases h
            exact H.u (t := (1, k)) (by show 1 < 8; omega) (by show k < 1000; omega) (fun _ => hk8) (fun z => by have z : 2 ≤ 1 := z; omega)
          | none =>
            simp only [hk] at h
            obtain ⟨v, e1, h1, h⟩ := bnd_i h
            obtain ⟨p1, p2, p3, p4⟩ := pNum_le h1 hbl
            cases h
            exact H.u (t := (0, v)) (by show 0 < 8; omega) (by show v < 1000; omega) (fun z => by have z : 0 = 1 := z; omega) (fun z => by have z : 2 ≤ 0 := z; omega)
    | 3, h =>
      refine ⟨fun z => by omega, fun _ hh1 => ?_⟩
      have key : ∀ w, 2 ≤ w → w < 8 → sp (blP tx) len a + 1 ≤ len → bnd (lwP tx len f 1 o l (sp (blP tx) len a + 1)) (fun l e => lwP tx len f 3 o (tkU l (w, 0)) e) = .inr (l', e) → TOK l' hh := fun w w1 w2 hs1 h => by
        obtain ⟨l1, e1, h1, h2⟩ := bnd_i h
        have g1 := (ih 1 o l _ hh hs1 H l1 e1 h1).1 (by omega)
        exact (ih 3 o _ e1 hh (lw_eat f 1 o l _ hs1 l1 e1 h1).1 (g1.o w1 w2 hh1) l' e h2).2 (by omega) hh1
      unfold lwP at h
      by_cases s1 : sgH tx len (sp (blP tx) len a) 43
      · rw [if_pos s1] at h; exact key 2 (by decide) (by decide) s1.1 h
      · rw [if_neg s1] at h
        by_cases s2 : sgH tx len (sp (blP tx) len a) 45
        · rw [if_pos s2] at h; exact key 3 (by decide) (by decide) s2.1 h
        · rw [if_neg s2] at h; cases h; exact H
    | k + 4, h =>
      refine ⟨fun z => by omega, fun _ hh1 => ?_⟩
      have key : ∀ w, 2 ≤ w → w < 8 → sp (blP tx) len a + 1 ≤ len → bnd (lwP tx len f 2 o l (sp (blP tx) len a + 1)) (fun l e => lwP tx len f 4 o (tkU l (w, 0)) e) = .inr (l', e) → TOK l' hh := fun w w1 w2 hs1 h => by
        obtain ⟨l1, e1, h1, h2⟩ := bnd_i h
        have g1 := (ih 2 o l _ hh hs1 H l1 e1 h1).1 (by omega)
        exact (ih 4 o _ e1 hh (lw_eat f 2 o l _ hs1 l1 e1 h1).1 (g1.o w1 w2 hh1) l' e h2).2 (by omega) hh1
      unfold lwP at h
      by_cases s1 : sgH tx len (sp (blP tx) len a) 42
      · rw [if_pos s1] at h; exact key 4 (by decide) (by decide) s1.1 h
      · rw [if_neg s1] at h
        by_cases s2 : sgH tx len (sp (blP tx) len a) 47
        · rw [if_pos s2] at h; exact key 5 (by decide) (by decide) s2.1 h
        · rw [if_neg s2] at h; cases h; exact H
