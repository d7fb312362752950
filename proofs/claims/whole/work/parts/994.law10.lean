/-! ===== the law's grammar: what it eats; fuel enough ===== -/
theorem bnd_i {α β : Type} {x : PR α} {g : α → Nat → PR β} {r : β × Nat} (h : bnd x g = .inr r) : ∃ v e, x = .inr (v, e) ∧ g v e = .inr r := by
  cases x with
  | inl kp => cases h
  | inr ve => exact ⟨ve.1, ve.2, rfl, h⟩
theorem okx_i {α β : Type} {x : PR α} {g : α → Nat → PR β} (h : okx x) (hg : ∀ v e, x = .inr (v, e) → okx (g v e)) : okx (bnd x g) := by
  cases x with
  | inl kp => intro k p z; cases z; exact h _ _ rfl
  | inr ve => exact hg ve.1 ve.2 rfl
theorem okx_r {α : Type} (q : α × Nat) : okx (.inr q : PR α) := fun k p z => by cases z
theorem okx_k {α : Type} {k p : Nat} (h : k ≤ 3) : okx (.inl (k, p) : PR α) := fun k' p' z => by cases z; exact h
theorem okx_num {tx : Nat → Nat} {len lo hi a : Nat} (ha : a ≤ len) : okx (pNum tx len lo hi a) := fun k p z => by have := (pNum_pl z ha).1; omega
theorem okx_sgn {tx : Nat → Nat} {len c a : Nat} (ha : a ≤ len) : okx (pSgn tx len c a) := fun k p z => by have := (pSgn_pl z ha).1; omega
theorem lmW_gt {tx : Nat → Nat} {len b k : Nat} (h : lmW tx len b = some k) : b < sp (ltP tx) len b ∧ (k = 6 ∨ k = 7) := by
  unfold lmW at h
  by_cases h0 : isW tx len b w_least
  · rw [fstW_t h0] at h; cases h; exact ⟨isW_gt h0 (by decide), Or.inl rfl⟩
  rw [fstW_f h0] at h
  by_cases h1 : isW tx len b w_most
  · rw [fstW_t h1] at h; cases h; exact ⟨isW_gt h1 (by decide), Or.inr rfl⟩
  rw [fstW_f h1] at h
  cases h
def lwW (kind : Nat) : Nat := match kind with
  | 0 => 3
  | 1 => 2
  | _ => 1
theorem lw_eat {tx : Nat → Nat} {len : Nat} : ∀ (f kind o : Nat) (l : TK) (a : Nat), a ≤ len → ∀ l' e, lwP tx len f kind o l a = .inr (l', e) → e ≤ len ∧ a ≤ e ∧ (kind < 3 → a < e) := by
  intro f
  induction f with
  | zero => intro kind o l a ha l' e h; cases h
  | succ f ih =>
    intro kind o l a ha l' e h
    have hab : a ≤ sp (blP tx) len a := sp_ge a
    have hbl : sp (blP tx) len a ≤ len := sp_le ha
    match kind, h with
    | 0, h =>
      obtain ⟨l1, e1, h1, h2⟩ := bnd_i h
      obtain ⟨a1, a2, a3⟩ := ih 1 o l a ha l1 e1 h1
      obtain ⟨b1, b2, b3⟩ := ih 3 o l1 e1 a1 l' e h2
      have := a3 (by omega)
      exact ⟨b1, by omega, fun _ => by omega⟩
    | 1, h =>
      obtain ⟨l1, e1, h1, h2⟩ := bnd_i h
      obtain ⟨a1, a2, a3⟩ := ih 2 o l a ha l1 e1 h1
      obtain ⟨b1, b2, b3⟩ := ih 4 o l1 e1 a1 l' e h2
      have := a3 (by omega)
      exact ⟨b1, by omega, fun _ => by omega⟩
    | 2, h =>
      unfold lwP at h
      cases hm : lmW tx len (sp (blP tx) len a) with
      | some how =>
        simp only [hm] at h
        obtain ⟨hg, -⟩ := lmW_gt hm
        by_cases h6 : o = 6
        · rw [if_pos h6] at h; cases h
        · rw [if_neg h6] at h
          obtain ⟨u1, e1, h1, h⟩ := bnd_i h
          obtain ⟨l2, e2, h2, h⟩ := bnd_i h
          obtain ⟨u3, e3, h3, h⟩ := bnd_i h
          obtain ⟨l4, e4, h4, h⟩ := bnd_i h
          obtain ⟨u5, e5, h5, h⟩ := bnd_i h
          cases h
          obtain ⟨x1, y1⟩ := pSgn_le h1
          obtain ⟨y2, x2, z2⟩ := ih 0 (o + 1) l e1 y1 l2 e2 h2
          obtain ⟨x3, y3⟩ := pSgn_le h3
          obtain ⟨y4, x4, z4⟩ := ih 0 (o + 1) l2 e3 y3 l4 e4 h4
          obtain ⟨x5, y5⟩ := pSgn_le h5
          exact ⟨y5, by omega, fun _ => by omega⟩
      | none =>
        simp only [hm] at h
        by_cases hs : sgH tx len (sp (blP tx) len a) 40
        · rw [if_pos hs] at h
          by_cases h6 : o = 6
          · rw [if_pos h6] at h; cases h
          · rw [if_neg h6] at h
            obtain ⟨l2, e2, h2, h⟩ := bnd_i h
            obtain ⟨u3, e3, h3, h⟩ := bnd_i h
            obtain ⟨y2, x2, z2⟩ := ih 0 (o + 1) l _ hs.1 l2 e2 h2
            cases h
            obtain ⟨x3, y3⟩ := pSgn_le h3
            exact ⟨y3, by omega, fun _ => by omega⟩
        · rw [if_neg hs] at h
          cases hk : knH tx len (sp (blP tx) len a) with
          | some k =>
            simp only [hk] at h
            obtain ⟨hg, -⟩ := knH_gt hk
            cases h
            exact ⟨sp_le hbl, by omega, fun _ => by omega⟩
          | none =>
            simp only [hk] at h
            obtain ⟨v, e1, h1, h⟩ := bnd_i h
            cases h
            obtain ⟨p1, p2, -⟩ := pNum_le h1 hbl
            exact ⟨p2, by omega, fun _ => by omega⟩
    | 3, h =>
      unfold lwP at h
      by_cases s1 : sgH tx len (sp (blP tx) len a) 43
      · rw [if_pos s1] at h
        obtain ⟨l1, e1, h1, h2⟩ := bnd_i h
        obtain ⟨a1, a2, a3⟩ := ih 1 o l _ s1.1 l1 e1 h1
        obtain ⟨b1, b2, b3⟩ := ih 3 o _ e1 a1 l' e h2
        exact ⟨b1, by omega, fun z => by omega⟩
      · rw [if_neg s1] at h
        by_cases s2 : sgH tx len (sp (blP tx) len a) 45
        · rw [if_pos s2] at h
          obtain ⟨l1, e1, h1, h2⟩ := bnd_i h
          obtain ⟨a1, a2, a3⟩ := ih 1 o l _ s2.1 l1 e1 h1
          obtain ⟨b1, b2, b3⟩ := ih 3 o _ e1 a1 l' e h2
          exact ⟨b1, by omega, fun z => by omega⟩
        · rw [if_neg s2] at h
          cases h
          exact ⟨hbl, hab, fun z => by omega⟩
    | k + 4, h =>
      unfold lwP at h
      by_cases s1 : sgH tx len (sp (blP tx) len a) 42
      · rw [if_pos s1] at h
        obtain ⟨l1, e1, h1, h2⟩ := bnd_i h
        obtain ⟨a1, a2, a3⟩ := ih 2 o l _ s1.1 l1 e1 h1
        obtain ⟨b1, b2, b3⟩ := ih 4 o _ e1 a1 l' e h2
        exact ⟨b1, by omega, fun z => by omega⟩
      · rw [if_neg s1] at h
        by_cases s2 : sgH tx len (sp (blP tx) len a) 47
        · rw [if_pos s2] at h
          obtain ⟨l1, e1, h1, h2⟩ := bnd_i h
          obtain ⟨a1, a2, a3⟩ := ih 2 o l _ s2.1 l1 e1 h1
          obtain ⟨b1, b2, b3⟩ := ih 4 o _ e1 a1 l' e h2
          exact ⟨b1, by omega, fun z => by omega⟩
        · rw [if_neg s2] at h
          cases h
          exact ⟨hbl, hab, fun z => by omega⟩
