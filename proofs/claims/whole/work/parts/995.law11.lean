/-! ===== the law's grammar: fuel enough ===== -/
theorem lw_ok {tx : Nat → Nat} {len : Nat} : ∀ (f kind o : Nat) (l : TK) (a : Nat), a ≤ len → 4 * (len - a) + lwW kind ≤ f → okx (lwP tx len f kind o l a) := by
  intro f
  induction f with
  | zero =>
    intro kind o l a ha h
    exfalso
    have : 1 ≤ lwW kind := by unfold lwW; split <;> omega
    omega
  | succ f ih =>
    intro kind o l a ha h
    have hab : a ≤ sp (blP tx) len a := sp_ge a
    have hbl : sp (blP tx) len a ≤ len := sp_le ha
    match kind, h with
    | 0, h =>
      have h : 4 * (len - a) + 3 ≤ f + 1 := h
      refine okx_i (ih 1 o l a ha (by show 4 * (len - a) + 2 ≤ f; omega)) (fun l1 e1 h1 => ?_)
      obtain ⟨a1, a2, a3⟩ := lw_eat f 1 o l a ha l1 e1 h1
      exact ih 3 o l1 e1 a1 (by show 4 * (len - e1) + 1 ≤ f; omega)
    | 1, h =>
      have h : 4 * (len - a) + 2 ≤ f + 1 := h
      refine okx_i (ih 2 o l a ha (by show 4 * (len - a) + 1 ≤ f; omega)) (fun l1 e1 h1 => ?_)
      obtain ⟨a1, a2, a3⟩ := lw_eat f 2 o l a ha l1 e1 h1
      have := a3 (by omega)
      exact ih 4 o l1 e1 a1 (by show 4 * (len - e1) + 1 ≤ f; omega)
    | 2, h =>
      have h : 4 * (len - a) + 1 ≤ f + 1 := h
      unfold lwP
      cases hm : lmW tx len (sp (blP tx) len a) with
      | some how =>
        simp only
        obtain ⟨hg, -⟩ := lmW_gt hm
        by_cases h6 : o = 6
        · rw [if_pos h6]; exact okx_k (by omega)
        · rw [if_neg h6]
          have hlt : sp (ltP tx) len (sp (blP tx) len a) ≤ len := sp_le hbl
          refine okx_i (okx_sgn hlt) (fun u1 e1 h1 => ?_)
          obtain ⟨x1, y1⟩ := pSgn_le h1
          refine okx_i (ih 0 (o + 1) l e1 y1 (by show 4 * (len - e1) + 3 ≤ f; omega)) (fun l2 e2 h2 => ?_)
          obtain ⟨y2, x2, z2⟩ := lw_eat f 0 (o + 1) l e1 y1 l2 e2 h2
          refine okx_i (okx_sgn y2) (fun u3 e3 h3 => ?_)
          obtain ⟨x3, y3⟩ := pSgn_le h3
          refine okx_i (ih 0 (o + 1) l2 e3 y3 (by show 4 * (len - e3) + 3 ≤ f; omega)) (fun l4 e4 h4 => ?_)
          obtain ⟨y4, x4, z4⟩ := lw_eat f 0 (o + 1) l2 e3 y3 l4 e4 h4
          exact okx_i (okx_sgn y4) (fun u5 e5 h5 => okx_r _)
      | none =>
        simp only
        by_cases hs : sgH tx len (sp (blP tx) len a) 40
        · rw [if_pos hs]
          by_cases h6 : o = 6
          · rw [if_pos h6]; exact okx_k (by omega)
          · rw [if_neg h6]
            have hs1 : sp (blP tx) len a + 1 ≤ len := hs.1
            refine okx_i (ih 0 (o + 1) l _ hs1 (by show 4 * (len - (sp (blP tx) len a + 1)) + 3 ≤ f; omega)) (fun l2 e2 h2 => ?_)
            obtain ⟨y2, x2, z2⟩ := lw_eat f 0 (o + 1) l _ hs1 l2 e2 h2
            exact okx_i (okx_sgn y2) (fun u5 e5 h5 => okx_r _)
        · rw [if_neg hs]
          cases hk : knH tx len (sp (blP tx) len a) with
          | some k => exact okx_r _
          | none => exact okx_i (okx_num hbl) (fun v e h1 => okx_r _)
    | 3, h =>
      have h : 4 * (len - a) + 1 ≤ f + 1 := h
      have key : ∀ w, sp (blP tx) len a + 1 ≤ len → okx (bnd (lwP tx len f 1 o l (sp (blP tx) len a + 1)) (fun l e => lwP tx len f 3 o (tkU l (w, 0)) e)) := fun w hs1 => by
        refine okx_i (ih 1 o l _ hs1 (by show 4 * (len - (sp (blP tx) len a + 1)) + 2 ≤ f; omega)) (fun l1 e1 h1 => ?_)
        obtain ⟨a1, a2, a3⟩ := lw_eat f 1 o l _ hs1 l1 e1 h1
        exact ih 3 o _ e1 a1 (by show 4 * (len - e1) + 1 ≤ f; omega)
      unfold lwP
      by_cases s1 : sgH tx len (sp (blP tx) len a) 43
      · rw [if_pos s1]; exact key 2 s1.1
      · rw [if_neg s1]
        by_cases s2 : sgH tx len (sp (blP tx) len a) 45
        · rw [if_pos s2]; exact key 3 s2.1
        · rw [if_neg s2]; exact okx_r _
    | k + 4, h =>
      have h : 4 * (len - a) + 1 ≤ f + 1 := h
      have key : ∀ w, sp (blP tx) len a + 1 ≤ len → okx (bnd (lwP tx len f 2 o l (sp (blP tx) len a + 1)) (fun l e => lwP tx len f 4 o (tkU l (w, 0)) e)) := fun w hs1 => by
        refine okx_i (ih 2 o l _ hs1 (by show 4 * (len - (sp (blP tx) len a + 1)) + 1 ≤ f; omega)) (fun l1 e1 h1 => ?_)
        obtain ⟨a1, a2, a3⟩ := lw_eat f 2 o l _ hs1 l1 e1 h1
        exact ih 4 o _ e1 a1 (by show 4 * (len - e1) + 1 ≤ f; omega)
      unfold lwP
      by_cases s1 : sgH tx len (sp (blP tx) len a) 42
      · rw [if_pos s1]; exact key 4 s1.1
      · rw [if_neg s1]
        by_cases s2 : sgH tx len (sp (blP tx) len a) 47
        · rw [if_pos s2]; exact key 5 s2.1
        · rw [if_neg s2]; exact okx_r _
