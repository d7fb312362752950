/-! ===== one of the law: a chain of steps, read or faulted ===== -/
def okx {α : Type} (x : PR α) : Prop := ∀ k p, x = .inl (k, p) → k ≤ 3
theorem okx_b {α β : Type} {x : PR α} {g : α → Nat → PR β} (h : okx (bnd x g)) : okx x := by
  intro k p e
  subst e
  exact h k p rfl
theorem bnd_a {α β γ : Type} (x : PR α) (g : α → Nat → PR β) (k : β → Nat → PR γ) : bnd (bnd x g) k = bnd x (fun a e => bnd (g a e) k) := by
  cases x <;> rfl
/-- where the reading stands: behind x, with s bytes to spare -/
def lwS (M0 N : MM) (tx : Nat → Nat) (len o s : Nat) (l0 : TK) (a0 : Nat) (x : PR TK) : Prop :=
  ((∃ l e, x = .inr (l, e) ∧ MR N tx len e ∧ LW N l ∧ l.1 + s + a0 ≤ l0.1 + e ∧ a0 ≤ e ∧ fi N 53 8 = nI o) ∨ (∃ k p, x = .inl (k, p) ∧ MF N tx len k p)) ∧ Frm lwA lwI M0 N
theorem lwS.S {M0 N : MM} {tx : Nat → Nat} {len o s a0 : Nat} {l0 : TK} {x : PR TK} (h : lwS M0 N tx len o s l0 a0 x) : SH N := by
  obtain ⟨h | h, -⟩ := h
  · obtain ⟨l, e, -, h, -⟩ := h; exact h.1
  · obtain ⟨l, e, -, h⟩ := h; exact h.1
theorem S_sgn {d c len o s a0 : Nat} {M0 N : MM} {tx : Nat → Nat} {l0 : TK} {x : PR TK} (h : lwS M0 N tx len o s l0 a0 x) (hd : 14 ≤ d) (hc : c < 256) : ∃ N', evC d 174 [.ref 53, .int (nI c)] (toH N) = some (.inl none, toH N') ∧ lwS M0 N' tx len o (s + 1) l0 a0 (bnd x (fun l e => bnd (pSgn tx len c e) (fun _ e => .inr (l, e)))) := by
  obtain ⟨⟨l, e, rfl, h1, h2, h3, h4, h5⟩ | ⟨k, p, rfl, h1⟩, hF⟩ := h
  · obtain ⟨g1, g2⟩ := r_sgn (d := d) (c := c) h1 hd hc
    rw [bnd_r]
    cases hq : pSgn tx len c e with
    | inl kp =>
      obtain ⟨k, p⟩ := kp
      obtain ⟨e', he, hev⟩ := g2 k p hq
      obtain ⟨hk, hp⟩ := pSgn_pl hq h1.2.2.2.1
      exact ⟨_, hev, Or.inr ⟨k, p, rfl, h1.bad he (by omega) (by omega)⟩, hF.tr (Frm.U (fun _ z => Or.inl z))⟩
    | inr ue =>
      obtain ⟨u, e'⟩ := ue
      have hev := g1 u e' hq
      obtain ⟨q1, q2⟩ := pSgn_le hq
      exact ⟨_, hev, Or.inl ⟨l, e', rfl, h1.at q2, h2.I (by decide), by omega, by omega, by rw [fi8]; exact h5⟩, hF.tr (Frm.I (Or.inl (Or.inl rfl)))⟩
  · exact ⟨N, m_sign_n h1.1 (by omega) h1.n, Or.inr ⟨k, p, rfl, h1⟩, hF⟩
theorem S_sum {d f len o s a0 : Nat} {M0 N : MM} {tx : Nat → Nat} {l0 : TK} {x : PR TK} (h : lwS M0 N tx len o s l0 a0 x) (hd : 14 ≤ d) (hla : l0.1 ≤ a0) (hok : okx (bnd x (fun l e => lwP tx len f 0 o l e)))
    (ih : ∀ l a M, MR M tx len a → LW M l → l.1 ≤ a → fi M 53 8 = nI o → lwC d 186 M tx len o l a (lwP tx len f 0 o l a)) : ∃ N', evC d 186 [.ref 53] (toH N) = some (.inl none, toH N') ∧ lwS M0 N' tx len o s l0 a0 (bnd x (fun l e => lwP tx len f 0 o l e)) := by
  obtain ⟨⟨l, e, rfl, h1, h2, h3, h4, h5⟩ | ⟨k, p, rfl, h1⟩, hF⟩ := h
  · obtain ⟨g1, g2⟩ := ih l e N h1 h2 (by omega) h5
    rw [bnd_r] at hok ⊢
    cases hq : lwP tx len f 0 o l e with
    | inl kp =>
      obtain ⟨k, p⟩ := kp
      obtain ⟨K, e1, e2, e3⟩ := g2 k p hq (hok k p hq)
      exact ⟨K, e1, Or.inr ⟨k, p, rfl, e2⟩, hF.tr e3⟩
    | inr le =>
      obtain ⟨l1, e'⟩ := le
      obtain ⟨K, e1, e2, e3, e4, e4b, e5, e6⟩ := g1 l1 e' hq
      exact ⟨K, e1, Or.inl ⟨l1, e', rfl, e2, e3, by omega, by omega, e5⟩, hF.tr e6⟩
  · exact ⟨N, m_sum_n h1.1 (by omega) h1.n, Or.inr ⟨k, p, rfl, h1⟩, hF⟩
theorem S_note {d len o s a0 w v : Nat} {M0 N : MM} {tx : Nat → Nat} {l0 : TK} {x : PR TK} (h : lwS M0 N tx len o (s + 1) l0 a0 x) (hd : 14 ≤ d) (hla : l0.1 ≤ a0) (hl5 : len ≤ 150) : ∃ N', evC d 184 [.ref 53, .int (nI w), .int (nI v)] (toH N) = some (.inl none, toH N') ∧ lwS M0 N' tx len o s l0 a0 (bnd x (fun l e => .inr (tkU l (w, v), e))) := by
  obtain ⟨⟨l, e, rfl, h1, h2, h3, h4, h5⟩ | ⟨k, p, rfl, h1⟩, hF⟩ := h
  · have hel := h1.2.2.2.1
    obtain ⟨n1, n2, n3, n4⟩ := m_notes (d := d) (o := w) (v := v) h1 (by omega) h2 (by omega)
    have o3 : fi (ntM N l (w, v)) 53 8 = nI o := by unfold ntM; rw [fi_nk (by decide), fi_setA]; exact h5
    have hl1 : (tkU l (w, v)).1 = l.1 + 1 := rfl
    exact ⟨_, n1, Or.inl ⟨tkU l (w, v), e, rfl, n2, n3, by rw [hl1]; omega, h4, o3⟩, hF.tr n4⟩
  · exact ⟨N, m_notes_n h1.1 (by omega) h1.n, Or.inr ⟨k, p, rfl, h1⟩, hF⟩
theorem MF.I8 {M : MM} {tx : Nat → Nat} {len k p : Nat} {x : Int32} (h : MF M tx len k p) : MF (setI M 53 8 x) tx len k p := by
  obtain ⟨h1, ⟨t1, t2, t3⟩, ⟨e, he, h3⟩, h4, h5, h6, h7⟩ := h
  exact ⟨by rw [SH_setI]; exact h1, ⟨by rw [fi_nk (by decide)]; exact t1, t2, fun i hi => by rw [ai_setI]; exact t3 i hi⟩, ⟨e, he, by rw [fi_nk (by decide)]; exact h3⟩, by rw [fi_nk (by decide)]; exact h4, h5, h6, by rw [fi_nk (by decide)]; exact h7⟩
/-- closing: what was opened is closed -/
theorem S_open {len o s a0 : Nat} {M0 N : MM} {tx : Nat → Nat} {l0 : TK} {x : PR TK} (h : lwS M0 N tx len (o + 1) s l0 a0 x) (ho : o < 6) : lwS M0 (setI N 53 8 (fi N 53 8 - nI 1)) tx len o s l0 a0 x := by
  obtain ⟨⟨l, e, rfl, h1, h2, h3, h4, h5⟩ | ⟨k, p, rfl, h1⟩, hF⟩ := h
  · have hF8 : Frm lwA (fun k => k = 8) N (setI N 53 8 (fi N 53 8 - nI 1)) := Frm.I rfl
    refine ⟨Or.inl ⟨l, e, rfl, h1.fr hF8 (by rintro ⟨z, -⟩; omega) (by decide) (by decide) (by decide), h2.I (by decide), h3, h4, ?_⟩, hF.tr (Frm.I (Or.inl (Or.inr (Or.inr (Or.inr (Or.inr rfl))))))⟩
    rw [fi_eq, h5]
    exact pk_sub (a := o + 1) (b := 1) (by omega)
  · exact ⟨Or.inr ⟨k, p, rfl, h1.I8⟩, hF.tr (Frm.I (Or.inl (Or.inr (Or.inr (Or.inr (Or.inr rfl))))))⟩
