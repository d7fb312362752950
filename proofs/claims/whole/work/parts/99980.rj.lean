/-! ===== law, on both sides ===== -/
theorem pLaw_ne {tx : Nat → Nat} {n e : Nat} {l : TK} (hp : pLaw tx n = .inr (l, e)) : ¬ l.1 = 0 := by
  have h0 : sp (blP tx) n 0 ≤ n := sp_le (Nat.zero_le _)
  obtain ⟨l1, e1, hq, hq2⟩ := bnd_i hp
  by_cases hlt : sp (blP tx) n e1 < n
  · rw [if_pos hlt] at hq2; cases hq2
  rw [if_neg hlt] at hq2
  cases hq2
  have htk := (lw_tok 604 0 0 (0, fun _ => (0, 0)) (sp (blP tx) n 0) 0 h0 ⟨fun k hk => absurd hk (Nat.not_lt_zero k), rfl⟩ l e1 hq).1 (by omega)
  intro z
  have h1 := htk.2
  rw [z] at h1
  exact absurd h1 (by show ¬ (0 : Nat) = 0 + 1; decide)
theorem RUs_of {M : MM} {ru : Nat} {l : TK} (h : RTc M ru l) (hl : ¬ l.1 = 0) : RUs M ru l.1 l.2 := by
  have e1 : mE l.1 = l.1 := if_neg hl
  have e2 : tkE l.1 l.2 = l.2 := if_neg hl
  unfold RUs
  rw [e1, e2]
  exact h
theorem q_law {d : Nat} {x1 : Int32} {M : MM} {ab sa ru sr li sn dk m c W i T : Nat} {A : AB} {tk : Nat → Nat × Nat} {tx : Nat → Nat} (h : RR M ab sa ru sr li sn dk A m tk c W i T tx) (hx : nx M + 6 < 900000) (hd : 200 ≤ d) : CIi d M 270 190 [.ref 0, .int x1, .ref 547] [.ref 53, .int x1] := by
  have hS := h.W.1
  have hW := h.W
  have hT := h.2.1
  obtain ⟨t1, t2, t3, t4⟩ := hT
  have hT := h.2.1
  obtain ⟨-, hab, hru, hli, ⟨f6, f7, f8, f9, f10, f11, f12⟩, hDK, hdk, hdn, hnx⟩ := hW
  have hW := h.W
  have hX := hW.X
  by_cases v : inR x1 0 (T + 1) ∧ ¬ nI 150 < x1
  · obtain ⟨⟨n, -, n1, rfl⟩, n2⟩ := v
    have hn1 : n ≤ 150 := by rw [nI_ltI (by omega) (by omega)] at n2; omega
    have okF : okT (rlS sr) ab ru li := fun b z => by unfold rlS at z; omega
    cases hp : pLaw tx n with
    | inl kp =>
      obtain ⟨k, p⟩ := kp
      obtain ⟨N, cc, F1, u1, u6⟩ := c_law_f (d := d - 1) hW (by omega) t1 t3 hT.b (by omega) hn1 hp
      have hSN : SH N := F1.O.SH hS
      obtain ⟨z1, z2⟩ := tp_P (g := vp_updL (al N 547) 0 (nI k - nI 10).toInt64) hT F1 (fun z => by unfold rlS at z; omega) (fun z => by unfold rlS at z; omega)
      obtain ⟨K, mm, F2, w2, w3, w4⟩ := m_law_f (d := d) (M := setL N 547 (vp_updL (al N 547) 0 (nI k - nI 10).toInt64)) hSN (by omega) z1 t3 z2 (by omega) hn1 hp
      exact ci_fail h F1 okF u1 u6 (wL_law hS hSN (by omega) cc) mm F2 (fun b z => by unfold lwA at z; omega) (fun k z => by unfold law0 rdI at z; omega) w3 w4 w2
    | inr r =>
      obtain ⟨l, e⟩ := r
      obtain ⟨N, cc, F1, u1, u6, l1⟩ := c_law_t (d := d - 1) hW (by omega) t1 t3 hT.b (by omega) hn1 hp
      have hWN : CW N ab sa ru sr li sn dk := F1.O.CW hW (by rw [F1.2.1.1]; exact hnx)
      have hW2 := CW_ru hWN
      obtain ⟨z1, z2⟩ := tp_P (g := vp_updL (al N 547) 0 (nI 1).toInt64) hT F1 (fun z => by unfold rlS at z; omega) (fun z => by unfold rlS at z; omega)
      obtain ⟨K, mm, F2, w2, w3, w4, w5, w6⟩ := m_law_t (d := d) (M := setL (setR (setR N 0 8 (some sr)) 0 9 (some ru)) 547 (vp_updL (al N 547) 0 (nI 1).toInt64)) hW2.1 (by omega) z1 t3 z2 (by omega) hn1 hp
      have D := DF_sw F1 F2 (fun b z => by unfold rlS at z; omega) (fun b z => by unfold lawA at z; omega)
      have hnK : nx K = nx M := by rw [F2.2.1.1]; exact F1.2.1.1
      have nl : ∀ b, ¬ (b = 1 ∨ b = sr ∨ b = sr + 2) → ¬ rlS sr b := fun b z => z
      have fK : ∀ b k, ¬ b = 53 → ¬ rlS sr b → fi K b k = fi M b k := fun b k z y => (F2.2.2.2 b k (fun q => z q.1)).trans (congrFun (F1.2.2 b y).1 k)
      have f5 : ∀ k, ¬ lawI k → fi K 53 k = fi M 53 k := fun k z => (F2.2.2.2 53 k (fun q => z q.2)).trans (congrFun (F1.2.2 53 (nl _ (by omega))).1 k)
      have aK : ∀ b, ¬ (95 ≤ b ∧ b < 416) → ¬ rlS sr b → ai K b = ai M b := fun b z y => (F2.2.2.1 b z).trans (F1.2.2 b y).2
      have fN : ∀ b k, ¬ b = 53 → fi K b k = fi N b k := fun b k z => F2.2.2.2 b k (fun q => z q.1)
      have aN : ∀ b, b < 95 → ai K b = ai N b := fun b z => F2.2.2.1 b (fun y => by unfold lawA at y; omega)
      have hR1 : R1 K ab dk A W i := h.1.o.t D (fun j _ => by
        have e1 : aq K = aq N := F2.1.2.2.2.2
        rw [e1, F1.1.2.2.2.2]) (fun b z => aK b (by unfold dA at z; omega) (nl b (by unfold dA at z; omega))) (fun b k z => by
        by_cases hb : b = 53
        · subst hb
          exact f5 k (by unfold dFi at z; unfold lawI rdI; omega)
        · exact fK b k hb (nl b (by unfold dFi at z; omega)))
      have hRT : RTc K sr l := ⟨by rw [fN sr 3 (by omega)]; exact l1.1, fun q hq => by rw [aN _ (by omega)]; exact l1.2 q hq⟩
      have hL : RLw K sr l.1 l.2 := ⟨RUs_of hRT (pLaw_ne hp), w5, w6⟩
      have hC : CLs K li c := CLs_t (fK li 2 (by omega) (nl _ (by omega))) (f5 31 (by unfold lawI rdI; omega)) (aK _ (by omega) (nl _ (by omega))) (aK _ (by omega) (nl _ (by omega))) (fun q hq => aK _ (by omega) (nl _ (by omega))) h.1.2.2.2.2.1
      have hWK : CW K ab sa sr ru li sn dk := F2.O.CW hW2 (by rw [hnK]; exact hnx)
      refine ci_fin (N := setR (setR N 0 8 (some sr)) 0 9 (some ru)) (wL_law hS hW2.1 (by omega) cc) mm ⟨hW2.1, F1.2.1.2.2.1, F1.2.1.2.2.2⟩ w2 F2.1.2.2.2.1 ⟨_, _, _, _, _, _, _, _, _, _, _, _, _, 0, tx, hR1.z hWK hL hC, ⟨by rw [fN 1 1 (by omega)]; exact u1, w3, by omega, fun q hq => ?_⟩, ?_, ?_, ?_⟩ ⟨by omega, ?_, ?_, ?_⟩
      · rw [aK 2 (by omega) (nl _ (by omega)), aK 54 (by omega) (nl _ (by omega))]; exact t4 q hq
      · rw [fN 1 6 (by omega), u6, w4]
      · rw [fK 0 15 (by omega) (nl _ (by omega)), aK 55 (by omega) (nl _ (by omega))]; exact h.2.2.2.1
      · rw [fK 0 16 (by omega) (nl _ (by omega)), aK 55 (by omega) (nl _ (by omega))]; exact h.2.2.2.2
      · rw [F2.2.1.2.1]; show sl N ≤ _; rw [F1.2.1.2.1]; omega
      · rw [F2.2.1.2.2.1]; exact F1.2.1.2.2.1
      · rw [F2.2.1.2.2.2]; exact F1.2.1.2.2.2
  · exact ci_b h hx (E := 1) (k := 1) (by decide) (by decide) (wL_law_1 hS (by omega) (c_law_b (d := d - 1) hX (by omega) t1 t3 v)) (m_law_b (d := d) (h.1.C 1 (by decide) (by omega)).1.1 (by omega) (by rw [fi_cB]; exact t2) t3 v)
