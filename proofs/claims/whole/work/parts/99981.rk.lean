/-! ===== summer, on both sides ===== -/
theorem RW_nw {n : Nat} (h16 : n ≤ 16) : RW n nwF := by
  refine ⟨fun p hp => ⟨Or.inl ?_, Or.inl ?_, ?_⟩, 0, by omega, ?_⟩
  · exact if_neg (by omega)
  · exact if_neg (by omega)
  · have e : nwF (32 + p) = -1 := if_pos ⟨by omega, by omega⟩
    rw [e]; decide
  · exact if_neg (by omega)
theorem DS_t {M N : MM} {dk n : Nat} {pv : Nat → Nat → Nat} {r r' : Nat → Int32} (h16 : n ≤ 16) (hf : fi N dk = fi M dk) (ha : ∀ q, 1 ≤ q → q ≤ 4 → ai N (dk + q) = ai M (dk + q)) (e : ∀ k, k < 83 → r' k = r k) (g : DS M dk n pv r) : DS N dk n pv r' := by
  refine DS_cg h16 e ?_
  unfold DS at g ⊢
  rw [hf, ha 1 (by omega) (by omega), ha 2 (by omega) (by omega), ha 3 (by omega) (by omega), ha 4 (by omega) (by omega)]
  exact g
theorem clN3 : clN 3 ≤ 30 := by decide
theorem q_summer {d : Nat} {x1 : Int32} {M : MM} {ab sa ru sr li sn dk m c W i T : Nat} {A : AB} {tk : Nat → Nat × Nat} {tx : Nat → Nat} (h : RR M ab sa ru sr li sn dk A m tk c W i T tx) (hx : nx M + 6 < 900000) (hd : 200 ≤ d) : CIi d M 269 180 [.ref 0, .int x1, .ref 547] [.ref 53, .int x1] := by
  have hS := h.W.1
  have hW := h.W
  have hT := h.2.1
  obtain ⟨t1, t2, t3, t4⟩ := hT
  have hT := h.2.1
  obtain ⟨-, hab, hru, hli, ⟨f6, f7, f8, f9, f10, f11, f12⟩, hDK, hdk, hdn, hnx⟩ := hW
  have hW := h.W
  have h548 := hS.1
  by_cases v : inR x1 0 (T + 1)
  · obtain ⟨n, -, n1, rfl⟩ := v
    have okF : okT (alS sa) ab ru li := fun b z => by unfold alS at z; omega
    cases hp : pSum tx n 62 0 A0 (sp (blP tx) n 0) with
    | inl kp =>
      obtain ⟨k, p⟩ := kp
      obtain ⟨N, cc, F1, u1, u6, hk⟩ := c_summer_f (d := d - 1) hW (by omega) t1 t3 hT.b (by omega) hp
      have hSN : SH N := F1.O.SH hS
      obtain ⟨z1, z2⟩ := tp_P (g := vp_updL (al N 547) 0 (nI k - nI 10).toInt64) hT F1 (fun z => by unfold alS at z; omega) (fun z => by unfold alS at z; omega)
      obtain ⟨K, mm, F2, w2, w3, w4⟩ := m_summer_f (d := d) (M := setL N 547 (vp_updL (al N 547) 0 (nI k - nI 10).toInt64)) hSN (by omega) z1 t3 z2 (by omega) hp hk
      exact ci_fail h F1 okF u1 u6 (wL_summer hS hSN (by omega) cc) mm F2 (fun b z => by unfold smA at z; omega) (fun k z => by unfold sm0 rdI at z; omega) w3 w4 w2
    | inr r =>
      obtain ⟨B, e⟩ := r
      obtain ⟨N, cc, hWN, G, n5, s5, cA', cR, cL, cD, c11, c10, u1, u6, u13, u14, u15, u16, u2⟩ := c_summer_t (d := d - 1) hW (by omega) (by omega) t1 t3 hT.b (by omega) hp
      have g53 := G.2.2 53 (by omega) (by unfold cS48; omega)
      have g54 := G.2.2 54 (by omega) (by unfold cS48; omega)
      have g55 := G.2.2 55 (by omega) (by unfold cS48; omega)
      have z1 : fi (setL N 547 (vp_updL (al N 547) 0 (nI B.1).toInt64)) 53 1 = nI T := by
        show fi N 53 1 = nI T
        rw [g53.2.2.1]; exact t2
      have z2 : TPb (setL N 547 (vp_updL (al N 547) 0 (nI B.1).toInt64)) tx := fun q hq => by
        show ai N 54 q = nI (tx q) ∧ _
        rw [g54.2.2.2.2.1]
        exact ⟨(t4 q hq).2.1, (t4 q hq).2.2⟩
      obtain ⟨K, mm, F2, w2, w3, w4, w5, w6, w7⟩ := m_summer_t (d := d) (M := setL N 547 (vp_updL (al N 547) 0 (nI B.1).toInt64)) hWN.1 (by omega) z1 t3 z2 (by omega) hp
      have hnK : nx K = nx M + 5 := by rw [F2.2.1.1]; exact n5
      have h16 : B.1 ≤ 16 := cA'.2.1
      have fN : ∀ b k, ¬ b = 53 → fi K b k = fi N b k := fun b k z => F2.2.2.2 b k (fun q => z q.1)
      have aN : ∀ b, ¬ suA b → ai K b = ai N b := fun b z => F2.2.2.1 b z
      have ns : ∀ b, b < 56 ∨ 548 ≤ b → ¬ suA b := fun b z y => by unfold suA smA bgA at y; omega
      have hWK : CW K sa ab ru sr li sn (nx M) := F2.O.CW (M := setL N 547 (vp_updL (al N 547) 0 (nI B.1).toInt64)) hWN (by omega)
      have hCA : CAA K sa B := CA_t (funext fun q => fN sa q (by omega)) (fun q q1 q2 => aN _ (ns _ (by omega))) cA'
      have hL : RLw K ru 0 (fun _ => (0, 0)) := by
        have hU := cR (fun _ => (0, 0))
        refine ⟨⟨by rw [fN ru 3 (by omega)]; exact hU.1, fun k hk => by rw [aN _ (ns _ (by omega))]; exact hU.2 k hk⟩, ⟨w7 17 (Or.inl rfl), fun k hk => absurd hk (Nat.not_lt_zero k)⟩, ⟨by omega, fun k hk => absurd hk (Nat.not_lt_zero k)⟩⟩
      have hC : CLs K li 0 := ⟨by rw [fN li 2 (by omega)]; exact cL, by omega, w7 31 (Or.inr (Or.inl rfl)), fun q hq => absurd hq (Nat.not_lt_zero q)⟩
      have hB : BS K B.1 B.2.1 (nx M) 0 (ai K 521) := ⟨hWK.2.2.2.2.2.1, Or.inr h548, by omega, DS_t h16 (funext fun q => fN _ q (by omega)) (fun q q1 q2 => aN _ (ns _ (by omega))) w6 cD, RW_cg h16 w6 (RW_nw h16), by rw [fN _ 10 (by omega)]; exact c10⟩
      have e11 : fr K (nx M) 11 = none := by
        have e1 : fr K = fr N := F2.1.2.2.1
        rw [e1]; exact c11
      have hR0 : R0 K sa ab ru sr li sn (nx M) B 0 (fun _ => (0, 0)) 0 0 0 := ⟨hWK, hCA, w5, hL, hC, ⟨by rw [fN 0 13 (by omega)]; exact u13, w7 34 (Or.inr (Or.inr (Or.inr (Or.inr rfl)))), by omega, by rw [fN 0 14 (by omega), u14, w7 33 (Or.inr (Or.inr (Or.inr (Or.inl rfl))))]⟩, ⟨w7 32 (Or.inr (Or.inr (Or.inl rfl))), by omega, hB, e11⟩, fun j hj => absurd hj (Nat.not_lt_zero j)⟩
      have hc3 := clN3
      refine ci_fin (wL_summer hS hWN.1 (by omega) cc) mm ⟨hWN.1, G.2.1.1, G.2.1.2⟩ w2 F2.1.2.2.2.1 ⟨_, _, _, _, _, _, _, _, _, _, _, _, _, 0, tx, hR0, ⟨by rw [fN 1 1 (by omega)]; exact u1, w3, by omega, fun q hq => ?_⟩, ?_, ?_, ?_⟩ ⟨by omega, ?_, ?_, ?_⟩
      · rw [aN 2 (ns _ (by omega)), aN 54 (ns _ (by omega)), u2, g54.2.2.2.2.1]; exact t4 q hq
      · rw [fN 1 6 (by omega), u6, w4]
      · rw [fN 0 15 (by omega), aN 55 (ns _ (by omega)), u15, g55.2.2.2.2.1]; exact h.2.2.2.1
      · rw [fN 0 16 (by omega), aN 55 (ns _ (by omega)), u16, g55.2.2.2.2.1]; exact h.2.2.2.2
      · rw [F2.2.1.2.1]; show sl N ≤ _; rw [s5]; omega
      · rw [F2.2.1.2.2.1]; exact G.2.1.1
      · rw [F2.2.1.2.2.2]; exact G.2.1.2
  · exact ci_b h hx (E := 1) (k := 1) (by decide) (by decide) (wL_summer_1 hS (by omega) (c_summer_b (d := d - 1) hW (by omega) t1 t3 v)) (m_summer_b (d := d) (h.1.C 1 (by decide) (by omega)).1.1 (by omega) (by rw [fi_cB]; exact t2) t3 v)
