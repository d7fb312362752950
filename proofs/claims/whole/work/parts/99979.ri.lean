/-! ===== clocks and law, on both sides ===== -/
theorem KX.cl {A : Nat → Prop} {F : Nat → Nat → Prop} {M N : MM} (h : KX A F M N) {b : Nat} (hb : b < nx M) : cl N b = cl M b := by
  unfold Jvm.Pilot.@@N@@.cl
  rw [(h.2.1 b hb).1]
  have h1 := h.1
  by_cases z : b < 2000000
  · rw [if_pos ⟨by omega, z⟩, if_pos ⟨hb, z⟩]
  · rw [if_neg (fun y => z y.2), if_neg (fun y => z y.2)]
theorem KX.DK {A : Nat → Prop} {F : Nat → Nat → Prop} {dk : Nat} {M N : MM} (h : KX A F M N) (hb : dk + 4 < nx M) (g : DK M dk) : DK N dk := by
  obtain ⟨dC, ⟨dF0, dF1, dF2, dF3⟩, ⟨dC1, dC2, dC3, dC4⟩, dN1, dN2, dN3, dN4⟩ := g
  have e0 := h.2.1 dk (by omega)
  have e1 := h.2.1 (dk + 1) (by omega)
  have e2 := h.2.1 (dk + 2) (by omega)
  have e3 := h.2.1 (dk + 3) (by omega)
  have e4 := h.2.1 (dk + 4) (by omega)
  have c0 := h.cl (b := dk) (by omega)
  have c1 := h.cl (b := dk + 1) (by omega)
  have c2 := h.cl (b := dk + 2) (by omega)
  have c3 := h.cl (b := dk + 3) (by omega)
  have c4 := h.cl (b := dk + 4) (by omega)
  unfold Jvm.Pilot.@@N@@.DK
  rw [c0, c1, c2, c3, c4, e0.2.2.1, e1.2.1, e2.2.1, e3.2.1, e4.2.1]
  exact ⟨dC, ⟨dF0, dF1, dF2, dF3⟩, ⟨dC1, dC2, dC3, dC4⟩, dN1, dN2, dN3, dN4⟩
theorem KX.CW {A : Nat → Prop} {F : Nat → Nat → Prop} {ab sa ru sr li sn dk : Nat} {M N : MM} (h : KX A F M N) (g : CW M ab sa ru sr li sn dk) (hx : nx N < 900000) : CW N ab sa ru sr li sn dk := by
  obtain ⟨hS, hab, hru, hli, hf, hDK, hdk, hdn, hnx⟩ := g
  have f0 := (h.2.1 0 (by omega)).2.2.1
  have h1 := h.1
  refine ⟨h.SH hS, hab, hru, hli, ?_, h.DK hdn hDK, hdk, by omega, hx⟩
  rw [f0]; exact hf
abbrev KOo (M N : MM) : Prop := KX (fun _ => False) (fun _ _ => False) M N
theorem Frm.O {S I : Nat → Prop} {M N : MM} (h : Frm S I M N) : KOo M N := h.KX (fun _ z => z.elim) (fun _ z => z.elim)
theorem Fc.O {S : Nat → Prop} {M N : MM} (h : Fc S M N) : KOo M N := h.KX (fun _ z => z.elim) (fun _ _ z => z.elim)
theorem G0_2 {M : MM} {j k : Nat} {x y : Option Nat} : Gf (fun b => b = 0) M (setR (setR M 0 j x) 0 k y) := (Gf.R (S := fun b => b = 0) rfl).tr (Gf.R rfl)
theorem CW_li {ab sa ru sr li sn dk : Nat} {M : MM} (h : CW M ab sa ru sr li sn dk) : CW (setR (setR M 0 10 (some sn)) 0 11 (some li)) ab sa ru sr sn li dk := by
  obtain ⟨hS, hab, hru, hli, ⟨f6, f7, f8, f9, f10, f11, f12⟩, hDK, hdk, hdn, hnx⟩ := h
  refine ⟨SH_R0 (SH_R0 hS (by omega)) (by omega), hab, hru, by omega, ⟨?_, ?_, ?_, ?_, ?_, ?_, ?_⟩, G0_2.dk hdn (fun b b1 b2 => by omega) hDK, hdk, hdn, hnx⟩
  · rw [fr_nk (by decide), fr_nk (by decide)]; exact f6
  · rw [fr_nk (by decide), fr_nk (by decide)]; exact f7
  · rw [fr_nk (by decide), fr_nk (by decide)]; exact f8
  · rw [fr_nk (by decide), fr_nk (by decide)]; exact f9
  · rw [fr_nk (by decide), fr_eq]
  · rw [fr_eq]
  · rw [fr_nk (by decide), fr_nk (by decide)]; exact f12
theorem CW_ru {ab sa ru sr li sn dk : Nat} {M : MM} (h : CW M ab sa ru sr li sn dk) : CW (setR (setR M 0 8 (some sr)) 0 9 (some ru)) ab sa sr ru li sn dk := by
  obtain ⟨hS, hab, hru, hli, ⟨f6, f7, f8, f9, f10, f11, f12⟩, hDK, hdk, hdn, hnx⟩ := h
  refine ⟨SH_R0 (SH_R0 hS (by omega)) (by omega), hab, by omega, hli, ⟨?_, ?_, ?_, ?_, ?_, ?_, ?_⟩, G0_2.dk hdn (fun b b1 b2 => by omega) hDK, hdk, hdn, hnx⟩
  · rw [fr_nk (by decide), fr_nk (by decide)]; exact f6
  · rw [fr_nk (by decide), fr_nk (by decide)]; exact f7
  · rw [fr_nk (by decide), fr_eq]
  · rw [fr_eq]
  · rw [fr_nk (by decide), fr_nk (by decide)]; exact f10
  · rw [fr_nk (by decide), fr_nk (by decide)]; exact f11
  · rw [fr_nk (by decide), fr_nk (by decide)]; exact f12
/-- cells of desks, through both calls -/
theorem DF_sw {S S2 I2 : Nat → Prop} {M N K : MM} {j k : Nat} {x y : Option Nat} {g : Nat → Int64} (F1 : Fc S M N) (F2 : Frm S2 I2 (setL (setR (setR N 0 j x) 0 k y) 547 g) K) (hS : ∀ b, S b → b < 48) (hS2 : ∀ b, S2 b → 53 ≤ b ∧ b < 548) : DF M K := by
  obtain ⟨⟨a1, a2, a3, a4, a5⟩, ⟨a6, a7, a8, a9⟩, aa⟩ := F1
  obtain ⟨⟨b1, b2, b3, b4, b5⟩, ⟨b6, b7, b8, b9⟩, ba, bf⟩ := F2
  refine ⟨?_, fun b hb hc => ?_⟩
  · rw [b6]; show nx M ≤ nx N; rw [a6]; exact Nat.le_refl _
  have hn : ¬ S b := fun z => by have := hS b z; omega
  have hn2 : ¬ S2 b := fun z => by have := hS2 b z; omega
  refine ⟨?_, ?_, ?_, ?_, ?_⟩
  · rw [b1]; show sh N b = _; rw [a1]
  · rw [b2]; show ln N b = _; rw [a2]
  · funext q
    rw [bf b q (by omega)]; show fi N b q = _; rw [(aa b hn).1]
  · rw [b3]; show fr (setR (setR N 0 j x) 0 k y) b = _
    funext q
    rw [fr_na (by omega), fr_na (by omega), a3]
  · rw [ba b hn2]; show ai N b = _; rw [(aa b hn).2]
theorem fi_cB {M : MM} {E k : Nat} : fi (cBad M E) 53 k = fi M 53 k := by
  show fi (setI M 0 (15 + E) (fi M 0 (15 + E) + nI 1)) 53 k = fi M 53 k
  funext
  exact congrFun (by funext q; exact fi_na (by decide)) k
theorem q_clocks {d : Nat} {x1 : Int32} {M : MM} {ab sa ru sr li sn dk m c W i T : Nat} {A : AB} {tk : Nat → Nat × Nat} {tx : Nat → Nat} (h : RR M ab sa ru sr li sn dk A m tk c W i T tx) (hx : nx M + 6 < 900000) (hd : 200 ≤ d) : CIi d M 272 195 [.ref 0, .int x1, .ref 547] [.ref 53, .int x1] := by
  have hS := h.W.1
  have hW := h.W
  have hT := h.2.1
  obtain ⟨t1, t2, t3, t4⟩ := hT
  have hT := h.2.1
  obtain ⟨-, hab, hru, hli, ⟨f6, f7, f8, f9, f10, f11, f12⟩, hDK, hdk, hdn, hnx⟩ := hW
  have hW := h.W
  have hX := hW.X
  have hB : LB M sn := LB_of hS (by omega)
  by_cases v : inR x1 0 (T + 1) ∧ ¬ nI 100 < x1
  · obtain ⟨⟨n, -, n1, rfl⟩, n2⟩ := v
    have hn1 : n ≤ 100 := by rw [nI_ltI (by omega) (by omega)] at n2; omega
    have okF : okT (lnS sn) ab ru li := fun b z => by unfold lnS at z; omega
    cases hp : pCk tx n 12 0 (fun _ => (0, 0)) (sp (blP tx) n 0) with
    | inl kp =>
      obtain ⟨k, p⟩ := kp
      obtain ⟨N, cc, F1, u1, u6, hk⟩ := c_clocks_f (d := d - 1) hX f11 hB (by omega) t1 t3 hT.b (by omega) hn1 hp
      have hSN : SH N := F1.O.SH hS
      obtain ⟨z1, z2⟩ := tp_P (g := vp_updL (al N 547) 0 (nI k - nI 10).toInt64) hT F1 (fun z => by unfold lnS at z; omega) (fun z => by unfold lnS at z; omega)
      obtain ⟨K, mm, F2, w1, w2, w3, w4, w5⟩ := m_clocks_f (d := d) (M := setL N 547 (vp_updL (al N 547) 0 (nI k - nI 10).toInt64)) hSN (by omega) z1 t3 z2 (by omega) hn1 hp hk
      have F3 : Frm (fun b => 427 ≤ b ∧ b < 438) (fun k => k = 0 ∨ k = 1 ∨ k = 2 ∨ k = 3 ∨ rdI k) (setL N 547 (vp_updL (al N 547) 0 (nI k - nI 10).toInt64)) K := ⟨F2.1, F2.2.1, fun b hb => by
        by_cases h1 : b < 427
        · exact w1 b h1
        · exact F2.2.2.1 b (fun z => hb ⟨by omega, z.2⟩), fun b q hb => by
        by_cases h1 : b = 53 ∧ q = 31
        · obtain ⟨rfl, rfl⟩ := h1; exact w5
        · exact F2.2.2.2 b q (fun z => by
            obtain ⟨z1, z2⟩ := z
            unfold ckI at z2
            rcases z2 with z2 | z2 | z2 | z2 | z2 | z2
            · exact hb ⟨z1, Or.inl z2⟩
            · exact hb ⟨z1, Or.inr (Or.inl z2)⟩
            · exact hb ⟨z1, Or.inr (Or.inr (Or.inl z2))⟩
            · exact hb ⟨z1, Or.inr (Or.inr (Or.inr (Or.inl z2)))⟩
            · exact hb ⟨z1, Or.inr (Or.inr (Or.inr (Or.inr z2)))⟩
            · exact h1 ⟨z1, z2⟩)⟩
      exact ci_fail h F1 okF u1 u6 (wL_clocks hS hSN (by omega) cc) mm F3 (fun b z => by omega) (fun k z => by unfold rdI at z; omega) w3 w4 w2
    | inr r =>
      obtain ⟨⟨c', acc⟩, e⟩ := r
      obtain ⟨N, cc, F1, u1, u6, l1, l2, l3⟩ := c_clocks_t (d := d - 1) hX f11 hB (by omega) t1 t3 hT.b (by omega) hn1 hp
      have hWN : CW N ab sa ru sr li sn dk := F1.O.CW hW (by rw [F1.2.1.1]; exact hnx)
      have hW2 := CW_li hWN
      obtain ⟨z1, z2⟩ := tp_P (g := vp_updL (al N 547) 0 (nI c').toInt64) hT F1 (fun z => by unfold lnS at z; omega) (fun z => by unfold lnS at z; omega)
      obtain ⟨K, mm, F2, w2, w3, w4, w5, w6, w7⟩ := m_clocks_t (d := d) (M := setL (setR (setR N 0 10 (some sn)) 0 11 (some li)) 547 (vp_updL (al N 547) 0 (nI c').toInt64)) hW2.1 (by omega) z1 t3 z2 (by omega) hn1 hp
      have D := DF_sw F1 F2 (fun b z => by unfold lnS at z; omega) (fun b z => by omega)
      have hnK : nx K = nx M := by rw [F2.2.1.1]; exact F1.2.1.1
      have fK : ∀ b k, ¬ b = 53 → ¬ lnS sn b → fi K b k = fi M b k := fun b k z y => (F2.2.2.2 b k (fun q => z q.1)).trans (congrFun (F1.2.2 b y).1 k)
      have f5 : ∀ k, ¬ ckI k → fi K 53 k = fi M 53 k := fun k z => (F2.2.2.2 53 k (fun q => z q.2)).trans (congrFun (F1.2.2 53 (fun z => by unfold lnS at z; omega)).1 k)
      have aK : ∀ b, ¬ (417 ≤ b ∧ b < 438) → ¬ lnS sn b → ai K b = ai M b := fun b z y => (F2.2.2.1 b z).trans (F1.2.2 b y).2
      have fN : ∀ b k, ¬ b = 53 → fi K b k = fi N b k := fun b k z => F2.2.2.2 b k (fun q => z q.1)
      have aN : ∀ b, b < 417 → ai K b = ai N b := fun b z => F2.2.2.1 b (by omega)
      have nl : ∀ b, ¬ (b = 1 ∨ (sn ≤ b ∧ b ≤ sn + 2)) → ¬ lnS sn b := fun b z => z
      have hR1 : R1 K ab dk A W i := h.1.o.t D (fun j _ => by
        have e1 : aq K = aq N := F2.1.2.2.2.2
        rw [e1, F1.1.2.2.2.2]) (fun b z => aK b (by unfold dA at z; omega) (nl b (by unfold dA at z; omega))) (fun b k z => by
        by_cases hb : b = 53
        · subst hb
          exact f5 k (by unfold dFi at z; unfold ckI rdI; omega)
        · exact fK b k hb (nl b (by unfold dFi at z; omega)))
      have hL : RLw K ru m tk := RLw_t (fK ru 3 (by omega) (nl _ (by omega))) (aK _ (by omega) (nl _ (by omega))) (f5 17 (by unfold ckI rdI; omega)) (fun b b1 b2 => aK b (by omega) (nl _ (by omega))) h.1.2.2.2.1
      have hC : CLs K sn c' := ⟨by rw [fN sn 2 (by omega)]; exact l1, l2, w5, fun q hq => by
        obtain ⟨a1, a2⟩ := l3 q hq
        obtain ⟨b1, b2⟩ := w7 q hq
        exact ⟨by rw [aN _ (by omega), b1]; exact a1, by rw [aN _ (by omega), b2]; exact a2⟩⟩
      have hWK : CW K ab sa ru sr sn li dk := F2.O.CW hW2 (by rw [hnK]; exact hnx)
      have hlg : al (setR (setR N 0 10 (some sn)) 0 11 (some li)) = al N := rfl
      refine ci_fin (N := setR (setR N 0 10 (some sn)) 0 11 (some li)) (wL_clocks hS hW2.1 (by omega) cc) mm ⟨hW2.1, F1.2.1.2.2.1, F1.2.1.2.2.2⟩ w2 F2.1.2.2.2.1 ⟨_, _, _, _, _, _, _, _, _, _, _, _, _, 0, tx, hR1.z hWK hL hC, ⟨by rw [fN 1 1 (by omega)]; exact u1, w3, by omega, fun q hq => ?_⟩, ?_, ?_, ?_⟩ ⟨by omega, ?_, ?_, ?_⟩
      · rw [aK 2 (by omega) (nl _ (by omega)), aK 54 (by omega) (nl _ (by omega))]; exact t4 q hq
      · rw [fN 1 6 (by omega), u6, w4]
      · rw [fK 0 15 (by omega) (nl _ (by omega)), aK 55 (by omega) (nl _ (by omega))]; exact h.2.2.2.1
      · rw [fK 0 16 (by omega) (nl _ (by omega)), aK 55 (by omega) (nl _ (by omega))]; exact h.2.2.2.2
      · rw [F2.2.1.2.1]; show sl N ≤ _; rw [F1.2.1.2.1]; omega
      · rw [F2.2.1.2.2.1]; exact F1.2.1.2.2.1
      · rw [F2.2.1.2.2.2]; exact F1.2.1.2.2.2
  · exact ci_b h hx (E := 1) (k := 1) (by decide) (by decide) (wL_clocks_1 hS (by omega) (c_clocks_b (d := d - 1) hX (by omega) t1 t3 v)) (m_clocks_b (d := d) (h.1.C 1 (by decide) (by omega)).1.1 (by omega) (by rw [fi_cB]; exact t2) t3 v)
