/-! ===== images, on both sides ===== -/
theorem img_0 {F : Nat → Nat → Int32} {W : Int32} {a : Nat} : imgF F W a 1412 a 0 = W := by
  unfold imgF
  rw [va_eq, if_pos (by decide)]
  exact if_pos rfl
theorem img_n {F : Nat → Nat → Int32} {W : Int32} {a k : Nat} (hk : k < 83) : imgF F W a 1412 a (1 + k) = F 521 k := by
  unfold imgF
  rw [va_eq, if_pos (by omega)]
  unfold imgV
  rw [if_neg (by omega), if_pos (by omega), Nat.add_sub_cancel_left]
theorem img_b {F : Nat → Nat → Int32} {W : Int32} {a w k : Nat} (hw : w < 16) (hk : k < 83) : imgF F W a 1412 a (84 + 83 * w + k) = F (524 + w) k := by
  unfold imgF
  rw [va_eq, if_pos (by omega)]
  unfold imgV
  have e1 : (84 + 83 * w + k - 84) / 83 = w := by omega
  have e2 : (84 + 83 * w + k - 84) % 83 = k := by omega
  rw [if_neg (by omega), if_neg (by omega), e1, e2]
theorem q_image {d : Nat} {M : MM} {ab sa ru sr li sn dk m c W i T : Nat} {A : AB} {tk : Nat → Nat × Nat} {tx : Nat → Nat} (h : RR M ab sa ru sr li sn dk A m tk c W i T tx) (hd : 200 ≤ d) : CDd d M 137 264 [.ref 0] [.ref 53] := by
  have hS := h.W.1
  have hW := h.W
  obtain ⟨-, hab, hru, hli, -, hDK, hdk, hdn, hnx⟩ := hW
  have hW := h.W
  obtain ⟨w1, w2, w3⟩ := h.1.2.2.2.2.2.2.1
  have h16 : A.1 ≤ 16 := h.1.2.1.2.1
  obtain ⟨i1, i2, i3, i4⟩ := h.1.2.2.2.2.2.1
  by_cases hi : i = 3
  · subst hi
    exact cd_M h (c_image_3 (d := d) hW i1 (by omega)) (m_image_3 (d := d) (by omega) hS i2)
  have hi3 : i < 3 := by omega
  have cc := c_image (d := d) hW i1 hi3 (by omega)
  have G : Gf (fun b => b = 17) M (setQ M 17 (va_up (aq M 17) i (some dk))) := Gf.Q rfl
  have hSN : SH (setI (setQ M 17 (va_up (aq M 17) i (some dk))) 0 13 (nI (i + 1))) := by rw [SH_setI]; exact SH_Q17 hS
  have hWN : CW (setI (setQ M 17 (va_up (aq M 17) i (some dk))) 0 13 (nI (i + 1))) ab sa ru sr li sn dk := by
    obtain ⟨q1, q2, q3, q4, q5, q6, q7, q8, q9⟩ := hW
    exact ⟨hSN, q2, q3, q4, q5, q6, q7, q8, q9⟩
  have mm := m_image (d := d) (M := setI (setQ M 17 (va_up (aq M 17) i (some dk))) 0 13 (nI (i + 1))) (W := nI W) (by omega) hSN (by rw [fi_na (by decide)]; exact i2) hi3 (by rw [fi_na (by decide)]; exact w1)
  have q17 : aq (setI (setQ M 17 (va_up (aq M 17) i (some dk))) 0 13 (nI (i + 1))) 17 = va_up (aq M 17) i (some dk) := aq_eq _ _ _
  have fN0 : ∀ b k, ¬ (b = 0 ∧ k = 13) → fi (setI (setQ M 17 (va_up (aq M 17) i (some dk))) 0 13 (nI (i + 1))) b k = fi M b k := fun b k z => by
    by_cases hb : b = 0
    · subst hb; rw [fi_nk (by omega)]; rfl
    · rw [fi_na hb]; rfl
  have fN1 : fi (setI (setQ M 17 (va_up (aq M 17) i (some dk))) 0 13 (nI (i + 1))) 0 13 = nI (i + 1) := fi_eq _ _ _ _
  have aN0 : ai (setI (setQ M 17 (va_up (aq M 17) i (some dk))) 0 13 (nI (i + 1))) = ai M := rfl
  have shN : sh (setI (setQ M 17 (va_up (aq M 17) i (some dk))) 0 13 (nI (i + 1))) = sh M ∧ ln (setI (setQ M 17 (va_up (aq M 17) i (some dk))) 0 13 (nI (i + 1))) = ln M ∧ fr (setI (setQ M 17 (va_up (aq M 17) i (some dk))) 0 13 (nI (i + 1))) = fr M ∧ nx (setI (setQ M 17 (va_up (aq M 17) i (some dk))) 0 13 (nI (i + 1))) = nx M ∧ sl (setI (setQ M 17 (va_up (aq M 17) i (some dk))) 0 13 (nI (i + 1))) = sl M ∧ sL (setI (setQ M 17 (va_up (aq M 17) i (some dk))) 0 13 (nI (i + 1))) = sL M ∧ sX (setI (setQ M 17 (va_up (aq M 17) i (some dk))) 0 13 (nI (i + 1))) = sX M := ⟨rfl, rfl, rfl, rfl, rfl, rfl, rfl⟩
  generalize setI (setQ M 17 (va_up (aq M 17) i (some dk))) 0 13 (nI (i + 1)) = N at *
  have F2 : Frm (fun b => b = 541 + i) (fun k => k = 0 ∨ k = 32 ∨ k = 34 ∨ k = 35) N (setI (pM (setI N 53 0 (nI 0)) (imgF (ai N) (nI W) (541 + i) 1412) (nI W) (nI 1412)) 53 34 (nI (i + 1))) := by
    unfold pM
    have F3 : Frm (fun b => b = 541 + i) (fun k => k = 0 ∨ k = 32 ∨ k = 34 ∨ k = 35) (setI N 53 0 (nI 0)) (setAF (setI N 53 0 (nI 0)) (imgF (ai N) (nI W) (541 + i) 1412)) := ⟨⟨rfl, rfl, rfl, rfl, rfl⟩, ⟨rfl, rfl, rfl, rfl⟩, fun b hb => imgF_ne hb, fun _ _ _ => rfl⟩
    exact ((((Frm.I (Or.inl rfl)).tr F3).tr (Frm.I (Or.inr (Or.inl rfl)))).tr (Frm.I (Or.inr (Or.inr (Or.inr rfl))))).tr (Frm.I (Or.inr (Or.inr (Or.inl rfl))))
  have aK1 : ai (setI (pM (setI N 53 0 (nI 0)) (imgF (ai N) (nI W) (541 + i) 1412) (nI W) (nI 1412)) 53 34 (nI (i + 1))) (541 + i) = imgF (ai M) (nI W) (541 + i) 1412 (541 + i) := by rw [ai_setI, pm_ai, aN0]
  have e32 : fi (setI (pM (setI N 53 0 (nI 0)) (imgF (ai N) (nI W) (541 + i) 1412) (nI W) (nI 1412)) 53 34 (nI (i + 1))) 53 32 = nI W := by rw [fi_nk (by decide), pm_w]
  have e34 : fi (setI (pM (setI N 53 0 (nI 0)) (imgF (ai N) (nI W) (541 + i) 1412) (nI W) (nI 1412)) 53 34 (nI (i + 1))) 53 34 = nI (i + 1) := fi_eq _ _ _ _
  generalize setI (pM (setI N 53 0 (nI 0)) (imgF (ai N) (nI W) (541 + i) 1412) (nI W) (nI 1412)) 53 34 (nI (i + 1)) = K at *
  obtain ⟨s1, s2, s3, s4, s5, s6, s7⟩ := shN
  have fN : ∀ b k, ¬ b = 53 → ¬ (b = 0 ∧ k = 13) → fi K b k = fi M b k := fun b k z y => (F2.2.2.2 b k (fun q => z q.1)).trans (fN0 b k y)
  have f5 : ∀ k, ¬ (k = 0 ∨ k = 32 ∨ k = 34 ∨ k = 35) → fi K 53 k = fi M 53 k := fun k z => (F2.2.2.2 53 k (fun q => z q.2)).trans (fN0 53 k (by omega))
  have e13 : fi K 0 13 = nI (i + 1) := (F2.2.2.2 0 13 (by omega)).trans fN1
  have aK : ∀ b, ¬ b = 541 + i → ai K b = ai M b := fun b z => (F2.2.2.1 b z).trans (by rw [aN0])
  have hnK : nx K = nx M := by rw [F2.2.1.1]; exact s4
  have hWK : CW K ab sa ru sr li sn dk := F2.O.CW hWN (by rw [hnK]; exact hnx)
  have D : DF M K := ⟨by omega, fun b hb hc => by
    refine ⟨?_, ?_, ?_, ?_, ?_⟩
    · rw [F2.1.1, s1]
    · rw [F2.1.2.1, s2]
    · funext q; exact fN b q (by omega) (by omega)
    · rw [F2.1.2.2.1, s3]
    · exact aK b (by omega)⟩
  have q17K : aq K 17 = va_up (aq M 17) i (some dk) := by rw [F2.1.2.2.2.2]; exact q17
  have hR0 := R0_mk (i' := i + 1) (W' := W) h.1 hWK (fun b z => aK b (by unfold eA at z; omega)) (fun b k z => by
    by_cases hb : b = 53
    · subst hb; exact f5 k (by omega)
    · exact fN b k hb (by omega)) ⟨e13, e34, by omega, by rw [fN 0 14 (by omega) (by omega), f5 33 (by omega)]; exact i4⟩ ⟨e32, w2, Ch_t D h16 W dk _ _ (fun q hq k _ => by rw [aK (524 + q) (by omega)]) (fun k _ => by rw [aK 521 (by omega)]) w3⟩ (fun j hj => by
    by_cases hji : j = i
    · subst hji
      refine ⟨dk, W, w2, by rw [q17K, va_eq], by rw [aK1, img_0], ?_⟩
      exact Ch_t D h16 W dk _ _ (fun q hq k hk => by rw [aK1, img_b (by omega) hk]) (fun k hk => by rw [aK1, img_n hk]) w3
    · exact Im_t D h16 (by rw [q17K, va_ne hji]) (aK _ (by omega)) (h.1.2.2.2.2.2.2.2 j (by omega)))
  obtain ⟨⟨t1, t2, t3, t4⟩, c1, c2, c3⟩ := h.2
  refine ⟨_, _, _, cc, mm, ⟨hSN, s6, s7⟩, ⟨_, _, _, _, _, _, _, _, _, _, _, _, _, T, tx, hR0, ⟨by rw [fN 1 1 (by omega) (by omega)]; exact t1, by rw [f5 1 (by omega)]; exact t2, t3, fun q hq => ?_⟩, ?_, ?_, ?_⟩, by omega, ?_, ?_, ?_⟩
  · rw [aK 2 (by omega), aK 54 (by omega)]; exact t4 q hq
  · rw [fN 1 6 (by omega) (by omega), f5 3 (by omega)]; exact c1
  · rw [fN 0 15 (by omega) (by omega), aK 55 (by omega)]; exact c2
  · rw [fN 0 16 (by omega) (by omega), aK 55 (by omega)]; exact c3
  · rw [F2.2.1.2.1, s5]; omega
  · rw [F2.2.1.2.2.1, s6]
  · rw [F2.2.1.2.2.2, s7]
theorem q_restore {d : Nat} {M : MM} {ab sa ru sr li sn dk m c W i T : Nat} {A : AB} {tk : Nat → Nat × Nat} {tx : Nat → Nat} (h : RR M ab sa ru sr li sn dk A m tk c W i T tx) (hd : 200 ≤ d) : CDd d M 138 265 [.ref 0] [.ref 53] := by
  have hS := h.W.1
  have hW := h.W
  obtain ⟨-, hab, hru, hli, -, hDK, hdk, hdn, hnx⟩ := hW
  have hW := h.W
  obtain ⟨w1, w2, w3⟩ := h.1.2.2.2.2.2.2.1
  have h16 : A.1 ≤ 16 := h.1.2.1.2.1
  obtain ⟨i1, i2, i3, i4⟩ := h.1.2.2.2.2.2.1
  match i, h, i1, i2, i3 with
  | 0, h, i1, i2, i3 => exact cd_M h (c_restore_0 (d := d) hW i1 (by omega)) (m_restore_0 (d := d) (by omega) hS i2)
  | i + 1, h, i1, i2, i3 =>
    have hi3 : i < 3 := by omega
    obtain ⟨di, Wi, p1, p2, p3, p4⟩ := h.1.2.2.2.2.2.2.2 i (by omega)
    obtain ⟨bK, bd, bn, -, -, -⟩ := p4.b
    have cc := c_restore (d := d) hW i1 hi3 p2 (by omega)
    have hW1 : CW (setI M 0 13 (nI i)) ab sa ru sr li sn dk := KO_I.CW hW hnx
    have hW2 : CW (setR (setI M 0 13 (nI i)) 0 12 (some di)) ab sa ru sr li sn di := CW_dk hW1 bK bd bn
    have hSN : SH (setI (setQ (setR (setI M 0 13 (nI i)) 0 12 (some di)) 17 (va_up (aq M 17) i none)) 0 14 (nI 0)) := by rw [SH_setI]; exact SH_Q17 hW2.1
    have hWN : CW (setI (setQ (setR (setI M 0 13 (nI i)) 0 12 (some di)) 17 (va_up (aq M 17) i none)) 0 14 (nI 0)) ab sa ru sr li sn di := by
      obtain ⟨q1, q2, q3, q4, q5, q6, q7, q8, q9⟩ := hW2
      exact ⟨hSN, q2, q3, q4, q5, q6, q7, q8, q9⟩
    have fN0 : ∀ b k, ¬ (b = 0 ∧ (k = 13 ∨ k = 14)) → fi (setI (setQ (setR (setI M 0 13 (nI i)) 0 12 (some di)) 17 (va_up (aq M 17) i none)) 0 14 (nI 0)) b k = fi M b k := fun b k z => by
      by_cases hb : b = 0
      · subst hb
        rw [fi_nk (by omega)]
        show fi (setI M 0 13 (nI i)) 0 k = _
        rw [fi_nk (by omega)]
      · rw [fi_na hb]
        show fi (setI M 0 13 (nI i)) b k = _
        rw [fi_na hb]
    have fN1 : fi (setI (setQ (setR (setI M 0 13 (nI i)) 0 12 (some di)) 17 (va_up (aq M 17) i none)) 0 14 (nI 0)) 0 13 = nI i := by
      rw [fi_nk (by decide)]
      show fi (setI M 0 13 (nI i)) 0 13 = _
      exact fi_eq _ _ _ _
    have fN2 : fi (setI (setQ (setR (setI M 0 13 (nI i)) 0 12 (some di)) 17 (va_up (aq M 17) i none)) 0 14 (nI 0)) 0 14 = nI 0 := fi_eq _ _ _ _
    have mm := m_restore (d := d) (M := setI (setQ (setR (setI M 0 13 (nI i)) 0 12 (some di)) 17 (va_up (aq M 17) i none)) 0 14 (nI 0)) (W := nI W) (by omega) hSN (by rw [fN0 53 34 (by omega)]; exact i2) hi3 (by rw [fN0 53 32 (by omega)]; exact w1)
    have q17 : aq (setI (setQ (setR (setI M 0 13 (nI i)) 0 12 (some di)) 17 (va_up (aq M 17) i none)) 0 14 (nI 0)) 17 = va_up (aq M 17) i none := aq_eq _ _ _
    have aN0 : ai (setI (setQ (setR (setI M 0 13 (nI i)) 0 12 (some di)) 17 (va_up (aq M 17) i none)) 0 14 (nI 0)) = ai M := rfl
    have frN : ∀ b, ¬ b = 0 → fr (setI (setQ (setR (setI M 0 13 (nI i)) 0 12 (some di)) 17 (va_up (aq M 17) i none)) 0 14 (nI 0)) b = fr M b := fun b hb => by
      show fr (setR (setI M 0 13 (nI i)) 0 12 (some di)) b = fr M b
      funext q; exact fr_na hb
    have shN : sh (setI (setQ (setR (setI M 0 13 (nI i)) 0 12 (some di)) 17 (va_up (aq M 17) i none)) 0 14 (nI 0)) = sh M ∧ ln (setI (setQ (setR (setI M 0 13 (nI i)) 0 12 (some di)) 17 (va_up (aq M 17) i none)) 0 14 (nI 0)) = ln M ∧ nx (setI (setQ (setR (setI M 0 13 (nI i)) 0 12 (some di)) 17 (va_up (aq M 17) i none)) 0 14 (nI 0)) = nx M ∧ sl (setI (setQ (setR (setI M 0 13 (nI i)) 0 12 (some di)) 17 (va_up (aq M 17) i none)) 0 14 (nI 0)) = sl M ∧ sL (setI (setQ (setR (setI M 0 13 (nI i)) 0 12 (some di)) 17 (va_up (aq M 17) i none)) 0 14 (nI 0)) = sL M ∧ sX (setI (setQ (setR (setI M 0 13 (nI i)) 0 12 (some di)) 17 (va_up (aq M 17) i none)) 0 14 (nI 0)) = sX M := ⟨rfl, rfl, rfl, rfl, rfl, rfl⟩
    generalize setI (setQ (setR (setI M 0 13 (nI i)) 0 12 (some di)) 17 (va_up (aq M 17) i none)) 0 14 (nI 0) = N at *
    have F2 : Frm (fun b => b = 521 ∨ (524 ≤ b ∧ b < 540)) (fun k => k = 0 ∨ k = 32 ∨ k = 33 ∨ k = 34 ∨ k = 35) N (setI (pM (setI (setI N 53 0 (nI 0)) 53 34 (nI i)) (rsF (ai N) (541 + i) 1412) (ai N (541 + i) 0) (nI 1412)) 53 33 (nI 0)) := by
      unfold pM
      have F3 : Frm (fun b => b = 521 ∨ (524 ≤ b ∧ b < 540)) (fun k => k = 0 ∨ k = 32 ∨ k = 33 ∨ k = 34 ∨ k = 35) (setI (setI N 53 0 (nI 0)) 53 34 (nI i)) (setAF (setI (setI N 53 0 (nI 0)) 53 34 (nI i)) (rsF (ai N) (541 + i) 1412)) := ⟨⟨rfl, rfl, rfl, rfl, rfl⟩, ⟨rfl, rfl, rfl, rfl⟩, fun b hb => rsF_ne (fun z => hb (Or.inl z)) (fun z => hb (Or.inr z)), fun _ _ _ => rfl⟩
      exact (((((Frm.I (Or.inl rfl)).tr (Frm.I (Or.inr (Or.inr (Or.inr (Or.inl rfl)))))).tr F3).tr (Frm.I (Or.inr (Or.inl rfl)))).tr (Frm.I (Or.inr (Or.inr (Or.inr (Or.inr rfl)))))).tr (Frm.I (Or.inr (Or.inr (Or.inl rfl))))
    have aK1 : ∀ b, ai (setI (pM (setI (setI N 53 0 (nI 0)) 53 34 (nI i)) (rsF (ai N) (541 + i) 1412) (ai N (541 + i) 0) (nI 1412)) 53 33 (nI 0)) b = rsF (ai M) (541 + i) 1412 b := fun b => by rw [ai_setI, pm_ai, aN0]
    have e32 : fi (setI (pM (setI (setI N 53 0 (nI 0)) 53 34 (nI i)) (rsF (ai N) (541 + i) 1412) (ai N (541 + i) 0) (nI 1412)) 53 33 (nI 0)) 53 32 = nI Wi := by rw [fi_nk (by decide), pm_w, aN0]; exact p3
    have e33 : fi (setI (pM (setI (setI N 53 0 (nI 0)) 53 34 (nI i)) (rsF (ai N) (541 + i) 1412) (ai N (541 + i) 0) (nI 1412)) 53 33 (nI 0)) 53 33 = nI 0 := fi_eq _ _ _ _
    have e34 : fi (setI (pM (setI (setI N 53 0 (nI 0)) 53 34 (nI i)) (rsF (ai N) (541 + i) 1412) (ai N (541 + i) 0) (nI 1412)) 53 33 (nI 0)) 53 34 = nI i := by
      rw [fi_nk (by decide)]
      unfold pM
      rw [fi_nk (by decide), fi_nk (by decide)]
      show fi (setI (setI N 53 0 (nI 0)) 53 34 (nI i)) 53 34 = nI i
      exact fi_eq _ _ _ _
    generalize setI (pM (setI (setI N 53 0 (nI 0)) 53 34 (nI i)) (rsF (ai N) (541 + i) 1412) (ai N (541 + i) 0) (nI 1412)) 53 33 (nI 0) = K at *
    obtain ⟨s1, s2, s4, s5, s6, s7⟩ := shN
    have fN : ∀ b k, ¬ b = 53 → ¬ (b = 0 ∧ (k = 13 ∨ k = 14)) → fi K b k = fi M b k := fun b k z y => (F2.2.2.2 b k (fun q => z q.1)).trans (fN0 b k y)
    have f5 : ∀ k, ¬ (k = 0 ∨ k = 32 ∨ k = 33 ∨ k = 34 ∨ k = 35) → fi K 53 k = fi M 53 k := fun k z => (F2.2.2.2 53 k (fun q => z q.2)).trans (fN0 53 k (by omega))
    have e13 : fi K 0 13 = nI i := (F2.2.2.2 0 13 (by omega)).trans fN1
    have e14 : fi K 0 14 = nI 0 := (F2.2.2.2 0 14 (by omega)).trans fN2
    have aK : ∀ b, ¬ (b = 521 ∨ (524 ≤ b ∧ b < 540)) → ai K b = ai M b := fun b z => (F2.2.2.1 b z).trans (by rw [aN0])
    have hnK : nx K = nx M := by rw [F2.2.1.1]; exact s4
    have hWK : CW K ab sa ru sr li sn di := F2.O.CW hWN (by rw [hnK]; exact hnx)
    have D : DF M K := ⟨by omega, fun b hb hc => by
      refine ⟨?_, ?_, ?_, ?_, ?_⟩
      · rw [F2.1.1, s1]
      · rw [F2.1.2.1, s2]
      · funext q; exact fN b q (by omega) (by omega)
      · rw [F2.1.2.2.1]; exact frN b (by omega)
      · exact aK b (by omega)⟩
    have q17K : aq K 17 = va_up (aq M 17) i none := by rw [F2.1.2.2.2.2]; exact q17
    have r5 : ∀ k, k < 83 → ai K 521 k = ai M (541 + i) (1 + k) := fun k hk => by
      rw [aK1]
      unfold rsF
      rw [if_pos rfl, if_pos ⟨hk, by omega⟩]
    have r2 : ∀ q k, q < 16 → k < 83 → ai K (524 + q) k = ai M (541 + i) (84 + 83 * q + k) := fun q k hq hk => by
      rw [aK1]
      unfold rsF
      rw [if_neg (by omega), if_pos ⟨by omega, by omega⟩, Nat.add_sub_cancel_left, if_pos ⟨hk, by omega⟩]
    have hR0 := R0_mk (i' := i) (W' := Wi) h.1 hWK (fun b z => aK b (by unfold eA at z; omega)) (fun b k z => by
      by_cases hb : b = 53
      · subst hb; exact f5 k (by omega)
      · exact fN b k hb (by omega)) ⟨e13, e34, by omega, by rw [e14, e33]⟩ ⟨e32, p1, Ch_t D h16 Wi di _ _ (fun q hq k hk => r2 q k (by omega) hk) r5 p4⟩ (fun j hj => Im_t D h16 (by rw [q17K, va_ne (by omega)]) (aK _ (by omega)) (h.1.2.2.2.2.2.2.2 j (by omega)))
    obtain ⟨⟨t1, t2, t3, t4⟩, c1, c2, c3⟩ := h.2
    refine ⟨_, _, _, cc, mm, ⟨hSN, s6, s7⟩, ⟨_, _, _, _, _, _, _, _, _, _, _, _, _, T, tx, hR0, ⟨by rw [fN 1 1 (by omega) (by omega)]; exact t1, by rw [f5 1 (by omega)]; exact t2, t3, fun q hq => ?_⟩, ?_, ?_, ?_⟩, by omega, ?_, ?_, ?_⟩
    · rw [aK 2 (by omega), aK 54 (by omega)]; exact t4 q hq
    · rw [fN 1 6 (by omega) (by omega), f5 3 (by omega)]; exact c1
    · rw [fN 0 15 (by omega) (by omega), aK 55 (by omega)]; exact c2
    · rw [fN 0 16 (by omega) (by omega), aK 55 (by omega)]; exact c3
    · rw [F2.2.1.2.1, s5]; omega
    · rw [F2.2.1.2.2.1, s6]
    · rw [F2.2.1.2.2.2, s7]
