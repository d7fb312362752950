/-! ===== feed, undo, images, on both sides ===== -/
def eA (ab ru li : Nat) (b : Nat) : Prop := (ab ≤ b ∧ b ≤ ab + 7) ∨ b = ru + 2 ∨ (li ≤ b ∧ b ≤ li + 2) ∨ b = 57 ∨ b = 59 ∨ (78 ≤ b ∧ b < 94) ∨ (95 ≤ b ∧ b < 255) ∨ (417 ≤ b ∧ b < 427)
theorem R0_mk {M K : MM} {ab sa ru sr li sn dk dk' m c W W' i i' : Nat} {A : AB} {tk : Nat → Nat × Nat} (h : R0 M ab sa ru sr li sn dk A m tk c W i) (hWK : CW K ab sa ru sr li sn dk') (kA : ∀ b, eA ab ru li b → ai K b = ai M b) (kF : ∀ b k, b = ab ∨ b = ru ∨ b = li ∨ (b = 53 ∧ (k = 17 ∨ k = 31)) → fi K b k = fi M b k) (hi : fi K 0 13 = nI i' ∧ fi K 53 34 = nI i' ∧ i' ≤ 3 ∧ fi K 0 14 = fi K 53 33) (hc : fi K 53 32 = nI W' ∧ W' ≤ 16 ∧ Ch K A.1 A.2.1 (fun w => ai K (524 + w)) W' dk' (ai K 521)) (hm : ∀ j, j < i' → Im K A.1 A.2.1 j) : R0 K ab sa ru sr li sn dk' A m tk c W' i' := by
  obtain ⟨-, hA, hT, hL, hC, -, -, -⟩ := h
  exact ⟨hWK, CA_t (funext fun q => kF ab q (Or.inl rfl)) (fun q q1 q2 => kA _ (by unfold eA; omega)) hA, TD_t (kA 57 (by unfold eA; omega)) (kA 59 (by unfold eA; omega)) (fun p hp => kA _ (by unfold eA; omega)) hT, RLw_t (kF ru 3 (by omega)) (kA _ (by unfold eA; omega)) (kF 53 17 (by omega)) (fun b b1 b2 => kA b (by unfold eA; omega)) hL, CLs_t (kF li 2 (by omega)) (kF 53 31 (by omega)) (kA _ (by unfold eA; omega)) (kA _ (by unfold eA; omega)) (fun q hq => kA _ (by unfold eA; omega)) hC, hi, hc, hm⟩
theorem CW_dk {ab sa ru sr li sn dk dk' : Nat} {M : MM} (h : CW M ab sa ru sr li sn dk) (hK : DK M dk') (hd : dk' = 48 ∨ 548 ≤ dk') (hn : dk' + 4 < nx M) : CW (setR M 0 12 (some dk')) ab sa ru sr li sn dk' := by
  obtain ⟨hS, hab, hru, hli, ⟨f6, f7, f8, f9, f10, f11, f12⟩, hDK, hdk, hdn, hnx⟩ := h
  refine ⟨SH_R0 hS (by omega), hab, hru, hli, ⟨?_, ?_, ?_, ?_, ?_, ?_, ?_⟩, (Gf.R (S := fun b => b = 0) rfl).dk hn (fun b b1 b2 => by omega) hK, hd, hn, hnx⟩
  · rw [fr_nk (by decide)]; exact f6
  · rw [fr_nk (by decide)]; exact f7
  · rw [fr_nk (by decide)]; exact f8
  · rw [fr_nk (by decide)]; exact f9
  · rw [fr_nk (by decide)]; exact f10
  · rw [fr_nk (by decide)]; exact f11
  · rw [fr_eq]
theorem KO_I {M : MM} {a k : Nat} {x : Int32} : KOo M (setI M a k x) := ⟨Nat.le_refl _, fun _ _ => ⟨rfl, rfl, rfl, rfl⟩, fun _ _ z => z.elim, fun _ _ _ z => z.elim, rfl, rfl⟩
/-- undo -/
theorem q_undo {d : Nat} {M : MM} {ab sa ru sr li sn dk m c W i T : Nat} {A : AB} {tk : Nat → Nat × Nat} {tx : Nat → Nat} (h : RR M ab sa ru sr li sn dk A m tk c W i T tx) (hd : 200 ≤ d) : CDd d M 105 207 [.ref 0] [.ref 53] := by
  have hS := h.W.1
  have hW := h.W
  obtain ⟨-, hab, hru, hli, -, hDK, hdk, hdn, hnx⟩ := hW
  have hW := h.W
  obtain ⟨w1, w2, w3⟩ := h.1.2.2.2.2.2.2.1
  have h16 : A.1 ≤ 16 := h.1.2.1.2.1
  obtain ⟨i1, i2, i3, i4⟩ := h.1.2.2.2.2.2.1
  match W, h, w1, w2, w3 with
  | 0, h, w1, w2, w3 => exact cd_M h (c_undo_0 (d := d) hW w3.2 (by omega)) (m_undo_0 (d := d) (by omega) hS w1)
  | W + 1, h, w1, w2, w3 =>
    obtain ⟨-, bf, b1, b2⟩ := w3
    obtain ⟨bK, bd, bn, -, -, b10⟩ := b2.b
    have cc := c_undo_s (d := d) hW b1 bK.1 (by omega)
    rw [b10] at cc
    have hWN : CW (setI (setR M 0 12 (some bf)) 0 14 (nI 0)) ab sa ru sr li sn bf := KO_I.CW (CW_dk hW bK bd bn) hnx
    have mm := m_undo_s (d := d) (M := setI (setR M 0 12 (some bf)) 0 14 (nI 0)) (by omega) hWN.1 (by rw [fi_na (by decide)]; exact w1) (by omega)
    have F2 : Frm (fun b => b = 521) (fun k => k = 0 ∨ k = 32 ∨ k = 33) (setI (setR M 0 12 (some bf)) 0 14 (nI 0)) (setI (setA (setI (setI (setI (setR M 0 12 (some bf)) 0 14 (nI 0)) 53 0 (nI 0)) 53 32 (nI W)) 521 (cpR (ai (setI (setR M 0 12 (some bf)) 0 14 (nI 0)) (524 + W)) (ai (setI (setR M 0 12 (some bf)) 0 14 (nI 0)) 521))) 53 33 (nI 0)) := (((Frm.I (A := fun b => b = 521) (I := fun k => k = 0 ∨ k = 32 ∨ k = 33) (Or.inl rfl)).tr (Frm.I (Or.inr (Or.inl rfl)))).tr (Frm.A rfl)).tr (Frm.I (Or.inr (Or.inr rfl)))
    have e21 : ai (setI (setA (setI (setI (setI (setR M 0 12 (some bf)) 0 14 (nI 0)) 53 0 (nI 0)) 53 32 (nI W)) 521 (cpR (ai (setI (setR M 0 12 (some bf)) 0 14 (nI 0)) (524 + W)) (ai (setI (setR M 0 12 (some bf)) 0 14 (nI 0)) 521))) 53 33 (nI 0)) 521 = cpR (ai M (524 + W)) (ai M 521) := by rw [ai_setI, ai_eq]; rfl
    have e32 : fi (setI (setA (setI (setI (setI (setR M 0 12 (some bf)) 0 14 (nI 0)) 53 0 (nI 0)) 53 32 (nI W)) 521 (cpR (ai (setI (setR M 0 12 (some bf)) 0 14 (nI 0)) (524 + W)) (ai (setI (setR M 0 12 (some bf)) 0 14 (nI 0)) 521))) 53 33 (nI 0)) 53 32 = nI W := by rw [fi_nk (by decide), fi_setA, fi_eq]
    have e33 : fi (setI (setA (setI (setI (setI (setR M 0 12 (some bf)) 0 14 (nI 0)) 53 0 (nI 0)) 53 32 (nI W)) 521 (cpR (ai (setI (setR M 0 12 (some bf)) 0 14 (nI 0)) (524 + W)) (ai (setI (setR M 0 12 (some bf)) 0 14 (nI 0)) 521))) 53 33 (nI 0)) 53 33 = nI 0 := fi_eq _ _ _ _
    generalize setI (setA (setI (setI (setI (setR M 0 12 (some bf)) 0 14 (nI 0)) 53 0 (nI 0)) 53 32 (nI W)) 521 (cpR (ai (setI (setR M 0 12 (some bf)) 0 14 (nI 0)) (524 + W)) (ai (setI (setR M 0 12 (some bf)) 0 14 (nI 0)) 521))) 53 33 (nI 0) = K at *
    have fN : ∀ b k, ¬ b = 53 → ¬ (b = 0 ∧ k = 14) → fi K b k = fi M b k := fun b k z y => by
      rw [F2.2.2.2 b k (fun q => z q.1)]
      by_cases hb : b = 0
      · subst hb; rw [fi_nk (by omega)]; rfl
      · rw [fi_na hb]; rfl
    have f5 : ∀ k, ¬ (k = 0 ∨ k = 32 ∨ k = 33) → fi K 53 k = fi M 53 k := fun k z => by
      rw [F2.2.2.2 53 k (fun q => z q.2), fi_na (by decide)]; rfl
    have e14 : fi K 0 14 = nI 0 := by rw [F2.2.2.2 0 14 (by omega), fi_eq]
    have aK : ∀ b, ¬ b = 521 → ai K b = ai M b := fun b z => F2.2.2.1 b z
    have hnK : nx K = nx M := F2.2.1.1
    have hWK : CW K ab sa ru sr li sn bf := F2.O.CW hWN (by rw [hnK]; exact hnx)
    have D : DF M K := ⟨by omega, fun b hb hc => by
      refine ⟨?_, ?_, ?_, ?_, ?_⟩
      · rw [F2.1.1]; rfl
      · rw [F2.1.2.1]; rfl
      · funext q; exact fN b q (by omega) (by omega)
      · rw [F2.1.2.2.1]
        show fr (setR M 0 12 (some bf)) b = fr M b
        funext q; exact fr_na (by omega)
      · exact aK b (by omega)⟩
    have hR0 := R0_mk (i' := i) (W' := W) h.1 hWK (fun b z => aK b (by unfold eA at z; omega)) (fun b k z => by
      by_cases hb : b = 53
      · subst hb; exact f5 k (by omega)
      · exact fN b k hb (by omega)) ⟨by rw [fN 0 13 (by omega) (by omega)]; exact i1, by rw [f5 34 (by omega)]; exact i2, i3, by rw [e14, e33]⟩ ⟨e32, by omega, Ch_t D h16 W bf _ _ (fun q hq k _ => by rw [aK (524 + q) (by omega)]) (fun k hk => by rw [e21]; exact if_pos hk) b2⟩ (fun j hj => Im_t D h16 (by rw [F2.1.2.2.2.2]; rfl) (aK _ (by omega)) (h.1.2.2.2.2.2.2.2 j hj))
    obtain ⟨⟨t1, t2, t3, t4⟩, c1, c2, c3⟩ := h.2
    refine ⟨_, _, _, cc, mm, ⟨hWN.1, rfl, rfl⟩, ⟨_, _, _, _, _, _, _, _, _, _, _, _, _, T, tx, hR0, ⟨by rw [fN 1 1 (by omega) (by omega)]; exact t1, by rw [f5 1 (by omega)]; exact t2, t3, fun q hq => ?_⟩, ?_, ?_, ?_⟩, by omega, ?_, ?_, ?_⟩
    · rw [aK 2 (by omega), aK 54 (by omega)]; exact t4 q hq
    · rw [fN 1 6 (by omega) (by omega), f5 3 (by omega)]; exact c1
    · rw [fN 0 15 (by omega) (by omega), aK 55 (by omega)]; exact c2
    · rw [fN 0 16 (by omega) (by omega), aK 55 (by omega)]; exact c3
    · rw [F2.2.1.2.1]; show sl M ≤ _; omega
    · rw [F2.2.1.2.2.1]; rfl
    · rw [F2.2.1.2.2.2]; rfl
/-- feed -/
theorem q_feed {d : Nat} {x1 x2 x3 x4 x5 : Int32} {M : MM} {ab sa ru sr li sn dk m c W i T : Nat} {A : AB} {tk : Nat → Nat × Nat} {tx : Nat → Nat} (h : RR M ab sa ru sr li sn dk A m tk c W i T tx) (hd : 200 ≤ d) : CDd d M 99 162 [.ref 0, .int x1, .int x2, .int x3, .int x4, .int x5] [.ref 53, .int x1, .int x2, .int x3, .int x4, .int x5] := by
  have hS := h.W.1
  have hW := h.W
  obtain ⟨-, hab, hru, hli, -, -, -, -, hnx⟩ := hW
  obtain ⟨⟨t1, t2, t3, t4⟩, c1, c2, c3⟩ := h.2
  by_cases h6 : T + 20 ≤ 600
  · obtain ⟨N, cc, F1, u1, u6, u2⟩ := c_feed (d := d) (a := x1) (b := x2) (c := x3) (z := x4) (e := x5) hS t1 h6 (by omega)
    have hSN : SH N := F1.O.SH hS
    have nf : ∀ b, 3 ≤ b ∨ b = 0 → ¬ f2S b := fun b z y => by unfold f2S at y; omega
    have mm := m_feed (d := d) (a := x1) (b := x2) (c := x3) (z := x4) (e := x5) hSN (by rw [(F1.2.2 53 (nf _ (by omega))).1]; exact t2) h6 (by omega)
    have F2 : Frm (fun b => b = 54) (fun k => k = 0 ∨ k = 1) N (setI (setA (setI N 53 0 (nI 0)) 54 (fiF T 20 (fun j => nI (fdB x1 x2 x3 x4 x5 j)) (ai N 54))) 53 1 (nI (T + 20))) := ((Frm.I (A := fun b => b = 54) (I := fun k => k = 0 ∨ k = 1) (Or.inl rfl)).tr (Frm.A rfl)).tr (Frm.I (Or.inr rfl))
    have v1 : fi (setI (setA (setI N 53 0 (nI 0)) 54 (fiF T 20 (fun j => nI (fdB x1 x2 x3 x4 x5 j)) (ai N 54))) 53 1 (nI (T + 20))) 53 1 = nI (T + 20) := fi_eq _ _ _ _
    have v54 : ai (setI (setA (setI N 53 0 (nI 0)) 54 (fiF T 20 (fun j => nI (fdB x1 x2 x3 x4 x5 j)) (ai N 54))) 53 1 (nI (T + 20))) 54 = fiF T 20 (fun j => nI (fdB x1 x2 x3 x4 x5 j)) (ai M 54) := by rw [ai_setI, ai_eq, (F1.2.2 54 (nf _ (by omega))).2]
    generalize setI (setA (setI N 53 0 (nI 0)) 54 (fiF T 20 (fun j => nI (fdB x1 x2 x3 x4 x5 j)) (ai N 54))) 53 1 (nI (T + 20)) = K at *
    have k1 : KF ab ru li M N := F1.KX (fun b z y => by unfold f2S at y; unfold cA at z; omega) (fun b k z y => by unfold f2S at y; unfold cF at z; omega)
    have k2 : KF ab ru li N K := F2.KX (fun b z y => by unfold cA at z; omega) (fun k z y => by unfold cF at z; omega)
    have hR0 := h.1.t (k1.tr k2) (by rw [F2.2.1.1, F1.2.1.1]; exact hnx)
    have fN : ∀ b k, ¬ b = 53 → fi K b k = fi N b k := fun b k z => F2.2.2.2 b k (fun q => z q.1)
    refine ⟨_, _, _, cc, mm, ⟨hSN, F1.2.1.2.2.1, F1.2.1.2.2.2⟩, ⟨_, _, _, _, _, _, _, _, _, _, _, _, _, T + 20, fun j => if T ≤ j ∧ j < T + 20 then fdB x1 x2 x3 x4 x5 (j - T) else tx j, hR0, ⟨by rw [fN 1 1 (by omega)]; exact u1, v1, h6, fun q hq => ?_⟩, ?_, ?_, ?_⟩, ?_, ?_, ?_, ?_⟩
    · rw [F2.2.2.1 2 (by omega), u2, v54]
      unfold fiF
      by_cases hj : T ≤ q ∧ q < T + 20
      · simp only [if_pos hj]
        exact ⟨trivial, trivial, fdB_lt _ _ _ _ _ _⟩
      · simp only [if_neg hj]
        exact t4 q hq
    · rw [fN 1 6 (by omega), u6, F2.2.2.2 53 3 (by omega), (F1.2.2 53 (nf _ (by omega))).1]; exact c1
    · rw [fN 0 15 (by omega), F2.2.2.1 55 (by omega), (F1.2.2 0 (nf _ (by omega))).1, (F1.2.2 55 (nf _ (by omega))).2]; exact c2
    · rw [fN 0 16 (by omega), F2.2.2.1 55 (by omega), (F1.2.2 0 (nf _ (by omega))).1, (F1.2.2 55 (nf _ (by omega))).2]; exact c3
    · rw [F2.2.1.1, F1.2.1.1]; omega
    · rw [F2.2.1.2.1, F1.2.1.2.1]; omega
    · rw [F2.2.1.2.2.1]; exact F1.2.1.2.2.1
    · rw [F2.2.1.2.2.2]; exact F1.2.1.2.2.2
  · exact cd_M h (c_feed_n (d := d) hS t1 t3 (by omega) (by omega)) (m_feed_n (d := d) hS t2 t3 (by omega) (by omega))
