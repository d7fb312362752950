/-! ===== the class: work done ===== -/
theorem c_wk_desk {d dk n W : Nat} {N1 : MM} {pv : Nat → Nat → Nat} {row : Nat → Int32} (hS : SH N1) (hK : DK N1 dk) (hdk : dk = 48 ∨ 548 ≤ dk) (hdn : dk + 4 < nx N1) (hnx : nx N1 + 5 < 900000) (hD : DS N1 dk n pv row) (h16 : n ≤ 16) (hw : fi N1 dk 10 = nI W) (f12 : fr N1 0 12 = some dk) (hd : 9 ≤ d) :
    ∃ N2 N3 N4 N6, (evC d 27 [.ref (nx N1)] (toH (xO N1 3)) = some (.inl none, toH N2) ∧ SH N2 ∧ cl N2 (nx N1) = 3 ∧ fr N2 0 12 = some dk) ∧ (evC d 29 [.ref (nx N1), .ref dk] (toH N2) = some (.inl none, toH N3) ∧ SH N3 ∧ cl N3 (nx N1) = 3 ∧ fr N3 0 12 = some dk) ∧ (setR N3 (nx N1) 11 (some dk) = N4 ∧ SH N4 ∧ cl N4 (nx N1) = 3 ∧ cl N4 dk = 3 ∧ fr N4 0 12 = some dk ∧ fi N4 dk 10 = nI W) ∧ (setR (setI N4 (nx N1) 10 (nI (W + 1))) 0 12 (some (nx N1)) = N6 ∧ SH N6 ∧ DK N6 (nx N1) ∧ DS N6 (nx N1) n pv row ∧ fr N6 (nx N1) 11 = some dk ∧ fi N6 (nx N1) 10 = nI (W + 1) ∧ fr N6 0 12 = some (nx N1) ∧ (∀ k, ¬ k = 12 → fr N6 0 k = fr N1 0 k) ∧ fi N6 0 = fi N1 0) ∧ (∀ b, b < nx N1 → ¬ b = 0 → Sm N1 N6 b) ∧ nx N6 = nx N1 + 5 ∧ sl N6 = sl N1 + clN 3 + 58 ∧ sL N6 = sL N1 ∧ sX N6 = sX N1 := by
  have h548 := hS.1
  obtain ⟨N2, e2, G2a, x2, y2, K2, n2, a2, i2⟩ := c_newDesk (d := d) (M := N1) (by omega) hd
  have G2 : Gf (fun b => nx N1 ≤ b) N1 N2 := G2a _ (Nat.le_refl _)
  have S2 : SH N2 := Gf.SHx hS G2 (fun b hb => by omega)
  have K2d : DK N2 dk := G2.dk hdn (fun b h1 h2 => by omega) hK
  have D2d : DS N2 dk n pv row := G2.ds hdn (fun b h1 h2 => by omega) hD
  have f2 : fr N2 0 = fr N1 0 := (G2.2.2 0 (by omega) (by omega)).2.2.2.1
  obtain ⟨N3, e3, F3, D3, w3⟩ := c_copyFrom (d := d) hd K2 K2d (by omega) D2d h16
  have S3 : SH N3 := F3.SH S2
  have K3 : DK N3 (nx N1) := F3.DK K2
  have K3d : DK N3 dk := F3.DK K2d
  have G3 : Gf (fun b => nx N1 ≤ b) N1 N3 := G2.tr (F3.G.mono (fun b z => by unfold ceS at z; exact z.1))
  have f3 : fr N3 0 = fr N1 0 := (G3.2.2 0 (by omega) (by omega)).2.2.2.1
  have x3 : nx N3 = nx N1 + 5 := F3.2.1.1.trans x2
  have y3 : sl N3 = sl N1 + clN 3 + 58 := F3.2.1.2.1.trans y2
  have fi3 : fi N3 0 = fi N1 0 := (G3.2.2 0 (by omega) (by omega)).2.2.1
  have fi3d : fi N3 dk = fi N1 dk := (G3.2.2 dk (by omega) (by omega)).2.2.1
  have G4 : Gf (fun b => nx N1 = b) N3 (setR N3 (nx N1) 11 (some dk)) := Gf.R rfl
  have S4 : SH (setR N3 (nx N1) 11 (some dk)) := SH_RN S3 (by omega)
  have G6 : Gf (fun b => b = 0 ∨ nx N1 ≤ b) N1 (setR (setI (setR N3 (nx N1) 11 (some dk)) (nx N1) 10 (nI (W + 1))) 0 12 (some (nx N1))) := (((G3.mono (fun b z => Or.inr z)).tr (G4.mono (fun b z => Or.inr (Nat.le_of_eq z)))).tr ((Fc.I (S := fun b => b = 0 ∨ nx N1 ≤ b) (Or.inr (Nat.le_refl _))).G)).tr (Gf.R (S := fun b => b = 0 ∨ nx N1 ≤ b) (Or.inl rfl))
  have S5 : SH (setI (setR N3 (nx N1) 11 (some dk)) (nx N1) 10 (nI (W + 1))) := S4
  refine ⟨N2, N3, _, _, ⟨e2, S2, K2.1, by rw [f2]; exact f12⟩, ⟨e3, S3, K3.1, by rw [f3]; exact f12⟩, ⟨rfl, S4, by rw [cl_setR]; exact K3.1, by rw [cl_setR]; exact K3d.1, by rw [fr_na (by omega), f3]; exact f12, by rw [fi_setR, fi3d]; exact hw⟩, ⟨rfl, SH_R0 S5 (by omega), ?_, ?_, ?_, ?_, ?_, fun k hk => ?_, ?_⟩, fun b h1 h2 => G6.2.2 b h1 (by omega), x3, y3, G6.2.1.1, G6.2.1.2⟩
  · obtain ⟨dC, ⟨dF0, dF1, dF2, dF3⟩, ⟨dC1, dC2, dC3, dC4⟩, dN1, dN2, dN3, dN4⟩ := K3
    refine ⟨?_, ⟨?_, ?_, ?_, ?_⟩, ⟨?_, ?_, ?_, ?_⟩, ?_, ?_, ?_, ?_⟩
    · rw [cl_setR, cl_setI, cl_setR]; exact dC
    · rw [fr_na (by omega), fr_setI, fr_nk (by decide)]; exact dF0
    · rw [fr_na (by omega), fr_setI, fr_nk (by decide)]; exact dF1
    · rw [fr_na (by omega), fr_setI, fr_nk (by decide)]; exact dF2
    · rw [fr_na (by omega), fr_setI, fr_nk (by decide)]; exact dF3
    · rw [cl_setR, cl_setI, cl_setR]; exact dC1
    · rw [cl_setR, cl_setI, cl_setR]; exact dC2
    · rw [cl_setR, cl_setI, cl_setR]; exact dC3
    · rw [cl_setR, cl_setI, cl_setR]; exact dC4
    · rw [ln_setR, ln_setI, ln_setR]; exact dN1
    · rw [ln_setR, ln_setI, ln_setR]; exact dN2
    · rw [ln_setR, ln_setI, ln_setR]; exact dN3
    · rw [ln_setR, ln_setI, ln_setR]; exact dN4
  · obtain ⟨k4, k5, k6, kA, kS, k7, k8, k9⟩ := D3
    refine ⟨?_, ?_, ?_, fun p hp => ⟨?_, ?_, ?_⟩, fun s hs => ?_, ?_, ?_, ?_⟩
    · rw [fi_setR, fi_nk (by decide), fi_setR]; exact k4
    · rw [fi_setR, fi_nk (by decide), fi_setR]; exact k5
    · rw [fi_setR, fi_nk (by decide), fi_setR]; exact k6
    · rw [ai_setR, ai_setI, ai_setR]; exact (kA p hp).1
    · rw [ai_setR, ai_setI, ai_setR]; exact (kA p hp).2.1
    · rw [ai_setR, ai_setI, ai_setR]; exact (kA p hp).2.2
    · rw [ai_setR, ai_setI, ai_setR]; exact kS s hs
    · rw [fi_setR, fi_nk (by decide), fi_setR]; exact k7
    · rw [fi_setR, fi_nk (by decide), fi_setR]; exact k8
    · rw [fi_setR, fi_nk (by decide), fi_setR]; exact k9
  · rw [fr_na (by omega), fr_setI, fr_eq]
  · rw [fi_setR, fi_eq]
  · exact fr_eq _ _ _ _
  · rw [fr_nk hk, fr_setI, fr_na (by omega), f3]
  · funext k
    rw [fi_setR, fi_na (by omega), fi_setR, fi3]
