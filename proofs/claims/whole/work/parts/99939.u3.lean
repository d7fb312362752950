/-! ===== the class: summer ===== -/
def cS48 : Nat → Prop := fun b => b < 48
theorem bts_tr {n : Nat} {P : Nat → Prop} (h : ∀ p, p < n → P p) : bts n P = 2 ^ n - 1 := by
  rw [bts_all n]
  exact bts_congr (fun p hp => ⟨fun _ => trivial, fun _ => h p hp⟩)
theorem bts_fl {n : Nat} {P : Nat → Prop} (h : ∀ p, p < n → ¬ P p) : bts n P = 0 := (bts_uniq (Nat.two_pow_pos n) (fun i hi => ⟨fun z => absurd ((Nat.zero_testBit i).symm.trans z) (by decide), fun z => absurd z (h i hi)⟩)).symm
theorem sumW_z {n : Nat} {P : Nat → Prop} {f : Nat → Int32} (h : ∀ q, q < n → f q = nI 0) : sumW n P f = nI 0 := by
  induction n with
  | zero => rfl
  | succ n ih =>
    by_cases e : P n
    · rw [sumW_t e, ih (fun q hq => h q (by omega)), h n (by omega)]; rfl
    · rw [sumW_f e, ih (fun q hq => h q (by omega))]
theorem nw_DS {dk n : Nat} {pv : Nat → Nat → Nat} {M : MM} (h16 : n ≤ 16) (h4 : fi M dk 4 = nI (2 ^ n - 1)) (hf : ∀ k, ¬ k = 4 → fi M dk k = 0) (h1 : ∀ p, p < 16 → ai M (dk + 1) p = -1) (h2 : ai M (dk + 2) = fun _ => 0) (h3 : ai M (dk + 3) = fun _ => 0) (h5 : ai M (dk + 4) = fun _ => 0) : DS M dk n pv nwF := by
  have w0 : ∀ p, p < 16 → nwF p = nI 0 := fun p hp => if_neg (by omega)
  have w1 : ∀ p, p < 16 → nwF (16 + p) = nI 0 := fun p hp => if_neg (by omega)
  have w2 : ∀ p, p < 16 → nwF (32 + p) = -1 := fun p hp => if_pos (by omega)
  have w3 : ∀ p, nwF (48 + p) = nI 0 := fun p => if_neg (by omega)
  have w4 : ∀ p, nwF (64 + p) = nI 0 := fun p => if_neg (by omega)
  refine ⟨?_, ?_, ?_, fun p hp => ⟨?_, ?_, ?_⟩, fun s hs => ?_, ?_, ?_, ?_⟩
  · rw [h4, bts_tr (P := fun p => nwF p = 0) (fun p hp => w0 p (by omega))]
  · rw [hf 5 (by decide), bts_fl (fun p hp z => by rw [w0 p (by omega)] at z; revert z; decide)]; rfl
  · rw [hf 6 (by decide), bts_fl (fun p hp z => by rw [w1 p (by omega)] at z; revert z; decide)]; rfl
  · rw [h1 p (by omega), w2 p (by omega)]
  · rw [h2, w3]; rfl
  · rw [h3, w4]; rfl
  · rw [h5, sumW_z (fun q _ => w3 q)]; rfl
  · rw [hf 7 (by decide)]; rfl
  · rw [hf 8 (by decide)]; rfl
  · rw [hf 9 (by decide)]; rfl
/-- the class's object, its cells, and those that are spare -/
def CW (M : MM) (ab sa ru sr li sn dk : Nat) : Prop := SH M ∧ ((ab = 18 ∧ sa = 26) ∨ (ab = 26 ∧ sa = 18)) ∧ ((ru = 34 ∧ sr = 38) ∨ (ru = 38 ∧ sr = 34)) ∧ ((li = 42 ∧ sn = 45) ∨ (li = 45 ∧ sn = 42)) ∧ (fr M 0 6 = some ab ∧ fr M 0 7 = some sa ∧ fr M 0 8 = some ru ∧ fr M 0 9 = some sr ∧ fr M 0 10 = some li ∧ fr M 0 11 = some sn ∧ fr M 0 12 = some dk) ∧ DK M dk ∧ (dk = 48 ∨ 548 ≤ dk) ∧ dk + 4 < nx M ∧ nx M < 900000
theorem CW.X {M : MM} {ab sa ru sr li sn dk : Nat} (h : CW M ab sa ru sr li sn dk) : CXo M ab ru li dk := by
  obtain ⟨h1, h2, h3, h4, ⟨f6, f7, f8, f9, f10, f11, f12⟩, h6, h7, h8, h9⟩ := h
  exact ⟨h1, ABo_of h1 (by omega), RB_of h1 (by omega), LB_of h1 (by omega), h6, f6, f8, f10, f12, h9⟩
theorem Gf.ca {S : Nat → Prop} {M N : MM} {sa : Nat} {A : AB} (h : Gf S M N) (hb : sa + 7 < nx M) (hs : ∀ b, sa ≤ b → b ≤ sa + 7 → ¬ S b) (g : CAA M sa A) : CAA N sa A := by
  have e0 := (h.2.2 sa (by omega) (hs sa (by omega) (by omega))).2.2.1
  have ek : ∀ j, j < 8 → ai N (sa + j) = ai M (sa + j) := fun j hj => (h.2.2 (sa + j) (by omega) (hs (sa + j) (by omega) (by omega))).2.2.2.2.1
  unfold CAA CA at g ⊢
  rw [e0, ek 1 (by decide), ek 2 (by decide), ek 3 (by decide), ek 4 (by decide), ek 5 (by decide), ek 6 (by decide), ek 7 (by decide)]
  exact g
theorem Gf.ru {S : Nat → Prop} {M N : MM} {ru m : Nat} {tk : Nat → Nat × Nat} (h : Gf S M N) (hb : ru + 2 < nx M) (h1 : ¬ S ru) (h2 : ¬ S (ru + 2)) (g : RUs M ru m tk) : RUs N ru m tk := by
  unfold RUs at g ⊢
  rw [(h.2.2 ru (by omega) h1).2.2.1, (h.2.2 (ru + 2) (by omega) h2).2.2.2.2.1]
  exact g
def wS (ru li : Nat) : Nat → Prop := fun b => b = 0 ∨ b = ru ∨ b = ru + 2 ∨ b = li ∨ b = 17 ∨ 548 ≤ b
theorem c_newDesk {d : Nat} {M : MM} (hx : nx M < 900000) (hd : 9 ≤ d) : ∃ N, evC d 27 [.ref (nx M)] (toH (xO M 3)) = some (.inl none, toH N) ∧ (∀ S : Nat → Prop, S (nx M) → Gf S M N) ∧ nx N = nx M + 5 ∧ sl N = sl M + clN 3 + 58 ∧ DK N (nx M) ∧ fr N (nx M) 11 = none ∧ (∀ j, j < 4 → ai N (nx M + 1 + j) = fun _ => 0) ∧ fi N (nx M) = fun _ => 0 := by
  obtain ⟨K4, n4, a4⟩ := nwD_DK hx
  exact ⟨nwD M, c_dinit hx hd, fun S h => nwD_G h, nwD_nx M, nwD_sl M, K4, n4, a4, nwD_fi M⟩
theorem c_summer_t {d n T e ab sa ru sr li sn dk : Nat} {M : MM} {tx : Nat → Nat} {A : AB} (hW : CW M ab sa ru sr li sn dk) (hroom : nx M + 5 < 900000) (hd : 26 ≤ d) (hT : fi M 1 1 = nI T) (hT6 : T ≤ 600) (hb : ∀ i, i < 600 → ai M 2 i = sbI (tx i) ∧ tx i < 256) (hn : n ≤ T) (hp : pSum tx n 62 0 A0 (sp (blP tx) n 0) = .inr (A, e)) : ∃ N, evC d 100 [.ref 0, .int (nI n)] (toH M) = some (.inl (some (.int (nI A.1))), toH N) ∧ CW N sa ab ru sr li sn (nx M) ∧ Gf cS48 M N ∧ nx N = nx M + 5 ∧ sl N = sl M + clN 3 + 58 ∧ CAA N sa A ∧ (∀ tk, RUs N ru 0 tk) ∧ fi N li 2 = nI 0 ∧ DS N (nx M) A.1 A.2.1 nwF ∧ fr N (nx M) 11 = none ∧ fi N (nx M) 10 = nI 0 ∧ fi N 1 1 = nI 0 ∧ fi N 1 6 = -1 ∧ fi N 0 13 = nI 0 ∧ fi N 0 14 = nI 0 ∧ fi N 0 15 = fi M 0 15 ∧ fi N 0 16 = fi M 0 16 ∧ ai N 2 = ai M 2 := by
  obtain ⟨hS, hab, hru, hli, ⟨f6, f7, f8, f9, f10, f11, f12⟩, hDK, hdk, hdn, hnx⟩ := hW
  have hnx5 := hS.1
  have hB : ABo M sa := ABo_of hS (by omega)
  obtain ⟨Na, e0, F0, C0, -⟩ := c_open (d := d - 1) (n := n) hS hb (by omega) (by omega)
  obtain ⟨N0, e1, F1, C1, P1, -⟩ := c_al_read (d := d - 1) (sa := sa) C0 (F0.AB hB) (by omega)
  rw [hp] at C1 e1
  have C1 : CS N0 tx n (.inr e) := C1
  rw [bI_t (p := ∃ a, stO (.inr (A, e) : PR AB) = .inr a) ⟨e, rfl⟩] at e1
  have A1 := P1 A e hp
  have h16 : A.1 ≤ 16 := A1.2.1
  have G : Fc (alS sa) M N0 := (F0.mono (fun b z => Or.inl z)).tr F1
  have hq := c_reqA_1 (d := d - 1) (by omega) hS
  have h2 : ¬ T < n := by omega
  have hSa := C0.1
  have hS0 := C1.1
  have frN : fr N0 = fr M := G.1.2.2.1
  have z7 : fr Na 0 7 = some sa := by rw [F0.1.2.2.1]; exact f7
  have y7 : fr N0 0 7 = some sa := by rw [frN]; exact f7
  have y6 : fr N0 0 6 = some ab := by rw [frN]; exact f6
  have bCa := (F0.AB hB).2.1
  -- the albums change places
  have G1 : Gf (fun b => b = 0) N0 (setR (setR N0 0 6 (some sa)) 0 7 (some ab)) := (Gf.R (S := fun b => b = 0) rfl).tr (Gf.R (S := fun b => b = 0) rfl)
  have hS1 : SH (setR (setR N0 0 6 (some sa)) 0 7 (some ab)) := SH_R0 (SH_R0 hS0 (by omega)) (by omega)
  have s6 : fr (setR (setR N0 0 6 (some sa)) 0 7 (some ab)) 0 6 = some sa := by rw [fr_nk (by decide), fr_eq]
  have s7 : fr (setR (setR N0 0 6 (some sa)) 0 7 (some ab)) 0 7 = some ab := fr_eq _ _ _ _
  have sk : ∀ k, 8 ≤ k → fr (setR (setR N0 0 6 (some sa)) 0 7 (some ab)) 0 k = fr M 0 k := fun k hk => by rw [fr_nk (by omega), fr_nk (by omega), frN]
  have sfi : fi (setR (setR N0 0 6 (some sa)) 0 7 (some ab)) 0 = fi M 0 := (G.2.2 0 (by unfold alS; omega)).1
  have snx : nx (setR (setR N0 0 6 (some sa)) 0 7 (some ab)) = nx M := G.2.1.1
  have ssl : sl (setR (setR N0 0 6 (some sa)) 0 7 (some ab)) = sl M := G.2.1.2.1
  generalize hN1 : setR (setR N0 0 6 (some sa)) 0 7 (some ab) = N1 at *
  -- the rule, the lines
  obtain ⟨N2, e2, F2, R2⟩ := c_setDefault (d := d - 1) (RB_of hS1 (show ru = 34 ∨ ru = 38 by omega)) (by omega)
  have hS2 : SH N2 := F2.SH hS1
  have fr2 : fr N2 = fr N1 := F2.1.2.2.1
  have B2 : LB N2 li := LB_of hS2 (show li = 42 ∨ li = 45 by omega)
  have e3 := c_li_clear (d := d - 1) B2 (by omega)
  have F3 : Fc (fun b => b = li) N2 (setI N2 li 2 (nI 0)) := Fc.I rfl
  have l3 : fi (setI N2 li 2 (nI 0)) li 2 = nI 0 := fi_eq _ _ _ _
  generalize hN3 : setI N2 li 2 (nI 0) = N3 at *
  have hS3 : SH N3 := F3.SH hS2
  have fr3 : fr N3 = fr N1 := F3.1.2.2.1.trans fr2
  have nx3 : nx N3 = nx M := (F3.2.1.1.trans F2.2.1.1).trans snx
  have sl3 : sl N3 = sl M := (F3.2.1.2.1.trans F2.2.1.2.1).trans ssl
  have fi3 : fi N3 0 = fi M 0 := by rw [(F3.2.2 0 (by omega)).1, (F2.2.2 0 (by unfold r2S; omega)).1]; exact sfi
  -- the desk
  obtain ⟨N4, e4, G4a, x4, y4, K4, n4, a4, i4⟩ := c_newDesk (d := d - 1) (M := N3) (by omega) (by omega)
  have e4' : ∀ t l s, ev (d - 1) (sq (lf (.new 37) [3]) t) (l, s, toH N3) = ev (d - 1) t (l, .ref (nx N3) :: s, toH (xO N3 3)) := fun t l s => x_new_3 (by omega)
  have G4 : Gf (fun b => 548 ≤ b) N3 N4 := G4a _ (by omega)
  have G4b : Gf (fun b => cS48 b ∨ nx M ≤ b) N3 N4 := G4a _ (Or.inr (by omega))
  rw [sl3] at y4
  rw [nx3] at e4 e4' K4 n4 a4 i4 x4
  have hS4 : SH N4 := Gf.SHx hS3 G4 (fun b hb => by omega)
  have fr4 : fr N4 0 = fr N1 0 := by rw [(G4.2.2 0 (by omega) (by omega)).2.2.2.1, fr3]
  have fi4 : fi N4 0 = fi M 0 := by rw [(G4.2.2 0 (by omega) (by omega)).2.2.1, fi3]
  have G5 : Gf (fun b => b = 0) N4 (setR N4 0 12 (some (nx M))) := Gf.R rfl
  have hS5 : SH (setR N4 0 12 (some (nx M))) := SH_R0 hS4 (by omega)
  have K5 : DK (setR N4 0 12 (some (nx M))) (nx M) := G5.dk (by omega) (fun b h1 h2 => by omega) K4
  have q12 : fr (setR N4 0 12 (some (nx M))) 0 12 = some (nx M) := fr_eq _ _ _ _
  have qk : ∀ k, ¬ k = 12 → fr (setR N4 0 12 (some (nx M))) 0 k = fr N1 0 k := fun k hk => by rw [fr_nk hk, fr4]
  have qn : fr (setR N4 0 12 (some (nx M))) (nx M) 11 = none := by rw [fr_na (by omega)]; exact n4
  have qfi : fi (setR N4 0 12 (some (nx M))) = fi N4 := rfl
  have qai : ai (setR N4 0 12 (some (nx M))) = ai N4 := rfl
  have qnx : nx (setR N4 0 12 (some (nx M))) = nx M + 5 := x4
  have qsl : sl (setR N4 0 12 (some (nx M))) = sl M + clN 3 + 58 := y4
  generalize hN5 : setR N4 0 12 (some (nx M)) = N5 at *
  have G05 : Gf (wS ru li) N0 N5 := ((((G1.mono (fun b z => Or.inl z)).tr (F2.G.mono (fun b z => Or.inr (z.elim Or.inl (fun z => Or.inr (Or.inl z)))))).tr (F3.G.mono (fun b z => Or.inr (Or.inr (Or.inr (Or.inl z)))))).tr (G4.mono (fun b z => Or.inr (Or.inr (Or.inr (Or.inr (Or.inr z))))))).tr (G5.mono (fun b z => Or.inl z))
  have A5 : CAA N5 sa A := G05.ca (by rw [G.2.1.1]; omega) (fun b h1 h2 => by unfold wS; omega) A1
  have a7 : fi N5 sa 7 = nI A.1 := A5.1
  have hB5 : ABo N5 sa := ABo_of hS5 (by omega)
  have aC5 := hB5.2.1
  have e6 := c_begin (d := d - 1) (n := A.1) K5 h16 (by omega)
  have F6 : Fc (fun b => b = nx M ∨ b = nx M + 1) N5 (setA (setI N5 (nx M) 4 (nI (2 ^ A.1 - 1))) (nx M + 1) (cpN 16 (fun _ => -1) (ai N5 (nx M + 1)))) := (Fc.I (Or.inl rfl)).tr (Fc.A (Or.inr rfl))
  have D6 : DS (setA (setI N5 (nx M) 4 (nI (2 ^ A.1 - 1))) (nx M + 1) (cpN 16 (fun _ => -1) (ai N5 (nx M + 1)))) (nx M) A.1 A.2.1 nwF := nw_DS h16 (by rw [fi_setA, fi_eq]) (fun k hk => by rw [fi_setA, fi_nk hk, qfi, i4]) (fun p hp => by rw [ai_eq, cpN_lt hp]) (by rw [ai_ne (by omega), ai_setI, qai]; exact a4 1 (by decide)) (by rw [ai_ne (by omega), ai_setI, qai]; exact a4 2 (by decide)) (by rw [ai_ne (by omega), ai_setI, qai]; exact a4 3 (by decide))
  have w10 : fi (setA (setI N5 (nx M) 4 (nI (2 ^ A.1 - 1))) (nx M + 1) (cpN 16 (fun _ => -1) (ai N5 (nx M + 1)))) (nx M) 10 = nI 0 := by rw [fi_setA, fi_nk (by decide), qfi, i4]; rfl
  generalize hN6 : setA (setI N5 (nx M) 4 (nI (2 ^ A.1 - 1))) (nx M + 1) (cpN 16 (fun _ => -1) (ai N5 (nx M + 1))) = N6 at *
  have hS6 : SH N6 := F6.SH hS5
  have F7 : Fc (fun b => b = 0) N6 (setI N6 0 14 (nI 0)) := Fc.I rfl
  have v14 : fi (setI N6 0 14 (nI 0)) 0 14 = nI 0 := fi_eq _ _ _ _
  have vk : ∀ k, ¬ k = 14 → fi (setI N6 0 14 (nI 0)) 0 k = fi M 0 k := fun k hk => by rw [fi_nk hk, (F6.2.2 0 (by omega)).1, qfi, fi4]
  generalize hN7 : setI N6 0 14 (nI 0) = N7 at *
  have hS7 : SH N7 := F7.SH hS6
  have e8 := c_dropImages (d := d - 1) hS7 (by omega)
  have G8 : Gf (fun b => b = 0 ∨ b = 17) N7 (setQ (setI N7 0 13 (nI 0)) 17 (clQ 3 (aq N7 17))) := ((Fc.I (S := fun b => b = 0 ∨ b = 17) (Or.inl rfl)).G).tr (Gf.Q (Or.inr rfl))
  have hS8 : SH (setQ (setI N7 0 13 (nI 0)) 17 (clQ 3 (aq N7 17))) := SH_Q17 hS7
  have t13 : fi (setQ (setI N7 0 13 (nI 0)) 17 (clQ 3 (aq N7 17))) 0 13 = nI 0 := by rw [fi_setQ, fi_eq]
  have tk : ∀ k, ¬ k = 13 → fi (setQ (setI N7 0 13 (nI 0)) 17 (clQ 3 (aq N7 17))) 0 k = fi N7 0 k := fun k hk => by rw [fi_setQ, fi_nk hk]
  have fr8 : fr (setQ (setI N7 0 13 (nI 0)) 17 (clQ 3 (aq N7 17))) = fr N7 := rfl
  have nx8 : nx (setQ (setI N7 0 13 (nI 0)) 17 (clQ 3 (aq N7 17))) = nx N7 := rfl
  have sl8 : sl (setQ (setI N7 0 13 (nI 0)) 17 (clQ 3 (aq N7 17))) = sl N7 := rfl
  generalize hN8 : setQ (setI N7 0 13 (nI 0)) 17 (clQ 3 (aq N7 17)) = N8 at *
  have fr85 : fr N8 = fr N5 := fr8.trans (F7.1.2.2.1.trans F6.1.2.2.1)
  have nx85 : nx N8 = nx M + 5 := nx8.trans ((F7.2.1.1.trans F6.2.1.1).trans qnx)
  have sl85 : sl N8 = sl M + clN 3 + 58 := sl8.trans ((F7.2.1.2.1.trans F6.2.1.2.1).trans qsl)
  have nx6 : nx N6 = nx M + 5 := F6.2.1.1.trans qnx
  have nx7 : nx N7 = nx M + 5 := F7.2.1.1.trans nx6
  have G68 : Gf (fun b => b = 0 ∨ b = 17) N6 N8 := (F7.G.mono (fun b z => Or.inl z)).tr G8
  have G58 : Gf (fun b => b = 0 ∨ b = 17 ∨ b = nx M ∨ b = nx M + 1) N5 N8 := (F6.G.mono (fun b z => Or.inr (Or.inr z))).tr (G68.mono (fun b z => z.elim Or.inl (fun z => Or.inr (Or.inl z))))
  have G38 : Gf (fun b => b = 0 ∨ b = 17 ∨ 548 ≤ b) N3 N8 := ((G4.mono (fun b z => Or.inr (Or.inr z))).tr (G5.mono (fun b z => Or.inl z))).tr (G58.mono (fun b z => by omega))
  have G28 : Gf (fun b => b = 0 ∨ b = 17 ∨ b = li ∨ 548 ≤ b) N2 N8 := (F3.G.mono (fun b z => Or.inr (Or.inr (Or.inl z)))).tr (G38.mono (fun b z => by omega))
  have G08 : Gf (wS ru li) N0 N8 := G05.tr (G58.mono (fun b z => by unfold wS; omega))
  have A8 : CAA N8 sa A := G58.ca (by omega) (fun b h1 h2 => by omega) A5
  have a8 : fi N8 sa 7 = nI A.1 := A8.1
  have K8 : DK N8 (nx M) := G68.dk (by omega) (fun b h1 h2 => by omega) (F6.DK K5)
  have D8 : DS N8 (nx M) A.1 A.2.1 nwF := G68.ds (by omega) (fun b h1 h2 => by omega) D6
  have s1 := G08.2.2 1 (by rw [G.2.1.1]; omega) (by unfold wS; omega)
  have s2 := G08.2.2 2 (by rw [G.2.1.1]; omega) (by unfold wS; omega)
  have nx2 : nx N2 = nx M := F2.2.1.1.trans snx
  refine ⟨N8, ?_, ⟨hS8, by omega, hru, hli, ⟨?_, ?_, ?_, ?_, ?_, ?_, ?_⟩, K8, Or.inr (by omega), by omega, by omega⟩, ?_, nx85, sl85, A8, fun tk => ?_, ?_, D8, ?_, ?_, ?_, ?_, t13, ?_, ?_, ?_, ?_⟩
  · have b8 : fr N8 0 6 = some sa := by rw [fr85, qk 6 (by decide)]; exact s6
    have hB8 : ABo N8 sa := ABo_of hS8 (by omega)
    have aC8 := hB8.2.1
    have u8 : fr N1 0 8 = some ru := by rw [sk 8 (by decide)]; exact f8
    have u10 : fr N2 0 10 = some li := by rw [fr2, sk 10 (by decide)]; exact f10
    have u6 : fr N5 0 6 = some sa := by rw [qk 6 (by decide)]; exact s6
    have rC1 := (RB_of hS1 (show ru = 34 ∨ ru = 38 by omega)).2.1
    have lC2 := B2.2.1
    have kC5 := K5.1
    rw [E_X9_summer (by omega)]
    simp (disch := first | assumption | (simp (disch := first | assumption | omega) only [sh_setI', ln_setI', fr_setI', ai_setI', al_setI', aq_setI', nx_setI', sl_setI', sL_setI', sX_setI', cl_setI', sh_setR', ln_setR', fi_setR', ai_setR', al_setR', aq_setR', nx_setR', sl_setR', sL_setR', sX_setR', cl_setR', sh_setA', ln_setA', fi_setA', fr_setA', al_setA', aq_setA', nx_setA', sl_setA', sL_setA', sX_setA', cl_setA', sh_setL', ln_setL', fi_setL', fr_setL', ai_setL', aq_setL', nx_setL', sl_setL', sL_setL', sX_setL', cl_setL', sh_setQ', ln_setQ', fi_setQ', fr_setQ', ai_setQ', al_setQ', nx_setQ', sl_setQ', sL_setQ', sX_setQ', cl_setQ', ai_eq, ai_ne, al_eq, al_ne, aq_eq, aq_ne, fi_eq, fi_nk, fi_na, fr_eq, fr_nk, fr_na, up_eq, up_ne, SH_setI', SH_setA', SH_setL', List.length_cons, List.length_nil, C_0, C_1, C_2, C_3, C_4, C_5, C_6, C_7, C_8, C_9, C_10, C_11, C_12, C_13, C_14, C_15, C_16, C_17, C_18, C_19, C_20, C_21, C_22, C_23, C_24, C_25, C_26, C_27, C_28, C_29, C_30, C_31, C_32, C_33, C_34, C_35, C_36, C_37, C_38, C_39, C_40, C_41, C_42, C_43, C_44, C_45, C_46, C_47, C_48, C_49, C_50, C_51, C_52, N_2, N_4, N_5, N_6, N_9, N_10, N_11, N_13, N_14, N_15, N_16, N_17, N_19, N_20, N_21, N_22, N_23, N_24, N_25, N_27, N_28, N_29, N_30, N_31, N_32, N_33, N_35, N_36, N_37, N_39, N_40, N_41, N_43, N_44, N_46, N_47, N_49, N_50, N_51, N_52, F_1_0, F_0_0, F_3_0, F_3_1, F_3_2, F_0_1, F_0_2, F_8_0, F_8_1, F_8_2, F_0_3, F_12_0, F_12_1, F_12_2, F_12_3, F_0_4, F_0_5, F_18_0, F_18_1, F_18_2, F_18_3, F_18_4, F_18_5, F_18_6, F_26_0, F_26_1, F_26_2, F_26_3, F_26_4, F_26_5, F_26_6, F_34_0, F_34_1, F_34_2, F_38_0, F_38_1, F_38_2, F_42_0, F_42_1, F_45_0, F_45_1, F_48_0, F_48_1, F_48_2, F_48_3] <;> first | omega | assumption) | omega) only [Ev, ev_sqb, t_X9_summer_k20, x_iconst_0, y_iconst_0, t_X9_summer_k21, x_iv1, y_iv1, x_aload_n0, y_aload_n0, x_gf_8_0, y_gf_8_0, x_iload_n1, y_iload_n1, x_gf_8_7, y_gf_8_7, x_ifCond_ne, y_ifCond_ne, x_gf_7_5, y_gf_7_5, x_bipush_10, y_bipush_10, x_isub, y_isub, y_iret, x_gf_8_6, y_gf_8_6, x_astore_n2, y_astore_n2, x_pf_8_6, y_pf_8_6, x_aload_n2, y_aload_n2, x_pf_8_7, y_pf_8_7, x_gf_8_8, y_gf_8_8, x_iv0, y_iv0, x_gf_8_10, y_gf_8_10, x_new_3, y_new_3, x_dup_i, y_dup_i, x_dup_r, y_dup_r, x_ip0, y_ip0, x_pf_8_12, y_pf_8_12, x_gf_8_12, y_gf_8_12, x_gf_0_7, y_gf_0_7, x_pf_8_14, y_pf_8_14, t_X9_summer, x_ifCond_lt, y_ifCond_lt, x_gf_7_1, y_gf_7_1, x_if_icmp_gt, y_if_icmp_gt, x_iconst_1, y_iconst_1, x_goto, y_goto, ev_bk, sq0, sq1, sq2, bk0, bk1, bk2, sq_if, bk_if, rt_if, cr_if, cr0, cr1, crE, rt1, rtE, va_rf_s, va_rf_n, ls_0, ls_1i, ls_1r, ls_1n, ls_1j, ls_1l, ls_2, ls_3, ls_4, ls_5, ls_6, ls_7, ls_8, ls_9, ls_10, ls_11, ls_12, nI_add, nI_ltI, nI_eq, nI_eq0, nI_lt0, nI_0lt, nI_n1, n1_nI, n1_lt, lt_n1, n1_0, n1_n1, n1_l0, if_true, if_false, ite_true, ite_false, bI_0, bI_1, not_true_eq_false, not_false_eq_true, Ew_i, Er_i, Lq_c, Lq_j, Lq_n, Nat.reduceAdd, Nat.zero_add, Nat.add_zero, Nat.lt_irrefl, Bool.false_eq_true, Nat.reduceEqDiff, Nat.reduceLT, Nat.reduceSub, Nat.reduceMul, Nat.one_ne_zero, C_0, C_1, C_2, C_3, C_4, C_5, C_6, C_7, C_8, C_9, C_10, C_11, C_12, C_13, C_14, C_15, C_16, C_17, C_18, C_19, C_20, C_21, C_22, C_23, C_24, C_25, C_26, C_27, C_28, C_29, C_30, C_31, C_32, C_33, C_34, C_35, C_36, C_37, C_38, C_39, C_40, C_41, C_42, C_43, C_44, C_45, C_46, C_47, C_48, C_49, C_50, C_51, C_52, N_2, N_4, N_5, N_6, N_9, N_10, N_11, N_13, N_14, N_15, N_16, N_17, N_19, N_20, N_21, N_22, N_23, N_24, N_25, N_27, N_28, N_29, N_30, N_31, N_32, N_33, N_35, N_36, N_37, N_39, N_40, N_41, N_43, N_44, N_46, N_47, N_49, N_50, N_51, N_52, F_1_0, F_0_0, F_3_0, F_3_1, F_3_2, F_0_1, F_0_2, F_8_0, F_8_1, F_8_2, F_0_3, F_12_0, F_12_1, F_12_2, F_12_3, F_0_4, F_0_5, F_18_0, F_18_1, F_18_2, F_18_3, F_18_4, F_18_5, F_18_6, F_26_0, F_26_1, F_26_2, F_26_3, F_26_4, F_26_5, F_26_6, F_34_0, F_34_1, F_34_2, F_38_0, F_38_1, F_38_2, F_42_0, F_42_1, F_45_0, F_45_1, F_48_0, F_48_1, F_48_2, F_48_3, sh_setI', ln_setI', fr_setI', ai_setI', al_setI', aq_setI', nx_setI', sl_setI', sL_setI', sX_setI', cl_setI', sh_setR', ln_setR', fi_setR', ai_setR', al_setR', aq_setR', nx_setR', sl_setR', sL_setR', sX_setR', cl_setR', sh_setA', ln_setA', fi_setA', fr_setA', al_setA', aq_setA', nx_setA', sl_setA', sL_setA', sX_setA', cl_setA', sh_setL', ln_setL', fi_setL', fr_setL', ai_setL', aq_setL', nx_setL', sl_setL', sL_setL', sX_setL', cl_setL', sh_setQ', ln_setQ', fi_setQ', fr_setQ', ai_setQ', al_setQ', nx_setQ', sl_setQ', sL_setQ', sX_setQ', cl_setQ', ai_eq, ai_ne, al_eq, al_ne, aq_eq, aq_ne, fi_eq, fi_nk, fi_na, fr_eq, fr_nk, fr_na, up_eq, up_ne, hT, h2, hq, e0, z7, e1, y7, y6, hN1, u8, e2, u10, e3, e4', e4, hN5, q12, u6, a7, e6, hN7, e8, b8, a8]
  · rw [fr85, qk 6 (by decide)]; exact s6
  · rw [fr85, qk 7 (by decide)]; exact s7
  · rw [fr85, qk 8 (by decide), sk 8 (by decide)]; exact f8
  · rw [fr85, qk 9 (by decide), sk 9 (by decide)]; exact f9
  · rw [fr85, qk 10 (by decide), sk 10 (by decide)]; exact f10
  · rw [fr85, qk 11 (by decide), sk 11 (by decide)]; exact f11
  · rw [fr85]; exact q12
  · have G8' : Gf (fun b => cS48 b ∨ nx M ≤ b) M N8 := ((G.G).mono (fun b z => Or.inl (by unfold alS at z; unfold cS48; omega))).tr (((((G1.mono (fun b z => Or.inl (by unfold cS48; omega))).tr (F2.G.mono (fun b z => Or.inl (by unfold r2S at z; unfold cS48; omega)))).tr (F3.G.mono (fun b z => Or.inl (by unfold cS48; omega)))).tr G4b).tr ((G5.mono (fun b z => Or.inl (by unfold cS48; omega))).tr (G58.mono (fun b z => by unfold cS48; omega))))
    exact ⟨G8'.1, G8'.2.1, fun b h1 h2 => G8'.2.2 b h1 (fun z => z.elim h2 (fun z => by omega))⟩
  · exact G28.ru (by omega) (by omega) (by omega) (R2 tk)
  · rw [(G38.2.2 li (by omega) (by omega)).2.2.1]; exact l3
  · rw [fr85]; exact qn
  · rw [(G68.2.2 (nx M) (by omega) (by omega)).2.2.1]; exact w10
  · rw [s1.2.2.1]; exact C1.2.1.1.2
  · rw [s1.2.2.1]; exact C1.2.2.2.2.2
  · rw [tk 14 (by decide)]; exact v14
  · rw [tk 15 (by decide), vk 15 (by decide)]
  · rw [tk 16 (by decide), vk 16 (by decide)]
  · rw [s2.2.2.2.2.1]; exact (G.2.2 2 (by unfold alS; omega)).2
