/-! ===== the relation between class and reference: its parts, and what keeps them ===== -/
def cA (ab ru li : Nat) (b : Nat) : Prop := (ab ≤ b ∧ b ≤ ab + 7) ∨ b = ru + 2 ∨ (li ≤ b ∧ b ≤ li + 2) ∨ (48 ≤ b ∧ b ≤ 52) ∨ b = 57 ∨ b = 59 ∨ (78 ≤ b ∧ b < 94) ∨ (95 ≤ b ∧ b < 255) ∨ (417 ≤ b ∧ b < 427) ∨ b = 521 ∨ (524 ≤ b ∧ b < 540) ∨ (541 ≤ b ∧ b < 544) ∨ 548 ≤ b
def cF (ab ru li : Nat) (b k : Nat) : Prop := b = ab ∨ b = ru ∨ b = li ∨ (48 ≤ b ∧ b ≤ 52) ∨ 548 ≤ b ∨ (b = 0 ∧ (k = 13 ∨ k = 14)) ∨ (b = 53 ∧ (k = 17 ∨ k = 31 ∨ k = 32 ∨ k = 33 ∨ k = 34))
def KX (A : Nat → Prop) (F : Nat → Nat → Prop) (M N : MM) : Prop := nx M ≤ nx N ∧ (∀ b, b < nx M → sh N b = sh M b ∧ ln N b = ln M b ∧ fr N b = fr M b ∧ aq N b = aq M b) ∧ (∀ b, b < nx M → A b → ai N b = ai M b) ∧ (∀ b k, b < nx M → F b k → fi N b k = fi M b k) ∧ sL N = sL M ∧ sX N = sX M
theorem KX.rf {A : Nat → Prop} {F : Nat → Nat → Prop} (M : MM) : KX A F M M := ⟨Nat.le_refl _, fun _ _ => ⟨rfl, rfl, rfl, rfl⟩, fun _ _ _ => rfl, fun _ _ _ _ => rfl, rfl, rfl⟩
theorem KX.tr {A : Nat → Prop} {F : Nat → Nat → Prop} {M N K : MM} (h : KX A F M N) (g : KX A F N K) : KX A F M K := by
  obtain ⟨h1, h2, h3, h4, h5, h6⟩ := h
  obtain ⟨g1, g2, g3, g4, g5, g6⟩ := g
  refine ⟨Nat.le_trans h1 g1, fun b hb => ?_, fun b hb hc => (g3 b (by omega) hc).trans (h3 b hb hc), fun b k hb hc => (g4 b k (by omega) hc).trans (h4 b k hb hc), g5.trans h5, g6.trans h6⟩
  obtain ⟨a1, a2, a3, a4⟩ := h2 b hb
  obtain ⟨b1, b2, b3, b4⟩ := g2 b (by omega)
  exact ⟨b1.trans a1, b2.trans a2, b3.trans a3, b4.trans a4⟩
theorem KX.mono {A A' : Nat → Prop} {F F' : Nat → Nat → Prop} {M N : MM} (h : KX A F M N) (hA : ∀ b, A' b → A b) (hF : ∀ b k, F' b k → F b k) : KX A' F' M N := ⟨h.1, h.2.1, fun b hb z => h.2.2.1 b hb (hA b z), fun b k hb z => h.2.2.2.1 b k hb (hF b k z), h.2.2.2.2⟩
theorem KX.L {A : Nat → Prop} {F : Nat → Nat → Prop} {M : MM} {a : Nat} {f : Nat → Int64} : KX A F M (setL M a f) := ⟨Nat.le_refl _, fun _ _ => ⟨rfl, rfl, rfl, rfl⟩, fun _ _ _ => rfl, fun _ _ _ _ => rfl, rfl, rfl⟩
theorem Fc.KX {S A : Nat → Prop} {F : Nat → Nat → Prop} {M N : MM} (h : Fc S M N) (hA : ∀ b, A b → ¬ S b) (hF : ∀ b k, F b k → ¬ S b) : KX A F M N := by
  obtain ⟨⟨h1, h2, h3, h4, h5⟩, ⟨h6, h7, h8, h9⟩, ha⟩ := h
  exact ⟨Nat.le_of_eq h6.symm, fun b _ => ⟨congrFun h1 b, congrFun h2 b, congrFun h3 b, congrFun h5 b⟩, fun b _ z => (ha b (hA b z)).2, fun b k _ z => congrFun (ha b (hF b k z)).1 k, h8, h9⟩
theorem Frm.KX {S I A : Nat → Prop} {F : Nat → Nat → Prop} {M N : MM} (h : Frm S I M N) (hA : ∀ b, A b → ¬ S b) (hF : ∀ k, F 53 k → ¬ I k) : KX A F M N := by
  obtain ⟨⟨h1, h2, h3, h4, h5⟩, ⟨h6, h7, h8, h9⟩, ha, hf⟩ := h
  exact ⟨Nat.le_of_eq h6.symm, fun b _ => ⟨congrFun h1 b, congrFun h2 b, congrFun h3 b, congrFun h5 b⟩, fun b _ z => ha b (hA b z), fun b k _ z => hf b k (fun y => by rw [y.1] at z; exact hF k z y.2), h8, h9⟩
abbrev KF (ab ru li : Nat) (M N : MM) : Prop := KX (cA ab ru li) (cF ab ru li) M N
theorem KF.c {ab ru li : Nat} {M N : MM} (h : KF ab ru li M N) {b : Nat} (hb : b < nx M) : cl N b = cl M b := by
  unfold cl
  rw [(h.2.1 b hb).1]
  have h1 := h.1
  by_cases z : b < 2000000
  · rw [if_pos ⟨by omega, z⟩, if_pos ⟨hb, z⟩]
  · rw [if_neg (fun y => z y.2), if_neg (fun y => z y.2)]
theorem KF.SH {ab ru li : Nat} {M N : MM} (h : KF ab ru li M N) (hS : SH M) : SH N := SH_mono hS h.1 (fun b hb => by
    have := h.2.1 b (by have := hS.1; omega)
    exact ⟨this.1, this.2.1⟩) (fun q m => by
    have hl := refsL_lt q m
    rw [(h.2.1 q.1 (by have := hS.1; omega)).2.2.1]) (fun b _ h2 => (h.2.1 b (by have := hS.1; omega)).2.2.2)
theorem KF.DK {ab ru li dk : Nat} {M N : MM} (h : KF ab ru li M N) (hb : dk + 4 < nx M) (g : DK M dk) : DK N dk := by
  obtain ⟨dC, ⟨dF0, dF1, dF2, dF3⟩, ⟨dC1, dC2, dC3, dC4⟩, dN1, dN2, dN3, dN4⟩ := g
  have e0 := h.2.1 dk (by omega)
  have e1 := h.2.1 (dk + 1) (by omega)
  have e2 := h.2.1 (dk + 2) (by omega)
  have e3 := h.2.1 (dk + 3) (by omega)
  have e4 := h.2.1 (dk + 4) (by omega)
  have c0 := h.c (b := dk) (by omega)
  have c1 := h.c (b := dk + 1) (by omega)
  have c2 := h.c (b := dk + 2) (by omega)
  have c3 := h.c (b := dk + 3) (by omega)
  have c4 := h.c (b := dk + 4) (by omega)
  unfold Jvm.Pilot.@@N@@.DK
  rw [c0, c1, c2, c3, c4, e0.2.2.1, e1.2.1, e2.2.1, e3.2.1, e4.2.1]
  exact ⟨dC, ⟨dF0, dF1, dF2, dF3⟩, ⟨dC1, dC2, dC3, dC4⟩, dN1, dN2, dN3, dN4⟩
theorem KF.CW {ab sa ru sr li sn dk : Nat} {M N : MM} (h : KF ab ru li M N) (g : CW M ab sa ru sr li sn dk) (hx : nx N < 900000) : CW N ab sa ru sr li sn dk := by
  obtain ⟨hS, hab, hru, hli, hf, hDK, hdk, hdn, hnx⟩ := g
  have f0 := (h.2.1 0 (by omega)).2.2.1
  have h1 := h.1
  refine ⟨h.SH hS, hab, hru, hli, ?_, h.DK hdn hDK, hdk, by omega, hx⟩
  rw [f0]; exact hf
theorem CA_t {M N : MM} {ab n sz tr bn : Nat} {pv : Nat → Nat → Nat} {ws : Nat → Nat} (hf : fi N ab = fi M ab) (ha : ∀ i, 1 ≤ i → i ≤ 7 → ai N (ab + i) = ai M (ab + i)) (g : CA M ab n pv sz ws tr bn) : CA N ab n pv sz ws tr bn := by
  unfold CA at g ⊢
  rw [hf, ha 1 (by omega) (by omega), ha 2 (by omega) (by omega), ha 3 (by omega) (by omega), ha 4 (by omega) (by omega), ha 5 (by omega) (by omega), ha 6 (by omega) (by omega), ha 7 (by omega) (by omega)]
  exact g
theorem TD_t {M N : MM} {A : AB} (h57 : ai N 57 = ai M 57) (h59 : ai N 59 = ai M 59) (h78 : ∀ p, p < 16 → ai N (78 + p) = ai M (78 + p)) (g : TD M A) : TD N A := by
  obtain ⟨g1, g2, g3, g4, g5, g6, g7⟩ := g
  exact ⟨by rw [h57]; exact g1, g2, fun p k hp hk => by rw [h78 p (by omega)]; exact g3 p k hp hk, fun x hx => by rw [h59]; exact g4 x hx, by rw [h57]; exact g5, by rw [h57]; exact g6, by rw [h57]; exact g7⟩
/-- the law, on both sides -/
def RLw (M : MM) (ru m : Nat) (tk : Nat → Nat × Nat) : Prop := RUs M ru m tk ∧ LWt M m tk ∧ LOK tk m
theorem RLw_t {M N : MM} {ru m : Nat} {tk : Nat → Nat × Nat} (h1 : fi N ru 3 = fi M ru 3) (h2 : ai N (ru + 2) = ai M (ru + 2)) (h3 : fi N 53 17 = fi M 53 17) (h4 : ∀ b, 95 ≤ b → b < 255 → ai N b = ai M b) (g : RLw M ru m tk) : RLw N ru m tk := by
  obtain ⟨⟨a1, a2⟩, ⟨b1, b2⟩, c⟩ := g
  have hm := c.1
  exact ⟨⟨by rw [h1]; exact a1, fun k hk => by rw [h2]; exact a2 k hk⟩, ⟨by rw [h3]; exact b1, fun k hk => by rw [h4 (95 + k) (by omega) (by omega)]; exact b2 k hk⟩, c⟩
theorem CLs_t {M N : MM} {li c : Nat} (h1 : fi N li 2 = fi M li 2) (h2 : fi N 53 31 = fi M 53 31) (h3 : ai N (li + 1) = ai M (li + 1)) (h4 : ai N (li + 2) = ai M (li + 2)) (h5 : ∀ i, i < 10 → ai N (417 + i) = ai M (417 + i)) (g : CLs M li c) : CLs N li c := by
  obtain ⟨g1, g2, g3, g4⟩ := g
  exact ⟨by rw [h1]; exact g1, g2, by rw [h2]; exact g3, fun i hi => by rw [h3, h4, h5 i (by omega)]; exact g4 i hi⟩
/-- rows that say the same -/
theorem DS_cg {M : MM} {dk n : Nat} {pv : Nat → Nat → Nat} {r r' : Nat → Int32} (h16 : n ≤ 16) (e : ∀ k, k < 83 → r' k = r k) (g : DS M dk n pv r) : DS M dk n pv r' := by
  obtain ⟨g1, g2, g3, g4, g5, g6, g7, g8⟩ := g
  have b0 : bts n (fun p => r' p = 0) = bts n (fun p => r p = 0) := bts_congr (fun p hp => by rw [e p (by omega)])
  have b1 : bts n (fun p => r' p = nI 1) = bts n (fun p => r p = nI 1) := bts_congr (fun p hp => by rw [e p (by omega)])
  have b2 : bts n (fun p => r' (16 + p) = nI 1) = bts n (fun p => r (16 + p) = nI 1) := bts_congr (fun p hp => by rw [e (16 + p) (by omega)])
  refine ⟨by rw [b0]; exact g1, by rw [b1]; exact g2, by rw [b2]; exact g3, fun p hp => ?_, fun s hs => ?_, by rw [e 81 (by omega)]; exact g6, by rw [e 80 (by omega)]; exact g7, by rw [e 82 (by omega)]; exact g8⟩
  · rw [e (32 + p) (by omega), e (48 + p) (by omega), e (64 + p) (by omega)]; exact g4 p hp
  · rw [g5 s hs]
    exact sumW_congr (fun _ _ => Iff.rfl) (fun q hq _ => (e (48 + q) (by omega)).symm)
theorem RW_cg {n : Nat} {r r' : Nat → Int32} (h16 : n ≤ 16) (e : ∀ k, k < 83 → r' k = r k) (g : RW n r) : RW n r' := by
  obtain ⟨g1, t, g2, g3⟩ := g
  refine ⟨fun p hp => ?_, t, g2, by rw [e 81 (by omega)]; exact g3⟩
  rw [e p (by omega), e (16 + p) (by omega), e (32 + p) (by omega)]
  exact g1 p hp
def BS (M : MM) (n : Nat) (pv : Nat → Nat → Nat) (dk W : Nat) (now : Nat → Int32) : Prop := DK M dk ∧ (dk = 48 ∨ 548 ≤ dk) ∧ dk + 4 < nx M ∧ DS M dk n pv now ∧ RW n now ∧ fi M dk 10 = nI W
def Ch (M : MM) (n : Nat) (pv : Nat → Nat → Nat) (rows : Nat → Nat → Int32) : Nat → Nat → (Nat → Int32) → Prop
  | 0, dk, now => BS M n pv dk 0 now ∧ fr M dk 11 = none
  | W + 1, dk, now => BS M n pv dk (W + 1) now ∧ ∃ bf, fr M dk 11 = some bf ∧ Ch M n pv rows W bf (rows W)
theorem Ch.b {M : MM} {n : Nat} {pv : Nat → Nat → Nat} {rows : Nat → Nat → Int32} {W dk : Nat} {now : Nat → Int32} (h : Ch M n pv rows W dk now) : BS M n pv dk W now := by
  cases W with
  | zero => exact h.1
  | succ W => exact h.1
/-- cells of desks that stay -/
def DF (M N : MM) : Prop := nx M ≤ nx N ∧ ∀ b, b < nx M → (48 ≤ b ∧ b ≤ 52) ∨ 548 ≤ b → sh N b = sh M b ∧ ln N b = ln M b ∧ fi N b = fi M b ∧ fr N b = fr M b ∧ ai N b = ai M b
theorem DF.cl {M N : MM} {b : Nat} (h : DF M N) (hb : b < nx M) (hc : (48 ≤ b ∧ b ≤ 52) ∨ 548 ≤ b) : cl N b = cl M b := by
  unfold Jvm.Pilot.@@N@@.cl
  rw [(h.2 b hb hc).1]
  have h1 := h.1
  by_cases z : b < 2000000
  · rw [if_pos ⟨by omega, z⟩, if_pos ⟨hb, z⟩]
  · rw [if_neg (fun y => z y.2), if_neg (fun y => z y.2)]
theorem BS_t {M N : MM} {n dk W : Nat} {pv : Nat → Nat → Nat} {r r' : Nat → Int32} (h : DF M N) (h16 : n ≤ 16) (e : ∀ k, k < 83 → r' k = r k) (g : BS M n pv dk W r) : BS N n pv dk W r' := by
  obtain ⟨gK, gd, gn, gD, gR, gw⟩ := g
  have e0 := h.2 dk (by omega) (by omega)
  have e1 := h.2 (dk + 1) (by omega) (by omega)
  have e2 := h.2 (dk + 2) (by omega) (by omega)
  have e3 := h.2 (dk + 3) (by omega) (by omega)
  have e4 := h.2 (dk + 4) (by omega) (by omega)
  have c0 := h.cl (b := dk) (by omega) (by omega)
  have c1 := h.cl (b := dk + 1) (by omega) (by omega)
  have c2 := h.cl (b := dk + 2) (by omega) (by omega)
  have c3 := h.cl (b := dk + 3) (by omega) (by omega)
  have c4 := h.cl (b := dk + 4) (by omega) (by omega)
  have h1 := h.1
  refine ⟨?_, gd, by omega, DS_cg h16 e ?_, RW_cg h16 e gR, by rw [e0.2.2.1]; exact gw⟩
  · obtain ⟨dC, ⟨dF0, dF1, dF2, dF3⟩, ⟨dC1, dC2, dC3, dC4⟩, dN1, dN2, dN3, dN4⟩ := gK
    unfold DK
    rw [c0, c1, c2, c3, c4, e0.2.2.2.1, e1.2.1, e2.2.1, e3.2.1, e4.2.1]
    exact ⟨dC, ⟨dF0, dF1, dF2, dF3⟩, ⟨dC1, dC2, dC3, dC4⟩, dN1, dN2, dN3, dN4⟩
  · unfold DS at gD ⊢
    rw [e0.2.2.1, e1.2.2.2.2, e2.2.2.2.2, e3.2.2.2.2, e4.2.2.2.2]
    exact gD
theorem Ch_t {M N : MM} {n : Nat} {pv : Nat → Nat → Nat} {rows rows' : Nat → Nat → Int32} (h : DF M N) (h16 : n ≤ 16) : ∀ (W dk : Nat) (r r' : Nat → Int32), (∀ w, w < W → ∀ k, k < 83 → rows' w k = rows w k) → (∀ k, k < 83 → r' k = r k) → Ch M n pv rows W dk r → Ch N n pv rows' W dk r' := by
  intro W
  induction W with
  | zero =>
    intro dk r r' _ e g
    have gb := g.1
    refine ⟨BS_t h h16 e gb, ?_⟩
    have hd := gb.2.1
    have hn := gb.2.2.1
    rw [(h.2 dk (by omega) (by omega)).2.2.2.1]
    exact g.2
  | succ W ih =>
    intro dk r r' ew e g
    obtain ⟨gb, bf, g1, g2⟩ := g
    have hd := gb.2.1
    have hn := gb.2.2.1
    exact ⟨BS_t h h16 e gb, bf, by rw [(h.2 dk (by omega) (by omega)).2.2.2.1]; exact g1, ih bf _ _ (fun w hw => ew w (by omega)) (ew W (by omega)) g2⟩
/-- an image -/
def Im (M : MM) (n : Nat) (pv : Nat → Nat → Nat) (j : Nat) : Prop := ∃ dj Wj, Wj ≤ 16 ∧ aq M 17 j = some dj ∧ ai M (541 + j) 0 = nI Wj ∧ Ch M n pv (fun w k => ai M (541 + j) (84 + 83 * w + k)) Wj dj (fun k => ai M (541 + j) (1 + k))
theorem Im_t {M N : MM} {n j : Nat} {pv : Nat → Nat → Nat} (h : DF M N) (h16 : n ≤ 16) (hq : aq N 17 j = aq M 17 j) (ha : ai N (541 + j) = ai M (541 + j)) (g : Im M n pv j) : Im N n pv j := by
  obtain ⟨dj, Wj, g1, g2, g3, g4⟩ := g
  refine ⟨dj, Wj, g1, by rw [hq]; exact g2, by rw [ha]; exact g3, ?_⟩
  rw [ha]
  exact Ch_t h h16 Wj dj _ _ (fun _ _ _ _ => rfl) (fun _ _ => rfl) g4
theorem KF.DF {ab ru li : Nat} {M N : MM} (h : KF ab ru li M N) : DF M N := ⟨h.1, fun b hb hc => by
  obtain ⟨e1, e2, e3, e4⟩ := h.2.1 b hb
  exact ⟨e1, e2, funext fun k => h.2.2.2.1 b k hb (by unfold cF; omega), e3, h.2.2.1 b hb (by unfold cA; omega)⟩⟩
