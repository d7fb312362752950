/-! ===== the relation, whole ===== -/
def R0 (M : MM) (ab sa ru sr li sn dk : Nat) (A : AB) (m : Nat) (tk : Nat → Nat × Nat) (c W i : Nat) : Prop := CW M ab sa ru sr li sn dk ∧ CAA M ab A ∧ TD M A ∧ RLw M ru m tk ∧ CLs M li c ∧ (fi M 0 13 = nI i ∧ fi M 53 34 = nI i ∧ i ≤ 3 ∧ fi M 0 14 = fi M 53 33) ∧ (fi M 53 32 = nI W ∧ W ≤ 16 ∧ Ch M A.1 A.2.1 (fun w => ai M (524 + w)) W dk (ai M 521)) ∧ ∀ j, j < i → Im M A.1 A.2.1 j
theorem R0.t {M N : MM} {ab sa ru sr li sn dk m c W i : Nat} {A : AB} {tk : Nat → Nat × Nat} (h : R0 M ab sa ru sr li sn dk A m tk c W i) (k : KF ab ru li M N) (hx : nx N < 900000) : R0 N ab sa ru sr li sn dk A m tk c W i := by
  obtain ⟨hW, hA, hT, hL, hC, ⟨i1, i2, i3, i4⟩, ⟨w1, w2, w3⟩, hI⟩ := h
  have hW2 := hW
  obtain ⟨hS, hab, hru, hli, -, -, -, -, -⟩ := hW2
  have h548 := hS.1
  have h16 : A.1 ≤ 16 := hA.2.1
  have kA : ∀ b, b < 548 → cA ab ru li b → ai N b = ai M b := fun b hb z => k.2.2.1 b (by omega) z
  have kF : ∀ b q, b < 548 → cF ab ru li b q → fi N b q = fi M b q := fun b q hb z => k.2.2.2.1 b q (by omega) z
  have kD := k.DF
  refine ⟨k.CW hW hx, CA_t (funext fun q => kF ab q (by omega) (Or.inl rfl)) (fun q q1 q2 => kA _ (by omega) (by unfold cA; omega)) hA, TD_t (kA 57 (by omega) (by unfold cA; omega)) (kA 59 (by omega) (by unfold cA; omega)) (fun p hp => kA _ (by omega) (by unfold cA; omega)) hT, RLw_t (kF ru 3 (by omega) (by unfold cF; omega)) (kA _ (by omega) (by unfold cA; omega)) (kF 53 17 (by omega) (by unfold cF; omega)) (fun b b1 b2 => kA b (by omega) (by unfold cA; omega)) hL, CLs_t (kF li 2 (by omega) (by unfold cF; omega)) (kF 53 31 (by omega) (by unfold cF; omega)) (kA _ (by omega) (by unfold cA; omega)) (kA _ (by omega) (by unfold cA; omega)) (fun q hq => kA _ (by omega) (by unfold cA; omega)) hC, ⟨?_, ?_, i3, ?_⟩, ⟨?_, w2, ?_⟩, fun j hj => ?_⟩
  · rw [kF 0 13 (by omega) (by unfold cF; omega)]; exact i1
  · rw [kF 53 34 (by omega) (by unfold cF; omega)]; exact i2
  · rw [kF 0 14 (by omega) (by unfold cF; omega), kF 53 33 (by omega) (by unfold cF; omega)]; exact i4
  · rw [kF 53 32 (by omega) (by unfold cF; omega)]; exact w1
  · exact Ch_t kD h16 W dk _ _ (fun w hw q _ => by rw [kA (524 + w) (by omega) (by unfold cA; omega)]) (fun q _ => by rw [kA 521 (by omega) (by unfold cA; omega)]) w3
  · exact Im_t kD h16 (by rw [(k.2.1 17 (by omega)).2.2.2]) (kA _ (by omega) (by unfold cA; omega)) (hI j hj)
/-- the tape on both sides -/
def RTp (M : MM) (T : Nat) (tx : Nat → Nat) : Prop := fi M 1 1 = nI T ∧ fi M 53 1 = nI T ∧ T ≤ 600 ∧ ∀ i, i < 600 → ai M 2 i = sbI (tx i) ∧ ai M 54 i = nI (tx i) ∧ tx i < 256
def RCn (M : MM) : Prop := fi M 1 6 = fi M 53 3 ∧ fi M 0 15 = ai M 55 0 ∧ fi M 0 16 = ai M 55 1
def RR (M : MM) (ab sa ru sr li sn dk : Nat) (A : AB) (m : Nat) (tk : Nat → Nat × Nat) (c W i T : Nat) (tx : Nat → Nat) : Prop := R0 M ab sa ru sr li sn dk A m tk c W i ∧ RTp M T tx ∧ RCn M
def R (M : MM) : Prop := ∃ ab sa ru sr li sn dk A m tk c W i T tx, RR M ab sa ru sr li sn dk A m tk c W i T tx
def qA (ab ru li : Nat) (b : Nat) : Prop := cA ab ru li b ∨ b = 2 ∨ b = 54 ∨ b = 55
def qF (ab ru li : Nat) (b k : Nat) : Prop := cF ab ru li b k ∨ (b = 1 ∧ (k = 1 ∨ k = 6)) ∨ (b = 53 ∧ (k = 1 ∨ k = 3)) ∨ (b = 0 ∧ (k = 15 ∨ k = 16))
abbrev QFr (ab ru li : Nat) (M N : MM) : Prop := KX (qA ab ru li) (qF ab ru li) M N
theorem QFr.K {ab ru li : Nat} {M N : MM} (h : QFr ab ru li M N) : KF ab ru li M N := h.mono (fun _ z => Or.inl z) (fun _ _ z => Or.inl z)
theorem RR.q {M N : MM} {ab sa ru sr li sn dk m c W i T : Nat} {A : AB} {tk : Nat → Nat × Nat} {tx : Nat → Nat} (h : RR M ab sa ru sr li sn dk A m tk c W i T tx) (k : QFr ab ru li M N) (hx : nx N < 900000) : RR N ab sa ru sr li sn dk A m tk c W i T tx := by
  obtain ⟨h0, ⟨t1, t2, t3, t4⟩, c1, c2, c3⟩ := h
  have h548 := h0.1.1.1
  have kA : ∀ b, b < 548 → qA ab ru li b → ai N b = ai M b := fun b hb z => k.2.2.1 b (by omega) z
  have kF : ∀ b q, b < 548 → qF ab ru li b q → fi N b q = fi M b q := fun b q hb z => k.2.2.2.1 b q (by omega) z
  have a2 := kA 2 (by omega) (by unfold qA; omega)
  have a54 := kA 54 (by omega) (by unfold qA; omega)
  have a55 := kA 55 (by omega) (by unfold qA; omega)
  refine ⟨h0.t k.K hx, ⟨?_, ?_, t3, ?_⟩, ?_, ?_, ?_⟩
  · rw [kF 1 1 (by omega) (by unfold qF; omega)]; exact t1
  · rw [kF 53 1 (by omega) (by unfold qF; omega)]; exact t2
  · rw [a2, a54]; exact t4
  · rw [kF 1 6 (by omega) (by unfold qF; omega), kF 53 3 (by omega) (by unfold qF; omega)]; exact c1
  · rw [kF 0 15 (by omega) (by unfold qF; omega), a55]; exact c2
  · rw [kF 0 16 (by omega) (by unfold qF; omega), a55]; exact c3
theorem RR.W {M : MM} {ab sa ru sr li sn dk m c W i T : Nat} {A : AB} {tk : Nat → Nat × Nat} {tx : Nat → Nat} (h : RR M ab sa ru sr li sn dk A m tk c W i T tx) : CW M ab sa ru sr li sn dk := h.1.1
theorem R0.M {M : MM} {ab sa ru sr li sn dk m c W i : Nat} {A : AB} {tk : Nat → Nat × Nat} (h : R0 M ab sa ru sr li sn dk A m tk c W i) : MW M A.1 A.2.1 := by
  obtain ⟨hW, hA, hT, -⟩ := h
  exact ⟨hW.1, hT.1, hT.2.1, hT.2.2.1, hA.2.2.2.2.2.2.2.1⟩
theorem R0.Z {M : MM} {ab sa ru sr li sn dk m c W i : Nat} {A : AB} {tk : Nat → Nat × Nat} (h : R0 M ab sa ru sr li sn dk A m tk c W i) : MZ M A.2.2.2.1 A.2.2.1 := by
  obtain ⟨hW, hA, hT, -⟩ := h
  exact ⟨hT.2.2.2.2.1, hA.2.2.2.2.2.2.2.2.1, fun x hx => ⟨hT.2.2.2.1 x hx, hA.2.2.2.2.2.2.2.2.2.1 x hx⟩⟩
theorem R0.P {M : MM} {ab sa ru sr li sn dk m c W i : Nat} {A : AB} {tk : Nat → Nat × Nat} (h : R0 M ab sa ru sr li sn dk A m tk c W i) : CP M ab ru li dk A.1 A.2.1 A.2.2.2.1 A.2.2.1 A.2.2.2.2.1 A.2.2.2.2.2 := by
  have hM := h.M
  obtain ⟨hW, hA, hT, hL, hC, hI, ⟨w1, w2, w3⟩, -⟩ := h
  obtain ⟨-, -, -, b4, b5, -⟩ := w3.b
  exact ⟨hW.X, hA, b4, b5, hM⟩
theorem Frm.Q {S I : Nat → Prop} {ab ru li : Nat} {M N : MM} (h : Frm S I M N) (hab : ab + 7 < 53) (hru : ru + 2 < 53) (hli : li + 2 < 53) (hA : ∀ b, S b → b = 56 ∨ b = 58 ∨ (61 ≤ b ∧ b < 77) ∨ (256 ≤ b ∧ b < 416) ∨ (427 ≤ b ∧ b < 440) ∨ (441 ≤ b ∧ b < 521) ∨ b = 522 ∨ b = 545 ∨ b = 546) (hF : ∀ k, I k → ¬ (k = 1 ∨ k = 3 ∨ k = 17 ∨ k = 31 ∨ k = 32 ∨ k = 33 ∨ k = 34)) : QFr ab ru li M N := h.KX (fun b z y => by
    have := hA b y
    unfold qA cA at z
    omega) (fun k z y => by
    have := hF k y
    unfold qF cF at z
    omega)
theorem Fc.Q {S : Nat → Prop} {ab ru li : Nat} {M N : MM} (h : Fc S M N) (hab : 18 ≤ ab) (hru : 34 ≤ ru ∧ ru ≤ 38) (hli : 42 ≤ li) (hab2 : ab ≤ 26) (hS : ∀ b, S b → (3 ≤ b ∧ b ≤ 16) ∨ b = ru + 1 ∨ b = ru + 3) : QFr ab ru li M N := h.KX (fun b z y => by
    have := hS b y
    unfold qA cA at z
    omega) (fun b k z y => by
    have := hS b y
    unfold qF cF at z
    omega)
/-- a call refused on both sides -/
theorem RR.bad {M : MM} {ab sa ru sr li sn dk m c W i T : Nat} {A : AB} {tk : Nat → Nat × Nat} {tx : Nat → Nat} {E : Nat} {w : Int32} (h : RR M ab sa ru sr li sn dk A m tk c W i T tx) (hE : E < 2) (hx : nx M + 1 < 900000) : RR (mBad (setI (cBad M E) 53 0 (nI 0)) w E) ab sa ru sr li sn dk A m tk c W i T tx := by
  have h548 := h.1.1.1.1
  obtain ⟨hab, hru, hli⟩ := And.intro h.1.1.2.1 (And.intro h.1.1.2.2.1 h.1.1.2.2.2.1)
  have f53 : ∀ b k, ¬ (b = 0 ∧ k = 15 + E) → ¬ (b = 53 ∧ k = 0) → fi (mBad (setI (cBad M E) 53 0 (nI 0)) w E) b k = fi M b k := fun b k z1 z2 => by
    show fi (setI (setI (setI M 0 (15 + E) (fi M 0 (15 + E) + nI 1)) 53 0 (nI 0)) 53 0 w) b k = fi M b k
    by_cases hb : b = 53
    · subst hb
      rw [fi_nk (by omega), fi_nk (by omega), fi_na (by omega)]
    · rw [fi_na hb, fi_na hb]
      by_cases hb0 : b = 0
      · subst hb0
        rw [fi_nk (by omega)]
      · rw [fi_na hb0]
  have a53 : ∀ b, ¬ b = 55 → ai (mBad (setI (cBad M E) 53 0 (nI 0)) w E) b = ai M b := fun b z => ai_ne z
  have a55 : ai (mBad (setI (cBad M E) 53 0 (nI 0)) w E) 55 = upd (ai M 55) E (ai M 55 E + nI 1) := ai_eq _ _ _
  have c0 : fi (mBad (setI (cBad M E) 53 0 (nI 0)) w E) 0 (15 + E) = fi M 0 (15 + E) + nI 1 := by
    show fi (setI (setI (setI M 0 (15 + E) (fi M 0 (15 + E) + nI 1)) 53 0 (nI 0)) 53 0 w) 0 (15 + E) = _
    rw [fi_na (by omega), fi_na (by omega), fi_eq]
  have k : KF ab ru li M (mBad (setI (cBad M E) 53 0 (nI 0)) w E) := ⟨Nat.le_succ _, fun b hb => ⟨va_ne (Nat.ne_of_lt hb), rfl, rfl, rfl⟩, fun b _ z => a53 b (by unfold cA at z; omega), fun b q _ z => f53 b q (by unfold cF at z; omega) (by unfold cF at z; omega), rfl, rfl⟩
  obtain ⟨h0, ⟨t1, t2, t3, t4⟩, c1, c2, c3⟩ := h
  refine ⟨h0.t k hx, ⟨?_, ?_, t3, ?_⟩, ?_, ?_, ?_⟩
  · rw [f53 1 1 (by omega) (by omega)]; exact t1
  · rw [f53 53 1 (by omega) (by omega)]; exact t2
  · rw [a53 2 (by omega), a53 54 (by omega)]; exact t4
  · rw [f53 1 6 (by omega) (by omega), f53 53 3 (by omega) (by omega)]; exact c1
  · rw [a55]
    by_cases hE0 : E = 0
    · subst hE0
      rw [up_eq, c0, c2]
    · rw [f53 0 15 (by omega) (by omega), up_ne (by omega)]; exact c2
  · rw [a55]
    by_cases hE1 : E = 1
    · subst hE1
      rw [up_eq, c0, c3]
    · rw [f53 0 16 (by omega) (by omega), up_ne (by omega)]; exact c3
/-- the refused call, ahead of the reference -/
theorem R0.C {M : MM} {ab sa ru sr li sn dk m c W i : Nat} {A : AB} {tk : Nat → Nat × Nat} (h : R0 M ab sa ru sr li sn dk A m tk c W i) (E : Nat) (hE : E < 2) (hx : nx M + 1 < 900000) : R0 (cBad M E) ab sa ru sr li sn dk A m tk c W i := by
  have hli := h.1.2.2.2.1
  have hru := h.1.2.2.1
  have hab := h.1.2.1
  refine h.t (N := cBad M E) ⟨Nat.le_succ _, fun b hb => ⟨va_ne (Nat.ne_of_lt hb), rfl, rfl, rfl⟩, fun b _ z => rfl, fun b q _ z => ?_, rfl, rfl⟩ hx
  show fi (setI M 0 (15 + E) (fi M 0 (15 + E) + nI 1)) b q = fi M b q
  by_cases hb0 : b = 0
  · subst hb0
    rw [fi_nk (by unfold cF at z; omega)]
  · rw [fi_na hb0]
theorem RR.L {M : MM} {ab sa ru sr li sn dk m c W i T : Nat} {A : AB} {tk : Nat → Nat × Nat} {tx : Nat → Nat} (h : RR M ab sa ru sr li sn dk A m tk c W i T tx) (g : Nat → Int64) : RR (setL M 547 g) ab sa ru sr li sn dk A m tk c W i T tx := h.q KX.L h.1.1.2.2.2.2.2.2.2.2
