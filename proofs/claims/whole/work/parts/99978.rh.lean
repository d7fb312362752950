/-! ===== calls that change: refused texts, clocks, law ===== -/
theorem KX.SH {A : Nat → Prop} {F : Nat → Nat → Prop} {M N : MM} (h : KX A F M N) (hS : SH M) : SH N := SH_mono hS h.1 (fun b hb => by
    have := h.2.1 b (by have := hS.1; omega)
    exact ⟨this.1, this.2.1⟩) (fun q m => by
    have hl := refsL_lt q m
    rw [(h.2.1 q.1 (by have := hS.1; omega)).2.2.1]) (fun b _ h2 => (h.2.1 b (by have := hS.1; omega)).2.2.2)
/-- what neither a law nor clocks touch -/
def R1 (M : MM) (ab dk : Nat) (A : AB) (W i : Nat) : Prop := CAA M ab A ∧ TD M A ∧ (fi M 0 13 = nI i ∧ fi M 53 34 = nI i ∧ i ≤ 3 ∧ fi M 0 14 = fi M 53 33) ∧ (fi M 53 32 = nI W ∧ W ≤ 16 ∧ Ch M A.1 A.2.1 (fun w => ai M (524 + w)) W dk (ai M 521)) ∧ ∀ j, j < i → Im M A.1 A.2.1 j
def dA (ab : Nat) (b : Nat) : Prop := (ab ≤ b ∧ b ≤ ab + 7) ∨ b = 57 ∨ b = 59 ∨ (78 ≤ b ∧ b < 94) ∨ b = 521 ∨ (524 ≤ b ∧ b < 540) ∨ (541 ≤ b ∧ b < 544)
def dFi (ab : Nat) (b k : Nat) : Prop := b = ab ∨ (b = 0 ∧ (k = 13 ∨ k = 14)) ∨ (b = 53 ∧ (k = 32 ∨ k = 33 ∨ k = 34))
theorem R0.o {M : MM} {ab sa ru sr li sn dk m c W i : Nat} {A : AB} {tk : Nat → Nat × Nat} (h : R0 M ab sa ru sr li sn dk A m tk c W i) : R1 M ab dk A W i := ⟨h.2.1, h.2.2.1, h.2.2.2.2.2.1, h.2.2.2.2.2.2.1, h.2.2.2.2.2.2.2⟩
theorem R1.z {M : MM} {ab sa ru sr li sn dk m c W i : Nat} {A : AB} {tk : Nat → Nat × Nat} (h : R1 M ab dk A W i) (hW : CW M ab sa ru sr li sn dk) (hL : RLw M ru m tk) (hC : CLs M li c) : R0 M ab sa ru sr li sn dk A m tk c W i := ⟨hW, h.1, h.2.1, hL, hC, h.2.2.1, h.2.2.2.1, h.2.2.2.2⟩
theorem R1.t {M N : MM} {ab dk W i : Nat} {A : AB} (h : R1 M ab dk A W i) (D : DF M N) (hq : ∀ j, j < 3 → aq N 17 j = aq M 17 j) (kA : ∀ b, dA ab b → ai N b = ai M b) (kF : ∀ b k, dFi ab b k → fi N b k = fi M b k) : R1 N ab dk A W i := by
  obtain ⟨hA, hT, ⟨i1, i2, i3, i4⟩, ⟨w1, w2, w3⟩, hI⟩ := h
  have h16 : A.1 ≤ 16 := hA.2.1
  refine ⟨CA_t (funext fun q => kF ab q (Or.inl rfl)) (fun q q1 q2 => kA _ (by unfold dA; omega)) hA, TD_t (kA 57 (by unfold dA; omega)) (kA 59 (by unfold dA; omega)) (fun p hp => kA _ (by unfold dA; omega)) hT, ⟨?_, ?_, i3, ?_⟩, ⟨?_, w2, ?_⟩, fun j hj => ?_⟩
  · rw [kF 0 13 (by unfold dFi; omega)]; exact i1
  · rw [kF 53 34 (by unfold dFi; omega)]; exact i2
  · rw [kF 0 14 (by unfold dFi; omega), kF 53 33 (by unfold dFi; omega)]; exact i4
  · rw [kF 53 32 (by unfold dFi; omega)]; exact w1
  · exact Ch_t D h16 W dk _ _ (fun w hw q _ => by rw [kA (524 + w) (by unfold dA; omega)]) (fun q _ => by rw [kA 521 (by unfold dA; omega)]) w3
  · exact Im_t D h16 (hq j (by omega)) (kA _ (by unfold dA; omega)) (hI j hj)
theorem ci_fin {d y z : Nat} {as bs : List Value} {M N K : MM} {v : Int32} (hw : evC d y as (toH M) = some (.inl (some (.int (nI 0))), toH (setL N 547 (vp_updL (al N 547) 0 v.toInt64)))) (hm : evC d z bs (toH (setL N 547 (vp_updL (al N 547) 0 v.toInt64))) = some (.inl (some (.int v)), toH K)) (hS : SH N ∧ sL N = sL M ∧ sX N = sX M) (h0 : fi K 53 0 = nI 0) (ha : al K = al (setL N 547 (vp_updL (al N 547) 0 v.toInt64))) (hR : R K) (hr : Rm M K) : CIi d M y z as bs :=
  ⟨_, _, _, _, hw, hm, hS, h0, fun _ => by rw [ha, al_eq]; exact if_pos rfl, hR, hr⟩
def okT (S : Nat → Prop) (ab ru li : Nat) : Prop := ∀ b, S b → b = 1 ∨ (3 ≤ b ∧ b ≤ 6) ∨ ((18 ≤ b ∧ b < 48) ∧ ¬ (ab ≤ b ∧ b ≤ ab + 7) ∧ ¬ b = ru ∧ ¬ b = ru + 2 ∧ ¬ (li ≤ b ∧ b ≤ li + 2))
theorem ci_fail {d y z : Nat} {as bs : List Value} {M N K : MM} {v w : Int32} {ab sa ru sr li sn dk m c W i T : Nat} {A : AB} {tk : Nat → Nat × Nat} {tx : Nat → Nat} {S S2 I2 : Nat → Prop} (h : RR M ab sa ru sr li sn dk A m tk c W i T tx) (F1 : Fc S M N) (hS : okT S ab ru li) (t1 : fi N 1 1 = nI 0) (t6 : fi N 1 6 = w) (hw : evC d y as (toH M) = some (.inl (some (.int (nI 0))), toH (setL N 547 (vp_updL (al N 547) 0 v.toInt64)))) (hm : evC d z bs (toH (setL N 547 (vp_updL (al N 547) 0 v.toInt64))) = some (.inl (some (.int v)), toH K)) (F2 : Frm S2 I2 (setL N 547 (vp_updL (al N 547) 0 v.toInt64)) K) (hS2 : okA S2) (hI2 : ∀ k, I2 k → ¬ (k = 17 ∨ k = 31 ∨ k = 32 ∨ k = 33 ∨ k = 34)) (u1 : fi K 53 1 = nI 0) (u3 : fi K 53 3 = w) (h0 : fi K 53 0 = nI 0) : CIi d M y z as bs := by
  obtain ⟨h0', ⟨c1, c2, c3, c4⟩, p1, p2, p3⟩ := h
  have hW := h0'.1
  obtain ⟨hSM, hab, hru, hli, -, -, -, -, hnx⟩ := hW
  have k1 : KF ab ru li M N := F1.KX (fun b z y => by
    have := hS b y
    unfold cA at z
    omega) (fun b k z y => by
    have := hS b y
    unfold cF at z
    omega)
  have k2 : KF ab ru li (setL N 547 (vp_updL (al N 547) 0 v.toInt64)) K := F2.KX (fun b z y => by
    have := hS2 b y
    unfold cA at z
    omega) (fun k z y => by
    have := hI2 k y
    unfold cF at z
    omega)
  have kk := (k1.tr KX.L).tr k2
  have hnK : nx K = nx M := by rw [F2.2.1.1]; exact F1.2.1.1
  have hR0 := h0'.t kk (by omega)
  have n0 : ¬ S 0 := fun z => by have := hS 0 z; omega
  have n2 : ¬ S 2 := fun z => by have := hS 2 z; omega
  have m54 : ¬ S 54 := fun z => by have := hS 54 z; omega
  have m55 : ¬ S 55 := fun z => by have := hS 55 z; omega
  have fK : ∀ b k, ¬ b = 53 → fi K b k = fi N b k := fun b k z => F2.2.2.2 b k (fun y => z y.1)
  have aK : ∀ b, b < 56 → ai K b = ai N b := fun b hb => F2.2.2.1 b (fun z => by have := hS2 b z; omega)
  have e0 : fi N 0 = fi M 0 := (F1.2.2 0 n0).1
  refine ci_fin hw hm ⟨k1.SH hSM, F1.2.1.2.2.1, F1.2.1.2.2.2⟩ h0 F2.1.2.2.2.1 ⟨_, _, _, _, _, _, _, _, _, _, _, _, _, 0, tx, hR0, ⟨by rw [fK 1 1 (by omega)]; exact t1, u1, by omega, fun q hq => ?_⟩, ?_, ?_, ?_⟩ ⟨by omega, ?_, ?_, ?_⟩
  · rw [aK 2 (by omega), aK 54 (by omega), (F1.2.2 2 n2).2, (F1.2.2 54 m54).2]; exact c4 q hq
  · rw [fK 1 6 (by omega), u3]; exact t6
  · rw [fK 0 15 (by omega), aK 55 (by omega), e0, (F1.2.2 55 m55).2]; exact p2
  · rw [fK 0 16 (by omega), aK 55 (by omega), e0, (F1.2.2 55 m55).2]; exact p3
  · rw [F2.2.1.2.1]; show sl N ≤ _; rw [F1.2.1.2.1]; omega
  · rw [F2.2.1.2.2.1]; exact F1.2.1.2.2.1
  · rw [F2.2.1.2.2.2]; exact F1.2.1.2.2.2
/-- the tape, as the reference has it after the class was called -/
theorem RTp.b {M : MM} {T : Nat} {tx : Nat → Nat} (h : RTp M T tx) : ∀ i, i < 600 → ai M 2 i = sbI (tx i) ∧ tx i < 256 := fun i hi => ⟨(h.2.2.2 i hi).1, (h.2.2.2 i hi).2.2⟩
theorem tp_P {S : Nat → Prop} {M N : MM} {T : Nat} {tx : Nat → Nat} {g : Nat → Int64} (h : RTp M T tx) (F : Fc S M N) (h53 : ¬ S 53) (h54 : ¬ S 54) : fi (setL N 547 g) 53 1 = nI T ∧ TPb (setL N 547 g) tx := by
  refine ⟨?_, fun i hi => ?_⟩
  · show fi N 53 1 = nI T
    rw [(F.2.2 53 h53).1]; exact h.2.1
  · show ai N 54 i = nI (tx i) ∧ _
    rw [(F.2.2 54 h54).2]
    exact ⟨(h.2.2.2 i hi).2.1, (h.2.2.2 i hi).2.2⟩
