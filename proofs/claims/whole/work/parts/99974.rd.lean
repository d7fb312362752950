/-! ===== a call of the law: both sides say the same, and go on alike ===== -/
def Rm (M K : MM) : Prop := nx K ≤ nx M + 6 ∧ sl K ≤ sl M + 90 ∧ sL K = sL M ∧ sX K = sX M
def CIi (d : Nat) (M : MM) (y z : Nat) (as bs : List Value) : Prop := ∃ k N b K, evC d y as (toH M) = some (.inl (some (.int k)), toH N) ∧ evC d z bs (toH N) = some (.inl (some (.int b)), toH K) ∧ (SH N ∧ sL N = sL M ∧ sX N = sX M) ∧ fi K 53 0 = k ∧ (k = 0 → al K 547 0 = b.toInt64) ∧ R K ∧ Rm M K
def CLl (d : Nat) (M : MM) (y z : Nat) (as bs : List Value) : Prop := ∃ k N b K, evC d y as (toH M) = some (.inl (some (.int k)), toH N) ∧ evC d z bs (toH N) = some (.inl (some (.long b)), toH K) ∧ (SH N ∧ sL N = sL M ∧ sX N = sX M) ∧ fi K 53 0 = k ∧ (k = 0 → al K 547 0 = b) ∧ R K ∧ Rm M K
def CDd (d : Nat) (M : MM) (y z : Nat) (as bs : List Value) : Prop := ∃ N b K, evC d y as (toH M) = some (.inl (some (.int b)), toH N) ∧ evC d z bs (toH N) = some (.inl (some (.int b)), toH K) ∧ (SH N ∧ sL N = sL M ∧ sX N = sX M) ∧ R K ∧ Rm M K
theorem RR.R {M : MM} {ab sa ru sr li sn dk m c W i T : Nat} {A : AB} {tk : Nat → Nat × Nat} {tx : Nat → Nat} (h : RR M ab sa ru sr li sn dk A m tk c W i T tx) : R M := ⟨_, _, _, _, _, _, _, _, _, _, _, _, _, _, _, h⟩
def okS (S : Nat → Prop) (ru : Nat) : Prop := ∀ b, S b → (3 ≤ b ∧ b ≤ 16) ∨ b = ru + 1 ∨ b = ru + 3
def okA (S : Nat → Prop) : Prop := ∀ b, S b → b = 56 ∨ b = 58 ∨ (61 ≤ b ∧ b < 77) ∨ (256 ≤ b ∧ b < 416) ∨ (427 ≤ b ∧ b < 440) ∨ (441 ≤ b ∧ b < 521) ∨ b = 522 ∨ b = 545 ∨ b = 546
def okI (I : Nat → Prop) : Prop := ∀ k, I k → ¬ (k = 1 ∨ k = 3 ∨ k = 17 ∨ k = 31 ∨ k = 32 ∨ k = 33 ∨ k = 34)
theorem RR.f {S : Nat → Prop} {M N : MM} {ab sa ru sr li sn dk m c W i T : Nat} {A : AB} {tk : Nat → Nat × Nat} {tx : Nat → Nat} (h : RR M ab sa ru sr li sn dk A m tk c W i T tx) (F : Fc S M N) (hS : okS S ru) : RR N ab sa ru sr li sn dk A m tk c W i T tx := by
  have hW := h.W
  obtain ⟨-, hab, hru, hli, -, -, -, -, hnx⟩ := hW
  exact h.q (F.Q (by omega) (by omega) (by omega) (by omega) hS) (by rw [F.2.1.1]; exact hnx)
theorem RR.g {S I : Nat → Prop} {M N : MM} {ab sa ru sr li sn dk m c W i T : Nat} {A : AB} {tk : Nat → Nat × Nat} {tx : Nat → Nat} (h : RR M ab sa ru sr li sn dk A m tk c W i T tx) (F : Frm S I M N) (hS : okA S) (hI : okI I) : RR N ab sa ru sr li sn dk A m tk c W i T tx := by
  have hW := h.W
  obtain ⟨-, hab, hru, hli, -, -, -, -, hnx⟩ := hW
  exact h.q (F.Q (by omega) (by omega) (by omega) hS hI) (by rw [F.2.1.1]; exact hnx)
theorem ci_F {d y z : Nat} {as bs : List Value} {M : MM} {ab sa ru sr li sn dk m c W i T : Nat} {A : AB} {tk : Nat → Nat × Nat} {tx : Nat → Nat} (h : RR M ab sa ru sr li sn dk A m tk c W i T tx) {N K : MM} {v : Int32} {S S2 I2 : Nat → Prop} (F1 : Fc S M N) (hS : okS S ru) (hw : evC d y as (toH M) = some (.inl (some (.int (nI 0))), toH (setL N 547 (vp_updL (al N 547) 0 v.toInt64)))) (hm : evC d z bs (toH (setL N 547 (vp_updL (al N 547) 0 v.toInt64))) = some (.inl (some (.int v)), toH K)) (F2 : Frm S2 I2 (setL N 547 (vp_updL (al N 547) 0 v.toInt64)) K) (hS2 : okA S2) (hI2 : okI I2) (h0 : fi K 53 0 = nI 0) : CIi d M y z as bs := by
  have h1 := h.f F1 hS
  have h2 := h1.L (vp_updL (al N 547) 0 v.toInt64)
  have h3 := h2.g F2 hS2 hI2
  refine ⟨_, _, _, _, hw, hm, ⟨h2.W.1, F1.2.1.2.2.1, F1.2.1.2.2.2⟩, h0, fun _ => ?_, h3.R, ?_, ?_, ?_, ?_⟩
  · rw [F2.1.2.2.2.1, al_eq]; exact if_pos rfl
  · rw [F2.2.1.1]; show nx N ≤ _; rw [F1.2.1.1]; omega
  · rw [F2.2.1.2.1]; show sl N ≤ _; rw [F1.2.1.2.1]; omega
  · rw [F2.2.1.2.2.1]; exact F1.2.1.2.2.1
  · rw [F2.2.1.2.2.2]; exact F1.2.1.2.2.2
theorem ci_M {d y z : Nat} {as bs : List Value} {M : MM} {ab sa ru sr li sn dk m c W i T : Nat} {A : AB} {tk : Nat → Nat × Nat} {tx : Nat → Nat} (h : RR M ab sa ru sr li sn dk A m tk c W i T tx) {v : Int32} (hw : evC d y as (toH M) = some (.inl (some (.int (nI 0))), toH (setL M 547 (vp_updL (al M 547) 0 v.toInt64)))) (hm : evC d z bs (toH (setL M 547 (vp_updL (al M 547) 0 v.toInt64))) = some (.inl (some (.int v)), toH (setI (setL M 547 (vp_updL (al M 547) 0 v.toInt64)) 53 0 (nI 0)))) : CIi d M y z as bs :=
  ci_F (S := fun _ => False) (S2 := fun _ => False) (I2 := fun k => k = 0) h (Fc.rf M) (fun _ z => z.elim) hw hm (Frm.I rfl) (fun _ z => z.elim) (fun k z => by omega) (fi_eq _ _ _ _)
theorem cl_F {d y z : Nat} {as bs : List Value} {M : MM} {ab sa ru sr li sn dk m c W i T : Nat} {A : AB} {tk : Nat → Nat × Nat} {tx : Nat → Nat} (h : RR M ab sa ru sr li sn dk A m tk c W i T tx) {N K : MM} {v : Int64} {S S2 I2 : Nat → Prop} {f4 : Nat → Int64} (F1 : Fc S M N) (hS : okS S ru) (hw : evC d y as (toH M) = some (.inl (some (.int (nI 0))), toH (setL N 547 (vp_updL (al N 547) 0 v)))) (hm : evC d z bs (toH (setL N 547 (vp_updL (al N 547) 0 v))) = some (.inl (some (.long v)), toH (setL K 544 f4))) (F2 : Frm S2 I2 (setL N 547 (vp_updL (al N 547) 0 v)) K) (hS2 : okA S2) (hI2 : okI I2) (h0 : fi K 53 0 = nI 0) : CLl d M y z as bs := by
  have h1 := h.f F1 hS
  have h2 := h1.L (vp_updL (al N 547) 0 v)
  have h3 := h2.g F2 hS2 hI2
  have h4 : RR (setL K 544 f4) ab sa ru sr li sn dk A m tk c W i T tx := h3.q KX.L h3.1.1.2.2.2.2.2.2.2.2
  refine ⟨_, _, _, _, hw, hm, ⟨h2.W.1, F1.2.1.2.2.1, F1.2.1.2.2.2⟩, h0, fun _ => ?_, h4.R, ?_, ?_, ?_, ?_⟩
  · rw [al_ne (by decide), F2.1.2.2.2.1, al_eq]; exact if_pos rfl
  · show nx K ≤ _; rw [F2.2.1.1]; show nx N ≤ _; rw [F1.2.1.1]; omega
  · show sl K ≤ _; rw [F2.2.1.2.1]; show sl N ≤ _; rw [F1.2.1.2.1]; omega
  · show sL K = _; rw [F2.2.1.2.2.1]; exact F1.2.1.2.2.1
  · show sX K = _; rw [F2.2.1.2.2.2]; exact F1.2.1.2.2.2
theorem cl_M {d y z : Nat} {as bs : List Value} {M : MM} {ab sa ru sr li sn dk m c W i T : Nat} {A : AB} {tk : Nat → Nat × Nat} {tx : Nat → Nat} (h : RR M ab sa ru sr li sn dk A m tk c W i T tx) {v : Int64} (hw : evC d y as (toH M) = some (.inl (some (.int (nI 0))), toH (setL M 547 (vp_updL (al M 547) 0 v)))) (hm : evC d z bs (toH (setL M 547 (vp_updL (al M 547) 0 v))) = some (.inl (some (.long v)), toH (setI (setL M 547 (vp_updL (al M 547) 0 v)) 53 0 (nI 0)))) : CLl d M y z as bs := by
  have h2 := h.L (vp_updL (al M 547) 0 v)
  have F2 : Frm (fun _ => False) (fun k => k = 0) (setL M 547 (vp_updL (al M 547) 0 v)) (setI (setL M 547 (vp_updL (al M 547) 0 v)) 53 0 (nI 0)) := Frm.I rfl
  have h3 := h2.g F2 (fun _ z => z.elim) (fun k z => by omega)
  refine ⟨_, _, _, _, hw, hm, ⟨h2.W.1, rfl, rfl⟩, fi_eq _ _ _ _, fun _ => ?_, h3.R, ?_, ?_, rfl, rfl⟩
  · rw [F2.1.2.2.2.1, al_eq]; exact if_pos rfl
  · show nx M ≤ _; omega
  · show sl M ≤ _; omega
theorem ci_b {d y z : Nat} {as bs : List Value} {M : MM} {ab sa ru sr li sn dk m c W i T : Nat} {A : AB} {tk : Nat → Nat × Nat} {tx : Nat → Nat} (h : RR M ab sa ru sr li sn dk A m tk c W i T tx) {E k : Nat} {v : Int32} (hx : nx M + 6 < 900000) (hE : E < 2) (hk : 0 < k ∧ k < 10) (hw : evC d y as (toH M) = some (.inl (some (.int (nI k))), toH (cBad M E))) (hm : evC d z bs (toH (cBad M E)) = some (.inl (some (.int v)), toH (mBad (setI (cBad M E) 53 0 (nI 0)) (nI k) E))) : CIi d M y z as bs := by
  have h3 := h.bad (w := nI k) hE (by omega)
  refine ⟨_, _, _, _, hw, hm, ⟨(h.1.C E hE (by omega)).1.1, rfl, rfl⟩, ?_, fun z => ?_, h3.R, ?_, ?_, rfl, rfl⟩
  · show fi (setI (setI (cBad M E) 53 0 (nI 0)) 53 0 (nI k)) 53 0 = nI k
    exact fi_eq _ _ _ _
  · exact absurd ((nI_eq0 (by omega)).mp z) (by omega)
  · show nx M + 1 ≤ _; omega
  · show sl M + 6 ≤ _; omega
theorem cl_b {d y z : Nat} {as bs : List Value} {M : MM} {ab sa ru sr li sn dk m c W i T : Nat} {A : AB} {tk : Nat → Nat × Nat} {tx : Nat → Nat} (h : RR M ab sa ru sr li sn dk A m tk c W i T tx) {E k : Nat} {v : Int64} (hx : nx M + 6 < 900000) (hE : E < 2) (hk : 0 < k ∧ k < 10) (hw : evC d y as (toH M) = some (.inl (some (.int (nI k))), toH (cBad M E))) (hm : evC d z bs (toH (cBad M E)) = some (.inl (some (.long v)), toH (mBad (setI (cBad M E) 53 0 (nI 0)) (nI k) E))) : CLl d M y z as bs := by
  have h3 := h.bad (w := nI k) hE (by omega)
  refine ⟨_, _, _, _, hw, hm, ⟨(h.1.C E hE (by omega)).1.1, rfl, rfl⟩, ?_, fun z => ?_, h3.R, ?_, ?_, rfl, rfl⟩
  · show fi (setI (setI (cBad M E) 53 0 (nI 0)) 53 0 (nI k)) 53 0 = nI k
    exact fi_eq _ _ _ _
  · exact absurd ((nI_eq0 (by omega)).mp z) (by omega)
  · show nx M + 1 ≤ _; omega
  · show sl M + 6 ≤ _; omega
theorem cd_M {d y z : Nat} {as bs : List Value} {M : MM} {ab sa ru sr li sn dk m c W i T : Nat} {A : AB} {tk : Nat → Nat × Nat} {tx : Nat → Nat} (h : RR M ab sa ru sr li sn dk A m tk c W i T tx) {v : Int32} (hw : evC d y as (toH M) = some (.inl (some (.int v)), toH M)) (hm : evC d z bs (toH M) = some (.inl (some (.int v)), toH (setI M 53 0 (nI 0)))) : CDd d M y z as bs := by
  have F2 : Frm (fun _ => False) (fun k => k = 0) M (setI M 53 0 (nI 0)) := Frm.I rfl
  have h3 := h.g F2 (fun _ z => z.elim) (fun k z => by omega)
  refine ⟨_, _, _, hw, hm, ⟨h.W.1, rfl, rfl⟩, h3.R, ?_, ?_, rfl, rfl⟩
  · show nx M ≤ _; omega
  · show sl M ≤ _; omega
