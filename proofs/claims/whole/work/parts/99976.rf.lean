/-! ===== questions of the law, more ===== -/
theorem tw_Frm {P : MM} {x : Int32} {f g : Nat → Int32} : Frm (fun b => b = 438 ∨ b = 439) (fun k => k = 0) P (setA (setA (setI P 53 0 x) 439 f) 438 g) := ((Frm.I (I := fun k => k = 0) rfl).tr (Frm.A (A := fun b => b = 438 ∨ b = 439) (Or.inr rfl))).tr (Frm.A (Or.inl rfl))
theorem least_N {P : Nat → Prop} : ∀ B, P B → ∃ b, b ≤ B ∧ P b ∧ ∀ k, k < b → ¬ P k := by
  intro B
  induction B using Nat.strongRecOn with
  | _ B ih =>
    intro hB
    by_cases h : ∃ k, k < B ∧ P k
    · obtain ⟨k, k1, k2⟩ := h
      obtain ⟨b, b1, b2, b3⟩ := ih k k1 k2
      exact ⟨b, by omega, b2, b3⟩
    · exact ⟨B, Nat.le_refl _, hB, fun k hk z => h ⟨k, hk, z⟩⟩
theorem q_fault {d : Nat} {M : MM} {ab sa ru sr li sn dk m c W i T : Nat} {A : AB} {tk : Nat → Nat × Nat} {tx : Nat → Nat} (h : RR M ab sa ru sr li sn dk A m tk c W i T tx) (hx : nx M + 6 < 900000) (hd : 200 ≤ d) : CDd d M 104 196 [.ref 0] [.ref 53] := by
  have hP := h.1.P
  have hS := h.W.1
  have cc := c_fault (d := d) hP (by omega)
  rw [h.2.2.1] at cc
  exact cd_M h cc (m_fault (d := d) (by omega) hS)
theorem q_kept {d : Nat} {x1 : Int32} {M : MM} {ab sa ru sr li sn dk m c W i T : Nat} {A : AB} {tk : Nat → Nat × Nat} {tx : Nat → Nat} (h : RR M ab sa ru sr li sn dk A m tk c W i T tx) (hx : nx M + 6 < 900000) (hd : 200 ≤ d) : CDd d M 140 267 [.ref 0, .int x1] [.ref 53, .int x1] := by
  have hP := h.1.P
  have hS := h.W.1
  have cc := c_kept (d := d) (w := x1) hP (by omega)
  obtain ⟨i1, i2, i3, i4⟩ := h.1.2.2.2.2.2.1
  rw [i1.trans i2.symm, h.2.1.1.trans h.2.1.2.1.symm, h.1.2.2.2.2.2.2.1.2.2.b.2.2.2.2.2.trans h.1.2.2.2.2.2.2.1.1.symm] at cc
  exact cd_M h cc (m_kept (d := d) (by omega) hS)
theorem q_status {d : Nat} {x1 : Int32} {M : MM} {ab sa ru sr li sn dk m c W i T : Nat} {A : AB} {tk : Nat → Nat × Nat} {tx : Nat → Nat} (h : RR M ab sa ru sr li sn dk A m tk c W i T tx) (hx : nx M + 6 < 900000) (hd : 200 ≤ d) : CDd d M 139 266 [.ref 0, .int x1] [.ref 53, .int x1] := by
  have hP := h.1.P
  have hS := h.W.1
  have cc := c_status (d := d) (w := x1) hP (by omega)
  rw [h.2.2.2.1, h.2.2.2.2] at cc
  by_cases v : inR x1 0 2
  · obtain ⟨w, -, w1, rfl⟩ := v
    have e : (if nI w = 0 then ai M 55 0 else if nI w = nI 1 then ai M 55 1 else -1) = ai M 55 w := by
      have hw : w = 0 ∨ w = 1 := by omega
      rcases hw with rfl | rfl
      · exact if_pos rfl
      · rw [if_neg (by decide), if_pos rfl]
    rw [e] at cc
    exact cd_M h cc (m_status (d := d) (by omega) hS w1)
  · have e : (if x1 = 0 then ai M 55 0 else if x1 = nI 1 then ai M 55 1 else -1) = -1 := by
      rw [if_neg (fun z : x1 = 0 => v ⟨0, by decide, by decide, z⟩), if_neg (fun z => v ⟨1, by decide, by decide, z⟩)]
    rw [e] at cc
    exact cd_M h cc (m_status_n (d := d) (by omega) hS v)
theorem q_strict {d : Nat} {x1 : Int32} {M : MM} {ab sa ru sr li sn dk m c W i T : Nat} {A : AB} {tk : Nat → Nat × Nat} {tx : Nat → Nat} (h : RR M ab sa ru sr li sn dk A m tk c W i T tx) (hx : nx M + 6 < 900000) (hd : 200 ≤ d) : CIi d M 295 218 [.ref 0, .int x1, .ref 547] [.ref 53, .int x1] := by
  have hP := h.1.P
  have hS := h.W.1
  by_cases v : inR x1 0 17
  · obtain ⟨w, -, w1, rfl⟩ := v
    have hz : cnt A.1 (kthk M (nI 100)) = 0 := by
      have e : cnt A.1 (kthk M (nI 100)) = cnt A.1 (fun _ => False) := cnt_congr (fun p hp => ⟨fun z => by
        have hr := (hP.2.2.2.1.1 p hp).2.2
        refine z.2.2 ?_
        rw [Int32.lt_iff_toInt_lt, nI_toInt (by decide)] at hr ⊢
        omega, fun z => z.elim⟩)
      rw [e]
      exact cnt_none (fun p _ z => z)
    obtain ⟨b, b1, b2, b3⟩ := least_N (P := fun b => ¬ w < cnt A.1 (kthk M (nI b))) 100 (by rw [hz]; omega)
    exact ci_M h (wL_strict hS hS (by omega) (c_strict (d := d - 1) hP (by omega) w1 (by omega) (fun k hk => Classical.byContradiction (b3 k hk)) b2)) (m_strict (d := d) (by omega) (h.L _).1.M w1 (by omega) (fun k hk => Classical.byContradiction (b3 k hk)) b2)
  · exact ci_b h hx (E := 1) (k := 1) (by decide) (by decide) (wL_strict_1 hS (by omega) (c_strict_b (d := d - 1) hP (by omega) v)) (m_strict_b (d := d) (by omega) (h.1.C 1 (by decide) (by omega)).M v)
theorem q_often {d : Nat} {x1 x2 x3 : Int32} {M : MM} {ab sa ru sr li sn dk m c W i T : Nat} {A : AB} {tk : Nat → Nat × Nat} {tx : Nat → Nat} (h : RR M ab sa ru sr li sn dk A m tk c W i T tx) (hx : nx M + 6 < 900000) (hd : 200 ≤ d) : CLl d M 287 242 [.ref 0, .int x1, .int x2, .int x3, .ref 547] [.ref 53, .int x1, .int x2, .int x3] := by
  have hP := h.1.P
  have hS := h.W.1
  by_cases v : (∃ m, x1 = nI m ∧ 1 ≤ m ∧ m < 10 ∧ m % 2 = 1) ∧ inR x2 0 17 ∧ inR x3 0 2
  · obtain ⟨⟨q, rfl, q1, q2, q3⟩, ⟨r, -, r1, rfl⟩, ⟨w, -, w1, rfl⟩⟩ := v
    exact cl_F (S := fun _ => False) (S2 := fun _ => False) (I2 := fun k => k = 0) h (Fc.rf M) (fun _ z => z.elim) (wL_often hS hS (by omega) (c_often (d := d - 1) hP (by omega) q1 q2 q3 r1 w1)) (m_often (d := d) (by omega) (h.L _).W.1 q1 q2 q3 r1 w1) (Frm.I rfl) (fun _ z => z.elim) (fun k z => by omega) (fi_eq _ _ _ _)
  · exact cl_b h hx (E := 1) (k := 1) (by decide) (by decide) (wL_often_1 hS (by omega) (c_often_b (d := d - 1) hP (by omega) v)) (m_often_b (d := d) (by omega) (h.1.C 1 (by decide) (by omega)).1.1 v)
theorem q_thought {d : Nat} {x1 : Int32} {M : MM} {ab sa ru sr li sn dk m c W i T : Nat} {A : AB} {tk : Nat → Nat × Nat} {tx : Nat → Nat} (h : RR M ab sa ru sr li sn dk A m tk c W i T tx) (hx : nx M + 6 < 900000) (hd : 200 ≤ d) : CIi d M 276 221 [.ref 0, .int x1, .ref 547] [.ref 53, .int x1] := by
  have hP := h.1.P
  have hS := h.W.1
  have hdk : 47 < dk := by have := h.W.2.2.2.2.2.2.1; omega
  obtain ⟨l1, l2, l3⟩ := h.1.2.2.2.1
  by_cases v : inR x1 0 A.1
  · obtain ⟨p, -, p1, rfl⟩ := v
    obtain ⟨N, cc, F⟩ := c_thought (d := d - 1) hP l1 l3 hdk (by omega) p1
    have hru := h.W.2.2.1
    have okF : okS (ruS ru) ru := fun b z => by unfold ruS at z; omega
    have hN := h.f F okF
    have hl := hN.L (vp_updL (al N 547) 0 (thkV (knF A.2.1 A.1 (ai M 521) p) tk m).toInt64)
    obtain ⟨f, g, mm⟩ := m_thought (d := d) hl.1.M hl.1.2.2.2.1.2.1 l3 (by omega) p1
    have e5 : ai (setL N 547 (vp_updL (al N 547) 0 (thkV (knF A.2.1 A.1 (ai M 521) p) tk m).toInt64)) 521 = ai M 521 := (F.2.2 521 (fun z => by unfold ruS at z; omega)).2
    rw [e5] at mm
    exact ci_F (S2 := fun b => b = 438 ∨ b = 439) (I2 := fun k => k = 0) h F okF (wL_thought hS hN.W.1 (by omega) cc) mm tw_Frm (fun b z => by omega) (fun k z => by omega) (by rw [fi_setA, fi_setA, fi_eq])
  · exact ci_b h hx (E := 0) (k := 1) (by decide) (by decide) (wL_thought_0 hS (by omega) (c_thought_b (d := d - 1) hP (by omega) v)) (m_thought_b (d := d) (by omega) (h.1.C 0 (by decide) (by omega)).M v)
theorem q_would {d : Nat} {x1 x2 x3 x4 x5 x6 x7 x8 : Int32} {M : MM} {ab sa ru sr li sn dk m c W i T : Nat} {A : AB} {tk : Nat → Nat × Nat} {tx : Nat → Nat} (h : RR M ab sa ru sr li sn dk A m tk c W i T tx) (hx : nx M + 6 < 900000) (hd : 200 ≤ d) : CIi d M 277 222 [.ref 0, .int x1, .int x2, .int x3, .int x4, .int x5, .int x6, .int x7, .int x8, .ref 547] [.ref 53, .int x1, .int x2, .int x3, .int x4, .int x5, .int x6, .int x7, .int x8] := by
  have hP := h.1.P
  have hS := h.W.1
  obtain ⟨l1, l2, l3⟩ := h.1.2.2.2.1
  by_cases v : wdOK x1 x2 x3 x4 x5 x6 x7 x8
  · obtain ⟨N, cc, F⟩ := c_would (d := d - 1) hP l1 l3 (by omega) v
    have hru := h.W.2.2.1
    have okF : okS (ruS ru) ru := fun b z => by unfold ruS at z; omega
    have hN := h.f F okF
    have hl := hN.L (vp_updL (al N 547) 0 (thkV (kn8 x1 x2 x3 x4 x5 x6 x7 x8) tk m).toInt64)
    obtain ⟨f, g, mm⟩ := m_would (d := d) hl.W.1 hl.1.2.2.2.1.2.1 l3 (by omega) v
    exact ci_F (S2 := fun b => b = 438 ∨ b = 439) (I2 := fun k => k = 0) h F okF (wL_would hS hN.W.1 (by omega) cc) mm tw_Frm (fun b z => by omega) (fun k z => by omega) (by rw [fi_setA, fi_setA, fi_eq])
  · exact ci_b h hx (E := 1) (k := 1) (by decide) (by decide) (wL_would_1 hS (by omega) (c_would_b (d := d - 1) hP (by omega) v)) (m_would_b (d := d) (h.1.C 1 (by decide) (by omega)).1.1 (by omega) v)
theorem isB_cg {M P : MM} {pv : Nat → Nat → Nat} {n sz : Nat} {ws : Nat → Nat} {but : Int32} (e : ai P 521 = ai M 521) : isB P pv n sz ws but = isB M pv n sz ws but := by
  funext b
  simp only [isB, bgd1, e]
def bkI : Nat → Prop := fun k => k = 0 ∨ k = 38 ∨ k = 39 ∨ k = 40
theorem bk_Frm {M0 M P : MM} {pv : Nat → Nat → Nat} {n sz : Nat} {ws : Nat → Nat} {but : Int32} {k : Nat} (h : Frm (fun _ => False) bkI P M) : Frm (fun _ => False) bkI P (bkR M0 M pv n sz ws but k) := by
  unfold bkR bkM
  exact ((h.tr (Frm.I (Or.inr (Or.inl rfl)))).tr (Frm.I (Or.inr (Or.inr (Or.inl rfl))))).tr (Frm.I (Or.inr (Or.inr (Or.inr rfl))))
theorem bk_0 {M0 M : MM} {pv : Nat → Nat → Nat} {n sz : Nat} {ws : Nat → Nat} {but : Int32} {k : Nat} : fi (bkR M0 M pv n sz ws but k) 53 0 = fi M 53 0 := by
  unfold bkR bkM
  rw [fi_nk (by decide), fi_nk (by decide), fi_nk (by decide)]
theorem q_books {d : Nat} {x1 : Int32} {M : MM} {ab sa ru sr li sn dk m c W i T : Nat} {A : AB} {tk : Nat → Nat × Nat} {tx : Nat → Nat} (h : RR M ab sa ru sr li sn dk A m tk c W i T tx) (hx : nx M + 6 < 900000) (hd : 200 ≤ d) : CIi d M 278 227 [.ref 0, .int x1, .ref 547] [.ref 53, .int x1] := by
  have hP := h.1.P
  have hS := h.W.1
  by_cases v : inR x1 0 3
  · obtain ⟨w, -, w1, rfl⟩ := v
    obtain ⟨N, cc, F⟩ := c_books (d := d - 1) hP (by omega) w1
    have okF : okS (fun a => a = 7) ru := fun b z => Or.inl (by omega)
    have hN := h.f F okF
    have e5 : ∀ g, ai (setL N 547 g) 521 = ai M 521 := fun g => (F.2.2 521 (by decide)).2
    have mm := fun g => m_books (d := d) (by omega) (hN.L g).1.M (hN.L g).1.Z w1
    simp only [isB_cg (e5 _)] at mm
    refine ci_F (S2 := fun _ => False) (I2 := bkI) h F okF (wL_books hS hN.W.1 (by omega) cc) (mm _) (bk_Frm (Frm.I (Or.inl rfl))) (fun b z => z.elim) (fun k z => by unfold bkI at z; omega) (by rw [bk_0, fi_eq])
  · exact ci_b h hx (E := 1) (k := 1) (by decide) (by decide) (wL_books_1 hS (by omega) (c_books_b (d := d - 1) hP (by omega) v)) (m_books_b (d := d) (by omega) (h.1.C 1 (by decide) (by omega)).M v)
theorem q_cost {d : Nat} {x1 : Int32} {M : MM} {ab sa ru sr li sn dk m c W i T : Nat} {A : AB} {tk : Nat → Nat × Nat} {tx : Nat → Nat} (h : RR M ab sa ru sr li sn dk A m tk c W i T tx) (hx : nx M + 6 < 900000) (hd : 200 ≤ d) : CIi d M 279 228 [.ref 0, .int x1, .ref 547] [.ref 53, .int x1] := by
  have hP := h.1.P
  have hS := h.W.1
  have hdk : 47 < dk := by have := h.W.2.2.2.2.2.2.1; omega
  by_cases v : inR x1 0 6
  · obtain ⟨w, -, w1, rfl⟩ := v
    obtain ⟨N, cc, F⟩ := c_cost (d := d - 1) hP hdk (by omega) w1
    have okF : okS (fun a => a = 7) ru := fun b z => Or.inl (by omega)
    have hN := h.f F okF
    have e5 : ∀ g, ai (setL N 547 g) 521 = ai M 521 := fun g => (F.2.2 521 (by decide)).2
    have e6 : ∀ g, costS (setL N 547 g) A.2.1 A.1 A.2.2.2.1 A.2.2.1 w = costS M A.2.1 A.1 A.2.2.2.1 A.2.2.1 w := fun g => by
      unfold costS
      simp only [isB_cg (e5 _)]
    have mm := fun g => m_cost (d := d) (by omega) (hN.L g).1.M (hN.L g).1.Z w1
    simp only [e6] at mm
    refine ci_F (S2 := fun _ => False) (I2 := bkI) h F okF (wL_cost hS hN.W.1 (by omega) cc) (mm _) (bk_Frm (bk_Frm (Frm.I (Or.inl rfl)))) (fun b z => z.elim) (fun k z => by unfold bkI at z; omega) (by rw [bk_0, bk_0, fi_eq])
  · exact ci_b h hx (E := 0) (k := 1) (by decide) (by decide) (wL_cost_0 hS (by omega) (c_cost_b (d := d - 1) hP (by omega) v)) (m_cost_b (d := d) (by omega) (h.1.C 0 (by decide) (by omega)).M v)
