/-! ===== questions of the law, the rest ===== -/
theorem sm_Frm {P : MM} {x l rs : Int32} {r f g : Nat → Int32} : Frm (fun b => b = 438 ∨ b = 439 ∨ b = 522) (fun k => k = 0 ∨ k = 45 ∨ k = 46) P (smM (setI P 53 0 x) r l rs f g) := by
  unfold smM
  exact (((((Frm.I (I := fun k => k = 0 ∨ k = 45 ∨ k = 46) (Or.inl rfl)).tr (Frm.I (Or.inr (Or.inl rfl)))).tr (Frm.I (Or.inr (Or.inr rfl)))).tr (Frm.A (A := fun b => b = 438 ∨ b = 439 ∨ b = 522) (Or.inr (Or.inl rfl)))).tr (Frm.A (Or.inl rfl))).tr (Frm.A (Or.inr (Or.inr rfl)))
theorem sm_0 {P : MM} {x l rs : Int32} {r f g : Nat → Int32} : fi (smM (setI P 53 0 x) r l rs f g) 53 0 = x := by
  unfold smM
  rw [fi_setA, fi_setA, fi_setA, fi_nk (by decide), fi_nk (by decide), fi_eq]
theorem or_Frm {P : MM} {x ll : Int32} {r f g rn rb : Nat → Int32} : Frm (fun b => b = 438 ∨ b = 439 ∨ b = 522 ∨ b = 545 ∨ b = 546) (fun k => k = 0 ∨ k = 44) P (orM (setI P 53 0 x) r f g rn rb ll) := by
  unfold orM
  exact ((((((Frm.I (I := fun k => k = 0 ∨ k = 44) (Or.inl rfl)).tr (Frm.A (A := fun b => b = 438 ∨ b = 439 ∨ b = 522 ∨ b = 545 ∨ b = 546) (Or.inr (Or.inl rfl)))).tr (Frm.A (Or.inl rfl))).tr (Frm.A (Or.inr (Or.inr (Or.inl rfl))))).tr (Frm.A (Or.inr (Or.inr (Or.inr (Or.inl rfl)))))).tr (Frm.A (Or.inr (Or.inr (Or.inr (Or.inr rfl)))))).tr (Frm.I (Or.inr rfl))
theorem or_0 {P : MM} {x ll : Int32} {r f g rn rb : Nat → Int32} : fi (orM (setI P 53 0 x) r f g rn rb ll) 53 0 = x := by
  unfold orM
  rw [fi_nk (by decide), fi_setA, fi_setA, fi_setA, fi_setA, fi_setA, fi_eq]
theorem zC_cg {M P : MM} {pv : Nat → Nat → Nat} {n m q T : Nat} {tk : Nat → Nat × Nat} {b seed : Int32} (e : ai P 521 = ai M 521) (e7 : ai P 57 = ai M 57) : zC P pv n tk m q b seed T = zC M pv n tk m q b seed T := by
  unfold zC
  rw [e, e7]
theorem zcC_cg {M P : MM} {pv : Nat → Nat → Nat} {n m q T : Nat} {tk : Nat → Nat × Nat} {b seed : Int32} (e : ai P 521 = ai M 521) (e7 : ai P 57 = ai M 57) : zcC P pv n tk m q b seed T = zcC M pv n tk m q b seed T := by
  unfold zcC
  funext k
  rw [zC_cg e e7]
theorem prB_cg {M P : MM} {pv : Nat → Nat → Nat} {n m b : Nat} {tk : Nat → Nat × Nat} (e : ai P 521 = ai M 521) (e7 : ai P 57 = ai M 57) : prB P pv n tk m b = prB M pv n tk m b := by
  unfold prB
  rw [e, e7]
theorem rowOK_cg {M P : MM} {n : Nat} {s : Int32} (e : ai P 521 = ai M 521) (h : rowOK M n s) : rowOK P n s := by
  unfold rowOK at h ⊢
  rw [e]; exact h
theorem q_goesOn {d : Nat} {x1 x2 x3 x4 x5 : Int32} {M : MM} {ab sa ru sr li sn dk m c W i T : Nat} {A : AB} {tk : Nat → Nat × Nat} {tx : Nat → Nat} (h : RR M ab sa ru sr li sn dk A m tk c W i T tx) (hx : nx M + 6 < 900000) (hd : 200 ≤ d) : CIi d M 299 260 [.ref 0, .int x1, .int x2, .int x3, .int x4, .int x5, .ref 547] [.ref 53, .int x1, .int x2, .int x3, .int x4, .int x5] := by
  have hP := h.1.P
  have hS := h.W.1
  have hdk : 47 < dk := by have := h.W.2.2.2.2.2.2.1; omega
  have hru := h.W.2.2.1
  obtain ⟨l1, l2, l3⟩ := h.1.2.2.2.1
  have htr : ai M 57 2 = nI A.2.2.2.2.1 := h.1.2.2.1.2.2.2.2.2.1
  by_cases v : (inR x2 1 61 ∧ inR x3 0 17 ∧ inR x4 0 100) ∧ inR x5 0 4
  · obtain ⟨⟨⟨t, t1, t2, rfl⟩, ⟨q, -, q1, rfl⟩, hb⟩, ⟨w, -, w1, rfl⟩⟩ := v
    obtain ⟨N, cc, F⟩ := c_goesOn (d := d - 1) (seed := x1) hP l1 l3 hdk htr (by omega) q1 t1 t2 hb w1
    have okF : okS (dkS 12 ru) ru := fun b z => by unfold dkS at z; omega
    have hN := h.f F okF
    have e5 : ∀ g, ai (setL N 547 g) 521 = ai M 521 := fun g => (F.2.2 521 (fun z => by unfold dkS at z; omega)).2
    have e7 : ∀ g, ai (setL N 547 g) 57 = ai M 57 := fun g => (F.2.2 57 (fun z => by unfold dkS at z; omega)).2
    obtain ⟨r, l, rs, f, g, mm⟩ := m_goesOn (d := d) (seed := x1) (hN.L (vp_updL (al N 547) 0 (goS A.2.1 A.1 (zC M A.2.1 A.1 tk m q x4 x1 t) w).toInt64)).1.M (hN.L _).1.2.2.2.1.2.1 l3 (by omega) q1 t1 t2 hb w1
    rw [zC_cg (e5 _) (e7 _)] at mm
    exact ci_F h F okF (wL_goesOn hS hN.W.1 (by omega) cc) mm sm_Frm (fun b z => by omega) (fun k z => by omega) sm_0
  · exact ci_b h hx (E := 1) (k := 1) (by decide) (by decide) (wL_goesOn_1 hS (by omega) (c_goesOn_b (d := d - 1) hP (by omega) v)) (m_goesOn_b (d := d) (by omega) (h.1.C 1 (by decide) (by omega)).M v)
theorem q_span {d : Nat} {x1 x2 x3 x4 x5 x6 x7 : Int32} {M : MM} {ab sa ru sr li sn dk m c W i T : Nat} {A : AB} {tk : Nat → Nat × Nat} {tx : Nat → Nat} (h : RR M ab sa ru sr li sn dk A m tk c W i T tx) (hx : nx M + 6 < 900000) (hd : 200 ≤ d) : CIi d M 300 261 [.ref 0, .int x1, .int x2, .int x3, .int x4, .int x5, .int x6, .int x7, .ref 547] [.ref 53, .int x1, .int x2, .int x3, .int x4, .int x5, .int x6, .int x7] := by
  have hP := h.1.P
  have hS := h.W.1
  have hdk : 47 < dk := by have := h.W.2.2.2.2.2.2.1; omega
  have hru := h.W.2.2.1
  obtain ⟨l1, l2, l3⟩ := h.1.2.2.2.1
  have htr : ai M 57 2 = nI A.2.2.2.2.1 := h.1.2.2.1.2.2.2.2.2.1
  by_cases v : inR x2 1 21 ∧ (inR x3 1 61 ∧ inR x4 0 17 ∧ inR x5 0 100) ∧ inR x6 0 3 ∧ inR x7 0 A.1
  · obtain ⟨⟨y, y1, y2, rfl⟩, ⟨⟨t, t1, t2, rfl⟩, ⟨q, -, q1, rfl⟩, hb⟩, ⟨w, -, w1, rfl⟩, ⟨p, -, p1, rfl⟩⟩ := v
    obtain ⟨N, cc, F⟩ := c_span (d := d - 1) (seed := x1) hP l1 l3 hdk htr (by omega) q1 t1 t2 hb w1 y1 y2 p1
    have okF : okS (dkS 12 ru) ru := fun b z => by unfold dkS at z; omega
    have hN := h.f F okF
    have e5 : ∀ g, ai (setL N 547 g) 521 = ai M 521 := fun g => (F.2.2 521 (fun z => by unfold dkS at z; omega)).2
    have e7 : ∀ g, ai (setL N 547 g) 57 = ai M 57 := fun g => (F.2.2 57 (fun z => by unfold dkS at z; omega)).2
    obtain ⟨r, l, rs, f, g, mm⟩ := m_span (d := d) (seed := x1) (hN.L (vp_updL (al N 547) 0 (spS (zcC M A.2.1 A.1 tk m q x5 x1 t) (cnt y (fun k => (zC M A.2.1 A.1 tk m q x5 (x1 + nI k) t).1 p = 0)) y w).toInt64)).1.M (hN.L _).1.2.2.2.1.2.1 l3 (by omega) q1 t1 t2 hb w1 y1 y2 p1
    simp only [zC_cg (e5 _) (e7 _), zcC_cg (e5 _) (e7 _)] at mm
    exact ci_F h F okF (wL_span hS hN.W.1 (by omega) cc) mm sm_Frm (fun b z => by omega) (fun k z => by omega) sm_0
  · exact ci_b h hx (E := 1) (k := 1) (by decide) (by decide) (wL_span_1 hS (by omega) (c_span_b (d := d - 1) hP (by omega) v)) (m_span_b (d := d) (by omega) (h.1.C 1 (by decide) (by omega)).M v)
theorem q_order {d : Nat} {x1 : Int32} {M : MM} {ab sa ru sr li sn dk m c W i T : Nat} {A : AB} {tk : Nat → Nat × Nat} {tx : Nat → Nat} (h : RR M ab sa ru sr li sn dk A m tk c W i T tx) (hx : nx M + 6 < 900000) (hd : 200 ≤ d) : CIi d M 288 249 [.ref 0, .int x1, .ref 547] [.ref 53, .int x1] := by
  have hP := h.1.P
  have hS := h.W.1
  have hdk : 47 < dk := by have := h.W.2.2.2.2.2.2.1; omega
  have hru := h.W.2.2.1
  obtain ⟨l1, l2, l3⟩ := h.1.2.2.2.1
  have htr : ai M 57 2 = nI A.2.2.2.2.1 := h.1.2.2.1.2.2.2.2.2.1
  by_cases v : rowOK M A.1 x1
  · have v2 := v
    obtain ⟨b, rfl, b1, b2, -⟩ := v2
    obtain ⟨N, cc, F⟩ := c_order (d := d - 1) hP l1 l3 hdk htr (by omega) v b1 b2
    have okF : okS (loS ru) ru := fun b z => by unfold loS at z; omega
    have hN := h.f F okF
    have e5 : ∀ g, ai (setL N 547 g) 521 = ai M 521 := fun g => (F.2.2 521 (fun z => by unfold loS at z; omega)).2
    have e7 : ∀ g, ai (setL N 547 g) 57 = ai M 57 := fun g => (F.2.2 57 (fun z => by unfold loS at z; omega)).2
    obtain ⟨r2, f2, g2, rn2, rb2, ll2, mm⟩ := m_order (d := d) (hN.L (vp_updL (al N 547) 0 (obL (prB M A.2.1 A.1 tk m b)).toInt64)).1.M (hN.L _).1.2.2.2.1.2.1 l3 (by omega) (rowOK_cg (e5 _) v) b1 b2
    rw [prB_cg (e5 _) (e7 _)] at mm
    exact ci_F h F okF (wL_order hS hN.W.1 (by omega) cc) mm or_Frm (fun b z => by omega) (fun k z => by omega) or_0
  · exact ci_b h hx (E := 1) (k := 1) (by decide) (by decide) (wL_order_1 hS (by omega) (c_order_b (d := d - 1) hP (by omega) v)) (m_order_b (d := d) (by omega) (h.1.C 1 (by decide) (by omega)).M v)
theorem q_ordered {d : Nat} {x1 x2 : Int32} {M : MM} {ab sa ru sr li sn dk m c W i T : Nat} {A : AB} {tk : Nat → Nat × Nat} {tx : Nat → Nat} (h : RR M ab sa ru sr li sn dk A m tk c W i T tx) (hx : nx M + 6 < 900000) (hd : 200 ≤ d) : CIi d M 289 250 [.ref 0, .int x1, .int x2, .ref 547] [.ref 53, .int x1, .int x2] := by
  have hP := h.1.P
  have hS := h.W.1
  have hdk : 47 < dk := by have := h.W.2.2.2.2.2.2.1; omega
  have hru := h.W.2.2.1
  obtain ⟨l1, l2, l3⟩ := h.1.2.2.2.1
  have htr : ai M 57 2 = nI A.2.2.2.2.1 := h.1.2.2.1.2.2.2.2.2.1
  by_cases v : rowOK M A.1 x1 ∧ ¬ x2 < 0
  · obtain ⟨v, v0⟩ := v
    have v2 := v
    obtain ⟨b, rfl, b1, b2, -⟩ := v2
    obtain ⟨k, k1, rfl⟩ : ∃ k, k < 2 ^ 31 ∧ x2 = nI k := by
      have hle := x2.toInt_lt
      rw [Int32.lt_iff_toInt_lt, show (0 : Int32).toInt = 0 by decide] at v0
      refine ⟨x2.toInt.toNat, by omega, ?_⟩
      apply Int32.toInt_inj.mp
      rw [nI_toInt (by omega)]
      omega
    obtain ⟨N, cc, F⟩ := c_ordered (d := d - 1) hP l1 l3 hdk htr (by omega) v b1 b2 k1
    have okF : okS (loS ru) ru := fun b z => by unfold loS at z; omega
    have hN := h.f F okF
    have e5 : ∀ g, ai (setL N 547 g) 521 = ai M 521 := fun g => (F.2.2 521 (fun z => by unfold loS at z; omega)).2
    have e7 : ∀ g, ai (setL N 547 g) 57 = ai M 57 := fun g => (F.2.2 57 (fun z => by unfold loS at z; omega)).2
    obtain ⟨r2, f2, g2, rn2, rb2, ll2, mm⟩ := m_ordered (d := d) (hN.L (vp_updL (al N 547) 0 (if k < cnt 16 (fun i => b.testBit i = true) then obA (prB M A.2.1 A.1 tk m b) k else -1).toInt64)).1.M (hN.L _).1.2.2.2.1.2.1 l3 (by omega) (rowOK_cg (e5 _) v) b1 b2 k1
    rw [prB_cg (e5 _) (e7 _)] at mm
    exact ci_F h F okF (wL_ordered hS hN.W.1 (by omega) cc) mm or_Frm (fun b z => by omega) (fun k z => by omega) or_0
  · exact ci_b h hx (E := 1) (k := 1) (by decide) (by decide) (wL_ordered_1 hS (by omega) (c_ordered_b (d := d - 1) hP (by omega) v)) (m_ordered_b (d := d) (by omega) (h.1.C 1 (by decide) (by omega)).M v)
def CBb (d : Nat) (M : MM) (y z : Nat) (as bs : List Value) : Prop := ∃ k N p K, evC d y as (toH M) = some (.inl (some (.int k)), toH N) ∧ evC d z bs (toH N) = some (.inl (some (.int (bI p))), toH K) ∧ (SH N ∧ sL N = sL M ∧ sX N = sX M) ∧ fi K 53 0 = k ∧ (k = 0 → al K 547 0 = (bI p).toInt64) ∧ R K ∧ Rm M K
theorem q_isBook {d : Nat} {x1 : Int32} {M : MM} {ab sa ru sr li sn dk m c W i T : Nat} {A : AB} {tk : Nat → Nat × Nat} {tx : Nat → Nat} (h : RR M ab sa ru sr li sn dk A m tk c W i T tx) (hx : nx M + 6 < 900000) (hd : 200 ≤ d) : CBb d M 281 231 [.ref 0, .int x1, .ref 547] [.ref 53, .int x1] := by
  have hP := h.1.P
  have hS := h.W.1
  by_cases v : inR x1 0 (2 ^ A.1)
  · obtain ⟨b, -, b1, rfl⟩ := v
    have hw := wL_isBook hS hS (by omega) (c_isBook (d := d - 1) hP (by omega) b1)
    have h2 := h.L (vp_updL (al M 547) 0 (bI (isB M A.2.1 A.1 A.2.2.2.1 A.2.2.1 (-1) b)).toInt64)
    have mm := m_isBook (d := d) (by omega) h2.1.M h2.1.Z b1
    rw [isB_cg (M := M) rfl] at mm
    have F2 : Frm (fun _ => False) (fun k => k = 0) (setL M 547 (vp_updL (al M 547) 0 (bI (isB M A.2.1 A.1 A.2.2.2.1 A.2.2.1 (-1) b)).toInt64)) (setI (setL M 547 (vp_updL (al M 547) 0 (bI (isB M A.2.1 A.1 A.2.2.2.1 A.2.2.1 (-1) b)).toInt64)) 53 0 (nI 0)) := Frm.I rfl
    have h3 := h2.g F2 (fun _ z => z.elim) (fun k z => by omega)
    refine ⟨_, _, _, _, hw, mm, ⟨h2.W.1, rfl, rfl⟩, fi_eq _ _ _ _, fun _ => ?_, h3.R, ?_, ?_, rfl, rfl⟩
    · rw [F2.1.2.2.2.1, al_eq]; exact if_pos rfl
    · show nx M ≤ _; omega
    · show sl M ≤ _; omega
  · have hw := wL_isBook_1 hS (by omega) (c_isBook_b (d := d - 1) hP (by omega) v)
    have mm := m_isBook_b (d := d) (by omega) (h.1.C 1 (by decide) (by omega)).M v
    have e0 : (nI 0 : Int32) = bI False := (bI_f (fun z => z)).symm
    have h3 := h.bad (E := 1) (w := nI 1) (by decide) (by omega)
    refine ⟨_, _, False, _, hw, (by rw [← e0]; exact mm), ⟨(h.1.C 1 (by decide) (by omega)).1.1, rfl, rfl⟩, ?_, fun z => ?_, h3.R, ?_, ?_, rfl, rfl⟩
    · show fi (setI (setI (cBad M 1) 53 0 (nI 0)) 53 0 (nI 1)) 53 0 = nI 1
      exact fi_eq _ _ _ _
    · exact absurd z (by decide)
    · show nx M + 1 ≤ _; omega
    · show sl M + 6 ≤ _; omega
