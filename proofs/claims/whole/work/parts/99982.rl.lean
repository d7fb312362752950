/-! ===== work, on both sides ===== -/
theorem q_work {d : Nat} {x1 : Int32} {M : MM} {ab sa ru sr li sn dk m c W i T : Nat} {A : AB} {tk : Nat → Nat × Nat} {tx : Nat → Nat} (h : RR M ab sa ru sr li sn dk A m tk c W i T tx) (hx : nx M + 6 < 900000) (hd : 200 ≤ d) : CIi d M 271 206 [.ref 0, .int x1, .ref 547] [.ref 53, .int x1] := by
  have hS := h.W.1
  have hW := h.W
  have hT := h.2.1
  obtain ⟨t1, t2, t3, t4⟩ := hT
  have hT := h.2.1
  obtain ⟨-, hab, hru, hli, ⟨f6, f7, f8, f9, f10, f11, f12⟩, hDK, hdk, hdn, hnx⟩ := hW
  have hW := h.W
  have h548 := hS.1
  have hX := hW.X
  obtain ⟨w1, w2, w3⟩ := h.1.2.2.2.2.2.2.1
  have hA := h.1.2.1
  have hTD := h.1.2.2.1
  have h16 : A.1 ≤ 16 := hA.2.1
  obtain ⟨-, -, -, bD, bR, b10⟩ := w3.b
  by_cases v : inR x1 0 (T + 1) ∧ ¬ nI 150 < x1
  · obtain ⟨⟨n, -, n1, rfl⟩, n2⟩ := v
    have hn1 : n ≤ 150 := by rw [nI_ltI (by omega) (by omega)] at n2; omega
    by_cases hw16 : W = 16
    · subst hw16
      obtain ⟨N, cc, F1, u1, u6⟩ := c_work_20 (d := d - 1) hW (by omega) t1 t3 hT.b (by omega) hn1 b10
      have hSN : SH N := F1.O.SH hS
      have okF : okT tpS ab ru li := fun b z => by unfold tpS at z; omega
      obtain ⟨z1, z2⟩ := tp_P (g := vp_updL (al N 547) 0 (-20 : Int32).toInt64) hT F1 (fun z => by unfold tpS at z; omega) (fun z => by unfold tpS at z; omega)
      have e32 : fi (setL N 547 (vp_updL (al N 547) 0 (-20 : Int32).toInt64)) 53 32 = nI 16 := by
        show fi N 53 32 = nI 16
        rw [(F1.2.2 53 (fun z => by unfold tpS at z; omega)).1]; exact w1
      have mm := m_work_20 (d := d) (M := setL N 547 (vp_updL (al N 547) 0 (-20 : Int32).toInt64)) hSN (by omega) z1 t3 (by omega) hn1 e32
      have F2 : Frm (fun _ => False) (fun k => k = 0 ∨ k = 1 ∨ k = 3) (setL N 547 (vp_updL (al N 547) 0 (-20 : Int32).toInt64)) (setI (setI (setI (setL N 547 (vp_updL (al N 547) 0 (-20 : Int32).toInt64)) 53 0 (nI 0)) 53 1 (nI 0)) 53 3 (-1)) := ((Frm.I (A := fun _ => False) (I := fun k => k = 0 ∨ k = 1 ∨ k = 3) (Or.inl rfl)).tr (Frm.I (Or.inr (Or.inl rfl)))).tr (Frm.I (Or.inr (Or.inr rfl)))
      exact ci_fail h F1 okF u1 u6 (wL_work hS hSN (by omega) cc) mm F2 (fun b z => z.elim) (fun k z => by omega) (by rw [fi_nk (by decide), fi_eq]) (fi_eq _ _ _ _) (by rw [fi_nk (by decide), fi_nk (by decide), fi_eq])
    · have hW16 : W < 16 := by omega
      cases hp : pWk tx n A.1 with
      | inl kp =>
        obtain ⟨k, p⟩ := kp
        obtain ⟨N, cc, F1, u1, u6⟩ := c_work_f (d := d - 1) hW hA (by omega) t1 t3 hT.b (by omega) hn1 b10 hW16 hp
        have hSN : SH N := F1.O.SH hS
        have okF : okT plS ab ru li := fun b z => by unfold plS at z; omega
        have n53 : ∀ b, 53 ≤ b → ¬ plS b := fun b hb z => by unfold plS at z; omega
        obtain ⟨z1, z2⟩ := tp_P (g := vp_updL (al N 547) 0 (nI k - nI 10).toInt64) hT F1 (n53 _ (by omega)) (n53 _ (by omega))
        have e32 : fi (setL N 547 (vp_updL (al N 547) 0 (nI k - nI 10).toInt64)) 53 32 = nI W := by
          show fi N 53 32 = nI W
          rw [(F1.2.2 53 (n53 _ (by omega))).1]; exact w1
        have e57 : ai (setL N 547 (vp_updL (al N 547) 0 (nI k - nI 10).toInt64)) 57 0 = nI A.1 := by
          show ai N 57 0 = nI A.1
          rw [(F1.2.2 57 (n53 _ (by omega))).2]; exact hTD.1
        obtain ⟨K, mm, F2, v2, v3, v4⟩ := m_work_f (d := d) (M := setL N 547 (vp_updL (al N 547) 0 (nI k - nI 10).toInt64)) hSN (by omega) z1 t3 z2 (by omega) hn1 e32 hW16 e57 h16 hp
        exact ci_fail h F1 okF u1 u6 (wL_work hS hSN (by omega) cc) mm F2 (fun b z => by unfold skA at z; omega) (fun k z => by unfold wk0 rdI at z; omega) v3 v4 v2
      | inr r =>
        obtain ⟨w, e⟩ := r
        obtain ⟨hU, hLt, hL⟩ := h.1.2.2.2.1
        obtain ⟨f, st2, hg⟩ := goF_end (kd := fun i => (w.2 i).1) (nm := fun i => (w.2 i).2.1) (nx := fun i => (w.2 i).2.2) (can := fun i r => canA (w.2 i).1 (w.2 i).2.1 r) (act := fun i r => actR (nI A.2.2.2.2.1) (nI A.2.2.2.2.2) A.2.1 A.1 tk m (w.2 i).1 (w.2 i).2.1 r) 200 0 w.1 (ai M 521, 0, 0, 0) (Nat.sub_le _ _)
        obtain ⟨N, cc, hWN, G, ⟨gL, gX⟩, n5, s5, cD, cR, c11, c10, u1, u6, u14, uK⟩ := c_work_t (d := d - 1) hW (by omega) hA (by omega) t1 t3 hT.b (by omega) hn1 b10 hW16 bD bR hU hL hp hg
        have g1 : ∀ b, b < nx M → (7 ≤ b ∧ b < 34) ∨ b = ru ∨ b = ru + 2 ∨ 42 ≤ b ∨ b = 2 → Sm M N b := fun b hb z => G b hb (fun y => by unfold plS at y; omega)
        have z1 : fi (setL N 547 (vp_updL (al N 547) 0 (nI st2.2.2.1).toInt64)) 53 1 = nI T := by
          show fi N 53 1 = nI T
          rw [(g1 53 (by omega) (by omega)).2.2.1]; exact t2
        have z2 : TPb (setL N 547 (vp_updL (al N 547) 0 (nI st2.2.2.1).toInt64)) tx := fun q hq => by
          show ai N 54 q = nI (tx q) ∧ _
          rw [(g1 54 (by omega) (by omega)).2.2.2.2.1]
          exact ⟨(t4 q hq).2.1, (t4 q hq).2.2⟩
        have z3 : fi (setL N 547 (vp_updL (al N 547) 0 (nI st2.2.2.1).toInt64)) 53 32 = nI W := by
          show fi N 53 32 = nI W
          rw [(g1 53 (by omega) (by omega)).2.2.1]; exact w1
        have hMW : MW (setL N 547 (vp_updL (al N 547) 0 (nI st2.2.2.1).toInt64)) A.1 A.2.1 := by
          obtain ⟨-, m2, m3, m4, m5⟩ := h.1.M
          refine ⟨hWN.1, ?_, m3, fun p k hp hk => ?_, m5⟩
          · show ai N 57 0 = _
            rw [(g1 57 (by omega) (by omega)).2.2.2.2.1]; exact m2
          · show ai N (78 + p) k = _
            rw [(g1 (78 + p) (by omega) (by omega)).2.2.2.2.1]; exact m4 p k hp hk
        have hLN : LWt (setL N 547 (vp_updL (al N 547) 0 (nI st2.2.2.1).toInt64)) m tk := by
          refine ⟨?_, fun k hk => ?_⟩
          · show fi N 53 17 = _
            rw [(g1 53 (by omega) (by omega)).2.2.1]; exact hLt.1
          · show ai N (95 + k) 0 = _ ∧ ai N (95 + k) 1 = _
            have := hL.1
            rw [(g1 (95 + k) (by omega) (by omega)).2.2.2.2.1]; exact hLt.2 k hk
        have e57 : ai N 57 = ai M 57 := (g1 57 (by omega) (by omega)).2.2.2.2.1
        have e52 : ai N 521 = ai M 521 := (g1 521 (by omega) (by omega)).2.2.2.2.1
        have hg2 : goF (fun i => (w.2 i).1) (fun i => (w.2 i).2.1) (fun i => (w.2 i).2.2) (fun i r => canA (w.2 i).1 (w.2 i).2.1 r) (fun i r => actR (ai (setL N 547 (vp_updL (al N 547) 0 (nI st2.2.2.1).toInt64)) 57 2) (ai (setL N 547 (vp_updL (al N 547) 0 (nI st2.2.2.1).toInt64)) 57 3) A.2.1 A.1 tk m (w.2 i).1 (w.2 i).2.1 r) f false 0 0 w.1 (ai (setL N 547 (vp_updL (al N 547) 0 (nI st2.2.2.1).toInt64)) 521, 0, 0, 0) = some st2 := by
          have q2 : ai (setL N 547 (vp_updL (al N 547) 0 (nI st2.2.2.1).toInt64)) 57 2 = nI A.2.2.2.2.1 := by
            show ai N 57 2 = _
            rw [e57]; exact hTD.2.2.2.2.2.1
          have q3 : ai (setL N 547 (vp_updL (al N 547) 0 (nI st2.2.2.1).toInt64)) 57 3 = nI A.2.2.2.2.2 := by
            show ai N 57 3 = _
            rw [e57]; exact hTD.2.2.2.2.2.2
          have q5 : ai (setL N 547 (vp_updL (al N 547) 0 (nI st2.2.2.1).toInt64)) 521 = ai M 521 := e52
          rw [q2, q3, q5]
          exact hg
        obtain ⟨K, mm, F2, v0, v1, v3, v32, v33, v5, v24⟩ := m_work_t (d := d) (M := setL N 547 (vp_updL (al N 547) 0 (nI st2.2.2.1).toInt64)) hMW (by omega) z1 t3 z2 (by omega) hn1 z3 hW16 hLN hL hp hg2
        have hnK : nx K = nx M + 5 := by rw [F2.2.1.1]; exact n5
        have fN : ∀ b k, ¬ b = 53 → fi K b k = fi N b k := fun b k z => F2.2.2.2 b k (fun q => z q.1)
        have f5 : ∀ k, ¬ wkFI k → fi K 53 k = fi M 53 k := fun k z => (F2.2.2.2 53 k (fun q => z q.2)).trans (congrFun (g1 53 (by omega) (by omega)).2.2.1 k)
        have aN : ∀ b, ¬ wkFA W b → ai K b = ai N b := fun b z => F2.2.2.1 b z
        have nw : ∀ b, ¬ (b = 438 ∨ b = 439 ∨ (441 ≤ b ∧ b < 521) ∨ b = 521 ∨ b = 524 + W) → ¬ wkFA W b := fun b z y => by unfold wkFA skA at y; omega
        have aK : ∀ b, b < nx M → (7 ≤ b ∧ b < 34) ∨ b = ru + 2 ∨ 42 ≤ b ∨ b = 2 → ¬ (b = 438 ∨ b = 439 ∨ (441 ≤ b ∧ b < 521) ∨ b = 521 ∨ b = 524 + W) → ai K b = ai M b := fun b hb z y => (aN b (nw b y)).trans (g1 b hb (by omega)).2.2.2.2.1
        have fK : ∀ b k, b < nx M → ¬ b = 53 → (7 ≤ b ∧ b < 34) ∨ b = ru ∨ 42 ≤ b ∨ b = 2 → fi K b k = fi M b k := fun b k hb hn z => (fN b k hn).trans (congrFun (g1 b hb (by omega)).2.2.1 k)
        have D : DF M K := ⟨by omega, fun b hb hc => by
          obtain ⟨e1, e2, e3, e4, e5, e6, e7⟩ := g1 b hb (by omega)
          refine ⟨?_, ?_, ?_, ?_, ?_⟩
          · rw [F2.1.1]; exact e1
          · rw [F2.1.2.1]; exact e2
          · funext q; exact fK b q hb (by omega) (by omega)
          · rw [F2.1.2.2.1]; exact e4
          · exact aK b hb (by omega) (by omega)⟩
        have hWK : CW K ab sa ru sr li sn (nx M) := F2.O.CW (M := setL N 547 (vp_updL (al N 547) 0 (nI st2.2.2.1).toInt64)) hWN (by omega)
        have hCA : CAA K ab A := CA_t (funext fun q => fK ab q (by omega) (by omega) (by omega)) (fun q q1 q2 => aK _ (by omega) (by omega) (by omega)) hA
        have hTK : TD K A := TD_t (aK 57 (by omega) (by omega) (by omega)) (aK 59 (by omega) (by omega) (by omega)) (fun p hp => aK _ (by omega) (by omega) (by omega)) hTD
        have hLK : RLw K ru m tk := RLw_t (fK ru 3 (by omega) (by omega) (by omega)) (aK _ (by omega) (by omega) (by omega)) (f5 17 (by unfold wkFI wk0 rdI; omega)) (fun b b1 b2 => aK b (by omega) (by omega) (by omega)) h.1.2.2.2.1
        have hCK : CLs K li c := CLs_t (fK li 2 (by omega) (by omega) (by omega)) (f5 31 (by unfold wkFI wk0 rdI; omega)) (aK _ (by omega) (by omega) (by omega)) (aK _ (by omega) (by omega) (by omega)) (fun q hq => aK _ (by omega) (by omega) (by omega)) h.1.2.2.2.2.1
        obtain ⟨i1, i2, i3, i4⟩ := h.1.2.2.2.2.2.1
        have hB : BS K A.1 A.2.1 (nx M) (W + 1) (ai K 521) := ⟨hWK.2.2.2.2.2.1, Or.inr h548, by omega, DS_t h16 (funext fun q => fN _ q (by omega)) (fun q q1 q2 => aN _ (nw _ (by omega))) (fun k _ => by rw [v5]) cD, by rw [v5]; exact cR, by rw [fN _ 10 (by omega)]; exact c10⟩
        have e11 : fr K (nx M) 11 = some dk := by
          have e1 : fr K = fr N := F2.1.2.2.1
          rw [e1]; exact c11
        have hCh : Ch K A.1 A.2.1 (fun w => ai K (524 + w)) W dk (ai K (524 + W)) := Ch_t D h16 W dk _ _ (fun q hq k _ => by rw [aK (524 + q) (by omega) (by omega) (by omega)]) (fun k hk => by
          rw [v24]
          show cpR (ai N 521) (ai N (524 + W)) k = ai M 521 k
          rw [e52]
          exact if_pos hk) w3
        have hR0 : R0 K ab sa ru sr li sn (nx M) A m tk c (W + 1) i := ⟨hWK, hCA, hTK, hLK, hCK, ⟨?_, ?_, i3, ?_⟩, ⟨v32, by omega, hB, dk, e11, hCh⟩, fun j hj => ?_⟩
        · have hc3 := clN3
          refine ci_fin (wL_work hS hWN.1 (by omega) cc) mm ⟨hWN.1, gL, gX⟩ v0 F2.1.2.2.2.1 ⟨_, _, _, _, _, _, _, _, _, _, _, _, _, 0, tx, hR0, ⟨by rw [fN 1 1 (by omega)]; exact u1, v1, by omega, fun q hq => ?_⟩, ?_, ?_, ?_⟩ ⟨by omega, ?_, ?_, ?_⟩
          · rw [aK 2 (by omega) (by omega) (by omega), aK 54 (by omega) (by omega) (by omega)]; exact t4 q hq
          · rw [fN 1 6 (by omega), u6, v3]
          · rw [fN 0 15 (by omega), aK 55 (by omega) (by omega) (by omega), uK 15 (by decide)]; exact h.2.2.2.1
          · rw [fN 0 16 (by omega), aK 55 (by omega) (by omega) (by omega), uK 16 (by decide)]; exact h.2.2.2.2
          · rw [F2.2.1.2.1]; show sl N ≤ _; rw [s5]; omega
          · rw [F2.2.1.2.2.1]; exact gL
          · rw [F2.2.1.2.2.2]; exact gX
        · rw [fN 0 13 (by omega), uK 13 (by decide)]; exact i1
        · rw [f5 34 (by unfold wkFI wk0 rdI; omega)]; exact i2
        · rw [fN 0 14 (by omega), u14, v33]
        · exact Im_t D h16 (by
            have e1 : aq K = aq N := F2.1.2.2.2.2
            rw [e1, (g1 17 (by omega) (by omega)).2.2.2.2.2.2]) (aK _ (by omega) (by omega) (by omega)) (h.1.2.2.2.2.2.2.2 j hj)
  · exact ci_b h hx (E := 1) (k := 1) (by decide) (by decide) (wL_work_1 hS (by omega) (c_work_b (d := d - 1) hX (by omega) t1 t3 v)) (m_work_b (d := d) (h.1.C 1 (by decide) (by omega)).1.1 (by omega) (by rw [fi_cB]; exact t2) t3 v)
