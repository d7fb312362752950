/-! ===== every method of the tables: what the small machine does, the real one does ===== -/
def isIni (q : CI) : Bool := q.1.name == "<init>"
/-- a method's program passes the check -/
def mChk (y : Nat) : Bool := match mWL[y]?, PP y with
  | some (wc, _, _, _, o, _), some (n, body, cs, _) => (match ciOf lw_tbl[wc]? with
    | some q => decide (q.2.2.1 = n) && decide (cs = []) && plainName (cn o) && (chk (lfB q.2.1 o q.2.2.2 (isIni q) false) body [] 0).isSome
    | none => false)
  | _, _ => false
/-- all methods but those of the law -/
theorem all_mc {l : Launch} {G : GG} (hG : GOK G) (hst : l.stackTraces = false) (hJ : JS l G) (hchk : ∀ y, (∃ q, mI y = some q ∧ hhOf q.1 = none) → mChk y = true)
    (hwr : ∀ (n d y : Nat) (q : CI) (hh : List (Nat × Nat × Nat × Nat)) (as : List Value) (h : AH) (r : Option Value ⊕ Nat) (h' : AH), (∀ k, k < n → CallsOK l G mI thP d (callB PP (run PP k) d)) → mI y = some q → hhOf q.1 = some hh → callB PP (run PP n) (d + 1) y as h = some (r, h') → MC l G q d as h r h') :
    ∀ (n d : Nat), CallsOK l G mI thP (d + 1) (callB PP (run PP n) (d + 1)) := by
  intro n
  induction n using Nat.strongRecOn with
  | ind n ih =>
    intro d y q as h r h' hc hm
    obtain ⟨nn, body, cs, th, r0, loc, stk, h9, hP, hS, hrun, hr, hth⟩ := callB_inv hc
    have hle1 : hle h h' := run_le n _ _ _ _ hrun
    have e1 : d + 1 - 1 = d := by omega
    rw [e1] at hrun ⊢
    have ih' : ∀ k, k < n → CallsOK l G mI thP d (callB PP (run PP k) d) := fun k hk => by
      have := ih k hk (d - 1)
      rwa [show d - 1 + 1 = d by omega] at this
    refine ⟨?_, ?_, hle1⟩
    · cases hh : hhOf q.1 with
      | some tb => exact hwr n d y q tb as h r h' ih' hm hh hc
      | none =>
        have h1 := hchk y ⟨q, hm, hh⟩
        unfold mChk at h1
        rw [hP] at h1
        obtain ⟨wc, wk, ws, wi, o, np, g0, g1, g2, g3, g4, g5, g6, g7, g8⟩ := mI_spec hm
        rw [g0] at h1
        simp only [g1, Bool.and_eq_true, decide_eq_true_eq] at h1
        obtain ⟨⟨⟨k1, k2⟩, k4⟩, k3⟩ := h1
        subst k2
        obtain ⟨nx, hnx⟩ := Option.isSome_iff_exists.mp k3
        have hr : r = r0 := by rw [hr]; cases r0 <;> rfl
        subst hr
        subst k1
        exact meth_ok hh hG hst hJ (by omega) g6 k4 hS (fun s args meth hts hB hnm Ls pc i ds nx z => lfB_spec hts hB (fun hi => by rw [hnm]; exact beq_iff_eq.mp hi) z) ih' hnx hrun
    · unfold thP
      rw [hP]
      exact hth
