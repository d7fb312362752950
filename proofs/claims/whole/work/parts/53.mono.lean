/-! ===== locals of which less is known ===== -/
def Lq (a b : AL) : Prop := a.length = b.length ∧ ∀ (i : Nat) (v : Value), a[i]? = some v → v ≠ jk → b[i]? = some v
theorem Lq.rf (a : AL) : Lq a a := ⟨rfl, fun _ _ h _ => h⟩
theorem Lq.tr {a b c : AL} (h : Lq a b) (g : Lq b c) : Lq a c := ⟨h.1.trans g.1, fun i v e n => g.2 i v (h.2 i v e n) n⟩
theorem Lq.nil : Lq [] [] := Lq.rf _
theorem Lq.cons {a b : AL} {v : Value} (h : Lq a b) : Lq (v :: a) (v :: b) := ⟨by simp [h.1], fun i u e n => by
  cases i with
  | zero => exact e
  | succ i => exact h.2 i u e n⟩
theorem Lq.junk {a b : AL} {v : Value} (h : Lq a b) : Lq (.retAddr 0 :: a) (v :: b) := ⟨by simp [h.1], fun i u e n => by
  cases i with
  | zero => exact absurd (Option.some.inj e).symm n
  | succ i => exact h.2 i u e n⟩
theorem lclr_new {b : AL} {i j : Nat} {u : Value} (h : b[j]? = some u) (hc : ¬ (j + 1 = i ∧ u.category = 2)) : (lclr b i)[j]? = some u := by
  unfold lclr
  split
  · rename_i h2
    by_cases e : i - 1 = j
    · exfalso
      refine hc ⟨by omega, ?_⟩
      rw [e, h] at h2
      exact Option.some.inj h2.2
    · rw [List.getElem?_set_ne e]; exact h
  · exact h
theorem Lq.s1 {a b : AL} (h : Lq a b) (i : Nat) (v : Value) : Lq (lset1 a i v) (lset1 b i v) := by
  refine ⟨by rw [lset1_len, lset1_len, h.1], fun j u e n => ?_⟩
  unfold lset1 at e ⊢
  by_cases q : j = i
  · subst q
    by_cases hl : j < a.length
    · rw [List.getElem?_set_self (by rw [lclr_len]; exact hl)] at e
      rw [List.getElem?_set_self (by rw [lclr_len, ← h.1]; exact hl)]
      exact e
    · rw [List.getElem?_eq_none (by rw [List.length_set, lclr_len]; omega)] at e
      cases e
  · rw [List.getElem?_set_ne (fun z => q z.symm)] at e ⊢
    obtain ⟨h1, h2⟩ := lclr_old q e n
    exact lclr_new (h.2 j u h1 n) h2
theorem Lq.s2 {a b : AL} (h : Lq a b) (i : Nat) (v : Value) : Lq (lset2 a i v) (lset2 b i v) := by
  have h1 := h.s1 i v
  refine ⟨by rw [lset2_len, lset2_len, h.1], fun j u e n => ?_⟩
  have e1 : lset2 a i v = (lset1 a i v).set (i + 1) jk := rfl
  have e2 : lset2 b i v = (lset1 b i v).set (i + 1) jk := rfl
  rw [e1] at e
  rw [e2]
  by_cases q : j = i + 1
  · subst q
    by_cases hl : i + 1 < a.length
    · rw [List.getElem?_set_self (by rw [lset1_len]; exact hl)] at e
      exact absurd (Option.some.inj e).symm n
    · rw [List.getElem?_eq_none (by rw [List.length_set, lset1_len]; omega)] at e
      cases e
  · rw [List.getElem?_set_ne (fun z => q z.symm)] at e ⊢
    exact h1.2 j u e n
def SopM (f : AL → AL → Option (AL × AL)) : Prop := ∀ (a b stk a' s' : AL), Lq a b → f a stk = some (a', s') → ∃ b', f b stk = some (b', s') ∧ Lq a' b'
theorem SopM.ldI (k : Nat) : SopM (ldI k) := by
  intro a b stk a' s' h e
  unfold _root_.Jvm.Pilot.@@N@@.ldI at e ⊢
  split at e
  · rename_i x hx; cases e; rw [h.2 _ _ hx (fun z => by cases z)]; exact ⟨b, rfl, h⟩
  · cases e
theorem SopM.ldL (k : Nat) : SopM (ldL k) := by
  intro a b stk a' s' h e
  unfold _root_.Jvm.Pilot.@@N@@.ldL at e ⊢
  split at e
  · rename_i x hx; cases e; rw [h.2 _ _ hx (fun z => by cases z)]; exact ⟨b, rfl, h⟩
  · cases e
theorem SopM.ldA (k : Nat) : SopM (ldA k) := by
  intro a b stk a' s' h e
  unfold _root_.Jvm.Pilot.@@N@@.ldA at e ⊢
  split at e
  · rename_i x hx; cases e; rw [h.2 _ _ hx (fun z => by cases z)]; exact ⟨b, rfl, h⟩
  · rename_i hx; cases e; rw [h.2 _ _ hx (fun z => by cases z)]; exact ⟨b, rfl, h⟩
  · cases e
theorem SopM.stI (k : Nat) : SopM (stI k) := by
  intro a b stk a' s' h e
  unfold _root_.Jvm.Pilot.@@N@@.stI at e ⊢
  split at e
  · split at e
    · rename_i hk; cases e; rw [← h.1, if_pos hk]; exact ⟨_, rfl, h.s1 _ _⟩
    · cases e
  · cases e
theorem SopM.stL (k : Nat) : SopM (stL k) := by
  intro a b stk a' s' h e
  unfold _root_.Jvm.Pilot.@@N@@.stL at e ⊢
  split at e
  · split at e
    · rename_i hk; cases e; rw [← h.1, if_pos hk]; exact ⟨_, rfl, h.s2 _ _⟩
    · cases e
  · cases e
theorem SopM.stA (k : Nat) : SopM (stA k) := by
  intro a b stk a' s' h e
  unfold _root_.Jvm.Pilot.@@N@@.stA at e ⊢
  split at e
  · split at e
    · rename_i hk; cases e; rw [← h.1, if_pos hk]; exact ⟨_, rfl, h.s1 _ _⟩
    · cases e
  · split at e
    · rename_i hk; cases e; rw [← h.1, if_pos hk]; exact ⟨_, rfl, h.s1 _ _⟩
    · cases e
  · cases e
theorem SopM.incI (k : Nat) (n : Int) : SopM (incI k n) := by
  intro a b stk a' s' h e
  unfold _root_.Jvm.Pilot.@@N@@.incI at e ⊢
  split at e
  · rename_i x hx; cases e; rw [h.2 _ _ hx (fun z => by cases z)]; exact ⟨_, rfl, h.s1 _ _⟩
  · cases e
theorem SopM.push (v : Value) : SopM (fun loc stk => some (loc, v :: stk)) := by
  intro a b stk a' s' h e
  cases e
  exact ⟨b, rfl, h⟩
theorem SopM.binI (f : Int32 → Int32 → Int32) : SopM (binI f) := by
  intro a b stk a' s' h e
  unfold _root_.Jvm.Pilot.@@N@@.binI at e ⊢
  split at e
  · cases e; exact ⟨b, rfl, h⟩
  · cases e
theorem SopM.dvI (f : Int32 → Int32 → Int32) : SopM (dvI f) := by
  intro a b stk a' s' h e
  unfold _root_.Jvm.Pilot.@@N@@.dvI at e ⊢
  split at e
  · split at e
    · cases e
    · rename_i hy; cases e; exact ⟨b, if_neg hy, h⟩
  · cases e
theorem SopM.binL (f : Int64 → Int64 → Int64) : SopM (binL f) := by
  intro a b stk a' s' h e
  unfold _root_.Jvm.Pilot.@@N@@.binL at e ⊢
  split at e
  · cases e; exact ⟨b, rfl, h⟩
  · cases e
theorem SopM.dvL (f : Int64 → Int64 → Int64) : SopM (dvL f) := by
  intro a b stk a' s' h e
  unfold _root_.Jvm.Pilot.@@N@@.dvL at e ⊢
  split at e
  · split at e
    · cases e
    · rename_i hy; cases e; exact ⟨b, if_neg hy, h⟩
  · cases e
theorem SopM.unI (f : Int32 → Value) : SopM (unI f) := by
  intro a b stk a' s' h e
  unfold _root_.Jvm.Pilot.@@N@@.unI at e ⊢
  split at e
  · cases e; exact ⟨b, rfl, h⟩
  · cases e
theorem SopM.cmpL : SopM cmpL := by
  intro a b stk a' s' h e
  unfold _root_.Jvm.Pilot.@@N@@.cmpL at e ⊢
  split at e
  · cases e; exact ⟨b, rfl, h⟩
  · cases e
theorem SopM.dupO : SopM dupO := by
  intro a b stk a' s' h e
  unfold _root_.Jvm.Pilot.@@N@@.dupO at e ⊢
  split at e
  · split at e
    · rename_i hv; cases e; exact ⟨b, if_pos hv, h⟩
    · cases e
  · cases e
theorem SopM.dup2O : SopM dup2O := by
  intro a b stk a' s' h e
  unfold _root_.Jvm.Pilot.@@N@@.dup2O at e ⊢
  split at e
  · split at e
    · rename_i hv; cases e; exact ⟨b, if_pos hv, h⟩
    · cases e
  · cases e
theorem SopM.popO : SopM popO := by
  intro a b stk a' s' h e
  unfold _root_.Jvm.Pilot.@@N@@.popO at e ⊢
  split at e
  · split at e
    · rename_i hv; cases e; exact ⟨b, if_pos hv, h⟩
    · cases e
  · cases e
theorem sop_mono (i : Instr) : SopM (sop i) := by
  have no : SopM (fun _ _ => none) := fun a b stk a' s' h e => by cases e
  cases i <;> first
    | exact SopM.push _
    | exact SopM.ldI _
    | exact SopM.ldL _
    | exact SopM.ldA _
    | exact SopM.stI _
    | exact SopM.stL _
    | exact SopM.stA _
    | exact SopM.incI _ _
    | exact SopM.binI _
    | exact SopM.dvI _
    | exact SopM.binL _
    | exact SopM.dvL _
    | exact SopM.unI _
    | exact SopM.cmpL
    | exact SopM.dupO
    | exact SopM.dup2O
    | exact SopM.popO
    | exact no
theorem sop_none {i : Instr} {a b stk : AL} (h : Lq a b) (e : sop i b stk = none) : sop i a stk = none := by
  cases q : sop i a stk with
  | none => rfl
  | some x =>
    obtain ⟨b', h1, -⟩ := sop_mono i a b stk x.1 x.2 h q
    rw [h1] at e; cases e
theorem hop_off {i : Instr} {ds : List Nat} {stk : AL} {h : AH} {q : AL × AH} (e : hop i ds stk h = some q) (b : AL) : sop i b stk = none := by
  cases i <;> first | rfl | (cases e; done)
theorem ctl_off {c : CF} {i : Instr} {ds : List Nat} {st : AS} {q : AO × AS} (e : ctlR c i ds st = some q) (b : AL) : sop i b st.2.1 = none := by
  cases i <;> first | rfl | (cases e; done)
theorem callR_loc {r : Option ((Option Value ⊕ Nat) × AH)} {a rest : AL} {o : AO} {st : AS} (e : callR r a rest = some (o, st)) (b : AL) : st.1 = a ∧ callR r b rest = some (o, b, st.2) := by
  unfold callR at e ⊢
  split at e
  · cases e; exact ⟨rfl, rfl⟩
  · cases e; exact ⟨rfl, rfl⟩
  · cases e
theorem brO_loc {x : Bool} {k : Nat} {a s : AL} {h : AH} {o : AO} {st : AS} (e : brO x k (a, s, h) = some (o, st)) (b : AL) : st.1 = a ∧ brO x k (b, s, h) = some (o, b, st.2) := by
  unfold brO at e ⊢
  split at e
  · rename_i hx; cases e; exact ⟨rfl, if_pos hx⟩
  · rename_i hx; cases e; exact ⟨rfl, if_neg hx⟩
theorem ctl_loc {c : CF} {i : Instr} {ds : List Nat} {a stk : AL} {h : AH} {o : AO} {st : AS} (e : ctlR c i ds (a, stk, h) = some (o, st)) (b : AL) : st.1 = a ∧ ctlR c i ds (b, stk, h) = some (o, b, st.2) := by
  unfold ctlR at e ⊢
  split at e
  · split at e
    · cases e; exact ⟨rfl, rfl⟩
    · cases e
  · split at e
    · rename_i q; cases q; exact brO_loc e b
    · cases e
  · split at e
    · rename_i q; cases q; exact brO_loc e b
    · cases e
  · split at e
    · rename_i q; cases q; cases e; exact ⟨rfl, rfl⟩
    · rename_i q; cases q; cases e; exact ⟨rfl, rfl⟩
    · cases e
  · split at e
    · rename_i q; cases q; cases e; exact ⟨rfl, rfl⟩
    · rename_i q; cases q; cases e; exact ⟨rfl, rfl⟩
    · cases e
  · split at e
    · rename_i q; cases q
      split at e
      · rename_i hc; cases e; exact ⟨rfl, if_pos hc⟩
      · rename_i hc
        split at e
        · rename_i k hk; cases e; refine ⟨rfl, ?_⟩; simp only [if_neg hc, hk]
        · cases e
    · cases e
  · split at e
    · rename_i q; cases q
      split at e
      · rename_i hc; cases e; refine ⟨rfl, ?_⟩; simp only [hc]
      · rename_i j hc
        split at e
        · rename_i k hk; cases e; refine ⟨rfl, ?_⟩; simp only [hc, hk]
        · cases e
    · cases e
  · split at e
    · rename_i q; cases q; cases e; exact ⟨rfl, rfl⟩
    · rename_i q; cases q
      split at e
      · rename_i hc; cases e; exact ⟨rfl, if_pos hc⟩
      · cases e
    · cases e
  · split at e
    · rename_i q; cases q; cases e; exact ⟨rfl, rfl⟩
    · cases e
  · split at e
    · rename_i q; cases q; cases e; exact ⟨rfl, rfl⟩
    · cases e
  · split at e
    · rename_i q; cases q; cases e; exact ⟨rfl, rfl⟩
    · rename_i q; cases q; cases e; exact ⟨rfl, rfl⟩
    · cases e
  · split at e
    · rename_i q; cases q; cases e; exact ⟨rfl, rfl⟩
    · cases e
  · split at e
    · rename_i q; cases q; cases e; exact ⟨rfl, rfl⟩
    · cases e
  · split at e
    · rename_i q; cases q
      split at e
      · rename_i hc; cases e; exact ⟨rfl, if_pos hc⟩
      · cases e
    · cases e
  · split at e
    · rename_i q; cases q
      split at e
      · rename_i hd
        split at e
        · rename_i ho
          split at e
          · rename_i hc
            obtain ⟨h1, h2⟩ := callR_loc e b
            refine ⟨h1, ?_⟩
            simp only [hd, ho, if_pos hc]
            exact h2
          · cases e
        · cases e
      · cases e
    · rename_i q; cases q
      split at e
      · rename_i hj; cases e; refine ⟨rfl, ?_⟩; simp only [hj]
      · cases e
    · cases e
  · split at e
    · rename_i q; cases q
      split at e
      · rename_i hd
        split at e
        · rename_i hc
          obtain ⟨h1, h2⟩ := callR_loc e b
          refine ⟨h1, ?_⟩
          simp only [hd, if_pos hc]
          exact h2
        · cases e
      · cases e
    · rename_i q; cases q
      split at e
      · rename_i hj; cases e; refine ⟨rfl, ?_⟩; simp only [hj]
      · cases e
    · cases e
  · split at e
    · rename_i q; cases q
      split at e
      · rename_i hc
        obtain ⟨h1, h2⟩ := callR_loc e b
        refine ⟨h1, ?_⟩
        simp only [if_pos hc]
        exact h2
      · cases e
    · rename_i q; cases q
      split at e
      · rename_i hj; cases e; refine ⟨rfl, ?_⟩; simp only [hj]
      · cases e
    · cases e
  · cases e
theorem leaf_mono {c : CF} {i : Instr} {ds : List Nat} {a b stk : AL} {h : AH} {o : AO} {a1 s1 : AL} {h1 : AH} (hl : Lq a b) (e : leafR c i ds (a, stk, h) = some (o, a1, s1, h1)) : ∃ b1, leafR c i ds (b, stk, h) = some (o, b1, s1, h1) ∧ Lq a1 b1 := by
  unfold leafR at e ⊢
  split at e
  · rename_i q hq
    obtain ⟨b', g1, g2⟩ := sop_mono i a b stk q.1 q.2 hl hq
    cases e
    exact ⟨b', by simp only [g1], g2⟩
  · split at e
    · rename_i q hq
      cases e
      refine ⟨b, ?_, hl⟩
      simp only [hop_off hq b, hq]
    · rename_i hq
      obtain ⟨g1, g2⟩ := ctl_loc e b
      refine ⟨b, ?_, by have g1 : a1 = a := g1; rw [g1]; exact hl⟩
      simp only [ctl_off e b, hq]
      exact g2
theorem run_mono {P : MT} : ∀ (n d : Nat) (t : AT) (a b stk : AL) (h : AH) (o : AO) (a1 s1 : AL) (h1 : AH), Lq a b → run P n d t (a, stk, h) = some (o, a1, s1, h1) → ∃ b1, run P n d t (b, stk, h) = some (o, b1, s1, h1) ∧ Lq a1 b1
  | 0, _, _, _, _, _, _, _, _, _, _, _, e => by cases e
  | n + 1, d, .leaf (i, ds), a, b, stk, h, o, a1, s1, h1, hl, e => by
    rw [run_leaf] at e ⊢
    exact leaf_mono hl e
  | n + 1, d, .branch k t1 t2, a, b, stk, h, o, a1, s1, h1, hl, e => by
    have ih := fun t a b stk h o a1 s1 h1 hl z => run_mono (P := P) n d t a b stk h o a1 s1 h1 hl z
    rw [run_branch] at e ⊢
    by_cases hk : k = 0
    · rw [if_pos hk] at e ⊢
      rcases seqR_inv e with ⟨⟨a2, s2, h2⟩, g1, g2⟩ | ⟨g1, g2⟩
      · obtain ⟨b2, f1, f2⟩ := ih _ _ _ _ _ _ _ _ _ hl g1
        rw [f1]
        exact ih _ _ _ _ _ _ _ _ _ f2 g2
      · obtain ⟨b2, f1, f2⟩ := ih _ _ _ _ _ _ _ _ _ hl g1
        rw [f1]
        refine ⟨b2, ?_, f2⟩
        match o, g2 with
        | .inl (j + 1), _ => rfl
        | .inr r, _ => rfl
        | .inl 0, g2 => exact absurd rfl g2
    · rw [if_neg hk] at e ⊢
      by_cases hk2 : k % 2 = 1
      · rw [if_pos hk2] at e ⊢
        rcases blkR_inv e with ⟨j, ⟨a2, s2, h2⟩, g1, g2⟩ | ⟨g1, g2⟩
        · cases g2
          obtain ⟨b2, f1, f2⟩ := ih _ _ _ _ _ _ _ _ _ hl g1
          rw [f1]; exact ⟨b2, rfl, f2⟩
        · obtain ⟨b2, f1, f2⟩ := ih _ _ _ _ _ _ _ _ _ hl g1
          rw [f1]
          refine ⟨b2, ?_, f2⟩
          match o, g2 with
          | .inl (j + 1), g2 => exact absurd rfl (g2 j)
          | .inr r, _ => rfl
          | .inl 0, g2 => rfl
      · rw [if_neg hk2] at e ⊢
        rcases lopR_inv e with ⟨⟨a2, s2, h2⟩, g1, g2⟩ | ⟨j, ⟨a2, s2, h2⟩, g1, g2⟩ | ⟨g1, g2⟩
        · obtain ⟨b2, f1, f2⟩ := ih _ _ _ _ _ _ _ _ _ hl g1
          rw [f1]
          exact ih _ _ _ _ _ _ _ _ _ f2 g2
        · cases g2
          obtain ⟨b2, f1, f2⟩ := ih _ _ _ _ _ _ _ _ _ hl g1
          rw [f1]; exact ⟨b2, rfl, f2⟩
        · obtain ⟨b2, f1, f2⟩ := ih _ _ _ _ _ _ _ _ _ hl g1
          rw [f1]
          refine ⟨b2, ?_, f2⟩
          match o, g2 with
          | .inl (j + 1), g2 => exact absurd rfl (g2 j)
          | .inr r, _ => rfl
          | .inl 0, g2 => rfl
/-! what comes out, at least -/
def Ew (r : Option (AO × AS)) (o : AO) (X : AS) : Prop := ∃ a, r = some (o, a, X.2) ∧ Lq X.1 a
abbrev Ev (d : Nat) (t : AT) (st : AS) (o : AO) (X : AS) : Prop := Ew (ev d t st) o X
/-- what a body gives: an answer (or what is thrown) and the heap -/
def Er (r : Option (AO × AS)) (v : Option Value ⊕ Nat) (h : AH) : Prop := ∃ a s, r = some (.inr v, a, s, h)
theorem ev_mono {d : Nat} {t : AT} {a b stk : AL} {h : AH} {o : AO} {a1 s1 : AL} {h1 : AH} (hl : Lq a b) (e : ev d t (a, stk, h) = some (o, a1, s1, h1)) : ∃ b1, ev d t (b, stk, h) = some (o, b1, s1, h1) ∧ Lq a1 b1 := by
  obtain ⟨n, hn⟩ := ev_iff.mp e
  obtain ⟨b1, g1, g2⟩ := run_mono n d t a b stk h o a1 s1 h1 hl hn
  exact ⟨b1, ev_iff.mpr ⟨n, g1⟩, g2⟩
theorem Ev.of {d : Nat} {t : AT} {st X : AS} {o : AO} (e : ev d t st = some (o, X)) : Ev d t st o X := ⟨X.1, e, Lq.rf _⟩
theorem Ev.le {d : Nat} {t : AT} {a b stk : AL} {h : AH} {o : AO} {X : AS} (hl : Lq a b) (e : Ev d t (a, stk, h) o X) : Ev d t (b, stk, h) o X := by
  obtain ⟨a1, g1, g2⟩ := e
  obtain ⟨b1, f1, f2⟩ := ev_mono hl g1
  exact ⟨b1, f1, g2.tr f2⟩
theorem Ev.post {d : Nat} {t : AT} {st : AS} {o : AO} {a b s : AL} {h : AH} (hl : Lq a b) (e : Ev d t st o (b, s, h)) : Ev d t st o (a, s, h) := by
  obtain ⟨a1, g1, g2⟩ := e
  exact ⟨a1, g1, hl.tr g2⟩
theorem Ev.seq {d : Nat} {t u : AT} {st X Y : AS} {o : AO} (e : Ev d t st (.inl 0) X) (f : Ev d u X o Y) : Ev d (sq t u) st o Y := by
  obtain ⟨a, g1, g2⟩ := e
  obtain ⟨b, f1, f2⟩ := Ev.le (a := X.1) (stk := X.2.1) (h := X.2.2) g2 f
  refine ⟨b, ?_, f2⟩
  rw [ev_sq, g1]
  exact f1
theorem Ev.out {d : Nat} {t u : AT} {st X : AS} {o : AO} (e : Ev d t st o X) (ho : o ≠ .inl 0) : Ev d (sq t u) st o X := by
  obtain ⟨a, g1, g2⟩ := e
  refine ⟨a, ?_, g2⟩
  rw [ev_sq, g1]
  match o, ho with
  | .inl 0, ho => exact absurd rfl ho
  | .inl (k + 1), _ => rfl
  | .inr r, _ => rfl
def bkO (o : AO) : AO := match o with
  | .inl (k + 1) => .inl k
  | o => o
theorem Ev.blk {d e : Nat} {t : AT} {st X : AS} {o : AO} (g : Ev d t st o X) : Ev d (bk e t) st (bkO o) X := by
  obtain ⟨a, g1, g2⟩ := g
  refine ⟨a, ?_, g2⟩
  rw [ev_bk, g1]
  match o with
  | .inl 0 => rfl
  | .inl (k + 1) => rfl
  | .inr r => rfl
/-- a loop goes on m times, then leaves; what is known of the locals may shrink on the way -/
theorem Ev_for {d e : Nat} {b : AT} (L : Nat → AS) (m : Nat) {o : AO} {X : AS} (hs : ∀ k, k < m → Ev d b (L k) (.inl 1) (L (k + 1))) (hx : Ev d b (L m) o X) (ho : o ≠ .inl 1) : Ev d (lp e b) (L 0) (bkO o) X := by
  have key : ∀ j, j ≤ m → Ev d (lp e b) (L (m - j)) (bkO o) X := by
    intro j
    induction j with
    | zero =>
      intro _
      rw [Nat.sub_zero]
      obtain ⟨a, g1, g2⟩ := hx
      refine ⟨a, ?_, g2⟩
      rw [ev_lp, g1]
      match o, ho with
      | .inl 0, _ => rfl
      | .inl 1, ho => exact absurd rfl ho
      | .inl (k + 2), _ => rfl
      | .inr r, _ => rfl
    | succ j ih =>
      intro hj
      obtain ⟨a, g1, g2⟩ := hs (m - (j + 1)) (by omega)
      have h3 := ih (by omega)
      rw [show m - j = m - (j + 1) + 1 by omega] at h3
      obtain ⟨b', f1, f2⟩ := Ev.le (a := (L (m - (j + 1) + 1)).1) (stk := (L (m - (j + 1) + 1)).2.1) (h := (L (m - (j + 1) + 1)).2.2) g2 h3
      refine ⟨b', ?_, f2⟩
      rw [ev_lp, g1, lo1]
      exact f1
  have := key m (Nat.le_refl m)
  rwa [Nat.sub_self] at this
/-- as Ev_for, with what is known of each state -/
theorem Ev_inv {d e : Nat} {b : AT} (I : Nat → AS → Prop) (Q : AO → AS → Prop) (m : Nat) (hs : ∀ k st, k < m → I k st → ∃ st', Ev d b st (.inl 1) st' ∧ I (k + 1) st') (hx : ∀ st, I m st → ∃ o X, Ev d b st o X ∧ o ≠ .inl 1 ∧ Q (bkO o) X) : ∀ st, I 0 st → ∃ o X, Ev d (lp e b) st o X ∧ Q o X := by
  have key : ∀ j, j ≤ m → ∀ st, I (m - j) st → ∃ o X, Ev d (lp e b) st o X ∧ Q o X := by
    intro j
    induction j with
    | zero =>
      intro _ st hI
      rw [Nat.sub_zero] at hI
      obtain ⟨o, X, ⟨a, g1, g2⟩, ho, hQ⟩ := hx st hI
      refine ⟨bkO o, X, ⟨a, ?_, g2⟩, hQ⟩
      rw [ev_lp, g1]
      match o, ho with
      | .inl 0, _ => rfl
      | .inl 1, ho => exact absurd rfl ho
      | .inl (k + 2), _ => rfl
      | .inr r, _ => rfl
    | succ j ih =>
      intro hj st hI
      obtain ⟨st', ⟨a, g1, g2⟩, hI'⟩ := hs (m - (j + 1)) st (by omega) hI
      rw [show m - (j + 1) + 1 = m - j by omega] at hI'
      obtain ⟨o, X, h3, hQ⟩ := ih (by omega) st' hI'
      obtain ⟨b', f1, f2⟩ := Ev.le (a := st'.1) (stk := st'.2.1) (h := st'.2.2) g2 h3
      refine ⟨o, X, ⟨b', ?_, f2⟩, hQ⟩
      rw [ev_lp, g1, lo1]
      exact f1
  have := key m (Nat.le_refl m)
  rwa [Nat.sub_self] at this
/-- what a call gives, out of its body -/
theorem Ev.ret {d : Nat} {t : AT} {st X : AS} {v : Option Value} {cs : List (Nat × Nat)} {th : Bool} (e : Ev d t st (.inr (.inl v)) X) : retR cs th (ev d t st) = some (.inl v, X.2.2) := by
  obtain ⟨a, g1, -⟩ := e
  rw [g1]; rfl
theorem Ev.retE {d E : Nat} {t : AT} {st X : AS} (e : Ev d t st (.inr (.inr E)) X) : retR [] true (ev d t st) = some (.inr E, X.2.2) := by
  obtain ⟨a, g1, -⟩ := e
  rw [g1]; rfl
/-! switches -/
def tswK (lo hi : Int) (ds : List Nat) (x : Int32) : Option Nat := match ds with
  | kd :: ks => if x.toInt < lo ∨ hi < x.toInt then some kd else ks[(x.toInt - lo).toNat]?
  | [] => none
def lswK (ps : List Int) (ds : List Nat) (x : Int32) : Option Nat := match ds with
  | kd :: ks => (match ps.findIdx? (fun q => q == x.toInt) with
    | none => some kd
    | some j => ks[j]?)
  | [] => none
def swR (r : Option Nat) (l s : AL) (h : AH) : Option (AO × AS) := match r with
  | some k => some (.inl (k + 1), l, s, h)
  | none => none
theorem swR_s {k : Nat} {l s : AL} {h : AH} : swR (some k) l s h = some (.inl (k + 1), l, s, h) := rfl
theorem y_tsw {d : Nat} {df lo hi : Int} {os : Array Int} {kd : Nat} {ks : List Nat} {x : Int32} {l s : AL} {h : AH} : ev d (lf (.tableswitch df lo hi os) (kd :: ks)) (l, .int x :: s, h) = swR (tswK lo hi (kd :: ks) x) l s h := by
  rw [ev_lf]
  show (if x.toInt < lo ∨ hi < x.toInt then _ else (match ks[(x.toInt - lo).toNat]? with | some k => _ | none => _)) = _
  unfold tswK
  simp only
  split
  · rfl
  · cases ks[(x.toInt - lo).toNat]? <;> rfl
theorem x_tsw {d : Nat} {df lo hi : Int} {os : Array Int} {kd : Nat} {ks : List Nat} {x : Int32} {l s : AL} {h : AH} {t : AT} : ev d (sq (lf (.tableswitch df lo hi os) (kd :: ks)) t) (l, .int x :: s, h) = swR (tswK lo hi (kd :: ks) x) l s h := by
  rw [ev_sq, y_tsw]
  cases tswK lo hi (kd :: ks) x <;> rfl
theorem y_lsw {d : Nat} {df : Int} {os : Array (Int × Int)} {kd : Nat} {ks : List Nat} {x : Int32} {l s : AL} {h : AH} : ev d (lf (.lookupswitch df os) (kd :: ks)) (l, .int x :: s, h) = swR (lswK (os.toList.map (fun q => q.1)) (kd :: ks) x) l s h := by
  rw [ev_lf]
  show (match (os.toList.map (fun q => q.1)).findIdx? (fun q => q == x.toInt) with | none => _ | some j => (match ks[j]? with | some k => _ | none => _)) = _
  unfold lswK
  simp only
  cases (os.toList.map (fun q => q.1)).findIdx? (fun q => q == x.toInt) with
  | none => rfl
  | some j => simp only; cases ks[j]? <;> rfl
theorem x_lsw {d : Nat} {df : Int} {os : Array (Int × Int)} {kd : Nat} {ks : List Nat} {x : Int32} {l s : AL} {h : AH} {t : AT} : ev d (sq (lf (.lookupswitch df os) (kd :: ks)) t) (l, .int x :: s, h) = swR (lswK (os.toList.map (fun q => q.1)) (kd :: ks) x) l s h := by
  rw [ev_sq, y_lsw]
  cases lswK (os.toList.map (fun q => q.1)) (kd :: ks) x <;> rfl
/-! truth values -/
noncomputable def bI (p : Prop) : Int32 := @ite _ p (Classical.propDecidable p) (nI 1) (nI 0)
theorem bI_t {p : Prop} (h : p) : bI p = nI 1 := by unfold bI; rw [if_pos h]
theorem bI_f {p : Prop} (h : ¬ p) : bI p = nI 0 := by unfold bI; rw [if_neg h]
theorem bI_or (p : Prop) : bI p = 0 ∨ bI p = 1 := by
  by_cases h : p
  · rw [bI_t h]; exact Or.inr rfl
  · rw [bI_f h]; exact Or.inl rfl
theorem bI_0 (p : Prop) : (bI p = 0) = ¬ p := by
  by_cases h : p
  · rw [bI_t h]; exact propext ⟨fun z => absurd z (by decide), fun z => absurd h z⟩
  · rw [bI_f h]; exact propext ⟨fun _ => h, fun _ => rfl⟩
theorem bI_1 (p : Prop) : (bI p = nI 1) = p := by
  by_cases h : p
  · rw [bI_t h]; exact propext ⟨fun _ => h, fun _ => rfl⟩
  · rw [bI_f h]; exact propext ⟨fun z => absurd z (by decide), fun z => absurd z h⟩
theorem Ew.rf {o : AO} {X : AS} : Ew (some (o, X)) o X := ⟨X.1, rfl, Lq.rf _⟩
theorem Ew.mk {o : AO} {a b s : AL} {h : AH} (hl : Lq a b) : Ew (some (o, b, s, h)) o (a, s, h) := ⟨b, rfl, hl⟩
theorem Er.rf {v : Option Value ⊕ Nat} {a s : AL} {h : AH} : Er (some (.inr v, a, s, h)) v h := ⟨a, s, rfl⟩
theorem Er.ret {r : Option (AO × AS)} {v : Option Value} {h : AH} {cs : List (Nat × Nat)} {th : Bool} (e : Er r (.inl v) h) : retR cs th r = some (.inl v, h) := by
  obtain ⟨a, s, rfl⟩ := e
  rfl
theorem Er.thr {r : Option (AO × AS)} {E : Nat} {h : AH} (e : Er r (.inr E) h) : retR [] true r = some (.inr E, h) := by
  obtain ⟨a, s, rfl⟩ := e
  rfl
theorem Er.of {d : Nat} {t : AT} {st X : AS} {v : Option Value ⊕ Nat} (e : Ev d t st (.inr v) X) : Er (ev d t st) v X.2.2 := by
  obtain ⟨a, g1, -⟩ := e
  exact ⟨a, _, g1⟩
theorem Er.le {d : Nat} {t : AT} {a b stk : AL} {h h' : AH} {v : Option Value ⊕ Nat} (hl : Lq a b) (e : Er (ev d t (a, stk, h)) v h') : Er (ev d t (b, stk, h)) v h' := by
  obtain ⟨a1, s1, g1⟩ := e
  obtain ⟨b1, f1, -⟩ := ev_mono hl g1
  exact ⟨b1, s1, f1⟩
theorem Er.seq {d : Nat} {t u : AT} {st X : AS} {v : Option Value ⊕ Nat} {h : AH} (e : Ev d t st (.inl 0) X) (f : Er (ev d u X) v h) : Er (ev d (sq t u) st) v h := by
  obtain ⟨a, g1, g2⟩ := e
  have f1 := Er.le (a := X.1) (stk := X.2.1) (h := X.2.2) g2 f
  rw [ev_sq, g1]
  exact f1
theorem Er.seqb {d e : Nat} {t u : AT} {st X : AS} {o : AO} {v : Option Value ⊕ Nat} {h : AH} (g : Ev d t st o X) (ho : bkO o = .inl 0) (f : Er (ev d u X) v h) : Er (ev d (sq (bk e t) u) st) v h := by
  refine Er.seq (X := X) ?_ f
  have := Ev.blk (e := e) g
  rwa [ho] at this
theorem Ew.seqb {d e : Nat} {t u : AT} {st X Y : AS} {o o' : AO} (g : Ev d t st o X) (ho : bkO o = .inl 0) (f : Ew (ev d u X) o' Y) : Ew (ev d (sq (bk e t) u) st) o' Y := by
  refine Ev.seq (X := X) ?_ f
  have := Ev.blk (e := e) g
  rwa [ho] at this
theorem Er.outb {d e : Nat} {t u : AT} {st X : AS} {v : Option Value ⊕ Nat} (g : Ev d t st (.inr v) X) : Er (ev d (sq (bk e t) u) st) v X.2.2 := Er.of (Ev.out (Ev.blk (e := e) g) (fun z => by cases z))
theorem y_b0 {d : Nat} {l : AL} {h : AH} : ev d (lf (.ireturn) [2]) (l, [.int (nI 0)], h) = some (.inr (.inl (some (.int (nI 0)))), l, [], h) := y_bret (Or.inl rfl)
theorem y_b1 {d : Nat} {l : AL} {h : AH} : ev d (lf (.ireturn) [2]) (l, [.int (nI 1)], h) = some (.inr (.inl (some (.int (nI 1)))), l, [], h) := y_bret (Or.inr rfl)
theorem y_bb {d : Nat} {l : AL} {h : AH} {p : Prop} : ev d (lf (.ireturn) [2]) (l, [.int (bI p)], h) = some (.inr (.inl (some (.int (bI p)))), l, [], h) := y_bret (bI_or p)
