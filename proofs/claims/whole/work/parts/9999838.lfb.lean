/-! ===== the check of a program ===== -/
def lbB (o : Nat) (rt : Option FieldType) (Ls : List Nat) (pc : Nat) (i : Instr) (ds : List Nat) : Bool := match i with
  | .goto off => bt1 Ls pc off ds
  | .ifCond _ off => bt1 Ls pc off ds
  | .if_icmp _ off => bt1 Ls pc off ds
  | .ifnull off => bt1 Ls pc off ds
  | .ifnonnull off => bt1 Ls pc off ds
  | .ireturn => (match ds with
    | [1] => decide (rt = some .int)
    | [2] => decide (rt = some .boolean)
    | _ => true)
  | .lreturn => decide (rt = some .long)
  | .return_ => decide (rt = none)
  | .ldc idx => (match ds with
    | [0, v] => hasCon o idx v
    | [1, j] => decide ((o, idx, j) ∈ sAt)
    | _ => true)
  | .ldc_w idx => (match ds with
    | [0, v] => hasCon o idx v
    | _ => true)
  | .ldc2_w idx => (match ds with
    | [v] => hasConl o idx v
    | _ => true)
  | .invokevirtual idx => (match ds with
    | [y, n, ci] => hasC o idx 0 y n ci
    | [y] => hasC o idx 9 y 0 0 && decide (y = 900 ∨ y = 901)
    | _ => true)
  | .invokespecial idx => (match ds with
    | [y, n] => hasC o idx 2 y n 0
    | [y] => hasC o idx 9 y 0 0 && decide (y = 903)
    | _ => true)
  | .invokestatic idx => (match ds with
    | [y, n] => hasC o idx 1 y n 0
    | [y] => hasC o idx 9 y 0 0 && decide (y = 902 ∨ y = 904 ∨ y = 905)
    | _ => true)
  | _ => true
theorem lbB_spec {G : GG} {s : State} {o : Nat} {rt : Option FieldType} {Ls : List Nat} {pc : Nat} {i : Instr} {ds : List Nat} (hB : Bas G s) (h : lbB o rt Ls pc i ds = true) : LXb s mI thP o rt Ls pc i ds := by
  unfold LXb
  unfold lbB at h
  split at h
  · exact bt1_spec h
  · exact bt1_spec h
  · exact bt1_spec h
  · exact bt1_spec h
  · exact bt1_spec h
  · exact ⟨fun z => by subst z; exact of_decide_eq_true h, fun z => by subst z; exact of_decide_eq_true h⟩
  · exact of_decide_eq_true h
  · exact of_decide_eq_true h
  · exact ⟨fun v z => by subst z; exact hasCon_spec h, fun j z => by subst z; exact of_decide_eq_true h⟩
  · intro v z
    subst z
    exact hasCon_spec h
  · intro v z
    subst z
    exact hasConl_spec h
  · refine ⟨fun y n ci z => ?_, fun y z => ?_⟩
    · subst z
      obtain ⟨qi, w, wk, h1, h2, h3, h4, h5⟩ := hasC_spec hB (by decide) h
      simp only [cKind, Bool.and_eq_true, Bool.or_eq_true, Bool.not_eq_true', bne_iff_ne] at h3
      obtain ⟨⟨⟨⟨k1, k2⟩, k3⟩, k4⟩, k5⟩ := h3
      split at k1
      · rename_i C T N e1
        have k1 := beq_iff_eq.mp k1
        rcases h4 with h4 | ⟨h4, h6 | h6⟩
        · rw [h4] at k2; cases k2
        · exact absurd h6.1 k4
        · exact ⟨qi, C, T, N, h1, h2, e1, k1, lw_gw h4 rfl, by rw [← k1]; exact h6, h5 k3, k5.imp id isML_spec⟩
      · cases k1
    · subst z
      simp only [Bool.and_eq_true, decide_eq_true_eq] at h
      obtain ⟨nm, h1, h2⟩ := hasC9_spec h.1
      rcases h.2 with rfl | rfl
      · cases h1; exact Or.inl ⟨rfl, h2⟩
      · cases h1; exact Or.inr ⟨rfl, h2⟩
  · refine ⟨fun y n z => ?_, fun y z => ?_⟩
    · subst z
      obtain ⟨qi, w, wk, h1, h2, h3, h4, h5⟩ := hasC_spec hB (by decide) h
      simp only [cKind, Bool.and_eq_true, Bool.not_eq_true', beq_iff_eq, bne_iff_ne, decide_eq_true_eq] at h3
      obtain ⟨⟨⟨⟨k1, k2⟩, k3⟩, k4⟩, k5⟩ := h3
      rcases h4 with h4 | ⟨h4, -⟩
      · rw [h4] at k1; cases k1
      · exact ⟨qi, h1, h2, lw_gw h4 rfl, k2, k5, h5 k3, k4⟩
    · subst z
      simp only [Bool.and_eq_true, decide_eq_true_eq] at h
      obtain ⟨nm, h1, h2⟩ := hasC9_spec h.1
      have h3 := h.2
      subst h3
      cases h1
      exact ⟨rfl, h2⟩
  · refine ⟨fun y n z => ?_, fun y z => ?_⟩
    · subst z
      obtain ⟨qi, w, wk, h1, h2, h3, h4, h5⟩ := hasC_spec hB (by decide) h
      simp only [cKind, Bool.and_eq_true, Bool.or_eq_true, Bool.not_eq_true', bne_iff_ne] at h3
      obtain ⟨⟨k1, k2⟩, k3⟩ := h3
      rcases h4 with h4 | ⟨h4, -⟩
      · refine ⟨qi, h1, h2, lw_gw h4 rfl, fun hh z => ?_, k3.imp id isML_spec⟩
        rcases k2 with k2 | k2
        · rw [h5 k2] at z; cases z
        · exact isML_spec k2
      · rw [h4] at k1; cases k1
    · subst z
      simp only [Bool.and_eq_true, decide_eq_true_eq] at h
      obtain ⟨nm, h1, h2⟩ := hasC9_spec h.1
      rcases h.2 with rfl | rfl | rfl
      · cases h1; exact Or.inl ⟨rfl, h2⟩
      · cases h1; exact Or.inr (Or.inl ⟨rfl, h2⟩)
      · cases h1; exact Or.inr (Or.inr ⟨rfl, h2⟩)
  · rename_i n1 n2 n3 n4 n5 n6 n7 n8 n9 n10 n11 n12 n13 n14
    split
    · exact absurd rfl (n1 _)
    · exact absurd rfl (n2 _ _)
    · exact absurd rfl (n3 _ _)
    · exact absurd rfl (n4 _)
    · exact absurd rfl (n5 _)
    · exact absurd rfl n6
    · exact absurd rfl n7
    · exact absurd rfl n8
    · exact absurd rfl (n9 _)
    · exact absurd rfl (n10 _)
    · exact absurd rfl (n11 _)
    · exact absurd rfl (n12 _)
    · exact absurd rfl (n13 _)
    · exact absurd rfl (n14 _)
    · trivial
/-! switches -/
theorem lk_none : ∀ (ps : List (Int × Int)) (dflt k : Int), (ps.map (fun q => q.1)).findIdx? (fun q => q == k) = none → Op.lookupswitch.offset ps dflt k = dflt
  | [], _, _, _ => rfl
  | (a, o) :: r, dflt, k, h => by
    rw [Op.lookupswitch.offset_cons]
    simp only [List.map_cons, List.findIdx?_cons] at h
    by_cases e : a = k
    · rw [if_pos (by simpa using e)] at h; cases h
    · rw [if_neg (by simpa using e)] at h
      rw [if_neg e]
      refine lk_none r dflt k ?_
      simpa using h
theorem lk_some : ∀ (ps : List (Int × Int)) (dflt k : Int) (j : Nat), (ps.map (fun q => q.1)).findIdx? (fun q => q == k) = some j → ∃ q, ps[j]? = some q ∧ Op.lookupswitch.offset ps dflt k = q.2
  | [], _, _, _, h => by cases h
  | (a, o) :: r, dflt, k, j, h => by
    rw [Op.lookupswitch.offset_cons]
    simp only [List.map_cons, List.findIdx?_cons] at h
    by_cases e : a = k
    · rw [if_pos (by simpa using e)] at h
      cases h
      rw [if_pos e]
      exact ⟨(a, o), rfl, rfl⟩
    · rw [if_neg (by simpa using e)] at h
      rw [if_neg e]
      obtain ⟨j', h1, rfl⟩ := Option.map_eq_some_iff.mp h
      obtain ⟨q, h2, h3⟩ := lk_some r dflt k j' h1
      exact ⟨q, h2, h3⟩
def swB (Ls : List Nat) (pc : Nat) (ks : List Nat) (offs : List Int) : Bool := match ks, offs with
  | [], _ => true
  | k :: ks, off :: offs => btB Ls pc off k && swB Ls pc ks offs
  | _ :: _, [] => false
theorem swB_spec {Ls : List Nat} {pc : Nat} : ∀ (ks : List Nat) (offs : List Int), swB Ls pc ks offs = true → ∀ (j k : Nat), ks[j]? = some k → ∃ off, offs[j]? = some off ∧ BT Ls pc off k
  | [], _, _, _, _, h => by cases h
  | k :: ks, [], h, _, _, _ => by cases h
  | k :: ks, off :: offs, h, j, k', hk => by
    unfold swB at h
    simp only [Bool.and_eq_true] at h
    match j, hk with
    | 0, hk => cases hk; exact ⟨off, rfl, btB_spec h.1⟩
    | j + 1, hk => exact swB_spec ks offs h.2 j k' hk
def sxB (cc : ByteArray) (Ls : List Nat) (pc : Nat) (i : Instr) (ds : List Nat) : Option Nat := match decode cc pc with
  | .ok (i', len) => if i' = i then (match i, ds with
    | .tableswitch dflt _ _ offs, kd :: ks => if btB Ls pc dflt kd && swB Ls pc ks offs.toList then some (pc + len) else none
    | .lookupswitch dflt ps, kd :: ks => if btB Ls pc dflt kd && (ps.toList.zip (ps.toList.drop 1)).all (fun (a, next) => a.1 < next.1) && swB Ls pc ks (ps.toList.map (fun q => q.2)) then some (pc + len) else none
    | _, _ => none) else none
  | _ => none
theorem sxB_spec {cc : ByteArray} {Ls : List Nat} {pc : Nat} {i : Instr} {ds : List Nat} {nx : Nat} (h : sxB cc Ls pc i ds = some nx) : LXs cc Ls pc i ds nx := by
  unfold sxB at h
  split at h
  · rename_i i' len e
    split at h
    · rename_i ei
      subst ei
      split at h
      · rename_i dflt lo hi offs kd ks
        split at h
        · rename_i hc
          cases h
          simp only [Bool.and_eq_true] at hc
          refine ⟨len, kd, ks, e, rfl, rfl, btB_spec hc.1, fun j k hk => ?_⟩
          obtain ⟨off, h1, h2⟩ := swB_spec ks offs.toList hc.2 j k hk
          exact ⟨off, by rw [← Array.getElem?_toList]; exact h1, h2⟩
        · cases h
      · rename_i dflt ps kd ks
        split at h
        · rename_i hc
          cases h
          simp only [Bool.and_eq_true] at hc
          refine ⟨len, kd, ks, e, rfl, rfl, btB_spec hc.1.1, hc.1.2, fun x hx => lk_none _ _ _ hx, fun x j k hj hk => ?_⟩
          obtain ⟨q, h1, h2⟩ := lk_some ps.toList dflt x.toInt j hj
          obtain ⟨off, h3, h4⟩ := swB_spec ks _ hc.2 j k hk
          rw [List.getElem?_map, h1] at h3
          cases h3
          rw [h2]
          exact h4
        · cases h
      · cases h
    · cases h
  · cases h
def txB (cc : ByteArray) (o pc : Nat) (ds : List Nat) : Bool := match ds with
  | [E] => (match decode cc pc, decode cc (pc + 3), decode cc (pc + 4), decode cc (pc + 7), decode cc (pc + 10) with
    | .ok (.new ik, 3), .ok (.dup, 1), .ok (.ldc_w is, 3), .ok (.invokespecial ic, 3), .ok (.athrow, 1) => decide ((o, ik, is, ic, E) ∈ thT)
    | _, _, _, _, _ => false)
  | _ => true
theorem txB_spec {cc : ByteArray} {o pc : Nat} {ds : List Nat} (h : txB cc o pc ds = true) : LXt cc o pc ds := by
  intro E hE
  subst hE
  unfold txB at h
  simp only at h
  split at h
  · rename_i ik is ic e1 e2 e3 e4 e5
    exact ⟨ik, is, ic, e1, e2, e3, e4, e5, of_decide_eq_true h⟩
  · cases h
/-- the instruction at pc, and what the tables say of it: the place behind it -/
def lfB (cc : ByteArray) (o : Nat) (rt : Option FieldType) (ini wr : Bool) (Ls : List Nat) (pc : Nat) (i : Instr) (ds : List Nat) : Option Nat :=
  if plainI i = true then (if decide (decode cc pc = .ok (i, ilen i)) && lkB ini o i ds && lbB o rt Ls pc i ds then some (pc + ilen i) else none) else if i = .athrow then (if wr = false ∧ txB cc o pc ds = true then some (pc + 11) else none) else sxB cc Ls pc i ds
theorem lfB_spec {G : GG} {s : State} {args : Array Value} {meth : Method} {cc : ByteArray} {o : Nat} {rt : Option FieldType} {ini wr : Bool} {Ls : List Nat} {pc : Nat} {i : Instr} {ds : List Nat} {nx : Nat} (hts : ∀ w ∈ gw, w.before args s = true) (hB : Bas G s) (hm : ini = true → meth.name = "<init>") (h : lfB cc o rt ini wr Ls pc i ds = some nx) : LX s args meth cc mI thP o rt wr Ls pc i ds nx := by
  unfold lfB at h
  split at h
  · rename_i hp
    split at h
    · rename_i hc
      cases h
      simp only [Bool.and_eq_true, decide_eq_true_eq] at hc
      exact Or.inl ⟨hp, hc.1.1, rfl, lkB_spec hts hB hm hc.1.2, lbB_spec hB hc.2⟩
    · cases h
  · split at h
    · rename_i hi
      split at h
      · rename_i hc
        cases h
        exact Or.inr (Or.inl ⟨hi, hc.1, rfl, txB_spec hc.2⟩)
      · cases h
    · exact Or.inr (Or.inr (sxB_spec h))
